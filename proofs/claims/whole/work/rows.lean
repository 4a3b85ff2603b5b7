section
-- ===== PART A: goes FIRST, ahead of the names: the tables' words, and 'selects' of the private methods out of them =====
/-- a private method of a class that the tables say can be made, by its rows of tables_1 -/
def lw_okq (q : MethodName × Nat) : Prop := (q.1.cls ≠ "java/lang/invoke/MethodHandle" ∧ q.1.cls ≠ "java/lang/invoke/VarHandle") ∧ Cond.instantiable q.1.cls q.2 ∈ tables_1 ∧ Cond.privateMethod q.1 ∈ tables_1 ∧ Cond.instanceMethod q.1 ∈ tables_1
theorem lw_p0 : lw_okq (⟨"TowerPipers", "isPiper", "(I)Z"⟩, 13) := ⟨⟨by decide +kernel, by decide +kernel⟩, List.mem_of_getElem? (i := 15) (by decide +kernel), List.mem_of_getElem? (i := 267) (by decide +kernel), List.mem_of_getElem? (i := 268) (by decide +kernel)⟩
theorem lw_p1 : lw_okq (⟨"TowerPipers", "freeCall", "()I"⟩, 13) := ⟨⟨by decide +kernel, by decide +kernel⟩, List.mem_of_getElem? (i := 15) (by decide +kernel), List.mem_of_getElem? (i := 283) (by decide +kernel), List.mem_of_getElem? (i := 284) (by decide +kernel)⟩
theorem lw_p2 : lw_okq (⟨"TowerPipers", "isCall", "(I)Z"⟩, 13) := ⟨⟨by decide +kernel, by decide +kernel⟩, List.mem_of_getElem? (i := 15) (by decide +kernel), List.mem_of_getElem? (i := 304) (by decide +kernel), List.mem_of_getElem? (i := 305) (by decide +kernel)⟩
theorem lw_p3 : lw_okq (⟨"TowerPipers", "planOfToday", "()LTowerPipers$Plan;"⟩, 13) := ⟨⟨by decide +kernel, by decide +kernel⟩, List.mem_of_getElem? (i := 15) (by decide +kernel), List.mem_of_getElem? (i := 316) (by decide +kernel), List.mem_of_getElem? (i := 317) (by decide +kernel)⟩
theorem lw_p4 : lw_okq (⟨"TowerPipers$Plan", "hasPieces", "([LTowerPipers$Call;[II)Z"⟩, 6) := ⟨⟨by decide +kernel, by decide +kernel⟩, List.mem_of_getElem? (i := 56) (by decide +kernel), List.mem_of_getElem? (i := 339) (by decide +kernel), List.mem_of_getElem? (i := 340) (by decide +kernel)⟩
theorem lw_p5 : lw_okq (⟨"TowerPipers$Cast", "markTakers", "([LTowerPipers$Piper;I)V"⟩, 5) := ⟨⟨by decide +kernel, by decide +kernel⟩, List.mem_of_getElem? (i := 62) (by decide +kernel), List.mem_of_getElem? (i := 374) (by decide +kernel), List.mem_of_getElem? (i := 375) (by decide +kernel)⟩
theorem lw_p6 : lw_okq (⟨"TowerPipers$Cast", "markBars", "([LTowerPipers$Call;II)V"⟩, 5) := ⟨⟨by decide +kernel, by decide +kernel⟩, List.mem_of_getElem? (i := 62) (by decide +kernel), List.mem_of_getElem? (i := 383) (by decide +kernel), List.mem_of_getElem? (i := 384) (by decide +kernel)⟩
theorem lw_p7 : lw_okq (⟨"TowerPipers$Cast", "allParts", "()I"⟩, 5) := ⟨⟨by decide +kernel, by decide +kernel⟩, List.mem_of_getElem? (i := 62) (by decide +kernel), List.mem_of_getElem? (i := 394) (by decide +kernel), List.mem_of_getElem? (i := 395) (by decide +kernel)⟩
theorem lw_p8 : lw_okq (⟨"TowerPipers$Cast", "tiedTo", "(II)I"⟩, 5) := ⟨⟨by decide +kernel, by decide +kernel⟩, List.mem_of_getElem? (i := 62) (by decide +kernel), List.mem_of_getElem? (i := 398) (by decide +kernel), List.mem_of_getElem? (i := 399) (by decide +kernel)⟩
theorem lw_p9 : lw_okq (⟨"TowerPipers$Cast", "canFill", "(II)Z"⟩, 5) := ⟨⟨by decide +kernel, by decide +kernel⟩, List.mem_of_getElem? (i := 62) (by decide +kernel), List.mem_of_getElem? (i := 403) (by decide +kernel), List.mem_of_getElem? (i := 404) (by decide +kernel)⟩
theorem lw_p10 : lw_okq (⟨"TowerPipers$Cast", "hardestOf", "(I)I"⟩, 5) := ⟨⟨by decide +kernel, by decide +kernel⟩, List.mem_of_getElem? (i := 62) (by decide +kernel), List.mem_of_getElem? (i := 407) (by decide +kernel), List.mem_of_getElem? (i := 408) (by decide +kernel)⟩
theorem lw_p11 : lw_okq (⟨"TowerPipers$Cast", "takersOf", "(I)I"⟩, 5) := ⟨⟨by decide +kernel, by decide +kernel⟩, List.mem_of_getElem? (i := 62) (by decide +kernel), List.mem_of_getElem? (i := 411) (by decide +kernel), List.mem_of_getElem? (i := 412) (by decide +kernel)⟩
theorem lw_p12 : lw_okq (⟨"TowerPipers$Cast", "isWorthTrying", "(III)Z"⟩, 5) := ⟨⟨by decide +kernel, by decide +kernel⟩, List.mem_of_getElem? (i := 62) (by decide +kernel), List.mem_of_getElem? (i := 421) (by decide +kernel), List.mem_of_getElem? (i := 422) (by decide +kernel)⟩
theorem lw_p13 : lw_okq (⟨"TowerPipers$Cast", "canGive", "(IIII)Z"⟩, 5) := ⟨⟨by decide +kernel, by decide +kernel⟩, List.mem_of_getElem? (i := 62) (by decide +kernel), List.mem_of_getElem? (i := 425) (by decide +kernel), List.mem_of_getElem? (i := 426) (by decide +kernel)⟩
theorem lw_p14 : lw_okq (⟨"TowerPipers$Plan", "takeTurn", "(I)V"⟩, 6) := ⟨⟨by decide +kernel, by decide +kernel⟩, List.mem_of_getElem? (i := 56) (by decide +kernel), List.mem_of_getElem? (i := 429) (by decide +kernel), List.mem_of_getElem? (i := 430) (by decide +kernel)⟩
theorem lw_p15 : lw_okq (⟨"TowerPipers", "monthOfToday", "()I"⟩, 13) := ⟨⟨by decide +kernel, by decide +kernel⟩, List.mem_of_getElem? (i := 15) (by decide +kernel), List.mem_of_getElem? (i := 437) (by decide +kernel), List.mem_of_getElem? (i := 438) (by decide +kernel)⟩
def lw_privs_1 : List (MethodName × Nat) := [(⟨"TowerPipers", "isPiper", "(I)Z"⟩, 13), (⟨"TowerPipers", "freeCall", "()I"⟩, 13), (⟨"TowerPipers", "isCall", "(I)Z"⟩, 13), (⟨"TowerPipers", "planOfToday", "()LTowerPipers$Plan;"⟩, 13), (⟨"TowerPipers$Plan", "hasPieces", "([LTowerPipers$Call;[II)Z"⟩, 6), (⟨"TowerPipers$Cast", "markTakers", "([LTowerPipers$Piper;I)V"⟩, 5), (⟨"TowerPipers$Cast", "markBars", "([LTowerPipers$Call;II)V"⟩, 5), (⟨"TowerPipers$Cast", "allParts", "()I"⟩, 5), (⟨"TowerPipers$Cast", "tiedTo", "(II)I"⟩, 5), (⟨"TowerPipers$Cast", "canFill", "(II)Z"⟩, 5), (⟨"TowerPipers$Cast", "hardestOf", "(I)I"⟩, 5), (⟨"TowerPipers$Cast", "takersOf", "(I)I"⟩, 5), (⟨"TowerPipers$Cast", "isWorthTrying", "(III)Z"⟩, 5), (⟨"TowerPipers$Cast", "canGive", "(IIII)Z"⟩, 5), (⟨"TowerPipers$Plan", "takeTurn", "(I)V"⟩, 6), (⟨"TowerPipers", "monthOfToday", "()I"⟩, 13)]
theorem lw_r1 : ∀ q ∈ lw_privs_1, lw_okq q := List.forall_mem_cons.mpr ⟨lw_p0, List.forall_mem_cons.mpr ⟨lw_p1, List.forall_mem_cons.mpr ⟨lw_p2, List.forall_mem_cons.mpr ⟨lw_p3, List.forall_mem_cons.mpr ⟨lw_p4, List.forall_mem_cons.mpr ⟨lw_p5, List.forall_mem_cons.mpr ⟨lw_p6, List.forall_mem_cons.mpr ⟨lw_p7, List.forall_mem_cons.mpr ⟨lw_p8, List.forall_mem_cons.mpr ⟨lw_p9, List.forall_mem_cons.mpr ⟨lw_p10, List.forall_mem_cons.mpr ⟨lw_p11, List.forall_mem_cons.mpr ⟨lw_p12, List.forall_mem_cons.mpr ⟨lw_p13, List.forall_mem_cons.mpr ⟨lw_p14, List.forall_mem_cons.mpr ⟨lw_p15, fun _ h => absurd h List.not_mem_nil⟩⟩⟩⟩⟩⟩⟩⟩⟩⟩⟩⟩⟩⟩⟩⟩
theorem lw_p16 : lw_okq (⟨"TowerPipers$Plan", "longestUnheard", "([LTowerPipers$Tune;II)I"⟩, 6) := ⟨⟨by decide +kernel, by decide +kernel⟩, List.mem_of_getElem? (i := 56) (by decide +kernel), List.mem_of_getElem? (i := 445) (by decide +kernel), List.mem_of_getElem? (i := 446) (by decide +kernel)⟩
theorem lw_p17 : lw_okq (⟨"TowerPipers", "fundShare", "(I)I"⟩, 13) := ⟨⟨by decide +kernel, by decide +kernel⟩, List.mem_of_getElem? (i := 15) (by decide +kernel), List.mem_of_getElem? (i := 496) (by decide +kernel), List.mem_of_getElem? (i := 497) (by decide +kernel)⟩
theorem lw_p18 : lw_okq (⟨"TowerPipers", "piperShare", "(LTowerPipers$Plan;II)I"⟩, 13) := ⟨⟨by decide +kernel, by decide +kernel⟩, List.mem_of_getElem? (i := 15) (by decide +kernel), List.mem_of_getElem? (i := 501) (by decide +kernel), List.mem_of_getElem? (i := 502) (by decide +kernel)⟩
theorem lw_p19 : lw_okq (⟨"TowerPipers", "partOfTwo", "(III)I"⟩, 13) := ⟨⟨by decide +kernel, by decide +kernel⟩, List.mem_of_getElem? (i := 15) (by decide +kernel), List.mem_of_getElem? (i := 505) (by decide +kernel), List.mem_of_getElem? (i := 506) (by decide +kernel)⟩
theorem lw_p20 : lw_okq (⟨"TowerPipers", "settle", "(LTowerPipers$Plan;I)V"⟩, 13) := ⟨⟨by decide +kernel, by decide +kernel⟩, List.mem_of_getElem? (i := 15) (by decide +kernel), List.mem_of_getElem? (i := 516) (by decide +kernel), List.mem_of_getElem? (i := 517) (by decide +kernel)⟩
theorem lw_p21 : lw_okq (⟨"TowerPipers", "fineTheWell", "()V"⟩, 13) := ⟨⟨by decide +kernel, by decide +kernel⟩, List.mem_of_getElem? (i := 15) (by decide +kernel), List.mem_of_getElem? (i := 521) (by decide +kernel), List.mem_of_getElem? (i := 522) (by decide +kernel)⟩
theorem lw_p22 : lw_okq (⟨"TowerPipers", "payTheOld", "()V"⟩, 13) := ⟨⟨by decide +kernel, by decide +kernel⟩, List.mem_of_getElem? (i := 15) (by decide +kernel), List.mem_of_getElem? (i := 529) (by decide +kernel), List.mem_of_getElem? (i := 530) (by decide +kernel)⟩
theorem lw_p23 : lw_okq (⟨"TowerPipers", "callCount", "()I"⟩, 13) := ⟨⟨by decide +kernel, by decide +kernel⟩, List.mem_of_getElem? (i := 15) (by decide +kernel), List.mem_of_getElem? (i := 568) (by decide +kernel), List.mem_of_getElem? (i := 569) (by decide +kernel)⟩
theorem lw_p24 : lw_okq (⟨"TowerPipersModel", "push", "(I)V"⟩, 29) := ⟨⟨by decide +kernel, by decide +kernel⟩, List.mem_of_getElem? (i := 572) (by decide +kernel), List.mem_of_getElem? (i := 674) (by decide +kernel), List.mem_of_getElem? (i := 675) (by decide +kernel)⟩
theorem lw_p25 : lw_okq (⟨"TowerPipersModel", "reads", "(I)I"⟩, 29) := ⟨⟨by decide +kernel, by decide +kernel⟩, List.mem_of_getElem? (i := 572) (by decide +kernel), List.mem_of_getElem? (i := 682) (by decide +kernel), List.mem_of_getElem? (i := 683) (by decide +kernel)⟩
theorem lw_p26 : lw_okq (⟨"TowerPipersModel", "at", "(II)I"⟩, 29) := ⟨⟨by decide +kernel, by decide +kernel⟩, List.mem_of_getElem? (i := 572) (by decide +kernel), List.mem_of_getElem? (i := 686) (by decide +kernel), List.mem_of_getElem? (i := 687) (by decide +kernel)⟩
theorem lw_p27 : lw_okq (⟨"TowerPipersModel", "isPiper", "(I)Z"⟩, 29) := ⟨⟨by decide +kernel, by decide +kernel⟩, List.mem_of_getElem? (i := 572) (by decide +kernel), List.mem_of_getElem? (i := 707) (by decide +kernel), List.mem_of_getElem? (i := 708) (by decide +kernel)⟩
theorem lw_p28 : lw_okq (⟨"TowerPipersModel", "isCall", "(I)Z"⟩, 29) := ⟨⟨by decide +kernel, by decide +kernel⟩, List.mem_of_getElem? (i := 572) (by decide +kernel), List.mem_of_getElem? (i := 726) (by decide +kernel), List.mem_of_getElem? (i := 727) (by decide +kernel)⟩
theorem lw_p29 : lw_okq (⟨"TowerPipersModel", "works", "()I"⟩, 29) := ⟨⟨by decide +kernel, by decide +kernel⟩, List.mem_of_getElem? (i := 572) (by decide +kernel), List.mem_of_getElem? (i := 738) (by decide +kernel), List.mem_of_getElem? (i := 739) (by decide +kernel)⟩
theorem lw_p30 : lw_okq (⟨"TowerPipersModel", "sorts", "()V"⟩, 29) := ⟨⟨by decide +kernel, by decide +kernel⟩, List.mem_of_getElem? (i := 572) (by decide +kernel), List.mem_of_getElem? (i := 742) (by decide +kernel), List.mem_of_getElem? (i := 743) (by decide +kernel)⟩
theorem lw_p31 : lw_okq (⟨"TowerPipersModel", "of", "(II)I"⟩, 29) := ⟨⟨by decide +kernel, by decide +kernel⟩, List.mem_of_getElem? (i := 572) (by decide +kernel), List.mem_of_getElem? (i := 746) (by decide +kernel), List.mem_of_getElem? (i := 747) (by decide +kernel)⟩
def lw_privs_2 : List (MethodName × Nat) := [(⟨"TowerPipers$Plan", "longestUnheard", "([LTowerPipers$Tune;II)I"⟩, 6), (⟨"TowerPipers", "fundShare", "(I)I"⟩, 13), (⟨"TowerPipers", "piperShare", "(LTowerPipers$Plan;II)I"⟩, 13), (⟨"TowerPipers", "partOfTwo", "(III)I"⟩, 13), (⟨"TowerPipers", "settle", "(LTowerPipers$Plan;I)V"⟩, 13), (⟨"TowerPipers", "fineTheWell", "()V"⟩, 13), (⟨"TowerPipers", "payTheOld", "()V"⟩, 13), (⟨"TowerPipers", "callCount", "()I"⟩, 13), (⟨"TowerPipersModel", "push", "(I)V"⟩, 29), (⟨"TowerPipersModel", "reads", "(I)I"⟩, 29), (⟨"TowerPipersModel", "at", "(II)I"⟩, 29), (⟨"TowerPipersModel", "isPiper", "(I)Z"⟩, 29), (⟨"TowerPipersModel", "isCall", "(I)Z"⟩, 29), (⟨"TowerPipersModel", "works", "()I"⟩, 29), (⟨"TowerPipersModel", "sorts", "()V"⟩, 29), (⟨"TowerPipersModel", "of", "(II)I"⟩, 29)]
theorem lw_r2 : ∀ q ∈ lw_privs_2, lw_okq q := List.forall_mem_cons.mpr ⟨lw_p16, List.forall_mem_cons.mpr ⟨lw_p17, List.forall_mem_cons.mpr ⟨lw_p18, List.forall_mem_cons.mpr ⟨lw_p19, List.forall_mem_cons.mpr ⟨lw_p20, List.forall_mem_cons.mpr ⟨lw_p21, List.forall_mem_cons.mpr ⟨lw_p22, List.forall_mem_cons.mpr ⟨lw_p23, List.forall_mem_cons.mpr ⟨lw_p24, List.forall_mem_cons.mpr ⟨lw_p25, List.forall_mem_cons.mpr ⟨lw_p26, List.forall_mem_cons.mpr ⟨lw_p27, List.forall_mem_cons.mpr ⟨lw_p28, List.forall_mem_cons.mpr ⟨lw_p29, List.forall_mem_cons.mpr ⟨lw_p30, List.forall_mem_cons.mpr ⟨lw_p31, fun _ h => absurd h List.not_mem_nil⟩⟩⟩⟩⟩⟩⟩⟩⟩⟩⟩⟩⟩⟩⟩⟩
theorem lw_p32 : lw_okq (⟨"TowerPipersModel", "canBePlayed", "()Z"⟩, 29) := ⟨⟨by decide +kernel, by decide +kernel⟩, List.mem_of_getElem? (i := 572) (by decide +kernel), List.mem_of_getElem? (i := 750) (by decide +kernel), List.mem_of_getElem? (i := 751) (by decide +kernel)⟩
theorem lw_p33 : lw_okq (⟨"TowerPipersModel", "lists", "()V"⟩, 29) := ⟨⟨by decide +kernel, by decide +kernel⟩, List.mem_of_getElem? (i := 572) (by decide +kernel), List.mem_of_getElem? (i := 754) (by decide +kernel), List.mem_of_getElem? (i := 755) (by decide +kernel)⟩
theorem lw_p34 : lw_okq (⟨"TowerPipersModel", "hasPieces", "()Z"⟩, 29) := ⟨⟨by decide +kernel, by decide +kernel⟩, List.mem_of_getElem? (i := 572) (by decide +kernel), List.mem_of_getElem? (i := 761) (by decide +kernel), List.mem_of_getElem? (i := 762) (by decide +kernel)⟩
theorem lw_p35 : lw_okq (⟨"TowerPipersModel", "takes", "(I)Z"⟩, 29) := ⟨⟨by decide +kernel, by decide +kernel⟩, List.mem_of_getElem? (i := 572) (by decide +kernel), List.mem_of_getElem? (i := 765) (by decide +kernel), List.mem_of_getElem? (i := 766) (by decide +kernel)⟩
theorem lw_p36 : lw_okq (⟨"TowerPipersModel", "hinders", "(II)I"⟩, 29) := ⟨⟨by decide +kernel, by decide +kernel⟩, List.mem_of_getElem? (i := 572) (by decide +kernel), List.mem_of_getElem? (i := 769) (by decide +kernel), List.mem_of_getElem? (i := 770) (by decide +kernel)⟩
theorem lw_p37 : lw_okq (⟨"TowerPipersModel", "goes", "(II)Z"⟩, 29) := ⟨⟨by decide +kernel, by decide +kernel⟩, List.mem_of_getElem? (i := 572) (by decide +kernel), List.mem_of_getElem? (i := 773) (by decide +kernel), List.mem_of_getElem? (i := 774) (by decide +kernel)⟩
theorem lw_p38 : lw_okq (⟨"TowerPipersModel", "whoHas", "(II)I"⟩, 29) := ⟨⟨by decide +kernel, by decide +kernel⟩, List.mem_of_getElem? (i := 572) (by decide +kernel), List.mem_of_getElem? (i := 784) (by decide +kernel), List.mem_of_getElem? (i := 785) (by decide +kernel)⟩
theorem lw_p39 : lw_okq (⟨"TowerPipersModel", "tunesOf", "()V"⟩, 29) := ⟨⟨by decide +kernel, by decide +kernel⟩, List.mem_of_getElem? (i := 572) (by decide +kernel), List.mem_of_getElem? (i := 796) (by decide +kernel), List.mem_of_getElem? (i := 797) (by decide +kernel)⟩
theorem lw_p40 : lw_okq (⟨"TowerPipersModel", "month", "()I"⟩, 29) := ⟨⟨by decide +kernel, by decide +kernel⟩, List.mem_of_getElem? (i := 572) (by decide +kernel), List.mem_of_getElem? (i := 800) (by decide +kernel), List.mem_of_getElem? (i := 801) (by decide +kernel)⟩
theorem lw_p41 : lw_okq (⟨"TowerPipersModel", "fundOf", "(I)I"⟩, 29) := ⟨⟨by decide +kernel, by decide +kernel⟩, List.mem_of_getElem? (i := 572) (by decide +kernel), List.mem_of_getElem? (i := 808) (by decide +kernel), List.mem_of_getElem? (i := 809) (by decide +kernel)⟩
theorem lw_p42 : lw_okq (⟨"TowerPipersModel", "shareOf", "(II)I"⟩, 29) := ⟨⟨by decide +kernel, by decide +kernel⟩, List.mem_of_getElem? (i := 572) (by decide +kernel), List.mem_of_getElem? (i := 812) (by decide +kernel), List.mem_of_getElem? (i := 813) (by decide +kernel)⟩
theorem lw_p43 : lw_okq (⟨"TowerPipersModel", "fines", "()V"⟩, 29) := ⟨⟨by decide +kernel, by decide +kernel⟩, List.mem_of_getElem? (i := 572) (by decide +kernel), List.mem_of_getElem? (i := 820) (by decide +kernel), List.mem_of_getElem? (i := 821) (by decide +kernel)⟩
def lw_privs_3 : List (MethodName × Nat) := [(⟨"TowerPipersModel", "canBePlayed", "()Z"⟩, 29), (⟨"TowerPipersModel", "lists", "()V"⟩, 29), (⟨"TowerPipersModel", "hasPieces", "()Z"⟩, 29), (⟨"TowerPipersModel", "takes", "(I)Z"⟩, 29), (⟨"TowerPipersModel", "hinders", "(II)I"⟩, 29), (⟨"TowerPipersModel", "goes", "(II)Z"⟩, 29), (⟨"TowerPipersModel", "whoHas", "(II)I"⟩, 29), (⟨"TowerPipersModel", "tunesOf", "()V"⟩, 29), (⟨"TowerPipersModel", "month", "()I"⟩, 29), (⟨"TowerPipersModel", "fundOf", "(I)I"⟩, 29), (⟨"TowerPipersModel", "shareOf", "(II)I"⟩, 29), (⟨"TowerPipersModel", "fines", "()V"⟩, 29)]
theorem lw_r3 : ∀ q ∈ lw_privs_3, lw_okq q := List.forall_mem_cons.mpr ⟨lw_p32, List.forall_mem_cons.mpr ⟨lw_p33, List.forall_mem_cons.mpr ⟨lw_p34, List.forall_mem_cons.mpr ⟨lw_p35, List.forall_mem_cons.mpr ⟨lw_p36, List.forall_mem_cons.mpr ⟨lw_p37, List.forall_mem_cons.mpr ⟨lw_p38, List.forall_mem_cons.mpr ⟨lw_p39, List.forall_mem_cons.mpr ⟨lw_p40, List.forall_mem_cons.mpr ⟨lw_p41, List.forall_mem_cons.mpr ⟨lw_p42, List.forall_mem_cons.mpr ⟨lw_p43, fun _ h => absurd h List.not_mem_nil⟩⟩⟩⟩⟩⟩⟩⟩⟩⟩⟩⟩
def lw_privs : List (MethodName × Nat) := lw_privs_1 ++ (lw_privs_2 ++ (lw_privs_3))
def lw_tbl : List Cond := k2_sels lw_privs ++ tables_1
theorem lw_privs_ok : ∀ q ∈ lw_privs, lw_okq q := by
  show ∀ q ∈ lw_privs_1 ++ (lw_privs_2 ++ (lw_privs_3)), lw_okq q
  exact List.forall_mem_append.mpr ⟨lw_r1, List.forall_mem_append.mpr ⟨lw_r2, lw_r3⟩⟩
end
section
def RX0 : String := "TowerPipers$Call"
def TX0 : u_T := fun k => match k with
  | 0 => ("TowerPipers$Call", "facts", "[I", true)
  | _ => ("TowerPipers$Call", "there", "Z", false)
def tyX0 : Nat → FieldType := fun k => match k with
  | 0 => .array .int
  | _ => .boolean
abbrev wsX00 : List Cond := u_ws RX0 TX0 2
theorem nmX0 : ∀ a, a < 2 → ∀ b, b < 2 → a ≠ b → (TX0 a).2.1 ≠ (TX0 b).2.1 := by decide +kernel
theorem tyX0_ok : ∀ k, k < 2 → parseFieldDescriptor (TX0 k).2.2.1 = some (tyX0 k) := by decide +kernel
abbrev cX0_init : ByteArray := prog_2_method_1_code
def yX0_init : MethodName := ⟨RX0, "<init>", "()V"⟩
abbrev cX0_canBe : ByteArray := prog_2_method_2_code
def yX0_canBe : MethodName := ⟨RX0, "canBe", "([I)Z"⟩
abbrev cX0_come : ByteArray := prog_2_method_3_code
def yX0_come : MethodName := ⟨RX0, "come", "([I)V"⟩
abbrev cX0_go : ByteArray := prog_2_method_4_code
def yX0_go : MethodName := ⟨RX0, "go", "()V"⟩
abbrev cX0_fact : ByteArray := prog_2_method_5_code
def yX0_fact : MethodName := ⟨RX0, "fact", "(I)I"⟩
abbrev cX0_isOfOrder : ByteArray := prog_2_method_6_code
def yX0_isOfOrder : MethodName := ⟨RX0, "isOfOrder", "(I)Z"⟩
abbrev cX0_end : ByteArray := prog_2_method_7_code
def yX0_end : MethodName := ⟨RX0, "end", "()I"⟩
abbrev cX0_isOnAt : ByteArray := prog_2_method_8_code
def yX0_isOnAt : MethodName := ⟨RX0, "isOnAt", "(I)Z"⟩
abbrev cX0_partCount : ByteArray := prog_2_method_9_code
def yX0_partCount : MethodName := ⟨RX0, "partCount", "()I"⟩
abbrev cX0_partsWith : ByteArray := prog_2_method_10_code
def yX0_partsWith : MethodName := ⟨RX0, "partsWith", "(I)I"⟩
abbrev cX0_clashesWith : ByteArray := prog_2_method_11_code
def yX0_clashesWith : MethodName := ⟨RX0, "clashesWith", "(LTowerPipers$Call;I)Z"⟩
def RX1 : String := "TowerPipers$Cast"
def TX1 : u_T := fun k => match k with
  | 0 => ("TowerPipers$Cast", "openTo", "[I", true)
  | 1 => ("TowerPipers$Cast", "bars", "[I", true)
  | 2 => ("TowerPipers$Cast", "callOf", "[I", true)
  | 3 => ("TowerPipers$Cast", "piperFor", "[I", true)
  | _ => ("TowerPipers$Cast", "partCount", "I", false)
def tyX1 : Nat → FieldType := fun k => match k with
  | 0 => .array .int
  | 1 => .array .int
  | 2 => .array .int
  | 3 => .array .int
  | _ => .int
abbrev wsX10 : List Cond := u_ws RX1 TX1 5
theorem nmX1 : ∀ a, a < 5 → ∀ b, b < 5 → a ≠ b → (TX1 a).2.1 ≠ (TX1 b).2.1 := by decide +kernel
theorem tyX1_ok : ∀ k, k < 5 → parseFieldDescriptor (TX1 k).2.2.1 = some (tyX1 k) := by decide +kernel
abbrev cX1_init : ByteArray := prog_3_method_1_code
def yX1_init : MethodName := ⟨RX1, "<init>", "()V"⟩
abbrev cX1_clear : ByteArray := prog_3_method_2_code
def yX1_clear : MethodName := ⟨RX1, "clear", "()V"⟩
abbrev cX1_piperOf : ByteArray := prog_3_method_3_code
def yX1_piperOf : MethodName := ⟨RX1, "piperOf", "(II)I"⟩
abbrev cX1_partsOf : ByteArray := prog_3_method_4_code
def yX1_partsOf : MethodName := ⟨RX1, "partsOf", "(I)I"⟩
abbrev cX1_admit : ByteArray := prog_3_method_5_code
def yX1_admit : MethodName := ⟨RX1, "admit", "([LTowerPipers$Call;I[LTowerPipers$Piper;I)Z"⟩
abbrev cX1_allParts : ByteArray := prog_3_method_6_code
def yX1_allParts : MethodName := ⟨RX1, "allParts", "()I"⟩
abbrev cX1_markTakers : ByteArray := prog_3_method_7_code
def yX1_markTakers : MethodName := ⟨RX1, "markTakers", "([LTowerPipers$Piper;I)V"⟩
abbrev cX1_markBars : ByteArray := prog_3_method_8_code
def yX1_markBars : MethodName := ⟨RX1, "markBars", "([LTowerPipers$Call;II)V"⟩
abbrev cX1_lowerAll : ByteArray := prog_3_method_9_code
def yX1_lowerAll : MethodName := ⟨RX1, "lowerAll", "()V"⟩
abbrev cX1_tiedTo : ByteArray := prog_3_method_10_code
def yX1_tiedTo : MethodName := ⟨RX1, "tiedTo", "(II)I"⟩
abbrev cX1_canFill : ByteArray := prog_3_method_11_code
def yX1_canFill : MethodName := ⟨RX1, "canFill", "(II)Z"⟩
abbrev cX1_canGive : ByteArray := prog_3_method_12_code
def yX1_canGive : MethodName := ⟨RX1, "canGive", "(IIII)Z"⟩
abbrev cX1_isWorthTrying : ByteArray := prog_3_method_13_code
def yX1_isWorthTrying : MethodName := ⟨RX1, "isWorthTrying", "(III)Z"⟩
abbrev cX1_hardestOf : ByteArray := prog_3_method_14_code
def yX1_hardestOf : MethodName := ⟨RX1, "hardestOf", "(I)I"⟩
abbrev cX1_takersOf : ByteArray := prog_3_method_15_code
def yX1_takersOf : MethodName := ⟨RX1, "takersOf", "(I)I"⟩
def RX2 : String := "TowerPipers$Piper"
def TX2 : u_T := fun k => match k with
  | 0 => ("TowerPipers$Piper", "rank", "I", false)
  | 1 => ("TowerPipers$Piper", "plays", "I", false)
  | 2 => ("TowerPipers$Piper", "state", "I", false)
  | _ => ("TowerPipers$Piper", "wages", "I", false)
def tyX2 : Nat → FieldType := fun k => match k with
  | 0 => .int
  | 1 => .int
  | 2 => .int
  | _ => .int
abbrev wsX20 : List Cond := u_ws RX2 TX2 4
theorem nmX2 : ∀ a, a < 4 → ∀ b, b < 4 → a ≠ b → (TX2 a).2.1 ≠ (TX2 b).2.1 := by decide +kernel
theorem tyX2_ok : ∀ k, k < 4 → parseFieldDescriptor (TX2 k).2.2.1 = some (tyX2 k) := by decide +kernel
abbrev cX2_init : ByteArray := prog_4_method_1_code
def yX2_init : MethodName := ⟨RX2, "<init>", "()V"⟩
abbrev cX2_join : ByteArray := prog_4_method_2_code
def yX2_join : MethodName := ⟨RX2, "join", "(II)V"⟩
abbrev cX2_canPlay : ByteArray := prog_4_method_3_code
def yX2_canPlay : MethodName := ⟨RX2, "canPlay", "(I)Z"⟩
def RX3 : String := "TowerPipers$Plan"
def TX3 : u_T := fun k => match k with
  | 0 => ("TowerPipers$Plan", "cast", "LTowerPipers$Cast;", true)
  | 1 => ("TowerPipers$Plan", "turns", "[I", true)
  | 2 => ("TowerPipers$Plan", "chosenTunes", "[I", true)
  | 3 => ("TowerPipers$Plan", "lastTurns", "[I", true)
  | 4 => ("TowerPipers$Plan", "turnCount", "I", false)
  | _ => ("TowerPipers$Plan", "bits", "I", false)
def tyX3 : Nat → FieldType := fun k => match k with
  | 0 => .object "TowerPipers$Cast"
  | 1 => .array .int
  | 2 => .array .int
  | 3 => .array .int
  | 4 => .int
  | _ => .int
abbrev wsX30 : List Cond := u_ws RX3 TX3 6
theorem nmX3 : ∀ a, a < 6 → ∀ b, b < 6 → a ≠ b → (TX3 a).2.1 ≠ (TX3 b).2.1 := by decide +kernel
theorem tyX3_ok : ∀ k, k < 6 → parseFieldDescriptor (TX3 k).2.2.1 = some (tyX3 k) := by decide +kernel
abbrev cX3_init : ByteArray := prog_5_method_1_code
def yX3_init : MethodName := ⟨RX3, "<init>", "()V"⟩
abbrev cX3_playedBits : ByteArray := prog_5_method_2_code
def yX3_playedBits : MethodName := ⟨RX3, "playedBits", "()I"⟩
abbrev cX3_has : ByteArray := prog_5_method_3_code
def yX3_has : MethodName := ⟨RX3, "has", "(I)Z"⟩
abbrev cX3_piperOf : ByteArray := prog_5_method_4_code
def yX3_piperOf : MethodName := ⟨RX3, "piperOf", "(II)I"⟩
abbrev cX3_tuneOf : ByteArray := prog_5_method_5_code
def yX3_tuneOf : MethodName := ⟨RX3, "tuneOf", "(I)I"⟩
abbrev cX3_partsOf : ByteArray := prog_5_method_6_code
def yX3_partsOf : MethodName := ⟨RX3, "partsOf", "(I)I"⟩
abbrev cX3_castCalls : ByteArray := prog_5_method_7_code
def yX3_castCalls : MethodName := ⟨RX3, "castCalls", "([LTowerPipers$Call;[LTowerPipers$Piper;[II)V"⟩
abbrev cX3_takeTurn : ByteArray := prog_5_method_8_code
def yX3_takeTurn : MethodName := ⟨RX3, "takeTurn", "(I)V"⟩
abbrev cX3_hasPieces : ByteArray := prog_5_method_9_code
def yX3_hasPieces : MethodName := ⟨RX3, "hasPieces", "([LTowerPipers$Call;[II)Z"⟩
abbrev cX3_hasPiecesAt : ByteArray := prog_5_method_10_code
def yX3_hasPiecesAt : MethodName := ⟨RX3, "hasPiecesAt", "([LTowerPipers$Call;[III)Z"⟩
abbrev cX3_chooseTunes : ByteArray := prog_5_method_11_code
def yX3_chooseTunes : MethodName := ⟨RX3, "chooseTunes", "([LTowerPipers$Call;[LTowerPipers$Tune;II)V"⟩
abbrev cX3_hearTunes : ByteArray := prog_5_method_12_code
def yX3_hearTunes : MethodName := ⟨RX3, "hearTunes", "([LTowerPipers$Tune;)V"⟩
abbrev cX3_longestUnheard : ByteArray := prog_5_method_13_code
def yX3_longestUnheard : MethodName := ⟨RX3, "longestUnheard", "([LTowerPipers$Tune;II)I"⟩
def RX4 : String := "TowerPipers$Tape"
def TX4 : u_T := fun k => match k with
  | 0 => ("TowerPipers$Tape", "bytes", "[I", true)
  | _ => ("TowerPipers$Tape", "length", "I", false)
def tyX4 : Nat → FieldType := fun k => match k with
  | 0 => .array .int
  | _ => .int
abbrev wsX40 : List Cond := u_ws RX4 TX4 2
theorem nmX4 : ∀ a, a < 2 → ∀ b, b < 2 → a ≠ b → (TX4 a).2.1 ≠ (TX4 b).2.1 := by decide +kernel
theorem tyX4_ok : ∀ k, k < 2 → parseFieldDescriptor (TX4 k).2.2.1 = some (tyX4 k) := by decide +kernel
abbrev cX4_init : ByteArray := prog_6_method_1_code
def yX4_init : MethodName := ⟨RX4, "<init>", "()V"⟩
abbrev cX4_size : ByteArray := prog_6_method_2_code
def yX4_size : MethodName := ⟨RX4, "size", "()I"⟩
abbrev cX4_hasRoom : ByteArray := prog_6_method_3_code
def yX4_hasRoom : MethodName := ⟨RX4, "hasRoom", "()Z"⟩
abbrev cX4_put : ByteArray := prog_6_method_4_code
def yX4_put : MethodName := ⟨RX4, "put", "(I)V"⟩
abbrev cX4_byteAt : ByteArray := prog_6_method_5_code
def yX4_byteAt : MethodName := ⟨RX4, "byteAt", "(I)I"⟩
abbrev cX4_empty : ByteArray := prog_6_method_6_code
def yX4_empty : MethodName := ⟨RX4, "empty", "()V"⟩
def RX5 : String := "TowerPipers$TownWord"
def TX5 : u_T := fun k => match k with
  | 0 => ("TowerPipers$TownWord", "numbers", "[I", true)
  | _ => ("TowerPipers$TownWord", "coming", "[I", true)
def tyX5 : Nat → FieldType := fun k => match k with
  | 0 => .array .int
  | _ => .array .int
abbrev wsX50 : List Cond := u_ws RX5 TX5 2
theorem nmX5 : ∀ a, a < 2 → ∀ b, b < 2 → a ≠ b → (TX5 a).2.1 ≠ (TX5 b).2.1 := by decide +kernel
theorem tyX5_ok : ∀ k, k < 2 → parseFieldDescriptor (TX5 k).2.2.1 = some (tyX5 k) := by decide +kernel
abbrev cX5_init : ByteArray := prog_7_method_1_code
def yX5_init : MethodName := ⟨RX5, "<init>", "()V"⟩
abbrev cX5_number : ByteArray := prog_7_method_2_code
def yX5_number : MethodName := ⟨RX5, "number", "(I)I"⟩
abbrev cX5_read : ByteArray := prog_7_method_3_code
def yX5_read : MethodName := ⟨RX5, "read", "(LTowerPipers$Tape;I)I"⟩
abbrev cX5_faultOfNumber : ByteArray := prog_7_method_4_code
def yX5_faultOfNumber : MethodName := ⟨RX5, "faultOfNumber", "(LTowerPipers$Tape;IIIZ)I"⟩
abbrev cX5_kindAt : ByteArray := prog_7_method_5_code
def yX5_kindAt : MethodName := ⟨RX5, "kindAt", "(LTowerPipers$Tape;II)I"⟩
abbrev cX5_isDigit : ByteArray := prog_7_method_6_code
def yX5_isDigit : MethodName := ⟨RX5, "isDigit", "(LTowerPipers$Tape;II)Z"⟩
abbrev cX5_endOfDigits : ByteArray := prog_7_method_7_code
def yX5_endOfDigits : MethodName := ⟨RX5, "endOfDigits", "(LTowerPipers$Tape;II)I"⟩
abbrev cX5_numberBetween : ByteArray := prog_7_method_8_code
def yX5_numberBetween : MethodName := ⟨RX5, "numberBetween", "(LTowerPipers$Tape;II)I"⟩
def RX6 : String := "TowerPipers$Tune"
def TX6 : u_T := fun k => match k with
  | 0 => ("TowerPipers$Tune", "occasions", "I", false)
  | 1 => ("TowerPipers$Tune", "months", "I", false)
  | _ => ("TowerPipers$Tune", "lastTurn", "I", false)
def tyX6 : Nat → FieldType := fun k => match k with
  | 0 => .int
  | 1 => .int
  | _ => .int
abbrev wsX60 : List Cond := u_ws RX6 TX6 3
theorem nmX6 : ∀ a, a < 3 → ∀ b, b < 3 → a ≠ b → (TX6 a).2.1 ≠ (TX6 b).2.1 := by decide +kernel
theorem tyX6_ok : ∀ k, k < 3 → parseFieldDescriptor (TX6 k).2.2.1 = some (tyX6 k) := by decide +kernel
abbrev cX6_init : ByteArray := prog_8_method_1_code
def yX6_init : MethodName := ⟨RX6, "<init>", "()V"⟩
abbrev cX6_learn : ByteArray := prog_8_method_2_code
def yX6_learn : MethodName := ⟨RX6, "learn", "(II)V"⟩
abbrev cX6_fits : ByteArray := prog_8_method_3_code
def yX6_fits : MethodName := ⟨RX6, "fits", "(II)Z"⟩
abbrev cX6_dayHeard : ByteArray := prog_8_method_4_code
def yX6_dayHeard : MethodName := ⟨RX6, "dayHeard", "()I"⟩
def RX7 : String := "TowerPipers"
def TX7 : u_T := fun k => match k with
  | 0 => ("TowerPipers", "tape", "LTowerPipers$Tape;", true)
  | 1 => ("TowerPipers", "townWord", "LTowerPipers$TownWord;", true)
  | 2 => ("TowerPipers", "pipers", "[LTowerPipers$Piper;", true)
  | 3 => ("TowerPipers", "calls", "[LTowerPipers$Call;", true)
  | 4 => ("TowerPipers", "tunes", "[LTowerPipers$Tune;", true)
  | 5 => ("TowerPipers", "piecesOf", "[I", true)
  | 6 => ("TowerPipers", "asked", "[I", true)
  | 7 => ("TowerPipers", "plan", "LTowerPipers$Plan;", true)
  | 8 => ("TowerPipers", "piperCount", "I", false)
  | 9 => ("TowerPipers", "tuneCount", "I", false)
  | 10 => ("TowerPipers", "today", "I", false)
  | 11 => ("TowerPipers", "fund", "I", false)
  | _ => ("TowerPipers", "planned", "Z", false)
def tyX7 : Nat → FieldType := fun k => match k with
  | 0 => .object "TowerPipers$Tape"
  | 1 => .object "TowerPipers$TownWord"
  | 2 => .array (.object "TowerPipers$Piper")
  | 3 => .array (.object "TowerPipers$Call")
  | 4 => .array (.object "TowerPipers$Tune")
  | 5 => .array .int
  | 6 => .array .int
  | 7 => .object "TowerPipers$Plan"
  | 8 => .int
  | 9 => .int
  | 10 => .int
  | 11 => .int
  | _ => .boolean
abbrev wsX70 : List Cond := u_ws RX7 TX7 13
theorem nmX7 : ∀ a, a < 13 → ∀ b, b < 13 → a ≠ b → (TX7 a).2.1 ≠ (TX7 b).2.1 := by decide +kernel
theorem tyX7_ok : ∀ k, k < 13 → parseFieldDescriptor (TX7 k).2.2.1 = some (tyX7 k) := by decide +kernel
abbrev cX7_init : ByteArray := prog_1_method_1_code
def yX7_init : MethodName := ⟨RX7, "<init>", "()V"⟩
abbrev cX7_feed : ByteArray := prog_1_method_2_code
def yX7_feed : MethodName := ⟨RX7, "feed", "(IIIII)I"⟩
abbrev cX7_word : ByteArray := prog_1_method_3_code
def yX7_word : MethodName := ⟨RX7, "word", "(I)I"⟩
abbrev cX7_piper : ByteArray := prog_1_method_4_code
def yX7_piper : MethodName := ⟨RX7, "piper", "(II)I"⟩
abbrev cX7_ill : ByteArray := prog_1_method_5_code
def yX7_ill : MethodName := ⟨RX7, "ill", "(IZ)Z"⟩
abbrev cX7_old : ByteArray := prog_1_method_6_code
def yX7_old : MethodName := ⟨RX7, "old", "(I)Z"⟩
abbrev cX7_pieces : ByteArray := prog_1_method_7_code
def yX7_pieces : MethodName := ⟨RX7, "pieces", "(II)Z"⟩
abbrev cX7_call : ByteArray := prog_1_method_8_code
def yX7_call : MethodName := ⟨RX7, "call", "(IIIIIIII)I"⟩
abbrev cX7_off : ByteArray := prog_1_method_9_code
def yX7_off : MethodName := ⟨RX7, "off", "(I)Z"⟩
abbrev cX7_played : ByteArray := prog_1_method_10_code
def yX7_played : MethodName := ⟨RX7, "played", "()I"⟩
abbrev cX7_who : ByteArray := prog_1_method_11_code
def yX7_who : MethodName := ⟨RX7, "who", "(II)I"⟩
abbrev cX7_tune : ByteArray := prog_1_method_12_code
def yX7_tune : MethodName := ⟨RX7, "tune", "(II)I"⟩
abbrev cX7_heard : ByteArray := prog_1_method_13_code
def yX7_heard : MethodName := ⟨RX7, "heard", "(I)I"⟩
abbrev cX7_share : ByteArray := prog_1_method_14_code
def yX7_share : MethodName := ⟨RX7, "share", "(II)I"⟩
abbrev cX7_day : ByteArray := prog_1_method_15_code
def yX7_day : MethodName := ⟨RX7, "day", "()I"⟩
abbrev cX7_lasts : ByteArray := prog_1_method_16_code
def yX7_lasts : MethodName := ⟨RX7, "lasts", "()I"⟩
abbrev cX7_look : ByteArray := prog_1_method_17_code
def yX7_look : MethodName := ⟨RX7, "look", "(II)I"⟩
abbrev cX7_wages : ByteArray := prog_1_method_18_code
def yX7_wages : MethodName := ⟨RX7, "wages", "(I)I"⟩
abbrev cX7_about : ByteArray := prog_1_method_19_code
def yX7_about : MethodName := ⟨RX7, "about", "(II)I"⟩
abbrev cX7_count : ByteArray := prog_1_method_20_code
def yX7_count : MethodName := ⟨RX7, "count", "(I)I"⟩
abbrev cX7_within : ByteArray := prog_1_method_21_code
def yX7_within : MethodName := ⟨RX7, "within", "(III)Z"⟩
abbrev cX7_hasBit : ByteArray := prog_1_method_22_code
def yX7_hasBit : MethodName := ⟨RX7, "hasBit", "(II)Z"⟩
abbrev cX7_isPiper : ByteArray := prog_1_method_23_code
def yX7_isPiper : MethodName := ⟨RX7, "isPiper", "(I)Z"⟩
abbrev cX7_isCall : ByteArray := prog_1_method_24_code
def yX7_isCall : MethodName := ⟨RX7, "isCall", "(I)Z"⟩
abbrev cX7_freeCall : ByteArray := prog_1_method_25_code
def yX7_freeCall : MethodName := ⟨RX7, "freeCall", "()I"⟩
abbrev cX7_callCount : ByteArray := prog_1_method_26_code
def yX7_callCount : MethodName := ⟨RX7, "callCount", "()I"⟩
abbrev cX7_monthOfToday : ByteArray := prog_1_method_27_code
def yX7_monthOfToday : MethodName := ⟨RX7, "monthOfToday", "()I"⟩
abbrev cX7_planOfToday : ByteArray := prog_1_method_28_code
def yX7_planOfToday : MethodName := ⟨RX7, "planOfToday", "()LTowerPipers$Plan;"⟩
abbrev cX7_fundShare : ByteArray := prog_1_method_29_code
def yX7_fundShare : MethodName := ⟨RX7, "fundShare", "(I)I"⟩
abbrev cX7_piperShare : ByteArray := prog_1_method_30_code
def yX7_piperShare : MethodName := ⟨RX7, "piperShare", "(LTowerPipers$Plan;II)I"⟩
abbrev cX7_partOfTwo : ByteArray := prog_1_method_31_code
def yX7_partOfTwo : MethodName := ⟨RX7, "partOfTwo", "(III)I"⟩
abbrev cX7_settle : ByteArray := prog_1_method_32_code
def yX7_settle : MethodName := ⟨RX7, "settle", "(LTowerPipers$Plan;I)V"⟩
abbrev cX7_fineTheWell : ByteArray := prog_1_method_33_code
def yX7_fineTheWell : MethodName := ⟨RX7, "fineTheWell", "()V"⟩
abbrev cX7_payTheOld : ByteArray := prog_1_method_34_code
def yX7_payTheOld : MethodName := ⟨RX7, "payTheOld", "()V"⟩
def RX8 : String := "TowerPipersModel"
def TX8 : u_T := fun k => match k with
  | 0 => ("TowerPipersModel", "tape", "[B", true)
  | 1 => ("TowerPipersModel", "taped", "I", false)
  | 2 => ("TowerPipersModel", "today", "I", false)
  | 3 => ("TowerPipersModel", "pipers", "I", false)
  | 4 => ("TowerPipersModel", "tunes", "I", false)
  | 5 => ("TowerPipersModel", "fund", "I", false)
  | 6 => ("TowerPipersModel", "stamps", "I", false)
  | 7 => ("TowerPipersModel", "word", "[I", true)
  | 8 => ("TowerPipersModel", "read", "[I", true)
  | 9 => ("TowerPipersModel", "rank", "[I", true)
  | 10 => ("TowerPipersModel", "plays", "[I", true)
  | 11 => ("TowerPipersModel", "how", "[I", true)
  | 12 => ("TowerPipersModel", "wages", "[I", true)
  | 13 => ("TowerPipersModel", "pieces", "[I", true)
  | 14 => ("TowerPipersModel", "call", "[I", true)
  | 15 => ("TowerPipersModel", "fits", "[I", true)
  | 16 => ("TowerPipersModel", "months", "[I", true)
  | 17 => ("TowerPipersModel", "heardDay", "[I", true)
  | 18 => ("TowerPipersModel", "heardAs", "[I", true)
  | 19 => ("TowerPipersModel", "many", "I", false)
  | 20 => ("TowerPipersModel", "set", "I", false)
  | 21 => ("TowerPipersModel", "parts", "I", false)
  | 22 => ("TowerPipersModel", "row", "[I", true)
  | 23 => ("TowerPipersModel", "partCall", "[I", true)
  | 24 => ("TowerPipersModel", "partOf", "[I", true)
  | 25 => ("TowerPipersModel", "taker", "[I", true)
  | 26 => ("TowerPipersModel", "blame", "[I", true)
  | 27 => ("TowerPipersModel", "has", "[I", true)
  | _ => ("TowerPipersModel", "turn", "[I", true)
def tyX8 : Nat → FieldType := fun k => match k with
  | 0 => .array .byte
  | 1 => .int
  | 2 => .int
  | 3 => .int
  | 4 => .int
  | 5 => .int
  | 6 => .int
  | 7 => .array .int
  | 8 => .array .int
  | 9 => .array .int
  | 10 => .array .int
  | 11 => .array .int
  | 12 => .array .int
  | 13 => .array .int
  | 14 => .array .int
  | 15 => .array .int
  | 16 => .array .int
  | 17 => .array .int
  | 18 => .array .int
  | 19 => .int
  | 20 => .int
  | 21 => .int
  | 22 => .array .int
  | 23 => .array .int
  | 24 => .array .int
  | 25 => .array .int
  | 26 => .array .int
  | 27 => .array .int
  | _ => .array .int
abbrev wsX80 : List Cond := u_ws RX8 TX8 29
theorem nmX8 : ∀ a, a < 29 → ∀ b, b < 29 → a ≠ b → (TX8 a).2.1 ≠ (TX8 b).2.1 := by decide +kernel
theorem tyX8_ok : ∀ k, k < 29 → parseFieldDescriptor (TX8 k).2.2.1 = some (tyX8 k) := by decide +kernel
abbrev cX8_init : ByteArray := prog_10_method_1_code
def yX8_init : MethodName := ⟨RX8, "<init>", "()V"⟩
abbrev cX8_lies : ByteArray := prog_10_method_2_code
def yX8_lies : MethodName := ⟨RX8, "lies", "(III)Z"⟩
abbrev cX8_has : ByteArray := prog_10_method_3_code
def yX8_has : MethodName := ⟨RX8, "has", "(II)Z"⟩
abbrev cX8_push : ByteArray := prog_10_method_4_code
def yX8_push : MethodName := ⟨RX8, "push", "(I)V"⟩
abbrev cX8_feed : ByteArray := prog_10_method_5_code
def yX8_feed : MethodName := ⟨RX8, "feed", "(IIIII)I"⟩
abbrev cX8_asAtFirst : ByteArray := prog_10_method_6_code
def yX8_asAtFirst : MethodName := ⟨RX8, "asAtFirst", "([I)V"⟩
abbrev cX8_letter : ByteArray := prog_10_method_7_code
def yX8_letter : MethodName := ⟨RX8, "letter", "(I)I"⟩
abbrev cX8_canBe : ByteArray := prog_10_method_8_code
def yX8_canBe : MethodName := ⟨RX8, "canBe", "(II)Z"⟩
abbrev cX8_at : ByteArray := prog_10_method_9_code
def yX8_at : MethodName := ⟨RX8, "at", "(II)I"⟩
abbrev cX8_reads : ByteArray := prog_10_method_10_code
def yX8_reads : MethodName := ⟨RX8, "reads", "(I)I"⟩
abbrev cX8_word : ByteArray := prog_10_method_11_code
def yX8_word : MethodName := ⟨RX8, "word", "(I)I"⟩
abbrev cX8_isPiper : ByteArray := prog_10_method_12_code
def yX8_isPiper : MethodName := ⟨RX8, "isPiper", "(I)Z"⟩
abbrev cX8_piper : ByteArray := prog_10_method_13_code
def yX8_piper : MethodName := ⟨RX8, "piper", "(II)I"⟩
abbrev cX8_ill : ByteArray := prog_10_method_14_code
def yX8_ill : MethodName := ⟨RX8, "ill", "(IZ)Z"⟩
abbrev cX8_old : ByteArray := prog_10_method_15_code
def yX8_old : MethodName := ⟨RX8, "old", "(I)Z"⟩
abbrev cX8_pieces : ByteArray := prog_10_method_16_code
def yX8_pieces : MethodName := ⟨RX8, "pieces", "(II)Z"⟩
abbrev cX8_isInstrument : ByteArray := prog_10_method_17_code
def yX8_isInstrument : MethodName := ⟨RX8, "isInstrument", "(I)Z"⟩
abbrev cX8_isCall : ByteArray := prog_10_method_18_code
def yX8_isCall : MethodName := ⟨RX8, "isCall", "(I)Z"⟩
abbrev cX8_of : ByteArray := prog_10_method_19_code
def yX8_of : MethodName := ⟨RX8, "of", "(II)I"⟩
abbrev cX8_call : ByteArray := prog_10_method_20_code
def yX8_call : MethodName := ⟨RX8, "call", "(IIIIIIII)I"⟩
abbrev cX8_off : ByteArray := prog_10_method_21_code
def yX8_off : MethodName := ⟨RX8, "off", "(I)Z"⟩
abbrev cX8_sorts : ByteArray := prog_10_method_22_code
def yX8_sorts : MethodName := ⟨RX8, "sorts", "()V"⟩
abbrev cX8_apart : ByteArray := prog_10_method_23_code
def yX8_apart : MethodName := ⟨RX8, "apart", "(II)I"⟩
abbrev cX8_goes : ByteArray := prog_10_method_24_code
def yX8_goes : MethodName := ⟨RX8, "goes", "(II)Z"⟩
abbrev cX8_hasPieces : ByteArray := prog_10_method_25_code
def yX8_hasPieces : MethodName := ⟨RX8, "hasPieces", "()Z"⟩
abbrev cX8_lists : ByteArray := prog_10_method_26_code
def yX8_lists : MethodName := ⟨RX8, "lists", "()V"⟩
abbrev cX8_hinders : ByteArray := prog_10_method_27_code
def yX8_hinders : MethodName := ⟨RX8, "hinders", "(II)I"⟩
abbrev cX8_takes : ByteArray := prog_10_method_28_code
def yX8_takes : MethodName := ⟨RX8, "takes", "(I)Z"⟩
abbrev cX8_canBePlayed : ByteArray := prog_10_method_29_code
def yX8_canBePlayed : MethodName := ⟨RX8, "canBePlayed", "()Z"⟩
abbrev cX8_works : ByteArray := prog_10_method_30_code
def yX8_works : MethodName := ⟨RX8, "works", "()I"⟩
abbrev cX8_played : ByteArray := prog_10_method_31_code
def yX8_played : MethodName := ⟨RX8, "played", "()I"⟩
abbrev cX8_whoHas : ByteArray := prog_10_method_32_code
def yX8_whoHas : MethodName := ⟨RX8, "whoHas", "(II)I"⟩
abbrev cX8_who : ByteArray := prog_10_method_33_code
def yX8_who : MethodName := ⟨RX8, "who", "(II)I"⟩
abbrev cX8_tune : ByteArray := prog_10_method_34_code
def yX8_tune : MethodName := ⟨RX8, "tune", "(II)I"⟩
abbrev cX8_month : ByteArray := prog_10_method_35_code
def yX8_month : MethodName := ⟨RX8, "month", "()I"⟩
abbrev cX8_tunesOf : ByteArray := prog_10_method_36_code
def yX8_tunesOf : MethodName := ⟨RX8, "tunesOf", "()V"⟩
abbrev cX8_heard : ByteArray := prog_10_method_37_code
def yX8_heard : MethodName := ⟨RX8, "heard", "(I)I"⟩
abbrev cX8_fundOf : ByteArray := prog_10_method_38_code
def yX8_fundOf : MethodName := ⟨RX8, "fundOf", "(I)I"⟩
abbrev cX8_shareOf : ByteArray := prog_10_method_39_code
def yX8_shareOf : MethodName := ⟨RX8, "shareOf", "(II)I"⟩
abbrev cX8_share : ByteArray := prog_10_method_40_code
def yX8_share : MethodName := ⟨RX8, "share", "(II)I"⟩
abbrev cX8_fines : ByteArray := prog_10_method_41_code
def yX8_fines : MethodName := ⟨RX8, "fines", "()V"⟩
abbrev cX8_day : ByteArray := prog_10_method_42_code
def yX8_day : MethodName := ⟨RX8, "day", "()I"⟩
abbrev cX8_lasts : ByteArray := prog_10_method_43_code
def yX8_lasts : MethodName := ⟨RX8, "lasts", "()I"⟩
abbrev cX8_look : ByteArray := prog_10_method_44_code
def yX8_look : MethodName := ⟨RX8, "look", "(II)I"⟩
abbrev cX8_wages : ByteArray := prog_10_method_45_code
def yX8_wages : MethodName := ⟨RX8, "wages", "(I)I"⟩
abbrev cX8_about : ByteArray := prog_10_method_46_code
def yX8_about : MethodName := ⟨RX8, "about", "(II)I"⟩
abbrev cX8_count : ByteArray := prog_10_method_47_code
def yX8_count : MethodName := ⟨RX8, "count", "(I)I"⟩
def RJ6 : String := "java/lang/Integer"
def TJ6 : u_T := fun k => match k with
  | _ => ("", "", "", false)
def tyJ6 : Nat → FieldType := fun k => match k with
  | _ => .int
theorem nmJ6 : ∀ a, a < 0 → ∀ b, b < 0 → a ≠ b → (TJ6 a).2.1 ≠ (TJ6 b).2.1 := by decide +kernel
theorem tyJ6_ok : ∀ k, k < 0 → parseFieldDescriptor (TJ6 k).2.2.1 = some (tyJ6 k) := by decide +kernel
abbrev cJ6_bitCount_0f7a4 : ByteArray := prog_11_method_49_code
def yJ6_bitCount_0f7a4 : MethodName := ⟨RJ6, "bitCount", "(I)I"⟩
def RJ9 : String := "java/lang/Math"
def TJ9 : u_T := fun k => match k with
  | _ => ("", "", "", false)
def tyJ9 : Nat → FieldType := fun k => match k with
  | _ => .int
theorem nmJ9 : ∀ a, a < 0 → ∀ b, b < 0 → a ≠ b → (TJ9 a).2.1 ≠ (TJ9 b).2.1 := by decide +kernel
theorem tyJ9_ok : ∀ k, k < 0 → parseFieldDescriptor (TJ9 k).2.2.1 = some (tyJ9 k) := by decide +kernel
abbrev cJ9_abs_0f7a4 : ByteArray := prog_12_method_59_code
def yJ9_abs_0f7a4 : MethodName := ⟨RJ9, "abs", "(I)I"⟩
abbrev cJ9_max_7cf53 : ByteArray := prog_12_method_65_code
def yJ9_max_7cf53 : MethodName := ⟨RJ9, "max", "(II)I"⟩
abbrev cJ9_min_7cf53 : ByteArray := prog_12_method_69_code
def yJ9_min_7cf53 : MethodName := ⟨RJ9, "min", "(II)I"⟩
def RJ10 : String := "java/lang/System"
def TJ10 : u_T := fun k => match k with
  | _ => ("", "", "", false)
def tyJ10 : Nat → FieldType := fun k => match k with
  | _ => .int
theorem nmJ10 : ∀ a, a < 0 → ∀ b, b < 0 → a ≠ b → (TJ10 a).2.1 ≠ (TJ10 b).2.1 := by decide +kernel
theorem tyJ10_ok : ∀ k, k < 0 → parseFieldDescriptor (TJ10 k).2.2.1 = some (tyJ10 k) := by decide +kernel
def RJ7 : String := "java/util/Arrays"
def TJ7 : u_T := fun k => match k with
  | _ => ("", "", "", false)
def tyJ7 : Nat → FieldType := fun k => match k with
  | _ => .int
theorem nmJ7 : ∀ a, a < 0 → ∀ b, b < 0 → a ≠ b → (TJ7 a).2.1 ≠ (TJ7 b).2.1 := by decide +kernel
theorem tyJ7_ok : ∀ k, k < 0 → parseFieldDescriptor (TJ7 k).2.2.1 = some (tyJ7 k) := by decide +kernel
abbrev cJ7_fill_53178 : ByteArray := prog_14_method_103_code
def yJ7_fill_53178 : MethodName := ⟨RJ7, "fill", "([II)V"⟩
def RL : String := "TowerPipersLaw"
abbrev cL_law : ByteArray := code
def yL_law : MethodName := ⟨RL, "law", "([I)Z"⟩
abbrev vwCl : List vw_C := [(RX0, TX0, 2), (RX1, TX1, 5), (RX2, TX2, 4), (RX3, TX3, 6), (RX4, TX4, 2), (RX5, TX5, 2), (RX6, TX6, 3), (RX7, TX7, 13), (RX8, TX8, 29)]
end
section
theorem dX0_init_0 : decode cX0_init 0 = .ok (.aload_n 0, 1) := by decide +kernel
theorem dX0_init_1 : decode cX0_init 1 = .ok (.invokespecial 3, 3) := by decide +kernel
theorem dX0_init_4 : decode cX0_init 4 = .ok (.aload_n 0, 1) := by decide +kernel
theorem dX0_init_5 : decode cX0_init 5 = .ok (.bipush 8, 2) := by decide +kernel
theorem dX0_init_7 : decode cX0_init 7 = .ok (.newarray .int, 2) := by decide +kernel
theorem dX0_init_9 : decode cX0_init 9 = .ok (.putfield 11, 3) := by decide +kernel
theorem dX0_init_12 : decode cX0_init 12 = .ok (.aload_n 0, 1) := by decide +kernel
theorem dX0_init_13 : decode cX0_init 13 = .ok (.iconst 0, 1) := by decide +kernel
theorem dX0_init_14 : decode cX0_init 14 = .ok (.putfield 15, 3) := by decide +kernel
theorem dX0_init_17 : decode cX0_init 17 = .ok (.return_, 1) := by decide +kernel
theorem dX0_canBe_0 : decode cX0_canBe 0 = .ok (.iconst 0, 1) := by decide +kernel
theorem dX0_canBe_1 : decode cX0_canBe 1 = .ok (.istore_n 1, 1) := by decide +kernel
theorem dX0_canBe_2 : decode cX0_canBe 2 = .ok (.iload_n 1, 1) := by decide +kernel
theorem dX0_canBe_3 : decode cX0_canBe 3 = .ok (.bipush 8, 2) := by decide +kernel
theorem dX0_canBe_5 : decode cX0_canBe 5 = .ok (.if_icmp .ge 30, 3) := by decide +kernel
theorem dX0_canBe_8 : decode cX0_canBe 8 = .ok (.aload_n 0, 1) := by decide +kernel
theorem dX0_canBe_9 : decode cX0_canBe 9 = .ok (.iload_n 1, 1) := by decide +kernel
theorem dX0_canBe_10 : decode cX0_canBe 10 = .ok (.iaload, 1) := by decide +kernel
theorem dX0_canBe_11 : decode cX0_canBe 11 = .ok (.getstatic 19, 3) := by decide +kernel
theorem dX0_canBe_14 : decode cX0_canBe 14 = .ok (.iload_n 1, 1) := by decide +kernel
theorem dX0_canBe_15 : decode cX0_canBe 15 = .ok (.iaload, 1) := by decide +kernel
theorem dX0_canBe_16 : decode cX0_canBe 16 = .ok (.getstatic 22, 3) := by decide +kernel
theorem dX0_canBe_19 : decode cX0_canBe 19 = .ok (.iload_n 1, 1) := by decide +kernel
theorem dX0_canBe_20 : decode cX0_canBe 20 = .ok (.iaload, 1) := by decide +kernel
theorem dX0_canBe_21 : decode cX0_canBe 21 = .ok (.invokestatic 25, 3) := by decide +kernel
theorem dX0_canBe_24 : decode cX0_canBe 24 = .ok (.ifCond .ne 5, 3) := by decide +kernel
theorem dX0_canBe_27 : decode cX0_canBe 27 = .ok (.iconst 0, 1) := by decide +kernel
theorem dX0_canBe_28 : decode cX0_canBe 28 = .ok (.ireturn, 1) := by decide +kernel
theorem dX0_canBe_29 : decode cX0_canBe 29 = .ok (.iinc 1 1, 3) := by decide +kernel
theorem dX0_canBe_32 : decode cX0_canBe 32 = .ok (.goto (-30), 3) := by decide +kernel
theorem dX0_canBe_35 : decode cX0_canBe 35 = .ok (.aload_n 0, 1) := by decide +kernel
theorem dX0_canBe_36 : decode cX0_canBe 36 = .ok (.iconst 1, 1) := by decide +kernel
theorem dX0_canBe_37 : decode cX0_canBe 37 = .ok (.iaload, 1) := by decide +kernel
theorem dX0_canBe_38 : decode cX0_canBe 38 = .ok (.aload_n 0, 1) := by decide +kernel
theorem dX0_canBe_39 : decode cX0_canBe 39 = .ok (.iconst 2, 1) := by decide +kernel
theorem dX0_canBe_40 : decode cX0_canBe 40 = .ok (.iaload, 1) := by decide +kernel
theorem dX0_canBe_41 : decode cX0_canBe 41 = .ok (.iadd, 1) := by decide +kernel
theorem dX0_canBe_42 : decode cX0_canBe 42 = .ok (.bipush 96, 2) := by decide +kernel
theorem dX0_canBe_44 : decode cX0_canBe 44 = .ok (.if_icmp .gt 7, 3) := by decide +kernel
theorem dX0_canBe_47 : decode cX0_canBe 47 = .ok (.iconst 1, 1) := by decide +kernel
theorem dX0_canBe_48 : decode cX0_canBe 48 = .ok (.goto 4, 3) := by decide +kernel
theorem dX0_canBe_51 : decode cX0_canBe 51 = .ok (.iconst 0, 1) := by decide +kernel
theorem dX0_canBe_52 : decode cX0_canBe 52 = .ok (.ireturn, 1) := by decide +kernel
theorem dX0_come_0 : decode cX0_come 0 = .ok (.aload_n 1, 1) := by decide +kernel
theorem dX0_come_1 : decode cX0_come 1 = .ok (.iconst 0, 1) := by decide +kernel
theorem dX0_come_2 : decode cX0_come 2 = .ok (.aload_n 0, 1) := by decide +kernel
theorem dX0_come_3 : decode cX0_come 3 = .ok (.getfield 11, 3) := by decide +kernel
theorem dX0_come_6 : decode cX0_come 6 = .ok (.iconst 0, 1) := by decide +kernel
theorem dX0_come_7 : decode cX0_come 7 = .ok (.bipush 8, 2) := by decide +kernel
theorem dX0_come_9 : decode cX0_come 9 = .ok (.invokestatic 29, 3) := by decide +kernel
theorem dX0_come_12 : decode cX0_come 12 = .ok (.aload_n 0, 1) := by decide +kernel
theorem dX0_come_13 : decode cX0_come 13 = .ok (.iconst 1, 1) := by decide +kernel
theorem dX0_come_14 : decode cX0_come 14 = .ok (.putfield 15, 3) := by decide +kernel
theorem dX0_come_17 : decode cX0_come 17 = .ok (.return_, 1) := by decide +kernel
theorem dX0_go_0 : decode cX0_go 0 = .ok (.aload_n 0, 1) := by decide +kernel
theorem dX0_go_1 : decode cX0_go 1 = .ok (.iconst 0, 1) := by decide +kernel
theorem dX0_go_2 : decode cX0_go 2 = .ok (.putfield 15, 3) := by decide +kernel
theorem dX0_go_5 : decode cX0_go 5 = .ok (.return_, 1) := by decide +kernel
theorem dX0_fact_0 : decode cX0_fact 0 = .ok (.iload_n 1, 1) := by decide +kernel
theorem dX0_fact_1 : decode cX0_fact 1 = .ok (.iconst 0, 1) := by decide +kernel
theorem dX0_fact_2 : decode cX0_fact 2 = .ok (.bipush 7, 2) := by decide +kernel
theorem dX0_fact_4 : decode cX0_fact 4 = .ok (.invokestatic 25, 3) := by decide +kernel
theorem dX0_fact_7 : decode cX0_fact 7 = .ok (.ifCond .eq 12, 3) := by decide +kernel
theorem dX0_fact_10 : decode cX0_fact 10 = .ok (.aload_n 0, 1) := by decide +kernel
theorem dX0_fact_11 : decode cX0_fact 11 = .ok (.getfield 11, 3) := by decide +kernel
theorem dX0_fact_14 : decode cX0_fact 14 = .ok (.iload_n 1, 1) := by decide +kernel
theorem dX0_fact_15 : decode cX0_fact 15 = .ok (.iaload, 1) := by decide +kernel
theorem dX0_fact_16 : decode cX0_fact 16 = .ok (.goto 4, 3) := by decide +kernel
theorem dX0_fact_19 : decode cX0_fact 19 = .ok (.iconst (-1), 1) := by decide +kernel
theorem dX0_fact_20 : decode cX0_fact 20 = .ok (.ireturn, 1) := by decide +kernel
theorem dX0_isOfOrder_0 : decode cX0_isOfOrder 0 = .ok (.aload_n 0, 1) := by decide +kernel
theorem dX0_isOfOrder_1 : decode cX0_isOfOrder 1 = .ok (.getfield 15, 3) := by decide +kernel
theorem dX0_isOfOrder_4 : decode cX0_isOfOrder 4 = .ok (.ifCond .eq 17, 3) := by decide +kernel
theorem dX0_isOfOrder_7 : decode cX0_isOfOrder 7 = .ok (.aload_n 0, 1) := by decide +kernel
theorem dX0_isOfOrder_8 : decode cX0_isOfOrder 8 = .ok (.getfield 11, 3) := by decide +kernel
theorem dX0_isOfOrder_11 : decode cX0_isOfOrder 11 = .ok (.iconst 0, 1) := by decide +kernel
theorem dX0_isOfOrder_12 : decode cX0_isOfOrder 12 = .ok (.iaload, 1) := by decide +kernel
theorem dX0_isOfOrder_13 : decode cX0_isOfOrder 13 = .ok (.iload_n 1, 1) := by decide +kernel
theorem dX0_isOfOrder_14 : decode cX0_isOfOrder 14 = .ok (.if_icmp .ne 7, 3) := by decide +kernel
theorem dX0_isOfOrder_17 : decode cX0_isOfOrder 17 = .ok (.iconst 1, 1) := by decide +kernel
theorem dX0_isOfOrder_18 : decode cX0_isOfOrder 18 = .ok (.goto 4, 3) := by decide +kernel
theorem dX0_isOfOrder_21 : decode cX0_isOfOrder 21 = .ok (.iconst 0, 1) := by decide +kernel
theorem dX0_isOfOrder_22 : decode cX0_isOfOrder 22 = .ok (.ireturn, 1) := by decide +kernel
theorem dX0_end_0 : decode cX0_end 0 = .ok (.aload_n 0, 1) := by decide +kernel
theorem dX0_end_1 : decode cX0_end 1 = .ok (.getfield 11, 3) := by decide +kernel
theorem dX0_end_4 : decode cX0_end 4 = .ok (.iconst 1, 1) := by decide +kernel
theorem dX0_end_5 : decode cX0_end 5 = .ok (.iaload, 1) := by decide +kernel
theorem dX0_end_6 : decode cX0_end 6 = .ok (.aload_n 0, 1) := by decide +kernel
theorem dX0_end_7 : decode cX0_end 7 = .ok (.getfield 11, 3) := by decide +kernel
theorem dX0_end_10 : decode cX0_end 10 = .ok (.iconst 2, 1) := by decide +kernel
theorem dX0_end_11 : decode cX0_end 11 = .ok (.iaload, 1) := by decide +kernel
theorem dX0_end_12 : decode cX0_end 12 = .ok (.iadd, 1) := by decide +kernel
theorem dX0_end_13 : decode cX0_end 13 = .ok (.ireturn, 1) := by decide +kernel
theorem dX0_isOnAt_0 : decode cX0_isOnAt 0 = .ok (.iload_n 1, 1) := by decide +kernel
theorem dX0_isOnAt_1 : decode cX0_isOnAt 1 = .ok (.aload_n 0, 1) := by decide +kernel
theorem dX0_isOnAt_2 : decode cX0_isOnAt 2 = .ok (.getfield 11, 3) := by decide +kernel
theorem dX0_isOnAt_5 : decode cX0_isOnAt 5 = .ok (.iconst 1, 1) := by decide +kernel
theorem dX0_isOnAt_6 : decode cX0_isOnAt 6 = .ok (.iaload, 1) := by decide +kernel
theorem dX0_isOnAt_7 : decode cX0_isOnAt 7 = .ok (.if_icmp .lt 15, 3) := by decide +kernel
theorem dX0_isOnAt_10 : decode cX0_isOnAt 10 = .ok (.iload_n 1, 1) := by decide +kernel
theorem dX0_isOnAt_11 : decode cX0_isOnAt 11 = .ok (.aload_n 0, 1) := by decide +kernel
theorem dX0_isOnAt_12 : decode cX0_isOnAt 12 = .ok (.invokevirtual 35, 3) := by decide +kernel
theorem dX0_isOnAt_15 : decode cX0_isOnAt 15 = .ok (.if_icmp .ge 7, 3) := by decide +kernel
theorem dX0_isOnAt_18 : decode cX0_isOnAt 18 = .ok (.iconst 1, 1) := by decide +kernel
theorem dX0_isOnAt_19 : decode cX0_isOnAt 19 = .ok (.goto 4, 3) := by decide +kernel
theorem dX0_isOnAt_22 : decode cX0_isOnAt 22 = .ok (.iconst 0, 1) := by decide +kernel
theorem dX0_isOnAt_23 : decode cX0_isOnAt 23 = .ok (.ireturn, 1) := by decide +kernel
theorem dX0_partCount_0 : decode cX0_partCount 0 = .ok (.aload_n 0, 1) := by decide +kernel
theorem dX0_partCount_1 : decode cX0_partCount 1 = .ok (.getfield 11, 3) := by decide +kernel
theorem dX0_partCount_4 : decode cX0_partCount 4 = .ok (.bipush 6, 2) := by decide +kernel
theorem dX0_partCount_6 : decode cX0_partCount 6 = .ok (.iaload, 1) := by decide +kernel
theorem dX0_partCount_7 : decode cX0_partCount 7 = .ok (.iconst (-1), 1) := by decide +kernel
theorem dX0_partCount_8 : decode cX0_partCount 8 = .ok (.if_icmp .ne 7, 3) := by decide +kernel
theorem dX0_partCount_11 : decode cX0_partCount 11 = .ok (.iconst 1, 1) := by decide +kernel
theorem dX0_partCount_12 : decode cX0_partCount 12 = .ok (.goto 4, 3) := by decide +kernel
theorem dX0_partCount_15 : decode cX0_partCount 15 = .ok (.iconst 2, 1) := by decide +kernel
theorem dX0_partCount_16 : decode cX0_partCount 16 = .ok (.ireturn, 1) := by decide +kernel
theorem dX0_partsWith_0 : decode cX0_partsWith 0 = .ok (.aload_n 0, 1) := by decide +kernel
theorem dX0_partsWith_1 : decode cX0_partsWith 1 = .ok (.getfield 11, 3) := by decide +kernel
theorem dX0_partsWith_4 : decode cX0_partsWith 4 = .ok (.iconst 5, 1) := by decide +kernel
theorem dX0_partsWith_5 : decode cX0_partsWith 5 = .ok (.iaload, 1) := by decide +kernel
theorem dX0_partsWith_6 : decode cX0_partsWith 6 = .ok (.iload_n 1, 1) := by decide +kernel
theorem dX0_partsWith_7 : decode cX0_partsWith 7 = .ok (.if_icmp .ne 7, 3) := by decide +kernel
theorem dX0_partsWith_10 : decode cX0_partsWith 10 = .ok (.iconst 1, 1) := by decide +kernel
theorem dX0_partsWith_11 : decode cX0_partsWith 11 = .ok (.goto 4, 3) := by decide +kernel
theorem dX0_partsWith_14 : decode cX0_partsWith 14 = .ok (.iconst 0, 1) := by decide +kernel
theorem dX0_partsWith_15 : decode cX0_partsWith 15 = .ok (.aload_n 0, 1) := by decide +kernel
theorem dX0_partsWith_16 : decode cX0_partsWith 16 = .ok (.getfield 11, 3) := by decide +kernel
theorem dX0_partsWith_19 : decode cX0_partsWith 19 = .ok (.bipush 6, 2) := by decide +kernel
theorem dX0_partsWith_21 : decode cX0_partsWith 21 = .ok (.iaload, 1) := by decide +kernel
theorem dX0_partsWith_22 : decode cX0_partsWith 22 = .ok (.iload_n 1, 1) := by decide +kernel
theorem dX0_partsWith_23 : decode cX0_partsWith 23 = .ok (.if_icmp .ne 7, 3) := by decide +kernel
theorem dX0_partsWith_26 : decode cX0_partsWith 26 = .ok (.iconst 1, 1) := by decide +kernel
theorem dX0_partsWith_27 : decode cX0_partsWith 27 = .ok (.goto 4, 3) := by decide +kernel
theorem dX0_partsWith_30 : decode cX0_partsWith 30 = .ok (.iconst 0, 1) := by decide +kernel
theorem dX0_partsWith_31 : decode cX0_partsWith 31 = .ok (.iadd, 1) := by decide +kernel
theorem dX0_partsWith_32 : decode cX0_partsWith 32 = .ok (.ireturn, 1) := by decide +kernel
theorem dX0_clashesWith_0 : decode cX0_clashesWith 0 = .ok (.iload_n 2, 1) := by decide +kernel
theorem dX0_clashesWith_1 : decode cX0_clashesWith 1 = .ok (.aload_n 0, 1) := by decide +kernel
theorem dX0_clashesWith_2 : decode cX0_clashesWith 2 = .ok (.getfield 11, 3) := by decide +kernel
theorem dX0_clashesWith_5 : decode cX0_clashesWith 5 = .ok (.iconst 3, 1) := by decide +kernel
theorem dX0_clashesWith_6 : decode cX0_clashesWith 6 = .ok (.iaload, 1) := by decide +kernel
theorem dX0_clashesWith_7 : decode cX0_clashesWith 7 = .ok (.aload_n 1, 1) := by decide +kernel
theorem dX0_clashesWith_8 : decode cX0_clashesWith 8 = .ok (.getfield 11, 3) := by decide +kernel
theorem dX0_clashesWith_11 : decode cX0_clashesWith 11 = .ok (.iconst 3, 1) := by decide +kernel
theorem dX0_clashesWith_12 : decode cX0_clashesWith 12 = .ok (.iaload, 1) := by decide +kernel
theorem dX0_clashesWith_13 : decode cX0_clashesWith 13 = .ok (.isub, 1) := by decide +kernel
theorem dX0_clashesWith_14 : decode cX0_clashesWith 14 = .ok (.invokestatic 39, 3) := by decide +kernel
theorem dX0_clashesWith_17 : decode cX0_clashesWith 17 = .ok (.imul, 1) := by decide +kernel
theorem dX0_clashesWith_18 : decode cX0_clashesWith 18 = .ok (.istore_n 3, 1) := by decide +kernel
theorem dX0_clashesWith_19 : decode cX0_clashesWith 19 = .ok (.aload_n 0, 1) := by decide +kernel
theorem dX0_clashesWith_20 : decode cX0_clashesWith 20 = .ok (.getfield 11, 3) := by decide +kernel
theorem dX0_clashesWith_23 : decode cX0_clashesWith 23 = .ok (.iconst 1, 1) := by decide +kernel
theorem dX0_clashesWith_24 : decode cX0_clashesWith 24 = .ok (.iaload, 1) := by decide +kernel
theorem dX0_clashesWith_25 : decode cX0_clashesWith 25 = .ok (.aload_n 1, 1) := by decide +kernel
theorem dX0_clashesWith_26 : decode cX0_clashesWith 26 = .ok (.invokevirtual 35, 3) := by decide +kernel
theorem dX0_clashesWith_29 : decode cX0_clashesWith 29 = .ok (.iload_n 3, 1) := by decide +kernel
theorem dX0_clashesWith_30 : decode cX0_clashesWith 30 = .ok (.iadd, 1) := by decide +kernel
theorem dX0_clashesWith_31 : decode cX0_clashesWith 31 = .ok (.if_icmp .ge 22, 3) := by decide +kernel
theorem dX0_clashesWith_34 : decode cX0_clashesWith 34 = .ok (.aload_n 1, 1) := by decide +kernel
theorem dX0_clashesWith_35 : decode cX0_clashesWith 35 = .ok (.getfield 11, 3) := by decide +kernel
theorem dX0_clashesWith_38 : decode cX0_clashesWith 38 = .ok (.iconst 1, 1) := by decide +kernel
theorem dX0_clashesWith_39 : decode cX0_clashesWith 39 = .ok (.iaload, 1) := by decide +kernel
theorem dX0_clashesWith_40 : decode cX0_clashesWith 40 = .ok (.aload_n 0, 1) := by decide +kernel
theorem dX0_clashesWith_41 : decode cX0_clashesWith 41 = .ok (.invokevirtual 35, 3) := by decide +kernel
theorem dX0_clashesWith_44 : decode cX0_clashesWith 44 = .ok (.iload_n 3, 1) := by decide +kernel
theorem dX0_clashesWith_45 : decode cX0_clashesWith 45 = .ok (.iadd, 1) := by decide +kernel
theorem dX0_clashesWith_46 : decode cX0_clashesWith 46 = .ok (.if_icmp .ge 7, 3) := by decide +kernel
theorem dX0_clashesWith_49 : decode cX0_clashesWith 49 = .ok (.iconst 1, 1) := by decide +kernel
theorem dX0_clashesWith_50 : decode cX0_clashesWith 50 = .ok (.goto 4, 3) := by decide +kernel
theorem dX0_clashesWith_53 : decode cX0_clashesWith 53 = .ok (.iconst 0, 1) := by decide +kernel
theorem dX0_clashesWith_54 : decode cX0_clashesWith 54 = .ok (.ireturn, 1) := by decide +kernel
theorem dX1_init_0 : decode cX1_init 0 = .ok (.aload_n 0, 1) := by decide +kernel
theorem dX1_init_1 : decode cX1_init 1 = .ok (.invokespecial 3, 3) := by decide +kernel
theorem dX1_init_4 : decode cX1_init 4 = .ok (.aload_n 0, 1) := by decide +kernel
theorem dX1_init_5 : decode cX1_init 5 = .ok (.bipush 6, 2) := by decide +kernel
theorem dX1_init_7 : decode cX1_init 7 = .ok (.newarray .int, 2) := by decide +kernel
theorem dX1_init_9 : decode cX1_init 9 = .ok (.putfield 9, 3) := by decide +kernel
theorem dX1_init_12 : decode cX1_init 12 = .ok (.aload_n 0, 1) := by decide +kernel
theorem dX1_init_13 : decode cX1_init 13 = .ok (.bipush 12, 2) := by decide +kernel
theorem dX1_init_15 : decode cX1_init 15 = .ok (.newarray .int, 2) := by decide +kernel
theorem dX1_init_17 : decode cX1_init 17 = .ok (.putfield 15, 3) := by decide +kernel
theorem dX1_init_20 : decode cX1_init 20 = .ok (.aload_n 0, 1) := by decide +kernel
theorem dX1_init_21 : decode cX1_init 21 = .ok (.bipush 12, 2) := by decide +kernel
theorem dX1_init_23 : decode cX1_init 23 = .ok (.newarray .int, 2) := by decide +kernel
theorem dX1_init_25 : decode cX1_init 25 = .ok (.putfield 18, 3) := by decide +kernel
theorem dX1_init_28 : decode cX1_init 28 = .ok (.aload_n 0, 1) := by decide +kernel
theorem dX1_init_29 : decode cX1_init 29 = .ok (.bipush 12, 2) := by decide +kernel
theorem dX1_init_31 : decode cX1_init 31 = .ok (.newarray .int, 2) := by decide +kernel
theorem dX1_init_33 : decode cX1_init 33 = .ok (.putfield 21, 3) := by decide +kernel
theorem dX1_init_36 : decode cX1_init 36 = .ok (.aload_n 0, 1) := by decide +kernel
theorem dX1_init_37 : decode cX1_init 37 = .ok (.iconst 0, 1) := by decide +kernel
theorem dX1_init_38 : decode cX1_init 38 = .ok (.putfield 24, 3) := by decide +kernel
theorem dX1_init_41 : decode cX1_init 41 = .ok (.return_, 1) := by decide +kernel
theorem dX1_clear_0 : decode cX1_clear 0 = .ok (.aload_n 0, 1) := by decide +kernel
theorem dX1_clear_1 : decode cX1_clear 1 = .ok (.iconst 0, 1) := by decide +kernel
theorem dX1_clear_2 : decode cX1_clear 2 = .ok (.putfield 24, 3) := by decide +kernel
theorem dX1_clear_5 : decode cX1_clear 5 = .ok (.aload_n 0, 1) := by decide +kernel
theorem dX1_clear_6 : decode cX1_clear 6 = .ok (.getfield 9, 3) := by decide +kernel
theorem dX1_clear_9 : decode cX1_clear 9 = .ok (.iconst 0, 1) := by decide +kernel
theorem dX1_clear_10 : decode cX1_clear 10 = .ok (.invokestatic 28, 3) := by decide +kernel
theorem dX1_clear_13 : decode cX1_clear 13 = .ok (.return_, 1) := by decide +kernel
theorem dX1_piperOf_0 : decode cX1_piperOf 0 = .ok (.iload_n 2, 1) := by decide +kernel
theorem dX1_piperOf_1 : decode cX1_piperOf 1 = .ok (.istore_n 3, 1) := by decide +kernel
theorem dX1_piperOf_2 : decode cX1_piperOf 2 = .ok (.iconst 0, 1) := by decide +kernel
theorem dX1_piperOf_3 : decode cX1_piperOf 3 = .ok (.istore 4, 2) := by decide +kernel
theorem dX1_piperOf_5 : decode cX1_piperOf 5 = .ok (.iload 4, 2) := by decide +kernel
theorem dX1_piperOf_7 : decode cX1_piperOf 7 = .ok (.aload_n 0, 1) := by decide +kernel
theorem dX1_piperOf_8 : decode cX1_piperOf 8 = .ok (.getfield 24, 3) := by decide +kernel
theorem dX1_piperOf_11 : decode cX1_piperOf 11 = .ok (.if_icmp .ge 39, 3) := by decide +kernel
theorem dX1_piperOf_14 : decode cX1_piperOf 14 = .ok (.iload_n 3, 1) := by decide +kernel
theorem dX1_piperOf_15 : decode cX1_piperOf 15 = .ok (.ifCond .lt 35, 3) := by decide +kernel
theorem dX1_piperOf_18 : decode cX1_piperOf 18 = .ok (.aload_n 0, 1) := by decide +kernel
theorem dX1_piperOf_19 : decode cX1_piperOf 19 = .ok (.getfield 18, 3) := by decide +kernel
theorem dX1_piperOf_22 : decode cX1_piperOf 22 = .ok (.iload 4, 2) := by decide +kernel
theorem dX1_piperOf_24 : decode cX1_piperOf 24 = .ok (.iaload, 1) := by decide +kernel
theorem dX1_piperOf_25 : decode cX1_piperOf 25 = .ok (.iload_n 1, 1) := by decide +kernel
theorem dX1_piperOf_26 : decode cX1_piperOf 26 = .ok (.if_icmp .ne 18, 3) := by decide +kernel
theorem dX1_piperOf_29 : decode cX1_piperOf 29 = .ok (.iload_n 3, 1) := by decide +kernel
theorem dX1_piperOf_30 : decode cX1_piperOf 30 = .ok (.ifCond .ne 11, 3) := by decide +kernel
theorem dX1_piperOf_33 : decode cX1_piperOf 33 = .ok (.aload_n 0, 1) := by decide +kernel
theorem dX1_piperOf_34 : decode cX1_piperOf 34 = .ok (.getfield 21, 3) := by decide +kernel
theorem dX1_piperOf_37 : decode cX1_piperOf 37 = .ok (.iload 4, 2) := by decide +kernel
theorem dX1_piperOf_39 : decode cX1_piperOf 39 = .ok (.iaload, 1) := by decide +kernel
theorem dX1_piperOf_40 : decode cX1_piperOf 40 = .ok (.ireturn, 1) := by decide +kernel
theorem dX1_piperOf_41 : decode cX1_piperOf 41 = .ok (.iinc 3 (-1), 3) := by decide +kernel
theorem dX1_piperOf_44 : decode cX1_piperOf 44 = .ok (.iinc 4 1, 3) := by decide +kernel
theorem dX1_piperOf_47 : decode cX1_piperOf 47 = .ok (.goto (-42), 3) := by decide +kernel
theorem dX1_piperOf_50 : decode cX1_piperOf 50 = .ok (.iconst (-1), 1) := by decide +kernel
theorem dX1_piperOf_51 : decode cX1_piperOf 51 = .ok (.ireturn, 1) := by decide +kernel
theorem dX1_partsOf_0 : decode cX1_partsOf 0 = .ok (.iconst 0, 1) := by decide +kernel
theorem dX1_partsOf_1 : decode cX1_partsOf 1 = .ok (.istore_n 2, 1) := by decide +kernel
theorem dX1_partsOf_2 : decode cX1_partsOf 2 = .ok (.iconst 0, 1) := by decide +kernel
theorem dX1_partsOf_3 : decode cX1_partsOf 3 = .ok (.istore_n 3, 1) := by decide +kernel
theorem dX1_partsOf_4 : decode cX1_partsOf 4 = .ok (.iload_n 3, 1) := by decide +kernel
theorem dX1_partsOf_5 : decode cX1_partsOf 5 = .ok (.aload_n 0, 1) := by decide +kernel
theorem dX1_partsOf_6 : decode cX1_partsOf 6 = .ok (.getfield 24, 3) := by decide +kernel
theorem dX1_partsOf_9 : decode cX1_partsOf 9 = .ok (.if_icmp .ge 22, 3) := by decide +kernel
theorem dX1_partsOf_12 : decode cX1_partsOf 12 = .ok (.aload_n 0, 1) := by decide +kernel
theorem dX1_partsOf_13 : decode cX1_partsOf 13 = .ok (.getfield 21, 3) := by decide +kernel
theorem dX1_partsOf_16 : decode cX1_partsOf 16 = .ok (.iload_n 3, 1) := by decide +kernel
theorem dX1_partsOf_17 : decode cX1_partsOf 17 = .ok (.iaload, 1) := by decide +kernel
theorem dX1_partsOf_18 : decode cX1_partsOf 18 = .ok (.iload_n 1, 1) := by decide +kernel
theorem dX1_partsOf_19 : decode cX1_partsOf 19 = .ok (.if_icmp .ne 6, 3) := by decide +kernel
theorem dX1_partsOf_22 : decode cX1_partsOf 22 = .ok (.iinc 2 1, 3) := by decide +kernel
theorem dX1_partsOf_25 : decode cX1_partsOf 25 = .ok (.iinc 3 1, 3) := by decide +kernel
theorem dX1_partsOf_28 : decode cX1_partsOf 28 = .ok (.goto (-24), 3) := by decide +kernel
theorem dX1_partsOf_31 : decode cX1_partsOf 31 = .ok (.iload_n 2, 1) := by decide +kernel
theorem dX1_partsOf_32 : decode cX1_partsOf 32 = .ok (.ireturn, 1) := by decide +kernel
theorem dX1_admit_0 : decode cX1_admit 0 = .ok (.aload_n 0, 1) := by decide +kernel
theorem dX1_admit_1 : decode cX1_admit 1 = .ok (.getfield 24, 3) := by decide +kernel
theorem dX1_admit_4 : decode cX1_admit 4 = .ok (.istore 5, 2) := by decide +kernel
theorem dX1_admit_6 : decode cX1_admit 6 = .ok (.iconst 0, 1) := by decide +kernel
theorem dX1_admit_7 : decode cX1_admit 7 = .ok (.istore 6, 2) := by decide +kernel
theorem dX1_admit_9 : decode cX1_admit 9 = .ok (.iload 6, 2) := by decide +kernel
theorem dX1_admit_11 : decode cX1_admit 11 = .ok (.aload_n 1, 1) := by decide +kernel
theorem dX1_admit_12 : decode cX1_admit 12 = .ok (.iload_n 2, 1) := by decide +kernel
theorem dX1_admit_13 : decode cX1_admit 13 = .ok (.aaload, 1) := by decide +kernel
theorem dX1_admit_14 : decode cX1_admit 14 = .ok (.invokevirtual 34, 3) := by decide +kernel
theorem dX1_admit_17 : decode cX1_admit 17 = .ok (.if_icmp .ge 51, 3) := by decide +kernel
theorem dX1_admit_20 : decode cX1_admit 20 = .ok (.aload_n 0, 1) := by decide +kernel
theorem dX1_admit_21 : decode cX1_admit 21 = .ok (.getfield 24, 3) := by decide +kernel
theorem dX1_admit_24 : decode cX1_admit 24 = .ok (.bipush 12, 2) := by decide +kernel
theorem dX1_admit_26 : decode cX1_admit 26 = .ok (.if_icmp .ge 42, 3) := by decide +kernel
theorem dX1_admit_29 : decode cX1_admit 29 = .ok (.aload_n 0, 1) := by decide +kernel
theorem dX1_admit_30 : decode cX1_admit 30 = .ok (.aload_n 3, 1) := by decide +kernel
theorem dX1_admit_31 : decode cX1_admit 31 = .ok (.aload_n 1, 1) := by decide +kernel
theorem dX1_admit_32 : decode cX1_admit 32 = .ok (.iload_n 2, 1) := by decide +kernel
theorem dX1_admit_33 : decode cX1_admit 33 = .ok (.aaload, 1) := by decide +kernel
theorem dX1_admit_34 : decode cX1_admit 34 = .ok (.iconst 5, 1) := by decide +kernel
theorem dX1_admit_35 : decode cX1_admit 35 = .ok (.iload 6, 2) := by decide +kernel
theorem dX1_admit_37 : decode cX1_admit 37 = .ok (.iadd, 1) := by decide +kernel
theorem dX1_admit_38 : decode cX1_admit 38 = .ok (.invokevirtual 39, 3) := by decide +kernel
theorem dX1_admit_41 : decode cX1_admit 41 = .ok (.invokevirtual 43, 3) := by decide +kernel
theorem dX1_admit_44 : decode cX1_admit 44 = .ok (.aload_n 0, 1) := by decide +kernel
theorem dX1_admit_45 : decode cX1_admit 45 = .ok (.aload_n 1, 1) := by decide +kernel
theorem dX1_admit_46 : decode cX1_admit 46 = .ok (.iload_n 2, 1) := by decide +kernel
theorem dX1_admit_47 : decode cX1_admit 47 = .ok (.iload 4, 2) := by decide +kernel
theorem dX1_admit_49 : decode cX1_admit 49 = .ok (.invokevirtual 47, 3) := by decide +kernel
theorem dX1_admit_52 : decode cX1_admit 52 = .ok (.aload_n 0, 1) := by decide +kernel
theorem dX1_admit_53 : decode cX1_admit 53 = .ok (.dup, 1) := by decide +kernel
theorem dX1_admit_54 : decode cX1_admit 54 = .ok (.getfield 24, 3) := by decide +kernel
theorem dX1_admit_57 : decode cX1_admit 57 = .ok (.iconst 1, 1) := by decide +kernel
theorem dX1_admit_58 : decode cX1_admit 58 = .ok (.iadd, 1) := by decide +kernel
theorem dX1_admit_59 : decode cX1_admit 59 = .ok (.putfield 24, 3) := by decide +kernel
theorem dX1_admit_62 : decode cX1_admit 62 = .ok (.iinc 6 1, 3) := by decide +kernel
theorem dX1_admit_65 : decode cX1_admit 65 = .ok (.goto (-56), 3) := by decide +kernel
theorem dX1_admit_68 : decode cX1_admit 68 = .ok (.aload_n 0, 1) := by decide +kernel
theorem dX1_admit_69 : decode cX1_admit 69 = .ok (.aload_n 0, 1) := by decide +kernel
theorem dX1_admit_70 : decode cX1_admit 70 = .ok (.iload 5, 2) := by decide +kernel
theorem dX1_admit_72 : decode cX1_admit 72 = .ok (.aload_n 0, 1) := by decide +kernel
theorem dX1_admit_73 : decode cX1_admit 73 = .ok (.invokevirtual 51, 3) := by decide +kernel
theorem dX1_admit_76 : decode cX1_admit 76 = .ok (.invokevirtual 54, 3) := by decide +kernel
theorem dX1_admit_79 : decode cX1_admit 79 = .ok (.iconst 0, 1) := by decide +kernel
theorem dX1_admit_80 : decode cX1_admit 80 = .ok (.invokevirtual 58, 3) := by decide +kernel
theorem dX1_admit_83 : decode cX1_admit 83 = .ok (.ifCond .eq 5, 3) := by decide +kernel
theorem dX1_admit_86 : decode cX1_admit 86 = .ok (.iconst 1, 1) := by decide +kernel
theorem dX1_admit_87 : decode cX1_admit 87 = .ok (.ireturn, 1) := by decide +kernel
theorem dX1_admit_88 : decode cX1_admit 88 = .ok (.aload_n 0, 1) := by decide +kernel
theorem dX1_admit_89 : decode cX1_admit 89 = .ok (.iload 5, 2) := by decide +kernel
theorem dX1_admit_91 : decode cX1_admit 91 = .ok (.putfield 24, 3) := by decide +kernel
theorem dX1_admit_94 : decode cX1_admit 94 = .ok (.iconst 0, 1) := by decide +kernel
theorem dX1_admit_95 : decode cX1_admit 95 = .ok (.istore 6, 2) := by decide +kernel
theorem dX1_admit_97 : decode cX1_admit 97 = .ok (.iload 6, 2) := by decide +kernel
theorem dX1_admit_99 : decode cX1_admit 99 = .ok (.bipush 6, 2) := by decide +kernel
theorem dX1_admit_101 : decode cX1_admit 101 = .ok (.if_icmp .ge 23, 3) := by decide +kernel
theorem dX1_admit_104 : decode cX1_admit 104 = .ok (.aload_n 0, 1) := by decide +kernel
theorem dX1_admit_105 : decode cX1_admit 105 = .ok (.getfield 9, 3) := by decide +kernel
theorem dX1_admit_108 : decode cX1_admit 108 = .ok (.iload 6, 2) := by decide +kernel
theorem dX1_admit_110 : decode cX1_admit 110 = .ok (.dup2, 1) := by decide +kernel
theorem dX1_admit_111 : decode cX1_admit 111 = .ok (.iaload, 1) := by decide +kernel
theorem dX1_admit_112 : decode cX1_admit 112 = .ok (.aload_n 0, 1) := by decide +kernel
theorem dX1_admit_113 : decode cX1_admit 113 = .ok (.invokevirtual 51, 3) := by decide +kernel
theorem dX1_admit_116 : decode cX1_admit 116 = .ok (.iand, 1) := by decide +kernel
theorem dX1_admit_117 : decode cX1_admit 117 = .ok (.iastore, 1) := by decide +kernel
theorem dX1_admit_118 : decode cX1_admit 118 = .ok (.iinc 6 1, 3) := by decide +kernel
theorem dX1_admit_121 : decode cX1_admit 121 = .ok (.goto (-24), 3) := by decide +kernel
theorem dX1_admit_124 : decode cX1_admit 124 = .ok (.iconst 0, 1) := by decide +kernel
theorem dX1_admit_125 : decode cX1_admit 125 = .ok (.ireturn, 1) := by decide +kernel
theorem dX1_allParts_0 : decode cX1_allParts 0 = .ok (.iconst 1, 1) := by decide +kernel
theorem dX1_allParts_1 : decode cX1_allParts 1 = .ok (.aload_n 0, 1) := by decide +kernel
theorem dX1_allParts_2 : decode cX1_allParts 2 = .ok (.getfield 24, 3) := by decide +kernel
theorem dX1_allParts_5 : decode cX1_allParts 5 = .ok (.ishl, 1) := by decide +kernel
theorem dX1_allParts_6 : decode cX1_allParts 6 = .ok (.iconst 1, 1) := by decide +kernel
theorem dX1_allParts_7 : decode cX1_allParts 7 = .ok (.isub, 1) := by decide +kernel
theorem dX1_allParts_8 : decode cX1_allParts 8 = .ok (.ireturn, 1) := by decide +kernel
theorem dX1_markTakers_0 : decode cX1_markTakers 0 = .ok (.iconst 0, 1) := by decide +kernel
theorem dX1_markTakers_1 : decode cX1_markTakers 1 = .ok (.istore_n 3, 1) := by decide +kernel
theorem dX1_markTakers_2 : decode cX1_markTakers 2 = .ok (.iload_n 3, 1) := by decide +kernel
theorem dX1_markTakers_3 : decode cX1_markTakers 3 = .ok (.bipush 6, 2) := by decide +kernel
theorem dX1_markTakers_5 : decode cX1_markTakers 5 = .ok (.if_icmp .ge 34, 3) := by decide +kernel
theorem dX1_markTakers_8 : decode cX1_markTakers 8 = .ok (.aload_n 1, 1) := by decide +kernel
theorem dX1_markTakers_9 : decode cX1_markTakers 9 = .ok (.iload_n 3, 1) := by decide +kernel
theorem dX1_markTakers_10 : decode cX1_markTakers 10 = .ok (.aaload, 1) := by decide +kernel
theorem dX1_markTakers_11 : decode cX1_markTakers 11 = .ok (.iload_n 2, 1) := by decide +kernel
theorem dX1_markTakers_12 : decode cX1_markTakers 12 = .ok (.invokevirtual 62, 3) := by decide +kernel
theorem dX1_markTakers_15 : decode cX1_markTakers 15 = .ok (.ifCond .eq 18, 3) := by decide +kernel
theorem dX1_markTakers_18 : decode cX1_markTakers 18 = .ok (.aload_n 0, 1) := by decide +kernel
theorem dX1_markTakers_19 : decode cX1_markTakers 19 = .ok (.getfield 9, 3) := by decide +kernel
theorem dX1_markTakers_22 : decode cX1_markTakers 22 = .ok (.iload_n 3, 1) := by decide +kernel
theorem dX1_markTakers_23 : decode cX1_markTakers 23 = .ok (.dup2, 1) := by decide +kernel
theorem dX1_markTakers_24 : decode cX1_markTakers 24 = .ok (.iaload, 1) := by decide +kernel
theorem dX1_markTakers_25 : decode cX1_markTakers 25 = .ok (.iconst 1, 1) := by decide +kernel
theorem dX1_markTakers_26 : decode cX1_markTakers 26 = .ok (.aload_n 0, 1) := by decide +kernel
theorem dX1_markTakers_27 : decode cX1_markTakers 27 = .ok (.getfield 24, 3) := by decide +kernel
theorem dX1_markTakers_30 : decode cX1_markTakers 30 = .ok (.ishl, 1) := by decide +kernel
theorem dX1_markTakers_31 : decode cX1_markTakers 31 = .ok (.ior, 1) := by decide +kernel
theorem dX1_markTakers_32 : decode cX1_markTakers 32 = .ok (.iastore, 1) := by decide +kernel
theorem dX1_markTakers_33 : decode cX1_markTakers 33 = .ok (.iinc 3 1, 3) := by decide +kernel
theorem dX1_markTakers_36 : decode cX1_markTakers 36 = .ok (.goto (-34), 3) := by decide +kernel
theorem dX1_markTakers_39 : decode cX1_markTakers 39 = .ok (.return_, 1) := by decide +kernel
theorem dX1_markBars_0 : decode cX1_markBars 0 = .ok (.aload_n 0, 1) := by decide +kernel
theorem dX1_markBars_1 : decode cX1_markBars 1 = .ok (.getfield 24, 3) := by decide +kernel
theorem dX1_markBars_4 : decode cX1_markBars 4 = .ok (.istore 4, 2) := by decide +kernel
theorem dX1_markBars_6 : decode cX1_markBars 6 = .ok (.aload_n 0, 1) := by decide +kernel
theorem dX1_markBars_7 : decode cX1_markBars 7 = .ok (.getfield 18, 3) := by decide +kernel
theorem dX1_markBars_10 : decode cX1_markBars 10 = .ok (.iload 4, 2) := by decide +kernel
theorem dX1_markBars_12 : decode cX1_markBars 12 = .ok (.iload_n 2, 1) := by decide +kernel
theorem dX1_markBars_13 : decode cX1_markBars 13 = .ok (.iastore, 1) := by decide +kernel
theorem dX1_markBars_14 : decode cX1_markBars 14 = .ok (.aload_n 0, 1) := by decide +kernel
theorem dX1_markBars_15 : decode cX1_markBars 15 = .ok (.getfield 15, 3) := by decide +kernel
theorem dX1_markBars_18 : decode cX1_markBars 18 = .ok (.iload 4, 2) := by decide +kernel
theorem dX1_markBars_20 : decode cX1_markBars 20 = .ok (.iconst 1, 1) := by decide +kernel
theorem dX1_markBars_21 : decode cX1_markBars 21 = .ok (.iload 4, 2) := by decide +kernel
theorem dX1_markBars_23 : decode cX1_markBars 23 = .ok (.ishl, 1) := by decide +kernel
theorem dX1_markBars_24 : decode cX1_markBars 24 = .ok (.iastore, 1) := by decide +kernel
theorem dX1_markBars_25 : decode cX1_markBars 25 = .ok (.iconst 0, 1) := by decide +kernel
theorem dX1_markBars_26 : decode cX1_markBars 26 = .ok (.istore 5, 2) := by decide +kernel
theorem dX1_markBars_28 : decode cX1_markBars 28 = .ok (.iload 5, 2) := by decide +kernel
theorem dX1_markBars_30 : decode cX1_markBars 30 = .ok (.iload 4, 2) := by decide +kernel
theorem dX1_markBars_32 : decode cX1_markBars 32 = .ok (.if_icmp .ge 72, 3) := by decide +kernel
theorem dX1_markBars_35 : decode cX1_markBars 35 = .ok (.aload_n 0, 1) := by decide +kernel
theorem dX1_markBars_36 : decode cX1_markBars 36 = .ok (.getfield 15, 3) := by decide +kernel
theorem dX1_markBars_39 : decode cX1_markBars 39 = .ok (.iload 5, 2) := by decide +kernel
theorem dX1_markBars_41 : decode cX1_markBars 41 = .ok (.dup2, 1) := by decide +kernel
theorem dX1_markBars_42 : decode cX1_markBars 42 = .ok (.iaload, 1) := by decide +kernel
theorem dX1_markBars_43 : decode cX1_markBars 43 = .ok (.iconst 1, 1) := by decide +kernel
theorem dX1_markBars_44 : decode cX1_markBars 44 = .ok (.iload 4, 2) := by decide +kernel
theorem dX1_markBars_46 : decode cX1_markBars 46 = .ok (.ishl, 1) := by decide +kernel
theorem dX1_markBars_47 : decode cX1_markBars 47 = .ok (.iconst (-1), 1) := by decide +kernel
theorem dX1_markBars_48 : decode cX1_markBars 48 = .ok (.ixor, 1) := by decide +kernel
theorem dX1_markBars_49 : decode cX1_markBars 49 = .ok (.iand, 1) := by decide +kernel
theorem dX1_markBars_50 : decode cX1_markBars 50 = .ok (.iastore, 1) := by decide +kernel
theorem dX1_markBars_51 : decode cX1_markBars 51 = .ok (.aload_n 1, 1) := by decide +kernel
theorem dX1_markBars_52 : decode cX1_markBars 52 = .ok (.iload_n 2, 1) := by decide +kernel
theorem dX1_markBars_53 : decode cX1_markBars 53 = .ok (.aaload, 1) := by decide +kernel
theorem dX1_markBars_54 : decode cX1_markBars 54 = .ok (.aload_n 1, 1) := by decide +kernel
theorem dX1_markBars_55 : decode cX1_markBars 55 = .ok (.aload_n 0, 1) := by decide +kernel
theorem dX1_markBars_56 : decode cX1_markBars 56 = .ok (.getfield 18, 3) := by decide +kernel
theorem dX1_markBars_59 : decode cX1_markBars 59 = .ok (.iload 5, 2) := by decide +kernel
theorem dX1_markBars_61 : decode cX1_markBars 61 = .ok (.iaload, 1) := by decide +kernel
theorem dX1_markBars_62 : decode cX1_markBars 62 = .ok (.aaload, 1) := by decide +kernel
theorem dX1_markBars_63 : decode cX1_markBars 63 = .ok (.iload_n 3, 1) := by decide +kernel
theorem dX1_markBars_64 : decode cX1_markBars 64 = .ok (.invokevirtual 68, 3) := by decide +kernel
theorem dX1_markBars_67 : decode cX1_markBars 67 = .ok (.ifCond .eq 31, 3) := by decide +kernel
theorem dX1_markBars_70 : decode cX1_markBars 70 = .ok (.aload_n 0, 1) := by decide +kernel
theorem dX1_markBars_71 : decode cX1_markBars 71 = .ok (.getfield 15, 3) := by decide +kernel
theorem dX1_markBars_74 : decode cX1_markBars 74 = .ok (.iload 5, 2) := by decide +kernel
theorem dX1_markBars_76 : decode cX1_markBars 76 = .ok (.dup2, 1) := by decide +kernel
theorem dX1_markBars_77 : decode cX1_markBars 77 = .ok (.iaload, 1) := by decide +kernel
theorem dX1_markBars_78 : decode cX1_markBars 78 = .ok (.iconst 1, 1) := by decide +kernel
theorem dX1_markBars_79 : decode cX1_markBars 79 = .ok (.iload 4, 2) := by decide +kernel
theorem dX1_markBars_81 : decode cX1_markBars 81 = .ok (.ishl, 1) := by decide +kernel
theorem dX1_markBars_82 : decode cX1_markBars 82 = .ok (.ior, 1) := by decide +kernel
theorem dX1_markBars_83 : decode cX1_markBars 83 = .ok (.iastore, 1) := by decide +kernel
theorem dX1_markBars_84 : decode cX1_markBars 84 = .ok (.aload_n 0, 1) := by decide +kernel
theorem dX1_markBars_85 : decode cX1_markBars 85 = .ok (.getfield 15, 3) := by decide +kernel
theorem dX1_markBars_88 : decode cX1_markBars 88 = .ok (.iload 4, 2) := by decide +kernel
theorem dX1_markBars_90 : decode cX1_markBars 90 = .ok (.dup2, 1) := by decide +kernel
theorem dX1_markBars_91 : decode cX1_markBars 91 = .ok (.iaload, 1) := by decide +kernel
theorem dX1_markBars_92 : decode cX1_markBars 92 = .ok (.iconst 1, 1) := by decide +kernel
theorem dX1_markBars_93 : decode cX1_markBars 93 = .ok (.iload 5, 2) := by decide +kernel
theorem dX1_markBars_95 : decode cX1_markBars 95 = .ok (.ishl, 1) := by decide +kernel
theorem dX1_markBars_96 : decode cX1_markBars 96 = .ok (.ior, 1) := by decide +kernel
theorem dX1_markBars_97 : decode cX1_markBars 97 = .ok (.iastore, 1) := by decide +kernel
theorem dX1_markBars_98 : decode cX1_markBars 98 = .ok (.iinc 5 1, 3) := by decide +kernel
theorem dX1_markBars_101 : decode cX1_markBars 101 = .ok (.goto (-73), 3) := by decide +kernel
theorem dX1_markBars_104 : decode cX1_markBars 104 = .ok (.return_, 1) := by decide +kernel
theorem dX1_lowerAll_0 : decode cX1_lowerAll 0 = .ok (.aload_n 0, 1) := by decide +kernel
theorem dX1_lowerAll_1 : decode cX1_lowerAll 1 = .ok (.invokevirtual 51, 3) := by decide +kernel
theorem dX1_lowerAll_4 : decode cX1_lowerAll 4 = .ok (.istore_n 1, 1) := by decide +kernel
theorem dX1_lowerAll_5 : decode cX1_lowerAll 5 = .ok (.iconst 0, 1) := by decide +kernel
theorem dX1_lowerAll_6 : decode cX1_lowerAll 6 = .ok (.istore_n 2, 1) := by decide +kernel
theorem dX1_lowerAll_7 : decode cX1_lowerAll 7 = .ok (.iload_n 2, 1) := by decide +kernel
theorem dX1_lowerAll_8 : decode cX1_lowerAll 8 = .ok (.aload_n 0, 1) := by decide +kernel
theorem dX1_lowerAll_9 : decode cX1_lowerAll 9 = .ok (.getfield 24, 3) := by decide +kernel
theorem dX1_lowerAll_12 : decode cX1_lowerAll 12 = .ok (.if_icmp .ge 108, 3) := by decide +kernel
theorem dX1_lowerAll_15 : decode cX1_lowerAll 15 = .ok (.aload_n 0, 1) := by decide +kernel
theorem dX1_lowerAll_16 : decode cX1_lowerAll 16 = .ok (.iload_n 2, 1) := by decide +kernel
theorem dX1_lowerAll_17 : decode cX1_lowerAll 17 = .ok (.iload_n 1, 1) := by decide +kernel
theorem dX1_lowerAll_18 : decode cX1_lowerAll 18 = .ok (.invokevirtual 54, 3) := by decide +kernel
theorem dX1_lowerAll_21 : decode cX1_lowerAll 21 = .ok (.istore_n 3, 1) := by decide +kernel
theorem dX1_lowerAll_22 : decode cX1_lowerAll 22 = .ok (.aload_n 0, 1) := by decide +kernel
theorem dX1_lowerAll_23 : decode cX1_lowerAll 23 = .ok (.getfield 21, 3) := by decide +kernel
theorem dX1_lowerAll_26 : decode cX1_lowerAll 26 = .ok (.iload_n 2, 1) := by decide +kernel
theorem dX1_lowerAll_27 : decode cX1_lowerAll 27 = .ok (.iaload, 1) := by decide +kernel
theorem dX1_lowerAll_28 : decode cX1_lowerAll 28 = .ok (.istore 4, 2) := by decide +kernel
theorem dX1_lowerAll_30 : decode cX1_lowerAll 30 = .ok (.iconst 0, 1) := by decide +kernel
theorem dX1_lowerAll_31 : decode cX1_lowerAll 31 = .ok (.istore 5, 2) := by decide +kernel
theorem dX1_lowerAll_33 : decode cX1_lowerAll 33 = .ok (.iconst 0, 1) := by decide +kernel
theorem dX1_lowerAll_34 : decode cX1_lowerAll 34 = .ok (.istore 6, 2) := by decide +kernel
theorem dX1_lowerAll_36 : decode cX1_lowerAll 36 = .ok (.iload 6, 2) := by decide +kernel
theorem dX1_lowerAll_38 : decode cX1_lowerAll 38 = .ok (.iload 4, 2) := by decide +kernel
theorem dX1_lowerAll_40 : decode cX1_lowerAll 40 = .ok (.if_icmp .ge 44, 3) := by decide +kernel
theorem dX1_lowerAll_43 : decode cX1_lowerAll 43 = .ok (.iload 5, 2) := by decide +kernel
theorem dX1_lowerAll_45 : decode cX1_lowerAll 45 = .ok (.ifCond .ne 39, 3) := by decide +kernel
theorem dX1_lowerAll_48 : decode cX1_lowerAll 48 = .ok (.aload_n 0, 1) := by decide +kernel
theorem dX1_lowerAll_49 : decode cX1_lowerAll 49 = .ok (.iload 6, 2) := by decide +kernel
theorem dX1_lowerAll_51 : decode cX1_lowerAll 51 = .ok (.iload_n 2, 1) := by decide +kernel
theorem dX1_lowerAll_52 : decode cX1_lowerAll 52 = .ok (.iload_n 3, 1) := by decide +kernel
theorem dX1_lowerAll_53 : decode cX1_lowerAll 53 = .ok (.invokevirtual 72, 3) := by decide +kernel
theorem dX1_lowerAll_56 : decode cX1_lowerAll 56 = .ok (.ifCond .eq 19, 3) := by decide +kernel
theorem dX1_lowerAll_59 : decode cX1_lowerAll 59 = .ok (.aload_n 0, 1) := by decide +kernel
theorem dX1_lowerAll_60 : decode cX1_lowerAll 60 = .ok (.iload_n 2, 1) := by decide +kernel
theorem dX1_lowerAll_61 : decode cX1_lowerAll 61 = .ok (.iload 6, 2) := by decide +kernel
theorem dX1_lowerAll_63 : decode cX1_lowerAll 63 = .ok (.iload_n 3, 1) := by decide +kernel
theorem dX1_lowerAll_64 : decode cX1_lowerAll 64 = .ok (.iload_n 2, 1) := by decide +kernel
theorem dX1_lowerAll_65 : decode cX1_lowerAll 65 = .ok (.invokevirtual 76, 3) := by decide +kernel
theorem dX1_lowerAll_68 : decode cX1_lowerAll 68 = .ok (.ifCond .eq 7, 3) := by decide +kernel
theorem dX1_lowerAll_71 : decode cX1_lowerAll 71 = .ok (.iconst 1, 1) := by decide +kernel
theorem dX1_lowerAll_72 : decode cX1_lowerAll 72 = .ok (.goto 4, 3) := by decide +kernel
theorem dX1_lowerAll_75 : decode cX1_lowerAll 75 = .ok (.iconst 0, 1) := by decide +kernel
theorem dX1_lowerAll_76 : decode cX1_lowerAll 76 = .ok (.istore 5, 2) := by decide +kernel
theorem dX1_lowerAll_78 : decode cX1_lowerAll 78 = .ok (.iinc 6 1, 3) := by decide +kernel
theorem dX1_lowerAll_81 : decode cX1_lowerAll 81 = .ok (.goto (-45), 3) := by decide +kernel
theorem dX1_lowerAll_84 : decode cX1_lowerAll 84 = .ok (.aload_n 0, 1) := by decide +kernel
theorem dX1_lowerAll_85 : decode cX1_lowerAll 85 = .ok (.getfield 9, 3) := by decide +kernel
theorem dX1_lowerAll_88 : decode cX1_lowerAll 88 = .ok (.aload_n 0, 1) := by decide +kernel
theorem dX1_lowerAll_89 : decode cX1_lowerAll 89 = .ok (.getfield 21, 3) := by decide +kernel
theorem dX1_lowerAll_92 : decode cX1_lowerAll 92 = .ok (.iload_n 2, 1) := by decide +kernel
theorem dX1_lowerAll_93 : decode cX1_lowerAll 93 = .ok (.iaload, 1) := by decide +kernel
theorem dX1_lowerAll_94 : decode cX1_lowerAll 94 = .ok (.dup2, 1) := by decide +kernel
theorem dX1_lowerAll_95 : decode cX1_lowerAll 95 = .ok (.iaload, 1) := by decide +kernel
theorem dX1_lowerAll_96 : decode cX1_lowerAll 96 = .ok (.aload_n 0, 1) := by decide +kernel
theorem dX1_lowerAll_97 : decode cX1_lowerAll 97 = .ok (.getfield 15, 3) := by decide +kernel
theorem dX1_lowerAll_100 : decode cX1_lowerAll 100 = .ok (.iload_n 2, 1) := by decide +kernel
theorem dX1_lowerAll_101 : decode cX1_lowerAll 101 = .ok (.iaload, 1) := by decide +kernel
theorem dX1_lowerAll_102 : decode cX1_lowerAll 102 = .ok (.iconst (-1), 1) := by decide +kernel
theorem dX1_lowerAll_103 : decode cX1_lowerAll 103 = .ok (.ixor, 1) := by decide +kernel
theorem dX1_lowerAll_104 : decode cX1_lowerAll 104 = .ok (.iand, 1) := by decide +kernel
theorem dX1_lowerAll_105 : decode cX1_lowerAll 105 = .ok (.iastore, 1) := by decide +kernel
theorem dX1_lowerAll_106 : decode cX1_lowerAll 106 = .ok (.iload_n 1, 1) := by decide +kernel
theorem dX1_lowerAll_107 : decode cX1_lowerAll 107 = .ok (.iconst 1, 1) := by decide +kernel
theorem dX1_lowerAll_108 : decode cX1_lowerAll 108 = .ok (.iload_n 2, 1) := by decide +kernel
theorem dX1_lowerAll_109 : decode cX1_lowerAll 109 = .ok (.ishl, 1) := by decide +kernel
theorem dX1_lowerAll_110 : decode cX1_lowerAll 110 = .ok (.iconst (-1), 1) := by decide +kernel
theorem dX1_lowerAll_111 : decode cX1_lowerAll 111 = .ok (.ixor, 1) := by decide +kernel
theorem dX1_lowerAll_112 : decode cX1_lowerAll 112 = .ok (.iand, 1) := by decide +kernel
theorem dX1_lowerAll_113 : decode cX1_lowerAll 113 = .ok (.istore_n 1, 1) := by decide +kernel
theorem dX1_lowerAll_114 : decode cX1_lowerAll 114 = .ok (.iinc 2 1, 3) := by decide +kernel
theorem dX1_lowerAll_117 : decode cX1_lowerAll 117 = .ok (.goto (-110), 3) := by decide +kernel
theorem dX1_lowerAll_120 : decode cX1_lowerAll 120 = .ok (.return_, 1) := by decide +kernel
theorem dX1_tiedTo_0 : decode cX1_tiedTo 0 = .ok (.iconst 1, 1) := by decide +kernel
theorem dX1_tiedTo_1 : decode cX1_tiedTo 1 = .ok (.iload_n 1, 1) := by decide +kernel
theorem dX1_tiedTo_2 : decode cX1_tiedTo 2 = .ok (.ishl, 1) := by decide +kernel
theorem dX1_tiedTo_3 : decode cX1_tiedTo 3 = .ok (.istore_n 3, 1) := by decide +kernel
theorem dX1_tiedTo_4 : decode cX1_tiedTo 4 = .ok (.iconst 0, 1) := by decide +kernel
theorem dX1_tiedTo_5 : decode cX1_tiedTo 5 = .ok (.istore 4, 2) := by decide +kernel
theorem dX1_tiedTo_7 : decode cX1_tiedTo 7 = .ok (.iconst 0, 1) := by decide +kernel
theorem dX1_tiedTo_8 : decode cX1_tiedTo 8 = .ok (.istore 5, 2) := by decide +kernel
theorem dX1_tiedTo_10 : decode cX1_tiedTo 10 = .ok (.iload 5, 2) := by decide +kernel
theorem dX1_tiedTo_12 : decode cX1_tiedTo 12 = .ok (.bipush 12, 2) := by decide +kernel
theorem dX1_tiedTo_14 : decode cX1_tiedTo 14 = .ok (.if_icmp .ge 57, 3) := by decide +kernel
theorem dX1_tiedTo_17 : decode cX1_tiedTo 17 = .ok (.iload_n 3, 1) := by decide +kernel
theorem dX1_tiedTo_18 : decode cX1_tiedTo 18 = .ok (.iload 4, 2) := by decide +kernel
theorem dX1_tiedTo_20 : decode cX1_tiedTo 20 = .ok (.if_icmp .eq 51, 3) := by decide +kernel
theorem dX1_tiedTo_23 : decode cX1_tiedTo 23 = .ok (.iload_n 3, 1) := by decide +kernel
theorem dX1_tiedTo_24 : decode cX1_tiedTo 24 = .ok (.istore 4, 2) := by decide +kernel
theorem dX1_tiedTo_26 : decode cX1_tiedTo 26 = .ok (.iconst 0, 1) := by decide +kernel
theorem dX1_tiedTo_27 : decode cX1_tiedTo 27 = .ok (.istore 6, 2) := by decide +kernel
theorem dX1_tiedTo_29 : decode cX1_tiedTo 29 = .ok (.iload 6, 2) := by decide +kernel
theorem dX1_tiedTo_31 : decode cX1_tiedTo 31 = .ok (.aload_n 0, 1) := by decide +kernel
theorem dX1_tiedTo_32 : decode cX1_tiedTo 32 = .ok (.getfield 24, 3) := by decide +kernel
theorem dX1_tiedTo_35 : decode cX1_tiedTo 35 = .ok (.if_icmp .ge 30, 3) := by decide +kernel
theorem dX1_tiedTo_38 : decode cX1_tiedTo 38 = .ok (.iload_n 3, 1) := by decide +kernel
theorem dX1_tiedTo_39 : decode cX1_tiedTo 39 = .ok (.iload 6, 2) := by decide +kernel
theorem dX1_tiedTo_41 : decode cX1_tiedTo 41 = .ok (.invokestatic 80, 3) := by decide +kernel
theorem dX1_tiedTo_44 : decode cX1_tiedTo 44 = .ok (.ifCond .eq 15, 3) := by decide +kernel
theorem dX1_tiedTo_47 : decode cX1_tiedTo 47 = .ok (.iload_n 3, 1) := by decide +kernel
theorem dX1_tiedTo_48 : decode cX1_tiedTo 48 = .ok (.aload_n 0, 1) := by decide +kernel
theorem dX1_tiedTo_49 : decode cX1_tiedTo 49 = .ok (.getfield 15, 3) := by decide +kernel
theorem dX1_tiedTo_52 : decode cX1_tiedTo 52 = .ok (.iload 6, 2) := by decide +kernel
theorem dX1_tiedTo_54 : decode cX1_tiedTo 54 = .ok (.iaload, 1) := by decide +kernel
theorem dX1_tiedTo_55 : decode cX1_tiedTo 55 = .ok (.iload_n 2, 1) := by decide +kernel
theorem dX1_tiedTo_56 : decode cX1_tiedTo 56 = .ok (.iand, 1) := by decide +kernel
theorem dX1_tiedTo_57 : decode cX1_tiedTo 57 = .ok (.ior, 1) := by decide +kernel
theorem dX1_tiedTo_58 : decode cX1_tiedTo 58 = .ok (.istore_n 3, 1) := by decide +kernel
theorem dX1_tiedTo_59 : decode cX1_tiedTo 59 = .ok (.iinc 6 1, 3) := by decide +kernel
theorem dX1_tiedTo_62 : decode cX1_tiedTo 62 = .ok (.goto (-33), 3) := by decide +kernel
theorem dX1_tiedTo_65 : decode cX1_tiedTo 65 = .ok (.iinc 5 1, 3) := by decide +kernel
theorem dX1_tiedTo_68 : decode cX1_tiedTo 68 = .ok (.goto (-58), 3) := by decide +kernel
theorem dX1_tiedTo_71 : decode cX1_tiedTo 71 = .ok (.iload_n 3, 1) := by decide +kernel
theorem dX1_tiedTo_72 : decode cX1_tiedTo 72 = .ok (.ireturn, 1) := by decide +kernel
theorem dX1_canFill_0 : decode cX1_canFill 0 = .ok (.iload_n 1, 1) := by decide +kernel
theorem dX1_canFill_1 : decode cX1_canFill 1 = .ok (.ifCond .ne 5, 3) := by decide +kernel
theorem dX1_canFill_4 : decode cX1_canFill 4 = .ok (.iconst 1, 1) := by decide +kernel
theorem dX1_canFill_5 : decode cX1_canFill 5 = .ok (.ireturn, 1) := by decide +kernel
theorem dX1_canFill_6 : decode cX1_canFill 6 = .ok (.aload_n 0, 1) := by decide +kernel
theorem dX1_canFill_7 : decode cX1_canFill 7 = .ok (.iload_n 1, 1) := by decide +kernel
theorem dX1_canFill_8 : decode cX1_canFill 8 = .ok (.invokevirtual 83, 3) := by decide +kernel
theorem dX1_canFill_11 : decode cX1_canFill 11 = .ok (.istore_n 3, 1) := by decide +kernel
theorem dX1_canFill_12 : decode cX1_canFill 12 = .ok (.iconst 0, 1) := by decide +kernel
theorem dX1_canFill_13 : decode cX1_canFill 13 = .ok (.istore 4, 2) := by decide +kernel
theorem dX1_canFill_15 : decode cX1_canFill 15 = .ok (.iload 4, 2) := by decide +kernel
theorem dX1_canFill_17 : decode cX1_canFill 17 = .ok (.bipush 6, 2) := by decide +kernel
theorem dX1_canFill_19 : decode cX1_canFill 19 = .ok (.if_icmp .ge 34, 3) := by decide +kernel
theorem dX1_canFill_22 : decode cX1_canFill 22 = .ok (.aload_n 0, 1) := by decide +kernel
theorem dX1_canFill_23 : decode cX1_canFill 23 = .ok (.iload 4, 2) := by decide +kernel
theorem dX1_canFill_25 : decode cX1_canFill 25 = .ok (.iload_n 3, 1) := by decide +kernel
theorem dX1_canFill_26 : decode cX1_canFill 26 = .ok (.iload_n 1, 1) := by decide +kernel
theorem dX1_canFill_27 : decode cX1_canFill 27 = .ok (.invokevirtual 72, 3) := by decide +kernel
theorem dX1_canFill_30 : decode cX1_canFill 30 = .ok (.ifCond .eq 17, 3) := by decide +kernel
theorem dX1_canFill_33 : decode cX1_canFill 33 = .ok (.aload_n 0, 1) := by decide +kernel
theorem dX1_canFill_34 : decode cX1_canFill 34 = .ok (.iload_n 3, 1) := by decide +kernel
theorem dX1_canFill_35 : decode cX1_canFill 35 = .ok (.iload 4, 2) := by decide +kernel
theorem dX1_canFill_37 : decode cX1_canFill 37 = .ok (.iload_n 1, 1) := by decide +kernel
theorem dX1_canFill_38 : decode cX1_canFill 38 = .ok (.iload_n 2, 1) := by decide +kernel
theorem dX1_canFill_39 : decode cX1_canFill 39 = .ok (.invokevirtual 76, 3) := by decide +kernel
theorem dX1_canFill_42 : decode cX1_canFill 42 = .ok (.ifCond .eq 5, 3) := by decide +kernel
theorem dX1_canFill_45 : decode cX1_canFill 45 = .ok (.iconst 1, 1) := by decide +kernel
theorem dX1_canFill_46 : decode cX1_canFill 46 = .ok (.ireturn, 1) := by decide +kernel
theorem dX1_canFill_47 : decode cX1_canFill 47 = .ok (.iinc 4 1, 3) := by decide +kernel
theorem dX1_canFill_50 : decode cX1_canFill 50 = .ok (.goto (-35), 3) := by decide +kernel
theorem dX1_canFill_53 : decode cX1_canFill 53 = .ok (.iconst 0, 1) := by decide +kernel
theorem dX1_canFill_54 : decode cX1_canFill 54 = .ok (.ireturn, 1) := by decide +kernel
theorem dX1_canGive_0 : decode cX1_canGive 0 = .ok (.iload 4, 2) := by decide +kernel
theorem dX1_canGive_2 : decode cX1_canGive 2 = .ok (.bipush 12, 2) := by decide +kernel
theorem dX1_canGive_4 : decode cX1_canGive 4 = .ok (.if_icmp .lt 5, 3) := by decide +kernel
theorem dX1_canGive_7 : decode cX1_canGive 7 = .ok (.iconst 0, 1) := by decide +kernel
theorem dX1_canGive_8 : decode cX1_canGive 8 = .ok (.ireturn, 1) := by decide +kernel
theorem dX1_canGive_9 : decode cX1_canGive 9 = .ok (.aload_n 0, 1) := by decide +kernel
theorem dX1_canGive_10 : decode cX1_canGive 10 = .ok (.getfield 9, 3) := by decide +kernel
theorem dX1_canGive_13 : decode cX1_canGive 13 = .ok (.iload_n 2, 1) := by decide +kernel
theorem dX1_canGive_14 : decode cX1_canGive 14 = .ok (.iaload, 1) := by decide +kernel
theorem dX1_canGive_15 : decode cX1_canGive 15 = .ok (.istore 5, 2) := by decide +kernel
theorem dX1_canGive_17 : decode cX1_canGive 17 = .ok (.aload_n 0, 1) := by decide +kernel
theorem dX1_canGive_18 : decode cX1_canGive 18 = .ok (.getfield 9, 3) := by decide +kernel
theorem dX1_canGive_21 : decode cX1_canGive 21 = .ok (.iload_n 2, 1) := by decide +kernel
theorem dX1_canGive_22 : decode cX1_canGive 22 = .ok (.iload 5, 2) := by decide +kernel
theorem dX1_canGive_24 : decode cX1_canGive 24 = .ok (.aload_n 0, 1) := by decide +kernel
theorem dX1_canGive_25 : decode cX1_canGive 25 = .ok (.getfield 15, 3) := by decide +kernel
theorem dX1_canGive_28 : decode cX1_canGive 28 = .ok (.iload_n 1, 1) := by decide +kernel
theorem dX1_canGive_29 : decode cX1_canGive 29 = .ok (.iaload, 1) := by decide +kernel
theorem dX1_canGive_30 : decode cX1_canGive 30 = .ok (.iconst (-1), 1) := by decide +kernel
theorem dX1_canGive_31 : decode cX1_canGive 31 = .ok (.ixor, 1) := by decide +kernel
theorem dX1_canGive_32 : decode cX1_canGive 32 = .ok (.iand, 1) := by decide +kernel
theorem dX1_canGive_33 : decode cX1_canGive 33 = .ok (.iastore, 1) := by decide +kernel
theorem dX1_canGive_34 : decode cX1_canGive 34 = .ok (.aload_n 0, 1) := by decide +kernel
theorem dX1_canGive_35 : decode cX1_canGive 35 = .ok (.iload_n 3, 1) := by decide +kernel
theorem dX1_canGive_36 : decode cX1_canGive 36 = .ok (.iconst 1, 1) := by decide +kernel
theorem dX1_canGive_37 : decode cX1_canGive 37 = .ok (.iload_n 1, 1) := by decide +kernel
theorem dX1_canGive_38 : decode cX1_canGive 38 = .ok (.ishl, 1) := by decide +kernel
theorem dX1_canGive_39 : decode cX1_canGive 39 = .ok (.iconst (-1), 1) := by decide +kernel
theorem dX1_canGive_40 : decode cX1_canGive 40 = .ok (.ixor, 1) := by decide +kernel
theorem dX1_canGive_41 : decode cX1_canGive 41 = .ok (.iand, 1) := by decide +kernel
theorem dX1_canGive_42 : decode cX1_canGive 42 = .ok (.iload 4, 2) := by decide +kernel
theorem dX1_canGive_44 : decode cX1_canGive 44 = .ok (.iconst 1, 1) := by decide +kernel
theorem dX1_canGive_45 : decode cX1_canGive 45 = .ok (.iadd, 1) := by decide +kernel
theorem dX1_canGive_46 : decode cX1_canGive 46 = .ok (.invokevirtual 58, 3) := by decide +kernel
theorem dX1_canGive_49 : decode cX1_canGive 49 = .ok (.istore 6, 2) := by decide +kernel
end
section
theorem dX1_canGive_51 : decode cX1_canGive 51 = .ok (.aload_n 0, 1) := by decide +kernel
theorem dX1_canGive_52 : decode cX1_canGive 52 = .ok (.getfield 9, 3) := by decide +kernel
theorem dX1_canGive_55 : decode cX1_canGive 55 = .ok (.iload_n 2, 1) := by decide +kernel
theorem dX1_canGive_56 : decode cX1_canGive 56 = .ok (.iload 5, 2) := by decide +kernel
theorem dX1_canGive_58 : decode cX1_canGive 58 = .ok (.iastore, 1) := by decide +kernel
theorem dX1_canGive_59 : decode cX1_canGive 59 = .ok (.iload 6, 2) := by decide +kernel
theorem dX1_canGive_61 : decode cX1_canGive 61 = .ok (.ifCond .eq 10, 3) := by decide +kernel
theorem dX1_canGive_64 : decode cX1_canGive 64 = .ok (.aload_n 0, 1) := by decide +kernel
theorem dX1_canGive_65 : decode cX1_canGive 65 = .ok (.getfield 21, 3) := by decide +kernel
theorem dX1_canGive_68 : decode cX1_canGive 68 = .ok (.iload_n 1, 1) := by decide +kernel
theorem dX1_canGive_69 : decode cX1_canGive 69 = .ok (.iload_n 2, 1) := by decide +kernel
theorem dX1_canGive_70 : decode cX1_canGive 70 = .ok (.iastore, 1) := by decide +kernel
theorem dX1_canGive_71 : decode cX1_canGive 71 = .ok (.iload 6, 2) := by decide +kernel
theorem dX1_canGive_73 : decode cX1_canGive 73 = .ok (.ireturn, 1) := by decide +kernel
theorem dX1_isWorthTrying_0 : decode cX1_isWorthTrying 0 = .ok (.iconst 0, 1) := by decide +kernel
theorem dX1_isWorthTrying_1 : decode cX1_isWorthTrying 1 = .ok (.istore 4, 2) := by decide +kernel
theorem dX1_isWorthTrying_3 : decode cX1_isWorthTrying 3 = .ok (.iload 4, 2) := by decide +kernel
theorem dX1_isWorthTrying_5 : decode cX1_isWorthTrying 5 = .ok (.iload_n 1, 1) := by decide +kernel
theorem dX1_isWorthTrying_6 : decode cX1_isWorthTrying 6 = .ok (.if_icmp .ge 31, 3) := by decide +kernel
theorem dX1_isWorthTrying_9 : decode cX1_isWorthTrying 9 = .ok (.aload_n 0, 1) := by decide +kernel
theorem dX1_isWorthTrying_10 : decode cX1_isWorthTrying 10 = .ok (.getfield 9, 3) := by decide +kernel
theorem dX1_isWorthTrying_13 : decode cX1_isWorthTrying 13 = .ok (.iload 4, 2) := by decide +kernel
theorem dX1_isWorthTrying_15 : decode cX1_isWorthTrying 15 = .ok (.iaload, 1) := by decide +kernel
theorem dX1_isWorthTrying_16 : decode cX1_isWorthTrying 16 = .ok (.iload_n 3, 1) := by decide +kernel
theorem dX1_isWorthTrying_17 : decode cX1_isWorthTrying 17 = .ok (.iand, 1) := by decide +kernel
theorem dX1_isWorthTrying_18 : decode cX1_isWorthTrying 18 = .ok (.aload_n 0, 1) := by decide +kernel
theorem dX1_isWorthTrying_19 : decode cX1_isWorthTrying 19 = .ok (.getfield 9, 3) := by decide +kernel
theorem dX1_isWorthTrying_22 : decode cX1_isWorthTrying 22 = .ok (.iload_n 1, 1) := by decide +kernel
theorem dX1_isWorthTrying_23 : decode cX1_isWorthTrying 23 = .ok (.iaload, 1) := by decide +kernel
theorem dX1_isWorthTrying_24 : decode cX1_isWorthTrying 24 = .ok (.iload_n 3, 1) := by decide +kernel
theorem dX1_isWorthTrying_25 : decode cX1_isWorthTrying 25 = .ok (.iand, 1) := by decide +kernel
theorem dX1_isWorthTrying_26 : decode cX1_isWorthTrying 26 = .ok (.if_icmp .ne 5, 3) := by decide +kernel
theorem dX1_isWorthTrying_29 : decode cX1_isWorthTrying 29 = .ok (.iconst 0, 1) := by decide +kernel
theorem dX1_isWorthTrying_30 : decode cX1_isWorthTrying 30 = .ok (.ireturn, 1) := by decide +kernel
theorem dX1_isWorthTrying_31 : decode cX1_isWorthTrying 31 = .ok (.iinc 4 1, 3) := by decide +kernel
theorem dX1_isWorthTrying_34 : decode cX1_isWorthTrying 34 = .ok (.goto (-31), 3) := by decide +kernel
theorem dX1_isWorthTrying_37 : decode cX1_isWorthTrying 37 = .ok (.aload_n 0, 1) := by decide +kernel
theorem dX1_isWorthTrying_38 : decode cX1_isWorthTrying 38 = .ok (.getfield 9, 3) := by decide +kernel
theorem dX1_isWorthTrying_41 : decode cX1_isWorthTrying 41 = .ok (.iload_n 1, 1) := by decide +kernel
theorem dX1_isWorthTrying_42 : decode cX1_isWorthTrying 42 = .ok (.iaload, 1) := by decide +kernel
theorem dX1_isWorthTrying_43 : decode cX1_isWorthTrying 43 = .ok (.iload_n 2, 1) := by decide +kernel
theorem dX1_isWorthTrying_44 : decode cX1_isWorthTrying 44 = .ok (.invokestatic 80, 3) := by decide +kernel
theorem dX1_isWorthTrying_47 : decode cX1_isWorthTrying 47 = .ok (.ireturn, 1) := by decide +kernel
theorem dX1_hardestOf_0 : decode cX1_hardestOf 0 = .ok (.iconst 0, 1) := by decide +kernel
theorem dX1_hardestOf_1 : decode cX1_hardestOf 1 = .ok (.istore_n 2, 1) := by decide +kernel
theorem dX1_hardestOf_2 : decode cX1_hardestOf 2 = .ok (.bipush 7, 2) := by decide +kernel
theorem dX1_hardestOf_4 : decode cX1_hardestOf 4 = .ok (.istore_n 3, 1) := by decide +kernel
theorem dX1_hardestOf_5 : decode cX1_hardestOf 5 = .ok (.iconst 0, 1) := by decide +kernel
theorem dX1_hardestOf_6 : decode cX1_hardestOf 6 = .ok (.istore 4, 2) := by decide +kernel
theorem dX1_hardestOf_8 : decode cX1_hardestOf 8 = .ok (.iconst 0, 1) := by decide +kernel
theorem dX1_hardestOf_9 : decode cX1_hardestOf 9 = .ok (.istore 5, 2) := by decide +kernel
theorem dX1_hardestOf_11 : decode cX1_hardestOf 11 = .ok (.iload 5, 2) := by decide +kernel
theorem dX1_hardestOf_13 : decode cX1_hardestOf 13 = .ok (.aload_n 0, 1) := by decide +kernel
theorem dX1_hardestOf_14 : decode cX1_hardestOf 14 = .ok (.getfield 24, 3) := by decide +kernel
theorem dX1_hardestOf_17 : decode cX1_hardestOf 17 = .ok (.if_icmp .ge 69, 3) := by decide +kernel
theorem dX1_hardestOf_20 : decode cX1_hardestOf 20 = .ok (.iload_n 1, 1) := by decide +kernel
theorem dX1_hardestOf_21 : decode cX1_hardestOf 21 = .ok (.iload 5, 2) := by decide +kernel
theorem dX1_hardestOf_23 : decode cX1_hardestOf 23 = .ok (.invokestatic 80, 3) := by decide +kernel
theorem dX1_hardestOf_26 : decode cX1_hardestOf 26 = .ok (.ifCond .eq 54, 3) := by decide +kernel
theorem dX1_hardestOf_29 : decode cX1_hardestOf 29 = .ok (.aload_n 0, 1) := by decide +kernel
theorem dX1_hardestOf_30 : decode cX1_hardestOf 30 = .ok (.iload 5, 2) := by decide +kernel
theorem dX1_hardestOf_32 : decode cX1_hardestOf 32 = .ok (.invokevirtual 86, 3) := by decide +kernel
theorem dX1_hardestOf_35 : decode cX1_hardestOf 35 = .ok (.istore 6, 2) := by decide +kernel
theorem dX1_hardestOf_37 : decode cX1_hardestOf 37 = .ok (.aload_n 0, 1) := by decide +kernel
theorem dX1_hardestOf_38 : decode cX1_hardestOf 38 = .ok (.getfield 15, 3) := by decide +kernel
theorem dX1_hardestOf_41 : decode cX1_hardestOf 41 = .ok (.iload 5, 2) := by decide +kernel
theorem dX1_hardestOf_43 : decode cX1_hardestOf 43 = .ok (.iaload, 1) := by decide +kernel
theorem dX1_hardestOf_44 : decode cX1_hardestOf 44 = .ok (.iload_n 1, 1) := by decide +kernel
theorem dX1_hardestOf_45 : decode cX1_hardestOf 45 = .ok (.iand, 1) := by decide +kernel
theorem dX1_hardestOf_46 : decode cX1_hardestOf 46 = .ok (.invokestatic 89, 3) := by decide +kernel
theorem dX1_hardestOf_49 : decode cX1_hardestOf 49 = .ok (.istore 7, 2) := by decide +kernel
theorem dX1_hardestOf_51 : decode cX1_hardestOf 51 = .ok (.iload 6, 2) := by decide +kernel
theorem dX1_hardestOf_53 : decode cX1_hardestOf 53 = .ok (.iload_n 3, 1) := by decide +kernel
theorem dX1_hardestOf_54 : decode cX1_hardestOf 54 = .ok (.if_icmp .lt 16, 3) := by decide +kernel
theorem dX1_hardestOf_57 : decode cX1_hardestOf 57 = .ok (.iload 6, 2) := by decide +kernel
theorem dX1_hardestOf_59 : decode cX1_hardestOf 59 = .ok (.iload_n 3, 1) := by decide +kernel
theorem dX1_hardestOf_60 : decode cX1_hardestOf 60 = .ok (.if_icmp .ne 20, 3) := by decide +kernel
theorem dX1_hardestOf_63 : decode cX1_hardestOf 63 = .ok (.iload 7, 2) := by decide +kernel
theorem dX1_hardestOf_65 : decode cX1_hardestOf 65 = .ok (.iload 4, 2) := by decide +kernel
theorem dX1_hardestOf_67 : decode cX1_hardestOf 67 = .ok (.if_icmp .le 13, 3) := by decide +kernel
theorem dX1_hardestOf_70 : decode cX1_hardestOf 70 = .ok (.iload 5, 2) := by decide +kernel
theorem dX1_hardestOf_72 : decode cX1_hardestOf 72 = .ok (.istore_n 2, 1) := by decide +kernel
theorem dX1_hardestOf_73 : decode cX1_hardestOf 73 = .ok (.iload 6, 2) := by decide +kernel
theorem dX1_hardestOf_75 : decode cX1_hardestOf 75 = .ok (.istore_n 3, 1) := by decide +kernel
theorem dX1_hardestOf_76 : decode cX1_hardestOf 76 = .ok (.iload 7, 2) := by decide +kernel
theorem dX1_hardestOf_78 : decode cX1_hardestOf 78 = .ok (.istore 4, 2) := by decide +kernel
theorem dX1_hardestOf_80 : decode cX1_hardestOf 80 = .ok (.iinc 5 1, 3) := by decide +kernel
theorem dX1_hardestOf_83 : decode cX1_hardestOf 83 = .ok (.goto (-72), 3) := by decide +kernel
theorem dX1_hardestOf_86 : decode cX1_hardestOf 86 = .ok (.iload_n 2, 1) := by decide +kernel
theorem dX1_hardestOf_87 : decode cX1_hardestOf 87 = .ok (.ireturn, 1) := by decide +kernel
theorem dX1_takersOf_0 : decode cX1_takersOf 0 = .ok (.iconst 0, 1) := by decide +kernel
theorem dX1_takersOf_1 : decode cX1_takersOf 1 = .ok (.istore_n 2, 1) := by decide +kernel
theorem dX1_takersOf_2 : decode cX1_takersOf 2 = .ok (.iconst 0, 1) := by decide +kernel
theorem dX1_takersOf_3 : decode cX1_takersOf 3 = .ok (.istore_n 3, 1) := by decide +kernel
theorem dX1_takersOf_4 : decode cX1_takersOf 4 = .ok (.iload_n 3, 1) := by decide +kernel
theorem dX1_takersOf_5 : decode cX1_takersOf 5 = .ok (.bipush 6, 2) := by decide +kernel
theorem dX1_takersOf_7 : decode cX1_takersOf 7 = .ok (.if_icmp .ge 22, 3) := by decide +kernel
theorem dX1_takersOf_10 : decode cX1_takersOf 10 = .ok (.iload_n 2, 1) := by decide +kernel
theorem dX1_takersOf_11 : decode cX1_takersOf 11 = .ok (.aload_n 0, 1) := by decide +kernel
theorem dX1_takersOf_12 : decode cX1_takersOf 12 = .ok (.getfield 9, 3) := by decide +kernel
theorem dX1_takersOf_15 : decode cX1_takersOf 15 = .ok (.iload_n 3, 1) := by decide +kernel
theorem dX1_takersOf_16 : decode cX1_takersOf 16 = .ok (.iaload, 1) := by decide +kernel
theorem dX1_takersOf_17 : decode cX1_takersOf 17 = .ok (.iload_n 1, 1) := by decide +kernel
theorem dX1_takersOf_18 : decode cX1_takersOf 18 = .ok (.ishr, 1) := by decide +kernel
theorem dX1_takersOf_19 : decode cX1_takersOf 19 = .ok (.iconst 1, 1) := by decide +kernel
theorem dX1_takersOf_20 : decode cX1_takersOf 20 = .ok (.iand, 1) := by decide +kernel
theorem dX1_takersOf_21 : decode cX1_takersOf 21 = .ok (.iadd, 1) := by decide +kernel
theorem dX1_takersOf_22 : decode cX1_takersOf 22 = .ok (.istore_n 2, 1) := by decide +kernel
theorem dX1_takersOf_23 : decode cX1_takersOf 23 = .ok (.iinc 3 1, 3) := by decide +kernel
theorem dX1_takersOf_26 : decode cX1_takersOf 26 = .ok (.goto (-22), 3) := by decide +kernel
theorem dX1_takersOf_29 : decode cX1_takersOf 29 = .ok (.iload_n 2, 1) := by decide +kernel
theorem dX1_takersOf_30 : decode cX1_takersOf 30 = .ok (.ireturn, 1) := by decide +kernel
theorem dX2_init_0 : decode cX2_init 0 = .ok (.aload_n 0, 1) := by decide +kernel
theorem dX2_init_1 : decode cX2_init 1 = .ok (.invokespecial 1, 3) := by decide +kernel
theorem dX2_init_4 : decode cX2_init 4 = .ok (.aload_n 0, 1) := by decide +kernel
theorem dX2_init_5 : decode cX2_init 5 = .ok (.iconst 0, 1) := by decide +kernel
theorem dX2_init_6 : decode cX2_init 6 = .ok (.putfield 7, 3) := by decide +kernel
theorem dX2_init_9 : decode cX2_init 9 = .ok (.aload_n 0, 1) := by decide +kernel
theorem dX2_init_10 : decode cX2_init 10 = .ok (.iconst 0, 1) := by decide +kernel
theorem dX2_init_11 : decode cX2_init 11 = .ok (.putfield 13, 3) := by decide +kernel
theorem dX2_init_14 : decode cX2_init 14 = .ok (.aload_n 0, 1) := by decide +kernel
theorem dX2_init_15 : decode cX2_init 15 = .ok (.iconst 0, 1) := by decide +kernel
theorem dX2_init_16 : decode cX2_init 16 = .ok (.putfield 16, 3) := by decide +kernel
theorem dX2_init_19 : decode cX2_init 19 = .ok (.aload_n 0, 1) := by decide +kernel
theorem dX2_init_20 : decode cX2_init 20 = .ok (.iconst 0, 1) := by decide +kernel
theorem dX2_init_21 : decode cX2_init 21 = .ok (.putfield 19, 3) := by decide +kernel
theorem dX2_init_24 : decode cX2_init 24 = .ok (.return_, 1) := by decide +kernel
theorem dX2_join_0 : decode cX2_join 0 = .ok (.aload_n 0, 1) := by decide +kernel
theorem dX2_join_1 : decode cX2_join 1 = .ok (.iload_n 1, 1) := by decide +kernel
theorem dX2_join_2 : decode cX2_join 2 = .ok (.putfield 7, 3) := by decide +kernel
theorem dX2_join_5 : decode cX2_join 5 = .ok (.aload_n 0, 1) := by decide +kernel
theorem dX2_join_6 : decode cX2_join 6 = .ok (.iload_n 2, 1) := by decide +kernel
theorem dX2_join_7 : decode cX2_join 7 = .ok (.putfield 13, 3) := by decide +kernel
theorem dX2_join_10 : decode cX2_join 10 = .ok (.return_, 1) := by decide +kernel
theorem dX2_canPlay_0 : decode cX2_canPlay 0 = .ok (.aload_n 0, 1) := by decide +kernel
theorem dX2_canPlay_1 : decode cX2_canPlay 1 = .ok (.getfield 16, 3) := by decide +kernel
theorem dX2_canPlay_4 : decode cX2_canPlay 4 = .ok (.ifCond .ne 18, 3) := by decide +kernel
theorem dX2_canPlay_7 : decode cX2_canPlay 7 = .ok (.aload_n 0, 1) := by decide +kernel
theorem dX2_canPlay_8 : decode cX2_canPlay 8 = .ok (.getfield 13, 3) := by decide +kernel
theorem dX2_canPlay_11 : decode cX2_canPlay 11 = .ok (.iload_n 1, 1) := by decide +kernel
theorem dX2_canPlay_12 : decode cX2_canPlay 12 = .ok (.invokestatic 22, 3) := by decide +kernel
theorem dX2_canPlay_15 : decode cX2_canPlay 15 = .ok (.ifCond .eq 7, 3) := by decide +kernel
theorem dX2_canPlay_18 : decode cX2_canPlay 18 = .ok (.iconst 1, 1) := by decide +kernel
theorem dX2_canPlay_19 : decode cX2_canPlay 19 = .ok (.goto 4, 3) := by decide +kernel
theorem dX2_canPlay_22 : decode cX2_canPlay 22 = .ok (.iconst 0, 1) := by decide +kernel
theorem dX2_canPlay_23 : decode cX2_canPlay 23 = .ok (.ireturn, 1) := by decide +kernel
theorem dX3_init_0 : decode cX3_init 0 = .ok (.aload_n 0, 1) := by decide +kernel
theorem dX3_init_1 : decode cX3_init 1 = .ok (.invokespecial 3, 3) := by decide +kernel
theorem dX3_init_4 : decode cX3_init 4 = .ok (.aload_n 0, 1) := by decide +kernel
theorem dX3_init_5 : decode cX3_init 5 = .ok (.new 9, 3) := by decide +kernel
theorem dX3_init_8 : decode cX3_init 8 = .ok (.dup, 1) := by decide +kernel
theorem dX3_init_9 : decode cX3_init 9 = .ok (.invokespecial 11, 3) := by decide +kernel
theorem dX3_init_12 : decode cX3_init 12 = .ok (.putfield 12, 3) := by decide +kernel
theorem dX3_init_15 : decode cX3_init 15 = .ok (.aload_n 0, 1) := by decide +kernel
theorem dX3_init_16 : decode cX3_init 16 = .ok (.bipush 6, 2) := by decide +kernel
theorem dX3_init_18 : decode cX3_init 18 = .ok (.newarray .int, 2) := by decide +kernel
theorem dX3_init_20 : decode cX3_init 20 = .ok (.putfield 18, 3) := by decide +kernel
theorem dX3_init_23 : decode cX3_init 23 = .ok (.aload_n 0, 1) := by decide +kernel
theorem dX3_init_24 : decode cX3_init 24 = .ok (.bipush 6, 2) := by decide +kernel
theorem dX3_init_26 : decode cX3_init 26 = .ok (.newarray .int, 2) := by decide +kernel
theorem dX3_init_28 : decode cX3_init 28 = .ok (.putfield 22, 3) := by decide +kernel
theorem dX3_init_31 : decode cX3_init 31 = .ok (.aload_n 0, 1) := by decide +kernel
theorem dX3_init_32 : decode cX3_init 32 = .ok (.bipush 10, 2) := by decide +kernel
theorem dX3_init_34 : decode cX3_init 34 = .ok (.newarray .int, 2) := by decide +kernel
theorem dX3_init_36 : decode cX3_init 36 = .ok (.putfield 25, 3) := by decide +kernel
theorem dX3_init_39 : decode cX3_init 39 = .ok (.aload_n 0, 1) := by decide +kernel
theorem dX3_init_40 : decode cX3_init 40 = .ok (.iconst 0, 1) := by decide +kernel
theorem dX3_init_41 : decode cX3_init 41 = .ok (.putfield 28, 3) := by decide +kernel
theorem dX3_init_44 : decode cX3_init 44 = .ok (.aload_n 0, 1) := by decide +kernel
theorem dX3_init_45 : decode cX3_init 45 = .ok (.iconst 0, 1) := by decide +kernel
theorem dX3_init_46 : decode cX3_init 46 = .ok (.putfield 32, 3) := by decide +kernel
theorem dX3_init_49 : decode cX3_init 49 = .ok (.return_, 1) := by decide +kernel
theorem dX3_playedBits_0 : decode cX3_playedBits 0 = .ok (.aload_n 0, 1) := by decide +kernel
theorem dX3_playedBits_1 : decode cX3_playedBits 1 = .ok (.getfield 32, 3) := by decide +kernel
theorem dX3_playedBits_4 : decode cX3_playedBits 4 = .ok (.ireturn, 1) := by decide +kernel
theorem dX3_has_0 : decode cX3_has 0 = .ok (.iload_n 1, 1) := by decide +kernel
theorem dX3_has_1 : decode cX3_has 1 = .ok (.iconst 0, 1) := by decide +kernel
theorem dX3_has_2 : decode cX3_has 2 = .ok (.iconst 5, 1) := by decide +kernel
theorem dX3_has_3 : decode cX3_has 3 = .ok (.invokestatic 35, 3) := by decide +kernel
theorem dX3_has_6 : decode cX3_has 6 = .ok (.ifCond .eq 18, 3) := by decide +kernel
theorem dX3_has_9 : decode cX3_has 9 = .ok (.aload_n 0, 1) := by decide +kernel
theorem dX3_has_10 : decode cX3_has 10 = .ok (.getfield 32, 3) := by decide +kernel
theorem dX3_has_13 : decode cX3_has 13 = .ok (.iload_n 1, 1) := by decide +kernel
theorem dX3_has_14 : decode cX3_has 14 = .ok (.invokestatic 39, 3) := by decide +kernel
theorem dX3_has_17 : decode cX3_has 17 = .ok (.ifCond .eq 7, 3) := by decide +kernel
theorem dX3_has_20 : decode cX3_has 20 = .ok (.iconst 1, 1) := by decide +kernel
theorem dX3_has_21 : decode cX3_has 21 = .ok (.goto 4, 3) := by decide +kernel
theorem dX3_has_24 : decode cX3_has 24 = .ok (.iconst 0, 1) := by decide +kernel
theorem dX3_has_25 : decode cX3_has 25 = .ok (.ireturn, 1) := by decide +kernel
theorem dX3_piperOf_0 : decode cX3_piperOf 0 = .ok (.aload_n 0, 1) := by decide +kernel
theorem dX3_piperOf_1 : decode cX3_piperOf 1 = .ok (.getfield 12, 3) := by decide +kernel
theorem dX3_piperOf_4 : decode cX3_piperOf 4 = .ok (.iload_n 1, 1) := by decide +kernel
theorem dX3_piperOf_5 : decode cX3_piperOf 5 = .ok (.iload_n 2, 1) := by decide +kernel
theorem dX3_piperOf_6 : decode cX3_piperOf 6 = .ok (.invokevirtual 43, 3) := by decide +kernel
theorem dX3_piperOf_9 : decode cX3_piperOf 9 = .ok (.ireturn, 1) := by decide +kernel
theorem dX3_tuneOf_0 : decode cX3_tuneOf 0 = .ok (.aload_n 0, 1) := by decide +kernel
theorem dX3_tuneOf_1 : decode cX3_tuneOf 1 = .ok (.iload_n 1, 1) := by decide +kernel
theorem dX3_tuneOf_2 : decode cX3_tuneOf 2 = .ok (.invokevirtual 47, 3) := by decide +kernel
theorem dX3_tuneOf_5 : decode cX3_tuneOf 5 = .ok (.ifCond .eq 12, 3) := by decide +kernel
theorem dX3_tuneOf_8 : decode cX3_tuneOf 8 = .ok (.aload_n 0, 1) := by decide +kernel
theorem dX3_tuneOf_9 : decode cX3_tuneOf 9 = .ok (.getfield 22, 3) := by decide +kernel
theorem dX3_tuneOf_12 : decode cX3_tuneOf 12 = .ok (.iload_n 1, 1) := by decide +kernel
theorem dX3_tuneOf_13 : decode cX3_tuneOf 13 = .ok (.iaload, 1) := by decide +kernel
theorem dX3_tuneOf_14 : decode cX3_tuneOf 14 = .ok (.goto 4, 3) := by decide +kernel
theorem dX3_tuneOf_17 : decode cX3_tuneOf 17 = .ok (.iconst (-1), 1) := by decide +kernel
theorem dX3_tuneOf_18 : decode cX3_tuneOf 18 = .ok (.ireturn, 1) := by decide +kernel
theorem dX3_partsOf_0 : decode cX3_partsOf 0 = .ok (.aload_n 0, 1) := by decide +kernel
theorem dX3_partsOf_1 : decode cX3_partsOf 1 = .ok (.getfield 12, 3) := by decide +kernel
theorem dX3_partsOf_4 : decode cX3_partsOf 4 = .ok (.iload_n 1, 1) := by decide +kernel
theorem dX3_partsOf_5 : decode cX3_partsOf 5 = .ok (.invokevirtual 51, 3) := by decide +kernel
theorem dX3_partsOf_8 : decode cX3_partsOf 8 = .ok (.ireturn, 1) := by decide +kernel
theorem dX3_castCalls_0 : decode cX3_castCalls 0 = .ok (.aload_n 0, 1) := by decide +kernel
theorem dX3_castCalls_1 : decode cX3_castCalls 1 = .ok (.getfield 12, 3) := by decide +kernel
theorem dX3_castCalls_4 : decode cX3_castCalls 4 = .ok (.invokevirtual 55, 3) := by decide +kernel
theorem dX3_castCalls_7 : decode cX3_castCalls 7 = .ok (.aload_n 0, 1) := by decide +kernel
theorem dX3_castCalls_8 : decode cX3_castCalls 8 = .ok (.iconst 0, 1) := by decide +kernel
theorem dX3_castCalls_9 : decode cX3_castCalls 9 = .ok (.putfield 28, 3) := by decide +kernel
theorem dX3_castCalls_12 : decode cX3_castCalls 12 = .ok (.aload_n 0, 1) := by decide +kernel
theorem dX3_castCalls_13 : decode cX3_castCalls 13 = .ok (.iconst 0, 1) := by decide +kernel
theorem dX3_castCalls_14 : decode cX3_castCalls 14 = .ok (.putfield 32, 3) := by decide +kernel
theorem dX3_castCalls_17 : decode cX3_castCalls 17 = .ok (.iconst 0, 1) := by decide +kernel
theorem dX3_castCalls_18 : decode cX3_castCalls 18 = .ok (.istore 5, 2) := by decide +kernel
theorem dX3_castCalls_20 : decode cX3_castCalls 20 = .ok (.iload 5, 2) := by decide +kernel
theorem dX3_castCalls_22 : decode cX3_castCalls 22 = .ok (.iconst 3, 1) := by decide +kernel
theorem dX3_castCalls_23 : decode cX3_castCalls 23 = .ok (.if_icmp .gt 70, 3) := by decide +kernel
theorem dX3_castCalls_26 : decode cX3_castCalls 26 = .ok (.iconst 0, 1) := by decide +kernel
theorem dX3_castCalls_27 : decode cX3_castCalls 27 = .ok (.istore 6, 2) := by decide +kernel
theorem dX3_castCalls_29 : decode cX3_castCalls 29 = .ok (.iload 6, 2) := by decide +kernel
theorem dX3_castCalls_31 : decode cX3_castCalls 31 = .ok (.bipush 6, 2) := by decide +kernel
theorem dX3_castCalls_33 : decode cX3_castCalls 33 = .ok (.if_icmp .ge 54, 3) := by decide +kernel
theorem dX3_castCalls_36 : decode cX3_castCalls 36 = .ok (.aload_n 1, 1) := by decide +kernel
theorem dX3_castCalls_37 : decode cX3_castCalls 37 = .ok (.iload 6, 2) := by decide +kernel
theorem dX3_castCalls_39 : decode cX3_castCalls 39 = .ok (.aaload, 1) := by decide +kernel
theorem dX3_castCalls_40 : decode cX3_castCalls 40 = .ok (.iload 5, 2) := by decide +kernel
theorem dX3_castCalls_42 : decode cX3_castCalls 42 = .ok (.invokevirtual 60, 3) := by decide +kernel
theorem dX3_castCalls_45 : decode cX3_castCalls 45 = .ok (.ifCond .eq 36, 3) := by decide +kernel
theorem dX3_castCalls_48 : decode cX3_castCalls 48 = .ok (.aload_n 0, 1) := by decide +kernel
theorem dX3_castCalls_49 : decode cX3_castCalls 49 = .ok (.aload_n 1, 1) := by decide +kernel
theorem dX3_castCalls_50 : decode cX3_castCalls 50 = .ok (.aload_n 3, 1) := by decide +kernel
theorem dX3_castCalls_51 : decode cX3_castCalls 51 = .ok (.iload 6, 2) := by decide +kernel
theorem dX3_castCalls_53 : decode cX3_castCalls 53 = .ok (.invokevirtual 63, 3) := by decide +kernel
theorem dX3_castCalls_56 : decode cX3_castCalls 56 = .ok (.ifCond .eq 25, 3) := by decide +kernel
theorem dX3_castCalls_59 : decode cX3_castCalls 59 = .ok (.aload_n 0, 1) := by decide +kernel
theorem dX3_castCalls_60 : decode cX3_castCalls 60 = .ok (.getfield 12, 3) := by decide +kernel
theorem dX3_castCalls_63 : decode cX3_castCalls 63 = .ok (.aload_n 1, 1) := by decide +kernel
theorem dX3_castCalls_64 : decode cX3_castCalls 64 = .ok (.iload 6, 2) := by decide +kernel
theorem dX3_castCalls_66 : decode cX3_castCalls 66 = .ok (.aload_n 2, 1) := by decide +kernel
theorem dX3_castCalls_67 : decode cX3_castCalls 67 = .ok (.iload 4, 2) := by decide +kernel
theorem dX3_castCalls_69 : decode cX3_castCalls 69 = .ok (.invokevirtual 67, 3) := by decide +kernel
theorem dX3_castCalls_72 : decode cX3_castCalls 72 = .ok (.ifCond .eq 9, 3) := by decide +kernel
theorem dX3_castCalls_75 : decode cX3_castCalls 75 = .ok (.aload_n 0, 1) := by decide +kernel
theorem dX3_castCalls_76 : decode cX3_castCalls 76 = .ok (.iload 6, 2) := by decide +kernel
theorem dX3_castCalls_78 : decode cX3_castCalls 78 = .ok (.invokevirtual 71, 3) := by decide +kernel
theorem dX3_castCalls_81 : decode cX3_castCalls 81 = .ok (.iinc 6 1, 3) := by decide +kernel
theorem dX3_castCalls_84 : decode cX3_castCalls 84 = .ok (.goto (-55), 3) := by decide +kernel
theorem dX3_castCalls_87 : decode cX3_castCalls 87 = .ok (.iinc 5 1, 3) := by decide +kernel
theorem dX3_castCalls_90 : decode cX3_castCalls 90 = .ok (.goto (-70), 3) := by decide +kernel
theorem dX3_castCalls_93 : decode cX3_castCalls 93 = .ok (.aload_n 0, 1) := by decide +kernel
theorem dX3_castCalls_94 : decode cX3_castCalls 94 = .ok (.getfield 12, 3) := by decide +kernel
theorem dX3_castCalls_97 : decode cX3_castCalls 97 = .ok (.invokevirtual 75, 3) := by decide +kernel
theorem dX3_castCalls_100 : decode cX3_castCalls 100 = .ok (.return_, 1) := by decide +kernel
theorem dX3_takeTurn_0 : decode cX3_takeTurn 0 = .ok (.aload_n 0, 1) := by decide +kernel
theorem dX3_takeTurn_1 : decode cX3_takeTurn 1 = .ok (.getfield 28, 3) := by decide +kernel
theorem dX3_takeTurn_4 : decode cX3_takeTurn 4 = .ok (.bipush 6, 2) := by decide +kernel
theorem dX3_takeTurn_6 : decode cX3_takeTurn 6 = .ok (.if_icmp .ge 35, 3) := by decide +kernel
theorem dX3_takeTurn_9 : decode cX3_takeTurn 9 = .ok (.aload_n 0, 1) := by decide +kernel
theorem dX3_takeTurn_10 : decode cX3_takeTurn 10 = .ok (.getfield 18, 3) := by decide +kernel
theorem dX3_takeTurn_13 : decode cX3_takeTurn 13 = .ok (.aload_n 0, 1) := by decide +kernel
theorem dX3_takeTurn_14 : decode cX3_takeTurn 14 = .ok (.getfield 28, 3) := by decide +kernel
theorem dX3_takeTurn_17 : decode cX3_takeTurn 17 = .ok (.iload_n 1, 1) := by decide +kernel
theorem dX3_takeTurn_18 : decode cX3_takeTurn 18 = .ok (.iastore, 1) := by decide +kernel
theorem dX3_takeTurn_19 : decode cX3_takeTurn 19 = .ok (.aload_n 0, 1) := by decide +kernel
theorem dX3_takeTurn_20 : decode cX3_takeTurn 20 = .ok (.dup, 1) := by decide +kernel
theorem dX3_takeTurn_21 : decode cX3_takeTurn 21 = .ok (.getfield 28, 3) := by decide +kernel
theorem dX3_takeTurn_24 : decode cX3_takeTurn 24 = .ok (.iconst 1, 1) := by decide +kernel
theorem dX3_takeTurn_25 : decode cX3_takeTurn 25 = .ok (.iadd, 1) := by decide +kernel
theorem dX3_takeTurn_26 : decode cX3_takeTurn 26 = .ok (.putfield 28, 3) := by decide +kernel
theorem dX3_takeTurn_29 : decode cX3_takeTurn 29 = .ok (.aload_n 0, 1) := by decide +kernel
theorem dX3_takeTurn_30 : decode cX3_takeTurn 30 = .ok (.dup, 1) := by decide +kernel
theorem dX3_takeTurn_31 : decode cX3_takeTurn 31 = .ok (.getfield 32, 3) := by decide +kernel
theorem dX3_takeTurn_34 : decode cX3_takeTurn 34 = .ok (.iconst 1, 1) := by decide +kernel
theorem dX3_takeTurn_35 : decode cX3_takeTurn 35 = .ok (.iload_n 1, 1) := by decide +kernel
theorem dX3_takeTurn_36 : decode cX3_takeTurn 36 = .ok (.ishl, 1) := by decide +kernel
theorem dX3_takeTurn_37 : decode cX3_takeTurn 37 = .ok (.ior, 1) := by decide +kernel
theorem dX3_takeTurn_38 : decode cX3_takeTurn 38 = .ok (.putfield 32, 3) := by decide +kernel
theorem dX3_takeTurn_41 : decode cX3_takeTurn 41 = .ok (.return_, 1) := by decide +kernel
theorem dX3_hasPieces_0 : decode cX3_hasPieces 0 = .ok (.aload_n 0, 1) := by decide +kernel
theorem dX3_hasPieces_1 : decode cX3_hasPieces 1 = .ok (.getfield 32, 3) := by decide +kernel
theorem dX3_hasPieces_4 : decode cX3_hasPieces 4 = .ok (.iconst 1, 1) := by decide +kernel
theorem dX3_hasPieces_5 : decode cX3_hasPieces 5 = .ok (.iload_n 3, 1) := by decide +kernel
theorem dX3_hasPieces_6 : decode cX3_hasPieces 6 = .ok (.ishl, 1) := by decide +kernel
theorem dX3_hasPieces_7 : decode cX3_hasPieces 7 = .ok (.ior, 1) := by decide +kernel
theorem dX3_hasPieces_8 : decode cX3_hasPieces 8 = .ok (.istore 4, 2) := by decide +kernel
theorem dX3_hasPieces_10 : decode cX3_hasPieces 10 = .ok (.iconst 0, 1) := by decide +kernel
theorem dX3_hasPieces_11 : decode cX3_hasPieces 11 = .ok (.istore 5, 2) := by decide +kernel
theorem dX3_hasPieces_13 : decode cX3_hasPieces 13 = .ok (.iload 5, 2) := by decide +kernel
theorem dX3_hasPieces_15 : decode cX3_hasPieces 15 = .ok (.bipush 6, 2) := by decide +kernel
theorem dX3_hasPieces_17 : decode cX3_hasPieces 17 = .ok (.if_icmp .ge 39, 3) := by decide +kernel
theorem dX3_hasPieces_20 : decode cX3_hasPieces 20 = .ok (.iload 4, 2) := by decide +kernel
theorem dX3_hasPieces_22 : decode cX3_hasPieces 22 = .ok (.iload 5, 2) := by decide +kernel
theorem dX3_hasPieces_24 : decode cX3_hasPieces 24 = .ok (.invokestatic 39, 3) := by decide +kernel
theorem dX3_hasPieces_27 : decode cX3_hasPieces 27 = .ok (.ifCond .eq 23, 3) := by decide +kernel
theorem dX3_hasPieces_30 : decode cX3_hasPieces 30 = .ok (.aload_n 1, 1) := by decide +kernel
theorem dX3_hasPieces_31 : decode cX3_hasPieces 31 = .ok (.aload_n 2, 1) := by decide +kernel
theorem dX3_hasPieces_32 : decode cX3_hasPieces 32 = .ok (.iload 4, 2) := by decide +kernel
theorem dX3_hasPieces_34 : decode cX3_hasPieces 34 = .ok (.aload_n 1, 1) := by decide +kernel
theorem dX3_hasPieces_35 : decode cX3_hasPieces 35 = .ok (.iload 5, 2) := by decide +kernel
theorem dX3_hasPieces_37 : decode cX3_hasPieces 37 = .ok (.aaload, 1) := by decide +kernel
theorem dX3_hasPieces_38 : decode cX3_hasPieces 38 = .ok (.iconst 1, 1) := by decide +kernel
theorem dX3_hasPieces_39 : decode cX3_hasPieces 39 = .ok (.invokevirtual 78, 3) := by decide +kernel
theorem dX3_hasPieces_42 : decode cX3_hasPieces 42 = .ok (.invokestatic 81, 3) := by decide +kernel
theorem dX3_hasPieces_45 : decode cX3_hasPieces 45 = .ok (.ifCond .ne 5, 3) := by decide +kernel
theorem dX3_hasPieces_48 : decode cX3_hasPieces 48 = .ok (.iconst 0, 1) := by decide +kernel
theorem dX3_hasPieces_49 : decode cX3_hasPieces 49 = .ok (.ireturn, 1) := by decide +kernel
theorem dX3_hasPieces_50 : decode cX3_hasPieces 50 = .ok (.iinc 5 1, 3) := by decide +kernel
theorem dX3_hasPieces_53 : decode cX3_hasPieces 53 = .ok (.goto (-40), 3) := by decide +kernel
theorem dX3_hasPieces_56 : decode cX3_hasPieces 56 = .ok (.iconst 1, 1) := by decide +kernel
theorem dX3_hasPieces_57 : decode cX3_hasPieces 57 = .ok (.ireturn, 1) := by decide +kernel
theorem dX3_hasPiecesAt_0 : decode cX3_hasPiecesAt 0 = .ok (.iconst 0, 1) := by decide +kernel
theorem dX3_hasPiecesAt_1 : decode cX3_hasPiecesAt 1 = .ok (.istore 4, 2) := by decide +kernel
theorem dX3_hasPiecesAt_3 : decode cX3_hasPiecesAt 3 = .ok (.iload 4, 2) := by decide +kernel
theorem dX3_hasPiecesAt_5 : decode cX3_hasPiecesAt 5 = .ok (.iconst 5, 1) := by decide +kernel
theorem dX3_hasPiecesAt_6 : decode cX3_hasPiecesAt 6 = .ok (.if_icmp .ge 73, 3) := by decide +kernel
theorem dX3_hasPiecesAt_9 : decode cX3_hasPiecesAt 9 = .ok (.iconst 0, 1) := by decide +kernel
theorem dX3_hasPiecesAt_10 : decode cX3_hasPiecesAt 10 = .ok (.istore 5, 2) := by decide +kernel
theorem dX3_hasPiecesAt_12 : decode cX3_hasPiecesAt 12 = .ok (.iconst 0, 1) := by decide +kernel
theorem dX3_hasPiecesAt_13 : decode cX3_hasPiecesAt 13 = .ok (.istore 6, 2) := by decide +kernel
theorem dX3_hasPiecesAt_15 : decode cX3_hasPiecesAt 15 = .ok (.iload 6, 2) := by decide +kernel
theorem dX3_hasPiecesAt_17 : decode cX3_hasPiecesAt 17 = .ok (.bipush 6, 2) := by decide +kernel
theorem dX3_hasPiecesAt_19 : decode cX3_hasPiecesAt 19 = .ok (.if_icmp .ge 43, 3) := by decide +kernel
theorem dX3_hasPiecesAt_22 : decode cX3_hasPiecesAt 22 = .ok (.iload_n 2, 1) := by decide +kernel
theorem dX3_hasPiecesAt_23 : decode cX3_hasPiecesAt 23 = .ok (.iload 6, 2) := by decide +kernel
theorem dX3_hasPiecesAt_25 : decode cX3_hasPiecesAt 25 = .ok (.invokestatic 39, 3) := by decide +kernel
theorem dX3_hasPiecesAt_28 : decode cX3_hasPiecesAt 28 = .ok (.ifCond .eq 28, 3) := by decide +kernel
theorem dX3_hasPiecesAt_31 : decode cX3_hasPiecesAt 31 = .ok (.aload_n 0, 1) := by decide +kernel
theorem dX3_hasPiecesAt_32 : decode cX3_hasPiecesAt 32 = .ok (.iload 6, 2) := by decide +kernel
theorem dX3_hasPiecesAt_34 : decode cX3_hasPiecesAt 34 = .ok (.aaload, 1) := by decide +kernel
theorem dX3_hasPiecesAt_35 : decode cX3_hasPiecesAt 35 = .ok (.iload_n 3, 1) := by decide +kernel
theorem dX3_hasPiecesAt_36 : decode cX3_hasPiecesAt 36 = .ok (.invokevirtual 85, 3) := by decide +kernel
theorem dX3_hasPiecesAt_39 : decode cX3_hasPiecesAt 39 = .ok (.ifCond .eq 17, 3) := by decide +kernel
theorem dX3_hasPiecesAt_42 : decode cX3_hasPiecesAt 42 = .ok (.iload 5, 2) := by decide +kernel
theorem dX3_hasPiecesAt_44 : decode cX3_hasPiecesAt 44 = .ok (.aload_n 0, 1) := by decide +kernel
theorem dX3_hasPiecesAt_45 : decode cX3_hasPiecesAt 45 = .ok (.iload 6, 2) := by decide +kernel
theorem dX3_hasPiecesAt_47 : decode cX3_hasPiecesAt 47 = .ok (.aaload, 1) := by decide +kernel
theorem dX3_hasPiecesAt_48 : decode cX3_hasPiecesAt 48 = .ok (.iload 4, 2) := by decide +kernel
theorem dX3_hasPiecesAt_50 : decode cX3_hasPiecesAt 50 = .ok (.invokevirtual 88, 3) := by decide +kernel
theorem dX3_hasPiecesAt_53 : decode cX3_hasPiecesAt 53 = .ok (.iadd, 1) := by decide +kernel
theorem dX3_hasPiecesAt_54 : decode cX3_hasPiecesAt 54 = .ok (.istore 5, 2) := by decide +kernel
theorem dX3_hasPiecesAt_56 : decode cX3_hasPiecesAt 56 = .ok (.iinc 6 1, 3) := by decide +kernel
theorem dX3_hasPiecesAt_59 : decode cX3_hasPiecesAt 59 = .ok (.goto (-44), 3) := by decide +kernel
theorem dX3_hasPiecesAt_62 : decode cX3_hasPiecesAt 62 = .ok (.iload 5, 2) := by decide +kernel
theorem dX3_hasPiecesAt_64 : decode cX3_hasPiecesAt 64 = .ok (.aload_n 1, 1) := by decide +kernel
theorem dX3_hasPiecesAt_65 : decode cX3_hasPiecesAt 65 = .ok (.iload 4, 2) := by decide +kernel
theorem dX3_hasPiecesAt_67 : decode cX3_hasPiecesAt 67 = .ok (.iaload, 1) := by decide +kernel
theorem dX3_hasPiecesAt_68 : decode cX3_hasPiecesAt 68 = .ok (.if_icmp .le 5, 3) := by decide +kernel
theorem dX3_hasPiecesAt_71 : decode cX3_hasPiecesAt 71 = .ok (.iconst 0, 1) := by decide +kernel
theorem dX3_hasPiecesAt_72 : decode cX3_hasPiecesAt 72 = .ok (.ireturn, 1) := by decide +kernel
theorem dX3_hasPiecesAt_73 : decode cX3_hasPiecesAt 73 = .ok (.iinc 4 1, 3) := by decide +kernel
theorem dX3_hasPiecesAt_76 : decode cX3_hasPiecesAt 76 = .ok (.goto (-73), 3) := by decide +kernel
theorem dX3_hasPiecesAt_79 : decode cX3_hasPiecesAt 79 = .ok (.iconst 1, 1) := by decide +kernel
theorem dX3_hasPiecesAt_80 : decode cX3_hasPiecesAt 80 = .ok (.ireturn, 1) := by decide +kernel
theorem dX3_chooseTunes_0 : decode cX3_chooseTunes 0 = .ok (.iconst 0, 1) := by decide +kernel
theorem dX3_chooseTunes_1 : decode cX3_chooseTunes 1 = .ok (.istore 5, 2) := by decide +kernel
theorem dX3_chooseTunes_3 : decode cX3_chooseTunes 3 = .ok (.iload 5, 2) := by decide +kernel
theorem dX3_chooseTunes_5 : decode cX3_chooseTunes 5 = .ok (.bipush 10, 2) := by decide +kernel
theorem dX3_chooseTunes_7 : decode cX3_chooseTunes 7 = .ok (.if_icmp .ge 23, 3) := by decide +kernel
theorem dX3_chooseTunes_10 : decode cX3_chooseTunes 10 = .ok (.aload_n 0, 1) := by decide +kernel
theorem dX3_chooseTunes_11 : decode cX3_chooseTunes 11 = .ok (.getfield 25, 3) := by decide +kernel
theorem dX3_chooseTunes_14 : decode cX3_chooseTunes 14 = .ok (.iload 5, 2) := by decide +kernel
theorem dX3_chooseTunes_16 : decode cX3_chooseTunes 16 = .ok (.aload_n 2, 1) := by decide +kernel
theorem dX3_chooseTunes_17 : decode cX3_chooseTunes 17 = .ok (.iload 5, 2) := by decide +kernel
theorem dX3_chooseTunes_19 : decode cX3_chooseTunes 19 = .ok (.aaload, 1) := by decide +kernel
theorem dX3_chooseTunes_20 : decode cX3_chooseTunes 20 = .ok (.getfield 91, 3) := by decide +kernel
theorem dX3_chooseTunes_23 : decode cX3_chooseTunes 23 = .ok (.iastore, 1) := by decide +kernel
theorem dX3_chooseTunes_24 : decode cX3_chooseTunes 24 = .ok (.iinc 5 1, 3) := by decide +kernel
theorem dX3_chooseTunes_27 : decode cX3_chooseTunes 27 = .ok (.goto (-24), 3) := by decide +kernel
theorem dX3_chooseTunes_30 : decode cX3_chooseTunes 30 = .ok (.iconst 0, 1) := by decide +kernel
theorem dX3_chooseTunes_31 : decode cX3_chooseTunes 31 = .ok (.istore 5, 2) := by decide +kernel
theorem dX3_chooseTunes_33 : decode cX3_chooseTunes 33 = .ok (.iload 5, 2) := by decide +kernel
theorem dX3_chooseTunes_35 : decode cX3_chooseTunes 35 = .ok (.aload_n 0, 1) := by decide +kernel
theorem dX3_chooseTunes_36 : decode cX3_chooseTunes 36 = .ok (.getfield 28, 3) := by decide +kernel
theorem dX3_chooseTunes_39 : decode cX3_chooseTunes 39 = .ok (.if_icmp .ge 61, 3) := by decide +kernel
theorem dX3_chooseTunes_42 : decode cX3_chooseTunes 42 = .ok (.aload_n 0, 1) := by decide +kernel
theorem dX3_chooseTunes_43 : decode cX3_chooseTunes 43 = .ok (.getfield 18, 3) := by decide +kernel
theorem dX3_chooseTunes_46 : decode cX3_chooseTunes 46 = .ok (.iload 5, 2) := by decide +kernel
theorem dX3_chooseTunes_48 : decode cX3_chooseTunes 48 = .ok (.iaload, 1) := by decide +kernel
theorem dX3_chooseTunes_49 : decode cX3_chooseTunes 49 = .ok (.istore 6, 2) := by decide +kernel
theorem dX3_chooseTunes_51 : decode cX3_chooseTunes 51 = .ok (.aload_n 0, 1) := by decide +kernel
theorem dX3_chooseTunes_52 : decode cX3_chooseTunes 52 = .ok (.aload_n 2, 1) := by decide +kernel
theorem dX3_chooseTunes_53 : decode cX3_chooseTunes 53 = .ok (.aload_n 1, 1) := by decide +kernel
theorem dX3_chooseTunes_54 : decode cX3_chooseTunes 54 = .ok (.iload 6, 2) := by decide +kernel
theorem dX3_chooseTunes_56 : decode cX3_chooseTunes 56 = .ok (.aaload, 1) := by decide +kernel
theorem dX3_chooseTunes_57 : decode cX3_chooseTunes 57 = .ok (.iconst 4, 1) := by decide +kernel
theorem dX3_chooseTunes_58 : decode cX3_chooseTunes 58 = .ok (.invokevirtual 78, 3) := by decide +kernel
theorem dX3_chooseTunes_61 : decode cX3_chooseTunes 61 = .ok (.iload_n 3, 1) := by decide +kernel
theorem dX3_chooseTunes_62 : decode cX3_chooseTunes 62 = .ok (.invokevirtual 96, 3) := by decide +kernel
theorem dX3_chooseTunes_65 : decode cX3_chooseTunes 65 = .ok (.istore 7, 2) := by decide +kernel
theorem dX3_chooseTunes_67 : decode cX3_chooseTunes 67 = .ok (.aload_n 0, 1) := by decide +kernel
theorem dX3_chooseTunes_68 : decode cX3_chooseTunes 68 = .ok (.getfield 22, 3) := by decide +kernel
theorem dX3_chooseTunes_71 : decode cX3_chooseTunes 71 = .ok (.iload 6, 2) := by decide +kernel
theorem dX3_chooseTunes_73 : decode cX3_chooseTunes 73 = .ok (.iload 7, 2) := by decide +kernel
theorem dX3_chooseTunes_75 : decode cX3_chooseTunes 75 = .ok (.iastore, 1) := by decide +kernel
theorem dX3_chooseTunes_76 : decode cX3_chooseTunes 76 = .ok (.iload 7, 2) := by decide +kernel
theorem dX3_chooseTunes_78 : decode cX3_chooseTunes 78 = .ok (.iconst (-1), 1) := by decide +kernel
theorem dX3_chooseTunes_79 : decode cX3_chooseTunes 79 = .ok (.if_icmp .eq 15, 3) := by decide +kernel
theorem dX3_chooseTunes_82 : decode cX3_chooseTunes 82 = .ok (.aload_n 0, 1) := by decide +kernel
theorem dX3_chooseTunes_83 : decode cX3_chooseTunes 83 = .ok (.getfield 25, 3) := by decide +kernel
theorem dX3_chooseTunes_86 : decode cX3_chooseTunes 86 = .ok (.iload 7, 2) := by decide +kernel
theorem dX3_chooseTunes_88 : decode cX3_chooseTunes 88 = .ok (.iload 4, 2) := by decide +kernel
theorem dX3_chooseTunes_90 : decode cX3_chooseTunes 90 = .ok (.iload 5, 2) := by decide +kernel
theorem dX3_chooseTunes_92 : decode cX3_chooseTunes 92 = .ok (.iadd, 1) := by decide +kernel
theorem dX3_chooseTunes_93 : decode cX3_chooseTunes 93 = .ok (.iastore, 1) := by decide +kernel
theorem dX3_chooseTunes_94 : decode cX3_chooseTunes 94 = .ok (.iinc 5 1, 3) := by decide +kernel
theorem dX3_chooseTunes_97 : decode cX3_chooseTunes 97 = .ok (.goto (-64), 3) := by decide +kernel
theorem dX3_chooseTunes_100 : decode cX3_chooseTunes 100 = .ok (.return_, 1) := by decide +kernel
theorem dX3_hearTunes_0 : decode cX3_hearTunes 0 = .ok (.iconst 0, 1) := by decide +kernel
theorem dX3_hearTunes_1 : decode cX3_hearTunes 1 = .ok (.istore_n 2, 1) := by decide +kernel
theorem dX3_hearTunes_2 : decode cX3_hearTunes 2 = .ok (.iload_n 2, 1) := by decide +kernel
theorem dX3_hearTunes_3 : decode cX3_hearTunes 3 = .ok (.bipush 10, 2) := by decide +kernel
theorem dX3_hearTunes_5 : decode cX3_hearTunes 5 = .ok (.if_icmp .ge 21, 3) := by decide +kernel
theorem dX3_hearTunes_8 : decode cX3_hearTunes 8 = .ok (.aload_n 1, 1) := by decide +kernel
theorem dX3_hearTunes_9 : decode cX3_hearTunes 9 = .ok (.iload_n 2, 1) := by decide +kernel
theorem dX3_hearTunes_10 : decode cX3_hearTunes 10 = .ok (.aaload, 1) := by decide +kernel
theorem dX3_hearTunes_11 : decode cX3_hearTunes 11 = .ok (.aload_n 0, 1) := by decide +kernel
theorem dX3_hearTunes_12 : decode cX3_hearTunes 12 = .ok (.getfield 25, 3) := by decide +kernel
theorem dX3_hearTunes_15 : decode cX3_hearTunes 15 = .ok (.iload_n 2, 1) := by decide +kernel
theorem dX3_hearTunes_16 : decode cX3_hearTunes 16 = .ok (.iaload, 1) := by decide +kernel
theorem dX3_hearTunes_17 : decode cX3_hearTunes 17 = .ok (.putfield 91, 3) := by decide +kernel
theorem dX3_hearTunes_20 : decode cX3_hearTunes 20 = .ok (.iinc 2 1, 3) := by decide +kernel
theorem dX3_hearTunes_23 : decode cX3_hearTunes 23 = .ok (.goto (-21), 3) := by decide +kernel
theorem dX3_hearTunes_26 : decode cX3_hearTunes 26 = .ok (.return_, 1) := by decide +kernel
theorem dX3_longestUnheard_0 : decode cX3_longestUnheard 0 = .ok (.iconst (-1), 1) := by decide +kernel
theorem dX3_longestUnheard_1 : decode cX3_longestUnheard 1 = .ok (.istore 4, 2) := by decide +kernel
theorem dX3_longestUnheard_3 : decode cX3_longestUnheard 3 = .ok (.iconst 0, 1) := by decide +kernel
theorem dX3_longestUnheard_4 : decode cX3_longestUnheard 4 = .ok (.istore 5, 2) := by decide +kernel
theorem dX3_longestUnheard_6 : decode cX3_longestUnheard 6 = .ok (.iload 5, 2) := by decide +kernel
theorem dX3_longestUnheard_8 : decode cX3_longestUnheard 8 = .ok (.bipush 10, 2) := by decide +kernel
theorem dX3_longestUnheard_10 : decode cX3_longestUnheard 10 = .ok (.if_icmp .ge 48, 3) := by decide +kernel
theorem dX3_longestUnheard_13 : decode cX3_longestUnheard 13 = .ok (.aload_n 1, 1) := by decide +kernel
theorem dX3_longestUnheard_14 : decode cX3_longestUnheard 14 = .ok (.iload 5, 2) := by decide +kernel
theorem dX3_longestUnheard_16 : decode cX3_longestUnheard 16 = .ok (.aaload, 1) := by decide +kernel
theorem dX3_longestUnheard_17 : decode cX3_longestUnheard 17 = .ok (.iload_n 2, 1) := by decide +kernel
theorem dX3_longestUnheard_18 : decode cX3_longestUnheard 18 = .ok (.iload_n 3, 1) := by decide +kernel
theorem dX3_longestUnheard_19 : decode cX3_longestUnheard 19 = .ok (.invokevirtual 100, 3) := by decide +kernel
theorem dX3_longestUnheard_22 : decode cX3_longestUnheard 22 = .ok (.ifCond .eq 30, 3) := by decide +kernel
theorem dX3_longestUnheard_25 : decode cX3_longestUnheard 25 = .ok (.iload 4, 2) := by decide +kernel
theorem dX3_longestUnheard_27 : decode cX3_longestUnheard 27 = .ok (.iconst (-1), 1) := by decide +kernel
theorem dX3_longestUnheard_28 : decode cX3_longestUnheard 28 = .ok (.if_icmp .eq 20, 3) := by decide +kernel
theorem dX3_longestUnheard_31 : decode cX3_longestUnheard 31 = .ok (.aload_n 0, 1) := by decide +kernel
theorem dX3_longestUnheard_32 : decode cX3_longestUnheard 32 = .ok (.getfield 25, 3) := by decide +kernel
theorem dX3_longestUnheard_35 : decode cX3_longestUnheard 35 = .ok (.iload 5, 2) := by decide +kernel
theorem dX3_longestUnheard_37 : decode cX3_longestUnheard 37 = .ok (.iaload, 1) := by decide +kernel
theorem dX3_longestUnheard_38 : decode cX3_longestUnheard 38 = .ok (.aload_n 0, 1) := by decide +kernel
theorem dX3_longestUnheard_39 : decode cX3_longestUnheard 39 = .ok (.getfield 25, 3) := by decide +kernel
theorem dX3_longestUnheard_42 : decode cX3_longestUnheard 42 = .ok (.iload 4, 2) := by decide +kernel
theorem dX3_longestUnheard_44 : decode cX3_longestUnheard 44 = .ok (.iaload, 1) := by decide +kernel
theorem dX3_longestUnheard_45 : decode cX3_longestUnheard 45 = .ok (.if_icmp .ge 7, 3) := by decide +kernel
theorem dX3_longestUnheard_48 : decode cX3_longestUnheard 48 = .ok (.iload 5, 2) := by decide +kernel
theorem dX3_longestUnheard_50 : decode cX3_longestUnheard 50 = .ok (.istore 4, 2) := by decide +kernel
theorem dX3_longestUnheard_52 : decode cX3_longestUnheard 52 = .ok (.iinc 5 1, 3) := by decide +kernel
theorem dX3_longestUnheard_55 : decode cX3_longestUnheard 55 = .ok (.goto (-49), 3) := by decide +kernel
theorem dX3_longestUnheard_58 : decode cX3_longestUnheard 58 = .ok (.iload 4, 2) := by decide +kernel
theorem dX3_longestUnheard_60 : decode cX3_longestUnheard 60 = .ok (.ireturn, 1) := by decide +kernel
theorem dX4_init_0 : decode cX4_init 0 = .ok (.aload_n 0, 1) := by decide +kernel
theorem dX4_init_1 : decode cX4_init 1 = .ok (.invokespecial 3, 3) := by decide +kernel
theorem dX4_init_4 : decode cX4_init 4 = .ok (.aload_n 0, 1) := by decide +kernel
theorem dX4_init_5 : decode cX4_init 5 = .ok (.bipush 40, 2) := by decide +kernel
theorem dX4_init_7 : decode cX4_init 7 = .ok (.newarray .int, 2) := by decide +kernel
theorem dX4_init_9 : decode cX4_init 9 = .ok (.putfield 11, 3) := by decide +kernel
theorem dX4_init_12 : decode cX4_init 12 = .ok (.aload_n 0, 1) := by decide +kernel
theorem dX4_init_13 : decode cX4_init 13 = .ok (.iconst 0, 1) := by decide +kernel
theorem dX4_init_14 : decode cX4_init 14 = .ok (.putfield 15, 3) := by decide +kernel
theorem dX4_init_17 : decode cX4_init 17 = .ok (.return_, 1) := by decide +kernel
theorem dX4_size_0 : decode cX4_size 0 = .ok (.aload_n 0, 1) := by decide +kernel
theorem dX4_size_1 : decode cX4_size 1 = .ok (.getfield 15, 3) := by decide +kernel
theorem dX4_size_4 : decode cX4_size 4 = .ok (.ireturn, 1) := by decide +kernel
theorem dX4_hasRoom_0 : decode cX4_hasRoom 0 = .ok (.aload_n 0, 1) := by decide +kernel
theorem dX4_hasRoom_1 : decode cX4_hasRoom 1 = .ok (.getfield 15, 3) := by decide +kernel
theorem dX4_hasRoom_4 : decode cX4_hasRoom 4 = .ok (.bipush 20, 2) := by decide +kernel
theorem dX4_hasRoom_6 : decode cX4_hasRoom 6 = .ok (.iadd, 1) := by decide +kernel
theorem dX4_hasRoom_7 : decode cX4_hasRoom 7 = .ok (.bipush 40, 2) := by decide +kernel
theorem dX4_hasRoom_9 : decode cX4_hasRoom 9 = .ok (.if_icmp .gt 7, 3) := by decide +kernel
theorem dX4_hasRoom_12 : decode cX4_hasRoom 12 = .ok (.iconst 1, 1) := by decide +kernel
theorem dX4_hasRoom_13 : decode cX4_hasRoom 13 = .ok (.goto 4, 3) := by decide +kernel
theorem dX4_hasRoom_16 : decode cX4_hasRoom 16 = .ok (.iconst 0, 1) := by decide +kernel
theorem dX4_hasRoom_17 : decode cX4_hasRoom 17 = .ok (.ireturn, 1) := by decide +kernel
theorem dX4_put_0 : decode cX4_put 0 = .ok (.bipush 24, 2) := by decide +kernel
theorem dX4_put_2 : decode cX4_put 2 = .ok (.istore_n 2, 1) := by decide +kernel
theorem dX4_put_3 : decode cX4_put 3 = .ok (.iload_n 2, 1) := by decide +kernel
theorem dX4_put_4 : decode cX4_put 4 = .ok (.ifCond .lt 44, 3) := by decide +kernel
theorem dX4_put_7 : decode cX4_put 7 = .ok (.aload_n 0, 1) := by decide +kernel
theorem dX4_put_8 : decode cX4_put 8 = .ok (.getfield 15, 3) := by decide +kernel
theorem dX4_put_11 : decode cX4_put 11 = .ok (.bipush 40, 2) := by decide +kernel
theorem dX4_put_13 : decode cX4_put 13 = .ok (.if_icmp .ge 35, 3) := by decide +kernel
theorem dX4_put_16 : decode cX4_put 16 = .ok (.aload_n 0, 1) := by decide +kernel
theorem dX4_put_17 : decode cX4_put 17 = .ok (.getfield 11, 3) := by decide +kernel
theorem dX4_put_20 : decode cX4_put 20 = .ok (.aload_n 0, 1) := by decide +kernel
theorem dX4_put_21 : decode cX4_put 21 = .ok (.getfield 15, 3) := by decide +kernel
theorem dX4_put_24 : decode cX4_put 24 = .ok (.iload_n 1, 1) := by decide +kernel
theorem dX4_put_25 : decode cX4_put 25 = .ok (.iload_n 2, 1) := by decide +kernel
theorem dX4_put_26 : decode cX4_put 26 = .ok (.ishr, 1) := by decide +kernel
theorem dX4_put_27 : decode cX4_put 27 = .ok (.sipush 255, 3) := by decide +kernel
theorem dX4_put_30 : decode cX4_put 30 = .ok (.iand, 1) := by decide +kernel
theorem dX4_put_31 : decode cX4_put 31 = .ok (.iastore, 1) := by decide +kernel
theorem dX4_put_32 : decode cX4_put 32 = .ok (.aload_n 0, 1) := by decide +kernel
theorem dX4_put_33 : decode cX4_put 33 = .ok (.dup, 1) := by decide +kernel
theorem dX4_put_34 : decode cX4_put 34 = .ok (.getfield 15, 3) := by decide +kernel
theorem dX4_put_37 : decode cX4_put 37 = .ok (.iconst 1, 1) := by decide +kernel
theorem dX4_put_38 : decode cX4_put 38 = .ok (.iadd, 1) := by decide +kernel
theorem dX4_put_39 : decode cX4_put 39 = .ok (.putfield 15, 3) := by decide +kernel
theorem dX4_put_42 : decode cX4_put 42 = .ok (.iinc 2 (-8), 3) := by decide +kernel
theorem dX4_put_45 : decode cX4_put 45 = .ok (.goto (-42), 3) := by decide +kernel
theorem dX4_put_48 : decode cX4_put 48 = .ok (.return_, 1) := by decide +kernel
theorem dX4_byteAt_0 : decode cX4_byteAt 0 = .ok (.iload_n 1, 1) := by decide +kernel
theorem dX4_byteAt_1 : decode cX4_byteAt 1 = .ok (.iconst 0, 1) := by decide +kernel
theorem dX4_byteAt_2 : decode cX4_byteAt 2 = .ok (.aload_n 0, 1) := by decide +kernel
theorem dX4_byteAt_3 : decode cX4_byteAt 3 = .ok (.getfield 15, 3) := by decide +kernel
theorem dX4_byteAt_6 : decode cX4_byteAt 6 = .ok (.iconst 1, 1) := by decide +kernel
theorem dX4_byteAt_7 : decode cX4_byteAt 7 = .ok (.isub, 1) := by decide +kernel
theorem dX4_byteAt_8 : decode cX4_byteAt 8 = .ok (.invokestatic 19, 3) := by decide +kernel
theorem dX4_byteAt_11 : decode cX4_byteAt 11 = .ok (.ifCond .eq 12, 3) := by decide +kernel
theorem dX4_byteAt_14 : decode cX4_byteAt 14 = .ok (.aload_n 0, 1) := by decide +kernel
theorem dX4_byteAt_15 : decode cX4_byteAt 15 = .ok (.getfield 11, 3) := by decide +kernel
theorem dX4_byteAt_18 : decode cX4_byteAt 18 = .ok (.iload_n 1, 1) := by decide +kernel
theorem dX4_byteAt_19 : decode cX4_byteAt 19 = .ok (.iaload, 1) := by decide +kernel
theorem dX4_byteAt_20 : decode cX4_byteAt 20 = .ok (.goto 4, 3) := by decide +kernel
theorem dX4_byteAt_23 : decode cX4_byteAt 23 = .ok (.iconst (-1), 1) := by decide +kernel
theorem dX4_byteAt_24 : decode cX4_byteAt 24 = .ok (.ireturn, 1) := by decide +kernel
theorem dX4_empty_0 : decode cX4_empty 0 = .ok (.aload_n 0, 1) := by decide +kernel
theorem dX4_empty_1 : decode cX4_empty 1 = .ok (.iconst 0, 1) := by decide +kernel
theorem dX4_empty_2 : decode cX4_empty 2 = .ok (.putfield 15, 3) := by decide +kernel
theorem dX4_empty_5 : decode cX4_empty 5 = .ok (.return_, 1) := by decide +kernel
theorem dX5_init_0 : decode cX5_init 0 = .ok (.aload_n 0, 1) := by decide +kernel
theorem dX5_init_1 : decode cX5_init 1 = .ok (.invokespecial 3, 3) := by decide +kernel
theorem dX5_init_4 : decode cX5_init 4 = .ok (.aload_n 0, 1) := by decide +kernel
theorem dX5_init_5 : decode cX5_init 5 = .ok (.iconst 4, 1) := by decide +kernel
theorem dX5_init_6 : decode cX5_init 6 = .ok (.newarray .int, 2) := by decide +kernel
theorem dX5_init_8 : decode cX5_init 8 = .ok (.dup, 1) := by decide +kernel
theorem dX5_init_9 : decode cX5_init 9 = .ok (.iconst 0, 1) := by decide +kernel
theorem dX5_init_10 : decode cX5_init 10 = .ok (.iconst 1, 1) := by decide +kernel
theorem dX5_init_11 : decode cX5_init 11 = .ok (.iastore, 1) := by decide +kernel
theorem dX5_init_12 : decode cX5_init 12 = .ok (.dup, 1) := by decide +kernel
theorem dX5_init_13 : decode cX5_init 13 = .ok (.iconst 1, 1) := by decide +kernel
theorem dX5_init_14 : decode cX5_init 14 = .ok (.bipush 10, 2) := by decide +kernel
theorem dX5_init_16 : decode cX5_init 16 = .ok (.iastore, 1) := by decide +kernel
theorem dX5_init_17 : decode cX5_init 17 = .ok (.dup, 1) := by decide +kernel
theorem dX5_init_18 : decode cX5_init 18 = .ok (.iconst 2, 1) := by decide +kernel
theorem dX5_init_19 : decode cX5_init 19 = .ok (.bipush 100, 2) := by decide +kernel
theorem dX5_init_21 : decode cX5_init 21 = .ok (.iastore, 1) := by decide +kernel
theorem dX5_init_22 : decode cX5_init 22 = .ok (.dup, 1) := by decide +kernel
theorem dX5_init_23 : decode cX5_init 23 = .ok (.iconst 3, 1) := by decide +kernel
theorem dX5_init_24 : decode cX5_init 24 = .ok (.bipush 50, 2) := by decide +kernel
theorem dX5_init_26 : decode cX5_init 26 = .ok (.iastore, 1) := by decide +kernel
theorem dX5_init_27 : decode cX5_init 27 = .ok (.putfield 9, 3) := by decide +kernel
theorem dX5_init_30 : decode cX5_init 30 = .ok (.aload_n 0, 1) := by decide +kernel
theorem dX5_init_31 : decode cX5_init 31 = .ok (.iconst 4, 1) := by decide +kernel
theorem dX5_init_32 : decode cX5_init 32 = .ok (.newarray .int, 2) := by decide +kernel
theorem dX5_init_34 : decode cX5_init 34 = .ok (.putfield 15, 3) := by decide +kernel
theorem dX5_init_37 : decode cX5_init 37 = .ok (.return_, 1) := by decide +kernel
theorem dX5_number_0 : decode cX5_number 0 = .ok (.iload_n 1, 1) := by decide +kernel
theorem dX5_number_1 : decode cX5_number 1 = .ok (.iconst 0, 1) := by decide +kernel
theorem dX5_number_2 : decode cX5_number 2 = .ok (.iconst 3, 1) := by decide +kernel
theorem dX5_number_3 : decode cX5_number 3 = .ok (.invokestatic 18, 3) := by decide +kernel
theorem dX5_number_6 : decode cX5_number 6 = .ok (.ifCond .eq 12, 3) := by decide +kernel
theorem dX5_number_9 : decode cX5_number 9 = .ok (.aload_n 0, 1) := by decide +kernel
theorem dX5_number_10 : decode cX5_number 10 = .ok (.getfield 9, 3) := by decide +kernel
theorem dX5_number_13 : decode cX5_number 13 = .ok (.iload_n 1, 1) := by decide +kernel
theorem dX5_number_14 : decode cX5_number 14 = .ok (.iaload, 1) := by decide +kernel
theorem dX5_number_15 : decode cX5_number 15 = .ok (.goto 4, 3) := by decide +kernel
theorem dX5_number_18 : decode cX5_number 18 = .ok (.iconst (-1), 1) := by decide +kernel
theorem dX5_number_19 : decode cX5_number 19 = .ok (.ireturn, 1) := by decide +kernel
theorem dX5_read_0 : decode cX5_read 0 = .ok (.getstatic 22, 3) := by decide +kernel
theorem dX5_read_3 : decode cX5_read 3 = .ok (.iconst 0, 1) := by decide +kernel
theorem dX5_read_4 : decode cX5_read 4 = .ok (.aload_n 0, 1) := by decide +kernel
theorem dX5_read_5 : decode cX5_read 5 = .ok (.getfield 15, 3) := by decide +kernel
theorem dX5_read_8 : decode cX5_read 8 = .ok (.iconst 0, 1) := by decide +kernel
theorem dX5_read_9 : decode cX5_read 9 = .ok (.iconst 4, 1) := by decide +kernel
theorem dX5_read_10 : decode cX5_read 10 = .ok (.invokestatic 25, 3) := by decide +kernel
theorem dX5_read_13 : decode cX5_read 13 = .ok (.iconst 0, 1) := by decide +kernel
theorem dX5_read_14 : decode cX5_read 14 = .ok (.istore_n 3, 1) := by decide +kernel
theorem dX5_read_15 : decode cX5_read 15 = .ok (.iload_n 3, 1) := by decide +kernel
theorem dX5_read_16 : decode cX5_read 16 = .ok (.iload_n 2, 1) := by decide +kernel
theorem dX5_read_17 : decode cX5_read 17 = .ok (.if_icmp .gt 98, 3) := by decide +kernel
theorem dX5_read_20 : decode cX5_read 20 = .ok (.aload_n 1, 1) := by decide +kernel
theorem dX5_read_21 : decode cX5_read 21 = .ok (.iload_n 3, 1) := by decide +kernel
theorem dX5_read_22 : decode cX5_read 22 = .ok (.iload_n 2, 1) := by decide +kernel
theorem dX5_read_23 : decode cX5_read 23 = .ok (.invokestatic 31, 3) := by decide +kernel
theorem dX5_read_26 : decode cX5_read 26 = .ok (.istore 4, 2) := by decide +kernel
theorem dX5_read_28 : decode cX5_read 28 = .ok (.iload 4, 2) := by decide +kernel
theorem dX5_read_30 : decode cX5_read 30 = .ok (.iconst (-1), 1) := by decide +kernel
theorem dX5_read_31 : decode cX5_read 31 = .ok (.if_icmp .ne 8, 3) := by decide +kernel
theorem dX5_read_34 : decode cX5_read 34 = .ok (.bipush 100, 2) := by decide +kernel
theorem dX5_read_36 : decode cX5_read 36 = .ok (.iload_n 3, 1) := by decide +kernel
theorem dX5_read_37 : decode cX5_read 37 = .ok (.iadd, 1) := by decide +kernel
theorem dX5_read_38 : decode cX5_read 38 = .ok (.ireturn, 1) := by decide +kernel
theorem dX5_read_39 : decode cX5_read 39 = .ok (.iload_n 3, 1) := by decide +kernel
theorem dX5_read_40 : decode cX5_read 40 = .ok (.iconst 1, 1) := by decide +kernel
theorem dX5_read_41 : decode cX5_read 41 = .ok (.iadd, 1) := by decide +kernel
theorem dX5_read_42 : decode cX5_read 42 = .ok (.istore 5, 2) := by decide +kernel
theorem dX5_read_44 : decode cX5_read 44 = .ok (.aload_n 1, 1) := by decide +kernel
end
section
theorem dX5_read_45 : decode cX5_read 45 = .ok (.iload 5, 2) := by decide +kernel
theorem dX5_read_47 : decode cX5_read 47 = .ok (.iload_n 2, 1) := by decide +kernel
theorem dX5_read_48 : decode cX5_read 48 = .ok (.invokestatic 35, 3) := by decide +kernel
theorem dX5_read_51 : decode cX5_read 51 = .ok (.istore 6, 2) := by decide +kernel
theorem dX5_read_53 : decode cX5_read 53 = .ok (.aload_n 1, 1) := by decide +kernel
theorem dX5_read_54 : decode cX5_read 54 = .ok (.iload 5, 2) := by decide +kernel
theorem dX5_read_56 : decode cX5_read 56 = .ok (.iload 6, 2) := by decide +kernel
theorem dX5_read_58 : decode cX5_read 58 = .ok (.invokestatic 38, 3) := by decide +kernel
theorem dX5_read_61 : decode cX5_read 61 = .ok (.istore 7, 2) := by decide +kernel
theorem dX5_read_63 : decode cX5_read 63 = .ok (.aload_n 1, 1) := by decide +kernel
theorem dX5_read_64 : decode cX5_read 64 = .ok (.iload 5, 2) := by decide +kernel
theorem dX5_read_66 : decode cX5_read 66 = .ok (.iload 6, 2) := by decide +kernel
theorem dX5_read_68 : decode cX5_read 68 = .ok (.iload_n 2, 1) := by decide +kernel
theorem dX5_read_69 : decode cX5_read 69 = .ok (.iload 7, 2) := by decide +kernel
theorem dX5_read_71 : decode cX5_read 71 = .ok (.getstatic 41, 3) := by decide +kernel
theorem dX5_read_74 : decode cX5_read 74 = .ok (.iload 4, 2) := by decide +kernel
theorem dX5_read_76 : decode cX5_read 76 = .ok (.iaload, 1) := by decide +kernel
theorem dX5_read_77 : decode cX5_read 77 = .ok (.if_icmp .le 7, 3) := by decide +kernel
theorem dX5_read_80 : decode cX5_read 80 = .ok (.iconst 1, 1) := by decide +kernel
theorem dX5_read_81 : decode cX5_read 81 = .ok (.goto 4, 3) := by decide +kernel
theorem dX5_read_84 : decode cX5_read 84 = .ok (.iconst 0, 1) := by decide +kernel
theorem dX5_read_85 : decode cX5_read 85 = .ok (.invokestatic 44, 3) := by decide +kernel
theorem dX5_read_88 : decode cX5_read 88 = .ok (.istore 8, 2) := by decide +kernel
theorem dX5_read_90 : decode cX5_read 90 = .ok (.iload 8, 2) := by decide +kernel
theorem dX5_read_92 : decode cX5_read 92 = .ok (.ifCond .eq 6, 3) := by decide +kernel
theorem dX5_read_95 : decode cX5_read 95 = .ok (.iload 8, 2) := by decide +kernel
theorem dX5_read_97 : decode cX5_read 97 = .ok (.ireturn, 1) := by decide +kernel
theorem dX5_read_98 : decode cX5_read 98 = .ok (.aload_n 0, 1) := by decide +kernel
theorem dX5_read_99 : decode cX5_read 99 = .ok (.getfield 15, 3) := by decide +kernel
theorem dX5_read_102 : decode cX5_read 102 = .ok (.iload 4, 2) := by decide +kernel
theorem dX5_read_104 : decode cX5_read 104 = .ok (.iload 7, 2) := by decide +kernel
theorem dX5_read_106 : decode cX5_read 106 = .ok (.iastore, 1) := by decide +kernel
theorem dX5_read_107 : decode cX5_read 107 = .ok (.iload 6, 2) := by decide +kernel
theorem dX5_read_109 : decode cX5_read 109 = .ok (.iconst 1, 1) := by decide +kernel
theorem dX5_read_110 : decode cX5_read 110 = .ok (.iadd, 1) := by decide +kernel
theorem dX5_read_111 : decode cX5_read 111 = .ok (.istore_n 3, 1) := by decide +kernel
theorem dX5_read_112 : decode cX5_read 112 = .ok (.goto (-97), 3) := by decide +kernel
theorem dX5_read_115 : decode cX5_read 115 = .ok (.aload_n 0, 1) := by decide +kernel
theorem dX5_read_116 : decode cX5_read 116 = .ok (.getfield 15, 3) := by decide +kernel
theorem dX5_read_119 : decode cX5_read 119 = .ok (.iconst 0, 1) := by decide +kernel
theorem dX5_read_120 : decode cX5_read 120 = .ok (.aload_n 0, 1) := by decide +kernel
theorem dX5_read_121 : decode cX5_read 121 = .ok (.getfield 9, 3) := by decide +kernel
theorem dX5_read_124 : decode cX5_read 124 = .ok (.iconst 0, 1) := by decide +kernel
theorem dX5_read_125 : decode cX5_read 125 = .ok (.iconst 4, 1) := by decide +kernel
theorem dX5_read_126 : decode cX5_read 126 = .ok (.invokestatic 25, 3) := by decide +kernel
theorem dX5_read_129 : decode cX5_read 129 = .ok (.iconst 0, 1) := by decide +kernel
theorem dX5_read_130 : decode cX5_read 130 = .ok (.ireturn, 1) := by decide +kernel
theorem dX5_faultOfNumber_0 : decode cX5_faultOfNumber 0 = .ok (.iload_n 2, 1) := by decide +kernel
theorem dX5_faultOfNumber_1 : decode cX5_faultOfNumber 1 = .ok (.iload_n 1, 1) := by decide +kernel
theorem dX5_faultOfNumber_2 : decode cX5_faultOfNumber 2 = .ok (.if_icmp .ne 9, 3) := by decide +kernel
theorem dX5_faultOfNumber_5 : decode cX5_faultOfNumber 5 = .ok (.sipush 200, 3) := by decide +kernel
theorem dX5_faultOfNumber_8 : decode cX5_faultOfNumber 8 = .ok (.iload_n 1, 1) := by decide +kernel
theorem dX5_faultOfNumber_9 : decode cX5_faultOfNumber 9 = .ok (.iadd, 1) := by decide +kernel
theorem dX5_faultOfNumber_10 : decode cX5_faultOfNumber 10 = .ok (.ireturn, 1) := by decide +kernel
theorem dX5_faultOfNumber_11 : decode cX5_faultOfNumber 11 = .ok (.aload_n 0, 1) := by decide +kernel
theorem dX5_faultOfNumber_12 : decode cX5_faultOfNumber 12 = .ok (.iload_n 2, 1) := by decide +kernel
theorem dX5_faultOfNumber_13 : decode cX5_faultOfNumber 13 = .ok (.iload_n 3, 1) := by decide +kernel
theorem dX5_faultOfNumber_14 : decode cX5_faultOfNumber 14 = .ok (.invokestatic 48, 3) := by decide +kernel
theorem dX5_faultOfNumber_17 : decode cX5_faultOfNumber 17 = .ok (.ifCond .eq 9, 3) := by decide +kernel
theorem dX5_faultOfNumber_20 : decode cX5_faultOfNumber 20 = .ok (.sipush 300, 3) := by decide +kernel
theorem dX5_faultOfNumber_23 : decode cX5_faultOfNumber 23 = .ok (.iload_n 2, 1) := by decide +kernel
theorem dX5_faultOfNumber_24 : decode cX5_faultOfNumber 24 = .ok (.iadd, 1) := by decide +kernel
theorem dX5_faultOfNumber_25 : decode cX5_faultOfNumber 25 = .ok (.ireturn, 1) := by decide +kernel
theorem dX5_faultOfNumber_26 : decode cX5_faultOfNumber 26 = .ok (.iload 4, 2) := by decide +kernel
theorem dX5_faultOfNumber_28 : decode cX5_faultOfNumber 28 = .ok (.ifCond .eq 9, 3) := by decide +kernel
theorem dX5_faultOfNumber_31 : decode cX5_faultOfNumber 31 = .ok (.sipush 400, 3) := by decide +kernel
theorem dX5_faultOfNumber_34 : decode cX5_faultOfNumber 34 = .ok (.iload_n 1, 1) := by decide +kernel
theorem dX5_faultOfNumber_35 : decode cX5_faultOfNumber 35 = .ok (.iadd, 1) := by decide +kernel
theorem dX5_faultOfNumber_36 : decode cX5_faultOfNumber 36 = .ok (.ireturn, 1) := by decide +kernel
theorem dX5_faultOfNumber_37 : decode cX5_faultOfNumber 37 = .ok (.iload_n 2, 1) := by decide +kernel
theorem dX5_faultOfNumber_38 : decode cX5_faultOfNumber 38 = .ok (.iload_n 3, 1) := by decide +kernel
theorem dX5_faultOfNumber_39 : decode cX5_faultOfNumber 39 = .ok (.if_icmp .ge 21, 3) := by decide +kernel
theorem dX5_faultOfNumber_42 : decode cX5_faultOfNumber 42 = .ok (.aload_n 0, 1) := by decide +kernel
theorem dX5_faultOfNumber_43 : decode cX5_faultOfNumber 43 = .ok (.iload_n 2, 1) := by decide +kernel
theorem dX5_faultOfNumber_44 : decode cX5_faultOfNumber 44 = .ok (.invokevirtual 52, 3) := by decide +kernel
theorem dX5_faultOfNumber_47 : decode cX5_faultOfNumber 47 = .ok (.bipush 59, 2) := by decide +kernel
theorem dX5_faultOfNumber_49 : decode cX5_faultOfNumber 49 = .ok (.if_icmp .eq 11, 3) := by decide +kernel
theorem dX5_faultOfNumber_52 : decode cX5_faultOfNumber 52 = .ok (.sipush 500, 3) := by decide +kernel
theorem dX5_faultOfNumber_55 : decode cX5_faultOfNumber 55 = .ok (.iload_n 2, 1) := by decide +kernel
theorem dX5_faultOfNumber_56 : decode cX5_faultOfNumber 56 = .ok (.iadd, 1) := by decide +kernel
theorem dX5_faultOfNumber_57 : decode cX5_faultOfNumber 57 = .ok (.goto 4, 3) := by decide +kernel
theorem dX5_faultOfNumber_60 : decode cX5_faultOfNumber 60 = .ok (.iconst 0, 1) := by decide +kernel
theorem dX5_faultOfNumber_61 : decode cX5_faultOfNumber 61 = .ok (.ireturn, 1) := by decide +kernel
theorem dX5_kindAt_0 : decode cX5_kindAt 0 = .ok (.iconst 0, 1) := by decide +kernel
theorem dX5_kindAt_1 : decode cX5_kindAt 1 = .ok (.istore_n 3, 1) := by decide +kernel
theorem dX5_kindAt_2 : decode cX5_kindAt 2 = .ok (.iload_n 3, 1) := by decide +kernel
theorem dX5_kindAt_3 : decode cX5_kindAt 3 = .ok (.iconst 4, 1) := by decide +kernel
theorem dX5_kindAt_4 : decode cX5_kindAt 4 = .ok (.if_icmp .ge 29, 3) := by decide +kernel
theorem dX5_kindAt_7 : decode cX5_kindAt 7 = .ok (.iload_n 1, 1) := by decide +kernel
theorem dX5_kindAt_8 : decode cX5_kindAt 8 = .ok (.iload_n 2, 1) := by decide +kernel
theorem dX5_kindAt_9 : decode cX5_kindAt 9 = .ok (.if_icmp .ge 24, 3) := by decide +kernel
theorem dX5_kindAt_12 : decode cX5_kindAt 12 = .ok (.aload_n 0, 1) := by decide +kernel
theorem dX5_kindAt_13 : decode cX5_kindAt 13 = .ok (.iload_n 1, 1) := by decide +kernel
theorem dX5_kindAt_14 : decode cX5_kindAt 14 = .ok (.invokevirtual 52, 3) := by decide +kernel
theorem dX5_kindAt_17 : decode cX5_kindAt 17 = .ok (.getstatic 58, 3) := by decide +kernel
theorem dX5_kindAt_20 : decode cX5_kindAt 20 = .ok (.iload_n 3, 1) := by decide +kernel
theorem dX5_kindAt_21 : decode cX5_kindAt 21 = .ok (.caload, 1) := by decide +kernel
theorem dX5_kindAt_22 : decode cX5_kindAt 22 = .ok (.if_icmp .ne 5, 3) := by decide +kernel
theorem dX5_kindAt_25 : decode cX5_kindAt 25 = .ok (.iload_n 3, 1) := by decide +kernel
theorem dX5_kindAt_26 : decode cX5_kindAt 26 = .ok (.ireturn, 1) := by decide +kernel
theorem dX5_kindAt_27 : decode cX5_kindAt 27 = .ok (.iinc 3 1, 3) := by decide +kernel
theorem dX5_kindAt_30 : decode cX5_kindAt 30 = .ok (.goto (-28), 3) := by decide +kernel
theorem dX5_kindAt_33 : decode cX5_kindAt 33 = .ok (.iconst (-1), 1) := by decide +kernel
theorem dX5_kindAt_34 : decode cX5_kindAt 34 = .ok (.ireturn, 1) := by decide +kernel
theorem dX5_isDigit_0 : decode cX5_isDigit 0 = .ok (.iload_n 1, 1) := by decide +kernel
theorem dX5_isDigit_1 : decode cX5_isDigit 1 = .ok (.iload_n 2, 1) := by decide +kernel
theorem dX5_isDigit_2 : decode cX5_isDigit 2 = .ok (.if_icmp .ge 22, 3) := by decide +kernel
theorem dX5_isDigit_5 : decode cX5_isDigit 5 = .ok (.aload_n 0, 1) := by decide +kernel
theorem dX5_isDigit_6 : decode cX5_isDigit 6 = .ok (.iload_n 1, 1) := by decide +kernel
theorem dX5_isDigit_7 : decode cX5_isDigit 7 = .ok (.invokevirtual 52, 3) := by decide +kernel
theorem dX5_isDigit_10 : decode cX5_isDigit 10 = .ok (.bipush 48, 2) := by decide +kernel
theorem dX5_isDigit_12 : decode cX5_isDigit 12 = .ok (.bipush 57, 2) := by decide +kernel
theorem dX5_isDigit_14 : decode cX5_isDigit 14 = .ok (.invokestatic 18, 3) := by decide +kernel
theorem dX5_isDigit_17 : decode cX5_isDigit 17 = .ok (.ifCond .eq 7, 3) := by decide +kernel
theorem dX5_isDigit_20 : decode cX5_isDigit 20 = .ok (.iconst 1, 1) := by decide +kernel
theorem dX5_isDigit_21 : decode cX5_isDigit 21 = .ok (.goto 4, 3) := by decide +kernel
theorem dX5_isDigit_24 : decode cX5_isDigit 24 = .ok (.iconst 0, 1) := by decide +kernel
theorem dX5_isDigit_25 : decode cX5_isDigit 25 = .ok (.ireturn, 1) := by decide +kernel
theorem dX5_endOfDigits_0 : decode cX5_endOfDigits 0 = .ok (.iload_n 1, 1) := by decide +kernel
theorem dX5_endOfDigits_1 : decode cX5_endOfDigits 1 = .ok (.istore_n 3, 1) := by decide +kernel
theorem dX5_endOfDigits_2 : decode cX5_endOfDigits 2 = .ok (.iload_n 3, 1) := by decide +kernel
theorem dX5_endOfDigits_3 : decode cX5_endOfDigits 3 = .ok (.iload_n 1, 1) := by decide +kernel
theorem dX5_endOfDigits_4 : decode cX5_endOfDigits 4 = .ok (.iconst 4, 1) := by decide +kernel
theorem dX5_endOfDigits_5 : decode cX5_endOfDigits 5 = .ok (.iadd, 1) := by decide +kernel
theorem dX5_endOfDigits_6 : decode cX5_endOfDigits 6 = .ok (.if_icmp .ge 18, 3) := by decide +kernel
theorem dX5_endOfDigits_9 : decode cX5_endOfDigits 9 = .ok (.aload_n 0, 1) := by decide +kernel
theorem dX5_endOfDigits_10 : decode cX5_endOfDigits 10 = .ok (.iload_n 3, 1) := by decide +kernel
theorem dX5_endOfDigits_11 : decode cX5_endOfDigits 11 = .ok (.iload_n 2, 1) := by decide +kernel
theorem dX5_endOfDigits_12 : decode cX5_endOfDigits 12 = .ok (.invokestatic 48, 3) := by decide +kernel
theorem dX5_endOfDigits_15 : decode cX5_endOfDigits 15 = .ok (.ifCond .eq 9, 3) := by decide +kernel
theorem dX5_endOfDigits_18 : decode cX5_endOfDigits 18 = .ok (.iinc 3 1, 3) := by decide +kernel
theorem dX5_endOfDigits_21 : decode cX5_endOfDigits 21 = .ok (.goto (-19), 3) := by decide +kernel
theorem dX5_endOfDigits_24 : decode cX5_endOfDigits 24 = .ok (.iload_n 3, 1) := by decide +kernel
theorem dX5_endOfDigits_25 : decode cX5_endOfDigits 25 = .ok (.ireturn, 1) := by decide +kernel
theorem dX5_numberBetween_0 : decode cX5_numberBetween 0 = .ok (.iconst 0, 1) := by decide +kernel
theorem dX5_numberBetween_1 : decode cX5_numberBetween 1 = .ok (.istore_n 3, 1) := by decide +kernel
theorem dX5_numberBetween_2 : decode cX5_numberBetween 2 = .ok (.iload_n 1, 1) := by decide +kernel
theorem dX5_numberBetween_3 : decode cX5_numberBetween 3 = .ok (.istore 4, 2) := by decide +kernel
theorem dX5_numberBetween_5 : decode cX5_numberBetween 5 = .ok (.iload 4, 2) := by decide +kernel
theorem dX5_numberBetween_7 : decode cX5_numberBetween 7 = .ok (.iload_n 2, 1) := by decide +kernel
theorem dX5_numberBetween_8 : decode cX5_numberBetween 8 = .ok (.if_icmp .ge 24, 3) := by decide +kernel
theorem dX5_numberBetween_11 : decode cX5_numberBetween 11 = .ok (.iload_n 3, 1) := by decide +kernel
theorem dX5_numberBetween_12 : decode cX5_numberBetween 12 = .ok (.bipush 10, 2) := by decide +kernel
theorem dX5_numberBetween_14 : decode cX5_numberBetween 14 = .ok (.imul, 1) := by decide +kernel
theorem dX5_numberBetween_15 : decode cX5_numberBetween 15 = .ok (.aload_n 0, 1) := by decide +kernel
theorem dX5_numberBetween_16 : decode cX5_numberBetween 16 = .ok (.iload 4, 2) := by decide +kernel
theorem dX5_numberBetween_18 : decode cX5_numberBetween 18 = .ok (.invokevirtual 52, 3) := by decide +kernel
theorem dX5_numberBetween_21 : decode cX5_numberBetween 21 = .ok (.iadd, 1) := by decide +kernel
theorem dX5_numberBetween_22 : decode cX5_numberBetween 22 = .ok (.bipush 48, 2) := by decide +kernel
theorem dX5_numberBetween_24 : decode cX5_numberBetween 24 = .ok (.isub, 1) := by decide +kernel
theorem dX5_numberBetween_25 : decode cX5_numberBetween 25 = .ok (.istore_n 3, 1) := by decide +kernel
theorem dX5_numberBetween_26 : decode cX5_numberBetween 26 = .ok (.iinc 4 1, 3) := by decide +kernel
theorem dX5_numberBetween_29 : decode cX5_numberBetween 29 = .ok (.goto (-24), 3) := by decide +kernel
theorem dX5_numberBetween_32 : decode cX5_numberBetween 32 = .ok (.iload_n 3, 1) := by decide +kernel
theorem dX5_numberBetween_33 : decode cX5_numberBetween 33 = .ok (.ireturn, 1) := by decide +kernel
theorem dX6_init_0 : decode cX6_init 0 = .ok (.aload_n 0, 1) := by decide +kernel
theorem dX6_init_1 : decode cX6_init 1 = .ok (.invokespecial 3, 3) := by decide +kernel
theorem dX6_init_4 : decode cX6_init 4 = .ok (.aload_n 0, 1) := by decide +kernel
theorem dX6_init_5 : decode cX6_init 5 = .ok (.iconst 0, 1) := by decide +kernel
theorem dX6_init_6 : decode cX6_init 6 = .ok (.putfield 9, 3) := by decide +kernel
theorem dX6_init_9 : decode cX6_init 9 = .ok (.aload_n 0, 1) := by decide +kernel
theorem dX6_init_10 : decode cX6_init 10 = .ok (.iconst 0, 1) := by decide +kernel
theorem dX6_init_11 : decode cX6_init 11 = .ok (.putfield 15, 3) := by decide +kernel
theorem dX6_init_14 : decode cX6_init 14 = .ok (.aload_n 0, 1) := by decide +kernel
theorem dX6_init_15 : decode cX6_init 15 = .ok (.iconst (-1), 1) := by decide +kernel
theorem dX6_init_16 : decode cX6_init 16 = .ok (.putfield 18, 3) := by decide +kernel
theorem dX6_init_19 : decode cX6_init 19 = .ok (.return_, 1) := by decide +kernel
theorem dX6_learn_0 : decode cX6_learn 0 = .ok (.aload_n 0, 1) := by decide +kernel
theorem dX6_learn_1 : decode cX6_learn 1 = .ok (.iload_n 1, 1) := by decide +kernel
theorem dX6_learn_2 : decode cX6_learn 2 = .ok (.putfield 9, 3) := by decide +kernel
theorem dX6_learn_5 : decode cX6_learn 5 = .ok (.aload_n 0, 1) := by decide +kernel
theorem dX6_learn_6 : decode cX6_learn 6 = .ok (.iload_n 2, 1) := by decide +kernel
theorem dX6_learn_7 : decode cX6_learn 7 = .ok (.putfield 15, 3) := by decide +kernel
theorem dX6_learn_10 : decode cX6_learn 10 = .ok (.return_, 1) := by decide +kernel
theorem dX6_fits_0 : decode cX6_fits 0 = .ok (.aload_n 0, 1) := by decide +kernel
theorem dX6_fits_1 : decode cX6_fits 1 = .ok (.getfield 9, 3) := by decide +kernel
theorem dX6_fits_4 : decode cX6_fits 4 = .ok (.iload_n 1, 1) := by decide +kernel
theorem dX6_fits_5 : decode cX6_fits 5 = .ok (.invokestatic 21, 3) := by decide +kernel
theorem dX6_fits_8 : decode cX6_fits 8 = .ok (.ifCond .eq 18, 3) := by decide +kernel
theorem dX6_fits_11 : decode cX6_fits 11 = .ok (.aload_n 0, 1) := by decide +kernel
theorem dX6_fits_12 : decode cX6_fits 12 = .ok (.getfield 15, 3) := by decide +kernel
theorem dX6_fits_15 : decode cX6_fits 15 = .ok (.iload_n 2, 1) := by decide +kernel
theorem dX6_fits_16 : decode cX6_fits 16 = .ok (.invokestatic 21, 3) := by decide +kernel
theorem dX6_fits_19 : decode cX6_fits 19 = .ok (.ifCond .eq 7, 3) := by decide +kernel
theorem dX6_fits_22 : decode cX6_fits 22 = .ok (.iconst 1, 1) := by decide +kernel
theorem dX6_fits_23 : decode cX6_fits 23 = .ok (.goto 4, 3) := by decide +kernel
theorem dX6_fits_26 : decode cX6_fits 26 = .ok (.iconst 0, 1) := by decide +kernel
theorem dX6_fits_27 : decode cX6_fits 27 = .ok (.ireturn, 1) := by decide +kernel
theorem dX6_dayHeard_0 : decode cX6_dayHeard 0 = .ok (.aload_n 0, 1) := by decide +kernel
theorem dX6_dayHeard_1 : decode cX6_dayHeard 1 = .ok (.getfield 18, 3) := by decide +kernel
theorem dX6_dayHeard_4 : decode cX6_dayHeard 4 = .ok (.iconst (-1), 1) := by decide +kernel
theorem dX6_dayHeard_5 : decode cX6_dayHeard 5 = .ok (.if_icmp .ne 7, 3) := by decide +kernel
theorem dX6_dayHeard_8 : decode cX6_dayHeard 8 = .ok (.iconst (-1), 1) := by decide +kernel
theorem dX6_dayHeard_9 : decode cX6_dayHeard 9 = .ok (.goto 10, 3) := by decide +kernel
theorem dX6_dayHeard_12 : decode cX6_dayHeard 12 = .ok (.aload_n 0, 1) := by decide +kernel
theorem dX6_dayHeard_13 : decode cX6_dayHeard 13 = .ok (.getfield 18, 3) := by decide +kernel
theorem dX6_dayHeard_16 : decode cX6_dayHeard 16 = .ok (.bipush 6, 2) := by decide +kernel
theorem dX6_dayHeard_18 : decode cX6_dayHeard 18 = .ok (.idiv, 1) := by decide +kernel
theorem dX6_dayHeard_19 : decode cX6_dayHeard 19 = .ok (.ireturn, 1) := by decide +kernel
theorem dX7_init_0 : decode cX7_init 0 = .ok (.aload_n 0, 1) := by decide +kernel
theorem dX7_init_1 : decode cX7_init 1 = .ok (.invokespecial 1, 3) := by decide +kernel
theorem dX7_init_4 : decode cX7_init 4 = .ok (.aload_n 0, 1) := by decide +kernel
theorem dX7_init_5 : decode cX7_init 5 = .ok (.new 7, 3) := by decide +kernel
theorem dX7_init_8 : decode cX7_init 8 = .ok (.dup, 1) := by decide +kernel
theorem dX7_init_9 : decode cX7_init 9 = .ok (.invokespecial 9, 3) := by decide +kernel
theorem dX7_init_12 : decode cX7_init 12 = .ok (.putfield 10, 3) := by decide +kernel
theorem dX7_init_15 : decode cX7_init 15 = .ok (.aload_n 0, 1) := by decide +kernel
theorem dX7_init_16 : decode cX7_init 16 = .ok (.new 16, 3) := by decide +kernel
theorem dX7_init_19 : decode cX7_init 19 = .ok (.dup, 1) := by decide +kernel
theorem dX7_init_20 : decode cX7_init 20 = .ok (.invokespecial 18, 3) := by decide +kernel
theorem dX7_init_23 : decode cX7_init 23 = .ok (.putfield 19, 3) := by decide +kernel
theorem dX7_init_26 : decode cX7_init 26 = .ok (.aload_n 0, 1) := by decide +kernel
theorem dX7_init_27 : decode cX7_init 27 = .ok (.bipush 6, 2) := by decide +kernel
theorem dX7_init_29 : decode cX7_init 29 = .ok (.anewarray 23, 3) := by decide +kernel
theorem dX7_init_32 : decode cX7_init 32 = .ok (.putfield 25, 3) := by decide +kernel
theorem dX7_init_35 : decode cX7_init 35 = .ok (.aload_n 0, 1) := by decide +kernel
theorem dX7_init_36 : decode cX7_init 36 = .ok (.bipush 6, 2) := by decide +kernel
theorem dX7_init_38 : decode cX7_init 38 = .ok (.anewarray 29, 3) := by decide +kernel
theorem dX7_init_41 : decode cX7_init 41 = .ok (.putfield 31, 3) := by decide +kernel
theorem dX7_init_44 : decode cX7_init 44 = .ok (.aload_n 0, 1) := by decide +kernel
theorem dX7_init_45 : decode cX7_init 45 = .ok (.bipush 10, 2) := by decide +kernel
theorem dX7_init_47 : decode cX7_init 47 = .ok (.anewarray 35, 3) := by decide +kernel
theorem dX7_init_50 : decode cX7_init 50 = .ok (.putfield 37, 3) := by decide +kernel
theorem dX7_init_53 : decode cX7_init 53 = .ok (.aload_n 0, 1) := by decide +kernel
theorem dX7_init_54 : decode cX7_init 54 = .ok (.iconst 5, 1) := by decide +kernel
theorem dX7_init_55 : decode cX7_init 55 = .ok (.newarray .int, 2) := by decide +kernel
theorem dX7_init_57 : decode cX7_init 57 = .ok (.dup, 1) := by decide +kernel
theorem dX7_init_58 : decode cX7_init 58 = .ok (.iconst 0, 1) := by decide +kernel
theorem dX7_init_59 : decode cX7_init 59 = .ok (.iconst 1, 1) := by decide +kernel
theorem dX7_init_60 : decode cX7_init 60 = .ok (.iastore, 1) := by decide +kernel
theorem dX7_init_61 : decode cX7_init 61 = .ok (.dup, 1) := by decide +kernel
theorem dX7_init_62 : decode cX7_init 62 = .ok (.iconst 1, 1) := by decide +kernel
theorem dX7_init_63 : decode cX7_init 63 = .ok (.iconst 1, 1) := by decide +kernel
theorem dX7_init_64 : decode cX7_init 64 = .ok (.iastore, 1) := by decide +kernel
theorem dX7_init_65 : decode cX7_init 65 = .ok (.dup, 1) := by decide +kernel
theorem dX7_init_66 : decode cX7_init 66 = .ok (.iconst 2, 1) := by decide +kernel
theorem dX7_init_67 : decode cX7_init 67 = .ok (.iconst 1, 1) := by decide +kernel
theorem dX7_init_68 : decode cX7_init 68 = .ok (.iastore, 1) := by decide +kernel
theorem dX7_init_69 : decode cX7_init 69 = .ok (.dup, 1) := by decide +kernel
theorem dX7_init_70 : decode cX7_init 70 = .ok (.iconst 3, 1) := by decide +kernel
theorem dX7_init_71 : decode cX7_init 71 = .ok (.iconst 1, 1) := by decide +kernel
theorem dX7_init_72 : decode cX7_init 72 = .ok (.iastore, 1) := by decide +kernel
theorem dX7_init_73 : decode cX7_init 73 = .ok (.dup, 1) := by decide +kernel
theorem dX7_init_74 : decode cX7_init 74 = .ok (.iconst 4, 1) := by decide +kernel
theorem dX7_init_75 : decode cX7_init 75 = .ok (.iconst 1, 1) := by decide +kernel
theorem dX7_init_76 : decode cX7_init 76 = .ok (.iastore, 1) := by decide +kernel
theorem dX7_init_77 : decode cX7_init 77 = .ok (.putfield 41, 3) := by decide +kernel
theorem dX7_init_80 : decode cX7_init 80 = .ok (.aload_n 0, 1) := by decide +kernel
theorem dX7_init_81 : decode cX7_init 81 = .ok (.bipush 8, 2) := by decide +kernel
theorem dX7_init_83 : decode cX7_init 83 = .ok (.newarray .int, 2) := by decide +kernel
theorem dX7_init_85 : decode cX7_init 85 = .ok (.putfield 45, 3) := by decide +kernel
theorem dX7_init_88 : decode cX7_init 88 = .ok (.aload_n 0, 1) := by decide +kernel
theorem dX7_init_89 : decode cX7_init 89 = .ok (.new 48, 3) := by decide +kernel
theorem dX7_init_92 : decode cX7_init 92 = .ok (.dup, 1) := by decide +kernel
theorem dX7_init_93 : decode cX7_init 93 = .ok (.invokespecial 50, 3) := by decide +kernel
theorem dX7_init_96 : decode cX7_init 96 = .ok (.putfield 51, 3) := by decide +kernel
theorem dX7_init_99 : decode cX7_init 99 = .ok (.aload_n 0, 1) := by decide +kernel
theorem dX7_init_100 : decode cX7_init 100 = .ok (.iconst 0, 1) := by decide +kernel
theorem dX7_init_101 : decode cX7_init 101 = .ok (.putfield 55, 3) := by decide +kernel
theorem dX7_init_104 : decode cX7_init 104 = .ok (.aload_n 0, 1) := by decide +kernel
theorem dX7_init_105 : decode cX7_init 105 = .ok (.iconst 0, 1) := by decide +kernel
theorem dX7_init_106 : decode cX7_init 106 = .ok (.putfield 59, 3) := by decide +kernel
theorem dX7_init_109 : decode cX7_init 109 = .ok (.aload_n 0, 1) := by decide +kernel
theorem dX7_init_110 : decode cX7_init 110 = .ok (.iconst 0, 1) := by decide +kernel
theorem dX7_init_111 : decode cX7_init 111 = .ok (.putfield 62, 3) := by decide +kernel
theorem dX7_init_114 : decode cX7_init 114 = .ok (.aload_n 0, 1) := by decide +kernel
theorem dX7_init_115 : decode cX7_init 115 = .ok (.iconst 0, 1) := by decide +kernel
theorem dX7_init_116 : decode cX7_init 116 = .ok (.putfield 65, 3) := by decide +kernel
theorem dX7_init_119 : decode cX7_init 119 = .ok (.aload_n 0, 1) := by decide +kernel
theorem dX7_init_120 : decode cX7_init 120 = .ok (.iconst 0, 1) := by decide +kernel
theorem dX7_init_121 : decode cX7_init 121 = .ok (.putfield 68, 3) := by decide +kernel
theorem dX7_init_124 : decode cX7_init 124 = .ok (.iconst 0, 1) := by decide +kernel
theorem dX7_init_125 : decode cX7_init 125 = .ok (.istore_n 1, 1) := by decide +kernel
theorem dX7_init_126 : decode cX7_init 126 = .ok (.iload_n 1, 1) := by decide +kernel
theorem dX7_init_127 : decode cX7_init 127 = .ok (.bipush 6, 2) := by decide +kernel
theorem dX7_init_129 : decode cX7_init 129 = .ok (.if_icmp .ge 22, 3) := by decide +kernel
theorem dX7_init_132 : decode cX7_init 132 = .ok (.aload_n 0, 1) := by decide +kernel
theorem dX7_init_133 : decode cX7_init 133 = .ok (.getfield 25, 3) := by decide +kernel
theorem dX7_init_136 : decode cX7_init 136 = .ok (.iload_n 1, 1) := by decide +kernel
theorem dX7_init_137 : decode cX7_init 137 = .ok (.new 23, 3) := by decide +kernel
theorem dX7_init_140 : decode cX7_init 140 = .ok (.dup, 1) := by decide +kernel
theorem dX7_init_141 : decode cX7_init 141 = .ok (.invokespecial 72, 3) := by decide +kernel
theorem dX7_init_144 : decode cX7_init 144 = .ok (.aastore, 1) := by decide +kernel
theorem dX7_init_145 : decode cX7_init 145 = .ok (.iinc 1 1, 3) := by decide +kernel
theorem dX7_init_148 : decode cX7_init 148 = .ok (.goto (-22), 3) := by decide +kernel
theorem dX7_init_151 : decode cX7_init 151 = .ok (.iconst 0, 1) := by decide +kernel
theorem dX7_init_152 : decode cX7_init 152 = .ok (.istore_n 1, 1) := by decide +kernel
theorem dX7_init_153 : decode cX7_init 153 = .ok (.iload_n 1, 1) := by decide +kernel
theorem dX7_init_154 : decode cX7_init 154 = .ok (.bipush 6, 2) := by decide +kernel
theorem dX7_init_156 : decode cX7_init 156 = .ok (.if_icmp .ge 22, 3) := by decide +kernel
theorem dX7_init_159 : decode cX7_init 159 = .ok (.aload_n 0, 1) := by decide +kernel
theorem dX7_init_160 : decode cX7_init 160 = .ok (.getfield 31, 3) := by decide +kernel
theorem dX7_init_163 : decode cX7_init 163 = .ok (.iload_n 1, 1) := by decide +kernel
theorem dX7_init_164 : decode cX7_init 164 = .ok (.new 29, 3) := by decide +kernel
theorem dX7_init_167 : decode cX7_init 167 = .ok (.dup, 1) := by decide +kernel
theorem dX7_init_168 : decode cX7_init 168 = .ok (.invokespecial 73, 3) := by decide +kernel
theorem dX7_init_171 : decode cX7_init 171 = .ok (.aastore, 1) := by decide +kernel
theorem dX7_init_172 : decode cX7_init 172 = .ok (.iinc 1 1, 3) := by decide +kernel
theorem dX7_init_175 : decode cX7_init 175 = .ok (.goto (-22), 3) := by decide +kernel
theorem dX7_init_178 : decode cX7_init 178 = .ok (.iconst 0, 1) := by decide +kernel
theorem dX7_init_179 : decode cX7_init 179 = .ok (.istore_n 1, 1) := by decide +kernel
theorem dX7_init_180 : decode cX7_init 180 = .ok (.iload_n 1, 1) := by decide +kernel
theorem dX7_init_181 : decode cX7_init 181 = .ok (.bipush 10, 2) := by decide +kernel
theorem dX7_init_183 : decode cX7_init 183 = .ok (.if_icmp .ge 22, 3) := by decide +kernel
theorem dX7_init_186 : decode cX7_init 186 = .ok (.aload_n 0, 1) := by decide +kernel
theorem dX7_init_187 : decode cX7_init 187 = .ok (.getfield 37, 3) := by decide +kernel
theorem dX7_init_190 : decode cX7_init 190 = .ok (.iload_n 1, 1) := by decide +kernel
theorem dX7_init_191 : decode cX7_init 191 = .ok (.new 35, 3) := by decide +kernel
theorem dX7_init_194 : decode cX7_init 194 = .ok (.dup, 1) := by decide +kernel
theorem dX7_init_195 : decode cX7_init 195 = .ok (.invokespecial 74, 3) := by decide +kernel
theorem dX7_init_198 : decode cX7_init 198 = .ok (.aastore, 1) := by decide +kernel
theorem dX7_init_199 : decode cX7_init 199 = .ok (.iinc 1 1, 3) := by decide +kernel
theorem dX7_init_202 : decode cX7_init 202 = .ok (.goto (-22), 3) := by decide +kernel
theorem dX7_init_205 : decode cX7_init 205 = .ok (.return_, 1) := by decide +kernel
theorem dX7_feed_0 : decode cX7_feed 0 = .ok (.aload_n 0, 1) := by decide +kernel
theorem dX7_feed_1 : decode cX7_feed 1 = .ok (.getfield 10, 3) := by decide +kernel
theorem dX7_feed_4 : decode cX7_feed 4 = .ok (.invokevirtual 75, 3) := by decide +kernel
theorem dX7_feed_7 : decode cX7_feed 7 = .ok (.ifCond .ne 5, 3) := by decide +kernel
theorem dX7_feed_10 : decode cX7_feed 10 = .ok (.iconst (-1), 1) := by decide +kernel
theorem dX7_feed_11 : decode cX7_feed 11 = .ok (.ireturn, 1) := by decide +kernel
theorem dX7_feed_12 : decode cX7_feed 12 = .ok (.aload_n 0, 1) := by decide +kernel
theorem dX7_feed_13 : decode cX7_feed 13 = .ok (.getfield 10, 3) := by decide +kernel
theorem dX7_feed_16 : decode cX7_feed 16 = .ok (.iload_n 1, 1) := by decide +kernel
theorem dX7_feed_17 : decode cX7_feed 17 = .ok (.invokevirtual 79, 3) := by decide +kernel
theorem dX7_feed_20 : decode cX7_feed 20 = .ok (.aload_n 0, 1) := by decide +kernel
theorem dX7_feed_21 : decode cX7_feed 21 = .ok (.getfield 10, 3) := by decide +kernel
theorem dX7_feed_24 : decode cX7_feed 24 = .ok (.iload_n 2, 1) := by decide +kernel
theorem dX7_feed_25 : decode cX7_feed 25 = .ok (.invokevirtual 79, 3) := by decide +kernel
theorem dX7_feed_28 : decode cX7_feed 28 = .ok (.aload_n 0, 1) := by decide +kernel
theorem dX7_feed_29 : decode cX7_feed 29 = .ok (.getfield 10, 3) := by decide +kernel
theorem dX7_feed_32 : decode cX7_feed 32 = .ok (.iload_n 3, 1) := by decide +kernel
theorem dX7_feed_33 : decode cX7_feed 33 = .ok (.invokevirtual 79, 3) := by decide +kernel
theorem dX7_feed_36 : decode cX7_feed 36 = .ok (.aload_n 0, 1) := by decide +kernel
theorem dX7_feed_37 : decode cX7_feed 37 = .ok (.getfield 10, 3) := by decide +kernel
theorem dX7_feed_40 : decode cX7_feed 40 = .ok (.iload 4, 2) := by decide +kernel
theorem dX7_feed_42 : decode cX7_feed 42 = .ok (.invokevirtual 79, 3) := by decide +kernel
theorem dX7_feed_45 : decode cX7_feed 45 = .ok (.aload_n 0, 1) := by decide +kernel
theorem dX7_feed_46 : decode cX7_feed 46 = .ok (.getfield 10, 3) := by decide +kernel
theorem dX7_feed_49 : decode cX7_feed 49 = .ok (.iload 5, 2) := by decide +kernel
theorem dX7_feed_51 : decode cX7_feed 51 = .ok (.invokevirtual 79, 3) := by decide +kernel
theorem dX7_feed_54 : decode cX7_feed 54 = .ok (.aload_n 0, 1) := by decide +kernel
theorem dX7_feed_55 : decode cX7_feed 55 = .ok (.getfield 10, 3) := by decide +kernel
theorem dX7_feed_58 : decode cX7_feed 58 = .ok (.invokevirtual 83, 3) := by decide +kernel
theorem dX7_feed_61 : decode cX7_feed 61 = .ok (.ireturn, 1) := by decide +kernel
theorem dX7_word_0 : decode cX7_word 0 = .ok (.iload_n 1, 1) := by decide +kernel
theorem dX7_word_1 : decode cX7_word 1 = .ok (.ifCond .lt 14, 3) := by decide +kernel
theorem dX7_word_4 : decode cX7_word 4 = .ok (.iload_n 1, 1) := by decide +kernel
theorem dX7_word_5 : decode cX7_word 5 = .ok (.aload_n 0, 1) := by decide +kernel
theorem dX7_word_6 : decode cX7_word 6 = .ok (.getfield 10, 3) := by decide +kernel
theorem dX7_word_9 : decode cX7_word 9 = .ok (.invokevirtual 83, 3) := by decide +kernel
theorem dX7_word_12 : decode cX7_word 12 = .ok (.if_icmp .le 5, 3) := by decide +kernel
theorem dX7_word_15 : decode cX7_word 15 = .ok (.iconst (-1), 1) := by decide +kernel
theorem dX7_word_16 : decode cX7_word 16 = .ok (.ireturn, 1) := by decide +kernel
theorem dX7_word_17 : decode cX7_word 17 = .ok (.aload_n 0, 1) := by decide +kernel
theorem dX7_word_18 : decode cX7_word 18 = .ok (.getfield 19, 3) := by decide +kernel
theorem dX7_word_21 : decode cX7_word 21 = .ok (.aload_n 0, 1) := by decide +kernel
theorem dX7_word_22 : decode cX7_word 22 = .ok (.getfield 10, 3) := by decide +kernel
theorem dX7_word_25 : decode cX7_word 25 = .ok (.iload_n 1, 1) := by decide +kernel
theorem dX7_word_26 : decode cX7_word 26 = .ok (.invokevirtual 87, 3) := by decide +kernel
theorem dX7_word_29 : decode cX7_word 29 = .ok (.istore_n 2, 1) := by decide +kernel
theorem dX7_word_30 : decode cX7_word 30 = .ok (.aload_n 0, 1) := by decide +kernel
theorem dX7_word_31 : decode cX7_word 31 = .ok (.getfield 10, 3) := by decide +kernel
theorem dX7_word_34 : decode cX7_word 34 = .ok (.invokevirtual 91, 3) := by decide +kernel
theorem dX7_word_37 : decode cX7_word 37 = .ok (.aload_n 0, 1) := by decide +kernel
theorem dX7_word_38 : decode cX7_word 38 = .ok (.iconst 0, 1) := by decide +kernel
theorem dX7_word_39 : decode cX7_word 39 = .ok (.putfield 68, 3) := by decide +kernel
theorem dX7_word_42 : decode cX7_word 42 = .ok (.iload_n 2, 1) := by decide +kernel
theorem dX7_word_43 : decode cX7_word 43 = .ok (.ireturn, 1) := by decide +kernel
theorem dX7_piper_0 : decode cX7_piper 0 = .ok (.aload_n 0, 1) := by decide +kernel
theorem dX7_piper_1 : decode cX7_piper 1 = .ok (.getfield 55, 3) := by decide +kernel
theorem dX7_piper_4 : decode cX7_piper 4 = .ok (.bipush 6, 2) := by decide +kernel
theorem dX7_piper_6 : decode cX7_piper 6 = .ok (.if_icmp .ge 23, 3) := by decide +kernel
theorem dX7_piper_9 : decode cX7_piper 9 = .ok (.iload_n 1, 1) := by decide +kernel
theorem dX7_piper_10 : decode cX7_piper 10 = .ok (.iconst 1, 1) := by decide +kernel
theorem dX7_piper_11 : decode cX7_piper 11 = .ok (.bipush 9, 2) := by decide +kernel
theorem dX7_piper_13 : decode cX7_piper 13 = .ok (.invokestatic 94, 3) := by decide +kernel
theorem dX7_piper_16 : decode cX7_piper 16 = .ok (.ifCond .eq 13, 3) := by decide +kernel
theorem dX7_piper_19 : decode cX7_piper 19 = .ok (.iload_n 2, 1) := by decide +kernel
theorem dX7_piper_20 : decode cX7_piper 20 = .ok (.iconst 1, 1) := by decide +kernel
theorem dX7_piper_21 : decode cX7_piper 21 = .ok (.bipush 31, 2) := by decide +kernel
theorem dX7_piper_23 : decode cX7_piper 23 = .ok (.invokestatic 94, 3) := by decide +kernel
theorem dX7_piper_26 : decode cX7_piper 26 = .ok (.ifCond .ne 5, 3) := by decide +kernel
theorem dX7_piper_29 : decode cX7_piper 29 = .ok (.iconst (-1), 1) := by decide +kernel
theorem dX7_piper_30 : decode cX7_piper 30 = .ok (.ireturn, 1) := by decide +kernel
theorem dX7_piper_31 : decode cX7_piper 31 = .ok (.aload_n 0, 1) := by decide +kernel
theorem dX7_piper_32 : decode cX7_piper 32 = .ok (.getfield 55, 3) := by decide +kernel
theorem dX7_piper_35 : decode cX7_piper 35 = .ok (.istore_n 3, 1) := by decide +kernel
theorem dX7_piper_36 : decode cX7_piper 36 = .ok (.aload_n 0, 1) := by decide +kernel
theorem dX7_piper_37 : decode cX7_piper 37 = .ok (.getfield 25, 3) := by decide +kernel
theorem dX7_piper_40 : decode cX7_piper 40 = .ok (.iload_n 3, 1) := by decide +kernel
theorem dX7_piper_41 : decode cX7_piper 41 = .ok (.aaload, 1) := by decide +kernel
theorem dX7_piper_42 : decode cX7_piper 42 = .ok (.iload_n 1, 1) := by decide +kernel
theorem dX7_piper_43 : decode cX7_piper 43 = .ok (.iload_n 2, 1) := by decide +kernel
theorem dX7_piper_44 : decode cX7_piper 44 = .ok (.invokevirtual 98, 3) := by decide +kernel
theorem dX7_piper_47 : decode cX7_piper 47 = .ok (.aload_n 0, 1) := by decide +kernel
theorem dX7_piper_48 : decode cX7_piper 48 = .ok (.dup, 1) := by decide +kernel
theorem dX7_piper_49 : decode cX7_piper 49 = .ok (.getfield 55, 3) := by decide +kernel
theorem dX7_piper_52 : decode cX7_piper 52 = .ok (.iconst 1, 1) := by decide +kernel
theorem dX7_piper_53 : decode cX7_piper 53 = .ok (.iadd, 1) := by decide +kernel
theorem dX7_piper_54 : decode cX7_piper 54 = .ok (.putfield 55, 3) := by decide +kernel
theorem dX7_piper_57 : decode cX7_piper 57 = .ok (.aload_n 0, 1) := by decide +kernel
theorem dX7_piper_58 : decode cX7_piper 58 = .ok (.iconst 0, 1) := by decide +kernel
theorem dX7_piper_59 : decode cX7_piper 59 = .ok (.putfield 68, 3) := by decide +kernel
theorem dX7_piper_62 : decode cX7_piper 62 = .ok (.iload_n 3, 1) := by decide +kernel
theorem dX7_piper_63 : decode cX7_piper 63 = .ok (.ireturn, 1) := by decide +kernel
theorem dX7_ill_0 : decode cX7_ill 0 = .ok (.iload_n 2, 1) := by decide +kernel
theorem dX7_ill_1 : decode cX7_ill 1 = .ok (.ifCond .eq 7, 3) := by decide +kernel
theorem dX7_ill_4 : decode cX7_ill 4 = .ok (.iconst 1, 1) := by decide +kernel
theorem dX7_ill_5 : decode cX7_ill 5 = .ok (.goto 4, 3) := by decide +kernel
theorem dX7_ill_8 : decode cX7_ill 8 = .ok (.iconst 0, 1) := by decide +kernel
theorem dX7_ill_9 : decode cX7_ill 9 = .ok (.istore_n 3, 1) := by decide +kernel
theorem dX7_ill_10 : decode cX7_ill 10 = .ok (.aload_n 0, 1) := by decide +kernel
theorem dX7_ill_11 : decode cX7_ill 11 = .ok (.iload_n 1, 1) := by decide +kernel
theorem dX7_ill_12 : decode cX7_ill 12 = .ok (.invokevirtual 102, 3) := by decide +kernel
theorem dX7_ill_15 : decode cX7_ill 15 = .ok (.ifCond .eq 29, 3) := by decide +kernel
theorem dX7_ill_18 : decode cX7_ill 18 = .ok (.aload_n 0, 1) := by decide +kernel
theorem dX7_ill_19 : decode cX7_ill 19 = .ok (.getfield 25, 3) := by decide +kernel
theorem dX7_ill_22 : decode cX7_ill 22 = .ok (.iload_n 1, 1) := by decide +kernel
theorem dX7_ill_23 : decode cX7_ill 23 = .ok (.aaload, 1) := by decide +kernel
theorem dX7_ill_24 : decode cX7_ill 24 = .ok (.getfield 106, 3) := by decide +kernel
theorem dX7_ill_27 : decode cX7_ill 27 = .ok (.iconst 2, 1) := by decide +kernel
theorem dX7_ill_28 : decode cX7_ill 28 = .ok (.if_icmp .eq 16, 3) := by decide +kernel
theorem dX7_ill_31 : decode cX7_ill 31 = .ok (.aload_n 0, 1) := by decide +kernel
theorem dX7_ill_32 : decode cX7_ill 32 = .ok (.getfield 25, 3) := by decide +kernel
theorem dX7_ill_35 : decode cX7_ill 35 = .ok (.iload_n 1, 1) := by decide +kernel
theorem dX7_ill_36 : decode cX7_ill 36 = .ok (.aaload, 1) := by decide +kernel
theorem dX7_ill_37 : decode cX7_ill 37 = .ok (.getfield 106, 3) := by decide +kernel
theorem dX7_ill_40 : decode cX7_ill 40 = .ok (.iload_n 3, 1) := by decide +kernel
theorem dX7_ill_41 : decode cX7_ill 41 = .ok (.if_icmp .ne 5, 3) := by decide +kernel
theorem dX7_ill_44 : decode cX7_ill 44 = .ok (.iconst 0, 1) := by decide +kernel
theorem dX7_ill_45 : decode cX7_ill 45 = .ok (.ireturn, 1) := by decide +kernel
theorem dX7_ill_46 : decode cX7_ill 46 = .ok (.aload_n 0, 1) := by decide +kernel
theorem dX7_ill_47 : decode cX7_ill 47 = .ok (.getfield 25, 3) := by decide +kernel
theorem dX7_ill_50 : decode cX7_ill 50 = .ok (.iload_n 1, 1) := by decide +kernel
theorem dX7_ill_51 : decode cX7_ill 51 = .ok (.aaload, 1) := by decide +kernel
theorem dX7_ill_52 : decode cX7_ill 52 = .ok (.iload_n 3, 1) := by decide +kernel
theorem dX7_ill_53 : decode cX7_ill 53 = .ok (.putfield 106, 3) := by decide +kernel
theorem dX7_ill_56 : decode cX7_ill 56 = .ok (.aload_n 0, 1) := by decide +kernel
theorem dX7_ill_57 : decode cX7_ill 57 = .ok (.iconst 0, 1) := by decide +kernel
theorem dX7_ill_58 : decode cX7_ill 58 = .ok (.putfield 68, 3) := by decide +kernel
theorem dX7_ill_61 : decode cX7_ill 61 = .ok (.iconst 1, 1) := by decide +kernel
theorem dX7_ill_62 : decode cX7_ill 62 = .ok (.ireturn, 1) := by decide +kernel
theorem dX7_old_0 : decode cX7_old 0 = .ok (.aload_n 0, 1) := by decide +kernel
theorem dX7_old_1 : decode cX7_old 1 = .ok (.iload_n 1, 1) := by decide +kernel
theorem dX7_old_2 : decode cX7_old 2 = .ok (.invokevirtual 102, 3) := by decide +kernel
theorem dX7_old_5 : decode cX7_old 5 = .ok (.ifCond .eq 16, 3) := by decide +kernel
theorem dX7_old_8 : decode cX7_old 8 = .ok (.aload_n 0, 1) := by decide +kernel
theorem dX7_old_9 : decode cX7_old 9 = .ok (.getfield 25, 3) := by decide +kernel
theorem dX7_old_12 : decode cX7_old 12 = .ok (.iload_n 1, 1) := by decide +kernel
theorem dX7_old_13 : decode cX7_old 13 = .ok (.aaload, 1) := by decide +kernel
theorem dX7_old_14 : decode cX7_old 14 = .ok (.getfield 106, 3) := by decide +kernel
theorem dX7_old_17 : decode cX7_old 17 = .ok (.iconst 2, 1) := by decide +kernel
theorem dX7_old_18 : decode cX7_old 18 = .ok (.if_icmp .ne 5, 3) := by decide +kernel
theorem dX7_old_21 : decode cX7_old 21 = .ok (.iconst 0, 1) := by decide +kernel
theorem dX7_old_22 : decode cX7_old 22 = .ok (.ireturn, 1) := by decide +kernel
theorem dX7_old_23 : decode cX7_old 23 = .ok (.aload_n 0, 1) := by decide +kernel
theorem dX7_old_24 : decode cX7_old 24 = .ok (.getfield 25, 3) := by decide +kernel
theorem dX7_old_27 : decode cX7_old 27 = .ok (.iload_n 1, 1) := by decide +kernel
theorem dX7_old_28 : decode cX7_old 28 = .ok (.aaload, 1) := by decide +kernel
theorem dX7_old_29 : decode cX7_old 29 = .ok (.iconst 2, 1) := by decide +kernel
theorem dX7_old_30 : decode cX7_old 30 = .ok (.putfield 106, 3) := by decide +kernel
theorem dX7_old_33 : decode cX7_old 33 = .ok (.aload_n 0, 1) := by decide +kernel
theorem dX7_old_34 : decode cX7_old 34 = .ok (.iconst 0, 1) := by decide +kernel
theorem dX7_old_35 : decode cX7_old 35 = .ok (.putfield 68, 3) := by decide +kernel
theorem dX7_old_38 : decode cX7_old 38 = .ok (.iconst 1, 1) := by decide +kernel
theorem dX7_old_39 : decode cX7_old 39 = .ok (.ireturn, 1) := by decide +kernel
theorem dX7_pieces_0 : decode cX7_pieces 0 = .ok (.iload_n 1, 1) := by decide +kernel
theorem dX7_pieces_1 : decode cX7_pieces 1 = .ok (.iconst 0, 1) := by decide +kernel
theorem dX7_pieces_2 : decode cX7_pieces 2 = .ok (.iconst 4, 1) := by decide +kernel
theorem dX7_pieces_3 : decode cX7_pieces 3 = .ok (.invokestatic 94, 3) := by decide +kernel
theorem dX7_pieces_6 : decode cX7_pieces 6 = .ok (.ifCond .eq 12, 3) := by decide +kernel
theorem dX7_pieces_9 : decode cX7_pieces 9 = .ok (.iload_n 2, 1) := by decide +kernel
theorem dX7_pieces_10 : decode cX7_pieces 10 = .ok (.iconst 0, 1) := by decide +kernel
theorem dX7_pieces_11 : decode cX7_pieces 11 = .ok (.iconst 3, 1) := by decide +kernel
theorem dX7_pieces_12 : decode cX7_pieces 12 = .ok (.invokestatic 94, 3) := by decide +kernel
theorem dX7_pieces_15 : decode cX7_pieces 15 = .ok (.ifCond .ne 5, 3) := by decide +kernel
theorem dX7_pieces_18 : decode cX7_pieces 18 = .ok (.iconst 0, 1) := by decide +kernel
theorem dX7_pieces_19 : decode cX7_pieces 19 = .ok (.ireturn, 1) := by decide +kernel
theorem dX7_pieces_20 : decode cX7_pieces 20 = .ok (.aload_n 0, 1) := by decide +kernel
theorem dX7_pieces_21 : decode cX7_pieces 21 = .ok (.getfield 41, 3) := by decide +kernel
theorem dX7_pieces_24 : decode cX7_pieces 24 = .ok (.iload_n 1, 1) := by decide +kernel
theorem dX7_pieces_25 : decode cX7_pieces 25 = .ok (.iload_n 2, 1) := by decide +kernel
theorem dX7_pieces_26 : decode cX7_pieces 26 = .ok (.iastore, 1) := by decide +kernel
theorem dX7_pieces_27 : decode cX7_pieces 27 = .ok (.aload_n 0, 1) := by decide +kernel
theorem dX7_pieces_28 : decode cX7_pieces 28 = .ok (.iconst 0, 1) := by decide +kernel
theorem dX7_pieces_29 : decode cX7_pieces 29 = .ok (.putfield 68, 3) := by decide +kernel
theorem dX7_pieces_32 : decode cX7_pieces 32 = .ok (.iconst 1, 1) := by decide +kernel
theorem dX7_pieces_33 : decode cX7_pieces 33 = .ok (.ireturn, 1) := by decide +kernel
theorem dX7_call_0 : decode cX7_call 0 = .ok (.aload_n 0, 1) := by decide +kernel
theorem dX7_call_1 : decode cX7_call 1 = .ok (.getfield 45, 3) := by decide +kernel
theorem dX7_call_4 : decode cX7_call 4 = .ok (.iconst 0, 1) := by decide +kernel
theorem dX7_call_5 : decode cX7_call 5 = .ok (.iload_n 1, 1) := by decide +kernel
theorem dX7_call_6 : decode cX7_call 6 = .ok (.iastore, 1) := by decide +kernel
theorem dX7_call_7 : decode cX7_call 7 = .ok (.aload_n 0, 1) := by decide +kernel
theorem dX7_call_8 : decode cX7_call 8 = .ok (.getfield 45, 3) := by decide +kernel
theorem dX7_call_11 : decode cX7_call 11 = .ok (.iconst 1, 1) := by decide +kernel
theorem dX7_call_12 : decode cX7_call 12 = .ok (.iload_n 2, 1) := by decide +kernel
theorem dX7_call_13 : decode cX7_call 13 = .ok (.iastore, 1) := by decide +kernel
theorem dX7_call_14 : decode cX7_call 14 = .ok (.aload_n 0, 1) := by decide +kernel
theorem dX7_call_15 : decode cX7_call 15 = .ok (.getfield 45, 3) := by decide +kernel
theorem dX7_call_18 : decode cX7_call 18 = .ok (.iconst 2, 1) := by decide +kernel
theorem dX7_call_19 : decode cX7_call 19 = .ok (.iload_n 3, 1) := by decide +kernel
theorem dX7_call_20 : decode cX7_call 20 = .ok (.iastore, 1) := by decide +kernel
theorem dX7_call_21 : decode cX7_call 21 = .ok (.aload_n 0, 1) := by decide +kernel
theorem dX7_call_22 : decode cX7_call 22 = .ok (.getfield 45, 3) := by decide +kernel
theorem dX7_call_25 : decode cX7_call 25 = .ok (.iconst 3, 1) := by decide +kernel
theorem dX7_call_26 : decode cX7_call 26 = .ok (.iload 4, 2) := by decide +kernel
theorem dX7_call_28 : decode cX7_call 28 = .ok (.iastore, 1) := by decide +kernel
theorem dX7_call_29 : decode cX7_call 29 = .ok (.aload_n 0, 1) := by decide +kernel
theorem dX7_call_30 : decode cX7_call 30 = .ok (.getfield 45, 3) := by decide +kernel
theorem dX7_call_33 : decode cX7_call 33 = .ok (.iconst 4, 1) := by decide +kernel
theorem dX7_call_34 : decode cX7_call 34 = .ok (.iload 5, 2) := by decide +kernel
theorem dX7_call_36 : decode cX7_call 36 = .ok (.iastore, 1) := by decide +kernel
theorem dX7_call_37 : decode cX7_call 37 = .ok (.aload_n 0, 1) := by decide +kernel
theorem dX7_call_38 : decode cX7_call 38 = .ok (.getfield 45, 3) := by decide +kernel
theorem dX7_call_41 : decode cX7_call 41 = .ok (.iconst 5, 1) := by decide +kernel
theorem dX7_call_42 : decode cX7_call 42 = .ok (.iload 6, 2) := by decide +kernel
theorem dX7_call_44 : decode cX7_call 44 = .ok (.iastore, 1) := by decide +kernel
theorem dX7_call_45 : decode cX7_call 45 = .ok (.aload_n 0, 1) := by decide +kernel
theorem dX7_call_46 : decode cX7_call 46 = .ok (.getfield 45, 3) := by decide +kernel
theorem dX7_call_49 : decode cX7_call 49 = .ok (.bipush 6, 2) := by decide +kernel
theorem dX7_call_51 : decode cX7_call 51 = .ok (.iload 7, 2) := by decide +kernel
theorem dX7_call_53 : decode cX7_call 53 = .ok (.iastore, 1) := by decide +kernel
theorem dX7_call_54 : decode cX7_call 54 = .ok (.aload_n 0, 1) := by decide +kernel
theorem dX7_call_55 : decode cX7_call 55 = .ok (.getfield 45, 3) := by decide +kernel
theorem dX7_call_58 : decode cX7_call 58 = .ok (.bipush 7, 2) := by decide +kernel
theorem dX7_call_60 : decode cX7_call 60 = .ok (.iload 8, 2) := by decide +kernel
theorem dX7_call_62 : decode cX7_call 62 = .ok (.iastore, 1) := by decide +kernel
theorem dX7_call_63 : decode cX7_call 63 = .ok (.aload_n 0, 1) := by decide +kernel
theorem dX7_call_64 : decode cX7_call 64 = .ok (.invokevirtual 109, 3) := by decide +kernel
theorem dX7_call_67 : decode cX7_call 67 = .ok (.istore 9, 2) := by decide +kernel
theorem dX7_call_69 : decode cX7_call 69 = .ok (.iload 9, 2) := by decide +kernel
theorem dX7_call_71 : decode cX7_call 71 = .ok (.iconst (-1), 1) := by decide +kernel
theorem dX7_call_72 : decode cX7_call 72 = .ok (.if_icmp .eq 13, 3) := by decide +kernel
theorem dX7_call_75 : decode cX7_call 75 = .ok (.aload_n 0, 1) := by decide +kernel
theorem dX7_call_76 : decode cX7_call 76 = .ok (.getfield 45, 3) := by decide +kernel
theorem dX7_call_79 : decode cX7_call 79 = .ok (.invokestatic 112, 3) := by decide +kernel
theorem dX7_call_82 : decode cX7_call 82 = .ok (.ifCond .ne 5, 3) := by decide +kernel
theorem dX7_call_85 : decode cX7_call 85 = .ok (.iconst (-1), 1) := by decide +kernel
theorem dX7_call_86 : decode cX7_call 86 = .ok (.ireturn, 1) := by decide +kernel
theorem dX7_call_87 : decode cX7_call 87 = .ok (.aload_n 0, 1) := by decide +kernel
theorem dX7_call_88 : decode cX7_call 88 = .ok (.getfield 31, 3) := by decide +kernel
theorem dX7_call_91 : decode cX7_call 91 = .ok (.iload 9, 2) := by decide +kernel
theorem dX7_call_93 : decode cX7_call 93 = .ok (.aaload, 1) := by decide +kernel
theorem dX7_call_94 : decode cX7_call 94 = .ok (.aload_n 0, 1) := by decide +kernel
theorem dX7_call_95 : decode cX7_call 95 = .ok (.getfield 45, 3) := by decide +kernel
theorem dX7_call_98 : decode cX7_call 98 = .ok (.invokevirtual 116, 3) := by decide +kernel
theorem dX7_call_101 : decode cX7_call 101 = .ok (.aload_n 0, 1) := by decide +kernel
theorem dX7_call_102 : decode cX7_call 102 = .ok (.iconst 0, 1) := by decide +kernel
theorem dX7_call_103 : decode cX7_call 103 = .ok (.putfield 68, 3) := by decide +kernel
theorem dX7_call_106 : decode cX7_call 106 = .ok (.iload 9, 2) := by decide +kernel
theorem dX7_call_108 : decode cX7_call 108 = .ok (.ireturn, 1) := by decide +kernel
theorem dX7_off_0 : decode cX7_off 0 = .ok (.aload_n 0, 1) := by decide +kernel
theorem dX7_off_1 : decode cX7_off 1 = .ok (.iload_n 1, 1) := by decide +kernel
theorem dX7_off_2 : decode cX7_off 2 = .ok (.invokevirtual 120, 3) := by decide +kernel
theorem dX7_off_5 : decode cX7_off 5 = .ok (.ifCond .ne 5, 3) := by decide +kernel
theorem dX7_off_8 : decode cX7_off 8 = .ok (.iconst 0, 1) := by decide +kernel
theorem dX7_off_9 : decode cX7_off 9 = .ok (.ireturn, 1) := by decide +kernel
theorem dX7_off_10 : decode cX7_off 10 = .ok (.aload_n 0, 1) := by decide +kernel
theorem dX7_off_11 : decode cX7_off 11 = .ok (.getfield 31, 3) := by decide +kernel
theorem dX7_off_14 : decode cX7_off 14 = .ok (.iload_n 1, 1) := by decide +kernel
theorem dX7_off_15 : decode cX7_off 15 = .ok (.aaload, 1) := by decide +kernel
theorem dX7_off_16 : decode cX7_off 16 = .ok (.invokevirtual 123, 3) := by decide +kernel
theorem dX7_off_19 : decode cX7_off 19 = .ok (.aload_n 0, 1) := by decide +kernel
theorem dX7_off_20 : decode cX7_off 20 = .ok (.iconst 0, 1) := by decide +kernel
theorem dX7_off_21 : decode cX7_off 21 = .ok (.putfield 68, 3) := by decide +kernel
theorem dX7_off_24 : decode cX7_off 24 = .ok (.iconst 1, 1) := by decide +kernel
theorem dX7_off_25 : decode cX7_off 25 = .ok (.ireturn, 1) := by decide +kernel
theorem dX7_played_0 : decode cX7_played 0 = .ok (.aload_n 0, 1) := by decide +kernel
theorem dX7_played_1 : decode cX7_played 1 = .ok (.invokevirtual 126, 3) := by decide +kernel
theorem dX7_played_4 : decode cX7_played 4 = .ok (.invokevirtual 130, 3) := by decide +kernel
theorem dX7_played_7 : decode cX7_played 7 = .ok (.ireturn, 1) := by decide +kernel
theorem dX7_who_0 : decode cX7_who 0 = .ok (.aload_n 0, 1) := by decide +kernel
theorem dX7_who_1 : decode cX7_who 1 = .ok (.invokevirtual 126, 3) := by decide +kernel
theorem dX7_who_4 : decode cX7_who 4 = .ok (.iload_n 1, 1) := by decide +kernel
theorem dX7_who_5 : decode cX7_who 5 = .ok (.iload_n 2, 1) := by decide +kernel
theorem dX7_who_6 : decode cX7_who 6 = .ok (.invokevirtual 133, 3) := by decide +kernel
theorem dX7_who_9 : decode cX7_who 9 = .ok (.ireturn, 1) := by decide +kernel
theorem dX7_tune_0 : decode cX7_tune 0 = .ok (.aload_n 0, 1) := by decide +kernel
theorem dX7_tune_1 : decode cX7_tune 1 = .ok (.getfield 59, 3) := by decide +kernel
theorem dX7_tune_4 : decode cX7_tune 4 = .ok (.bipush 10, 2) := by decide +kernel
theorem dX7_tune_6 : decode cX7_tune 6 = .ok (.if_icmp .ge 24, 3) := by decide +kernel
theorem dX7_tune_9 : decode cX7_tune 9 = .ok (.iload_n 1, 1) := by decide +kernel
theorem dX7_tune_10 : decode cX7_tune 10 = .ok (.iconst 0, 1) := by decide +kernel
theorem dX7_tune_11 : decode cX7_tune 11 = .ok (.bipush 63, 2) := by decide +kernel
theorem dX7_tune_13 : decode cX7_tune 13 = .ok (.invokestatic 94, 3) := by decide +kernel
theorem dX7_tune_16 : decode cX7_tune 16 = .ok (.ifCond .eq 14, 3) := by decide +kernel
theorem dX7_tune_19 : decode cX7_tune 19 = .ok (.iload_n 2, 1) := by decide +kernel
theorem dX7_tune_20 : decode cX7_tune 20 = .ok (.iconst 0, 1) := by decide +kernel
theorem dX7_tune_21 : decode cX7_tune 21 = .ok (.sipush 4095, 3) := by decide +kernel
theorem dX7_tune_24 : decode cX7_tune 24 = .ok (.invokestatic 94, 3) := by decide +kernel
theorem dX7_tune_27 : decode cX7_tune 27 = .ok (.ifCond .ne 5, 3) := by decide +kernel
theorem dX7_tune_30 : decode cX7_tune 30 = .ok (.iconst (-1), 1) := by decide +kernel
theorem dX7_tune_31 : decode cX7_tune 31 = .ok (.ireturn, 1) := by decide +kernel
theorem dX7_tune_32 : decode cX7_tune 32 = .ok (.aload_n 0, 1) := by decide +kernel
theorem dX7_tune_33 : decode cX7_tune 33 = .ok (.getfield 59, 3) := by decide +kernel
theorem dX7_tune_36 : decode cX7_tune 36 = .ok (.istore_n 3, 1) := by decide +kernel
theorem dX7_tune_37 : decode cX7_tune 37 = .ok (.aload_n 0, 1) := by decide +kernel
theorem dX7_tune_38 : decode cX7_tune 38 = .ok (.getfield 37, 3) := by decide +kernel
theorem dX7_tune_41 : decode cX7_tune 41 = .ok (.iload_n 3, 1) := by decide +kernel
end
section
theorem dX7_tune_42 : decode cX7_tune 42 = .ok (.aaload, 1) := by decide +kernel
theorem dX7_tune_43 : decode cX7_tune 43 = .ok (.iload_n 1, 1) := by decide +kernel
theorem dX7_tune_44 : decode cX7_tune 44 = .ok (.iload_n 2, 1) := by decide +kernel
theorem dX7_tune_45 : decode cX7_tune 45 = .ok (.invokevirtual 137, 3) := by decide +kernel
theorem dX7_tune_48 : decode cX7_tune 48 = .ok (.aload_n 0, 1) := by decide +kernel
theorem dX7_tune_49 : decode cX7_tune 49 = .ok (.dup, 1) := by decide +kernel
theorem dX7_tune_50 : decode cX7_tune 50 = .ok (.getfield 59, 3) := by decide +kernel
theorem dX7_tune_53 : decode cX7_tune 53 = .ok (.iconst 1, 1) := by decide +kernel
theorem dX7_tune_54 : decode cX7_tune 54 = .ok (.iadd, 1) := by decide +kernel
theorem dX7_tune_55 : decode cX7_tune 55 = .ok (.putfield 59, 3) := by decide +kernel
theorem dX7_tune_58 : decode cX7_tune 58 = .ok (.aload_n 0, 1) := by decide +kernel
theorem dX7_tune_59 : decode cX7_tune 59 = .ok (.iconst 0, 1) := by decide +kernel
theorem dX7_tune_60 : decode cX7_tune 60 = .ok (.putfield 68, 3) := by decide +kernel
theorem dX7_tune_63 : decode cX7_tune 63 = .ok (.iload_n 3, 1) := by decide +kernel
theorem dX7_tune_64 : decode cX7_tune 64 = .ok (.ireturn, 1) := by decide +kernel
theorem dX7_heard_0 : decode cX7_heard 0 = .ok (.aload_n 0, 1) := by decide +kernel
theorem dX7_heard_1 : decode cX7_heard 1 = .ok (.invokevirtual 126, 3) := by decide +kernel
theorem dX7_heard_4 : decode cX7_heard 4 = .ok (.iload_n 1, 1) := by decide +kernel
theorem dX7_heard_5 : decode cX7_heard 5 = .ok (.invokevirtual 140, 3) := by decide +kernel
theorem dX7_heard_8 : decode cX7_heard 8 = .ok (.ireturn, 1) := by decide +kernel
theorem dX7_share_0 : decode cX7_share 0 = .ok (.aload_n 0, 1) := by decide +kernel
theorem dX7_share_1 : decode cX7_share 1 = .ok (.invokevirtual 126, 3) := by decide +kernel
theorem dX7_share_4 : decode cX7_share 4 = .ok (.astore_n 3, 1) := by decide +kernel
theorem dX7_share_5 : decode cX7_share 5 = .ok (.aload_n 3, 1) := by decide +kernel
theorem dX7_share_6 : decode cX7_share 6 = .ok (.iload_n 1, 1) := by decide +kernel
theorem dX7_share_7 : decode cX7_share 7 = .ok (.invokevirtual 144, 3) := by decide +kernel
theorem dX7_share_10 : decode cX7_share 10 = .ok (.ifCond .ne 5, 3) := by decide +kernel
theorem dX7_share_13 : decode cX7_share 13 = .ok (.iconst (-1), 1) := by decide +kernel
theorem dX7_share_14 : decode cX7_share 14 = .ok (.ireturn, 1) := by decide +kernel
theorem dX7_share_15 : decode cX7_share 15 = .ok (.iload_n 2, 1) := by decide +kernel
theorem dX7_share_16 : decode cX7_share 16 = .ok (.iconst (-1), 1) := by decide +kernel
theorem dX7_share_17 : decode cX7_share 17 = .ok (.if_icmp .ne 9, 3) := by decide +kernel
theorem dX7_share_20 : decode cX7_share 20 = .ok (.aload_n 0, 1) := by decide +kernel
theorem dX7_share_21 : decode cX7_share 21 = .ok (.iload_n 1, 1) := by decide +kernel
theorem dX7_share_22 : decode cX7_share 22 = .ok (.invokevirtual 147, 3) := by decide +kernel
theorem dX7_share_25 : decode cX7_share 25 = .ok (.ireturn, 1) := by decide +kernel
theorem dX7_share_26 : decode cX7_share 26 = .ok (.aload_n 0, 1) := by decide +kernel
theorem dX7_share_27 : decode cX7_share 27 = .ok (.iload_n 2, 1) := by decide +kernel
theorem dX7_share_28 : decode cX7_share 28 = .ok (.invokevirtual 102, 3) := by decide +kernel
theorem dX7_share_31 : decode cX7_share 31 = .ok (.ifCond .eq 13, 3) := by decide +kernel
theorem dX7_share_34 : decode cX7_share 34 = .ok (.aload_n 0, 1) := by decide +kernel
theorem dX7_share_35 : decode cX7_share 35 = .ok (.aload_n 3, 1) := by decide +kernel
theorem dX7_share_36 : decode cX7_share 36 = .ok (.iload_n 1, 1) := by decide +kernel
theorem dX7_share_37 : decode cX7_share 37 = .ok (.iload_n 2, 1) := by decide +kernel
theorem dX7_share_38 : decode cX7_share 38 = .ok (.invokevirtual 150, 3) := by decide +kernel
theorem dX7_share_41 : decode cX7_share 41 = .ok (.goto 4, 3) := by decide +kernel
theorem dX7_share_44 : decode cX7_share 44 = .ok (.iconst (-1), 1) := by decide +kernel
theorem dX7_share_45 : decode cX7_share 45 = .ok (.ireturn, 1) := by decide +kernel
theorem dX7_day_0 : decode cX7_day 0 = .ok (.aload_n 0, 1) := by decide +kernel
theorem dX7_day_1 : decode cX7_day 1 = .ok (.getfield 62, 3) := by decide +kernel
theorem dX7_day_4 : decode cX7_day 4 = .ok (.sipush 9999, 3) := by decide +kernel
theorem dX7_day_7 : decode cX7_day 7 = .ok (.if_icmp .lt 5, 3) := by decide +kernel
theorem dX7_day_10 : decode cX7_day 10 = .ok (.iconst (-1), 1) := by decide +kernel
theorem dX7_day_11 : decode cX7_day 11 = .ok (.ireturn, 1) := by decide +kernel
theorem dX7_day_12 : decode cX7_day 12 = .ok (.aload_n 0, 1) := by decide +kernel
theorem dX7_day_13 : decode cX7_day 13 = .ok (.invokevirtual 126, 3) := by decide +kernel
theorem dX7_day_16 : decode cX7_day 16 = .ok (.astore_n 1, 1) := by decide +kernel
theorem dX7_day_17 : decode cX7_day 17 = .ok (.iconst 0, 1) := by decide +kernel
theorem dX7_day_18 : decode cX7_day 18 = .ok (.istore_n 2, 1) := by decide +kernel
theorem dX7_day_19 : decode cX7_day 19 = .ok (.iload_n 2, 1) := by decide +kernel
theorem dX7_day_20 : decode cX7_day 20 = .ok (.bipush 6, 2) := by decide +kernel
theorem dX7_day_22 : decode cX7_day 22 = .ok (.if_icmp .ge 43, 3) := by decide +kernel
theorem dX7_day_25 : decode cX7_day 25 = .ok (.aload_n 1, 1) := by decide +kernel
theorem dX7_day_26 : decode cX7_day 26 = .ok (.iload_n 2, 1) := by decide +kernel
theorem dX7_day_27 : decode cX7_day 27 = .ok (.invokevirtual 144, 3) := by decide +kernel
theorem dX7_day_30 : decode cX7_day 30 = .ok (.ifCond .eq 12, 3) := by decide +kernel
theorem dX7_day_33 : decode cX7_day 33 = .ok (.aload_n 0, 1) := by decide +kernel
theorem dX7_day_34 : decode cX7_day 34 = .ok (.aload_n 1, 1) := by decide +kernel
theorem dX7_day_35 : decode cX7_day 35 = .ok (.iload_n 2, 1) := by decide +kernel
theorem dX7_day_36 : decode cX7_day 36 = .ok (.invokevirtual 154, 3) := by decide +kernel
theorem dX7_day_39 : decode cX7_day 39 = .ok (.goto 20, 3) := by decide +kernel
theorem dX7_day_42 : decode cX7_day 42 = .ok (.aload_n 0, 1) := by decide +kernel
theorem dX7_day_43 : decode cX7_day 43 = .ok (.getfield 31, 3) := by decide +kernel
theorem dX7_day_46 : decode cX7_day 46 = .ok (.iload_n 2, 1) := by decide +kernel
theorem dX7_day_47 : decode cX7_day 47 = .ok (.aaload, 1) := by decide +kernel
theorem dX7_day_48 : decode cX7_day 48 = .ok (.iconst 0, 1) := by decide +kernel
theorem dX7_day_49 : decode cX7_day 49 = .ok (.invokevirtual 158, 3) := by decide +kernel
theorem dX7_day_52 : decode cX7_day 52 = .ok (.ifCond .eq 7, 3) := by decide +kernel
theorem dX7_day_55 : decode cX7_day 55 = .ok (.aload_n 0, 1) := by decide +kernel
theorem dX7_day_56 : decode cX7_day 56 = .ok (.invokevirtual 161, 3) := by decide +kernel
theorem dX7_day_59 : decode cX7_day 59 = .ok (.iinc 2 1, 3) := by decide +kernel
theorem dX7_day_62 : decode cX7_day 62 = .ok (.goto (-43), 3) := by decide +kernel
theorem dX7_day_65 : decode cX7_day 65 = .ok (.aload_n 1, 1) := by decide +kernel
theorem dX7_day_66 : decode cX7_day 66 = .ok (.aload_n 0, 1) := by decide +kernel
theorem dX7_day_67 : decode cX7_day 67 = .ok (.getfield 37, 3) := by decide +kernel
theorem dX7_day_70 : decode cX7_day 70 = .ok (.invokevirtual 164, 3) := by decide +kernel
theorem dX7_day_73 : decode cX7_day 73 = .ok (.iconst 0, 1) := by decide +kernel
theorem dX7_day_74 : decode cX7_day 74 = .ok (.istore_n 2, 1) := by decide +kernel
theorem dX7_day_75 : decode cX7_day 75 = .ok (.iload_n 2, 1) := by decide +kernel
theorem dX7_day_76 : decode cX7_day 76 = .ok (.bipush 6, 2) := by decide +kernel
theorem dX7_day_78 : decode cX7_day 78 = .ok (.if_icmp .ge 18, 3) := by decide +kernel
theorem dX7_day_81 : decode cX7_day 81 = .ok (.aload_n 0, 1) := by decide +kernel
theorem dX7_day_82 : decode cX7_day 82 = .ok (.getfield 31, 3) := by decide +kernel
theorem dX7_day_85 : decode cX7_day 85 = .ok (.iload_n 2, 1) := by decide +kernel
theorem dX7_day_86 : decode cX7_day 86 = .ok (.aaload, 1) := by decide +kernel
theorem dX7_day_87 : decode cX7_day 87 = .ok (.invokevirtual 123, 3) := by decide +kernel
theorem dX7_day_90 : decode cX7_day 90 = .ok (.iinc 2 1, 3) := by decide +kernel
theorem dX7_day_93 : decode cX7_day 93 = .ok (.goto (-18), 3) := by decide +kernel
theorem dX7_day_96 : decode cX7_day 96 = .ok (.aload_n 0, 1) := by decide +kernel
theorem dX7_day_97 : decode cX7_day 97 = .ok (.iconst 0, 1) := by decide +kernel
theorem dX7_day_98 : decode cX7_day 98 = .ok (.putfield 68, 3) := by decide +kernel
theorem dX7_day_101 : decode cX7_day 101 = .ok (.aload_n 0, 1) := by decide +kernel
theorem dX7_day_102 : decode cX7_day 102 = .ok (.dup, 1) := by decide +kernel
theorem dX7_day_103 : decode cX7_day 103 = .ok (.getfield 62, 3) := by decide +kernel
theorem dX7_day_106 : decode cX7_day 106 = .ok (.iconst 1, 1) := by decide +kernel
theorem dX7_day_107 : decode cX7_day 107 = .ok (.iadd, 1) := by decide +kernel
theorem dX7_day_108 : decode cX7_day 108 = .ok (.putfield 62, 3) := by decide +kernel
theorem dX7_day_111 : decode cX7_day 111 = .ok (.aload_n 0, 1) := by decide +kernel
theorem dX7_day_112 : decode cX7_day 112 = .ok (.getfield 62, 3) := by decide +kernel
theorem dX7_day_115 : decode cX7_day 115 = .ok (.sipush 360, 3) := by decide +kernel
theorem dX7_day_118 : decode cX7_day 118 = .ok (.irem, 1) := by decide +kernel
theorem dX7_day_119 : decode cX7_day 119 = .ok (.ifCond .ne 7, 3) := by decide +kernel
theorem dX7_day_122 : decode cX7_day 122 = .ok (.aload_n 0, 1) := by decide +kernel
theorem dX7_day_123 : decode cX7_day 123 = .ok (.invokevirtual 168, 3) := by decide +kernel
theorem dX7_day_126 : decode cX7_day 126 = .ok (.aload_n 0, 1) := by decide +kernel
theorem dX7_day_127 : decode cX7_day 127 = .ok (.getfield 62, 3) := by decide +kernel
theorem dX7_day_130 : decode cX7_day 130 = .ok (.ireturn, 1) := by decide +kernel
theorem dX7_lasts_0 : decode cX7_lasts 0 = .ok (.iconst 0, 1) := by decide +kernel
theorem dX7_lasts_1 : decode cX7_lasts 1 = .ok (.istore_n 1, 1) := by decide +kernel
theorem dX7_lasts_2 : decode cX7_lasts 2 = .ok (.iconst 0, 1) := by decide +kernel
theorem dX7_lasts_3 : decode cX7_lasts 3 = .ok (.istore_n 2, 1) := by decide +kernel
theorem dX7_lasts_4 : decode cX7_lasts 4 = .ok (.iload_n 2, 1) := by decide +kernel
theorem dX7_lasts_5 : decode cX7_lasts 5 = .ok (.aload_n 0, 1) := by decide +kernel
theorem dX7_lasts_6 : decode cX7_lasts 6 = .ok (.getfield 55, 3) := by decide +kernel
theorem dX7_lasts_9 : decode cX7_lasts 9 = .ok (.if_icmp .ge 33, 3) := by decide +kernel
theorem dX7_lasts_12 : decode cX7_lasts 12 = .ok (.aload_n 0, 1) := by decide +kernel
theorem dX7_lasts_13 : decode cX7_lasts 13 = .ok (.getfield 25, 3) := by decide +kernel
theorem dX7_lasts_16 : decode cX7_lasts 16 = .ok (.iload_n 2, 1) := by decide +kernel
theorem dX7_lasts_17 : decode cX7_lasts 17 = .ok (.aaload, 1) := by decide +kernel
theorem dX7_lasts_18 : decode cX7_lasts 18 = .ok (.getfield 106, 3) := by decide +kernel
theorem dX7_lasts_21 : decode cX7_lasts 21 = .ok (.iconst 2, 1) := by decide +kernel
theorem dX7_lasts_22 : decode cX7_lasts 22 = .ok (.if_icmp .ne 14, 3) := by decide +kernel
theorem dX7_lasts_25 : decode cX7_lasts 25 = .ok (.iload_n 1, 1) := by decide +kernel
theorem dX7_lasts_26 : decode cX7_lasts 26 = .ok (.aload_n 0, 1) := by decide +kernel
theorem dX7_lasts_27 : decode cX7_lasts 27 = .ok (.getfield 19, 3) := by decide +kernel
theorem dX7_lasts_30 : decode cX7_lasts 30 = .ok (.iconst 2, 1) := by decide +kernel
theorem dX7_lasts_31 : decode cX7_lasts 31 = .ok (.invokevirtual 171, 3) := by decide +kernel
theorem dX7_lasts_34 : decode cX7_lasts 34 = .ok (.iadd, 1) := by decide +kernel
theorem dX7_lasts_35 : decode cX7_lasts 35 = .ok (.istore_n 1, 1) := by decide +kernel
theorem dX7_lasts_36 : decode cX7_lasts 36 = .ok (.iinc 2 1, 3) := by decide +kernel
theorem dX7_lasts_39 : decode cX7_lasts 39 = .ok (.goto (-35), 3) := by decide +kernel
theorem dX7_lasts_42 : decode cX7_lasts 42 = .ok (.iload_n 1, 1) := by decide +kernel
theorem dX7_lasts_43 : decode cX7_lasts 43 = .ok (.ifCond .ne 9, 3) := by decide +kernel
theorem dX7_lasts_46 : decode cX7_lasts 46 = .ok (.sipush 9999, 3) := by decide +kernel
theorem dX7_lasts_49 : decode cX7_lasts 49 = .ok (.goto 15, 3) := by decide +kernel
theorem dX7_lasts_52 : decode cX7_lasts 52 = .ok (.sipush 9999, 3) := by decide +kernel
theorem dX7_lasts_55 : decode cX7_lasts 55 = .ok (.aload_n 0, 1) := by decide +kernel
theorem dX7_lasts_56 : decode cX7_lasts 56 = .ok (.getfield 65, 3) := by decide +kernel
theorem dX7_lasts_59 : decode cX7_lasts 59 = .ok (.iload_n 1, 1) := by decide +kernel
theorem dX7_lasts_60 : decode cX7_lasts 60 = .ok (.idiv, 1) := by decide +kernel
theorem dX7_lasts_61 : decode cX7_lasts 61 = .ok (.invokestatic 174, 3) := by decide +kernel
theorem dX7_lasts_64 : decode cX7_lasts 64 = .ok (.ireturn, 1) := by decide +kernel
theorem dX7_look_0 : decode cX7_look 0 = .ok (.aload_n 0, 1) := by decide +kernel
theorem dX7_look_1 : decode cX7_look 1 = .ok (.iload_n 1, 1) := by decide +kernel
theorem dX7_look_2 : decode cX7_look 2 = .ok (.invokevirtual 102, 3) := by decide +kernel
theorem dX7_look_5 : decode cX7_look 5 = .ok (.ifCond .ne 5, 3) := by decide +kernel
theorem dX7_look_8 : decode cX7_look 8 = .ok (.iconst (-1), 1) := by decide +kernel
theorem dX7_look_9 : decode cX7_look 9 = .ok (.ireturn, 1) := by decide +kernel
theorem dX7_look_10 : decode cX7_look 10 = .ok (.iload_n 2, 1) := by decide +kernel
theorem dX7_look_11 : decode cX7_look 11 = .ok (.tableswitch 68 0 3 #[29, 39, 49, 59], 29) := by decide +kernel
theorem dX7_look_40 : decode cX7_look 40 = .ok (.aload_n 0, 1) := by decide +kernel
theorem dX7_look_41 : decode cX7_look 41 = .ok (.getfield 25, 3) := by decide +kernel
theorem dX7_look_44 : decode cX7_look 44 = .ok (.iload_n 1, 1) := by decide +kernel
theorem dX7_look_45 : decode cX7_look 45 = .ok (.aaload, 1) := by decide +kernel
theorem dX7_look_46 : decode cX7_look 46 = .ok (.getfield 179, 3) := by decide +kernel
theorem dX7_look_49 : decode cX7_look 49 = .ok (.ireturn, 1) := by decide +kernel
theorem dX7_look_50 : decode cX7_look 50 = .ok (.aload_n 0, 1) := by decide +kernel
theorem dX7_look_51 : decode cX7_look 51 = .ok (.getfield 25, 3) := by decide +kernel
theorem dX7_look_54 : decode cX7_look 54 = .ok (.iload_n 1, 1) := by decide +kernel
theorem dX7_look_55 : decode cX7_look 55 = .ok (.aaload, 1) := by decide +kernel
theorem dX7_look_56 : decode cX7_look 56 = .ok (.getfield 182, 3) := by decide +kernel
theorem dX7_look_59 : decode cX7_look 59 = .ok (.ireturn, 1) := by decide +kernel
theorem dX7_look_60 : decode cX7_look 60 = .ok (.aload_n 0, 1) := by decide +kernel
theorem dX7_look_61 : decode cX7_look 61 = .ok (.getfield 25, 3) := by decide +kernel
theorem dX7_look_64 : decode cX7_look 64 = .ok (.iload_n 1, 1) := by decide +kernel
theorem dX7_look_65 : decode cX7_look 65 = .ok (.aaload, 1) := by decide +kernel
theorem dX7_look_66 : decode cX7_look 66 = .ok (.getfield 106, 3) := by decide +kernel
theorem dX7_look_69 : decode cX7_look 69 = .ok (.ireturn, 1) := by decide +kernel
theorem dX7_look_70 : decode cX7_look 70 = .ok (.aload_n 0, 1) := by decide +kernel
theorem dX7_look_71 : decode cX7_look 71 = .ok (.invokevirtual 126, 3) := by decide +kernel
theorem dX7_look_74 : decode cX7_look 74 = .ok (.iload_n 1, 1) := by decide +kernel
theorem dX7_look_75 : decode cX7_look 75 = .ok (.invokevirtual 185, 3) := by decide +kernel
theorem dX7_look_78 : decode cX7_look 78 = .ok (.ireturn, 1) := by decide +kernel
theorem dX7_look_79 : decode cX7_look 79 = .ok (.iconst (-1), 1) := by decide +kernel
theorem dX7_look_80 : decode cX7_look 80 = .ok (.ireturn, 1) := by decide +kernel
theorem dX7_wages_0 : decode cX7_wages 0 = .ok (.iload_n 1, 1) := by decide +kernel
theorem dX7_wages_1 : decode cX7_wages 1 = .ok (.iconst (-1), 1) := by decide +kernel
theorem dX7_wages_2 : decode cX7_wages 2 = .ok (.if_icmp .ne 8, 3) := by decide +kernel
theorem dX7_wages_5 : decode cX7_wages 5 = .ok (.aload_n 0, 1) := by decide +kernel
theorem dX7_wages_6 : decode cX7_wages 6 = .ok (.getfield 65, 3) := by decide +kernel
theorem dX7_wages_9 : decode cX7_wages 9 = .ok (.ireturn, 1) := by decide +kernel
theorem dX7_wages_10 : decode cX7_wages 10 = .ok (.aload_n 0, 1) := by decide +kernel
theorem dX7_wages_11 : decode cX7_wages 11 = .ok (.iload_n 1, 1) := by decide +kernel
theorem dX7_wages_12 : decode cX7_wages 12 = .ok (.invokevirtual 102, 3) := by decide +kernel
theorem dX7_wages_15 : decode cX7_wages 15 = .ok (.ifCond .eq 15, 3) := by decide +kernel
theorem dX7_wages_18 : decode cX7_wages 18 = .ok (.aload_n 0, 1) := by decide +kernel
theorem dX7_wages_19 : decode cX7_wages 19 = .ok (.getfield 25, 3) := by decide +kernel
theorem dX7_wages_22 : decode cX7_wages 22 = .ok (.iload_n 1, 1) := by decide +kernel
theorem dX7_wages_23 : decode cX7_wages 23 = .ok (.aaload, 1) := by decide +kernel
theorem dX7_wages_24 : decode cX7_wages 24 = .ok (.getfield 188, 3) := by decide +kernel
theorem dX7_wages_27 : decode cX7_wages 27 = .ok (.goto 4, 3) := by decide +kernel
theorem dX7_wages_30 : decode cX7_wages 30 = .ok (.iconst 0, 1) := by decide +kernel
theorem dX7_wages_31 : decode cX7_wages 31 = .ok (.ireturn, 1) := by decide +kernel
theorem dX7_about_0 : decode cX7_about 0 = .ok (.aload_n 0, 1) := by decide +kernel
theorem dX7_about_1 : decode cX7_about 1 = .ok (.iload_n 1, 1) := by decide +kernel
theorem dX7_about_2 : decode cX7_about 2 = .ok (.invokevirtual 120, 3) := by decide +kernel
theorem dX7_about_5 : decode cX7_about 5 = .ok (.ifCond .eq 26, 3) := by decide +kernel
theorem dX7_about_8 : decode cX7_about 8 = .ok (.iload_n 2, 1) := by decide +kernel
theorem dX7_about_9 : decode cX7_about 9 = .ok (.iconst 0, 1) := by decide +kernel
theorem dX7_about_10 : decode cX7_about 10 = .ok (.bipush 7, 2) := by decide +kernel
theorem dX7_about_12 : decode cX7_about 12 = .ok (.invokestatic 94, 3) := by decide +kernel
theorem dX7_about_15 : decode cX7_about 15 = .ok (.ifCond .eq 16, 3) := by decide +kernel
theorem dX7_about_18 : decode cX7_about 18 = .ok (.aload_n 0, 1) := by decide +kernel
theorem dX7_about_19 : decode cX7_about 19 = .ok (.getfield 31, 3) := by decide +kernel
theorem dX7_about_22 : decode cX7_about 22 = .ok (.iload_n 1, 1) := by decide +kernel
theorem dX7_about_23 : decode cX7_about 23 = .ok (.aaload, 1) := by decide +kernel
theorem dX7_about_24 : decode cX7_about 24 = .ok (.iload_n 2, 1) := by decide +kernel
theorem dX7_about_25 : decode cX7_about 25 = .ok (.invokevirtual 191, 3) := by decide +kernel
theorem dX7_about_28 : decode cX7_about 28 = .ok (.goto 4, 3) := by decide +kernel
theorem dX7_about_31 : decode cX7_about 31 = .ok (.iconst (-1), 1) := by decide +kernel
theorem dX7_about_32 : decode cX7_about 32 = .ok (.ireturn, 1) := by decide +kernel
theorem dX7_count_0 : decode cX7_count 0 = .ok (.iload_n 1, 1) := by decide +kernel
theorem dX7_count_1 : decode cX7_count 1 = .ok (.bipush 10, 2) := by decide +kernel
theorem dX7_count_3 : decode cX7_count 3 = .ok (.bipush 13, 2) := by decide +kernel
theorem dX7_count_5 : decode cX7_count 5 = .ok (.invokestatic 94, 3) := by decide +kernel
theorem dX7_count_8 : decode cX7_count 8 = .ok (.ifCond .eq 15, 3) := by decide +kernel
theorem dX7_count_11 : decode cX7_count 11 = .ok (.aload_n 0, 1) := by decide +kernel
theorem dX7_count_12 : decode cX7_count 12 = .ok (.getfield 19, 3) := by decide +kernel
theorem dX7_count_15 : decode cX7_count 15 = .ok (.iload_n 1, 1) := by decide +kernel
theorem dX7_count_16 : decode cX7_count 16 = .ok (.bipush 10, 2) := by decide +kernel
theorem dX7_count_18 : decode cX7_count 18 = .ok (.isub, 1) := by decide +kernel
theorem dX7_count_19 : decode cX7_count 19 = .ok (.invokevirtual 171, 3) := by decide +kernel
theorem dX7_count_22 : decode cX7_count 22 = .ok (.ireturn, 1) := by decide +kernel
theorem dX7_count_23 : decode cX7_count 23 = .ok (.iload_n 1, 1) := by decide +kernel
theorem dX7_count_24 : decode cX7_count 24 = .ok (.bipush 20, 2) := by decide +kernel
theorem dX7_count_26 : decode cX7_count 26 = .ok (.bipush 24, 2) := by decide +kernel
theorem dX7_count_28 : decode cX7_count 28 = .ok (.invokestatic 94, 3) := by decide +kernel
theorem dX7_count_31 : decode cX7_count 31 = .ok (.ifCond .eq 13, 3) := by decide +kernel
theorem dX7_count_34 : decode cX7_count 34 = .ok (.aload_n 0, 1) := by decide +kernel
theorem dX7_count_35 : decode cX7_count 35 = .ok (.getfield 41, 3) := by decide +kernel
theorem dX7_count_38 : decode cX7_count 38 = .ok (.iload_n 1, 1) := by decide +kernel
theorem dX7_count_39 : decode cX7_count 39 = .ok (.bipush 20, 2) := by decide +kernel
theorem dX7_count_41 : decode cX7_count 41 = .ok (.isub, 1) := by decide +kernel
theorem dX7_count_42 : decode cX7_count 42 = .ok (.iaload, 1) := by decide +kernel
theorem dX7_count_43 : decode cX7_count 43 = .ok (.ireturn, 1) := by decide +kernel
theorem dX7_count_44 : decode cX7_count 44 = .ok (.iload_n 1, 1) := by decide +kernel
theorem dX7_count_45 : decode cX7_count 45 = .ok (.bipush 30, 2) := by decide +kernel
theorem dX7_count_47 : decode cX7_count 47 = .ok (.bipush 39, 2) := by decide +kernel
theorem dX7_count_49 : decode cX7_count 49 = .ok (.invokestatic 94, 3) := by decide +kernel
theorem dX7_count_52 : decode cX7_count 52 = .ok (.ifCond .eq 16, 3) := by decide +kernel
theorem dX7_count_55 : decode cX7_count 55 = .ok (.aload_n 0, 1) := by decide +kernel
theorem dX7_count_56 : decode cX7_count 56 = .ok (.getfield 37, 3) := by decide +kernel
theorem dX7_count_59 : decode cX7_count 59 = .ok (.iload_n 1, 1) := by decide +kernel
theorem dX7_count_60 : decode cX7_count 60 = .ok (.bipush 30, 2) := by decide +kernel
theorem dX7_count_62 : decode cX7_count 62 = .ok (.isub, 1) := by decide +kernel
theorem dX7_count_63 : decode cX7_count 63 = .ok (.aaload, 1) := by decide +kernel
theorem dX7_count_64 : decode cX7_count 64 = .ok (.invokevirtual 194, 3) := by decide +kernel
theorem dX7_count_67 : decode cX7_count 67 = .ok (.ireturn, 1) := by decide +kernel
theorem dX7_count_68 : decode cX7_count 68 = .ok (.iload_n 1, 1) := by decide +kernel
theorem dX7_count_69 : decode cX7_count 69 = .ok (.tableswitch 72 0 5 #[39, 44, 49, 54, 59, 64], 39) := by decide +kernel
theorem dX7_count_108 : decode cX7_count 108 = .ok (.aload_n 0, 1) := by decide +kernel
theorem dX7_count_109 : decode cX7_count 109 = .ok (.getfield 62, 3) := by decide +kernel
theorem dX7_count_112 : decode cX7_count 112 = .ok (.ireturn, 1) := by decide +kernel
theorem dX7_count_113 : decode cX7_count 113 = .ok (.aload_n 0, 1) := by decide +kernel
theorem dX7_count_114 : decode cX7_count 114 = .ok (.invokevirtual 197, 3) := by decide +kernel
theorem dX7_count_117 : decode cX7_count 117 = .ok (.ireturn, 1) := by decide +kernel
theorem dX7_count_118 : decode cX7_count 118 = .ok (.aload_n 0, 1) := by decide +kernel
theorem dX7_count_119 : decode cX7_count 119 = .ok (.getfield 55, 3) := by decide +kernel
theorem dX7_count_122 : decode cX7_count 122 = .ok (.ireturn, 1) := by decide +kernel
theorem dX7_count_123 : decode cX7_count 123 = .ok (.aload_n 0, 1) := by decide +kernel
theorem dX7_count_124 : decode cX7_count 124 = .ok (.invokevirtual 200, 3) := by decide +kernel
theorem dX7_count_127 : decode cX7_count 127 = .ok (.ireturn, 1) := by decide +kernel
theorem dX7_count_128 : decode cX7_count 128 = .ok (.aload_n 0, 1) := by decide +kernel
theorem dX7_count_129 : decode cX7_count 129 = .ok (.getfield 59, 3) := by decide +kernel
theorem dX7_count_132 : decode cX7_count 132 = .ok (.ireturn, 1) := by decide +kernel
theorem dX7_count_133 : decode cX7_count 133 = .ok (.aload_n 0, 1) := by decide +kernel
theorem dX7_count_134 : decode cX7_count 134 = .ok (.getfield 10, 3) := by decide +kernel
theorem dX7_count_137 : decode cX7_count 137 = .ok (.invokevirtual 83, 3) := by decide +kernel
theorem dX7_count_140 : decode cX7_count 140 = .ok (.ireturn, 1) := by decide +kernel
theorem dX7_count_141 : decode cX7_count 141 = .ok (.iconst (-1), 1) := by decide +kernel
theorem dX7_count_142 : decode cX7_count 142 = .ok (.ireturn, 1) := by decide +kernel
theorem dX7_within_0 : decode cX7_within 0 = .ok (.iload_n 0, 1) := by decide +kernel
theorem dX7_within_1 : decode cX7_within 1 = .ok (.iload_n 1, 1) := by decide +kernel
theorem dX7_within_2 : decode cX7_within 2 = .ok (.if_icmp .lt 12, 3) := by decide +kernel
theorem dX7_within_5 : decode cX7_within 5 = .ok (.iload_n 0, 1) := by decide +kernel
theorem dX7_within_6 : decode cX7_within 6 = .ok (.iload_n 2, 1) := by decide +kernel
theorem dX7_within_7 : decode cX7_within 7 = .ok (.if_icmp .gt 7, 3) := by decide +kernel
theorem dX7_within_10 : decode cX7_within 10 = .ok (.iconst 1, 1) := by decide +kernel
theorem dX7_within_11 : decode cX7_within 11 = .ok (.goto 4, 3) := by decide +kernel
theorem dX7_within_14 : decode cX7_within 14 = .ok (.iconst 0, 1) := by decide +kernel
theorem dX7_within_15 : decode cX7_within 15 = .ok (.ireturn, 1) := by decide +kernel
theorem dX7_hasBit_0 : decode cX7_hasBit 0 = .ok (.iload_n 0, 1) := by decide +kernel
theorem dX7_hasBit_1 : decode cX7_hasBit 1 = .ok (.iload_n 1, 1) := by decide +kernel
theorem dX7_hasBit_2 : decode cX7_hasBit 2 = .ok (.ishr, 1) := by decide +kernel
theorem dX7_hasBit_3 : decode cX7_hasBit 3 = .ok (.iconst 1, 1) := by decide +kernel
theorem dX7_hasBit_4 : decode cX7_hasBit 4 = .ok (.iand, 1) := by decide +kernel
theorem dX7_hasBit_5 : decode cX7_hasBit 5 = .ok (.iconst 1, 1) := by decide +kernel
theorem dX7_hasBit_6 : decode cX7_hasBit 6 = .ok (.if_icmp .ne 7, 3) := by decide +kernel
theorem dX7_hasBit_9 : decode cX7_hasBit 9 = .ok (.iconst 1, 1) := by decide +kernel
theorem dX7_hasBit_10 : decode cX7_hasBit 10 = .ok (.goto 4, 3) := by decide +kernel
theorem dX7_hasBit_13 : decode cX7_hasBit 13 = .ok (.iconst 0, 1) := by decide +kernel
theorem dX7_hasBit_14 : decode cX7_hasBit 14 = .ok (.ireturn, 1) := by decide +kernel
theorem dX7_isPiper_0 : decode cX7_isPiper 0 = .ok (.iload_n 1, 1) := by decide +kernel
theorem dX7_isPiper_1 : decode cX7_isPiper 1 = .ok (.iconst 0, 1) := by decide +kernel
theorem dX7_isPiper_2 : decode cX7_isPiper 2 = .ok (.aload_n 0, 1) := by decide +kernel
theorem dX7_isPiper_3 : decode cX7_isPiper 3 = .ok (.getfield 55, 3) := by decide +kernel
theorem dX7_isPiper_6 : decode cX7_isPiper 6 = .ok (.iconst 1, 1) := by decide +kernel
theorem dX7_isPiper_7 : decode cX7_isPiper 7 = .ok (.isub, 1) := by decide +kernel
theorem dX7_isPiper_8 : decode cX7_isPiper 8 = .ok (.invokestatic 94, 3) := by decide +kernel
theorem dX7_isPiper_11 : decode cX7_isPiper 11 = .ok (.ireturn, 1) := by decide +kernel
theorem dX7_isCall_0 : decode cX7_isCall 0 = .ok (.iload_n 1, 1) := by decide +kernel
theorem dX7_isCall_1 : decode cX7_isCall 1 = .ok (.iconst 0, 1) := by decide +kernel
theorem dX7_isCall_2 : decode cX7_isCall 2 = .ok (.iconst 5, 1) := by decide +kernel
theorem dX7_isCall_3 : decode cX7_isCall 3 = .ok (.invokestatic 94, 3) := by decide +kernel
theorem dX7_isCall_6 : decode cX7_isCall 6 = .ok (.ifCond .eq 19, 3) := by decide +kernel
theorem dX7_isCall_9 : decode cX7_isCall 9 = .ok (.aload_n 0, 1) := by decide +kernel
theorem dX7_isCall_10 : decode cX7_isCall 10 = .ok (.getfield 31, 3) := by decide +kernel
theorem dX7_isCall_13 : decode cX7_isCall 13 = .ok (.iload_n 1, 1) := by decide +kernel
theorem dX7_isCall_14 : decode cX7_isCall 14 = .ok (.aaload, 1) := by decide +kernel
theorem dX7_isCall_15 : decode cX7_isCall 15 = .ok (.getfield 203, 3) := by decide +kernel
theorem dX7_isCall_18 : decode cX7_isCall 18 = .ok (.ifCond .eq 7, 3) := by decide +kernel
theorem dX7_isCall_21 : decode cX7_isCall 21 = .ok (.iconst 1, 1) := by decide +kernel
theorem dX7_isCall_22 : decode cX7_isCall 22 = .ok (.goto 4, 3) := by decide +kernel
theorem dX7_isCall_25 : decode cX7_isCall 25 = .ok (.iconst 0, 1) := by decide +kernel
theorem dX7_isCall_26 : decode cX7_isCall 26 = .ok (.ireturn, 1) := by decide +kernel
theorem dX7_freeCall_0 : decode cX7_freeCall 0 = .ok (.iconst 0, 1) := by decide +kernel
theorem dX7_freeCall_1 : decode cX7_freeCall 1 = .ok (.istore_n 1, 1) := by decide +kernel
theorem dX7_freeCall_2 : decode cX7_freeCall 2 = .ok (.iload_n 1, 1) := by decide +kernel
theorem dX7_freeCall_3 : decode cX7_freeCall 3 = .ok (.bipush 6, 2) := by decide +kernel
theorem dX7_freeCall_5 : decode cX7_freeCall 5 = .ok (.if_icmp .ge 23, 3) := by decide +kernel
theorem dX7_freeCall_8 : decode cX7_freeCall 8 = .ok (.aload_n 0, 1) := by decide +kernel
theorem dX7_freeCall_9 : decode cX7_freeCall 9 = .ok (.getfield 31, 3) := by decide +kernel
theorem dX7_freeCall_12 : decode cX7_freeCall 12 = .ok (.iload_n 1, 1) := by decide +kernel
theorem dX7_freeCall_13 : decode cX7_freeCall 13 = .ok (.aaload, 1) := by decide +kernel
theorem dX7_freeCall_14 : decode cX7_freeCall 14 = .ok (.getfield 203, 3) := by decide +kernel
theorem dX7_freeCall_17 : decode cX7_freeCall 17 = .ok (.ifCond .ne 5, 3) := by decide +kernel
theorem dX7_freeCall_20 : decode cX7_freeCall 20 = .ok (.iload_n 1, 1) := by decide +kernel
theorem dX7_freeCall_21 : decode cX7_freeCall 21 = .ok (.ireturn, 1) := by decide +kernel
theorem dX7_freeCall_22 : decode cX7_freeCall 22 = .ok (.iinc 1 1, 3) := by decide +kernel
theorem dX7_freeCall_25 : decode cX7_freeCall 25 = .ok (.goto (-23), 3) := by decide +kernel
theorem dX7_freeCall_28 : decode cX7_freeCall 28 = .ok (.iconst (-1), 1) := by decide +kernel
theorem dX7_freeCall_29 : decode cX7_freeCall 29 = .ok (.ireturn, 1) := by decide +kernel
theorem dX7_callCount_0 : decode cX7_callCount 0 = .ok (.iconst 0, 1) := by decide +kernel
theorem dX7_callCount_1 : decode cX7_callCount 1 = .ok (.istore_n 1, 1) := by decide +kernel
theorem dX7_callCount_2 : decode cX7_callCount 2 = .ok (.iconst 0, 1) := by decide +kernel
theorem dX7_callCount_3 : decode cX7_callCount 3 = .ok (.istore_n 2, 1) := by decide +kernel
theorem dX7_callCount_4 : decode cX7_callCount 4 = .ok (.iload_n 2, 1) := by decide +kernel
theorem dX7_callCount_5 : decode cX7_callCount 5 = .ok (.bipush 6, 2) := by decide +kernel
theorem dX7_callCount_7 : decode cX7_callCount 7 = .ok (.if_icmp .ge 24, 3) := by decide +kernel
theorem dX7_callCount_10 : decode cX7_callCount 10 = .ok (.aload_n 0, 1) := by decide +kernel
theorem dX7_callCount_11 : decode cX7_callCount 11 = .ok (.getfield 31, 3) := by decide +kernel
theorem dX7_callCount_14 : decode cX7_callCount 14 = .ok (.iload_n 2, 1) := by decide +kernel
theorem dX7_callCount_15 : decode cX7_callCount 15 = .ok (.aaload, 1) := by decide +kernel
theorem dX7_callCount_16 : decode cX7_callCount 16 = .ok (.getfield 203, 3) := by decide +kernel
theorem dX7_callCount_19 : decode cX7_callCount 19 = .ok (.ifCond .eq 6, 3) := by decide +kernel
theorem dX7_callCount_22 : decode cX7_callCount 22 = .ok (.iinc 1 1, 3) := by decide +kernel
theorem dX7_callCount_25 : decode cX7_callCount 25 = .ok (.iinc 2 1, 3) := by decide +kernel
theorem dX7_callCount_28 : decode cX7_callCount 28 = .ok (.goto (-24), 3) := by decide +kernel
theorem dX7_callCount_31 : decode cX7_callCount 31 = .ok (.iload_n 1, 1) := by decide +kernel
theorem dX7_callCount_32 : decode cX7_callCount 32 = .ok (.ireturn, 1) := by decide +kernel
theorem dX7_monthOfToday_0 : decode cX7_monthOfToday 0 = .ok (.aload_n 0, 1) := by decide +kernel
theorem dX7_monthOfToday_1 : decode cX7_monthOfToday 1 = .ok (.getfield 62, 3) := by decide +kernel
theorem dX7_monthOfToday_4 : decode cX7_monthOfToday 4 = .ok (.bipush 30, 2) := by decide +kernel
theorem dX7_monthOfToday_6 : decode cX7_monthOfToday 6 = .ok (.idiv, 1) := by decide +kernel
theorem dX7_monthOfToday_7 : decode cX7_monthOfToday 7 = .ok (.bipush 12, 2) := by decide +kernel
theorem dX7_monthOfToday_9 : decode cX7_monthOfToday 9 = .ok (.irem, 1) := by decide +kernel
theorem dX7_monthOfToday_10 : decode cX7_monthOfToday 10 = .ok (.ireturn, 1) := by decide +kernel
theorem dX7_planOfToday_0 : decode cX7_planOfToday 0 = .ok (.aload_n 0, 1) := by decide +kernel
theorem dX7_planOfToday_1 : decode cX7_planOfToday 1 = .ok (.getfield 68, 3) := by decide +kernel
theorem dX7_planOfToday_4 : decode cX7_planOfToday 4 = .ok (.ifCond .ne 61, 3) := by decide +kernel
theorem dX7_planOfToday_7 : decode cX7_planOfToday 7 = .ok (.aload_n 0, 1) := by decide +kernel
theorem dX7_planOfToday_8 : decode cX7_planOfToday 8 = .ok (.getfield 51, 3) := by decide +kernel
theorem dX7_planOfToday_11 : decode cX7_planOfToday 11 = .ok (.aload_n 0, 1) := by decide +kernel
theorem dX7_planOfToday_12 : decode cX7_planOfToday 12 = .ok (.getfield 31, 3) := by decide +kernel
theorem dX7_planOfToday_15 : decode cX7_planOfToday 15 = .ok (.aload_n 0, 1) := by decide +kernel
theorem dX7_planOfToday_16 : decode cX7_planOfToday 16 = .ok (.getfield 25, 3) := by decide +kernel
theorem dX7_planOfToday_19 : decode cX7_planOfToday 19 = .ok (.aload_n 0, 1) := by decide +kernel
theorem dX7_planOfToday_20 : decode cX7_planOfToday 20 = .ok (.getfield 41, 3) := by decide +kernel
theorem dX7_planOfToday_23 : decode cX7_planOfToday 23 = .ok (.aload_n 0, 1) := by decide +kernel
theorem dX7_planOfToday_24 : decode cX7_planOfToday 24 = .ok (.getfield 19, 3) := by decide +kernel
theorem dX7_planOfToday_27 : decode cX7_planOfToday 27 = .ok (.iconst 0, 1) := by decide +kernel
theorem dX7_planOfToday_28 : decode cX7_planOfToday 28 = .ok (.invokevirtual 171, 3) := by decide +kernel
theorem dX7_planOfToday_31 : decode cX7_planOfToday 31 = .ok (.invokevirtual 206, 3) := by decide +kernel
theorem dX7_planOfToday_34 : decode cX7_planOfToday 34 = .ok (.aload_n 0, 1) := by decide +kernel
theorem dX7_planOfToday_35 : decode cX7_planOfToday 35 = .ok (.getfield 51, 3) := by decide +kernel
theorem dX7_planOfToday_38 : decode cX7_planOfToday 38 = .ok (.aload_n 0, 1) := by decide +kernel
theorem dX7_planOfToday_39 : decode cX7_planOfToday 39 = .ok (.getfield 31, 3) := by decide +kernel
theorem dX7_planOfToday_42 : decode cX7_planOfToday 42 = .ok (.aload_n 0, 1) := by decide +kernel
theorem dX7_planOfToday_43 : decode cX7_planOfToday 43 = .ok (.getfield 37, 3) := by decide +kernel
theorem dX7_planOfToday_46 : decode cX7_planOfToday 46 = .ok (.aload_n 0, 1) := by decide +kernel
theorem dX7_planOfToday_47 : decode cX7_planOfToday 47 = .ok (.invokevirtual 197, 3) := by decide +kernel
theorem dX7_planOfToday_50 : decode cX7_planOfToday 50 = .ok (.aload_n 0, 1) := by decide +kernel
theorem dX7_planOfToday_51 : decode cX7_planOfToday 51 = .ok (.getfield 62, 3) := by decide +kernel
theorem dX7_planOfToday_54 : decode cX7_planOfToday 54 = .ok (.bipush 6, 2) := by decide +kernel
theorem dX7_planOfToday_56 : decode cX7_planOfToday 56 = .ok (.imul, 1) := by decide +kernel
theorem dX7_planOfToday_57 : decode cX7_planOfToday 57 = .ok (.invokevirtual 210, 3) := by decide +kernel
theorem dX7_planOfToday_60 : decode cX7_planOfToday 60 = .ok (.aload_n 0, 1) := by decide +kernel
theorem dX7_planOfToday_61 : decode cX7_planOfToday 61 = .ok (.iconst 1, 1) := by decide +kernel
theorem dX7_planOfToday_62 : decode cX7_planOfToday 62 = .ok (.putfield 68, 3) := by decide +kernel
theorem dX7_planOfToday_65 : decode cX7_planOfToday 65 = .ok (.aload_n 0, 1) := by decide +kernel
theorem dX7_planOfToday_66 : decode cX7_planOfToday 66 = .ok (.getfield 51, 3) := by decide +kernel
theorem dX7_planOfToday_69 : decode cX7_planOfToday 69 = .ok (.areturn, 1) := by decide +kernel
theorem dX7_fundShare_0 : decode cX7_fundShare 0 = .ok (.aload_n 0, 1) := by decide +kernel
theorem dX7_fundShare_1 : decode cX7_fundShare 1 = .ok (.getfield 31, 3) := by decide +kernel
theorem dX7_fundShare_4 : decode cX7_fundShare 4 = .ok (.iload_n 1, 1) := by decide +kernel
theorem dX7_fundShare_5 : decode cX7_fundShare 5 = .ok (.aaload, 1) := by decide +kernel
theorem dX7_fundShare_6 : decode cX7_fundShare 6 = .ok (.bipush 7, 2) := by decide +kernel
theorem dX7_fundShare_8 : decode cX7_fundShare 8 = .ok (.invokevirtual 191, 3) := by decide +kernel
theorem dX7_fundShare_11 : decode cX7_fundShare 11 = .ok (.aload_n 0, 1) := by decide +kernel
theorem dX7_fundShare_12 : decode cX7_fundShare 12 = .ok (.getfield 19, 3) := by decide +kernel
theorem dX7_fundShare_15 : decode cX7_fundShare 15 = .ok (.iconst 1, 1) := by decide +kernel
theorem dX7_fundShare_16 : decode cX7_fundShare 16 = .ok (.invokevirtual 171, 3) := by decide +kernel
theorem dX7_fundShare_19 : decode cX7_fundShare 19 = .ok (.imul, 1) := by decide +kernel
theorem dX7_fundShare_20 : decode cX7_fundShare 20 = .ok (.bipush 100, 2) := by decide +kernel
theorem dX7_fundShare_22 : decode cX7_fundShare 22 = .ok (.idiv, 1) := by decide +kernel
theorem dX7_fundShare_23 : decode cX7_fundShare 23 = .ok (.ireturn, 1) := by decide +kernel
theorem dX7_piperShare_0 : decode cX7_piperShare 0 = .ok (.aload_n 1, 1) := by decide +kernel
theorem dX7_piperShare_1 : decode cX7_piperShare 1 = .ok (.iload_n 2, 1) := by decide +kernel
theorem dX7_piperShare_2 : decode cX7_piperShare 2 = .ok (.iconst 0, 1) := by decide +kernel
theorem dX7_piperShare_3 : decode cX7_piperShare 3 = .ok (.invokevirtual 133, 3) := by decide +kernel
theorem dX7_piperShare_6 : decode cX7_piperShare 6 = .ok (.istore 4, 2) := by decide +kernel
theorem dX7_piperShare_8 : decode cX7_piperShare 8 = .ok (.aload_n 1, 1) := by decide +kernel
theorem dX7_piperShare_9 : decode cX7_piperShare 9 = .ok (.iload_n 2, 1) := by decide +kernel
theorem dX7_piperShare_10 : decode cX7_piperShare 10 = .ok (.iconst 1, 1) := by decide +kernel
theorem dX7_piperShare_11 : decode cX7_piperShare 11 = .ok (.invokevirtual 133, 3) := by decide +kernel
theorem dX7_piperShare_14 : decode cX7_piperShare 14 = .ok (.istore 5, 2) := by decide +kernel
theorem dX7_piperShare_16 : decode cX7_piperShare 16 = .ok (.aload_n 0, 1) := by decide +kernel
theorem dX7_piperShare_17 : decode cX7_piperShare 17 = .ok (.getfield 31, 3) := by decide +kernel
theorem dX7_piperShare_20 : decode cX7_piperShare 20 = .ok (.iload_n 2, 1) := by decide +kernel
theorem dX7_piperShare_21 : decode cX7_piperShare 21 = .ok (.aaload, 1) := by decide +kernel
theorem dX7_piperShare_22 : decode cX7_piperShare 22 = .ok (.bipush 7, 2) := by decide +kernel
theorem dX7_piperShare_24 : decode cX7_piperShare 24 = .ok (.invokevirtual 191, 3) := by decide +kernel
theorem dX7_piperShare_27 : decode cX7_piperShare 27 = .ok (.aload_n 0, 1) := by decide +kernel
theorem dX7_piperShare_28 : decode cX7_piperShare 28 = .ok (.iload_n 2, 1) := by decide +kernel
theorem dX7_piperShare_29 : decode cX7_piperShare 29 = .ok (.invokevirtual 147, 3) := by decide +kernel
theorem dX7_piperShare_32 : decode cX7_piperShare 32 = .ok (.isub, 1) := by decide +kernel
theorem dX7_piperShare_33 : decode cX7_piperShare 33 = .ok (.istore 6, 2) := by decide +kernel
theorem dX7_piperShare_35 : decode cX7_piperShare 35 = .ok (.iload_n 3, 1) := by decide +kernel
theorem dX7_piperShare_36 : decode cX7_piperShare 36 = .ok (.iload 4, 2) := by decide +kernel
theorem dX7_piperShare_38 : decode cX7_piperShare 38 = .ok (.if_icmp .ne 24, 3) := by decide +kernel
theorem dX7_piperShare_41 : decode cX7_piperShare 41 = .ok (.iload 5, 2) := by decide +kernel
theorem dX7_piperShare_43 : decode cX7_piperShare 43 = .ok (.iconst (-1), 1) := by decide +kernel
theorem dX7_piperShare_44 : decode cX7_piperShare 44 = .ok (.if_icmp .ne 8, 3) := by decide +kernel
theorem dX7_piperShare_47 : decode cX7_piperShare 47 = .ok (.iload 6, 2) := by decide +kernel
theorem dX7_piperShare_49 : decode cX7_piperShare 49 = .ok (.goto 12, 3) := by decide +kernel
theorem dX7_piperShare_52 : decode cX7_piperShare 52 = .ok (.aload_n 0, 1) := by decide +kernel
theorem dX7_piperShare_53 : decode cX7_piperShare 53 = .ok (.iload 6, 2) := by decide +kernel
theorem dX7_piperShare_55 : decode cX7_piperShare 55 = .ok (.iload_n 3, 1) := by decide +kernel
theorem dX7_piperShare_56 : decode cX7_piperShare 56 = .ok (.iload 5, 2) := by decide +kernel
theorem dX7_piperShare_58 : decode cX7_piperShare 58 = .ok (.invokevirtual 214, 3) := by decide +kernel
theorem dX7_piperShare_61 : decode cX7_piperShare 61 = .ok (.ireturn, 1) := by decide +kernel
theorem dX7_piperShare_62 : decode cX7_piperShare 62 = .ok (.iload_n 3, 1) := by decide +kernel
theorem dX7_piperShare_63 : decode cX7_piperShare 63 = .ok (.iload 5, 2) := by decide +kernel
theorem dX7_piperShare_65 : decode cX7_piperShare 65 = .ok (.if_icmp .ne 15, 3) := by decide +kernel
theorem dX7_piperShare_68 : decode cX7_piperShare 68 = .ok (.aload_n 0, 1) := by decide +kernel
theorem dX7_piperShare_69 : decode cX7_piperShare 69 = .ok (.iload 6, 2) := by decide +kernel
theorem dX7_piperShare_71 : decode cX7_piperShare 71 = .ok (.iload_n 3, 1) := by decide +kernel
theorem dX7_piperShare_72 : decode cX7_piperShare 72 = .ok (.iload 4, 2) := by decide +kernel
theorem dX7_piperShare_74 : decode cX7_piperShare 74 = .ok (.invokevirtual 214, 3) := by decide +kernel
theorem dX7_piperShare_77 : decode cX7_piperShare 77 = .ok (.goto 4, 3) := by decide +kernel
theorem dX7_piperShare_80 : decode cX7_piperShare 80 = .ok (.iconst 0, 1) := by decide +kernel
theorem dX7_piperShare_81 : decode cX7_piperShare 81 = .ok (.ireturn, 1) := by decide +kernel
theorem dX7_partOfTwo_0 : decode cX7_partOfTwo 0 = .ok (.aload_n 0, 1) := by decide +kernel
theorem dX7_partOfTwo_1 : decode cX7_partOfTwo 1 = .ok (.iload_n 2, 1) := by decide +kernel
theorem dX7_partOfTwo_2 : decode cX7_partOfTwo 2 = .ok (.invokevirtual 102, 3) := by decide +kernel
theorem dX7_partOfTwo_5 : decode cX7_partOfTwo 5 = .ok (.ifCond .eq 11, 3) := by decide +kernel
theorem dX7_partOfTwo_8 : decode cX7_partOfTwo 8 = .ok (.aload_n 0, 1) := by decide +kernel
theorem dX7_partOfTwo_9 : decode cX7_partOfTwo 9 = .ok (.iload_n 3, 1) := by decide +kernel
theorem dX7_partOfTwo_10 : decode cX7_partOfTwo 10 = .ok (.invokevirtual 102, 3) := by decide +kernel
theorem dX7_partOfTwo_13 : decode cX7_partOfTwo 13 = .ok (.ifCond .ne 5, 3) := by decide +kernel
theorem dX7_partOfTwo_16 : decode cX7_partOfTwo 16 = .ok (.iconst 0, 1) := by decide +kernel
theorem dX7_partOfTwo_17 : decode cX7_partOfTwo 17 = .ok (.ireturn, 1) := by decide +kernel
theorem dX7_partOfTwo_18 : decode cX7_partOfTwo 18 = .ok (.iconst 1, 1) := by decide +kernel
theorem dX7_partOfTwo_19 : decode cX7_partOfTwo 19 = .ok (.aload_n 0, 1) := by decide +kernel
theorem dX7_partOfTwo_20 : decode cX7_partOfTwo 20 = .ok (.getfield 25, 3) := by decide +kernel
theorem dX7_partOfTwo_23 : decode cX7_partOfTwo 23 = .ok (.iload_n 2, 1) := by decide +kernel
theorem dX7_partOfTwo_24 : decode cX7_partOfTwo 24 = .ok (.aaload, 1) := by decide +kernel
theorem dX7_partOfTwo_25 : decode cX7_partOfTwo 25 = .ok (.getfield 179, 3) := by decide +kernel
theorem dX7_partOfTwo_28 : decode cX7_partOfTwo 28 = .ok (.aload_n 0, 1) := by decide +kernel
theorem dX7_partOfTwo_29 : decode cX7_partOfTwo 29 = .ok (.getfield 25, 3) := by decide +kernel
theorem dX7_partOfTwo_32 : decode cX7_partOfTwo 32 = .ok (.iload_n 3, 1) := by decide +kernel
theorem dX7_partOfTwo_33 : decode cX7_partOfTwo 33 = .ok (.aaload, 1) := by decide +kernel
theorem dX7_partOfTwo_34 : decode cX7_partOfTwo 34 = .ok (.getfield 179, 3) := by decide +kernel
theorem dX7_partOfTwo_37 : decode cX7_partOfTwo 37 = .ok (.iadd, 1) := by decide +kernel
theorem dX7_partOfTwo_38 : decode cX7_partOfTwo 38 = .ok (.invokestatic 218, 3) := by decide +kernel
theorem dX7_partOfTwo_41 : decode cX7_partOfTwo 41 = .ok (.istore 4, 2) := by decide +kernel
theorem dX7_partOfTwo_43 : decode cX7_partOfTwo 43 = .ok (.iload_n 1, 1) := by decide +kernel
theorem dX7_partOfTwo_44 : decode cX7_partOfTwo 44 = .ok (.aload_n 0, 1) := by decide +kernel
theorem dX7_partOfTwo_45 : decode cX7_partOfTwo 45 = .ok (.getfield 25, 3) := by decide +kernel
theorem dX7_partOfTwo_48 : decode cX7_partOfTwo 48 = .ok (.iload_n 2, 1) := by decide +kernel
theorem dX7_partOfTwo_49 : decode cX7_partOfTwo 49 = .ok (.aaload, 1) := by decide +kernel
theorem dX7_partOfTwo_50 : decode cX7_partOfTwo 50 = .ok (.getfield 179, 3) := by decide +kernel
theorem dX7_partOfTwo_53 : decode cX7_partOfTwo 53 = .ok (.imul, 1) := by decide +kernel
theorem dX7_partOfTwo_54 : decode cX7_partOfTwo 54 = .ok (.istore 5, 2) := by decide +kernel
theorem dX7_partOfTwo_56 : decode cX7_partOfTwo 56 = .ok (.iload_n 1, 1) := by decide +kernel
theorem dX7_partOfTwo_57 : decode cX7_partOfTwo 57 = .ok (.aload_n 0, 1) := by decide +kernel
theorem dX7_partOfTwo_58 : decode cX7_partOfTwo 58 = .ok (.getfield 25, 3) := by decide +kernel
theorem dX7_partOfTwo_61 : decode cX7_partOfTwo 61 = .ok (.iload_n 3, 1) := by decide +kernel
theorem dX7_partOfTwo_62 : decode cX7_partOfTwo 62 = .ok (.aaload, 1) := by decide +kernel
theorem dX7_partOfTwo_63 : decode cX7_partOfTwo 63 = .ok (.getfield 179, 3) := by decide +kernel
theorem dX7_partOfTwo_66 : decode cX7_partOfTwo 66 = .ok (.imul, 1) := by decide +kernel
theorem dX7_partOfTwo_67 : decode cX7_partOfTwo 67 = .ok (.istore 6, 2) := by decide +kernel
theorem dX7_partOfTwo_69 : decode cX7_partOfTwo 69 = .ok (.iload_n 1, 1) := by decide +kernel
theorem dX7_partOfTwo_70 : decode cX7_partOfTwo 70 = .ok (.iload 5, 2) := by decide +kernel
theorem dX7_partOfTwo_72 : decode cX7_partOfTwo 72 = .ok (.iload 4, 2) := by decide +kernel
theorem dX7_partOfTwo_74 : decode cX7_partOfTwo 74 = .ok (.idiv, 1) := by decide +kernel
theorem dX7_partOfTwo_75 : decode cX7_partOfTwo 75 = .ok (.isub, 1) := by decide +kernel
theorem dX7_partOfTwo_76 : decode cX7_partOfTwo 76 = .ok (.iload 6, 2) := by decide +kernel
theorem dX7_partOfTwo_78 : decode cX7_partOfTwo 78 = .ok (.iload 4, 2) := by decide +kernel
theorem dX7_partOfTwo_80 : decode cX7_partOfTwo 80 = .ok (.idiv, 1) := by decide +kernel
theorem dX7_partOfTwo_81 : decode cX7_partOfTwo 81 = .ok (.isub, 1) := by decide +kernel
theorem dX7_partOfTwo_82 : decode cX7_partOfTwo 82 = .ok (.istore 7, 2) := by decide +kernel
theorem dX7_partOfTwo_84 : decode cX7_partOfTwo 84 = .ok (.iload 5, 2) := by decide +kernel
theorem dX7_partOfTwo_86 : decode cX7_partOfTwo 86 = .ok (.iload 4, 2) := by decide +kernel
theorem dX7_partOfTwo_88 : decode cX7_partOfTwo 88 = .ok (.irem, 1) := by decide +kernel
theorem dX7_partOfTwo_89 : decode cX7_partOfTwo 89 = .ok (.iload 6, 2) := by decide +kernel
theorem dX7_partOfTwo_91 : decode cX7_partOfTwo 91 = .ok (.iload 4, 2) := by decide +kernel
theorem dX7_partOfTwo_93 : decode cX7_partOfTwo 93 = .ok (.irem, 1) := by decide +kernel
theorem dX7_partOfTwo_94 : decode cX7_partOfTwo 94 = .ok (.if_icmp .gt 21, 3) := by decide +kernel
theorem dX7_partOfTwo_97 : decode cX7_partOfTwo 97 = .ok (.iload 5, 2) := by decide +kernel
theorem dX7_partOfTwo_99 : decode cX7_partOfTwo 99 = .ok (.iload 4, 2) := by decide +kernel
theorem dX7_partOfTwo_101 : decode cX7_partOfTwo 101 = .ok (.irem, 1) := by decide +kernel
theorem dX7_partOfTwo_102 : decode cX7_partOfTwo 102 = .ok (.iload 6, 2) := by decide +kernel
theorem dX7_partOfTwo_104 : decode cX7_partOfTwo 104 = .ok (.iload 4, 2) := by decide +kernel
theorem dX7_partOfTwo_106 : decode cX7_partOfTwo 106 = .ok (.irem, 1) := by decide +kernel
theorem dX7_partOfTwo_107 : decode cX7_partOfTwo 107 = .ok (.if_icmp .ne 12, 3) := by decide +kernel
theorem dX7_partOfTwo_110 : decode cX7_partOfTwo 110 = .ok (.iload_n 2, 1) := by decide +kernel
theorem dX7_partOfTwo_111 : decode cX7_partOfTwo 111 = .ok (.iload_n 3, 1) := by decide +kernel
theorem dX7_partOfTwo_112 : decode cX7_partOfTwo 112 = .ok (.if_icmp .ge 7, 3) := by decide +kernel
theorem dX7_partOfTwo_115 : decode cX7_partOfTwo 115 = .ok (.iconst 1, 1) := by decide +kernel
theorem dX7_partOfTwo_116 : decode cX7_partOfTwo 116 = .ok (.goto 4, 3) := by decide +kernel
theorem dX7_partOfTwo_119 : decode cX7_partOfTwo 119 = .ok (.iconst 0, 1) := by decide +kernel
theorem dX7_partOfTwo_120 : decode cX7_partOfTwo 120 = .ok (.istore 8, 2) := by decide +kernel
theorem dX7_partOfTwo_122 : decode cX7_partOfTwo 122 = .ok (.iload 5, 2) := by decide +kernel
theorem dX7_partOfTwo_124 : decode cX7_partOfTwo 124 = .ok (.iload 4, 2) := by decide +kernel
theorem dX7_partOfTwo_126 : decode cX7_partOfTwo 126 = .ok (.idiv, 1) := by decide +kernel
theorem dX7_partOfTwo_127 : decode cX7_partOfTwo 127 = .ok (.iload 8, 2) := by decide +kernel
theorem dX7_partOfTwo_129 : decode cX7_partOfTwo 129 = .ok (.ifCond .eq 8, 3) := by decide +kernel
theorem dX7_partOfTwo_132 : decode cX7_partOfTwo 132 = .ok (.iload 7, 2) := by decide +kernel
theorem dX7_partOfTwo_134 : decode cX7_partOfTwo 134 = .ok (.goto 4, 3) := by decide +kernel
theorem dX7_partOfTwo_137 : decode cX7_partOfTwo 137 = .ok (.iconst 0, 1) := by decide +kernel
theorem dX7_partOfTwo_138 : decode cX7_partOfTwo 138 = .ok (.iadd, 1) := by decide +kernel
theorem dX7_partOfTwo_139 : decode cX7_partOfTwo 139 = .ok (.ireturn, 1) := by decide +kernel
theorem dX7_settle_0 : decode cX7_settle 0 = .ok (.iconst 0, 1) := by decide +kernel
theorem dX7_settle_1 : decode cX7_settle 1 = .ok (.istore_n 3, 1) := by decide +kernel
theorem dX7_settle_2 : decode cX7_settle 2 = .ok (.iload_n 3, 1) := by decide +kernel
theorem dX7_settle_3 : decode cX7_settle 3 = .ok (.aload_n 0, 1) := by decide +kernel
theorem dX7_settle_4 : decode cX7_settle 4 = .ok (.getfield 55, 3) := by decide +kernel
theorem dX7_settle_7 : decode cX7_settle 7 = .ok (.if_icmp .ge 30, 3) := by decide +kernel
theorem dX7_settle_10 : decode cX7_settle 10 = .ok (.aload_n 0, 1) := by decide +kernel
theorem dX7_settle_11 : decode cX7_settle 11 = .ok (.getfield 25, 3) := by decide +kernel
theorem dX7_settle_14 : decode cX7_settle 14 = .ok (.iload_n 3, 1) := by decide +kernel
theorem dX7_settle_15 : decode cX7_settle 15 = .ok (.aaload, 1) := by decide +kernel
theorem dX7_settle_16 : decode cX7_settle 16 = .ok (.dup, 1) := by decide +kernel
theorem dX7_settle_17 : decode cX7_settle 17 = .ok (.getfield 188, 3) := by decide +kernel
theorem dX7_settle_20 : decode cX7_settle 20 = .ok (.aload_n 0, 1) := by decide +kernel
theorem dX7_settle_21 : decode cX7_settle 21 = .ok (.aload_n 1, 1) := by decide +kernel
theorem dX7_settle_22 : decode cX7_settle 22 = .ok (.iload_n 2, 1) := by decide +kernel
theorem dX7_settle_23 : decode cX7_settle 23 = .ok (.iload_n 3, 1) := by decide +kernel
theorem dX7_settle_24 : decode cX7_settle 24 = .ok (.invokevirtual 150, 3) := by decide +kernel
theorem dX7_settle_27 : decode cX7_settle 27 = .ok (.iadd, 1) := by decide +kernel
theorem dX7_settle_28 : decode cX7_settle 28 = .ok (.putfield 188, 3) := by decide +kernel
theorem dX7_settle_31 : decode cX7_settle 31 = .ok (.iinc 3 1, 3) := by decide +kernel
theorem dX7_settle_34 : decode cX7_settle 34 = .ok (.goto (-32), 3) := by decide +kernel
theorem dX7_settle_37 : decode cX7_settle 37 = .ok (.aload_n 0, 1) := by decide +kernel
theorem dX7_settle_38 : decode cX7_settle 38 = .ok (.dup, 1) := by decide +kernel
theorem dX7_settle_39 : decode cX7_settle 39 = .ok (.getfield 65, 3) := by decide +kernel
theorem dX7_settle_42 : decode cX7_settle 42 = .ok (.aload_n 0, 1) := by decide +kernel
theorem dX7_settle_43 : decode cX7_settle 43 = .ok (.iload_n 2, 1) := by decide +kernel
theorem dX7_settle_44 : decode cX7_settle 44 = .ok (.invokevirtual 147, 3) := by decide +kernel
theorem dX7_settle_47 : decode cX7_settle 47 = .ok (.iadd, 1) := by decide +kernel
theorem dX7_settle_48 : decode cX7_settle 48 = .ok (.putfield 65, 3) := by decide +kernel
theorem dX7_settle_51 : decode cX7_settle 51 = .ok (.return_, 1) := by decide +kernel
theorem dX7_fineTheWell_0 : decode cX7_fineTheWell 0 = .ok (.aload_n 0, 1) := by decide +kernel
theorem dX7_fineTheWell_1 : decode cX7_fineTheWell 1 = .ok (.getfield 19, 3) := by decide +kernel
theorem dX7_fineTheWell_4 : decode cX7_fineTheWell 4 = .ok (.iconst 3, 1) := by decide +kernel
theorem dX7_fineTheWell_5 : decode cX7_fineTheWell 5 = .ok (.invokevirtual 171, 3) := by decide +kernel
theorem dX7_fineTheWell_8 : decode cX7_fineTheWell 8 = .ok (.istore_n 1, 1) := by decide +kernel
theorem dX7_fineTheWell_9 : decode cX7_fineTheWell 9 = .ok (.iconst 0, 1) := by decide +kernel
theorem dX7_fineTheWell_10 : decode cX7_fineTheWell 10 = .ok (.istore_n 2, 1) := by decide +kernel
theorem dX7_fineTheWell_11 : decode cX7_fineTheWell 11 = .ok (.iload_n 2, 1) := by decide +kernel
theorem dX7_fineTheWell_12 : decode cX7_fineTheWell 12 = .ok (.aload_n 0, 1) := by decide +kernel
theorem dX7_fineTheWell_13 : decode cX7_fineTheWell 13 = .ok (.getfield 55, 3) := by decide +kernel
theorem dX7_fineTheWell_16 : decode cX7_fineTheWell 16 = .ok (.if_icmp .ge 46, 3) := by decide +kernel
theorem dX7_fineTheWell_19 : decode cX7_fineTheWell 19 = .ok (.aload_n 0, 1) := by decide +kernel
theorem dX7_fineTheWell_20 : decode cX7_fineTheWell 20 = .ok (.getfield 25, 3) := by decide +kernel
theorem dX7_fineTheWell_23 : decode cX7_fineTheWell 23 = .ok (.iload_n 2, 1) := by decide +kernel
theorem dX7_fineTheWell_24 : decode cX7_fineTheWell 24 = .ok (.aaload, 1) := by decide +kernel
theorem dX7_fineTheWell_25 : decode cX7_fineTheWell 25 = .ok (.getfield 106, 3) := by decide +kernel
theorem dX7_fineTheWell_28 : decode cX7_fineTheWell 28 = .ok (.ifCond .ne 28, 3) := by decide +kernel
theorem dX7_fineTheWell_31 : decode cX7_fineTheWell 31 = .ok (.aload_n 0, 1) := by decide +kernel
theorem dX7_fineTheWell_32 : decode cX7_fineTheWell 32 = .ok (.getfield 25, 3) := by decide +kernel
theorem dX7_fineTheWell_35 : decode cX7_fineTheWell 35 = .ok (.iload_n 2, 1) := by decide +kernel
theorem dX7_fineTheWell_36 : decode cX7_fineTheWell 36 = .ok (.aaload, 1) := by decide +kernel
theorem dX7_fineTheWell_37 : decode cX7_fineTheWell 37 = .ok (.dup, 1) := by decide +kernel
theorem dX7_fineTheWell_38 : decode cX7_fineTheWell 38 = .ok (.getfield 188, 3) := by decide +kernel
theorem dX7_fineTheWell_41 : decode cX7_fineTheWell 41 = .ok (.iload_n 1, 1) := by decide +kernel
theorem dX7_fineTheWell_42 : decode cX7_fineTheWell 42 = .ok (.isub, 1) := by decide +kernel
theorem dX7_fineTheWell_43 : decode cX7_fineTheWell 43 = .ok (.putfield 188, 3) := by decide +kernel
theorem dX7_fineTheWell_46 : decode cX7_fineTheWell 46 = .ok (.aload_n 0, 1) := by decide +kernel
end
section
theorem dX7_fineTheWell_47 : decode cX7_fineTheWell 47 = .ok (.dup, 1) := by decide +kernel
theorem dX7_fineTheWell_48 : decode cX7_fineTheWell 48 = .ok (.getfield 65, 3) := by decide +kernel
theorem dX7_fineTheWell_51 : decode cX7_fineTheWell 51 = .ok (.iload_n 1, 1) := by decide +kernel
theorem dX7_fineTheWell_52 : decode cX7_fineTheWell 52 = .ok (.iadd, 1) := by decide +kernel
theorem dX7_fineTheWell_53 : decode cX7_fineTheWell 53 = .ok (.putfield 65, 3) := by decide +kernel
theorem dX7_fineTheWell_56 : decode cX7_fineTheWell 56 = .ok (.iinc 2 1, 3) := by decide +kernel
theorem dX7_fineTheWell_59 : decode cX7_fineTheWell 59 = .ok (.goto (-48), 3) := by decide +kernel
theorem dX7_fineTheWell_62 : decode cX7_fineTheWell 62 = .ok (.return_, 1) := by decide +kernel
theorem dX7_payTheOld_0 : decode cX7_payTheOld 0 = .ok (.iconst 0, 1) := by decide +kernel
theorem dX7_payTheOld_1 : decode cX7_payTheOld 1 = .ok (.istore_n 1, 1) := by decide +kernel
theorem dX7_payTheOld_2 : decode cX7_payTheOld 2 = .ok (.iload_n 1, 1) := by decide +kernel
theorem dX7_payTheOld_3 : decode cX7_payTheOld 3 = .ok (.aload_n 0, 1) := by decide +kernel
theorem dX7_payTheOld_4 : decode cX7_payTheOld 4 = .ok (.getfield 55, 3) := by decide +kernel
theorem dX7_payTheOld_7 : decode cX7_payTheOld 7 = .ok (.if_icmp .ge 63, 3) := by decide +kernel
theorem dX7_payTheOld_10 : decode cX7_payTheOld 10 = .ok (.aload_n 0, 1) := by decide +kernel
theorem dX7_payTheOld_11 : decode cX7_payTheOld 11 = .ok (.getfield 25, 3) := by decide +kernel
theorem dX7_payTheOld_14 : decode cX7_payTheOld 14 = .ok (.iload_n 1, 1) := by decide +kernel
theorem dX7_payTheOld_15 : decode cX7_payTheOld 15 = .ok (.aaload, 1) := by decide +kernel
theorem dX7_payTheOld_16 : decode cX7_payTheOld 16 = .ok (.getfield 106, 3) := by decide +kernel
theorem dX7_payTheOld_19 : decode cX7_payTheOld 19 = .ok (.iconst 2, 1) := by decide +kernel
theorem dX7_payTheOld_20 : decode cX7_payTheOld 20 = .ok (.if_icmp .ne 44, 3) := by decide +kernel
theorem dX7_payTheOld_23 : decode cX7_payTheOld 23 = .ok (.aload_n 0, 1) := by decide +kernel
theorem dX7_payTheOld_24 : decode cX7_payTheOld 24 = .ok (.getfield 65, 3) := by decide +kernel
theorem dX7_payTheOld_27 : decode cX7_payTheOld 27 = .ok (.aload_n 0, 1) := by decide +kernel
theorem dX7_payTheOld_28 : decode cX7_payTheOld 28 = .ok (.getfield 19, 3) := by decide +kernel
theorem dX7_payTheOld_31 : decode cX7_payTheOld 31 = .ok (.iconst 2, 1) := by decide +kernel
theorem dX7_payTheOld_32 : decode cX7_payTheOld 32 = .ok (.invokevirtual 171, 3) := by decide +kernel
theorem dX7_payTheOld_35 : decode cX7_payTheOld 35 = .ok (.invokestatic 174, 3) := by decide +kernel
theorem dX7_payTheOld_38 : decode cX7_payTheOld 38 = .ok (.istore_n 2, 1) := by decide +kernel
theorem dX7_payTheOld_39 : decode cX7_payTheOld 39 = .ok (.aload_n 0, 1) := by decide +kernel
theorem dX7_payTheOld_40 : decode cX7_payTheOld 40 = .ok (.getfield 25, 3) := by decide +kernel
theorem dX7_payTheOld_43 : decode cX7_payTheOld 43 = .ok (.iload_n 1, 1) := by decide +kernel
theorem dX7_payTheOld_44 : decode cX7_payTheOld 44 = .ok (.aaload, 1) := by decide +kernel
theorem dX7_payTheOld_45 : decode cX7_payTheOld 45 = .ok (.dup, 1) := by decide +kernel
theorem dX7_payTheOld_46 : decode cX7_payTheOld 46 = .ok (.getfield 188, 3) := by decide +kernel
theorem dX7_payTheOld_49 : decode cX7_payTheOld 49 = .ok (.iload_n 2, 1) := by decide +kernel
theorem dX7_payTheOld_50 : decode cX7_payTheOld 50 = .ok (.iadd, 1) := by decide +kernel
theorem dX7_payTheOld_51 : decode cX7_payTheOld 51 = .ok (.putfield 188, 3) := by decide +kernel
theorem dX7_payTheOld_54 : decode cX7_payTheOld 54 = .ok (.aload_n 0, 1) := by decide +kernel
theorem dX7_payTheOld_55 : decode cX7_payTheOld 55 = .ok (.dup, 1) := by decide +kernel
theorem dX7_payTheOld_56 : decode cX7_payTheOld 56 = .ok (.getfield 65, 3) := by decide +kernel
theorem dX7_payTheOld_59 : decode cX7_payTheOld 59 = .ok (.iload_n 2, 1) := by decide +kernel
theorem dX7_payTheOld_60 : decode cX7_payTheOld 60 = .ok (.isub, 1) := by decide +kernel
theorem dX7_payTheOld_61 : decode cX7_payTheOld 61 = .ok (.putfield 65, 3) := by decide +kernel
theorem dX7_payTheOld_64 : decode cX7_payTheOld 64 = .ok (.iinc 1 1, 3) := by decide +kernel
theorem dX7_payTheOld_67 : decode cX7_payTheOld 67 = .ok (.goto (-65), 3) := by decide +kernel
theorem dX7_payTheOld_70 : decode cX7_payTheOld 70 = .ok (.return_, 1) := by decide +kernel
theorem dX8_init_0 : decode cX8_init 0 = .ok (.aload_n 0, 1) := by decide +kernel
theorem dX8_init_1 : decode cX8_init 1 = .ok (.invokespecial 1, 3) := by decide +kernel
theorem dX8_init_4 : decode cX8_init 4 = .ok (.aload_n 0, 1) := by decide +kernel
theorem dX8_init_5 : decode cX8_init 5 = .ok (.bipush 40, 2) := by decide +kernel
theorem dX8_init_7 : decode cX8_init 7 = .ok (.newarray .byte, 2) := by decide +kernel
theorem dX8_init_9 : decode cX8_init 9 = .ok (.putfield 7, 3) := by decide +kernel
theorem dX8_init_12 : decode cX8_init 12 = .ok (.aload_n 0, 1) := by decide +kernel
theorem dX8_init_13 : decode cX8_init 13 = .ok (.iconst 4, 1) := by decide +kernel
theorem dX8_init_14 : decode cX8_init 14 = .ok (.newarray .int, 2) := by decide +kernel
theorem dX8_init_16 : decode cX8_init 16 = .ok (.putfield 13, 3) := by decide +kernel
theorem dX8_init_19 : decode cX8_init 19 = .ok (.aload_n 0, 1) := by decide +kernel
theorem dX8_init_20 : decode cX8_init 20 = .ok (.iconst 4, 1) := by decide +kernel
theorem dX8_init_21 : decode cX8_init 21 = .ok (.newarray .int, 2) := by decide +kernel
theorem dX8_init_23 : decode cX8_init 23 = .ok (.putfield 17, 3) := by decide +kernel
theorem dX8_init_26 : decode cX8_init 26 = .ok (.aload_n 0, 1) := by decide +kernel
theorem dX8_init_27 : decode cX8_init 27 = .ok (.bipush 6, 2) := by decide +kernel
theorem dX8_init_29 : decode cX8_init 29 = .ok (.newarray .int, 2) := by decide +kernel
theorem dX8_init_31 : decode cX8_init 31 = .ok (.putfield 20, 3) := by decide +kernel
theorem dX8_init_34 : decode cX8_init 34 = .ok (.aload_n 0, 1) := by decide +kernel
theorem dX8_init_35 : decode cX8_init 35 = .ok (.bipush 6, 2) := by decide +kernel
theorem dX8_init_37 : decode cX8_init 37 = .ok (.newarray .int, 2) := by decide +kernel
theorem dX8_init_39 : decode cX8_init 39 = .ok (.putfield 23, 3) := by decide +kernel
theorem dX8_init_42 : decode cX8_init 42 = .ok (.aload_n 0, 1) := by decide +kernel
theorem dX8_init_43 : decode cX8_init 43 = .ok (.bipush 6, 2) := by decide +kernel
theorem dX8_init_45 : decode cX8_init 45 = .ok (.newarray .int, 2) := by decide +kernel
theorem dX8_init_47 : decode cX8_init 47 = .ok (.putfield 26, 3) := by decide +kernel
theorem dX8_init_50 : decode cX8_init 50 = .ok (.aload_n 0, 1) := by decide +kernel
theorem dX8_init_51 : decode cX8_init 51 = .ok (.bipush 6, 2) := by decide +kernel
theorem dX8_init_53 : decode cX8_init 53 = .ok (.newarray .int, 2) := by decide +kernel
theorem dX8_init_55 : decode cX8_init 55 = .ok (.putfield 29, 3) := by decide +kernel
theorem dX8_init_58 : decode cX8_init 58 = .ok (.aload_n 0, 1) := by decide +kernel
theorem dX8_init_59 : decode cX8_init 59 = .ok (.iconst 5, 1) := by decide +kernel
theorem dX8_init_60 : decode cX8_init 60 = .ok (.newarray .int, 2) := by decide +kernel
theorem dX8_init_62 : decode cX8_init 62 = .ok (.putfield 32, 3) := by decide +kernel
theorem dX8_init_65 : decode cX8_init 65 = .ok (.aload_n 0, 1) := by decide +kernel
theorem dX8_init_66 : decode cX8_init 66 = .ok (.bipush 48, 2) := by decide +kernel
theorem dX8_init_68 : decode cX8_init 68 = .ok (.newarray .int, 2) := by decide +kernel
theorem dX8_init_70 : decode cX8_init 70 = .ok (.putfield 35, 3) := by decide +kernel
theorem dX8_init_73 : decode cX8_init 73 = .ok (.aload_n 0, 1) := by decide +kernel
theorem dX8_init_74 : decode cX8_init 74 = .ok (.bipush 10, 2) := by decide +kernel
theorem dX8_init_76 : decode cX8_init 76 = .ok (.newarray .int, 2) := by decide +kernel
theorem dX8_init_78 : decode cX8_init 78 = .ok (.putfield 38, 3) := by decide +kernel
theorem dX8_init_81 : decode cX8_init 81 = .ok (.aload_n 0, 1) := by decide +kernel
theorem dX8_init_82 : decode cX8_init 82 = .ok (.bipush 10, 2) := by decide +kernel
theorem dX8_init_84 : decode cX8_init 84 = .ok (.newarray .int, 2) := by decide +kernel
theorem dX8_init_86 : decode cX8_init 86 = .ok (.putfield 41, 3) := by decide +kernel
theorem dX8_init_89 : decode cX8_init 89 = .ok (.aload_n 0, 1) := by decide +kernel
theorem dX8_init_90 : decode cX8_init 90 = .ok (.bipush 10, 2) := by decide +kernel
theorem dX8_init_92 : decode cX8_init 92 = .ok (.newarray .int, 2) := by decide +kernel
theorem dX8_init_94 : decode cX8_init 94 = .ok (.putfield 44, 3) := by decide +kernel
theorem dX8_init_97 : decode cX8_init 97 = .ok (.aload_n 0, 1) := by decide +kernel
theorem dX8_init_98 : decode cX8_init 98 = .ok (.bipush 10, 2) := by decide +kernel
theorem dX8_init_100 : decode cX8_init 100 = .ok (.newarray .int, 2) := by decide +kernel
theorem dX8_init_102 : decode cX8_init 102 = .ok (.putfield 47, 3) := by decide +kernel
theorem dX8_init_105 : decode cX8_init 105 = .ok (.aload_n 0, 1) := by decide +kernel
theorem dX8_init_106 : decode cX8_init 106 = .ok (.bipush 6, 2) := by decide +kernel
theorem dX8_init_108 : decode cX8_init 108 = .ok (.newarray .int, 2) := by decide +kernel
theorem dX8_init_110 : decode cX8_init 110 = .ok (.putfield 50, 3) := by decide +kernel
theorem dX8_init_113 : decode cX8_init 113 = .ok (.aload_n 0, 1) := by decide +kernel
theorem dX8_init_114 : decode cX8_init 114 = .ok (.bipush 12, 2) := by decide +kernel
theorem dX8_init_116 : decode cX8_init 116 = .ok (.newarray .int, 2) := by decide +kernel
theorem dX8_init_118 : decode cX8_init 118 = .ok (.putfield 53, 3) := by decide +kernel
theorem dX8_init_121 : decode cX8_init 121 = .ok (.aload_n 0, 1) := by decide +kernel
theorem dX8_init_122 : decode cX8_init 122 = .ok (.bipush 12, 2) := by decide +kernel
theorem dX8_init_124 : decode cX8_init 124 = .ok (.newarray .int, 2) := by decide +kernel
theorem dX8_init_126 : decode cX8_init 126 = .ok (.putfield 56, 3) := by decide +kernel
theorem dX8_init_129 : decode cX8_init 129 = .ok (.aload_n 0, 1) := by decide +kernel
theorem dX8_init_130 : decode cX8_init 130 = .ok (.bipush 12, 2) := by decide +kernel
theorem dX8_init_132 : decode cX8_init 132 = .ok (.newarray .int, 2) := by decide +kernel
theorem dX8_init_134 : decode cX8_init 134 = .ok (.putfield 59, 3) := by decide +kernel
theorem dX8_init_137 : decode cX8_init 137 = .ok (.aload_n 0, 1) := by decide +kernel
theorem dX8_init_138 : decode cX8_init 138 = .ok (.bipush 12, 2) := by decide +kernel
theorem dX8_init_140 : decode cX8_init 140 = .ok (.newarray .int, 2) := by decide +kernel
theorem dX8_init_142 : decode cX8_init 142 = .ok (.putfield 62, 3) := by decide +kernel
theorem dX8_init_145 : decode cX8_init 145 = .ok (.aload_n 0, 1) := by decide +kernel
theorem dX8_init_146 : decode cX8_init 146 = .ok (.bipush 6, 2) := by decide +kernel
theorem dX8_init_148 : decode cX8_init 148 = .ok (.newarray .int, 2) := by decide +kernel
theorem dX8_init_150 : decode cX8_init 150 = .ok (.putfield 65, 3) := by decide +kernel
theorem dX8_init_153 : decode cX8_init 153 = .ok (.aload_n 0, 1) := by decide +kernel
theorem dX8_init_154 : decode cX8_init 154 = .ok (.bipush 10, 2) := by decide +kernel
theorem dX8_init_156 : decode cX8_init 156 = .ok (.newarray .int, 2) := by decide +kernel
theorem dX8_init_158 : decode cX8_init 158 = .ok (.putfield 68, 3) := by decide +kernel
theorem dX8_init_161 : decode cX8_init 161 = .ok (.aload_n 0, 1) := by decide +kernel
theorem dX8_init_162 : decode cX8_init 162 = .ok (.getfield 13, 3) := by decide +kernel
theorem dX8_init_165 : decode cX8_init 165 = .ok (.invokestatic 71, 3) := by decide +kernel
theorem dX8_init_168 : decode cX8_init 168 = .ok (.iconst 0, 1) := by decide +kernel
theorem dX8_init_169 : decode cX8_init 169 = .ok (.istore_n 1, 1) := by decide +kernel
theorem dX8_init_170 : decode cX8_init 170 = .ok (.iload_n 1, 1) := by decide +kernel
theorem dX8_init_171 : decode cX8_init 171 = .ok (.iconst 5, 1) := by decide +kernel
theorem dX8_init_172 : decode cX8_init 172 = .ok (.if_icmp .ge 16, 3) := by decide +kernel
theorem dX8_init_175 : decode cX8_init 175 = .ok (.aload_n 0, 1) := by decide +kernel
theorem dX8_init_176 : decode cX8_init 176 = .ok (.getfield 32, 3) := by decide +kernel
theorem dX8_init_179 : decode cX8_init 179 = .ok (.iload_n 1, 1) := by decide +kernel
theorem dX8_init_180 : decode cX8_init 180 = .ok (.iconst 1, 1) := by decide +kernel
theorem dX8_init_181 : decode cX8_init 181 = .ok (.iastore, 1) := by decide +kernel
theorem dX8_init_182 : decode cX8_init 182 = .ok (.iinc 1 1, 3) := by decide +kernel
theorem dX8_init_185 : decode cX8_init 185 = .ok (.goto (-15), 3) := by decide +kernel
theorem dX8_init_188 : decode cX8_init 188 = .ok (.iconst 0, 1) := by decide +kernel
theorem dX8_init_189 : decode cX8_init 189 = .ok (.istore_n 1, 1) := by decide +kernel
theorem dX8_init_190 : decode cX8_init 190 = .ok (.iload_n 1, 1) := by decide +kernel
theorem dX8_init_191 : decode cX8_init 191 = .ok (.bipush 6, 2) := by decide +kernel
theorem dX8_init_193 : decode cX8_init 193 = .ok (.if_icmp .ge 19, 3) := by decide +kernel
theorem dX8_init_196 : decode cX8_init 196 = .ok (.aload_n 0, 1) := by decide +kernel
theorem dX8_init_197 : decode cX8_init 197 = .ok (.getfield 35, 3) := by decide +kernel
theorem dX8_init_200 : decode cX8_init 200 = .ok (.bipush 8, 2) := by decide +kernel
theorem dX8_init_202 : decode cX8_init 202 = .ok (.iload_n 1, 1) := by decide +kernel
theorem dX8_init_203 : decode cX8_init 203 = .ok (.imul, 1) := by decide +kernel
theorem dX8_init_204 : decode cX8_init 204 = .ok (.iconst (-1), 1) := by decide +kernel
theorem dX8_init_205 : decode cX8_init 205 = .ok (.iastore, 1) := by decide +kernel
theorem dX8_init_206 : decode cX8_init 206 = .ok (.iinc 1 1, 3) := by decide +kernel
theorem dX8_init_209 : decode cX8_init 209 = .ok (.goto (-19), 3) := by decide +kernel
theorem dX8_init_212 : decode cX8_init 212 = .ok (.return_, 1) := by decide +kernel
theorem dX8_lies_0 : decode cX8_lies 0 = .ok (.iload_n 0, 1) := by decide +kernel
theorem dX8_lies_1 : decode cX8_lies 1 = .ok (.iload_n 1, 1) := by decide +kernel
theorem dX8_lies_2 : decode cX8_lies 2 = .ok (.if_icmp .lt 12, 3) := by decide +kernel
theorem dX8_lies_5 : decode cX8_lies 5 = .ok (.iload_n 0, 1) := by decide +kernel
theorem dX8_lies_6 : decode cX8_lies 6 = .ok (.iload_n 2, 1) := by decide +kernel
theorem dX8_lies_7 : decode cX8_lies 7 = .ok (.if_icmp .gt 7, 3) := by decide +kernel
theorem dX8_lies_10 : decode cX8_lies 10 = .ok (.iconst 1, 1) := by decide +kernel
theorem dX8_lies_11 : decode cX8_lies 11 = .ok (.goto 4, 3) := by decide +kernel
theorem dX8_lies_14 : decode cX8_lies 14 = .ok (.iconst 0, 1) := by decide +kernel
theorem dX8_lies_15 : decode cX8_lies 15 = .ok (.ireturn, 1) := by decide +kernel
theorem dX8_has_0 : decode cX8_has 0 = .ok (.iload_n 0, 1) := by decide +kernel
theorem dX8_has_1 : decode cX8_has 1 = .ok (.iload_n 1, 1) := by decide +kernel
theorem dX8_has_2 : decode cX8_has 2 = .ok (.ishr, 1) := by decide +kernel
theorem dX8_has_3 : decode cX8_has 3 = .ok (.iconst 1, 1) := by decide +kernel
theorem dX8_has_4 : decode cX8_has 4 = .ok (.iand, 1) := by decide +kernel
theorem dX8_has_5 : decode cX8_has 5 = .ok (.iconst 1, 1) := by decide +kernel
theorem dX8_has_6 : decode cX8_has 6 = .ok (.if_icmp .ne 7, 3) := by decide +kernel
theorem dX8_has_9 : decode cX8_has 9 = .ok (.iconst 1, 1) := by decide +kernel
theorem dX8_has_10 : decode cX8_has 10 = .ok (.goto 4, 3) := by decide +kernel
theorem dX8_has_13 : decode cX8_has 13 = .ok (.iconst 0, 1) := by decide +kernel
theorem dX8_has_14 : decode cX8_has 14 = .ok (.ireturn, 1) := by decide +kernel
theorem dX8_push_0 : decode cX8_push 0 = .ok (.bipush 24, 2) := by decide +kernel
theorem dX8_push_2 : decode cX8_push 2 = .ok (.istore_n 2, 1) := by decide +kernel
theorem dX8_push_3 : decode cX8_push 3 = .ok (.iload_n 2, 1) := by decide +kernel
theorem dX8_push_4 : decode cX8_push 4 = .ok (.ifCond .lt 32, 3) := by decide +kernel
theorem dX8_push_7 : decode cX8_push 7 = .ok (.aload_n 0, 1) := by decide +kernel
theorem dX8_push_8 : decode cX8_push 8 = .ok (.getfield 7, 3) := by decide +kernel
theorem dX8_push_11 : decode cX8_push 11 = .ok (.aload_n 0, 1) := by decide +kernel
theorem dX8_push_12 : decode cX8_push 12 = .ok (.getfield 75, 3) := by decide +kernel
theorem dX8_push_15 : decode cX8_push 15 = .ok (.iload_n 1, 1) := by decide +kernel
theorem dX8_push_16 : decode cX8_push 16 = .ok (.iload_n 2, 1) := by decide +kernel
theorem dX8_push_17 : decode cX8_push 17 = .ok (.ishr, 1) := by decide +kernel
theorem dX8_push_18 : decode cX8_push 18 = .ok (.i2b, 1) := by decide +kernel
theorem dX8_push_19 : decode cX8_push 19 = .ok (.bastore, 1) := by decide +kernel
theorem dX8_push_20 : decode cX8_push 20 = .ok (.aload_n 0, 1) := by decide +kernel
theorem dX8_push_21 : decode cX8_push 21 = .ok (.dup, 1) := by decide +kernel
theorem dX8_push_22 : decode cX8_push 22 = .ok (.getfield 75, 3) := by decide +kernel
theorem dX8_push_25 : decode cX8_push 25 = .ok (.iconst 1, 1) := by decide +kernel
theorem dX8_push_26 : decode cX8_push 26 = .ok (.iadd, 1) := by decide +kernel
theorem dX8_push_27 : decode cX8_push 27 = .ok (.putfield 75, 3) := by decide +kernel
theorem dX8_push_30 : decode cX8_push 30 = .ok (.iinc 2 (-8), 3) := by decide +kernel
theorem dX8_push_33 : decode cX8_push 33 = .ok (.goto (-30), 3) := by decide +kernel
theorem dX8_push_36 : decode cX8_push 36 = .ok (.return_, 1) := by decide +kernel
theorem dX8_feed_0 : decode cX8_feed 0 = .ok (.aload_n 0, 1) := by decide +kernel
theorem dX8_feed_1 : decode cX8_feed 1 = .ok (.getfield 75, 3) := by decide +kernel
theorem dX8_feed_4 : decode cX8_feed 4 = .ok (.bipush 20, 2) := by decide +kernel
theorem dX8_feed_6 : decode cX8_feed 6 = .ok (.iadd, 1) := by decide +kernel
theorem dX8_feed_7 : decode cX8_feed 7 = .ok (.bipush 40, 2) := by decide +kernel
theorem dX8_feed_9 : decode cX8_feed 9 = .ok (.if_icmp .le 5, 3) := by decide +kernel
theorem dX8_feed_12 : decode cX8_feed 12 = .ok (.iconst (-1), 1) := by decide +kernel
theorem dX8_feed_13 : decode cX8_feed 13 = .ok (.ireturn, 1) := by decide +kernel
theorem dX8_feed_14 : decode cX8_feed 14 = .ok (.aload_n 0, 1) := by decide +kernel
theorem dX8_feed_15 : decode cX8_feed 15 = .ok (.iload_n 1, 1) := by decide +kernel
theorem dX8_feed_16 : decode cX8_feed 16 = .ok (.invokevirtual 79, 3) := by decide +kernel
theorem dX8_feed_19 : decode cX8_feed 19 = .ok (.aload_n 0, 1) := by decide +kernel
theorem dX8_feed_20 : decode cX8_feed 20 = .ok (.iload_n 2, 1) := by decide +kernel
theorem dX8_feed_21 : decode cX8_feed 21 = .ok (.invokevirtual 79, 3) := by decide +kernel
theorem dX8_feed_24 : decode cX8_feed 24 = .ok (.aload_n 0, 1) := by decide +kernel
theorem dX8_feed_25 : decode cX8_feed 25 = .ok (.iload_n 3, 1) := by decide +kernel
theorem dX8_feed_26 : decode cX8_feed 26 = .ok (.invokevirtual 79, 3) := by decide +kernel
theorem dX8_feed_29 : decode cX8_feed 29 = .ok (.aload_n 0, 1) := by decide +kernel
theorem dX8_feed_30 : decode cX8_feed 30 = .ok (.iload 4, 2) := by decide +kernel
theorem dX8_feed_32 : decode cX8_feed 32 = .ok (.invokevirtual 79, 3) := by decide +kernel
theorem dX8_feed_35 : decode cX8_feed 35 = .ok (.aload_n 0, 1) := by decide +kernel
theorem dX8_feed_36 : decode cX8_feed 36 = .ok (.iload 5, 2) := by decide +kernel
theorem dX8_feed_38 : decode cX8_feed 38 = .ok (.invokevirtual 79, 3) := by decide +kernel
theorem dX8_feed_41 : decode cX8_feed 41 = .ok (.aload_n 0, 1) := by decide +kernel
theorem dX8_feed_42 : decode cX8_feed 42 = .ok (.getfield 75, 3) := by decide +kernel
theorem dX8_feed_45 : decode cX8_feed 45 = .ok (.ireturn, 1) := by decide +kernel
theorem dX8_asAtFirst_0 : decode cX8_asAtFirst 0 = .ok (.aload_n 0, 1) := by decide +kernel
theorem dX8_asAtFirst_1 : decode cX8_asAtFirst 1 = .ok (.iconst 0, 1) := by decide +kernel
theorem dX8_asAtFirst_2 : decode cX8_asAtFirst 2 = .ok (.iconst 1, 1) := by decide +kernel
theorem dX8_asAtFirst_3 : decode cX8_asAtFirst 3 = .ok (.iastore, 1) := by decide +kernel
theorem dX8_asAtFirst_4 : decode cX8_asAtFirst 4 = .ok (.aload_n 0, 1) := by decide +kernel
theorem dX8_asAtFirst_5 : decode cX8_asAtFirst 5 = .ok (.iconst 1, 1) := by decide +kernel
theorem dX8_asAtFirst_6 : decode cX8_asAtFirst 6 = .ok (.bipush 10, 2) := by decide +kernel
theorem dX8_asAtFirst_8 : decode cX8_asAtFirst 8 = .ok (.iastore, 1) := by decide +kernel
theorem dX8_asAtFirst_9 : decode cX8_asAtFirst 9 = .ok (.aload_n 0, 1) := by decide +kernel
theorem dX8_asAtFirst_10 : decode cX8_asAtFirst 10 = .ok (.iconst 2, 1) := by decide +kernel
theorem dX8_asAtFirst_11 : decode cX8_asAtFirst 11 = .ok (.bipush 100, 2) := by decide +kernel
theorem dX8_asAtFirst_13 : decode cX8_asAtFirst 13 = .ok (.iastore, 1) := by decide +kernel
theorem dX8_asAtFirst_14 : decode cX8_asAtFirst 14 = .ok (.aload_n 0, 1) := by decide +kernel
theorem dX8_asAtFirst_15 : decode cX8_asAtFirst 15 = .ok (.iconst 3, 1) := by decide +kernel
theorem dX8_asAtFirst_16 : decode cX8_asAtFirst 16 = .ok (.bipush 50, 2) := by decide +kernel
theorem dX8_asAtFirst_18 : decode cX8_asAtFirst 18 = .ok (.iastore, 1) := by decide +kernel
theorem dX8_asAtFirst_19 : decode cX8_asAtFirst 19 = .ok (.return_, 1) := by decide +kernel
theorem dX8_letter_0 : decode cX8_letter 0 = .ok (.iload_n 0, 1) := by decide +kernel
theorem dX8_letter_1 : decode cX8_letter 1 = .ok (.bipush 119, 2) := by decide +kernel
theorem dX8_letter_3 : decode cX8_letter 3 = .ok (.if_icmp .ne 7, 3) := by decide +kernel
theorem dX8_letter_6 : decode cX8_letter 6 = .ok (.iconst 0, 1) := by decide +kernel
theorem dX8_letter_7 : decode cX8_letter 7 = .ok (.goto 34, 3) := by decide +kernel
theorem dX8_letter_10 : decode cX8_letter 10 = .ok (.iload_n 0, 1) := by decide +kernel
theorem dX8_letter_11 : decode cX8_letter 11 = .ok (.bipush 102, 2) := by decide +kernel
theorem dX8_letter_13 : decode cX8_letter 13 = .ok (.if_icmp .ne 7, 3) := by decide +kernel
theorem dX8_letter_16 : decode cX8_letter 16 = .ok (.iconst 1, 1) := by decide +kernel
theorem dX8_letter_17 : decode cX8_letter 17 = .ok (.goto 24, 3) := by decide +kernel
theorem dX8_letter_20 : decode cX8_letter 20 = .ok (.iload_n 0, 1) := by decide +kernel
theorem dX8_letter_21 : decode cX8_letter 21 = .ok (.bipush 112, 2) := by decide +kernel
theorem dX8_letter_23 : decode cX8_letter 23 = .ok (.if_icmp .ne 7, 3) := by decide +kernel
theorem dX8_letter_26 : decode cX8_letter 26 = .ok (.iconst 2, 1) := by decide +kernel
theorem dX8_letter_27 : decode cX8_letter 27 = .ok (.goto 14, 3) := by decide +kernel
theorem dX8_letter_30 : decode cX8_letter 30 = .ok (.iload_n 0, 1) := by decide +kernel
theorem dX8_letter_31 : decode cX8_letter 31 = .ok (.bipush 103, 2) := by decide +kernel
theorem dX8_letter_33 : decode cX8_letter 33 = .ok (.if_icmp .ne 7, 3) := by decide +kernel
theorem dX8_letter_36 : decode cX8_letter 36 = .ok (.iconst 3, 1) := by decide +kernel
theorem dX8_letter_37 : decode cX8_letter 37 = .ok (.goto 4, 3) := by decide +kernel
theorem dX8_letter_40 : decode cX8_letter 40 = .ok (.iconst (-1), 1) := by decide +kernel
theorem dX8_letter_41 : decode cX8_letter 41 = .ok (.ireturn, 1) := by decide +kernel
theorem dX8_canBe_0 : decode cX8_canBe 0 = .ok (.iload_n 0, 1) := by decide +kernel
theorem dX8_canBe_1 : decode cX8_canBe 1 = .ok (.ifCond .ne 17, 3) := by decide +kernel
theorem dX8_canBe_4 : decode cX8_canBe 4 = .ok (.iload_n 1, 1) := by decide +kernel
theorem dX8_canBe_5 : decode cX8_canBe 5 = .ok (.bipush 20, 2) := by decide +kernel
theorem dX8_canBe_7 : decode cX8_canBe 7 = .ok (.if_icmp .gt 7, 3) := by decide +kernel
theorem dX8_canBe_10 : decode cX8_canBe 10 = .ok (.iconst 1, 1) := by decide +kernel
theorem dX8_canBe_11 : decode cX8_canBe 11 = .ok (.goto 23, 3) := by decide +kernel
theorem dX8_canBe_14 : decode cX8_canBe 14 = .ok (.iconst 0, 1) := by decide +kernel
theorem dX8_canBe_15 : decode cX8_canBe 15 = .ok (.goto 19, 3) := by decide +kernel
theorem dX8_canBe_18 : decode cX8_canBe 18 = .ok (.iload_n 0, 1) := by decide +kernel
theorem dX8_canBe_19 : decode cX8_canBe 19 = .ok (.iconst 1, 1) := by decide +kernel
theorem dX8_canBe_20 : decode cX8_canBe 20 = .ok (.if_icmp .ne 9, 3) := by decide +kernel
theorem dX8_canBe_23 : decode cX8_canBe 23 = .ok (.iload_n 1, 1) := by decide +kernel
theorem dX8_canBe_24 : decode cX8_canBe 24 = .ok (.bipush 100, 2) := by decide +kernel
theorem dX8_canBe_26 : decode cX8_canBe 26 = .ok (.if_icmp .gt 7, 3) := by decide +kernel
theorem dX8_canBe_29 : decode cX8_canBe 29 = .ok (.iconst 1, 1) := by decide +kernel
theorem dX8_canBe_30 : decode cX8_canBe 30 = .ok (.goto 4, 3) := by decide +kernel
theorem dX8_canBe_33 : decode cX8_canBe 33 = .ok (.iconst 0, 1) := by decide +kernel
theorem dX8_canBe_34 : decode cX8_canBe 34 = .ok (.ireturn, 1) := by decide +kernel
theorem dX8_at_0 : decode cX8_at 0 = .ok (.iload_n 1, 1) := by decide +kernel
theorem dX8_at_1 : decode cX8_at 1 = .ok (.iload_n 2, 1) := by decide +kernel
theorem dX8_at_2 : decode cX8_at 2 = .ok (.if_icmp .ge 16, 3) := by decide +kernel
theorem dX8_at_5 : decode cX8_at 5 = .ok (.aload_n 0, 1) := by decide +kernel
theorem dX8_at_6 : decode cX8_at 6 = .ok (.getfield 7, 3) := by decide +kernel
theorem dX8_at_9 : decode cX8_at 9 = .ok (.iload_n 1, 1) := by decide +kernel
theorem dX8_at_10 : decode cX8_at 10 = .ok (.baload, 1) := by decide +kernel
theorem dX8_at_11 : decode cX8_at 11 = .ok (.sipush 255, 3) := by decide +kernel
theorem dX8_at_14 : decode cX8_at 14 = .ok (.iand, 1) := by decide +kernel
theorem dX8_at_15 : decode cX8_at 15 = .ok (.goto 4, 3) := by decide +kernel
theorem dX8_at_18 : decode cX8_at 18 = .ok (.iconst 0, 1) := by decide +kernel
theorem dX8_at_19 : decode cX8_at 19 = .ok (.ireturn, 1) := by decide +kernel
theorem dX8_reads_0 : decode cX8_reads 0 = .ok (.aload_n 0, 1) := by decide +kernel
theorem dX8_reads_1 : decode cX8_reads 1 = .ok (.getfield 17, 3) := by decide +kernel
theorem dX8_reads_4 : decode cX8_reads 4 = .ok (.invokestatic 71, 3) := by decide +kernel
theorem dX8_reads_7 : decode cX8_reads 7 = .ok (.iconst 0, 1) := by decide +kernel
theorem dX8_reads_8 : decode cX8_reads 8 = .ok (.istore_n 2, 1) := by decide +kernel
theorem dX8_reads_9 : decode cX8_reads 9 = .ok (.iconst 0, 1) := by decide +kernel
theorem dX8_reads_10 : decode cX8_reads 10 = .ok (.istore_n 3, 1) := by decide +kernel
theorem dX8_reads_11 : decode cX8_reads 11 = .ok (.iload_n 3, 1) := by decide +kernel
theorem dX8_reads_12 : decode cX8_reads 12 = .ok (.iload_n 1, 1) := by decide +kernel
theorem dX8_reads_13 : decode cX8_reads 13 = .ok (.if_icmp .gt 168, 3) := by decide +kernel
theorem dX8_reads_16 : decode cX8_reads 16 = .ok (.aload_n 0, 1) := by decide +kernel
theorem dX8_reads_17 : decode cX8_reads 17 = .ok (.iload_n 2, 1) := by decide +kernel
theorem dX8_reads_18 : decode cX8_reads 18 = .ok (.iload_n 1, 1) := by decide +kernel
theorem dX8_reads_19 : decode cX8_reads 19 = .ok (.invokevirtual 83, 3) := by decide +kernel
theorem dX8_reads_22 : decode cX8_reads 22 = .ok (.invokestatic 87, 3) := by decide +kernel
theorem dX8_reads_25 : decode cX8_reads 25 = .ok (.istore 4, 2) := by decide +kernel
theorem dX8_reads_27 : decode cX8_reads 27 = .ok (.iload 4, 2) := by decide +kernel
theorem dX8_reads_29 : decode cX8_reads 29 = .ok (.iconst (-1), 1) := by decide +kernel
theorem dX8_reads_30 : decode cX8_reads 30 = .ok (.if_icmp .ne 8, 3) := by decide +kernel
theorem dX8_reads_33 : decode cX8_reads 33 = .ok (.bipush 100, 2) := by decide +kernel
theorem dX8_reads_35 : decode cX8_reads 35 = .ok (.iload_n 2, 1) := by decide +kernel
theorem dX8_reads_36 : decode cX8_reads 36 = .ok (.iadd, 1) := by decide +kernel
theorem dX8_reads_37 : decode cX8_reads 37 = .ok (.ireturn, 1) := by decide +kernel
theorem dX8_reads_38 : decode cX8_reads 38 = .ok (.iinc 2 1, 3) := by decide +kernel
theorem dX8_reads_41 : decode cX8_reads 41 = .ok (.aload_n 0, 1) := by decide +kernel
theorem dX8_reads_42 : decode cX8_reads 42 = .ok (.iload_n 2, 1) := by decide +kernel
theorem dX8_reads_43 : decode cX8_reads 43 = .ok (.iload_n 1, 1) := by decide +kernel
theorem dX8_reads_44 : decode cX8_reads 44 = .ok (.invokevirtual 83, 3) := by decide +kernel
theorem dX8_reads_47 : decode cX8_reads 47 = .ok (.bipush 48, 2) := by decide +kernel
theorem dX8_reads_49 : decode cX8_reads 49 = .ok (.bipush 57, 2) := by decide +kernel
theorem dX8_reads_51 : decode cX8_reads 51 = .ok (.invokestatic 91, 3) := by decide +kernel
theorem dX8_reads_54 : decode cX8_reads 54 = .ok (.ifCond .ne 9, 3) := by decide +kernel
theorem dX8_reads_57 : decode cX8_reads 57 = .ok (.sipush 200, 3) := by decide +kernel
theorem dX8_reads_60 : decode cX8_reads 60 = .ok (.iload_n 2, 1) := by decide +kernel
theorem dX8_reads_61 : decode cX8_reads 61 = .ok (.iadd, 1) := by decide +kernel
theorem dX8_reads_62 : decode cX8_reads 62 = .ok (.ireturn, 1) := by decide +kernel
theorem dX8_reads_63 : decode cX8_reads 63 = .ok (.iload_n 2, 1) := by decide +kernel
theorem dX8_reads_64 : decode cX8_reads 64 = .ok (.istore 5, 2) := by decide +kernel
theorem dX8_reads_66 : decode cX8_reads 66 = .ok (.iconst 0, 1) := by decide +kernel
theorem dX8_reads_67 : decode cX8_reads 67 = .ok (.istore 6, 2) := by decide +kernel
theorem dX8_reads_69 : decode cX8_reads 69 = .ok (.aload_n 0, 1) := by decide +kernel
theorem dX8_reads_70 : decode cX8_reads 70 = .ok (.iload_n 2, 1) := by decide +kernel
theorem dX8_reads_71 : decode cX8_reads 71 = .ok (.iload_n 1, 1) := by decide +kernel
theorem dX8_reads_72 : decode cX8_reads 72 = .ok (.invokevirtual 83, 3) := by decide +kernel
theorem dX8_reads_75 : decode cX8_reads 75 = .ok (.bipush 48, 2) := by decide +kernel
theorem dX8_reads_77 : decode cX8_reads 77 = .ok (.bipush 57, 2) := by decide +kernel
theorem dX8_reads_79 : decode cX8_reads 79 = .ok (.invokestatic 91, 3) := by decide +kernel
theorem dX8_reads_82 : decode cX8_reads 82 = .ok (.ifCond .eq 40, 3) := by decide +kernel
theorem dX8_reads_85 : decode cX8_reads 85 = .ok (.iload_n 2, 1) := by decide +kernel
theorem dX8_reads_86 : decode cX8_reads 86 = .ok (.iload 5, 2) := by decide +kernel
theorem dX8_reads_88 : decode cX8_reads 88 = .ok (.iconst 4, 1) := by decide +kernel
theorem dX8_reads_89 : decode cX8_reads 89 = .ok (.iadd, 1) := by decide +kernel
theorem dX8_reads_90 : decode cX8_reads 90 = .ok (.if_icmp .ne 9, 3) := by decide +kernel
theorem dX8_reads_93 : decode cX8_reads 93 = .ok (.sipush 300, 3) := by decide +kernel
theorem dX8_reads_96 : decode cX8_reads 96 = .ok (.iload_n 2, 1) := by decide +kernel
theorem dX8_reads_97 : decode cX8_reads 97 = .ok (.iadd, 1) := by decide +kernel
theorem dX8_reads_98 : decode cX8_reads 98 = .ok (.ireturn, 1) := by decide +kernel
theorem dX8_reads_99 : decode cX8_reads 99 = .ok (.bipush 10, 2) := by decide +kernel
theorem dX8_reads_101 : decode cX8_reads 101 = .ok (.iload 6, 2) := by decide +kernel
theorem dX8_reads_103 : decode cX8_reads 103 = .ok (.imul, 1) := by decide +kernel
theorem dX8_reads_104 : decode cX8_reads 104 = .ok (.aload_n 0, 1) := by decide +kernel
theorem dX8_reads_105 : decode cX8_reads 105 = .ok (.iload_n 2, 1) := by decide +kernel
theorem dX8_reads_106 : decode cX8_reads 106 = .ok (.iload_n 1, 1) := by decide +kernel
theorem dX8_reads_107 : decode cX8_reads 107 = .ok (.invokevirtual 83, 3) := by decide +kernel
theorem dX8_reads_110 : decode cX8_reads 110 = .ok (.iadd, 1) := by decide +kernel
theorem dX8_reads_111 : decode cX8_reads 111 = .ok (.bipush 48, 2) := by decide +kernel
theorem dX8_reads_113 : decode cX8_reads 113 = .ok (.isub, 1) := by decide +kernel
theorem dX8_reads_114 : decode cX8_reads 114 = .ok (.istore 6, 2) := by decide +kernel
theorem dX8_reads_116 : decode cX8_reads 116 = .ok (.iinc 2 1, 3) := by decide +kernel
theorem dX8_reads_119 : decode cX8_reads 119 = .ok (.goto (-50), 3) := by decide +kernel
theorem dX8_reads_122 : decode cX8_reads 122 = .ok (.iload 4, 2) := by decide +kernel
theorem dX8_reads_124 : decode cX8_reads 124 = .ok (.iload 6, 2) := by decide +kernel
theorem dX8_reads_126 : decode cX8_reads 126 = .ok (.invokestatic 95, 3) := by decide +kernel
theorem dX8_reads_129 : decode cX8_reads 129 = .ok (.ifCond .ne 10, 3) := by decide +kernel
theorem dX8_reads_132 : decode cX8_reads 132 = .ok (.sipush 400, 3) := by decide +kernel
theorem dX8_reads_135 : decode cX8_reads 135 = .ok (.iload 5, 2) := by decide +kernel
theorem dX8_reads_137 : decode cX8_reads 137 = .ok (.iadd, 1) := by decide +kernel
theorem dX8_reads_138 : decode cX8_reads 138 = .ok (.ireturn, 1) := by decide +kernel
theorem dX8_reads_139 : decode cX8_reads 139 = .ok (.aload_n 0, 1) := by decide +kernel
theorem dX8_reads_140 : decode cX8_reads 140 = .ok (.getfield 17, 3) := by decide +kernel
theorem dX8_reads_143 : decode cX8_reads 143 = .ok (.iload 4, 2) := by decide +kernel
theorem dX8_reads_145 : decode cX8_reads 145 = .ok (.iload 6, 2) := by decide +kernel
theorem dX8_reads_147 : decode cX8_reads 147 = .ok (.iastore, 1) := by decide +kernel
theorem dX8_reads_148 : decode cX8_reads 148 = .ok (.iload_n 2, 1) := by decide +kernel
theorem dX8_reads_149 : decode cX8_reads 149 = .ok (.iload_n 1, 1) := by decide +kernel
theorem dX8_reads_150 : decode cX8_reads 150 = .ok (.if_icmp .ne 5, 3) := by decide +kernel
theorem dX8_reads_153 : decode cX8_reads 153 = .ok (.iconst 0, 1) := by decide +kernel
theorem dX8_reads_154 : decode cX8_reads 154 = .ok (.ireturn, 1) := by decide +kernel
theorem dX8_reads_155 : decode cX8_reads 155 = .ok (.aload_n 0, 1) := by decide +kernel
theorem dX8_reads_156 : decode cX8_reads 156 = .ok (.iload_n 2, 1) := by decide +kernel
theorem dX8_reads_157 : decode cX8_reads 157 = .ok (.iload_n 1, 1) := by decide +kernel
theorem dX8_reads_158 : decode cX8_reads 158 = .ok (.invokevirtual 83, 3) := by decide +kernel
theorem dX8_reads_161 : decode cX8_reads 161 = .ok (.bipush 59, 2) := by decide +kernel
theorem dX8_reads_163 : decode cX8_reads 163 = .ok (.if_icmp .eq 9, 3) := by decide +kernel
theorem dX8_reads_166 : decode cX8_reads 166 = .ok (.sipush 500, 3) := by decide +kernel
theorem dX8_reads_169 : decode cX8_reads 169 = .ok (.iload_n 2, 1) := by decide +kernel
theorem dX8_reads_170 : decode cX8_reads 170 = .ok (.iadd, 1) := by decide +kernel
theorem dX8_reads_171 : decode cX8_reads 171 = .ok (.ireturn, 1) := by decide +kernel
theorem dX8_reads_172 : decode cX8_reads 172 = .ok (.iinc 2 1, 3) := by decide +kernel
theorem dX8_reads_175 : decode cX8_reads 175 = .ok (.iinc 3 1, 3) := by decide +kernel
theorem dX8_reads_178 : decode cX8_reads 178 = .ok (.goto (-167), 3) := by decide +kernel
theorem dX8_reads_181 : decode cX8_reads 181 = .ok (.bipush 100, 2) := by decide +kernel
theorem dX8_reads_183 : decode cX8_reads 183 = .ok (.iload_n 2, 1) := by decide +kernel
theorem dX8_reads_184 : decode cX8_reads 184 = .ok (.iadd, 1) := by decide +kernel
theorem dX8_reads_185 : decode cX8_reads 185 = .ok (.ireturn, 1) := by decide +kernel
theorem dX8_word_0 : decode cX8_word 0 = .ok (.iload_n 1, 1) := by decide +kernel
theorem dX8_word_1 : decode cX8_word 1 = .ok (.ifCond .lt 11, 3) := by decide +kernel
theorem dX8_word_4 : decode cX8_word 4 = .ok (.iload_n 1, 1) := by decide +kernel
theorem dX8_word_5 : decode cX8_word 5 = .ok (.aload_n 0, 1) := by decide +kernel
theorem dX8_word_6 : decode cX8_word 6 = .ok (.getfield 75, 3) := by decide +kernel
theorem dX8_word_9 : decode cX8_word 9 = .ok (.if_icmp .le 5, 3) := by decide +kernel
theorem dX8_word_12 : decode cX8_word 12 = .ok (.iconst (-1), 1) := by decide +kernel
theorem dX8_word_13 : decode cX8_word 13 = .ok (.ireturn, 1) := by decide +kernel
theorem dX8_word_14 : decode cX8_word 14 = .ok (.aload_n 0, 1) := by decide +kernel
theorem dX8_word_15 : decode cX8_word 15 = .ok (.iconst 0, 1) := by decide +kernel
theorem dX8_word_16 : decode cX8_word 16 = .ok (.putfield 75, 3) := by decide +kernel
theorem dX8_word_19 : decode cX8_word 19 = .ok (.aload_n 0, 1) := by decide +kernel
theorem dX8_word_20 : decode cX8_word 20 = .ok (.iload_n 1, 1) := by decide +kernel
theorem dX8_word_21 : decode cX8_word 21 = .ok (.invokevirtual 99, 3) := by decide +kernel
theorem dX8_word_24 : decode cX8_word 24 = .ok (.istore_n 2, 1) := by decide +kernel
theorem dX8_word_25 : decode cX8_word 25 = .ok (.iconst 0, 1) := by decide +kernel
theorem dX8_word_26 : decode cX8_word 26 = .ok (.istore_n 3, 1) := by decide +kernel
theorem dX8_word_27 : decode cX8_word 27 = .ok (.iload_n 3, 1) := by decide +kernel
theorem dX8_word_28 : decode cX8_word 28 = .ok (.iconst 4, 1) := by decide +kernel
theorem dX8_word_29 : decode cX8_word 29 = .ok (.if_icmp .ge 25, 3) := by decide +kernel
theorem dX8_word_32 : decode cX8_word 32 = .ok (.iload_n 2, 1) := by decide +kernel
theorem dX8_word_33 : decode cX8_word 33 = .ok (.ifCond .ne 21, 3) := by decide +kernel
theorem dX8_word_36 : decode cX8_word 36 = .ok (.aload_n 0, 1) := by decide +kernel
theorem dX8_word_37 : decode cX8_word 37 = .ok (.getfield 13, 3) := by decide +kernel
theorem dX8_word_40 : decode cX8_word 40 = .ok (.iload_n 3, 1) := by decide +kernel
theorem dX8_word_41 : decode cX8_word 41 = .ok (.aload_n 0, 1) := by decide +kernel
theorem dX8_word_42 : decode cX8_word 42 = .ok (.getfield 17, 3) := by decide +kernel
theorem dX8_word_45 : decode cX8_word 45 = .ok (.iload_n 3, 1) := by decide +kernel
theorem dX8_word_46 : decode cX8_word 46 = .ok (.iaload, 1) := by decide +kernel
theorem dX8_word_47 : decode cX8_word 47 = .ok (.iastore, 1) := by decide +kernel
theorem dX8_word_48 : decode cX8_word 48 = .ok (.iinc 3 1, 3) := by decide +kernel
theorem dX8_word_51 : decode cX8_word 51 = .ok (.goto (-24), 3) := by decide +kernel
theorem dX8_word_54 : decode cX8_word 54 = .ok (.iload_n 2, 1) := by decide +kernel
theorem dX8_word_55 : decode cX8_word 55 = .ok (.ireturn, 1) := by decide +kernel
theorem dX8_isPiper_0 : decode cX8_isPiper 0 = .ok (.iload_n 1, 1) := by decide +kernel
theorem dX8_isPiper_1 : decode cX8_isPiper 1 = .ok (.iconst 0, 1) := by decide +kernel
theorem dX8_isPiper_2 : decode cX8_isPiper 2 = .ok (.aload_n 0, 1) := by decide +kernel
theorem dX8_isPiper_3 : decode cX8_isPiper 3 = .ok (.getfield 102, 3) := by decide +kernel
theorem dX8_isPiper_6 : decode cX8_isPiper 6 = .ok (.iconst 1, 1) := by decide +kernel
theorem dX8_isPiper_7 : decode cX8_isPiper 7 = .ok (.isub, 1) := by decide +kernel
theorem dX8_isPiper_8 : decode cX8_isPiper 8 = .ok (.invokestatic 91, 3) := by decide +kernel
theorem dX8_isPiper_11 : decode cX8_isPiper 11 = .ok (.ireturn, 1) := by decide +kernel
theorem dX8_piper_0 : decode cX8_piper 0 = .ok (.aload_n 0, 1) := by decide +kernel
theorem dX8_piper_1 : decode cX8_piper 1 = .ok (.getfield 102, 3) := by decide +kernel
theorem dX8_piper_4 : decode cX8_piper 4 = .ok (.bipush 6, 2) := by decide +kernel
theorem dX8_piper_6 : decode cX8_piper 6 = .ok (.if_icmp .eq 23, 3) := by decide +kernel
theorem dX8_piper_9 : decode cX8_piper 9 = .ok (.iload_n 1, 1) := by decide +kernel
theorem dX8_piper_10 : decode cX8_piper 10 = .ok (.iconst 1, 1) := by decide +kernel
theorem dX8_piper_11 : decode cX8_piper 11 = .ok (.bipush 9, 2) := by decide +kernel
theorem dX8_piper_13 : decode cX8_piper 13 = .ok (.invokestatic 91, 3) := by decide +kernel
theorem dX8_piper_16 : decode cX8_piper 16 = .ok (.ifCond .eq 13, 3) := by decide +kernel
theorem dX8_piper_19 : decode cX8_piper 19 = .ok (.iload_n 2, 1) := by decide +kernel
theorem dX8_piper_20 : decode cX8_piper 20 = .ok (.iconst 1, 1) := by decide +kernel
theorem dX8_piper_21 : decode cX8_piper 21 = .ok (.bipush 31, 2) := by decide +kernel
theorem dX8_piper_23 : decode cX8_piper 23 = .ok (.invokestatic 91, 3) := by decide +kernel
theorem dX8_piper_26 : decode cX8_piper 26 = .ok (.ifCond .ne 5, 3) := by decide +kernel
theorem dX8_piper_29 : decode cX8_piper 29 = .ok (.iconst (-1), 1) := by decide +kernel
theorem dX8_piper_30 : decode cX8_piper 30 = .ok (.ireturn, 1) := by decide +kernel
theorem dX8_piper_31 : decode cX8_piper 31 = .ok (.aload_n 0, 1) := by decide +kernel
theorem dX8_piper_32 : decode cX8_piper 32 = .ok (.getfield 20, 3) := by decide +kernel
theorem dX8_piper_35 : decode cX8_piper 35 = .ok (.aload_n 0, 1) := by decide +kernel
theorem dX8_piper_36 : decode cX8_piper 36 = .ok (.getfield 102, 3) := by decide +kernel
theorem dX8_piper_39 : decode cX8_piper 39 = .ok (.iload_n 1, 1) := by decide +kernel
theorem dX8_piper_40 : decode cX8_piper 40 = .ok (.iastore, 1) := by decide +kernel
theorem dX8_piper_41 : decode cX8_piper 41 = .ok (.aload_n 0, 1) := by decide +kernel
theorem dX8_piper_42 : decode cX8_piper 42 = .ok (.getfield 23, 3) := by decide +kernel
theorem dX8_piper_45 : decode cX8_piper 45 = .ok (.aload_n 0, 1) := by decide +kernel
theorem dX8_piper_46 : decode cX8_piper 46 = .ok (.getfield 102, 3) := by decide +kernel
theorem dX8_piper_49 : decode cX8_piper 49 = .ok (.iload_n 2, 1) := by decide +kernel
theorem dX8_piper_50 : decode cX8_piper 50 = .ok (.iastore, 1) := by decide +kernel
theorem dX8_piper_51 : decode cX8_piper 51 = .ok (.aload_n 0, 1) := by decide +kernel
theorem dX8_piper_52 : decode cX8_piper 52 = .ok (.dup, 1) := by decide +kernel
theorem dX8_piper_53 : decode cX8_piper 53 = .ok (.getfield 102, 3) := by decide +kernel
theorem dX8_piper_56 : decode cX8_piper 56 = .ok (.iconst 1, 1) := by decide +kernel
theorem dX8_piper_57 : decode cX8_piper 57 = .ok (.iadd, 1) := by decide +kernel
theorem dX8_piper_58 : decode cX8_piper 58 = .ok (.putfield 102, 3) := by decide +kernel
theorem dX8_piper_61 : decode cX8_piper 61 = .ok (.aload_n 0, 1) := by decide +kernel
theorem dX8_piper_62 : decode cX8_piper 62 = .ok (.getfield 102, 3) := by decide +kernel
theorem dX8_piper_65 : decode cX8_piper 65 = .ok (.iconst 1, 1) := by decide +kernel
theorem dX8_piper_66 : decode cX8_piper 66 = .ok (.isub, 1) := by decide +kernel
theorem dX8_piper_67 : decode cX8_piper 67 = .ok (.ireturn, 1) := by decide +kernel
theorem dX8_ill_0 : decode cX8_ill 0 = .ok (.aload_n 0, 1) := by decide +kernel
theorem dX8_ill_1 : decode cX8_ill 1 = .ok (.iload_n 1, 1) := by decide +kernel
theorem dX8_ill_2 : decode cX8_ill 2 = .ok (.invokevirtual 105, 3) := by decide +kernel
theorem dX8_ill_5 : decode cX8_ill 5 = .ok (.ifCond .eq 32, 3) := by decide +kernel
theorem dX8_ill_8 : decode cX8_ill 8 = .ok (.aload_n 0, 1) := by decide +kernel
theorem dX8_ill_9 : decode cX8_ill 9 = .ok (.getfield 26, 3) := by decide +kernel
theorem dX8_ill_12 : decode cX8_ill 12 = .ok (.iload_n 1, 1) := by decide +kernel
theorem dX8_ill_13 : decode cX8_ill 13 = .ok (.iaload, 1) := by decide +kernel
theorem dX8_ill_14 : decode cX8_ill 14 = .ok (.iconst 2, 1) := by decide +kernel
theorem dX8_ill_15 : decode cX8_ill 15 = .ok (.if_icmp .eq 22, 3) := by decide +kernel
theorem dX8_ill_18 : decode cX8_ill 18 = .ok (.aload_n 0, 1) := by decide +kernel
theorem dX8_ill_19 : decode cX8_ill 19 = .ok (.getfield 26, 3) := by decide +kernel
theorem dX8_ill_22 : decode cX8_ill 22 = .ok (.iload_n 1, 1) := by decide +kernel
theorem dX8_ill_23 : decode cX8_ill 23 = .ok (.iaload, 1) := by decide +kernel
theorem dX8_ill_24 : decode cX8_ill 24 = .ok (.iconst 1, 1) := by decide +kernel
theorem dX8_ill_25 : decode cX8_ill 25 = .ok (.if_icmp .ne 7, 3) := by decide +kernel
theorem dX8_ill_28 : decode cX8_ill 28 = .ok (.iconst 1, 1) := by decide +kernel
theorem dX8_ill_29 : decode cX8_ill 29 = .ok (.goto 4, 3) := by decide +kernel
theorem dX8_ill_32 : decode cX8_ill 32 = .ok (.iconst 0, 1) := by decide +kernel
theorem dX8_ill_33 : decode cX8_ill 33 = .ok (.iload_n 2, 1) := by decide +kernel
theorem dX8_ill_34 : decode cX8_ill 34 = .ok (.if_icmp .ne 5, 3) := by decide +kernel
theorem dX8_ill_37 : decode cX8_ill 37 = .ok (.iconst 0, 1) := by decide +kernel
theorem dX8_ill_38 : decode cX8_ill 38 = .ok (.ireturn, 1) := by decide +kernel
theorem dX8_ill_39 : decode cX8_ill 39 = .ok (.aload_n 0, 1) := by decide +kernel
theorem dX8_ill_40 : decode cX8_ill 40 = .ok (.getfield 26, 3) := by decide +kernel
theorem dX8_ill_43 : decode cX8_ill 43 = .ok (.iload_n 1, 1) := by decide +kernel
theorem dX8_ill_44 : decode cX8_ill 44 = .ok (.iload_n 2, 1) := by decide +kernel
theorem dX8_ill_45 : decode cX8_ill 45 = .ok (.ifCond .eq 7, 3) := by decide +kernel
theorem dX8_ill_48 : decode cX8_ill 48 = .ok (.iconst 1, 1) := by decide +kernel
theorem dX8_ill_49 : decode cX8_ill 49 = .ok (.goto 4, 3) := by decide +kernel
theorem dX8_ill_52 : decode cX8_ill 52 = .ok (.iconst 0, 1) := by decide +kernel
theorem dX8_ill_53 : decode cX8_ill 53 = .ok (.iastore, 1) := by decide +kernel
theorem dX8_ill_54 : decode cX8_ill 54 = .ok (.iconst 1, 1) := by decide +kernel
theorem dX8_ill_55 : decode cX8_ill 55 = .ok (.ireturn, 1) := by decide +kernel
theorem dX8_old_0 : decode cX8_old 0 = .ok (.aload_n 0, 1) := by decide +kernel
theorem dX8_old_1 : decode cX8_old 1 = .ok (.iload_n 1, 1) := by decide +kernel
theorem dX8_old_2 : decode cX8_old 2 = .ok (.invokevirtual 105, 3) := by decide +kernel
theorem dX8_old_5 : decode cX8_old 5 = .ok (.ifCond .eq 13, 3) := by decide +kernel
theorem dX8_old_8 : decode cX8_old 8 = .ok (.aload_n 0, 1) := by decide +kernel
theorem dX8_old_9 : decode cX8_old 9 = .ok (.getfield 26, 3) := by decide +kernel
theorem dX8_old_12 : decode cX8_old 12 = .ok (.iload_n 1, 1) := by decide +kernel
theorem dX8_old_13 : decode cX8_old 13 = .ok (.iaload, 1) := by decide +kernel
theorem dX8_old_14 : decode cX8_old 14 = .ok (.iconst 2, 1) := by decide +kernel
theorem dX8_old_15 : decode cX8_old 15 = .ok (.if_icmp .ne 5, 3) := by decide +kernel
theorem dX8_old_18 : decode cX8_old 18 = .ok (.iconst 0, 1) := by decide +kernel
theorem dX8_old_19 : decode cX8_old 19 = .ok (.ireturn, 1) := by decide +kernel
theorem dX8_old_20 : decode cX8_old 20 = .ok (.aload_n 0, 1) := by decide +kernel
theorem dX8_old_21 : decode cX8_old 21 = .ok (.getfield 26, 3) := by decide +kernel
theorem dX8_old_24 : decode cX8_old 24 = .ok (.iload_n 1, 1) := by decide +kernel
theorem dX8_old_25 : decode cX8_old 25 = .ok (.iconst 2, 1) := by decide +kernel
theorem dX8_old_26 : decode cX8_old 26 = .ok (.iastore, 1) := by decide +kernel
theorem dX8_old_27 : decode cX8_old 27 = .ok (.iconst 1, 1) := by decide +kernel
theorem dX8_old_28 : decode cX8_old 28 = .ok (.ireturn, 1) := by decide +kernel
theorem dX8_pieces_0 : decode cX8_pieces 0 = .ok (.iload_n 1, 1) := by decide +kernel
theorem dX8_pieces_1 : decode cX8_pieces 1 = .ok (.iconst 0, 1) := by decide +kernel
theorem dX8_pieces_2 : decode cX8_pieces 2 = .ok (.iconst 4, 1) := by decide +kernel
theorem dX8_pieces_3 : decode cX8_pieces 3 = .ok (.invokestatic 91, 3) := by decide +kernel
theorem dX8_pieces_6 : decode cX8_pieces 6 = .ok (.ifCond .eq 12, 3) := by decide +kernel
theorem dX8_pieces_9 : decode cX8_pieces 9 = .ok (.iload_n 2, 1) := by decide +kernel
theorem dX8_pieces_10 : decode cX8_pieces 10 = .ok (.iconst 0, 1) := by decide +kernel
theorem dX8_pieces_11 : decode cX8_pieces 11 = .ok (.iconst 3, 1) := by decide +kernel
theorem dX8_pieces_12 : decode cX8_pieces 12 = .ok (.invokestatic 91, 3) := by decide +kernel
theorem dX8_pieces_15 : decode cX8_pieces 15 = .ok (.ifCond .ne 5, 3) := by decide +kernel
theorem dX8_pieces_18 : decode cX8_pieces 18 = .ok (.iconst 0, 1) := by decide +kernel
theorem dX8_pieces_19 : decode cX8_pieces 19 = .ok (.ireturn, 1) := by decide +kernel
theorem dX8_pieces_20 : decode cX8_pieces 20 = .ok (.aload_n 0, 1) := by decide +kernel
theorem dX8_pieces_21 : decode cX8_pieces 21 = .ok (.getfield 32, 3) := by decide +kernel
theorem dX8_pieces_24 : decode cX8_pieces 24 = .ok (.iload_n 1, 1) := by decide +kernel
theorem dX8_pieces_25 : decode cX8_pieces 25 = .ok (.iload_n 2, 1) := by decide +kernel
theorem dX8_pieces_26 : decode cX8_pieces 26 = .ok (.iastore, 1) := by decide +kernel
theorem dX8_pieces_27 : decode cX8_pieces 27 = .ok (.iconst 1, 1) := by decide +kernel
theorem dX8_pieces_28 : decode cX8_pieces 28 = .ok (.ireturn, 1) := by decide +kernel
theorem dX8_isInstrument_0 : decode cX8_isInstrument 0 = .ok (.iload_n 0, 1) := by decide +kernel
theorem dX8_isInstrument_1 : decode cX8_isInstrument 1 = .ok (.iconst 0, 1) := by decide +kernel
theorem dX8_isInstrument_2 : decode cX8_isInstrument 2 = .ok (.iconst 4, 1) := by decide +kernel
theorem dX8_isInstrument_3 : decode cX8_isInstrument 3 = .ok (.invokestatic 91, 3) := by decide +kernel
theorem dX8_isInstrument_6 : decode cX8_isInstrument 6 = .ok (.ireturn, 1) := by decide +kernel
theorem dX8_isCall_0 : decode cX8_isCall 0 = .ok (.iload_n 1, 1) := by decide +kernel
theorem dX8_isCall_1 : decode cX8_isCall 1 = .ok (.iconst 0, 1) := by decide +kernel
theorem dX8_isCall_2 : decode cX8_isCall 2 = .ok (.iconst 5, 1) := by decide +kernel
theorem dX8_isCall_3 : decode cX8_isCall 3 = .ok (.invokestatic 91, 3) := by decide +kernel
theorem dX8_isCall_6 : decode cX8_isCall 6 = .ok (.ifCond .eq 20, 3) := by decide +kernel
theorem dX8_isCall_9 : decode cX8_isCall 9 = .ok (.aload_n 0, 1) := by decide +kernel
theorem dX8_isCall_10 : decode cX8_isCall 10 = .ok (.getfield 35, 3) := by decide +kernel
theorem dX8_isCall_13 : decode cX8_isCall 13 = .ok (.bipush 8, 2) := by decide +kernel
theorem dX8_isCall_15 : decode cX8_isCall 15 = .ok (.iload_n 1, 1) := by decide +kernel
theorem dX8_isCall_16 : decode cX8_isCall 16 = .ok (.imul, 1) := by decide +kernel
theorem dX8_isCall_17 : decode cX8_isCall 17 = .ok (.iaload, 1) := by decide +kernel
theorem dX8_isCall_18 : decode cX8_isCall 18 = .ok (.iconst (-1), 1) := by decide +kernel
theorem dX8_isCall_19 : decode cX8_isCall 19 = .ok (.if_icmp .eq 7, 3) := by decide +kernel
theorem dX8_isCall_22 : decode cX8_isCall 22 = .ok (.iconst 1, 1) := by decide +kernel
theorem dX8_isCall_23 : decode cX8_isCall 23 = .ok (.goto 4, 3) := by decide +kernel
theorem dX8_isCall_26 : decode cX8_isCall 26 = .ok (.iconst 0, 1) := by decide +kernel
theorem dX8_isCall_27 : decode cX8_isCall 27 = .ok (.ireturn, 1) := by decide +kernel
theorem dX8_of_0 : decode cX8_of 0 = .ok (.aload_n 0, 1) := by decide +kernel
theorem dX8_of_1 : decode cX8_of 1 = .ok (.getfield 35, 3) := by decide +kernel
theorem dX8_of_4 : decode cX8_of 4 = .ok (.bipush 8, 2) := by decide +kernel
theorem dX8_of_6 : decode cX8_of 6 = .ok (.iload_n 1, 1) := by decide +kernel
theorem dX8_of_7 : decode cX8_of 7 = .ok (.imul, 1) := by decide +kernel
theorem dX8_of_8 : decode cX8_of 8 = .ok (.iload_n 2, 1) := by decide +kernel
theorem dX8_of_9 : decode cX8_of 9 = .ok (.iadd, 1) := by decide +kernel
theorem dX8_of_10 : decode cX8_of 10 = .ok (.iaload, 1) := by decide +kernel
theorem dX8_of_11 : decode cX8_of 11 = .ok (.ireturn, 1) := by decide +kernel
theorem dX8_call_0 : decode cX8_call 0 = .ok (.iload_n 1, 1) := by decide +kernel
theorem dX8_call_1 : decode cX8_call 1 = .ok (.iconst 0, 1) := by decide +kernel
theorem dX8_call_2 : decode cX8_call 2 = .ok (.iconst 3, 1) := by decide +kernel
theorem dX8_call_3 : decode cX8_call 3 = .ok (.invokestatic 91, 3) := by decide +kernel
theorem dX8_call_6 : decode cX8_call 6 = .ok (.ifCond .eq 86, 3) := by decide +kernel
theorem dX8_call_9 : decode cX8_call 9 = .ok (.iload_n 2, 1) := by decide +kernel
theorem dX8_call_10 : decode cX8_call 10 = .ok (.iconst 0, 1) := by decide +kernel
theorem dX8_call_11 : decode cX8_call 11 = .ok (.bipush 95, 2) := by decide +kernel
theorem dX8_call_13 : decode cX8_call 13 = .ok (.invokestatic 91, 3) := by decide +kernel
theorem dX8_call_16 : decode cX8_call 16 = .ok (.ifCond .eq 76, 3) := by decide +kernel
theorem dX8_call_19 : decode cX8_call 19 = .ok (.iload_n 3, 1) := by decide +kernel
theorem dX8_call_20 : decode cX8_call 20 = .ok (.iconst 1, 1) := by decide +kernel
theorem dX8_call_21 : decode cX8_call 21 = .ok (.bipush 24, 2) := by decide +kernel
end
section
theorem dX8_call_23 : decode cX8_call 23 = .ok (.invokestatic 91, 3) := by decide +kernel
theorem dX8_call_26 : decode cX8_call 26 = .ok (.ifCond .eq 66, 3) := by decide +kernel
theorem dX8_call_29 : decode cX8_call 29 = .ok (.iload_n 2, 1) := by decide +kernel
theorem dX8_call_30 : decode cX8_call 30 = .ok (.iload_n 3, 1) := by decide +kernel
theorem dX8_call_31 : decode cX8_call 31 = .ok (.iadd, 1) := by decide +kernel
theorem dX8_call_32 : decode cX8_call 32 = .ok (.bipush 96, 2) := by decide +kernel
theorem dX8_call_34 : decode cX8_call 34 = .ok (.if_icmp .gt 58, 3) := by decide +kernel
theorem dX8_call_37 : decode cX8_call 37 = .ok (.iload 4, 2) := by decide +kernel
theorem dX8_call_39 : decode cX8_call 39 = .ok (.iconst 0, 1) := by decide +kernel
theorem dX8_call_40 : decode cX8_call 40 = .ok (.bipush 9, 2) := by decide +kernel
theorem dX8_call_42 : decode cX8_call 42 = .ok (.invokestatic 91, 3) := by decide +kernel
theorem dX8_call_45 : decode cX8_call 45 = .ok (.ifCond .eq 47, 3) := by decide +kernel
theorem dX8_call_48 : decode cX8_call 48 = .ok (.iload 5, 2) := by decide +kernel
theorem dX8_call_50 : decode cX8_call 50 = .ok (.iconst 0, 1) := by decide +kernel
theorem dX8_call_51 : decode cX8_call 51 = .ok (.iconst 5, 1) := by decide +kernel
theorem dX8_call_52 : decode cX8_call 52 = .ok (.invokestatic 91, 3) := by decide +kernel
theorem dX8_call_55 : decode cX8_call 55 = .ok (.ifCond .eq 37, 3) := by decide +kernel
theorem dX8_call_58 : decode cX8_call 58 = .ok (.iload 6, 2) := by decide +kernel
theorem dX8_call_60 : decode cX8_call 60 = .ok (.invokestatic 109, 3) := by decide +kernel
theorem dX8_call_63 : decode cX8_call 63 = .ok (.ifCond .eq 29, 3) := by decide +kernel
theorem dX8_call_66 : decode cX8_call 66 = .ok (.iload 7, 2) := by decide +kernel
theorem dX8_call_68 : decode cX8_call 68 = .ok (.iconst (-1), 1) := by decide +kernel
theorem dX8_call_69 : decode cX8_call 69 = .ok (.if_icmp .eq 11, 3) := by decide +kernel
theorem dX8_call_72 : decode cX8_call 72 = .ok (.iload 7, 2) := by decide +kernel
theorem dX8_call_74 : decode cX8_call 74 = .ok (.invokestatic 109, 3) := by decide +kernel
theorem dX8_call_77 : decode cX8_call 77 = .ok (.ifCond .eq 15, 3) := by decide +kernel
theorem dX8_call_80 : decode cX8_call 80 = .ok (.iload 8, 2) := by decide +kernel
theorem dX8_call_82 : decode cX8_call 82 = .ok (.iconst 0, 1) := by decide +kernel
theorem dX8_call_83 : decode cX8_call 83 = .ok (.sipush 9999, 3) := by decide +kernel
theorem dX8_call_86 : decode cX8_call 86 = .ok (.invokestatic 91, 3) := by decide +kernel
theorem dX8_call_89 : decode cX8_call 89 = .ok (.ifCond .ne 5, 3) := by decide +kernel
theorem dX8_call_92 : decode cX8_call 92 = .ok (.iconst (-1), 1) := by decide +kernel
theorem dX8_call_93 : decode cX8_call 93 = .ok (.ireturn, 1) := by decide +kernel
theorem dX8_call_94 : decode cX8_call 94 = .ok (.iconst 0, 1) := by decide +kernel
theorem dX8_call_95 : decode cX8_call 95 = .ok (.istore 9, 2) := by decide +kernel
theorem dX8_call_97 : decode cX8_call 97 = .ok (.iload 9, 2) := by decide +kernel
theorem dX8_call_99 : decode cX8_call 99 = .ok (.bipush 6, 2) := by decide +kernel
theorem dX8_call_101 : decode cX8_call 101 = .ok (.if_icmp .ge 133, 3) := by decide +kernel
theorem dX8_call_104 : decode cX8_call 104 = .ok (.aload_n 0, 1) := by decide +kernel
theorem dX8_call_105 : decode cX8_call 105 = .ok (.iload 9, 2) := by decide +kernel
theorem dX8_call_107 : decode cX8_call 107 = .ok (.invokevirtual 112, 3) := by decide +kernel
theorem dX8_call_110 : decode cX8_call 110 = .ok (.ifCond .eq 6, 3) := by decide +kernel
theorem dX8_call_113 : decode cX8_call 113 = .ok (.goto 115, 3) := by decide +kernel
theorem dX8_call_116 : decode cX8_call 116 = .ok (.aload_n 0, 1) := by decide +kernel
theorem dX8_call_117 : decode cX8_call 117 = .ok (.getfield 35, 3) := by decide +kernel
theorem dX8_call_120 : decode cX8_call 120 = .ok (.bipush 8, 2) := by decide +kernel
theorem dX8_call_122 : decode cX8_call 122 = .ok (.iload 9, 2) := by decide +kernel
theorem dX8_call_124 : decode cX8_call 124 = .ok (.imul, 1) := by decide +kernel
theorem dX8_call_125 : decode cX8_call 125 = .ok (.iload_n 1, 1) := by decide +kernel
theorem dX8_call_126 : decode cX8_call 126 = .ok (.iastore, 1) := by decide +kernel
theorem dX8_call_127 : decode cX8_call 127 = .ok (.aload_n 0, 1) := by decide +kernel
theorem dX8_call_128 : decode cX8_call 128 = .ok (.getfield 35, 3) := by decide +kernel
theorem dX8_call_131 : decode cX8_call 131 = .ok (.bipush 8, 2) := by decide +kernel
theorem dX8_call_133 : decode cX8_call 133 = .ok (.iload 9, 2) := by decide +kernel
theorem dX8_call_135 : decode cX8_call 135 = .ok (.imul, 1) := by decide +kernel
theorem dX8_call_136 : decode cX8_call 136 = .ok (.iconst 1, 1) := by decide +kernel
theorem dX8_call_137 : decode cX8_call 137 = .ok (.iadd, 1) := by decide +kernel
theorem dX8_call_138 : decode cX8_call 138 = .ok (.iload_n 2, 1) := by decide +kernel
theorem dX8_call_139 : decode cX8_call 139 = .ok (.iastore, 1) := by decide +kernel
theorem dX8_call_140 : decode cX8_call 140 = .ok (.aload_n 0, 1) := by decide +kernel
theorem dX8_call_141 : decode cX8_call 141 = .ok (.getfield 35, 3) := by decide +kernel
theorem dX8_call_144 : decode cX8_call 144 = .ok (.bipush 8, 2) := by decide +kernel
theorem dX8_call_146 : decode cX8_call 146 = .ok (.iload 9, 2) := by decide +kernel
theorem dX8_call_148 : decode cX8_call 148 = .ok (.imul, 1) := by decide +kernel
theorem dX8_call_149 : decode cX8_call 149 = .ok (.iconst 2, 1) := by decide +kernel
theorem dX8_call_150 : decode cX8_call 150 = .ok (.iadd, 1) := by decide +kernel
theorem dX8_call_151 : decode cX8_call 151 = .ok (.iload_n 3, 1) := by decide +kernel
theorem dX8_call_152 : decode cX8_call 152 = .ok (.iastore, 1) := by decide +kernel
theorem dX8_call_153 : decode cX8_call 153 = .ok (.aload_n 0, 1) := by decide +kernel
theorem dX8_call_154 : decode cX8_call 154 = .ok (.getfield 35, 3) := by decide +kernel
theorem dX8_call_157 : decode cX8_call 157 = .ok (.bipush 8, 2) := by decide +kernel
theorem dX8_call_159 : decode cX8_call 159 = .ok (.iload 9, 2) := by decide +kernel
theorem dX8_call_161 : decode cX8_call 161 = .ok (.imul, 1) := by decide +kernel
theorem dX8_call_162 : decode cX8_call 162 = .ok (.iconst 3, 1) := by decide +kernel
theorem dX8_call_163 : decode cX8_call 163 = .ok (.iadd, 1) := by decide +kernel
theorem dX8_call_164 : decode cX8_call 164 = .ok (.iload 4, 2) := by decide +kernel
theorem dX8_call_166 : decode cX8_call 166 = .ok (.iastore, 1) := by decide +kernel
theorem dX8_call_167 : decode cX8_call 167 = .ok (.aload_n 0, 1) := by decide +kernel
theorem dX8_call_168 : decode cX8_call 168 = .ok (.getfield 35, 3) := by decide +kernel
theorem dX8_call_171 : decode cX8_call 171 = .ok (.bipush 8, 2) := by decide +kernel
theorem dX8_call_173 : decode cX8_call 173 = .ok (.iload 9, 2) := by decide +kernel
theorem dX8_call_175 : decode cX8_call 175 = .ok (.imul, 1) := by decide +kernel
theorem dX8_call_176 : decode cX8_call 176 = .ok (.iconst 4, 1) := by decide +kernel
theorem dX8_call_177 : decode cX8_call 177 = .ok (.iadd, 1) := by decide +kernel
theorem dX8_call_178 : decode cX8_call 178 = .ok (.iload 5, 2) := by decide +kernel
theorem dX8_call_180 : decode cX8_call 180 = .ok (.iastore, 1) := by decide +kernel
theorem dX8_call_181 : decode cX8_call 181 = .ok (.aload_n 0, 1) := by decide +kernel
theorem dX8_call_182 : decode cX8_call 182 = .ok (.getfield 35, 3) := by decide +kernel
theorem dX8_call_185 : decode cX8_call 185 = .ok (.bipush 8, 2) := by decide +kernel
theorem dX8_call_187 : decode cX8_call 187 = .ok (.iload 9, 2) := by decide +kernel
theorem dX8_call_189 : decode cX8_call 189 = .ok (.imul, 1) := by decide +kernel
theorem dX8_call_190 : decode cX8_call 190 = .ok (.iconst 5, 1) := by decide +kernel
theorem dX8_call_191 : decode cX8_call 191 = .ok (.iadd, 1) := by decide +kernel
theorem dX8_call_192 : decode cX8_call 192 = .ok (.iload 6, 2) := by decide +kernel
theorem dX8_call_194 : decode cX8_call 194 = .ok (.iastore, 1) := by decide +kernel
theorem dX8_call_195 : decode cX8_call 195 = .ok (.aload_n 0, 1) := by decide +kernel
theorem dX8_call_196 : decode cX8_call 196 = .ok (.getfield 35, 3) := by decide +kernel
theorem dX8_call_199 : decode cX8_call 199 = .ok (.bipush 8, 2) := by decide +kernel
theorem dX8_call_201 : decode cX8_call 201 = .ok (.iload 9, 2) := by decide +kernel
theorem dX8_call_203 : decode cX8_call 203 = .ok (.imul, 1) := by decide +kernel
theorem dX8_call_204 : decode cX8_call 204 = .ok (.bipush 6, 2) := by decide +kernel
theorem dX8_call_206 : decode cX8_call 206 = .ok (.iadd, 1) := by decide +kernel
theorem dX8_call_207 : decode cX8_call 207 = .ok (.iload 7, 2) := by decide +kernel
theorem dX8_call_209 : decode cX8_call 209 = .ok (.iastore, 1) := by decide +kernel
theorem dX8_call_210 : decode cX8_call 210 = .ok (.aload_n 0, 1) := by decide +kernel
theorem dX8_call_211 : decode cX8_call 211 = .ok (.getfield 35, 3) := by decide +kernel
theorem dX8_call_214 : decode cX8_call 214 = .ok (.bipush 8, 2) := by decide +kernel
theorem dX8_call_216 : decode cX8_call 216 = .ok (.iload 9, 2) := by decide +kernel
theorem dX8_call_218 : decode cX8_call 218 = .ok (.imul, 1) := by decide +kernel
theorem dX8_call_219 : decode cX8_call 219 = .ok (.bipush 7, 2) := by decide +kernel
theorem dX8_call_221 : decode cX8_call 221 = .ok (.iadd, 1) := by decide +kernel
theorem dX8_call_222 : decode cX8_call 222 = .ok (.iload 8, 2) := by decide +kernel
theorem dX8_call_224 : decode cX8_call 224 = .ok (.iastore, 1) := by decide +kernel
theorem dX8_call_225 : decode cX8_call 225 = .ok (.iload 9, 2) := by decide +kernel
theorem dX8_call_227 : decode cX8_call 227 = .ok (.ireturn, 1) := by decide +kernel
theorem dX8_call_228 : decode cX8_call 228 = .ok (.iinc 9 1, 3) := by decide +kernel
theorem dX8_call_231 : decode cX8_call 231 = .ok (.goto (-134), 3) := by decide +kernel
theorem dX8_call_234 : decode cX8_call 234 = .ok (.iconst (-1), 1) := by decide +kernel
theorem dX8_call_235 : decode cX8_call 235 = .ok (.ireturn, 1) := by decide +kernel
theorem dX8_off_0 : decode cX8_off 0 = .ok (.aload_n 0, 1) := by decide +kernel
theorem dX8_off_1 : decode cX8_off 1 = .ok (.iload_n 1, 1) := by decide +kernel
theorem dX8_off_2 : decode cX8_off 2 = .ok (.invokevirtual 112, 3) := by decide +kernel
theorem dX8_off_5 : decode cX8_off 5 = .ok (.ifCond .ne 5, 3) := by decide +kernel
theorem dX8_off_8 : decode cX8_off 8 = .ok (.iconst 0, 1) := by decide +kernel
theorem dX8_off_9 : decode cX8_off 9 = .ok (.ireturn, 1) := by decide +kernel
theorem dX8_off_10 : decode cX8_off 10 = .ok (.aload_n 0, 1) := by decide +kernel
theorem dX8_off_11 : decode cX8_off 11 = .ok (.getfield 35, 3) := by decide +kernel
theorem dX8_off_14 : decode cX8_off 14 = .ok (.bipush 8, 2) := by decide +kernel
theorem dX8_off_16 : decode cX8_off 16 = .ok (.iload_n 1, 1) := by decide +kernel
theorem dX8_off_17 : decode cX8_off 17 = .ok (.imul, 1) := by decide +kernel
theorem dX8_off_18 : decode cX8_off 18 = .ok (.iconst (-1), 1) := by decide +kernel
theorem dX8_off_19 : decode cX8_off 19 = .ok (.iastore, 1) := by decide +kernel
theorem dX8_off_20 : decode cX8_off 20 = .ok (.iconst 1, 1) := by decide +kernel
theorem dX8_off_21 : decode cX8_off 21 = .ok (.ireturn, 1) := by decide +kernel
theorem dX8_sorts_0 : decode cX8_sorts 0 = .ok (.aload_n 0, 1) := by decide +kernel
theorem dX8_sorts_1 : decode cX8_sorts 1 = .ok (.iconst 0, 1) := by decide +kernel
theorem dX8_sorts_2 : decode cX8_sorts 2 = .ok (.putfield 115, 3) := by decide +kernel
theorem dX8_sorts_5 : decode cX8_sorts 5 = .ok (.iconst 0, 1) := by decide +kernel
theorem dX8_sorts_6 : decode cX8_sorts 6 = .ok (.istore_n 1, 1) := by decide +kernel
theorem dX8_sorts_7 : decode cX8_sorts 7 = .ok (.iload_n 1, 1) := by decide +kernel
theorem dX8_sorts_8 : decode cX8_sorts 8 = .ok (.iconst 4, 1) := by decide +kernel
theorem dX8_sorts_9 : decode cX8_sorts 9 = .ok (.if_icmp .ge 64, 3) := by decide +kernel
theorem dX8_sorts_12 : decode cX8_sorts 12 = .ok (.iconst 0, 1) := by decide +kernel
theorem dX8_sorts_13 : decode cX8_sorts 13 = .ok (.istore_n 2, 1) := by decide +kernel
theorem dX8_sorts_14 : decode cX8_sorts 14 = .ok (.iload_n 2, 1) := by decide +kernel
theorem dX8_sorts_15 : decode cX8_sorts 15 = .ok (.bipush 6, 2) := by decide +kernel
theorem dX8_sorts_17 : decode cX8_sorts 17 = .ok (.if_icmp .ge 50, 3) := by decide +kernel
theorem dX8_sorts_20 : decode cX8_sorts 20 = .ok (.aload_n 0, 1) := by decide +kernel
theorem dX8_sorts_21 : decode cX8_sorts 21 = .ok (.iload_n 2, 1) := by decide +kernel
theorem dX8_sorts_22 : decode cX8_sorts 22 = .ok (.invokevirtual 112, 3) := by decide +kernel
theorem dX8_sorts_25 : decode cX8_sorts 25 = .ok (.ifCond .eq 36, 3) := by decide +kernel
theorem dX8_sorts_28 : decode cX8_sorts 28 = .ok (.aload_n 0, 1) := by decide +kernel
theorem dX8_sorts_29 : decode cX8_sorts 29 = .ok (.iload_n 2, 1) := by decide +kernel
theorem dX8_sorts_30 : decode cX8_sorts 30 = .ok (.iconst 0, 1) := by decide +kernel
theorem dX8_sorts_31 : decode cX8_sorts 31 = .ok (.invokevirtual 118, 3) := by decide +kernel
theorem dX8_sorts_34 : decode cX8_sorts 34 = .ok (.iload_n 1, 1) := by decide +kernel
theorem dX8_sorts_35 : decode cX8_sorts 35 = .ok (.if_icmp .eq 6, 3) := by decide +kernel
theorem dX8_sorts_38 : decode cX8_sorts 38 = .ok (.goto 23, 3) := by decide +kernel
theorem dX8_sorts_41 : decode cX8_sorts 41 = .ok (.aload_n 0, 1) := by decide +kernel
theorem dX8_sorts_42 : decode cX8_sorts 42 = .ok (.getfield 50, 3) := by decide +kernel
theorem dX8_sorts_45 : decode cX8_sorts 45 = .ok (.aload_n 0, 1) := by decide +kernel
theorem dX8_sorts_46 : decode cX8_sorts 46 = .ok (.getfield 115, 3) := by decide +kernel
theorem dX8_sorts_49 : decode cX8_sorts 49 = .ok (.iload_n 2, 1) := by decide +kernel
theorem dX8_sorts_50 : decode cX8_sorts 50 = .ok (.iastore, 1) := by decide +kernel
theorem dX8_sorts_51 : decode cX8_sorts 51 = .ok (.aload_n 0, 1) := by decide +kernel
theorem dX8_sorts_52 : decode cX8_sorts 52 = .ok (.dup, 1) := by decide +kernel
theorem dX8_sorts_53 : decode cX8_sorts 53 = .ok (.getfield 115, 3) := by decide +kernel
theorem dX8_sorts_56 : decode cX8_sorts 56 = .ok (.iconst 1, 1) := by decide +kernel
theorem dX8_sorts_57 : decode cX8_sorts 57 = .ok (.iadd, 1) := by decide +kernel
theorem dX8_sorts_58 : decode cX8_sorts 58 = .ok (.putfield 115, 3) := by decide +kernel
theorem dX8_sorts_61 : decode cX8_sorts 61 = .ok (.iinc 2 1, 3) := by decide +kernel
theorem dX8_sorts_64 : decode cX8_sorts 64 = .ok (.goto (-50), 3) := by decide +kernel
theorem dX8_sorts_67 : decode cX8_sorts 67 = .ok (.iinc 1 1, 3) := by decide +kernel
theorem dX8_sorts_70 : decode cX8_sorts 70 = .ok (.goto (-63), 3) := by decide +kernel
theorem dX8_sorts_73 : decode cX8_sorts 73 = .ok (.return_, 1) := by decide +kernel
theorem dX8_apart_0 : decode cX8_apart 0 = .ok (.iload_n 0, 1) := by decide +kernel
theorem dX8_apart_1 : decode cX8_apart 1 = .ok (.iload_n 1, 1) := by decide +kernel
theorem dX8_apart_2 : decode cX8_apart 2 = .ok (.if_icmp .ge 9, 3) := by decide +kernel
theorem dX8_apart_5 : decode cX8_apart 5 = .ok (.iload_n 1, 1) := by decide +kernel
theorem dX8_apart_6 : decode cX8_apart 6 = .ok (.iload_n 0, 1) := by decide +kernel
theorem dX8_apart_7 : decode cX8_apart 7 = .ok (.isub, 1) := by decide +kernel
theorem dX8_apart_8 : decode cX8_apart 8 = .ok (.goto 6, 3) := by decide +kernel
theorem dX8_apart_11 : decode cX8_apart 11 = .ok (.iload_n 0, 1) := by decide +kernel
theorem dX8_apart_12 : decode cX8_apart 12 = .ok (.iload_n 1, 1) := by decide +kernel
theorem dX8_apart_13 : decode cX8_apart 13 = .ok (.isub, 1) := by decide +kernel
theorem dX8_apart_14 : decode cX8_apart 14 = .ok (.ireturn, 1) := by decide +kernel
theorem dX8_goes_0 : decode cX8_goes 0 = .ok (.aload_n 0, 1) := by decide +kernel
theorem dX8_goes_1 : decode cX8_goes 1 = .ok (.iload_n 1, 1) := by decide +kernel
theorem dX8_goes_2 : decode cX8_goes 2 = .ok (.iconst 1, 1) := by decide +kernel
theorem dX8_goes_3 : decode cX8_goes 3 = .ok (.invokevirtual 118, 3) := by decide +kernel
theorem dX8_goes_6 : decode cX8_goes 6 = .ok (.aload_n 0, 1) := by decide +kernel
theorem dX8_goes_7 : decode cX8_goes 7 = .ok (.iload_n 2, 1) := by decide +kernel
theorem dX8_goes_8 : decode cX8_goes 8 = .ok (.iconst 1, 1) := by decide +kernel
theorem dX8_goes_9 : decode cX8_goes 9 = .ok (.invokevirtual 118, 3) := by decide +kernel
theorem dX8_goes_12 : decode cX8_goes 12 = .ok (.if_icmp .lt 23, 3) := by decide +kernel
theorem dX8_goes_15 : decode cX8_goes 15 = .ok (.aload_n 0, 1) := by decide +kernel
theorem dX8_goes_16 : decode cX8_goes 16 = .ok (.iload_n 1, 1) := by decide +kernel
theorem dX8_goes_17 : decode cX8_goes 17 = .ok (.iconst 1, 1) := by decide +kernel
theorem dX8_goes_18 : decode cX8_goes 18 = .ok (.invokevirtual 118, 3) := by decide +kernel
theorem dX8_goes_21 : decode cX8_goes 21 = .ok (.aload_n 0, 1) := by decide +kernel
theorem dX8_goes_22 : decode cX8_goes 22 = .ok (.iload_n 2, 1) := by decide +kernel
theorem dX8_goes_23 : decode cX8_goes 23 = .ok (.iconst 1, 1) := by decide +kernel
theorem dX8_goes_24 : decode cX8_goes 24 = .ok (.invokevirtual 118, 3) := by decide +kernel
theorem dX8_goes_27 : decode cX8_goes 27 = .ok (.if_icmp .ne 12, 3) := by decide +kernel
theorem dX8_goes_30 : decode cX8_goes 30 = .ok (.iload_n 1, 1) := by decide +kernel
theorem dX8_goes_31 : decode cX8_goes 31 = .ok (.iload_n 2, 1) := by decide +kernel
theorem dX8_goes_32 : decode cX8_goes 32 = .ok (.if_icmp .ge 7, 3) := by decide +kernel
theorem dX8_goes_35 : decode cX8_goes 35 = .ok (.iconst 1, 1) := by decide +kernel
theorem dX8_goes_36 : decode cX8_goes 36 = .ok (.goto 4, 3) := by decide +kernel
theorem dX8_goes_39 : decode cX8_goes 39 = .ok (.iconst 0, 1) := by decide +kernel
theorem dX8_goes_40 : decode cX8_goes 40 = .ok (.istore_n 3, 1) := by decide +kernel
theorem dX8_goes_41 : decode cX8_goes 41 = .ok (.iload_n 3, 1) := by decide +kernel
theorem dX8_goes_42 : decode cX8_goes 42 = .ok (.ifCond .eq 7, 3) := by decide +kernel
theorem dX8_goes_45 : decode cX8_goes 45 = .ok (.iload_n 1, 1) := by decide +kernel
theorem dX8_goes_46 : decode cX8_goes 46 = .ok (.goto 4, 3) := by decide +kernel
theorem dX8_goes_49 : decode cX8_goes 49 = .ok (.iload_n 2, 1) := by decide +kernel
theorem dX8_goes_50 : decode cX8_goes 50 = .ok (.istore 4, 2) := by decide +kernel
theorem dX8_goes_52 : decode cX8_goes 52 = .ok (.iload_n 3, 1) := by decide +kernel
theorem dX8_goes_53 : decode cX8_goes 53 = .ok (.ifCond .eq 7, 3) := by decide +kernel
theorem dX8_goes_56 : decode cX8_goes 56 = .ok (.iload_n 2, 1) := by decide +kernel
theorem dX8_goes_57 : decode cX8_goes 57 = .ok (.goto 4, 3) := by decide +kernel
theorem dX8_goes_60 : decode cX8_goes 60 = .ok (.iload_n 1, 1) := by decide +kernel
theorem dX8_goes_61 : decode cX8_goes 61 = .ok (.istore 5, 2) := by decide +kernel
theorem dX8_goes_63 : decode cX8_goes 63 = .ok (.aload_n 0, 1) := by decide +kernel
theorem dX8_goes_64 : decode cX8_goes 64 = .ok (.iload 5, 2) := by decide +kernel
theorem dX8_goes_66 : decode cX8_goes 66 = .ok (.iconst 1, 1) := by decide +kernel
theorem dX8_goes_67 : decode cX8_goes 67 = .ok (.invokevirtual 118, 3) := by decide +kernel
theorem dX8_goes_70 : decode cX8_goes 70 = .ok (.aload_n 0, 1) := by decide +kernel
theorem dX8_goes_71 : decode cX8_goes 71 = .ok (.iload 4, 2) := by decide +kernel
theorem dX8_goes_73 : decode cX8_goes 73 = .ok (.iconst 1, 1) := by decide +kernel
theorem dX8_goes_74 : decode cX8_goes 74 = .ok (.invokevirtual 118, 3) := by decide +kernel
theorem dX8_goes_77 : decode cX8_goes 77 = .ok (.aload_n 0, 1) := by decide +kernel
theorem dX8_goes_78 : decode cX8_goes 78 = .ok (.iload 4, 2) := by decide +kernel
theorem dX8_goes_80 : decode cX8_goes 80 = .ok (.iconst 2, 1) := by decide +kernel
theorem dX8_goes_81 : decode cX8_goes 81 = .ok (.invokevirtual 118, 3) := by decide +kernel
theorem dX8_goes_84 : decode cX8_goes 84 = .ok (.iadd, 1) := by decide +kernel
theorem dX8_goes_85 : decode cX8_goes 85 = .ok (.aload_n 0, 1) := by decide +kernel
theorem dX8_goes_86 : decode cX8_goes 86 = .ok (.getfield 13, 3) := by decide +kernel
theorem dX8_goes_89 : decode cX8_goes 89 = .ok (.iconst 0, 1) := by decide +kernel
theorem dX8_goes_90 : decode cX8_goes 90 = .ok (.iaload, 1) := by decide +kernel
theorem dX8_goes_91 : decode cX8_goes 91 = .ok (.aload_n 0, 1) := by decide +kernel
theorem dX8_goes_92 : decode cX8_goes 92 = .ok (.iload 4, 2) := by decide +kernel
theorem dX8_goes_94 : decode cX8_goes 94 = .ok (.iconst 3, 1) := by decide +kernel
theorem dX8_goes_95 : decode cX8_goes 95 = .ok (.invokevirtual 118, 3) := by decide +kernel
theorem dX8_goes_98 : decode cX8_goes 98 = .ok (.aload_n 0, 1) := by decide +kernel
theorem dX8_goes_99 : decode cX8_goes 99 = .ok (.iload 5, 2) := by decide +kernel
theorem dX8_goes_101 : decode cX8_goes 101 = .ok (.iconst 3, 1) := by decide +kernel
theorem dX8_goes_102 : decode cX8_goes 102 = .ok (.invokevirtual 118, 3) := by decide +kernel
theorem dX8_goes_105 : decode cX8_goes 105 = .ok (.invokestatic 121, 3) := by decide +kernel
theorem dX8_goes_108 : decode cX8_goes 108 = .ok (.imul, 1) := by decide +kernel
theorem dX8_goes_109 : decode cX8_goes 109 = .ok (.iadd, 1) := by decide +kernel
theorem dX8_goes_110 : decode cX8_goes 110 = .ok (.if_icmp .lt 7, 3) := by decide +kernel
theorem dX8_goes_113 : decode cX8_goes 113 = .ok (.iconst 1, 1) := by decide +kernel
theorem dX8_goes_114 : decode cX8_goes 114 = .ok (.goto 4, 3) := by decide +kernel
theorem dX8_goes_117 : decode cX8_goes 117 = .ok (.iconst 0, 1) := by decide +kernel
theorem dX8_goes_118 : decode cX8_goes 118 = .ok (.ireturn, 1) := by decide +kernel
theorem dX8_hasPieces_0 : decode cX8_hasPieces 0 = .ok (.iconst 0, 1) := by decide +kernel
theorem dX8_hasPieces_1 : decode cX8_hasPieces 1 = .ok (.istore_n 1, 1) := by decide +kernel
theorem dX8_hasPieces_2 : decode cX8_hasPieces 2 = .ok (.iload_n 1, 1) := by decide +kernel
theorem dX8_hasPieces_3 : decode cX8_hasPieces 3 = .ok (.iconst 5, 1) := by decide +kernel
theorem dX8_hasPieces_4 : decode cX8_hasPieces 4 = .ok (.if_icmp .ge 114, 3) := by decide +kernel
theorem dX8_hasPieces_7 : decode cX8_hasPieces 7 = .ok (.iconst 0, 1) := by decide +kernel
theorem dX8_hasPieces_8 : decode cX8_hasPieces 8 = .ok (.istore_n 2, 1) := by decide +kernel
theorem dX8_hasPieces_9 : decode cX8_hasPieces 9 = .ok (.iload_n 2, 1) := by decide +kernel
theorem dX8_hasPieces_10 : decode cX8_hasPieces 10 = .ok (.bipush 96, 2) := by decide +kernel
theorem dX8_hasPieces_12 : decode cX8_hasPieces 12 = .ok (.if_icmp .ge 100, 3) := by decide +kernel
theorem dX8_hasPieces_15 : decode cX8_hasPieces 15 = .ok (.iconst 0, 1) := by decide +kernel
theorem dX8_hasPieces_16 : decode cX8_hasPieces 16 = .ok (.istore_n 3, 1) := by decide +kernel
theorem dX8_hasPieces_17 : decode cX8_hasPieces 17 = .ok (.iconst 0, 1) := by decide +kernel
theorem dX8_hasPieces_18 : decode cX8_hasPieces 18 = .ok (.istore 4, 2) := by decide +kernel
theorem dX8_hasPieces_20 : decode cX8_hasPieces 20 = .ok (.iload 4, 2) := by decide +kernel
theorem dX8_hasPieces_22 : decode cX8_hasPieces 22 = .ok (.aload_n 0, 1) := by decide +kernel
theorem dX8_hasPieces_23 : decode cX8_hasPieces 23 = .ok (.getfield 124, 3) := by decide +kernel
theorem dX8_hasPieces_26 : decode cX8_hasPieces 26 = .ok (.if_icmp .ge 68, 3) := by decide +kernel
theorem dX8_hasPieces_29 : decode cX8_hasPieces 29 = .ok (.aload_n 0, 1) := by decide +kernel
theorem dX8_hasPieces_30 : decode cX8_hasPieces 30 = .ok (.getfield 53, 3) := by decide +kernel
theorem dX8_hasPieces_33 : decode cX8_hasPieces 33 = .ok (.iload 4, 2) := by decide +kernel
theorem dX8_hasPieces_35 : decode cX8_hasPieces 35 = .ok (.iaload, 1) := by decide +kernel
theorem dX8_hasPieces_36 : decode cX8_hasPieces 36 = .ok (.istore 5, 2) := by decide +kernel
theorem dX8_hasPieces_38 : decode cX8_hasPieces 38 = .ok (.iload_n 3, 1) := by decide +kernel
theorem dX8_hasPieces_39 : decode cX8_hasPieces 39 = .ok (.aload_n 0, 1) := by decide +kernel
theorem dX8_hasPieces_40 : decode cX8_hasPieces 40 = .ok (.getfield 56, 3) := by decide +kernel
theorem dX8_hasPieces_43 : decode cX8_hasPieces 43 = .ok (.iload 4, 2) := by decide +kernel
theorem dX8_hasPieces_45 : decode cX8_hasPieces 45 = .ok (.iaload, 1) := by decide +kernel
theorem dX8_hasPieces_46 : decode cX8_hasPieces 46 = .ok (.iload_n 1, 1) := by decide +kernel
theorem dX8_hasPieces_47 : decode cX8_hasPieces 47 = .ok (.if_icmp .ne 38, 3) := by decide +kernel
theorem dX8_hasPieces_50 : decode cX8_hasPieces 50 = .ok (.iload_n 2, 1) := by decide +kernel
theorem dX8_hasPieces_51 : decode cX8_hasPieces 51 = .ok (.aload_n 0, 1) := by decide +kernel
theorem dX8_hasPieces_52 : decode cX8_hasPieces 52 = .ok (.iload 5, 2) := by decide +kernel
theorem dX8_hasPieces_54 : decode cX8_hasPieces 54 = .ok (.iconst 1, 1) := by decide +kernel
theorem dX8_hasPieces_55 : decode cX8_hasPieces 55 = .ok (.invokevirtual 118, 3) := by decide +kernel
theorem dX8_hasPieces_58 : decode cX8_hasPieces 58 = .ok (.aload_n 0, 1) := by decide +kernel
theorem dX8_hasPieces_59 : decode cX8_hasPieces 59 = .ok (.iload 5, 2) := by decide +kernel
theorem dX8_hasPieces_61 : decode cX8_hasPieces 61 = .ok (.iconst 1, 1) := by decide +kernel
theorem dX8_hasPieces_62 : decode cX8_hasPieces 62 = .ok (.invokevirtual 118, 3) := by decide +kernel
theorem dX8_hasPieces_65 : decode cX8_hasPieces 65 = .ok (.aload_n 0, 1) := by decide +kernel
theorem dX8_hasPieces_66 : decode cX8_hasPieces 66 = .ok (.iload 5, 2) := by decide +kernel
theorem dX8_hasPieces_68 : decode cX8_hasPieces 68 = .ok (.iconst 2, 1) := by decide +kernel
theorem dX8_hasPieces_69 : decode cX8_hasPieces 69 = .ok (.invokevirtual 118, 3) := by decide +kernel
theorem dX8_hasPieces_72 : decode cX8_hasPieces 72 = .ok (.iadd, 1) := by decide +kernel
theorem dX8_hasPieces_73 : decode cX8_hasPieces 73 = .ok (.iconst 1, 1) := by decide +kernel
theorem dX8_hasPieces_74 : decode cX8_hasPieces 74 = .ok (.isub, 1) := by decide +kernel
theorem dX8_hasPieces_75 : decode cX8_hasPieces 75 = .ok (.invokestatic 91, 3) := by decide +kernel
theorem dX8_hasPieces_78 : decode cX8_hasPieces 78 = .ok (.ifCond .eq 7, 3) := by decide +kernel
theorem dX8_hasPieces_81 : decode cX8_hasPieces 81 = .ok (.iconst 1, 1) := by decide +kernel
theorem dX8_hasPieces_82 : decode cX8_hasPieces 82 = .ok (.goto 4, 3) := by decide +kernel
theorem dX8_hasPieces_85 : decode cX8_hasPieces 85 = .ok (.iconst 0, 1) := by decide +kernel
theorem dX8_hasPieces_86 : decode cX8_hasPieces 86 = .ok (.iadd, 1) := by decide +kernel
theorem dX8_hasPieces_87 : decode cX8_hasPieces 87 = .ok (.istore_n 3, 1) := by decide +kernel
theorem dX8_hasPieces_88 : decode cX8_hasPieces 88 = .ok (.iinc 4 1, 3) := by decide +kernel
theorem dX8_hasPieces_91 : decode cX8_hasPieces 91 = .ok (.goto (-71), 3) := by decide +kernel
theorem dX8_hasPieces_94 : decode cX8_hasPieces 94 = .ok (.iload_n 3, 1) := by decide +kernel
theorem dX8_hasPieces_95 : decode cX8_hasPieces 95 = .ok (.aload_n 0, 1) := by decide +kernel
theorem dX8_hasPieces_96 : decode cX8_hasPieces 96 = .ok (.getfield 32, 3) := by decide +kernel
theorem dX8_hasPieces_99 : decode cX8_hasPieces 99 = .ok (.iload_n 1, 1) := by decide +kernel
theorem dX8_hasPieces_100 : decode cX8_hasPieces 100 = .ok (.iaload, 1) := by decide +kernel
theorem dX8_hasPieces_101 : decode cX8_hasPieces 101 = .ok (.if_icmp .le 5, 3) := by decide +kernel
theorem dX8_hasPieces_104 : decode cX8_hasPieces 104 = .ok (.iconst 0, 1) := by decide +kernel
theorem dX8_hasPieces_105 : decode cX8_hasPieces 105 = .ok (.ireturn, 1) := by decide +kernel
theorem dX8_hasPieces_106 : decode cX8_hasPieces 106 = .ok (.iinc 2 1, 3) := by decide +kernel
theorem dX8_hasPieces_109 : decode cX8_hasPieces 109 = .ok (.goto (-100), 3) := by decide +kernel
theorem dX8_hasPieces_112 : decode cX8_hasPieces 112 = .ok (.iinc 1 1, 3) := by decide +kernel
theorem dX8_hasPieces_115 : decode cX8_hasPieces 115 = .ok (.goto (-113), 3) := by decide +kernel
theorem dX8_hasPieces_118 : decode cX8_hasPieces 118 = .ok (.iconst 1, 1) := by decide +kernel
theorem dX8_hasPieces_119 : decode cX8_hasPieces 119 = .ok (.ireturn, 1) := by decide +kernel
theorem dX8_lists_0 : decode cX8_lists 0 = .ok (.aload_n 0, 1) := by decide +kernel
theorem dX8_lists_1 : decode cX8_lists 1 = .ok (.iconst 0, 1) := by decide +kernel
theorem dX8_lists_2 : decode cX8_lists 2 = .ok (.putfield 124, 3) := by decide +kernel
theorem dX8_lists_5 : decode cX8_lists 5 = .ok (.iconst 0, 1) := by decide +kernel
theorem dX8_lists_6 : decode cX8_lists 6 = .ok (.istore_n 1, 1) := by decide +kernel
theorem dX8_lists_7 : decode cX8_lists 7 = .ok (.iload_n 1, 1) := by decide +kernel
theorem dX8_lists_8 : decode cX8_lists 8 = .ok (.aload_n 0, 1) := by decide +kernel
theorem dX8_lists_9 : decode cX8_lists 9 = .ok (.getfield 115, 3) := by decide +kernel
theorem dX8_lists_12 : decode cX8_lists 12 = .ok (.if_icmp .ge 92, 3) := by decide +kernel
theorem dX8_lists_15 : decode cX8_lists 15 = .ok (.aload_n 0, 1) := by decide +kernel
theorem dX8_lists_16 : decode cX8_lists 16 = .ok (.getfield 50, 3) := by decide +kernel
theorem dX8_lists_19 : decode cX8_lists 19 = .ok (.iload_n 1, 1) := by decide +kernel
theorem dX8_lists_20 : decode cX8_lists 20 = .ok (.iaload, 1) := by decide +kernel
theorem dX8_lists_21 : decode cX8_lists 21 = .ok (.istore_n 2, 1) := by decide +kernel
theorem dX8_lists_22 : decode cX8_lists 22 = .ok (.iconst 0, 1) := by decide +kernel
theorem dX8_lists_23 : decode cX8_lists 23 = .ok (.istore_n 3, 1) := by decide +kernel
theorem dX8_lists_24 : decode cX8_lists 24 = .ok (.iload_n 3, 1) := by decide +kernel
theorem dX8_lists_25 : decode cX8_lists 25 = .ok (.iconst 2, 1) := by decide +kernel
theorem dX8_lists_26 : decode cX8_lists 26 = .ok (.if_icmp .ge 72, 3) := by decide +kernel
theorem dX8_lists_29 : decode cX8_lists 29 = .ok (.aload_n 0, 1) := by decide +kernel
theorem dX8_lists_30 : decode cX8_lists 30 = .ok (.getfield 127, 3) := by decide +kernel
theorem dX8_lists_33 : decode cX8_lists 33 = .ok (.iload_n 2, 1) := by decide +kernel
theorem dX8_lists_34 : decode cX8_lists 34 = .ok (.invokestatic 130, 3) := by decide +kernel
theorem dX8_lists_37 : decode cX8_lists 37 = .ok (.ifCond .eq 61, 3) := by decide +kernel
theorem dX8_lists_40 : decode cX8_lists 40 = .ok (.aload_n 0, 1) := by decide +kernel
theorem dX8_lists_41 : decode cX8_lists 41 = .ok (.iload_n 2, 1) := by decide +kernel
theorem dX8_lists_42 : decode cX8_lists 42 = .ok (.iconst 5, 1) := by decide +kernel
theorem dX8_lists_43 : decode cX8_lists 43 = .ok (.iload_n 3, 1) := by decide +kernel
theorem dX8_lists_44 : decode cX8_lists 44 = .ok (.iadd, 1) := by decide +kernel
theorem dX8_lists_45 : decode cX8_lists 45 = .ok (.invokevirtual 118, 3) := by decide +kernel
theorem dX8_lists_48 : decode cX8_lists 48 = .ok (.iconst (-1), 1) := by decide +kernel
theorem dX8_lists_49 : decode cX8_lists 49 = .ok (.if_icmp .ne 6, 3) := by decide +kernel
theorem dX8_lists_52 : decode cX8_lists 52 = .ok (.goto 40, 3) := by decide +kernel
theorem dX8_lists_55 : decode cX8_lists 55 = .ok (.aload_n 0, 1) := by decide +kernel
theorem dX8_lists_56 : decode cX8_lists 56 = .ok (.getfield 53, 3) := by decide +kernel
theorem dX8_lists_59 : decode cX8_lists 59 = .ok (.aload_n 0, 1) := by decide +kernel
theorem dX8_lists_60 : decode cX8_lists 60 = .ok (.getfield 124, 3) := by decide +kernel
theorem dX8_lists_63 : decode cX8_lists 63 = .ok (.iload_n 2, 1) := by decide +kernel
theorem dX8_lists_64 : decode cX8_lists 64 = .ok (.iastore, 1) := by decide +kernel
theorem dX8_lists_65 : decode cX8_lists 65 = .ok (.aload_n 0, 1) := by decide +kernel
theorem dX8_lists_66 : decode cX8_lists 66 = .ok (.getfield 56, 3) := by decide +kernel
theorem dX8_lists_69 : decode cX8_lists 69 = .ok (.aload_n 0, 1) := by decide +kernel
theorem dX8_lists_70 : decode cX8_lists 70 = .ok (.getfield 124, 3) := by decide +kernel
theorem dX8_lists_73 : decode cX8_lists 73 = .ok (.aload_n 0, 1) := by decide +kernel
theorem dX8_lists_74 : decode cX8_lists 74 = .ok (.iload_n 2, 1) := by decide +kernel
theorem dX8_lists_75 : decode cX8_lists 75 = .ok (.iconst 5, 1) := by decide +kernel
theorem dX8_lists_76 : decode cX8_lists 76 = .ok (.iload_n 3, 1) := by decide +kernel
theorem dX8_lists_77 : decode cX8_lists 77 = .ok (.iadd, 1) := by decide +kernel
theorem dX8_lists_78 : decode cX8_lists 78 = .ok (.invokevirtual 118, 3) := by decide +kernel
theorem dX8_lists_81 : decode cX8_lists 81 = .ok (.iastore, 1) := by decide +kernel
theorem dX8_lists_82 : decode cX8_lists 82 = .ok (.aload_n 0, 1) := by decide +kernel
theorem dX8_lists_83 : decode cX8_lists 83 = .ok (.dup, 1) := by decide +kernel
theorem dX8_lists_84 : decode cX8_lists 84 = .ok (.getfield 124, 3) := by decide +kernel
theorem dX8_lists_87 : decode cX8_lists 87 = .ok (.iconst 1, 1) := by decide +kernel
theorem dX8_lists_88 : decode cX8_lists 88 = .ok (.iadd, 1) := by decide +kernel
theorem dX8_lists_89 : decode cX8_lists 89 = .ok (.putfield 124, 3) := by decide +kernel
theorem dX8_lists_92 : decode cX8_lists 92 = .ok (.iinc 3 1, 3) := by decide +kernel
theorem dX8_lists_95 : decode cX8_lists 95 = .ok (.goto (-71), 3) := by decide +kernel
theorem dX8_lists_98 : decode cX8_lists 98 = .ok (.iinc 1 1, 3) := by decide +kernel
theorem dX8_lists_101 : decode cX8_lists 101 = .ok (.goto (-94), 3) := by decide +kernel
theorem dX8_lists_104 : decode cX8_lists 104 = .ok (.return_, 1) := by decide +kernel
theorem dX8_hinders_0 : decode cX8_hinders 0 = .ok (.aload_n 0, 1) := by decide +kernel
theorem dX8_hinders_1 : decode cX8_hinders 1 = .ok (.getfield 26, 3) := by decide +kernel
theorem dX8_hinders_4 : decode cX8_hinders 4 = .ok (.iload_n 2, 1) := by decide +kernel
theorem dX8_hinders_5 : decode cX8_hinders 5 = .ok (.iaload, 1) := by decide +kernel
theorem dX8_hinders_6 : decode cX8_hinders 6 = .ok (.ifCond .ne 21, 3) := by decide +kernel
theorem dX8_hinders_9 : decode cX8_hinders 9 = .ok (.aload_n 0, 1) := by decide +kernel
theorem dX8_hinders_10 : decode cX8_hinders 10 = .ok (.getfield 23, 3) := by decide +kernel
theorem dX8_hinders_13 : decode cX8_hinders 13 = .ok (.iload_n 2, 1) := by decide +kernel
theorem dX8_hinders_14 : decode cX8_hinders 14 = .ok (.iaload, 1) := by decide +kernel
theorem dX8_hinders_15 : decode cX8_hinders 15 = .ok (.aload_n 0, 1) := by decide +kernel
theorem dX8_hinders_16 : decode cX8_hinders 16 = .ok (.getfield 56, 3) := by decide +kernel
theorem dX8_hinders_19 : decode cX8_hinders 19 = .ok (.iload_n 1, 1) := by decide +kernel
theorem dX8_hinders_20 : decode cX8_hinders 20 = .ok (.iaload, 1) := by decide +kernel
theorem dX8_hinders_21 : decode cX8_hinders 21 = .ok (.invokestatic 130, 3) := by decide +kernel
theorem dX8_hinders_24 : decode cX8_hinders 24 = .ok (.ifCond .ne 5, 3) := by decide +kernel
theorem dX8_hinders_27 : decode cX8_hinders 27 = .ok (.iload_n 1, 1) := by decide +kernel
theorem dX8_hinders_28 : decode cX8_hinders 28 = .ok (.ireturn, 1) := by decide +kernel
theorem dX8_hinders_29 : decode cX8_hinders 29 = .ok (.iconst 0, 1) := by decide +kernel
theorem dX8_hinders_30 : decode cX8_hinders 30 = .ok (.istore_n 3, 1) := by decide +kernel
theorem dX8_hinders_31 : decode cX8_hinders 31 = .ok (.iload_n 3, 1) := by decide +kernel
theorem dX8_hinders_32 : decode cX8_hinders 32 = .ok (.iload_n 1, 1) := by decide +kernel
theorem dX8_hinders_33 : decode cX8_hinders 33 = .ok (.if_icmp .ge 55, 3) := by decide +kernel
theorem dX8_hinders_36 : decode cX8_hinders 36 = .ok (.aload_n 0, 1) := by decide +kernel
theorem dX8_hinders_37 : decode cX8_hinders 37 = .ok (.getfield 59, 3) := by decide +kernel
theorem dX8_hinders_40 : decode cX8_hinders 40 = .ok (.iload_n 3, 1) := by decide +kernel
theorem dX8_hinders_41 : decode cX8_hinders 41 = .ok (.iaload, 1) := by decide +kernel
theorem dX8_hinders_42 : decode cX8_hinders 42 = .ok (.iload_n 2, 1) := by decide +kernel
theorem dX8_hinders_43 : decode cX8_hinders 43 = .ok (.if_icmp .ne 39, 3) := by decide +kernel
theorem dX8_hinders_46 : decode cX8_hinders 46 = .ok (.aload_n 0, 1) := by decide +kernel
theorem dX8_hinders_47 : decode cX8_hinders 47 = .ok (.getfield 53, 3) := by decide +kernel
theorem dX8_hinders_50 : decode cX8_hinders 50 = .ok (.iload_n 3, 1) := by decide +kernel
theorem dX8_hinders_51 : decode cX8_hinders 51 = .ok (.iaload, 1) := by decide +kernel
theorem dX8_hinders_52 : decode cX8_hinders 52 = .ok (.aload_n 0, 1) := by decide +kernel
theorem dX8_hinders_53 : decode cX8_hinders 53 = .ok (.getfield 53, 3) := by decide +kernel
theorem dX8_hinders_56 : decode cX8_hinders 56 = .ok (.iload_n 1, 1) := by decide +kernel
theorem dX8_hinders_57 : decode cX8_hinders 57 = .ok (.iaload, 1) := by decide +kernel
theorem dX8_hinders_58 : decode cX8_hinders 58 = .ok (.if_icmp .eq 22, 3) := by decide +kernel
theorem dX8_hinders_61 : decode cX8_hinders 61 = .ok (.aload_n 0, 1) := by decide +kernel
theorem dX8_hinders_62 : decode cX8_hinders 62 = .ok (.aload_n 0, 1) := by decide +kernel
theorem dX8_hinders_63 : decode cX8_hinders 63 = .ok (.getfield 53, 3) := by decide +kernel
theorem dX8_hinders_66 : decode cX8_hinders 66 = .ok (.iload_n 3, 1) := by decide +kernel
theorem dX8_hinders_67 : decode cX8_hinders 67 = .ok (.iaload, 1) := by decide +kernel
theorem dX8_hinders_68 : decode cX8_hinders 68 = .ok (.aload_n 0, 1) := by decide +kernel
theorem dX8_hinders_69 : decode cX8_hinders 69 = .ok (.getfield 53, 3) := by decide +kernel
theorem dX8_hinders_72 : decode cX8_hinders 72 = .ok (.iload_n 1, 1) := by decide +kernel
theorem dX8_hinders_73 : decode cX8_hinders 73 = .ok (.iaload, 1) := by decide +kernel
theorem dX8_hinders_74 : decode cX8_hinders 74 = .ok (.invokevirtual 132, 3) := by decide +kernel
theorem dX8_hinders_77 : decode cX8_hinders 77 = .ok (.ifCond .ne 5, 3) := by decide +kernel
theorem dX8_hinders_80 : decode cX8_hinders 80 = .ok (.iload_n 3, 1) := by decide +kernel
theorem dX8_hinders_81 : decode cX8_hinders 81 = .ok (.ireturn, 1) := by decide +kernel
theorem dX8_hinders_82 : decode cX8_hinders 82 = .ok (.iinc 3 1, 3) := by decide +kernel
theorem dX8_hinders_85 : decode cX8_hinders 85 = .ok (.goto (-54), 3) := by decide +kernel
theorem dX8_hinders_88 : decode cX8_hinders 88 = .ok (.iconst (-1), 1) := by decide +kernel
theorem dX8_hinders_89 : decode cX8_hinders 89 = .ok (.ireturn, 1) := by decide +kernel
theorem dX8_takes_0 : decode cX8_takes 0 = .ok (.aload_n 0, 1) := by decide +kernel
theorem dX8_takes_1 : decode cX8_takes 1 = .ok (.getfield 59, 3) := by decide +kernel
theorem dX8_takes_4 : decode cX8_takes 4 = .ok (.iload_n 1, 1) := by decide +kernel
theorem dX8_takes_5 : decode cX8_takes 5 = .ok (.iaload, 1) := by decide +kernel
theorem dX8_takes_6 : decode cX8_takes 6 = .ok (.aload_n 0, 1) := by decide +kernel
theorem dX8_takes_7 : decode cX8_takes 7 = .ok (.getfield 102, 3) := by decide +kernel
theorem dX8_takes_10 : decode cX8_takes 10 = .ok (.iconst 1, 1) := by decide +kernel
theorem dX8_takes_11 : decode cX8_takes 11 = .ok (.isub, 1) := by decide +kernel
theorem dX8_takes_12 : decode cX8_takes 12 = .ok (.if_icmp .ge 52, 3) := by decide +kernel
theorem dX8_takes_15 : decode cX8_takes 15 = .ok (.aload_n 0, 1) := by decide +kernel
theorem dX8_takes_16 : decode cX8_takes 16 = .ok (.getfield 59, 3) := by decide +kernel
theorem dX8_takes_19 : decode cX8_takes 19 = .ok (.iload_n 1, 1) := by decide +kernel
theorem dX8_takes_20 : decode cX8_takes 20 = .ok (.dup2, 1) := by decide +kernel
theorem dX8_takes_21 : decode cX8_takes 21 = .ok (.iaload, 1) := by decide +kernel
theorem dX8_takes_22 : decode cX8_takes 22 = .ok (.iconst 1, 1) := by decide +kernel
theorem dX8_takes_23 : decode cX8_takes 23 = .ok (.iadd, 1) := by decide +kernel
theorem dX8_takes_24 : decode cX8_takes 24 = .ok (.iastore, 1) := by decide +kernel
theorem dX8_takes_25 : decode cX8_takes 25 = .ok (.aload_n 0, 1) := by decide +kernel
theorem dX8_takes_26 : decode cX8_takes 26 = .ok (.iload_n 1, 1) := by decide +kernel
theorem dX8_takes_27 : decode cX8_takes 27 = .ok (.aload_n 0, 1) := by decide +kernel
theorem dX8_takes_28 : decode cX8_takes 28 = .ok (.getfield 59, 3) := by decide +kernel
theorem dX8_takes_31 : decode cX8_takes 31 = .ok (.iload_n 1, 1) := by decide +kernel
theorem dX8_takes_32 : decode cX8_takes 32 = .ok (.iaload, 1) := by decide +kernel
theorem dX8_takes_33 : decode cX8_takes 33 = .ok (.invokevirtual 135, 3) := by decide +kernel
theorem dX8_takes_36 : decode cX8_takes 36 = .ok (.istore_n 2, 1) := by decide +kernel
theorem dX8_takes_37 : decode cX8_takes 37 = .ok (.iload_n 2, 1) := by decide +kernel
theorem dX8_takes_38 : decode cX8_takes 38 = .ok (.iconst (-1), 1) := by decide +kernel
theorem dX8_takes_39 : decode cX8_takes 39 = .ok (.if_icmp .ne 5, 3) := by decide +kernel
theorem dX8_takes_42 : decode cX8_takes 42 = .ok (.iconst 1, 1) := by decide +kernel
theorem dX8_takes_43 : decode cX8_takes 43 = .ok (.ireturn, 1) := by decide +kernel
theorem dX8_takes_44 : decode cX8_takes 44 = .ok (.iload_n 2, 1) := by decide +kernel
theorem dX8_takes_45 : decode cX8_takes 45 = .ok (.iload_n 1, 1) := by decide +kernel
theorem dX8_takes_46 : decode cX8_takes 46 = .ok (.if_icmp .ge 15, 3) := by decide +kernel
theorem dX8_takes_49 : decode cX8_takes 49 = .ok (.aload_n 0, 1) := by decide +kernel
theorem dX8_takes_50 : decode cX8_takes 50 = .ok (.getfield 62, 3) := by decide +kernel
theorem dX8_takes_53 : decode cX8_takes 53 = .ok (.iload_n 1, 1) := by decide +kernel
theorem dX8_takes_54 : decode cX8_takes 54 = .ok (.dup2, 1) := by decide +kernel
theorem dX8_takes_55 : decode cX8_takes 55 = .ok (.iaload, 1) := by decide +kernel
theorem dX8_takes_56 : decode cX8_takes 56 = .ok (.iconst 1, 1) := by decide +kernel
theorem dX8_takes_57 : decode cX8_takes 57 = .ok (.iload_n 2, 1) := by decide +kernel
theorem dX8_takes_58 : decode cX8_takes 58 = .ok (.ishl, 1) := by decide +kernel
theorem dX8_takes_59 : decode cX8_takes 59 = .ok (.ior, 1) := by decide +kernel
theorem dX8_takes_60 : decode cX8_takes 60 = .ok (.iastore, 1) := by decide +kernel
theorem dX8_takes_61 : decode cX8_takes 61 = .ok (.goto (-61), 3) := by decide +kernel
theorem dX8_takes_64 : decode cX8_takes 64 = .ok (.iconst 0, 1) := by decide +kernel
theorem dX8_takes_65 : decode cX8_takes 65 = .ok (.ireturn, 1) := by decide +kernel
theorem dX8_canBePlayed_0 : decode cX8_canBePlayed 0 = .ok (.aload_n 0, 1) := by decide +kernel
theorem dX8_canBePlayed_1 : decode cX8_canBePlayed 1 = .ok (.invokevirtual 138, 3) := by decide +kernel
theorem dX8_canBePlayed_4 : decode cX8_canBePlayed 4 = .ok (.aload_n 0, 1) := by decide +kernel
theorem dX8_canBePlayed_5 : decode cX8_canBePlayed 5 = .ok (.invokevirtual 141, 3) := by decide +kernel
theorem dX8_canBePlayed_8 : decode cX8_canBePlayed 8 = .ok (.ifCond .ne 5, 3) := by decide +kernel
theorem dX8_canBePlayed_11 : decode cX8_canBePlayed 11 = .ok (.iconst 0, 1) := by decide +kernel
theorem dX8_canBePlayed_12 : decode cX8_canBePlayed 12 = .ok (.ireturn, 1) := by decide +kernel
theorem dX8_canBePlayed_13 : decode cX8_canBePlayed 13 = .ok (.iconst 0, 1) := by decide +kernel
theorem dX8_canBePlayed_14 : decode cX8_canBePlayed 14 = .ok (.istore_n 1, 1) := by decide +kernel
theorem dX8_canBePlayed_15 : decode cX8_canBePlayed 15 = .ok (.aload_n 0, 1) := by decide +kernel
theorem dX8_canBePlayed_16 : decode cX8_canBePlayed 16 = .ok (.getfield 59, 3) := by decide +kernel
theorem dX8_canBePlayed_19 : decode cX8_canBePlayed 19 = .ok (.iconst 0, 1) := by decide +kernel
theorem dX8_canBePlayed_20 : decode cX8_canBePlayed 20 = .ok (.iconst (-1), 1) := by decide +kernel
theorem dX8_canBePlayed_21 : decode cX8_canBePlayed 21 = .ok (.iastore, 1) := by decide +kernel
theorem dX8_canBePlayed_22 : decode cX8_canBePlayed 22 = .ok (.aload_n 0, 1) := by decide +kernel
theorem dX8_canBePlayed_23 : decode cX8_canBePlayed 23 = .ok (.getfield 62, 3) := by decide +kernel
theorem dX8_canBePlayed_26 : decode cX8_canBePlayed 26 = .ok (.iconst 0, 1) := by decide +kernel
theorem dX8_canBePlayed_27 : decode cX8_canBePlayed 27 = .ok (.iconst 0, 1) := by decide +kernel
theorem dX8_canBePlayed_28 : decode cX8_canBePlayed 28 = .ok (.iastore, 1) := by decide +kernel
theorem dX8_canBePlayed_29 : decode cX8_canBePlayed 29 = .ok (.iload_n 1, 1) := by decide +kernel
theorem dX8_canBePlayed_30 : decode cX8_canBePlayed 30 = .ok (.aload_n 0, 1) := by decide +kernel
theorem dX8_canBePlayed_31 : decode cX8_canBePlayed 31 = .ok (.getfield 124, 3) := by decide +kernel
theorem dX8_canBePlayed_34 : decode cX8_canBePlayed 34 = .ok (.if_icmp .ge 110, 3) := by decide +kernel
theorem dX8_canBePlayed_37 : decode cX8_canBePlayed 37 = .ok (.aload_n 0, 1) := by decide +kernel
theorem dX8_canBePlayed_38 : decode cX8_canBePlayed 38 = .ok (.iload_n 1, 1) := by decide +kernel
theorem dX8_canBePlayed_39 : decode cX8_canBePlayed 39 = .ok (.invokevirtual 145, 3) := by decide +kernel
theorem dX8_canBePlayed_42 : decode cX8_canBePlayed 42 = .ok (.ifCond .eq 31, 3) := by decide +kernel
theorem dX8_canBePlayed_45 : decode cX8_canBePlayed 45 = .ok (.iinc 1 1, 3) := by decide +kernel
theorem dX8_canBePlayed_48 : decode cX8_canBePlayed 48 = .ok (.iload_n 1, 1) := by decide +kernel
theorem dX8_canBePlayed_49 : decode cX8_canBePlayed 49 = .ok (.aload_n 0, 1) := by decide +kernel
theorem dX8_canBePlayed_50 : decode cX8_canBePlayed 50 = .ok (.getfield 124, 3) := by decide +kernel
theorem dX8_canBePlayed_53 : decode cX8_canBePlayed 53 = .ok (.if_icmp .ge (-24), 3) := by decide +kernel
theorem dX8_canBePlayed_56 : decode cX8_canBePlayed 56 = .ok (.aload_n 0, 1) := by decide +kernel
theorem dX8_canBePlayed_57 : decode cX8_canBePlayed 57 = .ok (.getfield 59, 3) := by decide +kernel
theorem dX8_canBePlayed_60 : decode cX8_canBePlayed 60 = .ok (.iload_n 1, 1) := by decide +kernel
theorem dX8_canBePlayed_61 : decode cX8_canBePlayed 61 = .ok (.iconst (-1), 1) := by decide +kernel
theorem dX8_canBePlayed_62 : decode cX8_canBePlayed 62 = .ok (.iastore, 1) := by decide +kernel
theorem dX8_canBePlayed_63 : decode cX8_canBePlayed 63 = .ok (.aload_n 0, 1) := by decide +kernel
theorem dX8_canBePlayed_64 : decode cX8_canBePlayed 64 = .ok (.getfield 62, 3) := by decide +kernel
theorem dX8_canBePlayed_67 : decode cX8_canBePlayed 67 = .ok (.iload_n 1, 1) := by decide +kernel
theorem dX8_canBePlayed_68 : decode cX8_canBePlayed 68 = .ok (.iconst 0, 1) := by decide +kernel
theorem dX8_canBePlayed_69 : decode cX8_canBePlayed 69 = .ok (.iastore, 1) := by decide +kernel
theorem dX8_canBePlayed_70 : decode cX8_canBePlayed 70 = .ok (.goto (-41), 3) := by decide +kernel
theorem dX8_canBePlayed_73 : decode cX8_canBePlayed 73 = .ok (.aload_n 0, 1) := by decide +kernel
theorem dX8_canBePlayed_74 : decode cX8_canBePlayed 74 = .ok (.getfield 62, 3) := by decide +kernel
theorem dX8_canBePlayed_77 : decode cX8_canBePlayed 77 = .ok (.iload_n 1, 1) := by decide +kernel
theorem dX8_canBePlayed_78 : decode cX8_canBePlayed 78 = .ok (.iaload, 1) := by decide +kernel
theorem dX8_canBePlayed_79 : decode cX8_canBePlayed 79 = .ok (.ifCond .ne 5, 3) := by decide +kernel
theorem dX8_canBePlayed_82 : decode cX8_canBePlayed 82 = .ok (.iconst 0, 1) := by decide +kernel
theorem dX8_canBePlayed_83 : decode cX8_canBePlayed 83 = .ok (.ireturn, 1) := by decide +kernel
theorem dX8_canBePlayed_84 : decode cX8_canBePlayed 84 = .ok (.iconst 0, 1) := by decide +kernel
theorem dX8_canBePlayed_85 : decode cX8_canBePlayed 85 = .ok (.istore_n 2, 1) := by decide +kernel
theorem dX8_canBePlayed_86 : decode cX8_canBePlayed 86 = .ok (.iconst 0, 1) := by decide +kernel
theorem dX8_canBePlayed_87 : decode cX8_canBePlayed 87 = .ok (.istore_n 3, 1) := by decide +kernel
theorem dX8_canBePlayed_88 : decode cX8_canBePlayed 88 = .ok (.iload_n 3, 1) := by decide +kernel
theorem dX8_canBePlayed_89 : decode cX8_canBePlayed 89 = .ok (.iload_n 1, 1) := by decide +kernel
theorem dX8_canBePlayed_90 : decode cX8_canBePlayed 90 = .ok (.if_icmp .ge 28, 3) := by decide +kernel
theorem dX8_canBePlayed_93 : decode cX8_canBePlayed 93 = .ok (.aload_n 0, 1) := by decide +kernel
theorem dX8_canBePlayed_94 : decode cX8_canBePlayed 94 = .ok (.getfield 62, 3) := by decide +kernel
theorem dX8_canBePlayed_97 : decode cX8_canBePlayed 97 = .ok (.iload_n 1, 1) := by decide +kernel
theorem dX8_canBePlayed_98 : decode cX8_canBePlayed 98 = .ok (.iaload, 1) := by decide +kernel
theorem dX8_canBePlayed_99 : decode cX8_canBePlayed 99 = .ok (.iload_n 3, 1) := by decide +kernel
theorem dX8_canBePlayed_100 : decode cX8_canBePlayed 100 = .ok (.invokestatic 130, 3) := by decide +kernel
theorem dX8_canBePlayed_103 : decode cX8_canBePlayed 103 = .ok (.ifCond .eq 7, 3) := by decide +kernel
theorem dX8_canBePlayed_106 : decode cX8_canBePlayed 106 = .ok (.iload_n 3, 1) := by decide +kernel
theorem dX8_canBePlayed_107 : decode cX8_canBePlayed 107 = .ok (.goto 4, 3) := by decide +kernel
theorem dX8_canBePlayed_110 : decode cX8_canBePlayed 110 = .ok (.iload_n 2, 1) := by decide +kernel
theorem dX8_canBePlayed_111 : decode cX8_canBePlayed 111 = .ok (.istore_n 2, 1) := by decide +kernel
theorem dX8_canBePlayed_112 : decode cX8_canBePlayed 112 = .ok (.iinc 3 1, 3) := by decide +kernel
theorem dX8_canBePlayed_115 : decode cX8_canBePlayed 115 = .ok (.goto (-27), 3) := by decide +kernel
theorem dX8_canBePlayed_118 : decode cX8_canBePlayed 118 = .ok (.aload_n 0, 1) := by decide +kernel
theorem dX8_canBePlayed_119 : decode cX8_canBePlayed 119 = .ok (.getfield 62, 3) := by decide +kernel
theorem dX8_canBePlayed_122 : decode cX8_canBePlayed 122 = .ok (.iload_n 2, 1) := by decide +kernel
theorem dX8_canBePlayed_123 : decode cX8_canBePlayed 123 = .ok (.dup2, 1) := by decide +kernel
theorem dX8_canBePlayed_124 : decode cX8_canBePlayed 124 = .ok (.iaload, 1) := by decide +kernel
theorem dX8_canBePlayed_125 : decode cX8_canBePlayed 125 = .ok (.aload_n 0, 1) := by decide +kernel
theorem dX8_canBePlayed_126 : decode cX8_canBePlayed 126 = .ok (.getfield 62, 3) := by decide +kernel
theorem dX8_canBePlayed_129 : decode cX8_canBePlayed 129 = .ok (.iload_n 1, 1) := by decide +kernel
theorem dX8_canBePlayed_130 : decode cX8_canBePlayed 130 = .ok (.iaload, 1) := by decide +kernel
theorem dX8_canBePlayed_131 : decode cX8_canBePlayed 131 = .ok (.iconst 1, 1) := by decide +kernel
theorem dX8_canBePlayed_132 : decode cX8_canBePlayed 132 = .ok (.iload_n 2, 1) := by decide +kernel
theorem dX8_canBePlayed_133 : decode cX8_canBePlayed 133 = .ok (.ishl, 1) := by decide +kernel
theorem dX8_canBePlayed_134 : decode cX8_canBePlayed 134 = .ok (.iconst (-1), 1) := by decide +kernel
theorem dX8_canBePlayed_135 : decode cX8_canBePlayed 135 = .ok (.ixor, 1) := by decide +kernel
theorem dX8_canBePlayed_136 : decode cX8_canBePlayed 136 = .ok (.iand, 1) := by decide +kernel
theorem dX8_canBePlayed_137 : decode cX8_canBePlayed 137 = .ok (.ior, 1) := by decide +kernel
theorem dX8_canBePlayed_138 : decode cX8_canBePlayed 138 = .ok (.iastore, 1) := by decide +kernel
theorem dX8_canBePlayed_139 : decode cX8_canBePlayed 139 = .ok (.iload_n 2, 1) := by decide +kernel
theorem dX8_canBePlayed_140 : decode cX8_canBePlayed 140 = .ok (.istore_n 1, 1) := by decide +kernel
theorem dX8_canBePlayed_141 : decode cX8_canBePlayed 141 = .ok (.goto (-112), 3) := by decide +kernel
theorem dX8_canBePlayed_144 : decode cX8_canBePlayed 144 = .ok (.iconst 1, 1) := by decide +kernel
theorem dX8_canBePlayed_145 : decode cX8_canBePlayed 145 = .ok (.ireturn, 1) := by decide +kernel
theorem dX8_works_0 : decode cX8_works 0 = .ok (.aload_n 0, 1) := by decide +kernel
theorem dX8_works_1 : decode cX8_works 1 = .ok (.invokevirtual 148, 3) := by decide +kernel
theorem dX8_works_4 : decode cX8_works 4 = .ok (.aload_n 0, 1) := by decide +kernel
theorem dX8_works_5 : decode cX8_works 5 = .ok (.iconst 0, 1) := by decide +kernel
theorem dX8_works_6 : decode cX8_works 6 = .ok (.putfield 127, 3) := by decide +kernel
theorem dX8_works_9 : decode cX8_works 9 = .ok (.iconst 0, 1) := by decide +kernel
theorem dX8_works_10 : decode cX8_works 10 = .ok (.istore_n 1, 1) := by decide +kernel
theorem dX8_works_11 : decode cX8_works 11 = .ok (.iload_n 1, 1) := by decide +kernel
theorem dX8_works_12 : decode cX8_works 12 = .ok (.aload_n 0, 1) := by decide +kernel
theorem dX8_works_13 : decode cX8_works 13 = .ok (.getfield 115, 3) := by decide +kernel
theorem dX8_works_16 : decode cX8_works 16 = .ok (.if_icmp .ge 52, 3) := by decide +kernel
theorem dX8_works_19 : decode cX8_works 19 = .ok (.aload_n 0, 1) := by decide +kernel
theorem dX8_works_20 : decode cX8_works 20 = .ok (.dup, 1) := by decide +kernel
theorem dX8_works_21 : decode cX8_works 21 = .ok (.getfield 127, 3) := by decide +kernel
theorem dX8_works_24 : decode cX8_works 24 = .ok (.iconst 1, 1) := by decide +kernel
theorem dX8_works_25 : decode cX8_works 25 = .ok (.aload_n 0, 1) := by decide +kernel
theorem dX8_works_26 : decode cX8_works 26 = .ok (.getfield 50, 3) := by decide +kernel
theorem dX8_works_29 : decode cX8_works 29 = .ok (.iload_n 1, 1) := by decide +kernel
theorem dX8_works_30 : decode cX8_works 30 = .ok (.iaload, 1) := by decide +kernel
theorem dX8_works_31 : decode cX8_works 31 = .ok (.ishl, 1) := by decide +kernel
theorem dX8_works_32 : decode cX8_works 32 = .ok (.ior, 1) := by decide +kernel
theorem dX8_works_33 : decode cX8_works 33 = .ok (.putfield 127, 3) := by decide +kernel
end
section
theorem dX8_works_36 : decode cX8_works 36 = .ok (.aload_n 0, 1) := by decide +kernel
theorem dX8_works_37 : decode cX8_works 37 = .ok (.invokevirtual 151, 3) := by decide +kernel
theorem dX8_works_40 : decode cX8_works 40 = .ok (.ifCond .ne 22, 3) := by decide +kernel
theorem dX8_works_43 : decode cX8_works 43 = .ok (.aload_n 0, 1) := by decide +kernel
theorem dX8_works_44 : decode cX8_works 44 = .ok (.dup, 1) := by decide +kernel
theorem dX8_works_45 : decode cX8_works 45 = .ok (.getfield 127, 3) := by decide +kernel
theorem dX8_works_48 : decode cX8_works 48 = .ok (.iconst 1, 1) := by decide +kernel
theorem dX8_works_49 : decode cX8_works 49 = .ok (.aload_n 0, 1) := by decide +kernel
theorem dX8_works_50 : decode cX8_works 50 = .ok (.getfield 50, 3) := by decide +kernel
theorem dX8_works_53 : decode cX8_works 53 = .ok (.iload_n 1, 1) := by decide +kernel
theorem dX8_works_54 : decode cX8_works 54 = .ok (.iaload, 1) := by decide +kernel
theorem dX8_works_55 : decode cX8_works 55 = .ok (.ishl, 1) := by decide +kernel
theorem dX8_works_56 : decode cX8_works 56 = .ok (.iconst (-1), 1) := by decide +kernel
theorem dX8_works_57 : decode cX8_works 57 = .ok (.ixor, 1) := by decide +kernel
theorem dX8_works_58 : decode cX8_works 58 = .ok (.iand, 1) := by decide +kernel
theorem dX8_works_59 : decode cX8_works 59 = .ok (.putfield 127, 3) := by decide +kernel
theorem dX8_works_62 : decode cX8_works 62 = .ok (.iinc 1 1, 3) := by decide +kernel
theorem dX8_works_65 : decode cX8_works 65 = .ok (.goto (-54), 3) := by decide +kernel
theorem dX8_works_68 : decode cX8_works 68 = .ok (.aload_n 0, 1) := by decide +kernel
theorem dX8_works_69 : decode cX8_works 69 = .ok (.invokevirtual 151, 3) := by decide +kernel
theorem dX8_works_72 : decode cX8_works 72 = .ok (.istore_n 1, 1) := by decide +kernel
theorem dX8_works_73 : decode cX8_works 73 = .ok (.aload_n 0, 1) := by decide +kernel
theorem dX8_works_74 : decode cX8_works 74 = .ok (.getfield 127, 3) := by decide +kernel
theorem dX8_works_77 : decode cX8_works 77 = .ok (.ireturn, 1) := by decide +kernel
theorem dX8_played_0 : decode cX8_played 0 = .ok (.aload_n 0, 1) := by decide +kernel
theorem dX8_played_1 : decode cX8_played 1 = .ok (.invokevirtual 154, 3) := by decide +kernel
theorem dX8_played_4 : decode cX8_played 4 = .ok (.ireturn, 1) := by decide +kernel
theorem dX8_whoHas_0 : decode cX8_whoHas 0 = .ok (.iconst 0, 1) := by decide +kernel
theorem dX8_whoHas_1 : decode cX8_whoHas 1 = .ok (.istore_n 3, 1) := by decide +kernel
theorem dX8_whoHas_2 : decode cX8_whoHas 2 = .ok (.iconst 0, 1) := by decide +kernel
theorem dX8_whoHas_3 : decode cX8_whoHas 3 = .ok (.istore 4, 2) := by decide +kernel
theorem dX8_whoHas_5 : decode cX8_whoHas 5 = .ok (.iload 4, 2) := by decide +kernel
theorem dX8_whoHas_7 : decode cX8_whoHas 7 = .ok (.aload_n 0, 1) := by decide +kernel
theorem dX8_whoHas_8 : decode cX8_whoHas 8 = .ok (.getfield 124, 3) := by decide +kernel
theorem dX8_whoHas_11 : decode cX8_whoHas 11 = .ok (.if_icmp .ge 39, 3) := by decide +kernel
theorem dX8_whoHas_14 : decode cX8_whoHas 14 = .ok (.aload_n 0, 1) := by decide +kernel
theorem dX8_whoHas_15 : decode cX8_whoHas 15 = .ok (.getfield 53, 3) := by decide +kernel
theorem dX8_whoHas_18 : decode cX8_whoHas 18 = .ok (.iload 4, 2) := by decide +kernel
theorem dX8_whoHas_20 : decode cX8_whoHas 20 = .ok (.iaload, 1) := by decide +kernel
theorem dX8_whoHas_21 : decode cX8_whoHas 21 = .ok (.iload_n 1, 1) := by decide +kernel
theorem dX8_whoHas_22 : decode cX8_whoHas 22 = .ok (.if_icmp .eq 6, 3) := by decide +kernel
theorem dX8_whoHas_25 : decode cX8_whoHas 25 = .ok (.goto 19, 3) := by decide +kernel
theorem dX8_whoHas_28 : decode cX8_whoHas 28 = .ok (.iload_n 3, 1) := by decide +kernel
theorem dX8_whoHas_29 : decode cX8_whoHas 29 = .ok (.iload_n 2, 1) := by decide +kernel
theorem dX8_whoHas_30 : decode cX8_whoHas 30 = .ok (.if_icmp .ne 11, 3) := by decide +kernel
theorem dX8_whoHas_33 : decode cX8_whoHas 33 = .ok (.aload_n 0, 1) := by decide +kernel
theorem dX8_whoHas_34 : decode cX8_whoHas 34 = .ok (.getfield 59, 3) := by decide +kernel
theorem dX8_whoHas_37 : decode cX8_whoHas 37 = .ok (.iload 4, 2) := by decide +kernel
theorem dX8_whoHas_39 : decode cX8_whoHas 39 = .ok (.iaload, 1) := by decide +kernel
theorem dX8_whoHas_40 : decode cX8_whoHas 40 = .ok (.ireturn, 1) := by decide +kernel
theorem dX8_whoHas_41 : decode cX8_whoHas 41 = .ok (.iinc 3 1, 3) := by decide +kernel
theorem dX8_whoHas_44 : decode cX8_whoHas 44 = .ok (.iinc 4 1, 3) := by decide +kernel
theorem dX8_whoHas_47 : decode cX8_whoHas 47 = .ok (.goto (-42), 3) := by decide +kernel
theorem dX8_whoHas_50 : decode cX8_whoHas 50 = .ok (.iconst (-1), 1) := by decide +kernel
theorem dX8_whoHas_51 : decode cX8_whoHas 51 = .ok (.ireturn, 1) := by decide +kernel
theorem dX8_who_0 : decode cX8_who 0 = .ok (.aload_n 0, 1) := by decide +kernel
theorem dX8_who_1 : decode cX8_who 1 = .ok (.iload_n 1, 1) := by decide +kernel
theorem dX8_who_2 : decode cX8_who 2 = .ok (.invokevirtual 112, 3) := by decide +kernel
theorem dX8_who_5 : decode cX8_who 5 = .ok (.ifCond .eq 23, 3) := by decide +kernel
theorem dX8_who_8 : decode cX8_who 8 = .ok (.iload_n 2, 1) := by decide +kernel
theorem dX8_who_9 : decode cX8_who 9 = .ok (.iconst 0, 1) := by decide +kernel
theorem dX8_who_10 : decode cX8_who 10 = .ok (.iconst 1, 1) := by decide +kernel
theorem dX8_who_11 : decode cX8_who 11 = .ok (.invokestatic 91, 3) := by decide +kernel
theorem dX8_who_14 : decode cX8_who 14 = .ok (.ifCond .eq 14, 3) := by decide +kernel
theorem dX8_who_17 : decode cX8_who 17 = .ok (.aload_n 0, 1) := by decide +kernel
theorem dX8_who_18 : decode cX8_who 18 = .ok (.invokevirtual 154, 3) := by decide +kernel
theorem dX8_who_21 : decode cX8_who 21 = .ok (.iload_n 1, 1) := by decide +kernel
theorem dX8_who_22 : decode cX8_who 22 = .ok (.invokestatic 130, 3) := by decide +kernel
theorem dX8_who_25 : decode cX8_who 25 = .ok (.ifCond .ne 7, 3) := by decide +kernel
theorem dX8_who_28 : decode cX8_who 28 = .ok (.iconst (-1), 1) := by decide +kernel
theorem dX8_who_29 : decode cX8_who 29 = .ok (.goto 9, 3) := by decide +kernel
theorem dX8_who_32 : decode cX8_who 32 = .ok (.aload_n 0, 1) := by decide +kernel
theorem dX8_who_33 : decode cX8_who 33 = .ok (.iload_n 1, 1) := by decide +kernel
theorem dX8_who_34 : decode cX8_who 34 = .ok (.iload_n 2, 1) := by decide +kernel
theorem dX8_who_35 : decode cX8_who 35 = .ok (.invokevirtual 158, 3) := by decide +kernel
theorem dX8_who_38 : decode cX8_who 38 = .ok (.ireturn, 1) := by decide +kernel
theorem dX8_tune_0 : decode cX8_tune 0 = .ok (.aload_n 0, 1) := by decide +kernel
theorem dX8_tune_1 : decode cX8_tune 1 = .ok (.getfield 161, 3) := by decide +kernel
theorem dX8_tune_4 : decode cX8_tune 4 = .ok (.bipush 10, 2) := by decide +kernel
theorem dX8_tune_6 : decode cX8_tune 6 = .ok (.if_icmp .eq 24, 3) := by decide +kernel
theorem dX8_tune_9 : decode cX8_tune 9 = .ok (.iload_n 1, 1) := by decide +kernel
theorem dX8_tune_10 : decode cX8_tune 10 = .ok (.iconst 0, 1) := by decide +kernel
theorem dX8_tune_11 : decode cX8_tune 11 = .ok (.bipush 63, 2) := by decide +kernel
theorem dX8_tune_13 : decode cX8_tune 13 = .ok (.invokestatic 91, 3) := by decide +kernel
theorem dX8_tune_16 : decode cX8_tune 16 = .ok (.ifCond .eq 14, 3) := by decide +kernel
theorem dX8_tune_19 : decode cX8_tune 19 = .ok (.iload_n 2, 1) := by decide +kernel
theorem dX8_tune_20 : decode cX8_tune 20 = .ok (.iconst 0, 1) := by decide +kernel
theorem dX8_tune_21 : decode cX8_tune 21 = .ok (.sipush 4095, 3) := by decide +kernel
theorem dX8_tune_24 : decode cX8_tune 24 = .ok (.invokestatic 91, 3) := by decide +kernel
theorem dX8_tune_27 : decode cX8_tune 27 = .ok (.ifCond .ne 5, 3) := by decide +kernel
theorem dX8_tune_30 : decode cX8_tune 30 = .ok (.iconst (-1), 1) := by decide +kernel
theorem dX8_tune_31 : decode cX8_tune 31 = .ok (.ireturn, 1) := by decide +kernel
theorem dX8_tune_32 : decode cX8_tune 32 = .ok (.aload_n 0, 1) := by decide +kernel
theorem dX8_tune_33 : decode cX8_tune 33 = .ok (.getfield 38, 3) := by decide +kernel
theorem dX8_tune_36 : decode cX8_tune 36 = .ok (.aload_n 0, 1) := by decide +kernel
theorem dX8_tune_37 : decode cX8_tune 37 = .ok (.getfield 161, 3) := by decide +kernel
theorem dX8_tune_40 : decode cX8_tune 40 = .ok (.iload_n 1, 1) := by decide +kernel
theorem dX8_tune_41 : decode cX8_tune 41 = .ok (.iastore, 1) := by decide +kernel
theorem dX8_tune_42 : decode cX8_tune 42 = .ok (.aload_n 0, 1) := by decide +kernel
theorem dX8_tune_43 : decode cX8_tune 43 = .ok (.getfield 41, 3) := by decide +kernel
theorem dX8_tune_46 : decode cX8_tune 46 = .ok (.aload_n 0, 1) := by decide +kernel
theorem dX8_tune_47 : decode cX8_tune 47 = .ok (.getfield 161, 3) := by decide +kernel
theorem dX8_tune_50 : decode cX8_tune 50 = .ok (.iload_n 2, 1) := by decide +kernel
theorem dX8_tune_51 : decode cX8_tune 51 = .ok (.iastore, 1) := by decide +kernel
theorem dX8_tune_52 : decode cX8_tune 52 = .ok (.aload_n 0, 1) := by decide +kernel
theorem dX8_tune_53 : decode cX8_tune 53 = .ok (.getfield 44, 3) := by decide +kernel
theorem dX8_tune_56 : decode cX8_tune 56 = .ok (.aload_n 0, 1) := by decide +kernel
theorem dX8_tune_57 : decode cX8_tune 57 = .ok (.getfield 161, 3) := by decide +kernel
theorem dX8_tune_60 : decode cX8_tune 60 = .ok (.iconst (-1), 1) := by decide +kernel
theorem dX8_tune_61 : decode cX8_tune 61 = .ok (.iastore, 1) := by decide +kernel
theorem dX8_tune_62 : decode cX8_tune 62 = .ok (.aload_n 0, 1) := by decide +kernel
theorem dX8_tune_63 : decode cX8_tune 63 = .ok (.getfield 47, 3) := by decide +kernel
theorem dX8_tune_66 : decode cX8_tune 66 = .ok (.aload_n 0, 1) := by decide +kernel
theorem dX8_tune_67 : decode cX8_tune 67 = .ok (.getfield 161, 3) := by decide +kernel
theorem dX8_tune_70 : decode cX8_tune 70 = .ok (.iconst 0, 1) := by decide +kernel
theorem dX8_tune_71 : decode cX8_tune 71 = .ok (.iastore, 1) := by decide +kernel
theorem dX8_tune_72 : decode cX8_tune 72 = .ok (.aload_n 0, 1) := by decide +kernel
theorem dX8_tune_73 : decode cX8_tune 73 = .ok (.dup, 1) := by decide +kernel
theorem dX8_tune_74 : decode cX8_tune 74 = .ok (.getfield 161, 3) := by decide +kernel
theorem dX8_tune_77 : decode cX8_tune 77 = .ok (.iconst 1, 1) := by decide +kernel
theorem dX8_tune_78 : decode cX8_tune 78 = .ok (.iadd, 1) := by decide +kernel
theorem dX8_tune_79 : decode cX8_tune 79 = .ok (.putfield 161, 3) := by decide +kernel
theorem dX8_tune_82 : decode cX8_tune 82 = .ok (.aload_n 0, 1) := by decide +kernel
theorem dX8_tune_83 : decode cX8_tune 83 = .ok (.getfield 161, 3) := by decide +kernel
theorem dX8_tune_86 : decode cX8_tune 86 = .ok (.iconst 1, 1) := by decide +kernel
theorem dX8_tune_87 : decode cX8_tune 87 = .ok (.isub, 1) := by decide +kernel
theorem dX8_tune_88 : decode cX8_tune 88 = .ok (.ireturn, 1) := by decide +kernel
theorem dX8_month_0 : decode cX8_month 0 = .ok (.aload_n 0, 1) := by decide +kernel
theorem dX8_month_1 : decode cX8_month 1 = .ok (.getfield 164, 3) := by decide +kernel
theorem dX8_month_4 : decode cX8_month 4 = .ok (.bipush 30, 2) := by decide +kernel
theorem dX8_month_6 : decode cX8_month 6 = .ok (.idiv, 1) := by decide +kernel
theorem dX8_month_7 : decode cX8_month 7 = .ok (.bipush 12, 2) := by decide +kernel
theorem dX8_month_9 : decode cX8_month 9 = .ok (.irem, 1) := by decide +kernel
theorem dX8_month_10 : decode cX8_month 10 = .ok (.ireturn, 1) := by decide +kernel
theorem dX8_tunesOf_0 : decode cX8_tunesOf 0 = .ok (.aload_n 0, 1) := by decide +kernel
theorem dX8_tunesOf_1 : decode cX8_tunesOf 1 = .ok (.invokevirtual 154, 3) := by decide +kernel
theorem dX8_tunesOf_4 : decode cX8_tunesOf 4 = .ok (.istore_n 1, 1) := by decide +kernel
theorem dX8_tunesOf_5 : decode cX8_tunesOf 5 = .ok (.aload_n 0, 1) := by decide +kernel
theorem dX8_tunesOf_6 : decode cX8_tunesOf 6 = .ok (.getfield 167, 3) := by decide +kernel
theorem dX8_tunesOf_9 : decode cX8_tunesOf 9 = .ok (.istore_n 2, 1) := by decide +kernel
theorem dX8_tunesOf_10 : decode cX8_tunesOf 10 = .ok (.iconst 0, 1) := by decide +kernel
theorem dX8_tunesOf_11 : decode cX8_tunesOf 11 = .ok (.istore_n 3, 1) := by decide +kernel
theorem dX8_tunesOf_12 : decode cX8_tunesOf 12 = .ok (.iload_n 3, 1) := by decide +kernel
theorem dX8_tunesOf_13 : decode cX8_tunesOf 13 = .ok (.aload_n 0, 1) := by decide +kernel
theorem dX8_tunesOf_14 : decode cX8_tunesOf 14 = .ok (.getfield 161, 3) := by decide +kernel
theorem dX8_tunesOf_17 : decode cX8_tunesOf 17 = .ok (.if_icmp .ge 21, 3) := by decide +kernel
theorem dX8_tunesOf_20 : decode cX8_tunesOf 20 = .ok (.aload_n 0, 1) := by decide +kernel
theorem dX8_tunesOf_21 : decode cX8_tunesOf 21 = .ok (.getfield 68, 3) := by decide +kernel
theorem dX8_tunesOf_24 : decode cX8_tunesOf 24 = .ok (.iload_n 3, 1) := by decide +kernel
theorem dX8_tunesOf_25 : decode cX8_tunesOf 25 = .ok (.aload_n 0, 1) := by decide +kernel
theorem dX8_tunesOf_26 : decode cX8_tunesOf 26 = .ok (.getfield 47, 3) := by decide +kernel
theorem dX8_tunesOf_29 : decode cX8_tunesOf 29 = .ok (.iload_n 3, 1) := by decide +kernel
theorem dX8_tunesOf_30 : decode cX8_tunesOf 30 = .ok (.iaload, 1) := by decide +kernel
theorem dX8_tunesOf_31 : decode cX8_tunesOf 31 = .ok (.iastore, 1) := by decide +kernel
theorem dX8_tunesOf_32 : decode cX8_tunesOf 32 = .ok (.iinc 3 1, 3) := by decide +kernel
theorem dX8_tunesOf_35 : decode cX8_tunesOf 35 = .ok (.goto (-23), 3) := by decide +kernel
theorem dX8_tunesOf_38 : decode cX8_tunesOf 38 = .ok (.iconst 0, 1) := by decide +kernel
theorem dX8_tunesOf_39 : decode cX8_tunesOf 39 = .ok (.istore_n 3, 1) := by decide +kernel
theorem dX8_tunesOf_40 : decode cX8_tunesOf 40 = .ok (.iload_n 3, 1) := by decide +kernel
theorem dX8_tunesOf_41 : decode cX8_tunesOf 41 = .ok (.aload_n 0, 1) := by decide +kernel
theorem dX8_tunesOf_42 : decode cX8_tunesOf 42 = .ok (.getfield 115, 3) := by decide +kernel
theorem dX8_tunesOf_45 : decode cX8_tunesOf 45 = .ok (.if_icmp .ge 167, 3) := by decide +kernel
theorem dX8_tunesOf_48 : decode cX8_tunesOf 48 = .ok (.aload_n 0, 1) := by decide +kernel
theorem dX8_tunesOf_49 : decode cX8_tunesOf 49 = .ok (.getfield 50, 3) := by decide +kernel
theorem dX8_tunesOf_52 : decode cX8_tunesOf 52 = .ok (.iload_n 3, 1) := by decide +kernel
theorem dX8_tunesOf_53 : decode cX8_tunesOf 53 = .ok (.iaload, 1) := by decide +kernel
theorem dX8_tunesOf_54 : decode cX8_tunesOf 54 = .ok (.istore 4, 2) := by decide +kernel
theorem dX8_tunesOf_56 : decode cX8_tunesOf 56 = .ok (.aload_n 0, 1) := by decide +kernel
theorem dX8_tunesOf_57 : decode cX8_tunesOf 57 = .ok (.getfield 65, 3) := by decide +kernel
theorem dX8_tunesOf_60 : decode cX8_tunesOf 60 = .ok (.iload 4, 2) := by decide +kernel
theorem dX8_tunesOf_62 : decode cX8_tunesOf 62 = .ok (.iconst (-1), 1) := by decide +kernel
theorem dX8_tunesOf_63 : decode cX8_tunesOf 63 = .ok (.iastore, 1) := by decide +kernel
theorem dX8_tunesOf_64 : decode cX8_tunesOf 64 = .ok (.iload_n 1, 1) := by decide +kernel
theorem dX8_tunesOf_65 : decode cX8_tunesOf 65 = .ok (.iload 4, 2) := by decide +kernel
theorem dX8_tunesOf_67 : decode cX8_tunesOf 67 = .ok (.invokestatic 130, 3) := by decide +kernel
theorem dX8_tunesOf_70 : decode cX8_tunesOf 70 = .ok (.ifCond .ne 6, 3) := by decide +kernel
theorem dX8_tunesOf_73 : decode cX8_tunesOf 73 = .ok (.goto 133, 3) := by decide +kernel
theorem dX8_tunesOf_76 : decode cX8_tunesOf 76 = .ok (.iconst 0, 1) := by decide +kernel
theorem dX8_tunesOf_77 : decode cX8_tunesOf 77 = .ok (.istore 5, 2) := by decide +kernel
theorem dX8_tunesOf_79 : decode cX8_tunesOf 79 = .ok (.iload 5, 2) := by decide +kernel
theorem dX8_tunesOf_81 : decode cX8_tunesOf 81 = .ok (.aload_n 0, 1) := by decide +kernel
theorem dX8_tunesOf_82 : decode cX8_tunesOf 82 = .ok (.getfield 161, 3) := by decide +kernel
theorem dX8_tunesOf_85 : decode cX8_tunesOf 85 = .ok (.if_icmp .ge 91, 3) := by decide +kernel
theorem dX8_tunesOf_88 : decode cX8_tunesOf 88 = .ok (.aload_n 0, 1) := by decide +kernel
theorem dX8_tunesOf_89 : decode cX8_tunesOf 89 = .ok (.getfield 38, 3) := by decide +kernel
theorem dX8_tunesOf_92 : decode cX8_tunesOf 92 = .ok (.iload 5, 2) := by decide +kernel
theorem dX8_tunesOf_94 : decode cX8_tunesOf 94 = .ok (.iaload, 1) := by decide +kernel
theorem dX8_tunesOf_95 : decode cX8_tunesOf 95 = .ok (.aload_n 0, 1) := by decide +kernel
theorem dX8_tunesOf_96 : decode cX8_tunesOf 96 = .ok (.iload 4, 2) := by decide +kernel
theorem dX8_tunesOf_98 : decode cX8_tunesOf 98 = .ok (.iconst 4, 1) := by decide +kernel
theorem dX8_tunesOf_99 : decode cX8_tunesOf 99 = .ok (.invokevirtual 118, 3) := by decide +kernel
theorem dX8_tunesOf_102 : decode cX8_tunesOf 102 = .ok (.invokestatic 130, 3) := by decide +kernel
theorem dX8_tunesOf_105 : decode cX8_tunesOf 105 = .ok (.ifCond .eq 65, 3) := by decide +kernel
theorem dX8_tunesOf_108 : decode cX8_tunesOf 108 = .ok (.aload_n 0, 1) := by decide +kernel
theorem dX8_tunesOf_109 : decode cX8_tunesOf 109 = .ok (.getfield 41, 3) := by decide +kernel
theorem dX8_tunesOf_112 : decode cX8_tunesOf 112 = .ok (.iload 5, 2) := by decide +kernel
theorem dX8_tunesOf_114 : decode cX8_tunesOf 114 = .ok (.iaload, 1) := by decide +kernel
theorem dX8_tunesOf_115 : decode cX8_tunesOf 115 = .ok (.aload_n 0, 1) := by decide +kernel
theorem dX8_tunesOf_116 : decode cX8_tunesOf 116 = .ok (.invokevirtual 170, 3) := by decide +kernel
theorem dX8_tunesOf_119 : decode cX8_tunesOf 119 = .ok (.invokestatic 130, 3) := by decide +kernel
theorem dX8_tunesOf_122 : decode cX8_tunesOf 122 = .ok (.ifCond .ne 6, 3) := by decide +kernel
theorem dX8_tunesOf_125 : decode cX8_tunesOf 125 = .ok (.goto 45, 3) := by decide +kernel
theorem dX8_tunesOf_128 : decode cX8_tunesOf 128 = .ok (.aload_n 0, 1) := by decide +kernel
theorem dX8_tunesOf_129 : decode cX8_tunesOf 129 = .ok (.getfield 65, 3) := by decide +kernel
theorem dX8_tunesOf_132 : decode cX8_tunesOf 132 = .ok (.iload 4, 2) := by decide +kernel
theorem dX8_tunesOf_134 : decode cX8_tunesOf 134 = .ok (.iaload, 1) := by decide +kernel
theorem dX8_tunesOf_135 : decode cX8_tunesOf 135 = .ok (.iconst (-1), 1) := by decide +kernel
theorem dX8_tunesOf_136 : decode cX8_tunesOf 136 = .ok (.if_icmp .eq 25, 3) := by decide +kernel
theorem dX8_tunesOf_139 : decode cX8_tunesOf 139 = .ok (.aload_n 0, 1) := by decide +kernel
theorem dX8_tunesOf_140 : decode cX8_tunesOf 140 = .ok (.getfield 68, 3) := by decide +kernel
theorem dX8_tunesOf_143 : decode cX8_tunesOf 143 = .ok (.iload 5, 2) := by decide +kernel
theorem dX8_tunesOf_145 : decode cX8_tunesOf 145 = .ok (.iaload, 1) := by decide +kernel
theorem dX8_tunesOf_146 : decode cX8_tunesOf 146 = .ok (.aload_n 0, 1) := by decide +kernel
theorem dX8_tunesOf_147 : decode cX8_tunesOf 147 = .ok (.getfield 68, 3) := by decide +kernel
theorem dX8_tunesOf_150 : decode cX8_tunesOf 150 = .ok (.aload_n 0, 1) := by decide +kernel
theorem dX8_tunesOf_151 : decode cX8_tunesOf 151 = .ok (.getfield 65, 3) := by decide +kernel
theorem dX8_tunesOf_154 : decode cX8_tunesOf 154 = .ok (.iload 4, 2) := by decide +kernel
theorem dX8_tunesOf_156 : decode cX8_tunesOf 156 = .ok (.iaload, 1) := by decide +kernel
theorem dX8_tunesOf_157 : decode cX8_tunesOf 157 = .ok (.iaload, 1) := by decide +kernel
theorem dX8_tunesOf_158 : decode cX8_tunesOf 158 = .ok (.if_icmp .ge 12, 3) := by decide +kernel
theorem dX8_tunesOf_161 : decode cX8_tunesOf 161 = .ok (.aload_n 0, 1) := by decide +kernel
theorem dX8_tunesOf_162 : decode cX8_tunesOf 162 = .ok (.getfield 65, 3) := by decide +kernel
theorem dX8_tunesOf_165 : decode cX8_tunesOf 165 = .ok (.iload 4, 2) := by decide +kernel
theorem dX8_tunesOf_167 : decode cX8_tunesOf 167 = .ok (.iload 5, 2) := by decide +kernel
theorem dX8_tunesOf_169 : decode cX8_tunesOf 169 = .ok (.iastore, 1) := by decide +kernel
theorem dX8_tunesOf_170 : decode cX8_tunesOf 170 = .ok (.iinc 5 1, 3) := by decide +kernel
theorem dX8_tunesOf_173 : decode cX8_tunesOf 173 = .ok (.goto (-94), 3) := by decide +kernel
theorem dX8_tunesOf_176 : decode cX8_tunesOf 176 = .ok (.aload_n 0, 1) := by decide +kernel
theorem dX8_tunesOf_177 : decode cX8_tunesOf 177 = .ok (.getfield 65, 3) := by decide +kernel
theorem dX8_tunesOf_180 : decode cX8_tunesOf 180 = .ok (.iload 4, 2) := by decide +kernel
theorem dX8_tunesOf_182 : decode cX8_tunesOf 182 = .ok (.iaload, 1) := by decide +kernel
theorem dX8_tunesOf_183 : decode cX8_tunesOf 183 = .ok (.iconst (-1), 1) := by decide +kernel
theorem dX8_tunesOf_184 : decode cX8_tunesOf 184 = .ok (.if_icmp .ne 6, 3) := by decide +kernel
theorem dX8_tunesOf_187 : decode cX8_tunesOf 187 = .ok (.goto 19, 3) := by decide +kernel
theorem dX8_tunesOf_190 : decode cX8_tunesOf 190 = .ok (.iinc 2 1, 3) := by decide +kernel
theorem dX8_tunesOf_193 : decode cX8_tunesOf 193 = .ok (.aload_n 0, 1) := by decide +kernel
theorem dX8_tunesOf_194 : decode cX8_tunesOf 194 = .ok (.getfield 68, 3) := by decide +kernel
theorem dX8_tunesOf_197 : decode cX8_tunesOf 197 = .ok (.aload_n 0, 1) := by decide +kernel
theorem dX8_tunesOf_198 : decode cX8_tunesOf 198 = .ok (.getfield 65, 3) := by decide +kernel
theorem dX8_tunesOf_201 : decode cX8_tunesOf 201 = .ok (.iload 4, 2) := by decide +kernel
theorem dX8_tunesOf_203 : decode cX8_tunesOf 203 = .ok (.iaload, 1) := by decide +kernel
theorem dX8_tunesOf_204 : decode cX8_tunesOf 204 = .ok (.iload_n 2, 1) := by decide +kernel
theorem dX8_tunesOf_205 : decode cX8_tunesOf 205 = .ok (.iastore, 1) := by decide +kernel
theorem dX8_tunesOf_206 : decode cX8_tunesOf 206 = .ok (.iinc 3 1, 3) := by decide +kernel
theorem dX8_tunesOf_209 : decode cX8_tunesOf 209 = .ok (.goto (-169), 3) := by decide +kernel
theorem dX8_tunesOf_212 : decode cX8_tunesOf 212 = .ok (.return_, 1) := by decide +kernel
theorem dX8_heard_0 : decode cX8_heard 0 = .ok (.aload_n 0, 1) := by decide +kernel
theorem dX8_heard_1 : decode cX8_heard 1 = .ok (.iload_n 1, 1) := by decide +kernel
theorem dX8_heard_2 : decode cX8_heard 2 = .ok (.invokevirtual 112, 3) := by decide +kernel
theorem dX8_heard_5 : decode cX8_heard 5 = .ok (.ifCond .ne 5, 3) := by decide +kernel
theorem dX8_heard_8 : decode cX8_heard 8 = .ok (.iconst (-1), 1) := by decide +kernel
theorem dX8_heard_9 : decode cX8_heard 9 = .ok (.ireturn, 1) := by decide +kernel
theorem dX8_heard_10 : decode cX8_heard 10 = .ok (.aload_n 0, 1) := by decide +kernel
theorem dX8_heard_11 : decode cX8_heard 11 = .ok (.invokevirtual 173, 3) := by decide +kernel
theorem dX8_heard_14 : decode cX8_heard 14 = .ok (.aload_n 0, 1) := by decide +kernel
theorem dX8_heard_15 : decode cX8_heard 15 = .ok (.getfield 65, 3) := by decide +kernel
theorem dX8_heard_18 : decode cX8_heard 18 = .ok (.iload_n 1, 1) := by decide +kernel
theorem dX8_heard_19 : decode cX8_heard 19 = .ok (.iaload, 1) := by decide +kernel
theorem dX8_heard_20 : decode cX8_heard 20 = .ok (.ireturn, 1) := by decide +kernel
theorem dX8_fundOf_0 : decode cX8_fundOf 0 = .ok (.aload_n 0, 1) := by decide +kernel
theorem dX8_fundOf_1 : decode cX8_fundOf 1 = .ok (.iload_n 1, 1) := by decide +kernel
theorem dX8_fundOf_2 : decode cX8_fundOf 2 = .ok (.bipush 7, 2) := by decide +kernel
theorem dX8_fundOf_4 : decode cX8_fundOf 4 = .ok (.invokevirtual 118, 3) := by decide +kernel
theorem dX8_fundOf_7 : decode cX8_fundOf 7 = .ok (.aload_n 0, 1) := by decide +kernel
theorem dX8_fundOf_8 : decode cX8_fundOf 8 = .ok (.getfield 13, 3) := by decide +kernel
theorem dX8_fundOf_11 : decode cX8_fundOf 11 = .ok (.iconst 1, 1) := by decide +kernel
theorem dX8_fundOf_12 : decode cX8_fundOf 12 = .ok (.iaload, 1) := by decide +kernel
theorem dX8_fundOf_13 : decode cX8_fundOf 13 = .ok (.imul, 1) := by decide +kernel
theorem dX8_fundOf_14 : decode cX8_fundOf 14 = .ok (.bipush 100, 2) := by decide +kernel
theorem dX8_fundOf_16 : decode cX8_fundOf 16 = .ok (.idiv, 1) := by decide +kernel
theorem dX8_fundOf_17 : decode cX8_fundOf 17 = .ok (.ireturn, 1) := by decide +kernel
theorem dX8_shareOf_0 : decode cX8_shareOf 0 = .ok (.aload_n 0, 1) := by decide +kernel
theorem dX8_shareOf_1 : decode cX8_shareOf 1 = .ok (.iload_n 1, 1) := by decide +kernel
theorem dX8_shareOf_2 : decode cX8_shareOf 2 = .ok (.iconst 0, 1) := by decide +kernel
theorem dX8_shareOf_3 : decode cX8_shareOf 3 = .ok (.invokevirtual 158, 3) := by decide +kernel
theorem dX8_shareOf_6 : decode cX8_shareOf 6 = .ok (.istore_n 3, 1) := by decide +kernel
theorem dX8_shareOf_7 : decode cX8_shareOf 7 = .ok (.aload_n 0, 1) := by decide +kernel
theorem dX8_shareOf_8 : decode cX8_shareOf 8 = .ok (.iload_n 1, 1) := by decide +kernel
theorem dX8_shareOf_9 : decode cX8_shareOf 9 = .ok (.iconst 1, 1) := by decide +kernel
theorem dX8_shareOf_10 : decode cX8_shareOf 10 = .ok (.invokevirtual 158, 3) := by decide +kernel
theorem dX8_shareOf_13 : decode cX8_shareOf 13 = .ok (.istore 4, 2) := by decide +kernel
theorem dX8_shareOf_15 : decode cX8_shareOf 15 = .ok (.aload_n 0, 1) := by decide +kernel
theorem dX8_shareOf_16 : decode cX8_shareOf 16 = .ok (.iload_n 1, 1) := by decide +kernel
theorem dX8_shareOf_17 : decode cX8_shareOf 17 = .ok (.bipush 7, 2) := by decide +kernel
theorem dX8_shareOf_19 : decode cX8_shareOf 19 = .ok (.invokevirtual 118, 3) := by decide +kernel
theorem dX8_shareOf_22 : decode cX8_shareOf 22 = .ok (.aload_n 0, 1) := by decide +kernel
theorem dX8_shareOf_23 : decode cX8_shareOf 23 = .ok (.iload_n 1, 1) := by decide +kernel
theorem dX8_shareOf_24 : decode cX8_shareOf 24 = .ok (.invokevirtual 176, 3) := by decide +kernel
theorem dX8_shareOf_27 : decode cX8_shareOf 27 = .ok (.isub, 1) := by decide +kernel
theorem dX8_shareOf_28 : decode cX8_shareOf 28 = .ok (.istore 5, 2) := by decide +kernel
theorem dX8_shareOf_30 : decode cX8_shareOf 30 = .ok (.iload_n 2, 1) := by decide +kernel
theorem dX8_shareOf_31 : decode cX8_shareOf 31 = .ok (.iload_n 3, 1) := by decide +kernel
theorem dX8_shareOf_32 : decode cX8_shareOf 32 = .ok (.if_icmp .eq 11, 3) := by decide +kernel
theorem dX8_shareOf_35 : decode cX8_shareOf 35 = .ok (.iload_n 2, 1) := by decide +kernel
theorem dX8_shareOf_36 : decode cX8_shareOf 36 = .ok (.iload 4, 2) := by decide +kernel
theorem dX8_shareOf_38 : decode cX8_shareOf 38 = .ok (.if_icmp .eq 5, 3) := by decide +kernel
theorem dX8_shareOf_41 : decode cX8_shareOf 41 = .ok (.iconst 0, 1) := by decide +kernel
theorem dX8_shareOf_42 : decode cX8_shareOf 42 = .ok (.ireturn, 1) := by decide +kernel
theorem dX8_shareOf_43 : decode cX8_shareOf 43 = .ok (.iload 4, 2) := by decide +kernel
theorem dX8_shareOf_45 : decode cX8_shareOf 45 = .ok (.iconst (-1), 1) := by decide +kernel
theorem dX8_shareOf_46 : decode cX8_shareOf 46 = .ok (.if_icmp .ne 6, 3) := by decide +kernel
theorem dX8_shareOf_49 : decode cX8_shareOf 49 = .ok (.iload 5, 2) := by decide +kernel
theorem dX8_shareOf_51 : decode cX8_shareOf 51 = .ok (.ireturn, 1) := by decide +kernel
theorem dX8_shareOf_52 : decode cX8_shareOf 52 = .ok (.aload_n 0, 1) := by decide +kernel
theorem dX8_shareOf_53 : decode cX8_shareOf 53 = .ok (.getfield 20, 3) := by decide +kernel
theorem dX8_shareOf_56 : decode cX8_shareOf 56 = .ok (.iload_n 3, 1) := by decide +kernel
theorem dX8_shareOf_57 : decode cX8_shareOf 57 = .ok (.iaload, 1) := by decide +kernel
theorem dX8_shareOf_58 : decode cX8_shareOf 58 = .ok (.aload_n 0, 1) := by decide +kernel
theorem dX8_shareOf_59 : decode cX8_shareOf 59 = .ok (.getfield 20, 3) := by decide +kernel
theorem dX8_shareOf_62 : decode cX8_shareOf 62 = .ok (.iload 4, 2) := by decide +kernel
theorem dX8_shareOf_64 : decode cX8_shareOf 64 = .ok (.iaload, 1) := by decide +kernel
theorem dX8_shareOf_65 : decode cX8_shareOf 65 = .ok (.iadd, 1) := by decide +kernel
theorem dX8_shareOf_66 : decode cX8_shareOf 66 = .ok (.istore 6, 2) := by decide +kernel
theorem dX8_shareOf_68 : decode cX8_shareOf 68 = .ok (.iload_n 2, 1) := by decide +kernel
theorem dX8_shareOf_69 : decode cX8_shareOf 69 = .ok (.iload_n 3, 1) := by decide +kernel
theorem dX8_shareOf_70 : decode cX8_shareOf 70 = .ok (.if_icmp .ne 8, 3) := by decide +kernel
theorem dX8_shareOf_73 : decode cX8_shareOf 73 = .ok (.iload 4, 2) := by decide +kernel
theorem dX8_shareOf_75 : decode cX8_shareOf 75 = .ok (.goto 4, 3) := by decide +kernel
theorem dX8_shareOf_78 : decode cX8_shareOf 78 = .ok (.iload_n 3, 1) := by decide +kernel
theorem dX8_shareOf_79 : decode cX8_shareOf 79 = .ok (.istore 7, 2) := by decide +kernel
theorem dX8_shareOf_81 : decode cX8_shareOf 81 = .ok (.iload 5, 2) := by decide +kernel
theorem dX8_shareOf_83 : decode cX8_shareOf 83 = .ok (.aload_n 0, 1) := by decide +kernel
theorem dX8_shareOf_84 : decode cX8_shareOf 84 = .ok (.getfield 20, 3) := by decide +kernel
theorem dX8_shareOf_87 : decode cX8_shareOf 87 = .ok (.iload_n 2, 1) := by decide +kernel
theorem dX8_shareOf_88 : decode cX8_shareOf 88 = .ok (.iaload, 1) := by decide +kernel
theorem dX8_shareOf_89 : decode cX8_shareOf 89 = .ok (.imul, 1) := by decide +kernel
theorem dX8_shareOf_90 : decode cX8_shareOf 90 = .ok (.iload 6, 2) := by decide +kernel
theorem dX8_shareOf_92 : decode cX8_shareOf 92 = .ok (.idiv, 1) := by decide +kernel
theorem dX8_shareOf_93 : decode cX8_shareOf 93 = .ok (.istore 8, 2) := by decide +kernel
theorem dX8_shareOf_95 : decode cX8_shareOf 95 = .ok (.iload 5, 2) := by decide +kernel
theorem dX8_shareOf_97 : decode cX8_shareOf 97 = .ok (.iload 8, 2) := by decide +kernel
theorem dX8_shareOf_99 : decode cX8_shareOf 99 = .ok (.isub, 1) := by decide +kernel
theorem dX8_shareOf_100 : decode cX8_shareOf 100 = .ok (.iload 5, 2) := by decide +kernel
theorem dX8_shareOf_102 : decode cX8_shareOf 102 = .ok (.aload_n 0, 1) := by decide +kernel
theorem dX8_shareOf_103 : decode cX8_shareOf 103 = .ok (.getfield 20, 3) := by decide +kernel
theorem dX8_shareOf_106 : decode cX8_shareOf 106 = .ok (.iload 7, 2) := by decide +kernel
theorem dX8_shareOf_108 : decode cX8_shareOf 108 = .ok (.iaload, 1) := by decide +kernel
theorem dX8_shareOf_109 : decode cX8_shareOf 109 = .ok (.imul, 1) := by decide +kernel
theorem dX8_shareOf_110 : decode cX8_shareOf 110 = .ok (.iload 6, 2) := by decide +kernel
theorem dX8_shareOf_112 : decode cX8_shareOf 112 = .ok (.idiv, 1) := by decide +kernel
theorem dX8_shareOf_113 : decode cX8_shareOf 113 = .ok (.isub, 1) := by decide +kernel
theorem dX8_shareOf_114 : decode cX8_shareOf 114 = .ok (.istore 9, 2) := by decide +kernel
theorem dX8_shareOf_116 : decode cX8_shareOf 116 = .ok (.iload 5, 2) := by decide +kernel
theorem dX8_shareOf_118 : decode cX8_shareOf 118 = .ok (.aload_n 0, 1) := by decide +kernel
theorem dX8_shareOf_119 : decode cX8_shareOf 119 = .ok (.getfield 20, 3) := by decide +kernel
theorem dX8_shareOf_122 : decode cX8_shareOf 122 = .ok (.iload_n 2, 1) := by decide +kernel
theorem dX8_shareOf_123 : decode cX8_shareOf 123 = .ok (.iaload, 1) := by decide +kernel
theorem dX8_shareOf_124 : decode cX8_shareOf 124 = .ok (.imul, 1) := by decide +kernel
theorem dX8_shareOf_125 : decode cX8_shareOf 125 = .ok (.iload 6, 2) := by decide +kernel
theorem dX8_shareOf_127 : decode cX8_shareOf 127 = .ok (.irem, 1) := by decide +kernel
theorem dX8_shareOf_128 : decode cX8_shareOf 128 = .ok (.istore 10, 2) := by decide +kernel
theorem dX8_shareOf_130 : decode cX8_shareOf 130 = .ok (.iload 5, 2) := by decide +kernel
theorem dX8_shareOf_132 : decode cX8_shareOf 132 = .ok (.aload_n 0, 1) := by decide +kernel
theorem dX8_shareOf_133 : decode cX8_shareOf 133 = .ok (.getfield 20, 3) := by decide +kernel
theorem dX8_shareOf_136 : decode cX8_shareOf 136 = .ok (.iload 7, 2) := by decide +kernel
theorem dX8_shareOf_138 : decode cX8_shareOf 138 = .ok (.iaload, 1) := by decide +kernel
theorem dX8_shareOf_139 : decode cX8_shareOf 139 = .ok (.imul, 1) := by decide +kernel
theorem dX8_shareOf_140 : decode cX8_shareOf 140 = .ok (.iload 6, 2) := by decide +kernel
theorem dX8_shareOf_142 : decode cX8_shareOf 142 = .ok (.irem, 1) := by decide +kernel
theorem dX8_shareOf_143 : decode cX8_shareOf 143 = .ok (.istore 11, 2) := by decide +kernel
theorem dX8_shareOf_145 : decode cX8_shareOf 145 = .ok (.iload 8, 2) := by decide +kernel
theorem dX8_shareOf_147 : decode cX8_shareOf 147 = .ok (.iload 10, 2) := by decide +kernel
theorem dX8_shareOf_149 : decode cX8_shareOf 149 = .ok (.iload 11, 2) := by decide +kernel
theorem dX8_shareOf_151 : decode cX8_shareOf 151 = .ok (.if_icmp .gt 16, 3) := by decide +kernel
theorem dX8_shareOf_154 : decode cX8_shareOf 154 = .ok (.iload 10, 2) := by decide +kernel
theorem dX8_shareOf_156 : decode cX8_shareOf 156 = .ok (.iload 11, 2) := by decide +kernel
theorem dX8_shareOf_158 : decode cX8_shareOf 158 = .ok (.if_icmp .ne 14, 3) := by decide +kernel
theorem dX8_shareOf_161 : decode cX8_shareOf 161 = .ok (.iload_n 2, 1) := by decide +kernel
theorem dX8_shareOf_162 : decode cX8_shareOf 162 = .ok (.iload 7, 2) := by decide +kernel
theorem dX8_shareOf_164 : decode cX8_shareOf 164 = .ok (.if_icmp .ge 8, 3) := by decide +kernel
theorem dX8_shareOf_167 : decode cX8_shareOf 167 = .ok (.iload 9, 2) := by decide +kernel
theorem dX8_shareOf_169 : decode cX8_shareOf 169 = .ok (.goto 4, 3) := by decide +kernel
theorem dX8_shareOf_172 : decode cX8_shareOf 172 = .ok (.iconst 0, 1) := by decide +kernel
theorem dX8_shareOf_173 : decode cX8_shareOf 173 = .ok (.iadd, 1) := by decide +kernel
theorem dX8_shareOf_174 : decode cX8_shareOf 174 = .ok (.ireturn, 1) := by decide +kernel
theorem dX8_share_0 : decode cX8_share 0 = .ok (.aload_n 0, 1) := by decide +kernel
theorem dX8_share_1 : decode cX8_share 1 = .ok (.iload_n 1, 1) := by decide +kernel
theorem dX8_share_2 : decode cX8_share 2 = .ok (.invokevirtual 112, 3) := by decide +kernel
theorem dX8_share_5 : decode cX8_share 5 = .ok (.ifCond .eq 27, 3) := by decide +kernel
theorem dX8_share_8 : decode cX8_share 8 = .ok (.iload_n 2, 1) := by decide +kernel
theorem dX8_share_9 : decode cX8_share 9 = .ok (.iconst (-1), 1) := by decide +kernel
theorem dX8_share_10 : decode cX8_share 10 = .ok (.if_icmp .eq 11, 3) := by decide +kernel
theorem dX8_share_13 : decode cX8_share 13 = .ok (.aload_n 0, 1) := by decide +kernel
theorem dX8_share_14 : decode cX8_share 14 = .ok (.iload_n 2, 1) := by decide +kernel
theorem dX8_share_15 : decode cX8_share 15 = .ok (.invokevirtual 105, 3) := by decide +kernel
theorem dX8_share_18 : decode cX8_share 18 = .ok (.ifCond .eq 14, 3) := by decide +kernel
theorem dX8_share_21 : decode cX8_share 21 = .ok (.aload_n 0, 1) := by decide +kernel
theorem dX8_share_22 : decode cX8_share 22 = .ok (.invokevirtual 154, 3) := by decide +kernel
theorem dX8_share_25 : decode cX8_share 25 = .ok (.iload_n 1, 1) := by decide +kernel
theorem dX8_share_26 : decode cX8_share 26 = .ok (.invokestatic 130, 3) := by decide +kernel
theorem dX8_share_29 : decode cX8_share 29 = .ok (.ifCond .ne 5, 3) := by decide +kernel
theorem dX8_share_32 : decode cX8_share 32 = .ok (.iconst (-1), 1) := by decide +kernel
theorem dX8_share_33 : decode cX8_share 33 = .ok (.ireturn, 1) := by decide +kernel
theorem dX8_share_34 : decode cX8_share 34 = .ok (.iload_n 2, 1) := by decide +kernel
theorem dX8_share_35 : decode cX8_share 35 = .ok (.iconst (-1), 1) := by decide +kernel
theorem dX8_share_36 : decode cX8_share 36 = .ok (.if_icmp .ne 11, 3) := by decide +kernel
theorem dX8_share_39 : decode cX8_share 39 = .ok (.aload_n 0, 1) := by decide +kernel
theorem dX8_share_40 : decode cX8_share 40 = .ok (.iload_n 1, 1) := by decide +kernel
theorem dX8_share_41 : decode cX8_share 41 = .ok (.invokevirtual 176, 3) := by decide +kernel
theorem dX8_share_44 : decode cX8_share 44 = .ok (.goto 9, 3) := by decide +kernel
theorem dX8_share_47 : decode cX8_share 47 = .ok (.aload_n 0, 1) := by decide +kernel
theorem dX8_share_48 : decode cX8_share 48 = .ok (.iload_n 1, 1) := by decide +kernel
theorem dX8_share_49 : decode cX8_share 49 = .ok (.iload_n 2, 1) := by decide +kernel
theorem dX8_share_50 : decode cX8_share 50 = .ok (.invokevirtual 179, 3) := by decide +kernel
theorem dX8_share_53 : decode cX8_share 53 = .ok (.ireturn, 1) := by decide +kernel
theorem dX8_fines_0 : decode cX8_fines 0 = .ok (.iconst 0, 1) := by decide +kernel
theorem dX8_fines_1 : decode cX8_fines 1 = .ok (.istore_n 1, 1) := by decide +kernel
theorem dX8_fines_2 : decode cX8_fines 2 = .ok (.iload_n 1, 1) := by decide +kernel
theorem dX8_fines_3 : decode cX8_fines 3 = .ok (.aload_n 0, 1) := by decide +kernel
theorem dX8_fines_4 : decode cX8_fines 4 = .ok (.getfield 102, 3) := by decide +kernel
theorem dX8_fines_7 : decode cX8_fines 7 = .ok (.if_icmp .ge 51, 3) := by decide +kernel
theorem dX8_fines_10 : decode cX8_fines 10 = .ok (.aload_n 0, 1) := by decide +kernel
theorem dX8_fines_11 : decode cX8_fines 11 = .ok (.getfield 26, 3) := by decide +kernel
theorem dX8_fines_14 : decode cX8_fines 14 = .ok (.iload_n 1, 1) := by decide +kernel
theorem dX8_fines_15 : decode cX8_fines 15 = .ok (.iaload, 1) := by decide +kernel
theorem dX8_fines_16 : decode cX8_fines 16 = .ok (.ifCond .eq 6, 3) := by decide +kernel
theorem dX8_fines_19 : decode cX8_fines 19 = .ok (.goto 33, 3) := by decide +kernel
theorem dX8_fines_22 : decode cX8_fines 22 = .ok (.aload_n 0, 1) := by decide +kernel
theorem dX8_fines_23 : decode cX8_fines 23 = .ok (.getfield 29, 3) := by decide +kernel
theorem dX8_fines_26 : decode cX8_fines 26 = .ok (.iload_n 1, 1) := by decide +kernel
theorem dX8_fines_27 : decode cX8_fines 27 = .ok (.dup2, 1) := by decide +kernel
theorem dX8_fines_28 : decode cX8_fines 28 = .ok (.iaload, 1) := by decide +kernel
theorem dX8_fines_29 : decode cX8_fines 29 = .ok (.aload_n 0, 1) := by decide +kernel
theorem dX8_fines_30 : decode cX8_fines 30 = .ok (.getfield 13, 3) := by decide +kernel
theorem dX8_fines_33 : decode cX8_fines 33 = .ok (.iconst 3, 1) := by decide +kernel
theorem dX8_fines_34 : decode cX8_fines 34 = .ok (.iaload, 1) := by decide +kernel
theorem dX8_fines_35 : decode cX8_fines 35 = .ok (.isub, 1) := by decide +kernel
theorem dX8_fines_36 : decode cX8_fines 36 = .ok (.iastore, 1) := by decide +kernel
theorem dX8_fines_37 : decode cX8_fines 37 = .ok (.aload_n 0, 1) := by decide +kernel
theorem dX8_fines_38 : decode cX8_fines 38 = .ok (.dup, 1) := by decide +kernel
theorem dX8_fines_39 : decode cX8_fines 39 = .ok (.getfield 182, 3) := by decide +kernel
theorem dX8_fines_42 : decode cX8_fines 42 = .ok (.aload_n 0, 1) := by decide +kernel
theorem dX8_fines_43 : decode cX8_fines 43 = .ok (.getfield 13, 3) := by decide +kernel
theorem dX8_fines_46 : decode cX8_fines 46 = .ok (.iconst 3, 1) := by decide +kernel
theorem dX8_fines_47 : decode cX8_fines 47 = .ok (.iaload, 1) := by decide +kernel
theorem dX8_fines_48 : decode cX8_fines 48 = .ok (.iadd, 1) := by decide +kernel
theorem dX8_fines_49 : decode cX8_fines 49 = .ok (.putfield 182, 3) := by decide +kernel
theorem dX8_fines_52 : decode cX8_fines 52 = .ok (.iinc 1 1, 3) := by decide +kernel
theorem dX8_fines_55 : decode cX8_fines 55 = .ok (.goto (-53), 3) := by decide +kernel
theorem dX8_fines_58 : decode cX8_fines 58 = .ok (.return_, 1) := by decide +kernel
theorem dX8_day_0 : decode cX8_day 0 = .ok (.aload_n 0, 1) := by decide +kernel
theorem dX8_day_1 : decode cX8_day 1 = .ok (.getfield 164, 3) := by decide +kernel
theorem dX8_day_4 : decode cX8_day 4 = .ok (.sipush 9999, 3) := by decide +kernel
theorem dX8_day_7 : decode cX8_day 7 = .ok (.if_icmp .ne 5, 3) := by decide +kernel
theorem dX8_day_10 : decode cX8_day 10 = .ok (.iconst (-1), 1) := by decide +kernel
theorem dX8_day_11 : decode cX8_day 11 = .ok (.ireturn, 1) := by decide +kernel
theorem dX8_day_12 : decode cX8_day 12 = .ok (.aload_n 0, 1) := by decide +kernel
theorem dX8_day_13 : decode cX8_day 13 = .ok (.invokevirtual 173, 3) := by decide +kernel
theorem dX8_day_16 : decode cX8_day 16 = .ok (.iconst 0, 1) := by decide +kernel
theorem dX8_day_17 : decode cX8_day 17 = .ok (.istore_n 1, 1) := by decide +kernel
theorem dX8_day_18 : decode cX8_day 18 = .ok (.iload_n 1, 1) := by decide +kernel
theorem dX8_day_19 : decode cX8_day 19 = .ok (.aload_n 0, 1) := by decide +kernel
theorem dX8_day_20 : decode cX8_day 20 = .ok (.getfield 115, 3) := by decide +kernel
theorem dX8_day_23 : decode cX8_day 23 = .ok (.if_icmp .ge 141, 3) := by decide +kernel
theorem dX8_day_26 : decode cX8_day 26 = .ok (.aload_n 0, 1) := by decide +kernel
theorem dX8_day_27 : decode cX8_day 27 = .ok (.getfield 50, 3) := by decide +kernel
theorem dX8_day_30 : decode cX8_day 30 = .ok (.iload_n 1, 1) := by decide +kernel
theorem dX8_day_31 : decode cX8_day 31 = .ok (.iaload, 1) := by decide +kernel
theorem dX8_day_32 : decode cX8_day 32 = .ok (.istore_n 2, 1) := by decide +kernel
theorem dX8_day_33 : decode cX8_day 33 = .ok (.aload_n 0, 1) := by decide +kernel
theorem dX8_day_34 : decode cX8_day 34 = .ok (.getfield 127, 3) := by decide +kernel
theorem dX8_day_37 : decode cX8_day 37 = .ok (.iload_n 2, 1) := by decide +kernel
theorem dX8_day_38 : decode cX8_day 38 = .ok (.invokestatic 130, 3) := by decide +kernel
theorem dX8_day_41 : decode cX8_day 41 = .ok (.ifCond .eq 51, 3) := by decide +kernel
theorem dX8_day_44 : decode cX8_day 44 = .ok (.aload_n 0, 1) := by decide +kernel
theorem dX8_day_45 : decode cX8_day 45 = .ok (.dup, 1) := by decide +kernel
theorem dX8_day_46 : decode cX8_day 46 = .ok (.getfield 182, 3) := by decide +kernel
theorem dX8_day_49 : decode cX8_day 49 = .ok (.aload_n 0, 1) := by decide +kernel
theorem dX8_day_50 : decode cX8_day 50 = .ok (.iload_n 2, 1) := by decide +kernel
theorem dX8_day_51 : decode cX8_day 51 = .ok (.invokevirtual 176, 3) := by decide +kernel
theorem dX8_day_54 : decode cX8_day 54 = .ok (.iadd, 1) := by decide +kernel
theorem dX8_day_55 : decode cX8_day 55 = .ok (.putfield 182, 3) := by decide +kernel
theorem dX8_day_58 : decode cX8_day 58 = .ok (.iconst 0, 1) := by decide +kernel
theorem dX8_day_59 : decode cX8_day 59 = .ok (.istore_n 3, 1) := by decide +kernel
theorem dX8_day_60 : decode cX8_day 60 = .ok (.iload_n 3, 1) := by decide +kernel
theorem dX8_day_61 : decode cX8_day 61 = .ok (.aload_n 0, 1) := by decide +kernel
theorem dX8_day_62 : decode cX8_day 62 = .ok (.getfield 102, 3) := by decide +kernel
theorem dX8_day_65 : decode cX8_day 65 = .ok (.if_icmp .ge 24, 3) := by decide +kernel
theorem dX8_day_68 : decode cX8_day 68 = .ok (.aload_n 0, 1) := by decide +kernel
theorem dX8_day_69 : decode cX8_day 69 = .ok (.getfield 29, 3) := by decide +kernel
theorem dX8_day_72 : decode cX8_day 72 = .ok (.iload_n 3, 1) := by decide +kernel
theorem dX8_day_73 : decode cX8_day 73 = .ok (.dup2, 1) := by decide +kernel
theorem dX8_day_74 : decode cX8_day 74 = .ok (.iaload, 1) := by decide +kernel
theorem dX8_day_75 : decode cX8_day 75 = .ok (.aload_n 0, 1) := by decide +kernel
theorem dX8_day_76 : decode cX8_day 76 = .ok (.iload_n 2, 1) := by decide +kernel
theorem dX8_day_77 : decode cX8_day 77 = .ok (.iload_n 3, 1) := by decide +kernel
theorem dX8_day_78 : decode cX8_day 78 = .ok (.invokevirtual 179, 3) := by decide +kernel
theorem dX8_day_81 : decode cX8_day 81 = .ok (.iadd, 1) := by decide +kernel
theorem dX8_day_82 : decode cX8_day 82 = .ok (.iastore, 1) := by decide +kernel
theorem dX8_day_83 : decode cX8_day 83 = .ok (.iinc 3 1, 3) := by decide +kernel
theorem dX8_day_86 : decode cX8_day 86 = .ok (.goto (-26), 3) := by decide +kernel
theorem dX8_day_89 : decode cX8_day 89 = .ok (.goto 16, 3) := by decide +kernel
theorem dX8_day_92 : decode cX8_day 92 = .ok (.aload_n 0, 1) := by decide +kernel
theorem dX8_day_93 : decode cX8_day 93 = .ok (.iload_n 2, 1) := by decide +kernel
theorem dX8_day_94 : decode cX8_day 94 = .ok (.iconst 0, 1) := by decide +kernel
theorem dX8_day_95 : decode cX8_day 95 = .ok (.invokevirtual 118, 3) := by decide +kernel
theorem dX8_day_98 : decode cX8_day 98 = .ok (.ifCond .ne 7, 3) := by decide +kernel
theorem dX8_day_101 : decode cX8_day 101 = .ok (.aload_n 0, 1) := by decide +kernel
theorem dX8_day_102 : decode cX8_day 102 = .ok (.invokevirtual 185, 3) := by decide +kernel
theorem dX8_day_105 : decode cX8_day 105 = .ok (.aload_n 0, 1) := by decide +kernel
theorem dX8_day_106 : decode cX8_day 106 = .ok (.getfield 65, 3) := by decide +kernel
theorem dX8_day_109 : decode cX8_day 109 = .ok (.iload_n 2, 1) := by decide +kernel
theorem dX8_day_110 : decode cX8_day 110 = .ok (.iaload, 1) := by decide +kernel
theorem dX8_day_111 : decode cX8_day 111 = .ok (.iconst (-1), 1) := by decide +kernel
theorem dX8_day_112 : decode cX8_day 112 = .ok (.if_icmp .ne 6, 3) := by decide +kernel
theorem dX8_day_115 : decode cX8_day 115 = .ok (.goto 43, 3) := by decide +kernel
theorem dX8_day_118 : decode cX8_day 118 = .ok (.aload_n 0, 1) := by decide +kernel
theorem dX8_day_119 : decode cX8_day 119 = .ok (.dup, 1) := by decide +kernel
theorem dX8_day_120 : decode cX8_day 120 = .ok (.getfield 167, 3) := by decide +kernel
theorem dX8_day_123 : decode cX8_day 123 = .ok (.iconst 1, 1) := by decide +kernel
theorem dX8_day_124 : decode cX8_day 124 = .ok (.iadd, 1) := by decide +kernel
theorem dX8_day_125 : decode cX8_day 125 = .ok (.putfield 167, 3) := by decide +kernel
theorem dX8_day_128 : decode cX8_day 128 = .ok (.aload_n 0, 1) := by decide +kernel
theorem dX8_day_129 : decode cX8_day 129 = .ok (.getfield 47, 3) := by decide +kernel
theorem dX8_day_132 : decode cX8_day 132 = .ok (.aload_n 0, 1) := by decide +kernel
theorem dX8_day_133 : decode cX8_day 133 = .ok (.getfield 65, 3) := by decide +kernel
theorem dX8_day_136 : decode cX8_day 136 = .ok (.iload_n 2, 1) := by decide +kernel
theorem dX8_day_137 : decode cX8_day 137 = .ok (.iaload, 1) := by decide +kernel
theorem dX8_day_138 : decode cX8_day 138 = .ok (.aload_n 0, 1) := by decide +kernel
theorem dX8_day_139 : decode cX8_day 139 = .ok (.getfield 167, 3) := by decide +kernel
theorem dX8_day_142 : decode cX8_day 142 = .ok (.iastore, 1) := by decide +kernel
theorem dX8_day_143 : decode cX8_day 143 = .ok (.aload_n 0, 1) := by decide +kernel
theorem dX8_day_144 : decode cX8_day 144 = .ok (.getfield 44, 3) := by decide +kernel
theorem dX8_day_147 : decode cX8_day 147 = .ok (.aload_n 0, 1) := by decide +kernel
theorem dX8_day_148 : decode cX8_day 148 = .ok (.getfield 65, 3) := by decide +kernel
theorem dX8_day_151 : decode cX8_day 151 = .ok (.iload_n 2, 1) := by decide +kernel
theorem dX8_day_152 : decode cX8_day 152 = .ok (.iaload, 1) := by decide +kernel
theorem dX8_day_153 : decode cX8_day 153 = .ok (.aload_n 0, 1) := by decide +kernel
theorem dX8_day_154 : decode cX8_day 154 = .ok (.getfield 164, 3) := by decide +kernel
theorem dX8_day_157 : decode cX8_day 157 = .ok (.iastore, 1) := by decide +kernel
theorem dX8_day_158 : decode cX8_day 158 = .ok (.iinc 1 1, 3) := by decide +kernel
theorem dX8_day_161 : decode cX8_day 161 = .ok (.goto (-143), 3) := by decide +kernel
theorem dX8_day_164 : decode cX8_day 164 = .ok (.iconst 0, 1) := by decide +kernel
theorem dX8_day_165 : decode cX8_day 165 = .ok (.istore_n 1, 1) := by decide +kernel
theorem dX8_day_166 : decode cX8_day 166 = .ok (.iload_n 1, 1) := by decide +kernel
theorem dX8_day_167 : decode cX8_day 167 = .ok (.bipush 6, 2) := by decide +kernel
theorem dX8_day_169 : decode cX8_day 169 = .ok (.if_icmp .ge 19, 3) := by decide +kernel
theorem dX8_day_172 : decode cX8_day 172 = .ok (.aload_n 0, 1) := by decide +kernel
theorem dX8_day_173 : decode cX8_day 173 = .ok (.getfield 35, 3) := by decide +kernel
theorem dX8_day_176 : decode cX8_day 176 = .ok (.bipush 8, 2) := by decide +kernel
theorem dX8_day_178 : decode cX8_day 178 = .ok (.iload_n 1, 1) := by decide +kernel
theorem dX8_day_179 : decode cX8_day 179 = .ok (.imul, 1) := by decide +kernel
theorem dX8_day_180 : decode cX8_day 180 = .ok (.iconst (-1), 1) := by decide +kernel
theorem dX8_day_181 : decode cX8_day 181 = .ok (.iastore, 1) := by decide +kernel
theorem dX8_day_182 : decode cX8_day 182 = .ok (.iinc 1 1, 3) := by decide +kernel
theorem dX8_day_185 : decode cX8_day 185 = .ok (.goto (-19), 3) := by decide +kernel
theorem dX8_day_188 : decode cX8_day 188 = .ok (.aload_n 0, 1) := by decide +kernel
theorem dX8_day_189 : decode cX8_day 189 = .ok (.dup, 1) := by decide +kernel
theorem dX8_day_190 : decode cX8_day 190 = .ok (.getfield 164, 3) := by decide +kernel
theorem dX8_day_193 : decode cX8_day 193 = .ok (.iconst 1, 1) := by decide +kernel
theorem dX8_day_194 : decode cX8_day 194 = .ok (.iadd, 1) := by decide +kernel
theorem dX8_day_195 : decode cX8_day 195 = .ok (.putfield 164, 3) := by decide +kernel
theorem dX8_day_198 : decode cX8_day 198 = .ok (.iconst 0, 1) := by decide +kernel
theorem dX8_day_199 : decode cX8_day 199 = .ok (.istore_n 1, 1) := by decide +kernel
theorem dX8_day_200 : decode cX8_day 200 = .ok (.iload_n 1, 1) := by decide +kernel
theorem dX8_day_201 : decode cX8_day 201 = .ok (.aload_n 0, 1) := by decide +kernel
theorem dX8_day_202 : decode cX8_day 202 = .ok (.getfield 102, 3) := by decide +kernel
theorem dX8_day_205 : decode cX8_day 205 = .ok (.if_icmp .ge 80, 3) := by decide +kernel
theorem dX8_day_208 : decode cX8_day 208 = .ok (.aload_n 0, 1) := by decide +kernel
theorem dX8_day_209 : decode cX8_day 209 = .ok (.getfield 164, 3) := by decide +kernel
theorem dX8_day_212 : decode cX8_day 212 = .ok (.sipush 360, 3) := by decide +kernel
theorem dX8_day_215 : decode cX8_day 215 = .ok (.irem, 1) := by decide +kernel
theorem dX8_day_216 : decode cX8_day 216 = .ok (.ifCond .ne 69, 3) := by decide +kernel
theorem dX8_day_219 : decode cX8_day 219 = .ok (.aload_n 0, 1) := by decide +kernel
theorem dX8_day_220 : decode cX8_day 220 = .ok (.getfield 26, 3) := by decide +kernel
theorem dX8_day_223 : decode cX8_day 223 = .ok (.iload_n 1, 1) := by decide +kernel
theorem dX8_day_224 : decode cX8_day 224 = .ok (.iaload, 1) := by decide +kernel
theorem dX8_day_225 : decode cX8_day 225 = .ok (.iconst 2, 1) := by decide +kernel
theorem dX8_day_226 : decode cX8_day 226 = .ok (.if_icmp .eq 6, 3) := by decide +kernel
theorem dX8_day_229 : decode cX8_day 229 = .ok (.goto 50, 3) := by decide +kernel
theorem dX8_day_232 : decode cX8_day 232 = .ok (.aload_n 0, 1) := by decide +kernel
theorem dX8_day_233 : decode cX8_day 233 = .ok (.getfield 13, 3) := by decide +kernel
theorem dX8_day_236 : decode cX8_day 236 = .ok (.iconst 2, 1) := by decide +kernel
theorem dX8_day_237 : decode cX8_day 237 = .ok (.iaload, 1) := by decide +kernel
theorem dX8_day_238 : decode cX8_day 238 = .ok (.aload_n 0, 1) := by decide +kernel
theorem dX8_day_239 : decode cX8_day 239 = .ok (.getfield 182, 3) := by decide +kernel
theorem dX8_day_242 : decode cX8_day 242 = .ok (.if_icmp .ge 12, 3) := by decide +kernel
theorem dX8_day_245 : decode cX8_day 245 = .ok (.aload_n 0, 1) := by decide +kernel
theorem dX8_day_246 : decode cX8_day 246 = .ok (.getfield 13, 3) := by decide +kernel
theorem dX8_day_249 : decode cX8_day 249 = .ok (.iconst 2, 1) := by decide +kernel
theorem dX8_day_250 : decode cX8_day 250 = .ok (.iaload, 1) := by decide +kernel
theorem dX8_day_251 : decode cX8_day 251 = .ok (.goto 7, 3) := by decide +kernel
theorem dX8_day_254 : decode cX8_day 254 = .ok (.aload_n 0, 1) := by decide +kernel
theorem dX8_day_255 : decode cX8_day 255 = .ok (.getfield 182, 3) := by decide +kernel
theorem dX8_day_258 : decode cX8_day 258 = .ok (.istore_n 2, 1) := by decide +kernel
theorem dX8_day_259 : decode cX8_day 259 = .ok (.aload_n 0, 1) := by decide +kernel
theorem dX8_day_260 : decode cX8_day 260 = .ok (.getfield 29, 3) := by decide +kernel
theorem dX8_day_263 : decode cX8_day 263 = .ok (.iload_n 1, 1) := by decide +kernel
theorem dX8_day_264 : decode cX8_day 264 = .ok (.dup2, 1) := by decide +kernel
theorem dX8_day_265 : decode cX8_day 265 = .ok (.iaload, 1) := by decide +kernel
theorem dX8_day_266 : decode cX8_day 266 = .ok (.iload_n 2, 1) := by decide +kernel
theorem dX8_day_267 : decode cX8_day 267 = .ok (.iadd, 1) := by decide +kernel
theorem dX8_day_268 : decode cX8_day 268 = .ok (.iastore, 1) := by decide +kernel
theorem dX8_day_269 : decode cX8_day 269 = .ok (.aload_n 0, 1) := by decide +kernel
theorem dX8_day_270 : decode cX8_day 270 = .ok (.dup, 1) := by decide +kernel
theorem dX8_day_271 : decode cX8_day 271 = .ok (.getfield 182, 3) := by decide +kernel
theorem dX8_day_274 : decode cX8_day 274 = .ok (.iload_n 2, 1) := by decide +kernel
theorem dX8_day_275 : decode cX8_day 275 = .ok (.isub, 1) := by decide +kernel
theorem dX8_day_276 : decode cX8_day 276 = .ok (.putfield 182, 3) := by decide +kernel
theorem dX8_day_279 : decode cX8_day 279 = .ok (.iinc 1 1, 3) := by decide +kernel
end
section
theorem dX8_day_282 : decode cX8_day 282 = .ok (.goto (-82), 3) := by decide +kernel
theorem dX8_day_285 : decode cX8_day 285 = .ok (.aload_n 0, 1) := by decide +kernel
theorem dX8_day_286 : decode cX8_day 286 = .ok (.getfield 164, 3) := by decide +kernel
theorem dX8_day_289 : decode cX8_day 289 = .ok (.ireturn, 1) := by decide +kernel
theorem dX8_lasts_0 : decode cX8_lasts 0 = .ok (.iconst 0, 1) := by decide +kernel
theorem dX8_lasts_1 : decode cX8_lasts 1 = .ok (.istore_n 1, 1) := by decide +kernel
theorem dX8_lasts_2 : decode cX8_lasts 2 = .ok (.iconst 0, 1) := by decide +kernel
theorem dX8_lasts_3 : decode cX8_lasts 3 = .ok (.istore_n 2, 1) := by decide +kernel
theorem dX8_lasts_4 : decode cX8_lasts 4 = .ok (.iload_n 2, 1) := by decide +kernel
theorem dX8_lasts_5 : decode cX8_lasts 5 = .ok (.aload_n 0, 1) := by decide +kernel
theorem dX8_lasts_6 : decode cX8_lasts 6 = .ok (.getfield 102, 3) := by decide +kernel
theorem dX8_lasts_9 : decode cX8_lasts 9 = .ok (.if_icmp .ge 27, 3) := by decide +kernel
theorem dX8_lasts_12 : decode cX8_lasts 12 = .ok (.iload_n 1, 1) := by decide +kernel
theorem dX8_lasts_13 : decode cX8_lasts 13 = .ok (.aload_n 0, 1) := by decide +kernel
theorem dX8_lasts_14 : decode cX8_lasts 14 = .ok (.getfield 26, 3) := by decide +kernel
theorem dX8_lasts_17 : decode cX8_lasts 17 = .ok (.iload_n 2, 1) := by decide +kernel
theorem dX8_lasts_18 : decode cX8_lasts 18 = .ok (.iaload, 1) := by decide +kernel
theorem dX8_lasts_19 : decode cX8_lasts 19 = .ok (.iconst 2, 1) := by decide +kernel
theorem dX8_lasts_20 : decode cX8_lasts 20 = .ok (.if_icmp .ne 7, 3) := by decide +kernel
theorem dX8_lasts_23 : decode cX8_lasts 23 = .ok (.iconst 1, 1) := by decide +kernel
theorem dX8_lasts_24 : decode cX8_lasts 24 = .ok (.goto 4, 3) := by decide +kernel
theorem dX8_lasts_27 : decode cX8_lasts 27 = .ok (.iconst 0, 1) := by decide +kernel
theorem dX8_lasts_28 : decode cX8_lasts 28 = .ok (.iadd, 1) := by decide +kernel
theorem dX8_lasts_29 : decode cX8_lasts 29 = .ok (.istore_n 1, 1) := by decide +kernel
theorem dX8_lasts_30 : decode cX8_lasts 30 = .ok (.iinc 2 1, 3) := by decide +kernel
theorem dX8_lasts_33 : decode cX8_lasts 33 = .ok (.goto (-29), 3) := by decide +kernel
theorem dX8_lasts_36 : decode cX8_lasts 36 = .ok (.iload_n 1, 1) := by decide +kernel
theorem dX8_lasts_37 : decode cX8_lasts 37 = .ok (.ifCond .eq 12, 3) := by decide +kernel
theorem dX8_lasts_40 : decode cX8_lasts 40 = .ok (.aload_n 0, 1) := by decide +kernel
theorem dX8_lasts_41 : decode cX8_lasts 41 = .ok (.getfield 13, 3) := by decide +kernel
theorem dX8_lasts_44 : decode cX8_lasts 44 = .ok (.iconst 2, 1) := by decide +kernel
theorem dX8_lasts_45 : decode cX8_lasts 45 = .ok (.iaload, 1) := by decide +kernel
theorem dX8_lasts_46 : decode cX8_lasts 46 = .ok (.ifCond .ne 7, 3) := by decide +kernel
theorem dX8_lasts_49 : decode cX8_lasts 49 = .ok (.sipush 9999, 3) := by decide +kernel
theorem dX8_lasts_52 : decode cX8_lasts 52 = .ok (.ireturn, 1) := by decide +kernel
theorem dX8_lasts_53 : decode cX8_lasts 53 = .ok (.aload_n 0, 1) := by decide +kernel
theorem dX8_lasts_54 : decode cX8_lasts 54 = .ok (.getfield 182, 3) := by decide +kernel
theorem dX8_lasts_57 : decode cX8_lasts 57 = .ok (.iload_n 1, 1) := by decide +kernel
theorem dX8_lasts_58 : decode cX8_lasts 58 = .ok (.aload_n 0, 1) := by decide +kernel
theorem dX8_lasts_59 : decode cX8_lasts 59 = .ok (.getfield 13, 3) := by decide +kernel
theorem dX8_lasts_62 : decode cX8_lasts 62 = .ok (.iconst 2, 1) := by decide +kernel
theorem dX8_lasts_63 : decode cX8_lasts 63 = .ok (.iaload, 1) := by decide +kernel
theorem dX8_lasts_64 : decode cX8_lasts 64 = .ok (.imul, 1) := by decide +kernel
theorem dX8_lasts_65 : decode cX8_lasts 65 = .ok (.idiv, 1) := by decide +kernel
theorem dX8_lasts_66 : decode cX8_lasts 66 = .ok (.istore_n 2, 1) := by decide +kernel
theorem dX8_lasts_67 : decode cX8_lasts 67 = .ok (.iload_n 2, 1) := by decide +kernel
theorem dX8_lasts_68 : decode cX8_lasts 68 = .ok (.sipush 9999, 3) := by decide +kernel
theorem dX8_lasts_71 : decode cX8_lasts 71 = .ok (.if_icmp .ge 7, 3) := by decide +kernel
theorem dX8_lasts_74 : decode cX8_lasts 74 = .ok (.iload_n 2, 1) := by decide +kernel
theorem dX8_lasts_75 : decode cX8_lasts 75 = .ok (.goto 6, 3) := by decide +kernel
theorem dX8_lasts_78 : decode cX8_lasts 78 = .ok (.sipush 9999, 3) := by decide +kernel
theorem dX8_lasts_81 : decode cX8_lasts 81 = .ok (.ireturn, 1) := by decide +kernel
theorem dX8_look_0 : decode cX8_look 0 = .ok (.aload_n 0, 1) := by decide +kernel
theorem dX8_look_1 : decode cX8_look 1 = .ok (.iload_n 1, 1) := by decide +kernel
theorem dX8_look_2 : decode cX8_look 2 = .ok (.invokevirtual 105, 3) := by decide +kernel
theorem dX8_look_5 : decode cX8_look 5 = .ok (.ifCond .ne 5, 3) := by decide +kernel
theorem dX8_look_8 : decode cX8_look 8 = .ok (.iconst (-1), 1) := by decide +kernel
theorem dX8_look_9 : decode cX8_look 9 = .ok (.ireturn, 1) := by decide +kernel
theorem dX8_look_10 : decode cX8_look 10 = .ok (.iload_n 2, 1) := by decide +kernel
theorem dX8_look_11 : decode cX8_look 11 = .ok (.tableswitch 100 0 3 #[29, 36, 43, 50], 29) := by decide +kernel
theorem dX8_look_40 : decode cX8_look 40 = .ok (.aload_n 0, 1) := by decide +kernel
theorem dX8_look_41 : decode cX8_look 41 = .ok (.getfield 20, 3) := by decide +kernel
theorem dX8_look_44 : decode cX8_look 44 = .ok (.iload_n 1, 1) := by decide +kernel
theorem dX8_look_45 : decode cX8_look 45 = .ok (.iaload, 1) := by decide +kernel
theorem dX8_look_46 : decode cX8_look 46 = .ok (.ireturn, 1) := by decide +kernel
theorem dX8_look_47 : decode cX8_look 47 = .ok (.aload_n 0, 1) := by decide +kernel
theorem dX8_look_48 : decode cX8_look 48 = .ok (.getfield 23, 3) := by decide +kernel
theorem dX8_look_51 : decode cX8_look 51 = .ok (.iload_n 1, 1) := by decide +kernel
theorem dX8_look_52 : decode cX8_look 52 = .ok (.iaload, 1) := by decide +kernel
theorem dX8_look_53 : decode cX8_look 53 = .ok (.ireturn, 1) := by decide +kernel
theorem dX8_look_54 : decode cX8_look 54 = .ok (.aload_n 0, 1) := by decide +kernel
theorem dX8_look_55 : decode cX8_look 55 = .ok (.getfield 26, 3) := by decide +kernel
theorem dX8_look_58 : decode cX8_look 58 = .ok (.iload_n 1, 1) := by decide +kernel
theorem dX8_look_59 : decode cX8_look 59 = .ok (.iaload, 1) := by decide +kernel
theorem dX8_look_60 : decode cX8_look 60 = .ok (.ireturn, 1) := by decide +kernel
theorem dX8_look_61 : decode cX8_look 61 = .ok (.aload_n 0, 1) := by decide +kernel
theorem dX8_look_62 : decode cX8_look 62 = .ok (.invokevirtual 154, 3) := by decide +kernel
theorem dX8_look_65 : decode cX8_look 65 = .ok (.istore_n 3, 1) := by decide +kernel
theorem dX8_look_66 : decode cX8_look 66 = .ok (.iconst 0, 1) := by decide +kernel
theorem dX8_look_67 : decode cX8_look 67 = .ok (.istore 4, 2) := by decide +kernel
theorem dX8_look_69 : decode cX8_look 69 = .ok (.iconst 0, 1) := by decide +kernel
theorem dX8_look_70 : decode cX8_look 70 = .ok (.istore 5, 2) := by decide +kernel
theorem dX8_look_72 : decode cX8_look 72 = .ok (.iload 5, 2) := by decide +kernel
theorem dX8_look_74 : decode cX8_look 74 = .ok (.aload_n 0, 1) := by decide +kernel
theorem dX8_look_75 : decode cX8_look 75 = .ok (.getfield 124, 3) := by decide +kernel
theorem dX8_look_78 : decode cX8_look 78 = .ok (.if_icmp .ge 30, 3) := by decide +kernel
theorem dX8_look_81 : decode cX8_look 81 = .ok (.iload 4, 2) := by decide +kernel
theorem dX8_look_83 : decode cX8_look 83 = .ok (.aload_n 0, 1) := by decide +kernel
theorem dX8_look_84 : decode cX8_look 84 = .ok (.getfield 59, 3) := by decide +kernel
theorem dX8_look_87 : decode cX8_look 87 = .ok (.iload 5, 2) := by decide +kernel
theorem dX8_look_89 : decode cX8_look 89 = .ok (.iaload, 1) := by decide +kernel
theorem dX8_look_90 : decode cX8_look 90 = .ok (.iload_n 1, 1) := by decide +kernel
theorem dX8_look_91 : decode cX8_look 91 = .ok (.if_icmp .ne 7, 3) := by decide +kernel
theorem dX8_look_94 : decode cX8_look 94 = .ok (.iconst 1, 1) := by decide +kernel
theorem dX8_look_95 : decode cX8_look 95 = .ok (.goto 4, 3) := by decide +kernel
theorem dX8_look_98 : decode cX8_look 98 = .ok (.iconst 0, 1) := by decide +kernel
theorem dX8_look_99 : decode cX8_look 99 = .ok (.iadd, 1) := by decide +kernel
theorem dX8_look_100 : decode cX8_look 100 = .ok (.istore 4, 2) := by decide +kernel
theorem dX8_look_102 : decode cX8_look 102 = .ok (.iinc 5 1, 3) := by decide +kernel
theorem dX8_look_105 : decode cX8_look 105 = .ok (.goto (-33), 3) := by decide +kernel
theorem dX8_look_108 : decode cX8_look 108 = .ok (.iload 4, 2) := by decide +kernel
theorem dX8_look_110 : decode cX8_look 110 = .ok (.ireturn, 1) := by decide +kernel
theorem dX8_look_111 : decode cX8_look 111 = .ok (.iconst (-1), 1) := by decide +kernel
theorem dX8_look_112 : decode cX8_look 112 = .ok (.ireturn, 1) := by decide +kernel
theorem dX8_wages_0 : decode cX8_wages 0 = .ok (.iload_n 1, 1) := by decide +kernel
theorem dX8_wages_1 : decode cX8_wages 1 = .ok (.iconst (-1), 1) := by decide +kernel
theorem dX8_wages_2 : decode cX8_wages 2 = .ok (.if_icmp .ne 10, 3) := by decide +kernel
theorem dX8_wages_5 : decode cX8_wages 5 = .ok (.aload_n 0, 1) := by decide +kernel
theorem dX8_wages_6 : decode cX8_wages 6 = .ok (.getfield 182, 3) := by decide +kernel
theorem dX8_wages_9 : decode cX8_wages 9 = .ok (.goto 21, 3) := by decide +kernel
theorem dX8_wages_12 : decode cX8_wages 12 = .ok (.aload_n 0, 1) := by decide +kernel
theorem dX8_wages_13 : decode cX8_wages 13 = .ok (.iload_n 1, 1) := by decide +kernel
theorem dX8_wages_14 : decode cX8_wages 14 = .ok (.invokevirtual 105, 3) := by decide +kernel
theorem dX8_wages_17 : decode cX8_wages 17 = .ok (.ifCond .eq 12, 3) := by decide +kernel
theorem dX8_wages_20 : decode cX8_wages 20 = .ok (.aload_n 0, 1) := by decide +kernel
theorem dX8_wages_21 : decode cX8_wages 21 = .ok (.getfield 29, 3) := by decide +kernel
theorem dX8_wages_24 : decode cX8_wages 24 = .ok (.iload_n 1, 1) := by decide +kernel
theorem dX8_wages_25 : decode cX8_wages 25 = .ok (.iaload, 1) := by decide +kernel
theorem dX8_wages_26 : decode cX8_wages 26 = .ok (.goto 4, 3) := by decide +kernel
theorem dX8_wages_29 : decode cX8_wages 29 = .ok (.iconst 0, 1) := by decide +kernel
theorem dX8_wages_30 : decode cX8_wages 30 = .ok (.ireturn, 1) := by decide +kernel
theorem dX8_about_0 : decode cX8_about 0 = .ok (.aload_n 0, 1) := by decide +kernel
theorem dX8_about_1 : decode cX8_about 1 = .ok (.iload_n 1, 1) := by decide +kernel
theorem dX8_about_2 : decode cX8_about 2 = .ok (.invokevirtual 112, 3) := by decide +kernel
theorem dX8_about_5 : decode cX8_about 5 = .ok (.ifCond .eq 22, 3) := by decide +kernel
theorem dX8_about_8 : decode cX8_about 8 = .ok (.iload_n 2, 1) := by decide +kernel
theorem dX8_about_9 : decode cX8_about 9 = .ok (.iconst 0, 1) := by decide +kernel
theorem dX8_about_10 : decode cX8_about 10 = .ok (.bipush 7, 2) := by decide +kernel
theorem dX8_about_12 : decode cX8_about 12 = .ok (.invokestatic 91, 3) := by decide +kernel
theorem dX8_about_15 : decode cX8_about 15 = .ok (.ifCond .eq 12, 3) := by decide +kernel
theorem dX8_about_18 : decode cX8_about 18 = .ok (.aload_n 0, 1) := by decide +kernel
theorem dX8_about_19 : decode cX8_about 19 = .ok (.iload_n 1, 1) := by decide +kernel
theorem dX8_about_20 : decode cX8_about 20 = .ok (.iload_n 2, 1) := by decide +kernel
theorem dX8_about_21 : decode cX8_about 21 = .ok (.invokevirtual 118, 3) := by decide +kernel
theorem dX8_about_24 : decode cX8_about 24 = .ok (.goto 4, 3) := by decide +kernel
theorem dX8_about_27 : decode cX8_about 27 = .ok (.iconst (-1), 1) := by decide +kernel
theorem dX8_about_28 : decode cX8_about 28 = .ok (.ireturn, 1) := by decide +kernel
theorem dX8_count_0 : decode cX8_count 0 = .ok (.iload_n 1, 1) := by decide +kernel
theorem dX8_count_1 : decode cX8_count 1 = .ok (.bipush 10, 2) := by decide +kernel
theorem dX8_count_3 : decode cX8_count 3 = .ok (.bipush 13, 2) := by decide +kernel
theorem dX8_count_5 : decode cX8_count 5 = .ok (.invokestatic 91, 3) := by decide +kernel
theorem dX8_count_8 : decode cX8_count 8 = .ok (.ifCond .eq 13, 3) := by decide +kernel
theorem dX8_count_11 : decode cX8_count 11 = .ok (.aload_n 0, 1) := by decide +kernel
theorem dX8_count_12 : decode cX8_count 12 = .ok (.getfield 13, 3) := by decide +kernel
theorem dX8_count_15 : decode cX8_count 15 = .ok (.iload_n 1, 1) := by decide +kernel
theorem dX8_count_16 : decode cX8_count 16 = .ok (.bipush 10, 2) := by decide +kernel
theorem dX8_count_18 : decode cX8_count 18 = .ok (.isub, 1) := by decide +kernel
theorem dX8_count_19 : decode cX8_count 19 = .ok (.iaload, 1) := by decide +kernel
theorem dX8_count_20 : decode cX8_count 20 = .ok (.ireturn, 1) := by decide +kernel
theorem dX8_count_21 : decode cX8_count 21 = .ok (.iload_n 1, 1) := by decide +kernel
theorem dX8_count_22 : decode cX8_count 22 = .ok (.bipush 20, 2) := by decide +kernel
theorem dX8_count_24 : decode cX8_count 24 = .ok (.bipush 24, 2) := by decide +kernel
theorem dX8_count_26 : decode cX8_count 26 = .ok (.invokestatic 91, 3) := by decide +kernel
theorem dX8_count_29 : decode cX8_count 29 = .ok (.ifCond .eq 13, 3) := by decide +kernel
theorem dX8_count_32 : decode cX8_count 32 = .ok (.aload_n 0, 1) := by decide +kernel
theorem dX8_count_33 : decode cX8_count 33 = .ok (.getfield 32, 3) := by decide +kernel
theorem dX8_count_36 : decode cX8_count 36 = .ok (.iload_n 1, 1) := by decide +kernel
theorem dX8_count_37 : decode cX8_count 37 = .ok (.bipush 20, 2) := by decide +kernel
theorem dX8_count_39 : decode cX8_count 39 = .ok (.isub, 1) := by decide +kernel
theorem dX8_count_40 : decode cX8_count 40 = .ok (.iaload, 1) := by decide +kernel
theorem dX8_count_41 : decode cX8_count 41 = .ok (.ireturn, 1) := by decide +kernel
theorem dX8_count_42 : decode cX8_count 42 = .ok (.iload_n 1, 1) := by decide +kernel
theorem dX8_count_43 : decode cX8_count 43 = .ok (.bipush 30, 2) := by decide +kernel
theorem dX8_count_45 : decode cX8_count 45 = .ok (.bipush 29, 2) := by decide +kernel
theorem dX8_count_47 : decode cX8_count 47 = .ok (.aload_n 0, 1) := by decide +kernel
theorem dX8_count_48 : decode cX8_count 48 = .ok (.getfield 161, 3) := by decide +kernel
theorem dX8_count_51 : decode cX8_count 51 = .ok (.iadd, 1) := by decide +kernel
theorem dX8_count_52 : decode cX8_count 52 = .ok (.invokestatic 91, 3) := by decide +kernel
theorem dX8_count_55 : decode cX8_count 55 = .ok (.ifCond .eq 13, 3) := by decide +kernel
theorem dX8_count_58 : decode cX8_count 58 = .ok (.aload_n 0, 1) := by decide +kernel
theorem dX8_count_59 : decode cX8_count 59 = .ok (.getfield 44, 3) := by decide +kernel
theorem dX8_count_62 : decode cX8_count 62 = .ok (.iload_n 1, 1) := by decide +kernel
theorem dX8_count_63 : decode cX8_count 63 = .ok (.bipush 30, 2) := by decide +kernel
theorem dX8_count_65 : decode cX8_count 65 = .ok (.isub, 1) := by decide +kernel
theorem dX8_count_66 : decode cX8_count 66 = .ok (.iaload, 1) := by decide +kernel
theorem dX8_count_67 : decode cX8_count 67 = .ok (.ireturn, 1) := by decide +kernel
theorem dX8_count_68 : decode cX8_count 68 = .ok (.iconst 0, 1) := by decide +kernel
theorem dX8_count_69 : decode cX8_count 69 = .ok (.istore_n 2, 1) := by decide +kernel
theorem dX8_count_70 : decode cX8_count 70 = .ok (.iload_n 1, 1) := by decide +kernel
theorem dX8_count_71 : decode cX8_count 71 = .ok (.tableswitch 94 0 5 #[37, 42, 47, 52, 84, 89], 37) := by decide +kernel
theorem dX8_count_108 : decode cX8_count 108 = .ok (.aload_n 0, 1) := by decide +kernel
theorem dX8_count_109 : decode cX8_count 109 = .ok (.getfield 164, 3) := by decide +kernel
theorem dX8_count_112 : decode cX8_count 112 = .ok (.ireturn, 1) := by decide +kernel
theorem dX8_count_113 : decode cX8_count 113 = .ok (.aload_n 0, 1) := by decide +kernel
theorem dX8_count_114 : decode cX8_count 114 = .ok (.invokevirtual 170, 3) := by decide +kernel
theorem dX8_count_117 : decode cX8_count 117 = .ok (.ireturn, 1) := by decide +kernel
theorem dX8_count_118 : decode cX8_count 118 = .ok (.aload_n 0, 1) := by decide +kernel
theorem dX8_count_119 : decode cX8_count 119 = .ok (.getfield 102, 3) := by decide +kernel
theorem dX8_count_122 : decode cX8_count 122 = .ok (.ireturn, 1) := by decide +kernel
theorem dX8_count_123 : decode cX8_count 123 = .ok (.iconst 0, 1) := by decide +kernel
theorem dX8_count_124 : decode cX8_count 124 = .ok (.istore_n 3, 1) := by decide +kernel
theorem dX8_count_125 : decode cX8_count 125 = .ok (.iload_n 3, 1) := by decide +kernel
theorem dX8_count_126 : decode cX8_count 126 = .ok (.bipush 6, 2) := by decide +kernel
theorem dX8_count_128 : decode cX8_count 128 = .ok (.if_icmp .ge 25, 3) := by decide +kernel
theorem dX8_count_131 : decode cX8_count 131 = .ok (.iload_n 2, 1) := by decide +kernel
theorem dX8_count_132 : decode cX8_count 132 = .ok (.aload_n 0, 1) := by decide +kernel
theorem dX8_count_133 : decode cX8_count 133 = .ok (.iload_n 3, 1) := by decide +kernel
theorem dX8_count_134 : decode cX8_count 134 = .ok (.invokevirtual 112, 3) := by decide +kernel
theorem dX8_count_137 : decode cX8_count 137 = .ok (.ifCond .eq 7, 3) := by decide +kernel
theorem dX8_count_140 : decode cX8_count 140 = .ok (.iconst 1, 1) := by decide +kernel
theorem dX8_count_141 : decode cX8_count 141 = .ok (.goto 4, 3) := by decide +kernel
theorem dX8_count_144 : decode cX8_count 144 = .ok (.iconst 0, 1) := by decide +kernel
theorem dX8_count_145 : decode cX8_count 145 = .ok (.iadd, 1) := by decide +kernel
theorem dX8_count_146 : decode cX8_count 146 = .ok (.istore_n 2, 1) := by decide +kernel
theorem dX8_count_147 : decode cX8_count 147 = .ok (.iinc 3 1, 3) := by decide +kernel
theorem dX8_count_150 : decode cX8_count 150 = .ok (.goto (-25), 3) := by decide +kernel
theorem dX8_count_153 : decode cX8_count 153 = .ok (.iload_n 2, 1) := by decide +kernel
theorem dX8_count_154 : decode cX8_count 154 = .ok (.ireturn, 1) := by decide +kernel
theorem dX8_count_155 : decode cX8_count 155 = .ok (.aload_n 0, 1) := by decide +kernel
theorem dX8_count_156 : decode cX8_count 156 = .ok (.getfield 161, 3) := by decide +kernel
theorem dX8_count_159 : decode cX8_count 159 = .ok (.ireturn, 1) := by decide +kernel
theorem dX8_count_160 : decode cX8_count 160 = .ok (.aload_n 0, 1) := by decide +kernel
theorem dX8_count_161 : decode cX8_count 161 = .ok (.getfield 75, 3) := by decide +kernel
theorem dX8_count_164 : decode cX8_count 164 = .ok (.ireturn, 1) := by decide +kernel
theorem dX8_count_165 : decode cX8_count 165 = .ok (.iconst (-1), 1) := by decide +kernel
theorem dX8_count_166 : decode cX8_count 166 = .ok (.ireturn, 1) := by decide +kernel
theorem dJ6_bitCount_0f7a4_0 : decode cJ6_bitCount_0f7a4 0 = .ok (.iload_n 0, 1) := by decide +kernel
theorem dJ6_bitCount_0f7a4_1 : decode cJ6_bitCount_0f7a4 1 = .ok (.iload_n 0, 1) := by decide +kernel
theorem dJ6_bitCount_0f7a4_2 : decode cJ6_bitCount_0f7a4 2 = .ok (.iconst 1, 1) := by decide +kernel
theorem dJ6_bitCount_0f7a4_3 : decode cJ6_bitCount_0f7a4 3 = .ok (.iushr, 1) := by decide +kernel
theorem dJ6_bitCount_0f7a4_4 : decode cJ6_bitCount_0f7a4 4 = .ok (.ldc_w 265, 3) := by decide +kernel
theorem dJ6_bitCount_0f7a4_7 : decode cJ6_bitCount_0f7a4 7 = .ok (.iand, 1) := by decide +kernel
theorem dJ6_bitCount_0f7a4_8 : decode cJ6_bitCount_0f7a4 8 = .ok (.isub, 1) := by decide +kernel
theorem dJ6_bitCount_0f7a4_9 : decode cJ6_bitCount_0f7a4 9 = .ok (.istore_n 0, 1) := by decide +kernel
theorem dJ6_bitCount_0f7a4_10 : decode cJ6_bitCount_0f7a4 10 = .ok (.iload_n 0, 1) := by decide +kernel
theorem dJ6_bitCount_0f7a4_11 : decode cJ6_bitCount_0f7a4 11 = .ok (.ldc_w 266, 3) := by decide +kernel
theorem dJ6_bitCount_0f7a4_14 : decode cJ6_bitCount_0f7a4 14 = .ok (.iand, 1) := by decide +kernel
theorem dJ6_bitCount_0f7a4_15 : decode cJ6_bitCount_0f7a4 15 = .ok (.iload_n 0, 1) := by decide +kernel
theorem dJ6_bitCount_0f7a4_16 : decode cJ6_bitCount_0f7a4 16 = .ok (.iconst 2, 1) := by decide +kernel
theorem dJ6_bitCount_0f7a4_17 : decode cJ6_bitCount_0f7a4 17 = .ok (.iushr, 1) := by decide +kernel
theorem dJ6_bitCount_0f7a4_18 : decode cJ6_bitCount_0f7a4 18 = .ok (.ldc_w 266, 3) := by decide +kernel
theorem dJ6_bitCount_0f7a4_21 : decode cJ6_bitCount_0f7a4 21 = .ok (.iand, 1) := by decide +kernel
theorem dJ6_bitCount_0f7a4_22 : decode cJ6_bitCount_0f7a4 22 = .ok (.iadd, 1) := by decide +kernel
theorem dJ6_bitCount_0f7a4_23 : decode cJ6_bitCount_0f7a4 23 = .ok (.istore_n 0, 1) := by decide +kernel
theorem dJ6_bitCount_0f7a4_24 : decode cJ6_bitCount_0f7a4 24 = .ok (.iload_n 0, 1) := by decide +kernel
theorem dJ6_bitCount_0f7a4_25 : decode cJ6_bitCount_0f7a4 25 = .ok (.iload_n 0, 1) := by decide +kernel
theorem dJ6_bitCount_0f7a4_26 : decode cJ6_bitCount_0f7a4 26 = .ok (.iconst 4, 1) := by decide +kernel
theorem dJ6_bitCount_0f7a4_27 : decode cJ6_bitCount_0f7a4 27 = .ok (.iushr, 1) := by decide +kernel
theorem dJ6_bitCount_0f7a4_28 : decode cJ6_bitCount_0f7a4 28 = .ok (.iadd, 1) := by decide +kernel
theorem dJ6_bitCount_0f7a4_29 : decode cJ6_bitCount_0f7a4 29 = .ok (.ldc_w 267, 3) := by decide +kernel
theorem dJ6_bitCount_0f7a4_32 : decode cJ6_bitCount_0f7a4 32 = .ok (.iand, 1) := by decide +kernel
theorem dJ6_bitCount_0f7a4_33 : decode cJ6_bitCount_0f7a4 33 = .ok (.istore_n 0, 1) := by decide +kernel
theorem dJ6_bitCount_0f7a4_34 : decode cJ6_bitCount_0f7a4 34 = .ok (.iload_n 0, 1) := by decide +kernel
theorem dJ6_bitCount_0f7a4_35 : decode cJ6_bitCount_0f7a4 35 = .ok (.iload_n 0, 1) := by decide +kernel
theorem dJ6_bitCount_0f7a4_36 : decode cJ6_bitCount_0f7a4 36 = .ok (.bipush 8, 2) := by decide +kernel
theorem dJ6_bitCount_0f7a4_38 : decode cJ6_bitCount_0f7a4 38 = .ok (.iushr, 1) := by decide +kernel
theorem dJ6_bitCount_0f7a4_39 : decode cJ6_bitCount_0f7a4 39 = .ok (.iadd, 1) := by decide +kernel
theorem dJ6_bitCount_0f7a4_40 : decode cJ6_bitCount_0f7a4 40 = .ok (.istore_n 0, 1) := by decide +kernel
theorem dJ6_bitCount_0f7a4_41 : decode cJ6_bitCount_0f7a4 41 = .ok (.iload_n 0, 1) := by decide +kernel
theorem dJ6_bitCount_0f7a4_42 : decode cJ6_bitCount_0f7a4 42 = .ok (.iload_n 0, 1) := by decide +kernel
theorem dJ6_bitCount_0f7a4_43 : decode cJ6_bitCount_0f7a4 43 = .ok (.bipush 16, 2) := by decide +kernel
theorem dJ6_bitCount_0f7a4_45 : decode cJ6_bitCount_0f7a4 45 = .ok (.iushr, 1) := by decide +kernel
theorem dJ6_bitCount_0f7a4_46 : decode cJ6_bitCount_0f7a4 46 = .ok (.iadd, 1) := by decide +kernel
theorem dJ6_bitCount_0f7a4_47 : decode cJ6_bitCount_0f7a4 47 = .ok (.istore_n 0, 1) := by decide +kernel
theorem dJ6_bitCount_0f7a4_48 : decode cJ6_bitCount_0f7a4 48 = .ok (.iload_n 0, 1) := by decide +kernel
theorem dJ6_bitCount_0f7a4_49 : decode cJ6_bitCount_0f7a4 49 = .ok (.bipush 63, 2) := by decide +kernel
theorem dJ6_bitCount_0f7a4_51 : decode cJ6_bitCount_0f7a4 51 = .ok (.iand, 1) := by decide +kernel
theorem dJ6_bitCount_0f7a4_52 : decode cJ6_bitCount_0f7a4 52 = .ok (.ireturn, 1) := by decide +kernel
theorem dJ9_abs_0f7a4_0 : decode cJ9_abs_0f7a4 0 = .ok (.iload_n 0, 1) := by decide +kernel
theorem dJ9_abs_0f7a4_1 : decode cJ9_abs_0f7a4 1 = .ok (.ifCond .ge 8, 3) := by decide +kernel
theorem dJ9_abs_0f7a4_4 : decode cJ9_abs_0f7a4 4 = .ok (.iload_n 0, 1) := by decide +kernel
theorem dJ9_abs_0f7a4_5 : decode cJ9_abs_0f7a4 5 = .ok (.ineg, 1) := by decide +kernel
theorem dJ9_abs_0f7a4_6 : decode cJ9_abs_0f7a4 6 = .ok (.goto 4, 3) := by decide +kernel
theorem dJ9_abs_0f7a4_9 : decode cJ9_abs_0f7a4 9 = .ok (.iload_n 0, 1) := by decide +kernel
theorem dJ9_abs_0f7a4_10 : decode cJ9_abs_0f7a4 10 = .ok (.ireturn, 1) := by decide +kernel
theorem dJ9_max_7cf53_0 : decode cJ9_max_7cf53 0 = .ok (.iload_n 0, 1) := by decide +kernel
theorem dJ9_max_7cf53_1 : decode cJ9_max_7cf53 1 = .ok (.iload_n 1, 1) := by decide +kernel
theorem dJ9_max_7cf53_2 : decode cJ9_max_7cf53 2 = .ok (.if_icmp .lt 7, 3) := by decide +kernel
theorem dJ9_max_7cf53_5 : decode cJ9_max_7cf53 5 = .ok (.iload_n 0, 1) := by decide +kernel
theorem dJ9_max_7cf53_6 : decode cJ9_max_7cf53 6 = .ok (.goto 4, 3) := by decide +kernel
theorem dJ9_max_7cf53_9 : decode cJ9_max_7cf53 9 = .ok (.iload_n 1, 1) := by decide +kernel
theorem dJ9_max_7cf53_10 : decode cJ9_max_7cf53 10 = .ok (.ireturn, 1) := by decide +kernel
theorem dJ9_min_7cf53_0 : decode cJ9_min_7cf53 0 = .ok (.iload_n 0, 1) := by decide +kernel
theorem dJ9_min_7cf53_1 : decode cJ9_min_7cf53 1 = .ok (.iload_n 1, 1) := by decide +kernel
theorem dJ9_min_7cf53_2 : decode cJ9_min_7cf53 2 = .ok (.if_icmp .gt 7, 3) := by decide +kernel
theorem dJ9_min_7cf53_5 : decode cJ9_min_7cf53 5 = .ok (.iload_n 0, 1) := by decide +kernel
theorem dJ9_min_7cf53_6 : decode cJ9_min_7cf53 6 = .ok (.goto 4, 3) := by decide +kernel
theorem dJ9_min_7cf53_9 : decode cJ9_min_7cf53 9 = .ok (.iload_n 1, 1) := by decide +kernel
theorem dJ9_min_7cf53_10 : decode cJ9_min_7cf53 10 = .ok (.ireturn, 1) := by decide +kernel
theorem dJ7_fill_53178_0 : decode cJ7_fill_53178 0 = .ok (.iconst 0, 1) := by decide +kernel
theorem dJ7_fill_53178_1 : decode cJ7_fill_53178 1 = .ok (.istore_n 2, 1) := by decide +kernel
theorem dJ7_fill_53178_2 : decode cJ7_fill_53178 2 = .ok (.aload_n 0, 1) := by decide +kernel
theorem dJ7_fill_53178_3 : decode cJ7_fill_53178 3 = .ok (.arraylength, 1) := by decide +kernel
theorem dJ7_fill_53178_4 : decode cJ7_fill_53178 4 = .ok (.istore_n 3, 1) := by decide +kernel
theorem dJ7_fill_53178_5 : decode cJ7_fill_53178 5 = .ok (.iload_n 2, 1) := by decide +kernel
theorem dJ7_fill_53178_6 : decode cJ7_fill_53178 6 = .ok (.iload_n 3, 1) := by decide +kernel
theorem dJ7_fill_53178_7 : decode cJ7_fill_53178 7 = .ok (.if_icmp .ge 13, 3) := by decide +kernel
theorem dJ7_fill_53178_10 : decode cJ7_fill_53178 10 = .ok (.aload_n 0, 1) := by decide +kernel
theorem dJ7_fill_53178_11 : decode cJ7_fill_53178 11 = .ok (.iload_n 2, 1) := by decide +kernel
theorem dJ7_fill_53178_12 : decode cJ7_fill_53178 12 = .ok (.iload_n 1, 1) := by decide +kernel
theorem dJ7_fill_53178_13 : decode cJ7_fill_53178 13 = .ok (.iastore, 1) := by decide +kernel
theorem dJ7_fill_53178_14 : decode cJ7_fill_53178 14 = .ok (.iinc 2 1, 3) := by decide +kernel
theorem dJ7_fill_53178_17 : decode cJ7_fill_53178 17 = .ok (.goto (-12), 3) := by decide +kernel
theorem dJ7_fill_53178_20 : decode cJ7_fill_53178 20 = .ok (.return_, 1) := by decide +kernel
theorem dL_law_0 : decode cL_law 0 = .ok (.new 7, 3) := by decide +kernel
theorem dL_law_3 : decode cL_law 3 = .ok (.dup, 1) := by decide +kernel
theorem dL_law_4 : decode cL_law 4 = .ok (.invokespecial 9, 3) := by decide +kernel
theorem dL_law_7 : decode cL_law 7 = .ok (.astore_n 1, 1) := by decide +kernel
theorem dL_law_8 : decode cL_law 8 = .ok (.new 10, 3) := by decide +kernel
theorem dL_law_11 : decode cL_law 11 = .ok (.dup, 1) := by decide +kernel
theorem dL_law_12 : decode cL_law 12 = .ok (.invokespecial 12, 3) := by decide +kernel
theorem dL_law_15 : decode cL_law 15 = .ok (.astore_n 2, 1) := by decide +kernel
theorem dL_law_16 : decode cL_law 16 = .ok (.iconst 0, 1) := by decide +kernel
theorem dL_law_17 : decode cL_law 17 = .ok (.istore_n 3, 1) := by decide +kernel
theorem dL_law_18 : decode cL_law 18 = .ok (.iload_n 3, 1) := by decide +kernel
theorem dL_law_19 : decode cL_law 19 = .ok (.aload_n 0, 1) := by decide +kernel
theorem dL_law_20 : decode cL_law 20 = .ok (.arraylength, 1) := by decide +kernel
theorem dL_law_21 : decode cL_law 21 = .ok (.bipush 9, 2) := by decide +kernel
theorem dL_law_23 : decode cL_law 23 = .ok (.isub, 1) := by decide +kernel
theorem dL_law_24 : decode cL_law 24 = .ok (.if_icmp .gt 725, 3) := by decide +kernel
theorem dL_law_27 : decode cL_law 27 = .ok (.aload_n 0, 1) := by decide +kernel
theorem dL_law_28 : decode cL_law 28 = .ok (.iload_n 3, 1) := by decide +kernel
theorem dL_law_29 : decode cL_law 29 = .ok (.iaload, 1) := by decide +kernel
theorem dL_law_30 : decode cL_law 30 = .ok (.bipush 31, 2) := by decide +kernel
theorem dL_law_32 : decode cL_law 32 = .ok (.iand, 1) := by decide +kernel
theorem dL_law_33 : decode cL_law 33 = .ok (.tableswitch 710 0 18 #[91, 154, 177, 210, 259, 282, 315, 414, 437, 450, 483, 516, 539, 572, 585, 598, 631, 654, 687], 91) := by decide +kernel
theorem dL_law_124 : decode cL_law 124 = .ok (.aload_n 1, 1) := by decide +kernel
theorem dL_law_125 : decode cL_law 125 = .ok (.aload_n 0, 1) := by decide +kernel
theorem dL_law_126 : decode cL_law 126 = .ok (.iload_n 3, 1) := by decide +kernel
theorem dL_law_127 : decode cL_law 127 = .ok (.iconst 1, 1) := by decide +kernel
theorem dL_law_128 : decode cL_law 128 = .ok (.iadd, 1) := by decide +kernel
theorem dL_law_129 : decode cL_law 129 = .ok (.iaload, 1) := by decide +kernel
theorem dL_law_130 : decode cL_law 130 = .ok (.aload_n 0, 1) := by decide +kernel
theorem dL_law_131 : decode cL_law 131 = .ok (.iload_n 3, 1) := by decide +kernel
theorem dL_law_132 : decode cL_law 132 = .ok (.iconst 2, 1) := by decide +kernel
theorem dL_law_133 : decode cL_law 133 = .ok (.iadd, 1) := by decide +kernel
theorem dL_law_134 : decode cL_law 134 = .ok (.iaload, 1) := by decide +kernel
theorem dL_law_135 : decode cL_law 135 = .ok (.aload_n 0, 1) := by decide +kernel
theorem dL_law_136 : decode cL_law 136 = .ok (.iload_n 3, 1) := by decide +kernel
theorem dL_law_137 : decode cL_law 137 = .ok (.iconst 3, 1) := by decide +kernel
theorem dL_law_138 : decode cL_law 138 = .ok (.iadd, 1) := by decide +kernel
theorem dL_law_139 : decode cL_law 139 = .ok (.iaload, 1) := by decide +kernel
theorem dL_law_140 : decode cL_law 140 = .ok (.aload_n 0, 1) := by decide +kernel
theorem dL_law_141 : decode cL_law 141 = .ok (.iload_n 3, 1) := by decide +kernel
theorem dL_law_142 : decode cL_law 142 = .ok (.iconst 4, 1) := by decide +kernel
theorem dL_law_143 : decode cL_law 143 = .ok (.iadd, 1) := by decide +kernel
theorem dL_law_144 : decode cL_law 144 = .ok (.iaload, 1) := by decide +kernel
theorem dL_law_145 : decode cL_law 145 = .ok (.aload_n 0, 1) := by decide +kernel
theorem dL_law_146 : decode cL_law 146 = .ok (.iload_n 3, 1) := by decide +kernel
theorem dL_law_147 : decode cL_law 147 = .ok (.iconst 5, 1) := by decide +kernel
theorem dL_law_148 : decode cL_law 148 = .ok (.iadd, 1) := by decide +kernel
theorem dL_law_149 : decode cL_law 149 = .ok (.iaload, 1) := by decide +kernel
theorem dL_law_150 : decode cL_law 150 = .ok (.invokevirtual 13, 3) := by decide +kernel
theorem dL_law_153 : decode cL_law 153 = .ok (.aload_n 2, 1) := by decide +kernel
theorem dL_law_154 : decode cL_law 154 = .ok (.aload_n 0, 1) := by decide +kernel
theorem dL_law_155 : decode cL_law 155 = .ok (.iload_n 3, 1) := by decide +kernel
theorem dL_law_156 : decode cL_law 156 = .ok (.iconst 1, 1) := by decide +kernel
theorem dL_law_157 : decode cL_law 157 = .ok (.iadd, 1) := by decide +kernel
theorem dL_law_158 : decode cL_law 158 = .ok (.iaload, 1) := by decide +kernel
theorem dL_law_159 : decode cL_law 159 = .ok (.aload_n 0, 1) := by decide +kernel
theorem dL_law_160 : decode cL_law 160 = .ok (.iload_n 3, 1) := by decide +kernel
theorem dL_law_161 : decode cL_law 161 = .ok (.iconst 2, 1) := by decide +kernel
theorem dL_law_162 : decode cL_law 162 = .ok (.iadd, 1) := by decide +kernel
theorem dL_law_163 : decode cL_law 163 = .ok (.iaload, 1) := by decide +kernel
theorem dL_law_164 : decode cL_law 164 = .ok (.aload_n 0, 1) := by decide +kernel
theorem dL_law_165 : decode cL_law 165 = .ok (.iload_n 3, 1) := by decide +kernel
theorem dL_law_166 : decode cL_law 166 = .ok (.iconst 3, 1) := by decide +kernel
theorem dL_law_167 : decode cL_law 167 = .ok (.iadd, 1) := by decide +kernel
theorem dL_law_168 : decode cL_law 168 = .ok (.iaload, 1) := by decide +kernel
theorem dL_law_169 : decode cL_law 169 = .ok (.aload_n 0, 1) := by decide +kernel
theorem dL_law_170 : decode cL_law 170 = .ok (.iload_n 3, 1) := by decide +kernel
theorem dL_law_171 : decode cL_law 171 = .ok (.iconst 4, 1) := by decide +kernel
theorem dL_law_172 : decode cL_law 172 = .ok (.iadd, 1) := by decide +kernel
theorem dL_law_173 : decode cL_law 173 = .ok (.iaload, 1) := by decide +kernel
theorem dL_law_174 : decode cL_law 174 = .ok (.aload_n 0, 1) := by decide +kernel
theorem dL_law_175 : decode cL_law 175 = .ok (.iload_n 3, 1) := by decide +kernel
theorem dL_law_176 : decode cL_law 176 = .ok (.iconst 5, 1) := by decide +kernel
theorem dL_law_177 : decode cL_law 177 = .ok (.iadd, 1) := by decide +kernel
theorem dL_law_178 : decode cL_law 178 = .ok (.iaload, 1) := by decide +kernel
theorem dL_law_179 : decode cL_law 179 = .ok (.invokevirtual 17, 3) := by decide +kernel
theorem dL_law_182 : decode cL_law 182 = .ok (.if_icmp .eq 561, 3) := by decide +kernel
theorem dL_law_185 : decode cL_law 185 = .ok (.iconst 0, 1) := by decide +kernel
theorem dL_law_186 : decode cL_law 186 = .ok (.ireturn, 1) := by decide +kernel
theorem dL_law_187 : decode cL_law 187 = .ok (.aload_n 1, 1) := by decide +kernel
theorem dL_law_188 : decode cL_law 188 = .ok (.aload_n 0, 1) := by decide +kernel
theorem dL_law_189 : decode cL_law 189 = .ok (.iload_n 3, 1) := by decide +kernel
theorem dL_law_190 : decode cL_law 190 = .ok (.iconst 1, 1) := by decide +kernel
theorem dL_law_191 : decode cL_law 191 = .ok (.iadd, 1) := by decide +kernel
theorem dL_law_192 : decode cL_law 192 = .ok (.iaload, 1) := by decide +kernel
theorem dL_law_193 : decode cL_law 193 = .ok (.invokevirtual 18, 3) := by decide +kernel
theorem dL_law_196 : decode cL_law 196 = .ok (.aload_n 2, 1) := by decide +kernel
theorem dL_law_197 : decode cL_law 197 = .ok (.aload_n 0, 1) := by decide +kernel
theorem dL_law_198 : decode cL_law 198 = .ok (.iload_n 3, 1) := by decide +kernel
theorem dL_law_199 : decode cL_law 199 = .ok (.iconst 1, 1) := by decide +kernel
theorem dL_law_200 : decode cL_law 200 = .ok (.iadd, 1) := by decide +kernel
theorem dL_law_201 : decode cL_law 201 = .ok (.iaload, 1) := by decide +kernel
theorem dL_law_202 : decode cL_law 202 = .ok (.invokevirtual 22, 3) := by decide +kernel
theorem dL_law_205 : decode cL_law 205 = .ok (.if_icmp .eq 538, 3) := by decide +kernel
theorem dL_law_208 : decode cL_law 208 = .ok (.iconst 0, 1) := by decide +kernel
theorem dL_law_209 : decode cL_law 209 = .ok (.ireturn, 1) := by decide +kernel
theorem dL_law_210 : decode cL_law 210 = .ok (.aload_n 1, 1) := by decide +kernel
theorem dL_law_211 : decode cL_law 211 = .ok (.aload_n 0, 1) := by decide +kernel
theorem dL_law_212 : decode cL_law 212 = .ok (.iload_n 3, 1) := by decide +kernel
theorem dL_law_213 : decode cL_law 213 = .ok (.iconst 1, 1) := by decide +kernel
theorem dL_law_214 : decode cL_law 214 = .ok (.iadd, 1) := by decide +kernel
theorem dL_law_215 : decode cL_law 215 = .ok (.iaload, 1) := by decide +kernel
theorem dL_law_216 : decode cL_law 216 = .ok (.aload_n 0, 1) := by decide +kernel
theorem dL_law_217 : decode cL_law 217 = .ok (.iload_n 3, 1) := by decide +kernel
theorem dL_law_218 : decode cL_law 218 = .ok (.iconst 2, 1) := by decide +kernel
theorem dL_law_219 : decode cL_law 219 = .ok (.iadd, 1) := by decide +kernel
theorem dL_law_220 : decode cL_law 220 = .ok (.iaload, 1) := by decide +kernel
theorem dL_law_221 : decode cL_law 221 = .ok (.invokevirtual 23, 3) := by decide +kernel
theorem dL_law_224 : decode cL_law 224 = .ok (.aload_n 2, 1) := by decide +kernel
theorem dL_law_225 : decode cL_law 225 = .ok (.aload_n 0, 1) := by decide +kernel
theorem dL_law_226 : decode cL_law 226 = .ok (.iload_n 3, 1) := by decide +kernel
theorem dL_law_227 : decode cL_law 227 = .ok (.iconst 1, 1) := by decide +kernel
theorem dL_law_228 : decode cL_law 228 = .ok (.iadd, 1) := by decide +kernel
theorem dL_law_229 : decode cL_law 229 = .ok (.iaload, 1) := by decide +kernel
theorem dL_law_230 : decode cL_law 230 = .ok (.aload_n 0, 1) := by decide +kernel
theorem dL_law_231 : decode cL_law 231 = .ok (.iload_n 3, 1) := by decide +kernel
theorem dL_law_232 : decode cL_law 232 = .ok (.iconst 2, 1) := by decide +kernel
theorem dL_law_233 : decode cL_law 233 = .ok (.iadd, 1) := by decide +kernel
theorem dL_law_234 : decode cL_law 234 = .ok (.iaload, 1) := by decide +kernel
theorem dL_law_235 : decode cL_law 235 = .ok (.invokevirtual 27, 3) := by decide +kernel
theorem dL_law_238 : decode cL_law 238 = .ok (.if_icmp .eq 505, 3) := by decide +kernel
theorem dL_law_241 : decode cL_law 241 = .ok (.iconst 0, 1) := by decide +kernel
theorem dL_law_242 : decode cL_law 242 = .ok (.ireturn, 1) := by decide +kernel
theorem dL_law_243 : decode cL_law 243 = .ok (.aload_n 1, 1) := by decide +kernel
theorem dL_law_244 : decode cL_law 244 = .ok (.aload_n 0, 1) := by decide +kernel
theorem dL_law_245 : decode cL_law 245 = .ok (.iload_n 3, 1) := by decide +kernel
theorem dL_law_246 : decode cL_law 246 = .ok (.iconst 1, 1) := by decide +kernel
theorem dL_law_247 : decode cL_law 247 = .ok (.iadd, 1) := by decide +kernel
theorem dL_law_248 : decode cL_law 248 = .ok (.iaload, 1) := by decide +kernel
theorem dL_law_249 : decode cL_law 249 = .ok (.aload_n 0, 1) := by decide +kernel
theorem dL_law_250 : decode cL_law 250 = .ok (.iload_n 3, 1) := by decide +kernel
theorem dL_law_251 : decode cL_law 251 = .ok (.iconst 2, 1) := by decide +kernel
theorem dL_law_252 : decode cL_law 252 = .ok (.iadd, 1) := by decide +kernel
theorem dL_law_253 : decode cL_law 253 = .ok (.iaload, 1) := by decide +kernel
theorem dL_law_254 : decode cL_law 254 = .ok (.ifCond .eq 7, 3) := by decide +kernel
theorem dL_law_257 : decode cL_law 257 = .ok (.iconst 1, 1) := by decide +kernel
theorem dL_law_258 : decode cL_law 258 = .ok (.goto 4, 3) := by decide +kernel
theorem dL_law_261 : decode cL_law 261 = .ok (.iconst 0, 1) := by decide +kernel
theorem dL_law_262 : decode cL_law 262 = .ok (.invokevirtual 28, 3) := by decide +kernel
theorem dL_law_265 : decode cL_law 265 = .ok (.aload_n 2, 1) := by decide +kernel
theorem dL_law_266 : decode cL_law 266 = .ok (.aload_n 0, 1) := by decide +kernel
theorem dL_law_267 : decode cL_law 267 = .ok (.iload_n 3, 1) := by decide +kernel
theorem dL_law_268 : decode cL_law 268 = .ok (.iconst 1, 1) := by decide +kernel
theorem dL_law_269 : decode cL_law 269 = .ok (.iadd, 1) := by decide +kernel
theorem dL_law_270 : decode cL_law 270 = .ok (.iaload, 1) := by decide +kernel
theorem dL_law_271 : decode cL_law 271 = .ok (.aload_n 0, 1) := by decide +kernel
theorem dL_law_272 : decode cL_law 272 = .ok (.iload_n 3, 1) := by decide +kernel
theorem dL_law_273 : decode cL_law 273 = .ok (.iconst 2, 1) := by decide +kernel
theorem dL_law_274 : decode cL_law 274 = .ok (.iadd, 1) := by decide +kernel
theorem dL_law_275 : decode cL_law 275 = .ok (.iaload, 1) := by decide +kernel
theorem dL_law_276 : decode cL_law 276 = .ok (.ifCond .eq 7, 3) := by decide +kernel
theorem dL_law_279 : decode cL_law 279 = .ok (.iconst 1, 1) := by decide +kernel
theorem dL_law_280 : decode cL_law 280 = .ok (.goto 4, 3) := by decide +kernel
theorem dL_law_283 : decode cL_law 283 = .ok (.iconst 0, 1) := by decide +kernel
theorem dL_law_284 : decode cL_law 284 = .ok (.invokevirtual 32, 3) := by decide +kernel
theorem dL_law_287 : decode cL_law 287 = .ok (.if_icmp .eq 456, 3) := by decide +kernel
theorem dL_law_290 : decode cL_law 290 = .ok (.iconst 0, 1) := by decide +kernel
theorem dL_law_291 : decode cL_law 291 = .ok (.ireturn, 1) := by decide +kernel
theorem dL_law_292 : decode cL_law 292 = .ok (.aload_n 1, 1) := by decide +kernel
theorem dL_law_293 : decode cL_law 293 = .ok (.aload_n 0, 1) := by decide +kernel
theorem dL_law_294 : decode cL_law 294 = .ok (.iload_n 3, 1) := by decide +kernel
theorem dL_law_295 : decode cL_law 295 = .ok (.iconst 1, 1) := by decide +kernel
theorem dL_law_296 : decode cL_law 296 = .ok (.iadd, 1) := by decide +kernel
theorem dL_law_297 : decode cL_law 297 = .ok (.iaload, 1) := by decide +kernel
theorem dL_law_298 : decode cL_law 298 = .ok (.invokevirtual 33, 3) := by decide +kernel
theorem dL_law_301 : decode cL_law 301 = .ok (.aload_n 2, 1) := by decide +kernel
theorem dL_law_302 : decode cL_law 302 = .ok (.aload_n 0, 1) := by decide +kernel
theorem dL_law_303 : decode cL_law 303 = .ok (.iload_n 3, 1) := by decide +kernel
theorem dL_law_304 : decode cL_law 304 = .ok (.iconst 1, 1) := by decide +kernel
theorem dL_law_305 : decode cL_law 305 = .ok (.iadd, 1) := by decide +kernel
theorem dL_law_306 : decode cL_law 306 = .ok (.iaload, 1) := by decide +kernel
theorem dL_law_307 : decode cL_law 307 = .ok (.invokevirtual 37, 3) := by decide +kernel
theorem dL_law_310 : decode cL_law 310 = .ok (.if_icmp .eq 433, 3) := by decide +kernel
theorem dL_law_313 : decode cL_law 313 = .ok (.iconst 0, 1) := by decide +kernel
theorem dL_law_314 : decode cL_law 314 = .ok (.ireturn, 1) := by decide +kernel
theorem dL_law_315 : decode cL_law 315 = .ok (.aload_n 1, 1) := by decide +kernel
theorem dL_law_316 : decode cL_law 316 = .ok (.aload_n 0, 1) := by decide +kernel
theorem dL_law_317 : decode cL_law 317 = .ok (.iload_n 3, 1) := by decide +kernel
theorem dL_law_318 : decode cL_law 318 = .ok (.iconst 1, 1) := by decide +kernel
theorem dL_law_319 : decode cL_law 319 = .ok (.iadd, 1) := by decide +kernel
theorem dL_law_320 : decode cL_law 320 = .ok (.iaload, 1) := by decide +kernel
theorem dL_law_321 : decode cL_law 321 = .ok (.aload_n 0, 1) := by decide +kernel
theorem dL_law_322 : decode cL_law 322 = .ok (.iload_n 3, 1) := by decide +kernel
theorem dL_law_323 : decode cL_law 323 = .ok (.iconst 2, 1) := by decide +kernel
theorem dL_law_324 : decode cL_law 324 = .ok (.iadd, 1) := by decide +kernel
theorem dL_law_325 : decode cL_law 325 = .ok (.iaload, 1) := by decide +kernel
theorem dL_law_326 : decode cL_law 326 = .ok (.invokevirtual 38, 3) := by decide +kernel
theorem dL_law_329 : decode cL_law 329 = .ok (.aload_n 2, 1) := by decide +kernel
theorem dL_law_330 : decode cL_law 330 = .ok (.aload_n 0, 1) := by decide +kernel
theorem dL_law_331 : decode cL_law 331 = .ok (.iload_n 3, 1) := by decide +kernel
theorem dL_law_332 : decode cL_law 332 = .ok (.iconst 1, 1) := by decide +kernel
theorem dL_law_333 : decode cL_law 333 = .ok (.iadd, 1) := by decide +kernel
theorem dL_law_334 : decode cL_law 334 = .ok (.iaload, 1) := by decide +kernel
theorem dL_law_335 : decode cL_law 335 = .ok (.aload_n 0, 1) := by decide +kernel
theorem dL_law_336 : decode cL_law 336 = .ok (.iload_n 3, 1) := by decide +kernel
theorem dL_law_337 : decode cL_law 337 = .ok (.iconst 2, 1) := by decide +kernel
theorem dL_law_338 : decode cL_law 338 = .ok (.iadd, 1) := by decide +kernel
theorem dL_law_339 : decode cL_law 339 = .ok (.iaload, 1) := by decide +kernel
theorem dL_law_340 : decode cL_law 340 = .ok (.invokevirtual 42, 3) := by decide +kernel
theorem dL_law_343 : decode cL_law 343 = .ok (.if_icmp .eq 400, 3) := by decide +kernel
theorem dL_law_346 : decode cL_law 346 = .ok (.iconst 0, 1) := by decide +kernel
theorem dL_law_347 : decode cL_law 347 = .ok (.ireturn, 1) := by decide +kernel
theorem dL_law_348 : decode cL_law 348 = .ok (.aload_n 1, 1) := by decide +kernel
theorem dL_law_349 : decode cL_law 349 = .ok (.aload_n 0, 1) := by decide +kernel
theorem dL_law_350 : decode cL_law 350 = .ok (.iload_n 3, 1) := by decide +kernel
theorem dL_law_351 : decode cL_law 351 = .ok (.iconst 1, 1) := by decide +kernel
theorem dL_law_352 : decode cL_law 352 = .ok (.iadd, 1) := by decide +kernel
theorem dL_law_353 : decode cL_law 353 = .ok (.iaload, 1) := by decide +kernel
theorem dL_law_354 : decode cL_law 354 = .ok (.aload_n 0, 1) := by decide +kernel
theorem dL_law_355 : decode cL_law 355 = .ok (.iload_n 3, 1) := by decide +kernel
theorem dL_law_356 : decode cL_law 356 = .ok (.iconst 2, 1) := by decide +kernel
theorem dL_law_357 : decode cL_law 357 = .ok (.iadd, 1) := by decide +kernel
theorem dL_law_358 : decode cL_law 358 = .ok (.iaload, 1) := by decide +kernel
theorem dL_law_359 : decode cL_law 359 = .ok (.aload_n 0, 1) := by decide +kernel
theorem dL_law_360 : decode cL_law 360 = .ok (.iload_n 3, 1) := by decide +kernel
theorem dL_law_361 : decode cL_law 361 = .ok (.iconst 3, 1) := by decide +kernel
theorem dL_law_362 : decode cL_law 362 = .ok (.iadd, 1) := by decide +kernel
theorem dL_law_363 : decode cL_law 363 = .ok (.iaload, 1) := by decide +kernel
theorem dL_law_364 : decode cL_law 364 = .ok (.aload_n 0, 1) := by decide +kernel
theorem dL_law_365 : decode cL_law 365 = .ok (.iload_n 3, 1) := by decide +kernel
theorem dL_law_366 : decode cL_law 366 = .ok (.iconst 4, 1) := by decide +kernel
theorem dL_law_367 : decode cL_law 367 = .ok (.iadd, 1) := by decide +kernel
theorem dL_law_368 : decode cL_law 368 = .ok (.iaload, 1) := by decide +kernel
theorem dL_law_369 : decode cL_law 369 = .ok (.aload_n 0, 1) := by decide +kernel
theorem dL_law_370 : decode cL_law 370 = .ok (.iload_n 3, 1) := by decide +kernel
theorem dL_law_371 : decode cL_law 371 = .ok (.iconst 5, 1) := by decide +kernel
theorem dL_law_372 : decode cL_law 372 = .ok (.iadd, 1) := by decide +kernel
theorem dL_law_373 : decode cL_law 373 = .ok (.iaload, 1) := by decide +kernel
theorem dL_law_374 : decode cL_law 374 = .ok (.aload_n 0, 1) := by decide +kernel
theorem dL_law_375 : decode cL_law 375 = .ok (.iload_n 3, 1) := by decide +kernel
theorem dL_law_376 : decode cL_law 376 = .ok (.bipush 6, 2) := by decide +kernel
theorem dL_law_378 : decode cL_law 378 = .ok (.iadd, 1) := by decide +kernel
theorem dL_law_379 : decode cL_law 379 = .ok (.iaload, 1) := by decide +kernel
theorem dL_law_380 : decode cL_law 380 = .ok (.aload_n 0, 1) := by decide +kernel
theorem dL_law_381 : decode cL_law 381 = .ok (.iload_n 3, 1) := by decide +kernel
theorem dL_law_382 : decode cL_law 382 = .ok (.bipush 7, 2) := by decide +kernel
theorem dL_law_384 : decode cL_law 384 = .ok (.iadd, 1) := by decide +kernel
theorem dL_law_385 : decode cL_law 385 = .ok (.iaload, 1) := by decide +kernel
theorem dL_law_386 : decode cL_law 386 = .ok (.aload_n 0, 1) := by decide +kernel
theorem dL_law_387 : decode cL_law 387 = .ok (.iload_n 3, 1) := by decide +kernel
theorem dL_law_388 : decode cL_law 388 = .ok (.bipush 8, 2) := by decide +kernel
theorem dL_law_390 : decode cL_law 390 = .ok (.iadd, 1) := by decide +kernel
theorem dL_law_391 : decode cL_law 391 = .ok (.iaload, 1) := by decide +kernel
theorem dL_law_392 : decode cL_law 392 = .ok (.invokevirtual 43, 3) := by decide +kernel
theorem dL_law_395 : decode cL_law 395 = .ok (.aload_n 2, 1) := by decide +kernel
theorem dL_law_396 : decode cL_law 396 = .ok (.aload_n 0, 1) := by decide +kernel
theorem dL_law_397 : decode cL_law 397 = .ok (.iload_n 3, 1) := by decide +kernel
theorem dL_law_398 : decode cL_law 398 = .ok (.iconst 1, 1) := by decide +kernel
theorem dL_law_399 : decode cL_law 399 = .ok (.iadd, 1) := by decide +kernel
theorem dL_law_400 : decode cL_law 400 = .ok (.iaload, 1) := by decide +kernel
theorem dL_law_401 : decode cL_law 401 = .ok (.aload_n 0, 1) := by decide +kernel
theorem dL_law_402 : decode cL_law 402 = .ok (.iload_n 3, 1) := by decide +kernel
theorem dL_law_403 : decode cL_law 403 = .ok (.iconst 2, 1) := by decide +kernel
theorem dL_law_404 : decode cL_law 404 = .ok (.iadd, 1) := by decide +kernel
theorem dL_law_405 : decode cL_law 405 = .ok (.iaload, 1) := by decide +kernel
theorem dL_law_406 : decode cL_law 406 = .ok (.aload_n 0, 1) := by decide +kernel
theorem dL_law_407 : decode cL_law 407 = .ok (.iload_n 3, 1) := by decide +kernel
theorem dL_law_408 : decode cL_law 408 = .ok (.iconst 3, 1) := by decide +kernel
theorem dL_law_409 : decode cL_law 409 = .ok (.iadd, 1) := by decide +kernel
theorem dL_law_410 : decode cL_law 410 = .ok (.iaload, 1) := by decide +kernel
theorem dL_law_411 : decode cL_law 411 = .ok (.aload_n 0, 1) := by decide +kernel
theorem dL_law_412 : decode cL_law 412 = .ok (.iload_n 3, 1) := by decide +kernel
theorem dL_law_413 : decode cL_law 413 = .ok (.iconst 4, 1) := by decide +kernel
theorem dL_law_414 : decode cL_law 414 = .ok (.iadd, 1) := by decide +kernel
theorem dL_law_415 : decode cL_law 415 = .ok (.iaload, 1) := by decide +kernel
theorem dL_law_416 : decode cL_law 416 = .ok (.aload_n 0, 1) := by decide +kernel
theorem dL_law_417 : decode cL_law 417 = .ok (.iload_n 3, 1) := by decide +kernel
theorem dL_law_418 : decode cL_law 418 = .ok (.iconst 5, 1) := by decide +kernel
theorem dL_law_419 : decode cL_law 419 = .ok (.iadd, 1) := by decide +kernel
theorem dL_law_420 : decode cL_law 420 = .ok (.iaload, 1) := by decide +kernel
theorem dL_law_421 : decode cL_law 421 = .ok (.aload_n 0, 1) := by decide +kernel
theorem dL_law_422 : decode cL_law 422 = .ok (.iload_n 3, 1) := by decide +kernel
theorem dL_law_423 : decode cL_law 423 = .ok (.bipush 6, 2) := by decide +kernel
theorem dL_law_425 : decode cL_law 425 = .ok (.iadd, 1) := by decide +kernel
theorem dL_law_426 : decode cL_law 426 = .ok (.iaload, 1) := by decide +kernel
theorem dL_law_427 : decode cL_law 427 = .ok (.aload_n 0, 1) := by decide +kernel
theorem dL_law_428 : decode cL_law 428 = .ok (.iload_n 3, 1) := by decide +kernel
theorem dL_law_429 : decode cL_law 429 = .ok (.bipush 7, 2) := by decide +kernel
theorem dL_law_431 : decode cL_law 431 = .ok (.iadd, 1) := by decide +kernel
theorem dL_law_432 : decode cL_law 432 = .ok (.iaload, 1) := by decide +kernel
theorem dL_law_433 : decode cL_law 433 = .ok (.aload_n 0, 1) := by decide +kernel
theorem dL_law_434 : decode cL_law 434 = .ok (.iload_n 3, 1) := by decide +kernel
theorem dL_law_435 : decode cL_law 435 = .ok (.bipush 8, 2) := by decide +kernel
theorem dL_law_437 : decode cL_law 437 = .ok (.iadd, 1) := by decide +kernel
theorem dL_law_438 : decode cL_law 438 = .ok (.iaload, 1) := by decide +kernel
theorem dL_law_439 : decode cL_law 439 = .ok (.invokevirtual 47, 3) := by decide +kernel
theorem dL_law_442 : decode cL_law 442 = .ok (.if_icmp .eq 301, 3) := by decide +kernel
theorem dL_law_445 : decode cL_law 445 = .ok (.iconst 0, 1) := by decide +kernel
theorem dL_law_446 : decode cL_law 446 = .ok (.ireturn, 1) := by decide +kernel
theorem dL_law_447 : decode cL_law 447 = .ok (.aload_n 1, 1) := by decide +kernel
theorem dL_law_448 : decode cL_law 448 = .ok (.aload_n 0, 1) := by decide +kernel
theorem dL_law_449 : decode cL_law 449 = .ok (.iload_n 3, 1) := by decide +kernel
theorem dL_law_450 : decode cL_law 450 = .ok (.iconst 1, 1) := by decide +kernel
theorem dL_law_451 : decode cL_law 451 = .ok (.iadd, 1) := by decide +kernel
theorem dL_law_452 : decode cL_law 452 = .ok (.iaload, 1) := by decide +kernel
theorem dL_law_453 : decode cL_law 453 = .ok (.invokevirtual 48, 3) := by decide +kernel
theorem dL_law_456 : decode cL_law 456 = .ok (.aload_n 2, 1) := by decide +kernel
theorem dL_law_457 : decode cL_law 457 = .ok (.aload_n 0, 1) := by decide +kernel
theorem dL_law_458 : decode cL_law 458 = .ok (.iload_n 3, 1) := by decide +kernel
theorem dL_law_459 : decode cL_law 459 = .ok (.iconst 1, 1) := by decide +kernel
theorem dL_law_460 : decode cL_law 460 = .ok (.iadd, 1) := by decide +kernel
theorem dL_law_461 : decode cL_law 461 = .ok (.iaload, 1) := by decide +kernel
theorem dL_law_462 : decode cL_law 462 = .ok (.invokevirtual 51, 3) := by decide +kernel
theorem dL_law_465 : decode cL_law 465 = .ok (.if_icmp .eq 278, 3) := by decide +kernel
theorem dL_law_468 : decode cL_law 468 = .ok (.iconst 0, 1) := by decide +kernel
theorem dL_law_469 : decode cL_law 469 = .ok (.ireturn, 1) := by decide +kernel
end
section
theorem dL_law_470 : decode cL_law 470 = .ok (.aload_n 1, 1) := by decide +kernel
theorem dL_law_471 : decode cL_law 471 = .ok (.invokevirtual 52, 3) := by decide +kernel
theorem dL_law_474 : decode cL_law 474 = .ok (.aload_n 2, 1) := by decide +kernel
theorem dL_law_475 : decode cL_law 475 = .ok (.invokevirtual 56, 3) := by decide +kernel
theorem dL_law_478 : decode cL_law 478 = .ok (.if_icmp .eq 265, 3) := by decide +kernel
theorem dL_law_481 : decode cL_law 481 = .ok (.iconst 0, 1) := by decide +kernel
theorem dL_law_482 : decode cL_law 482 = .ok (.ireturn, 1) := by decide +kernel
theorem dL_law_483 : decode cL_law 483 = .ok (.aload_n 1, 1) := by decide +kernel
theorem dL_law_484 : decode cL_law 484 = .ok (.aload_n 0, 1) := by decide +kernel
theorem dL_law_485 : decode cL_law 485 = .ok (.iload_n 3, 1) := by decide +kernel
theorem dL_law_486 : decode cL_law 486 = .ok (.iconst 1, 1) := by decide +kernel
theorem dL_law_487 : decode cL_law 487 = .ok (.iadd, 1) := by decide +kernel
theorem dL_law_488 : decode cL_law 488 = .ok (.iaload, 1) := by decide +kernel
theorem dL_law_489 : decode cL_law 489 = .ok (.aload_n 0, 1) := by decide +kernel
theorem dL_law_490 : decode cL_law 490 = .ok (.iload_n 3, 1) := by decide +kernel
theorem dL_law_491 : decode cL_law 491 = .ok (.iconst 2, 1) := by decide +kernel
theorem dL_law_492 : decode cL_law 492 = .ok (.iadd, 1) := by decide +kernel
theorem dL_law_493 : decode cL_law 493 = .ok (.iaload, 1) := by decide +kernel
theorem dL_law_494 : decode cL_law 494 = .ok (.invokevirtual 57, 3) := by decide +kernel
theorem dL_law_497 : decode cL_law 497 = .ok (.aload_n 2, 1) := by decide +kernel
theorem dL_law_498 : decode cL_law 498 = .ok (.aload_n 0, 1) := by decide +kernel
theorem dL_law_499 : decode cL_law 499 = .ok (.iload_n 3, 1) := by decide +kernel
theorem dL_law_500 : decode cL_law 500 = .ok (.iconst 1, 1) := by decide +kernel
theorem dL_law_501 : decode cL_law 501 = .ok (.iadd, 1) := by decide +kernel
theorem dL_law_502 : decode cL_law 502 = .ok (.iaload, 1) := by decide +kernel
theorem dL_law_503 : decode cL_law 503 = .ok (.aload_n 0, 1) := by decide +kernel
theorem dL_law_504 : decode cL_law 504 = .ok (.iload_n 3, 1) := by decide +kernel
theorem dL_law_505 : decode cL_law 505 = .ok (.iconst 2, 1) := by decide +kernel
theorem dL_law_506 : decode cL_law 506 = .ok (.iadd, 1) := by decide +kernel
theorem dL_law_507 : decode cL_law 507 = .ok (.iaload, 1) := by decide +kernel
theorem dL_law_508 : decode cL_law 508 = .ok (.invokevirtual 60, 3) := by decide +kernel
theorem dL_law_511 : decode cL_law 511 = .ok (.if_icmp .eq 232, 3) := by decide +kernel
theorem dL_law_514 : decode cL_law 514 = .ok (.iconst 0, 1) := by decide +kernel
theorem dL_law_515 : decode cL_law 515 = .ok (.ireturn, 1) := by decide +kernel
theorem dL_law_516 : decode cL_law 516 = .ok (.aload_n 1, 1) := by decide +kernel
theorem dL_law_517 : decode cL_law 517 = .ok (.aload_n 0, 1) := by decide +kernel
theorem dL_law_518 : decode cL_law 518 = .ok (.iload_n 3, 1) := by decide +kernel
theorem dL_law_519 : decode cL_law 519 = .ok (.iconst 1, 1) := by decide +kernel
theorem dL_law_520 : decode cL_law 520 = .ok (.iadd, 1) := by decide +kernel
theorem dL_law_521 : decode cL_law 521 = .ok (.iaload, 1) := by decide +kernel
theorem dL_law_522 : decode cL_law 522 = .ok (.aload_n 0, 1) := by decide +kernel
theorem dL_law_523 : decode cL_law 523 = .ok (.iload_n 3, 1) := by decide +kernel
theorem dL_law_524 : decode cL_law 524 = .ok (.iconst 2, 1) := by decide +kernel
theorem dL_law_525 : decode cL_law 525 = .ok (.iadd, 1) := by decide +kernel
theorem dL_law_526 : decode cL_law 526 = .ok (.iaload, 1) := by decide +kernel
theorem dL_law_527 : decode cL_law 527 = .ok (.invokevirtual 61, 3) := by decide +kernel
theorem dL_law_530 : decode cL_law 530 = .ok (.aload_n 2, 1) := by decide +kernel
theorem dL_law_531 : decode cL_law 531 = .ok (.aload_n 0, 1) := by decide +kernel
theorem dL_law_532 : decode cL_law 532 = .ok (.iload_n 3, 1) := by decide +kernel
theorem dL_law_533 : decode cL_law 533 = .ok (.iconst 1, 1) := by decide +kernel
theorem dL_law_534 : decode cL_law 534 = .ok (.iadd, 1) := by decide +kernel
theorem dL_law_535 : decode cL_law 535 = .ok (.iaload, 1) := by decide +kernel
theorem dL_law_536 : decode cL_law 536 = .ok (.aload_n 0, 1) := by decide +kernel
theorem dL_law_537 : decode cL_law 537 = .ok (.iload_n 3, 1) := by decide +kernel
theorem dL_law_538 : decode cL_law 538 = .ok (.iconst 2, 1) := by decide +kernel
theorem dL_law_539 : decode cL_law 539 = .ok (.iadd, 1) := by decide +kernel
theorem dL_law_540 : decode cL_law 540 = .ok (.iaload, 1) := by decide +kernel
theorem dL_law_541 : decode cL_law 541 = .ok (.invokevirtual 64, 3) := by decide +kernel
theorem dL_law_544 : decode cL_law 544 = .ok (.if_icmp .eq 199, 3) := by decide +kernel
theorem dL_law_547 : decode cL_law 547 = .ok (.iconst 0, 1) := by decide +kernel
theorem dL_law_548 : decode cL_law 548 = .ok (.ireturn, 1) := by decide +kernel
theorem dL_law_549 : decode cL_law 549 = .ok (.aload_n 1, 1) := by decide +kernel
theorem dL_law_550 : decode cL_law 550 = .ok (.aload_n 0, 1) := by decide +kernel
theorem dL_law_551 : decode cL_law 551 = .ok (.iload_n 3, 1) := by decide +kernel
theorem dL_law_552 : decode cL_law 552 = .ok (.iconst 1, 1) := by decide +kernel
theorem dL_law_553 : decode cL_law 553 = .ok (.iadd, 1) := by decide +kernel
theorem dL_law_554 : decode cL_law 554 = .ok (.iaload, 1) := by decide +kernel
theorem dL_law_555 : decode cL_law 555 = .ok (.invokevirtual 65, 3) := by decide +kernel
theorem dL_law_558 : decode cL_law 558 = .ok (.aload_n 2, 1) := by decide +kernel
theorem dL_law_559 : decode cL_law 559 = .ok (.aload_n 0, 1) := by decide +kernel
theorem dL_law_560 : decode cL_law 560 = .ok (.iload_n 3, 1) := by decide +kernel
theorem dL_law_561 : decode cL_law 561 = .ok (.iconst 1, 1) := by decide +kernel
theorem dL_law_562 : decode cL_law 562 = .ok (.iadd, 1) := by decide +kernel
theorem dL_law_563 : decode cL_law 563 = .ok (.iaload, 1) := by decide +kernel
theorem dL_law_564 : decode cL_law 564 = .ok (.invokevirtual 68, 3) := by decide +kernel
theorem dL_law_567 : decode cL_law 567 = .ok (.if_icmp .eq 176, 3) := by decide +kernel
theorem dL_law_570 : decode cL_law 570 = .ok (.iconst 0, 1) := by decide +kernel
theorem dL_law_571 : decode cL_law 571 = .ok (.ireturn, 1) := by decide +kernel
theorem dL_law_572 : decode cL_law 572 = .ok (.aload_n 1, 1) := by decide +kernel
theorem dL_law_573 : decode cL_law 573 = .ok (.aload_n 0, 1) := by decide +kernel
theorem dL_law_574 : decode cL_law 574 = .ok (.iload_n 3, 1) := by decide +kernel
theorem dL_law_575 : decode cL_law 575 = .ok (.iconst 1, 1) := by decide +kernel
theorem dL_law_576 : decode cL_law 576 = .ok (.iadd, 1) := by decide +kernel
theorem dL_law_577 : decode cL_law 577 = .ok (.iaload, 1) := by decide +kernel
theorem dL_law_578 : decode cL_law 578 = .ok (.aload_n 0, 1) := by decide +kernel
theorem dL_law_579 : decode cL_law 579 = .ok (.iload_n 3, 1) := by decide +kernel
theorem dL_law_580 : decode cL_law 580 = .ok (.iconst 2, 1) := by decide +kernel
theorem dL_law_581 : decode cL_law 581 = .ok (.iadd, 1) := by decide +kernel
theorem dL_law_582 : decode cL_law 582 = .ok (.iaload, 1) := by decide +kernel
theorem dL_law_583 : decode cL_law 583 = .ok (.invokevirtual 69, 3) := by decide +kernel
theorem dL_law_586 : decode cL_law 586 = .ok (.aload_n 2, 1) := by decide +kernel
theorem dL_law_587 : decode cL_law 587 = .ok (.aload_n 0, 1) := by decide +kernel
theorem dL_law_588 : decode cL_law 588 = .ok (.iload_n 3, 1) := by decide +kernel
theorem dL_law_589 : decode cL_law 589 = .ok (.iconst 1, 1) := by decide +kernel
theorem dL_law_590 : decode cL_law 590 = .ok (.iadd, 1) := by decide +kernel
theorem dL_law_591 : decode cL_law 591 = .ok (.iaload, 1) := by decide +kernel
theorem dL_law_592 : decode cL_law 592 = .ok (.aload_n 0, 1) := by decide +kernel
theorem dL_law_593 : decode cL_law 593 = .ok (.iload_n 3, 1) := by decide +kernel
theorem dL_law_594 : decode cL_law 594 = .ok (.iconst 2, 1) := by decide +kernel
theorem dL_law_595 : decode cL_law 595 = .ok (.iadd, 1) := by decide +kernel
theorem dL_law_596 : decode cL_law 596 = .ok (.iaload, 1) := by decide +kernel
theorem dL_law_597 : decode cL_law 597 = .ok (.invokevirtual 72, 3) := by decide +kernel
theorem dL_law_600 : decode cL_law 600 = .ok (.if_icmp .eq 143, 3) := by decide +kernel
theorem dL_law_603 : decode cL_law 603 = .ok (.iconst 0, 1) := by decide +kernel
theorem dL_law_604 : decode cL_law 604 = .ok (.ireturn, 1) := by decide +kernel
theorem dL_law_605 : decode cL_law 605 = .ok (.aload_n 1, 1) := by decide +kernel
theorem dL_law_606 : decode cL_law 606 = .ok (.invokevirtual 73, 3) := by decide +kernel
theorem dL_law_609 : decode cL_law 609 = .ok (.aload_n 2, 1) := by decide +kernel
theorem dL_law_610 : decode cL_law 610 = .ok (.invokevirtual 76, 3) := by decide +kernel
theorem dL_law_613 : decode cL_law 613 = .ok (.if_icmp .eq 130, 3) := by decide +kernel
theorem dL_law_616 : decode cL_law 616 = .ok (.iconst 0, 1) := by decide +kernel
theorem dL_law_617 : decode cL_law 617 = .ok (.ireturn, 1) := by decide +kernel
theorem dL_law_618 : decode cL_law 618 = .ok (.aload_n 1, 1) := by decide +kernel
theorem dL_law_619 : decode cL_law 619 = .ok (.invokevirtual 77, 3) := by decide +kernel
theorem dL_law_622 : decode cL_law 622 = .ok (.aload_n 2, 1) := by decide +kernel
theorem dL_law_623 : decode cL_law 623 = .ok (.invokevirtual 80, 3) := by decide +kernel
theorem dL_law_626 : decode cL_law 626 = .ok (.if_icmp .eq 117, 3) := by decide +kernel
theorem dL_law_629 : decode cL_law 629 = .ok (.iconst 0, 1) := by decide +kernel
theorem dL_law_630 : decode cL_law 630 = .ok (.ireturn, 1) := by decide +kernel
theorem dL_law_631 : decode cL_law 631 = .ok (.aload_n 1, 1) := by decide +kernel
theorem dL_law_632 : decode cL_law 632 = .ok (.aload_n 0, 1) := by decide +kernel
theorem dL_law_633 : decode cL_law 633 = .ok (.iload_n 3, 1) := by decide +kernel
theorem dL_law_634 : decode cL_law 634 = .ok (.iconst 1, 1) := by decide +kernel
theorem dL_law_635 : decode cL_law 635 = .ok (.iadd, 1) := by decide +kernel
theorem dL_law_636 : decode cL_law 636 = .ok (.iaload, 1) := by decide +kernel
theorem dL_law_637 : decode cL_law 637 = .ok (.aload_n 0, 1) := by decide +kernel
theorem dL_law_638 : decode cL_law 638 = .ok (.iload_n 3, 1) := by decide +kernel
theorem dL_law_639 : decode cL_law 639 = .ok (.iconst 2, 1) := by decide +kernel
theorem dL_law_640 : decode cL_law 640 = .ok (.iadd, 1) := by decide +kernel
theorem dL_law_641 : decode cL_law 641 = .ok (.iaload, 1) := by decide +kernel
theorem dL_law_642 : decode cL_law 642 = .ok (.invokevirtual 81, 3) := by decide +kernel
theorem dL_law_645 : decode cL_law 645 = .ok (.aload_n 2, 1) := by decide +kernel
theorem dL_law_646 : decode cL_law 646 = .ok (.aload_n 0, 1) := by decide +kernel
theorem dL_law_647 : decode cL_law 647 = .ok (.iload_n 3, 1) := by decide +kernel
theorem dL_law_648 : decode cL_law 648 = .ok (.iconst 1, 1) := by decide +kernel
theorem dL_law_649 : decode cL_law 649 = .ok (.iadd, 1) := by decide +kernel
theorem dL_law_650 : decode cL_law 650 = .ok (.iaload, 1) := by decide +kernel
theorem dL_law_651 : decode cL_law 651 = .ok (.aload_n 0, 1) := by decide +kernel
theorem dL_law_652 : decode cL_law 652 = .ok (.iload_n 3, 1) := by decide +kernel
theorem dL_law_653 : decode cL_law 653 = .ok (.iconst 2, 1) := by decide +kernel
theorem dL_law_654 : decode cL_law 654 = .ok (.iadd, 1) := by decide +kernel
theorem dL_law_655 : decode cL_law 655 = .ok (.iaload, 1) := by decide +kernel
theorem dL_law_656 : decode cL_law 656 = .ok (.invokevirtual 84, 3) := by decide +kernel
theorem dL_law_659 : decode cL_law 659 = .ok (.if_icmp .eq 84, 3) := by decide +kernel
theorem dL_law_662 : decode cL_law 662 = .ok (.iconst 0, 1) := by decide +kernel
theorem dL_law_663 : decode cL_law 663 = .ok (.ireturn, 1) := by decide +kernel
theorem dL_law_664 : decode cL_law 664 = .ok (.aload_n 1, 1) := by decide +kernel
theorem dL_law_665 : decode cL_law 665 = .ok (.aload_n 0, 1) := by decide +kernel
theorem dL_law_666 : decode cL_law 666 = .ok (.iload_n 3, 1) := by decide +kernel
theorem dL_law_667 : decode cL_law 667 = .ok (.iconst 1, 1) := by decide +kernel
theorem dL_law_668 : decode cL_law 668 = .ok (.iadd, 1) := by decide +kernel
theorem dL_law_669 : decode cL_law 669 = .ok (.iaload, 1) := by decide +kernel
theorem dL_law_670 : decode cL_law 670 = .ok (.invokevirtual 85, 3) := by decide +kernel
theorem dL_law_673 : decode cL_law 673 = .ok (.aload_n 2, 1) := by decide +kernel
theorem dL_law_674 : decode cL_law 674 = .ok (.aload_n 0, 1) := by decide +kernel
theorem dL_law_675 : decode cL_law 675 = .ok (.iload_n 3, 1) := by decide +kernel
theorem dL_law_676 : decode cL_law 676 = .ok (.iconst 1, 1) := by decide +kernel
theorem dL_law_677 : decode cL_law 677 = .ok (.iadd, 1) := by decide +kernel
theorem dL_law_678 : decode cL_law 678 = .ok (.iaload, 1) := by decide +kernel
theorem dL_law_679 : decode cL_law 679 = .ok (.invokevirtual 88, 3) := by decide +kernel
theorem dL_law_682 : decode cL_law 682 = .ok (.if_icmp .eq 61, 3) := by decide +kernel
theorem dL_law_685 : decode cL_law 685 = .ok (.iconst 0, 1) := by decide +kernel
theorem dL_law_686 : decode cL_law 686 = .ok (.ireturn, 1) := by decide +kernel
theorem dL_law_687 : decode cL_law 687 = .ok (.aload_n 1, 1) := by decide +kernel
theorem dL_law_688 : decode cL_law 688 = .ok (.aload_n 0, 1) := by decide +kernel
theorem dL_law_689 : decode cL_law 689 = .ok (.iload_n 3, 1) := by decide +kernel
theorem dL_law_690 : decode cL_law 690 = .ok (.iconst 1, 1) := by decide +kernel
theorem dL_law_691 : decode cL_law 691 = .ok (.iadd, 1) := by decide +kernel
theorem dL_law_692 : decode cL_law 692 = .ok (.iaload, 1) := by decide +kernel
theorem dL_law_693 : decode cL_law 693 = .ok (.aload_n 0, 1) := by decide +kernel
theorem dL_law_694 : decode cL_law 694 = .ok (.iload_n 3, 1) := by decide +kernel
theorem dL_law_695 : decode cL_law 695 = .ok (.iconst 2, 1) := by decide +kernel
theorem dL_law_696 : decode cL_law 696 = .ok (.iadd, 1) := by decide +kernel
theorem dL_law_697 : decode cL_law 697 = .ok (.iaload, 1) := by decide +kernel
theorem dL_law_698 : decode cL_law 698 = .ok (.invokevirtual 89, 3) := by decide +kernel
theorem dL_law_701 : decode cL_law 701 = .ok (.aload_n 2, 1) := by decide +kernel
theorem dL_law_702 : decode cL_law 702 = .ok (.aload_n 0, 1) := by decide +kernel
theorem dL_law_703 : decode cL_law 703 = .ok (.iload_n 3, 1) := by decide +kernel
theorem dL_law_704 : decode cL_law 704 = .ok (.iconst 1, 1) := by decide +kernel
theorem dL_law_705 : decode cL_law 705 = .ok (.iadd, 1) := by decide +kernel
theorem dL_law_706 : decode cL_law 706 = .ok (.iaload, 1) := by decide +kernel
theorem dL_law_707 : decode cL_law 707 = .ok (.aload_n 0, 1) := by decide +kernel
theorem dL_law_708 : decode cL_law 708 = .ok (.iload_n 3, 1) := by decide +kernel
theorem dL_law_709 : decode cL_law 709 = .ok (.iconst 2, 1) := by decide +kernel
theorem dL_law_710 : decode cL_law 710 = .ok (.iadd, 1) := by decide +kernel
theorem dL_law_711 : decode cL_law 711 = .ok (.iaload, 1) := by decide +kernel
theorem dL_law_712 : decode cL_law 712 = .ok (.invokevirtual 92, 3) := by decide +kernel
theorem dL_law_715 : decode cL_law 715 = .ok (.if_icmp .eq 28, 3) := by decide +kernel
theorem dL_law_718 : decode cL_law 718 = .ok (.iconst 0, 1) := by decide +kernel
theorem dL_law_719 : decode cL_law 719 = .ok (.ireturn, 1) := by decide +kernel
theorem dL_law_720 : decode cL_law 720 = .ok (.aload_n 1, 1) := by decide +kernel
theorem dL_law_721 : decode cL_law 721 = .ok (.aload_n 0, 1) := by decide +kernel
theorem dL_law_722 : decode cL_law 722 = .ok (.iload_n 3, 1) := by decide +kernel
theorem dL_law_723 : decode cL_law 723 = .ok (.iconst 1, 1) := by decide +kernel
theorem dL_law_724 : decode cL_law 724 = .ok (.iadd, 1) := by decide +kernel
theorem dL_law_725 : decode cL_law 725 = .ok (.iaload, 1) := by decide +kernel
theorem dL_law_726 : decode cL_law 726 = .ok (.invokevirtual 93, 3) := by decide +kernel
theorem dL_law_729 : decode cL_law 729 = .ok (.aload_n 2, 1) := by decide +kernel
theorem dL_law_730 : decode cL_law 730 = .ok (.aload_n 0, 1) := by decide +kernel
theorem dL_law_731 : decode cL_law 731 = .ok (.iload_n 3, 1) := by decide +kernel
theorem dL_law_732 : decode cL_law 732 = .ok (.iconst 1, 1) := by decide +kernel
theorem dL_law_733 : decode cL_law 733 = .ok (.iadd, 1) := by decide +kernel
theorem dL_law_734 : decode cL_law 734 = .ok (.iaload, 1) := by decide +kernel
theorem dL_law_735 : decode cL_law 735 = .ok (.invokevirtual 96, 3) := by decide +kernel
theorem dL_law_738 : decode cL_law 738 = .ok (.if_icmp .eq 5, 3) := by decide +kernel
theorem dL_law_741 : decode cL_law 741 = .ok (.iconst 0, 1) := by decide +kernel
theorem dL_law_742 : decode cL_law 742 = .ok (.ireturn, 1) := by decide +kernel
theorem dL_law_743 : decode cL_law 743 = .ok (.iinc 3 9, 3) := by decide +kernel
theorem dL_law_746 : decode cL_law 746 = .ok (.goto (-728), 3) := by decide +kernel
theorem dL_law_749 : decode cL_law 749 = .ok (.iconst 1, 1) := by decide +kernel
theorem dL_law_750 : decode cL_law 750 = .ok (.ireturn, 1) := by decide +kernel
end
section
/-! states of a world, its words, its surroundings -/
abbrev tSt : Type := Nat → Nat → Int32
def tUp (st : tSt) (k j : Nat) (v : Int32) : tSt := fun k' => if k' = k then upd (st k) j v else st k'
def tUpA (st : tSt) (k : Nat) (g : Nat → Int32) : tSt := fun k' => if k' = k then g else st k'
theorem tUp_self (st : tSt) (k j : Nat) (v : Int32) : tUp st k j v k = upd (st k) j v := by simp [tUp]
theorem tUp_ne (st : tSt) {k k' : Nat} (j : Nat) (v : Int32) (h : k' ≠ k) : tUp st k j v k' = st k' := by simp [tUp, h]
theorem tUpA_self (st : tSt) (k : Nat) (g : Nat → Int32) : tUpA st k g k = g := by simp [tUpA]
theorem tUpA_ne (st : tSt) {k k' : Nat} (g : Nat → Int32) (h : k' ≠ k) : tUpA st k g k' = st k' := by simp [tUpA, h]
def tNestW : Cond → Bool
  | .fieldLinkNest .. => true
  | .methodLinkNest .. => true
  | _ => false
def tWALL : List Cond := lw_tbl.filter goodWord
def tNEST : List Cond := lw_tbl.filter tNestW
theorem tin0 {w : Cond} (h : w ∈ k2_sels lw_privs) (g : goodWord w = true) : w ∈ tWALL := List.mem_filter.mpr ⟨List.mem_append_left _ h, g⟩
theorem tin1 {w : Cond} (h : w ∈ tables_1_1) (g : goodWord w = true) : w ∈ tWALL := List.mem_filter.mpr ⟨List.mem_append_right _ (List.mem_append_left _ h), g⟩
theorem tin2 {w : Cond} (h : w ∈ tables_1_2) (g : goodWord w = true) : w ∈ tWALL := List.mem_filter.mpr ⟨List.mem_append_right _ (List.mem_append_right _ (List.mem_append_left _ h)), g⟩
theorem tin3 {w : Cond} (h : w ∈ tables_1_3) (g : goodWord w = true) : w ∈ tWALL := List.mem_filter.mpr ⟨List.mem_append_right _ (List.mem_append_right _ (List.mem_append_right _ (List.mem_append_left _ h))), g⟩
theorem tin4 {w : Cond} (h : w ∈ tables_1_4) (g : goodWord w = true) : w ∈ tWALL := List.mem_filter.mpr ⟨List.mem_append_right _ (List.mem_append_right _ (List.mem_append_right _ (List.mem_append_right _ h))), g⟩
theorem tne1 {w : Cond} (h : w ∈ tables_1_1) (g : tNestW w = true) : w ∈ tNEST := List.mem_filter.mpr ⟨List.mem_append_right _ (List.mem_append_left _ h), g⟩
theorem tne2 {w : Cond} (h : w ∈ tables_1_2) (g : tNestW w = true) : w ∈ tNEST := List.mem_filter.mpr ⟨List.mem_append_right _ (List.mem_append_right _ (List.mem_append_left _ h)), g⟩
theorem tne3 {w : Cond} (h : w ∈ tables_1_3) (g : tNestW w = true) : w ∈ tNEST := List.mem_filter.mpr ⟨List.mem_append_right _ (List.mem_append_right _ (List.mem_append_right _ (List.mem_append_left _ h))), g⟩
theorem tne4 {w : Cond} (h : w ∈ tables_1_4) (g : tNestW w = true) : w ∈ tNEST := List.mem_filter.mpr ⟨List.mem_append_right _ (List.mem_append_right _ (List.mem_append_right _ (List.mem_append_right _ h))), g⟩
theorem tWALL_in {w : Cond} (h : w ∈ tWALL) : w ∈ lw_tbl := (List.mem_filter.mp h).1
theorem tNEST_in {w : Cond} (h : w ∈ tNEST) : w ∈ lw_tbl := (List.mem_filter.mp h).1
theorem tGood {w0 : Cond} {y : MethodName} {bytes : ByteArray} {maxL : Nat} {ret : Option FieldType} (h : Cond.code y bytes maxL ret ∈ tWALL) : GoodIn (w0 :: tWALL) (Cond.code y bytes maxL ret :: tWALL) := by
  intro w hw
  have h2 : w ∈ tWALL := by
    rcases List.mem_cons.mp hw with h1 | h1
    · rw [h1]; exact h
    · exact h1
  exact ⟨List.mem_cons_of_mem _ h2, good_of_word (List.mem_filter.mp h2).2⟩
theorem tGoodL {y : MethodName} {bytes : ByteArray} {maxL : Nat} {ret : Option FieldType} (h : Cond.code y bytes maxL ret ∈ tWALL) : GoodIn lw_tbl (Cond.code y bytes maxL ret :: tWALL) := by
  intro w hw
  have h2 : w ∈ tWALL := by
    rcases List.mem_cons.mp hw with h1 | h1
    · rw [h1]; exact h
    · exact h1
  exact ⟨tWALL_in h2, good_of_word (List.mem_filter.mp h2).2⟩
def tNst (U : State) : Prop := ∀ w ∈ tNEST, va_Nw w U
theorem tNst.warm {s U : State} (hW : s.WarmedH U.vm) (h : tNst s) : tNst U := by
  intro w hw
  have h1 := h w hw
  have h2 := (List.mem_filter.mp hw).2
  cases w <;> first | exact va_Nw.warmF hW h1 | exact va_Nw.warmM hW h1 | cases h2
theorem tNst.same {u U : State} (e : u.vm = U.vm) (h : tNst u) : tNst U := by
  intro w hw
  have h1 := h w hw
  have h2 := (List.mem_filter.mp hw).2
  cases w <;> first | exact va_Nw.same rfl e h1 | cases h2
/-! the class's static tables -/
def tab_LETTERS : Nat → Int32 := fun k => match k with
  | 0 => 119
  | 1 => 102
  | 2 => 112
  | _ => 103
def tab_AT_FIRST : Nat → Int32 := fun k => match k with
  | 0 => 1
  | 1 => 10
  | 2 => 100
  | _ => 50
def tab_HIGHEST : Nat → Int32 := fun k => match k with
  | 0 => 20
  | 1 => 100
  | 2 => 9999
  | _ => 9999
def tab_LEAST : Nat → Int32 := fun k => match k with
  | 2 => 1
  | 6 => -1
  | _ => 0
def tab_MOST : Nat → Int32 := fun k => match k with
  | 0 => 3
  | 1 => 95
  | 2 => 24
  | 3 => 9
  | 4 => 5
  | 5 => 4
  | 6 => 4
  | _ => 9999
def tTb1 (C n d : String) (ty : FieldType) (t N : Nat) (f : Nat → Int32) (A : Nat → Prop) (U : State) (H : Heap) : Prop := va_Z C n d (.ref t) A U H ∧ va_T ty t N (fun j => .int (f j)) A U H
theorem tTb1.moved {C n d : String} {ty : FieldType} {t N : Nat} {f : Nat → Int32} {A : Nat → Prop} {u U : State} {H : Heap} (hvm : u.vm.Alike U.vm) (h : tTb1 C n d ty t N f A u H) : tTb1 C n d ty t N f A U H := ⟨va_Z.moved hvm h.1, va_T.moved hvm h.2⟩
theorem tTb1.kept {C n d : String} {ty : FieldType} {t N : Nat} {f : Nat → Int32} {A : Nat → Prop} {U : State} {H H1 : Heap} (h : tTb1 C n d ty t N f A U H) (hq : ∀ a : Nat, a < H.size → ¬ A a → H1[a]? = H[a]?) : tTb1 C n d ty t N f A U H1 := ⟨va_Z.kept h.1 hq, va_T.kept h.2 hq⟩
theorem tTb1.narrow {C n d : String} {ty : FieldType} {t N : Nat} {f : Nat → Int32} {A B : Nat → Prop} {U : State} {H : Heap} (h : tTb1 C n d ty t N f A U H) (hAB : ∀ q, B q → A q) : tTb1 C n d ty t N f B U H := ⟨va_Z.narrow h.1 hAB, va_T.narrow h.2 hAB⟩
def tTx (t N : Nat) (f : Nat → Int32) (A : Nat → Prop) (U : State) (H : Heap) : Prop := va_X t N f U H ∧ t < H.size ∧ ¬ A t
def tTbl (tb : Nat → Nat) (A : Nat → Prop) (U : State) (H : Heap) : Prop :=
  tTb1 "TowerPipers$TownWord" "LETTERS" "[C" .char (tb 0) 4 tab_LETTERS A U H ∧ tTb1 "TowerPipers$TownWord" "AT_FIRST" "[I" .int (tb 1) 4 tab_AT_FIRST A U H ∧ tTb1 "TowerPipers$TownWord" "HIGHEST" "[I" .int (tb 2) 4 tab_HIGHEST A U H ∧ tTb1 "TowerPipers$Call" "LEAST" "[I" .int (tb 3) 8 tab_LEAST A U H ∧ tTb1 "TowerPipers$Call" "MOST" "[I" .int (tb 4) 8 tab_MOST A U H ∧ tTx (tb 1) 4 tab_AT_FIRST A U H
theorem tTbl.moved {tb : Nat → Nat} {A : Nat → Prop} {u U : State} {H : Heap} (hvm : u.vm.Alike U.vm) (h : tTbl tb A u H) : tTbl tb A U H := ⟨h.1.moved hvm, h.2.1.moved hvm, h.2.2.1.moved hvm, h.2.2.2.1.moved hvm, h.2.2.2.2.1.moved hvm, va_X.moved hvm h.2.2.2.2.2.1, h.2.2.2.2.2.2⟩
theorem tTbl.kept {tb : Nat → Nat} {A : Nat → Prop} {U : State} {H H1 : Heap} (h : tTbl tb A U H) (hz : H.size ≤ H1.size) (hq : ∀ a : Nat, a < H.size → ¬ A a → H1[a]? = H[a]?) : tTbl tb A U H1 := ⟨h.1.kept hq, h.2.1.kept hq, h.2.2.1.kept hq, h.2.2.2.1.kept hq, h.2.2.2.2.1.kept hq, va_X.kept h.2.2.2.2.2.1 (hq _ h.2.2.2.2.2.2.1 h.2.2.2.2.2.2.2), Nat.lt_of_lt_of_le h.2.2.2.2.2.2.1 hz, h.2.2.2.2.2.2.2⟩
theorem tTbl.narrow {tb : Nat → Nat} {A B : Nat → Prop} {U : State} {H : Heap} (h : tTbl tb A U H) (hAB : ∀ q, B q → A q) : tTbl tb B U H := ⟨h.1.narrow hAB, h.2.1.narrow hAB, h.2.2.1.narrow hAB, h.2.2.2.1.narrow hAB, h.2.2.2.2.1.narrow hAB, h.2.2.2.2.2.1, h.2.2.2.2.2.2.1, fun q => h.2.2.2.2.2.2.2 (hAB _ q)⟩
/-! a world: n cells at the addresses a -/
def tA (n : Nat) (a : Nat → Nat) (sz : Nat) : Nat → Prop := fun q => (∃ k, k < n ∧ q = a k) ∨ sz ≤ q
theorem tA.mono {n : Nat} {a : Nat → Nat} {s1 s2 : Nat} (h : s1 ≤ s2) (q : Nat) (hq : tA n a s2 q) : tA n a s1 q := by
  rcases hq with h1 | h1
  · exact Or.inl h1
  · exact Or.inr (Nat.le_trans h h1)
abbrev tTys (ca : Nat → ClassId) : List (ClassId × FieldType) := [(ca 0, .int), (ca 1, .object RX2), (ca 2, .object RX0), (ca 3, .object RX6), (ca 4, .byte)]
def tEnv (n : Nat) (dC : Nat → ClassId) (dI : Nat → Nat → Nat) (a : Nat → Nat) (ca : Nat → ClassId) (tb : Nat → Nat) (U : State) : Prop :=
  va_K (dC, dI) vwCl (tTys ca) U ∧ tNst U ∧ tTbl tb (tA n a U.heap.size) U U.heap ∧ (∀ i j, i < n → j < n → a i = a j → i = j) ∧ (∀ i, i < n → a i < U.heap.size)
theorem tEnv.step {n : Nat} {dC : Nat → ClassId} {dI : Nat → Nat → Nat} {a : Nat → Nat} {ca : Nat → ClassId} {tb : Nat → Nat} {s U : State} {H : Heap} {locs : List Loc} (E : tEnv n dC dI a ca tb s) (hS : va_S (tA n a s.heap.size) s.heap H locs) (hU : U.heap = H) (hW : s.WarmedH U.vm) : tEnv n dC dI a ca tb U := by
  obtain ⟨h1, h2, h3, h4, h5⟩ := E
  subst hU
  exact ⟨va_K.moved hW.alike h1, h2.warm hW, ((h3.moved hW.alike).kept hS.1 hS.2.1).narrow (tA.mono hS.1), h4, fun i hi => Nat.lt_of_lt_of_le (h5 i hi) hS.1⟩
theorem tEnv.blind {n : Nat} {dC : Nat → ClassId} {dI : Nat → Nat → Nat} {a : Nat → Nat} {ca : Nat → ClassId} {tb : Nat → Nat} {U : State} (E : tEnv n dC dI a ca tb U) (g : JFrame) (mk : MethodId) (v : Array Value) : tEnv n dC dI a ca tb (U.calling g mk v) := by
  obtain ⟨h1, h2, h3, h4, h5⟩ := E
  exact ⟨va_K.moved (u := U) (U := U.calling g mk v) (Vm.Alike.refl U.vm) h1, tNst.same (u := U) (U := U.calling g mk v) rfl h2, tTbl.moved (u := U) (U := U.calling g mk v) (Vm.Alike.refl U.vm) h3, h4, h5⟩
theorem tD {ws : va_W} {n : Nat} {a : Nat → Nat} {sz : Nat} (hm : ws.map (fun q => q.1) = (List.range n).map a) (hi : ∀ i j, i < n → j < n → a i = a j → i = j) : va_D (tA n a sz) ws := by
  have key : ∀ (k : Nat) (q : Nat × va_E), ws[k]? = some q → k < n ∧ q.1 = a k := by
    intro k q hk
    have h1 : (ws.map (fun q => q.1))[k]? = some q.1 := by rw [List.getElem?_map, hk]; rfl
    rw [hm, List.getElem?_map] at h1
    by_cases hkn : k < n
    · rw [List.getElem?_range hkn] at h1
      exact ⟨hkn, (Option.some.inj h1).symm⟩
    · rw [List.getElem?_eq_none (by simpa using hkn)] at h1
      cases h1
  refine ⟨fun i j p q hi' hj' e => ?_, fun k q hk => ?_⟩
  · obtain ⟨h1, h2⟩ := key i p hi'
    obtain ⟨h3, h4⟩ := key j q hj'
    exact hi i j h1 h3 (by rw [← h2, ← h4]; exact e)
  · obtain ⟨h1, h2⟩ := key k q hk
    exact Or.inl ⟨k, h1, h2⟩
def tPre (n : Nat) (wd : tSt → va_W) (dC : Nat → ClassId) (dI : Nat → Nat → Nat) (a : Nat → Nat) (ca : Nat → ClassId) (tb : Nat → Nat) (sz : Nat) (st : tSt) : State → Prop := fun U => U.heap.size = sz ∧ tEnv n dC dI a ca tb U ∧ va_P (dC, dI) vwCl (wd st) U.heap
def tB (wd : tSt → va_W) (dC : Nat → ClassId) (dI : Nat → Nat → Nat) : tSt → State → Prop := fun st t => va_P (dC, dI) vwCl (wd st) t.heap
theorem tp_met {l : Launch} {y : MethodName} {rm : Room} {cc : ByteArray} {maxL : Nat} {ret : Option FieldType} {av : List Value} {Qc : Array Value → State → Outcome → State → Prop} {free : Addr → Prop} {n : Nat} {wd : tSt → va_W} {dC : Nat → ClassId} {dI : Nat → Nat → Nat} {a : Nat → Nat} {ca : Nat → ClassId} {tb : Nat → Nat} {sz : Nat} {st : tSt} (hy : plainName y.cls = true) (hlen : (lg_sl av).length ≤ maxL)
    (body : ∀ (p : Program) (e : Env) (s : State) (m : MethodId) (below : List Frame) (meth : Method) (c : Code) (ls : Array Slot), CallFix p m c cc maxL s av.toArray (.code y cc maxL ret :: tWALL) y.cls → meth.sig.returnType = ret → meth.locks = false → s.heap.size = sz → tEnv n dC dI a ca tb s → va_P (dC, dI) vwCl (wd st) s.heap → lv_has ls maxL (lv_args 0 av) → W p l e rm s m av.toArray below meth c s.heap [] 0 0 (MQ below Qc av.toArray s 0 0 free) (F0 m 0 ls [])) :
    Met l y (.code y cc maxL ret :: tWALL) rm (va_Pc av (tPre n wd dC dI a ca tb sz st)) Qc 0 0 free := by
  refine Met.ofW (cc := cc) (maxL := maxL) (ret := ret) hy rfl ?_
  intro p e s m args below meth c s₁ B hml hv
  obtain ⟨rfl, hsz, hE, hP⟩ := hv
  rw [lg_entry_eq]
  exact body p e s m below meth c _ ⟨B.exec, B.bytes, hml, findClass_of_methodNamed B.named, atoms_spec (ws := _) B.pre⟩ B.returns B.notSynchronized hsz hE hP (lv_entry av hlen)
theorem t_lt {i : Int32} {n : Nat} (h : vp_in i n) : i.toNatClampNeg < n := Nat.not_le.mp fun q => h (Or.inr q)
section TPW
variable {p : Program} {l : Launch} {e : Env} {R : Room} {s : State} {m : MethodId} {args : Array Value} {below : List Frame} {meth : Method} {c : Code} {H : Heap} {locs : List Loc} {Q : State → Prop}
variable {cc : ByteArray} {nL pc : Nat} {ls : Array Slot} {rest stk : List Value} {D : va_G} {A : Nat → Prop} {b : Nat} {tys : List (ClassId × FieldType)} {ws : va_W} {wd : tSt → va_W} {st st2 : tSt} {H0 : Heap} {w0 : Cond} {own : String}
theorem tp_get (S : CallFix p m c cc nL s args (w0 :: tWALL) own) (hK : va_K D vwCl tys s) (hP : va_P D vwCl ws H) {C : String} {T : u_T} {N ci index : Nat} (hin : ∀ w ∈ u_ws C T N, w ∈ tWALL) (q0 : Nat) {fs : List Value} (he : ws[q0]? = some (b, .inr (ci, fs))) (hc : vwCl[ci]? = some (C, T, N)) (k : Nat) (hk : k < N) (hlink : Cond.fieldLink own index (T k).1 (T k).2.1 (T k).2.2.1 ∈ tWALL) {v : Value} (hv : fs[k]? = some v) (hdg : decode cc pc = .ok (.getfield index, 3))
    (kk : W p l e R s m args below meth c H locs 0 0 Q (F0 m (pc + 3) ls (v :: rest))) : W p l e R s m args below meth c H locs 0 0 Q (F0 m pc ls (.ref b :: rest)) :=
  va_get S.1 S.2.1 S.2.2.2.2 (fun w h => List.mem_cons_of_mem _ (hin w h)) S.2.2.2.1 hK hP q0 he hc k hk (S.2.2.2.2 _ (List.mem_cons_of_mem _ hlink)) (fun _ h => h) hv hdg kk
theorem tp_getN (S : CallFix p m c cc nL s args (w0 :: tWALL) own) (hN : tNst s) (hK : va_K D vwCl tys s) (hP : va_P D vwCl ws H) {C host : String} {T : u_T} {N ci index : Nat} (hin : ∀ w ∈ u_ws C T N, w ∈ tWALL) (q0 : Nat) {fs : List Value} (he : ws[q0]? = some (b, .inr (ci, fs))) (hc : vwCl[ci]? = some (C, T, N)) (k : Nat) (hk : k < N) (hlink : Cond.fieldLinkNest own index (T k).1 (T k).2.1 (T k).2.2.1 host ∈ tNEST) {v : Value} (hv : fs[k]? = some v) (hdg : decode cc pc = .ok (.getfield index, 3))
    (kk : W p l e R s m args below meth c H locs 0 0 Q (F0 m (pc + 3) ls (v :: rest))) : W p l e R s m args below meth c H locs 0 0 Q (F0 m pc ls (.ref b :: rest)) :=
  va_getN S.1 S.2.1 S.2.2.2.2 (fun w h => List.mem_cons_of_mem _ (hin w h)) S.2.2.2.1 hK hP q0 he hc k hk (va_Nw.use rfl (hN _ hlink)) (fun _ h => h) hv hdg kk
theorem tp_put (S : CallFix p m c cc nL s args (w0 :: tWALL) own) (hK : va_K D vwCl tys s) (hP : va_P D vwCl (wd st) H) (hD : va_D A (wd st)) (hS : va_S A H0 H locs) {C : String} {T : u_T} {N ci index : Nat} (hin : ∀ w ∈ u_ws C T N, w ∈ tWALL) (ty0 : Nat → FieldType) (hty : ∀ k, k < N → parseFieldDescriptor (T k).2.2.1 = some (ty0 k)) (hnm : ∀ a, a < N → ∀ b, b < N → a ≠ b → (T a).2.1 ≠ (T b).2.1) (q0 : Nat) {fs : List Value} (he : (wd st)[q0]? = some (b, .inr (ci, fs))) (hc : vwCl[ci]? = some (C, T, N)) (k : Nat) (hk : k < N) (hlink : Cond.fieldLink own index (T k).1 (T k).2.1 (T k).2.2.1 ∈ tWALL) (hfin : (T k).2.2.2 = false) {ty : FieldType} {v : Value} (hd : parseFieldDescriptor (T k).2.2.1 = some ty) (hn : narrow ty v = v) (hfit : fits ty v = true) (hl : k < fs.length) (hset : (wd st).set q0 (b, .inr (ci, fs.set k v)) = wd st2)
    (hdg : decode cc pc = .ok (.putfield index, 3)) (kk : ∀ (st3 : tSt) (H1 : Heap) (locs1 : List Loc), st3 = st2 → va_P D vwCl (wd st3) H1 → va_S A H0 H1 locs1 → W p l e R s m args below meth c H1 locs1 0 0 Q (F0 m (pc + 3) ls rest)) : W p l e R s m args below meth c H locs 0 0 Q (F0 m pc ls (v :: .ref b :: rest)) :=
  va_put S.1 S.2.1 S.2.2.2.2 (fun w h => List.mem_cons_of_mem _ (hin w h)) ty0 hty hnm S.2.2.2.1 hK hP hD hS q0 he hc k hk (S.2.2.2.2 _ (List.mem_cons_of_mem _ hlink)) (fun _ h => h) hfin hd hn hfit hl hdg (fun H1 locs1 h1 _ h3 => kk st2 H1 locs1 rfl (hset ▸ h1) h3)
theorem tp_putN (S : CallFix p m c cc nL s args (w0 :: tWALL) own) (hN : tNst s) (hK : va_K D vwCl tys s) (hP : va_P D vwCl (wd st) H) (hD : va_D A (wd st)) (hS : va_S A H0 H locs) {C host : String} {T : u_T} {N ci index : Nat} (hin : ∀ w ∈ u_ws C T N, w ∈ tWALL) (ty0 : Nat → FieldType) (hty : ∀ k, k < N → parseFieldDescriptor (T k).2.2.1 = some (ty0 k)) (hnm : ∀ a, a < N → ∀ b, b < N → a ≠ b → (T a).2.1 ≠ (T b).2.1) (q0 : Nat) {fs : List Value} (he : (wd st)[q0]? = some (b, .inr (ci, fs))) (hc : vwCl[ci]? = some (C, T, N)) (k : Nat) (hk : k < N) (hlink : Cond.fieldLinkNest own index (T k).1 (T k).2.1 (T k).2.2.1 host ∈ tNEST) (hfin : (T k).2.2.2 = false) {ty : FieldType} {v : Value} (hd : parseFieldDescriptor (T k).2.2.1 = some ty) (hn : narrow ty v = v) (hfit : fits ty v = true) (hl : k < fs.length) (hset : (wd st).set q0 (b, .inr (ci, fs.set k v)) = wd st2)
    (hdg : decode cc pc = .ok (.putfield index, 3)) (kk : ∀ (st3 : tSt) (H1 : Heap) (locs1 : List Loc), st3 = st2 → va_P D vwCl (wd st3) H1 → va_S A H0 H1 locs1 → W p l e R s m args below meth c H1 locs1 0 0 Q (F0 m (pc + 3) ls rest)) : W p l e R s m args below meth c H locs 0 0 Q (F0 m pc ls (v :: .ref b :: rest)) :=
  va_putN S.1 S.2.1 S.2.2.2.2 (fun w h => List.mem_cons_of_mem _ (hin w h)) ty0 hty hnm S.2.2.2.1 hK hP hD hS q0 he hc k hk (va_Nw.use rfl (hN _ hlink)) (fun _ h => h) hfin hd hn hfit hl hdg (fun H1 locs1 h1 _ h3 => kk st2 H1 locs1 rfl (hset ▸ h1) h3)
theorem tp_iald (S : CallFix p m c cc nL s args (w0 :: tWALL) own) (hK : va_K D vwCl tys s) (hP : va_P D vwCl ws H) (q0 t0 : Nat) {cA : ClassId} {n : Nat} {f : Nat → Int32} (ha : ws[q0]? = some (b, .inl (cA, n, .inl f))) (ht : tys[t0]? = some (cA, .int)) {i : Int32} {j : Nat} (hj : i.toNatClampNeg = j) (hin : vp_in i n) (hdg : decode cc pc = .ok (.iaload, 1))
    (kk : W p l e R s m args below meth c H locs 0 0 Q (F0 m (pc + 1) ls (.int (f j) :: rest))) : W p l e R s m args below meth c H locs 0 0 Q (F0 m pc ls (.int i :: .ref b :: rest)) := by
  subst hj; exact va_iald S.1 S.2.1 hK hP q0 t0 ha ht hin hdg kk
theorem tp_bald (S : CallFix p m c cc nL s args (w0 :: tWALL) own) (hK : va_K D vwCl tys s) (hP : va_P D vwCl ws H) (q0 t0 : Nat) {cA : ClassId} {n : Nat} {f : Nat → Int32} (ha : ws[q0]? = some (b, .inl (cA, n, .inl f))) (ht : tys[t0]? = some (cA, .byte)) {i : Int32} {j : Nat} (hj : i.toNatClampNeg = j) (hin : vp_in i n) (hdg : decode cc pc = .ok (.baload, 1))
    (kk : W p l e R s m args below meth c H locs 0 0 Q (F0 m (pc + 1) ls (.int (f j) :: rest))) : W p l e R s m args below meth c H locs 0 0 Q (F0 m pc ls (.int i :: .ref b :: rest)) := by
  subst hj; exact va_bald S.1 S.2.1 hK hP q0 t0 ha ht hin hdg kk
theorem tp_aald (S : CallFix p m c cc nL s args (w0 :: tWALL) own) (hK : va_K D vwCl tys s) (hP : va_P D vwCl ws H) (q0 t0 : Nat) {cA : ClassId} {C : String} {n : Nat} {f : Nat → Option Nat} (ha : ws[q0]? = some (b, .inl (cA, n, .inr (.inr (.inr (.inr f)))))) (ht : tys[t0]? = some (cA, .object C)) {i : Int32} {j d : Nat} (hj : i.toNatClampNeg = j) (hf : f j = some d) (hin : vp_in i n) (hdg : decode cc pc = .ok (.aaload, 1))
    (kk : W p l e R s m args below meth c H locs 0 0 Q (F0 m (pc + 1) ls (.ref d :: rest))) : W p l e R s m args below meth c H locs 0 0 Q (F0 m pc ls (.int i :: .ref b :: rest)) := by
  subst hj; refine va_aldq S.1 S.2.1 hK hP q0 t0 ha ht hin hdg ?_; rw [hf]; exact kk
theorem tp_iast (S : CallFix p m c cc nL s args (w0 :: tWALL) own) (hK : va_K D vwCl tys s) (hP : va_P D vwCl (wd st) H) (hD : va_D A (wd st)) (hS : va_S A H0 H locs) (q0 t0 : Nat) {cA : ClassId} {n : Nat} {f : Nat → Int32} (ha : (wd st)[q0]? = some (b, .inl (cA, n, .inl f))) (ht : tys[t0]? = some (cA, .int)) {i x : Int32} {j : Nat} (hj : i.toNatClampNeg = j) (hin : vp_in i n) (hset : (wd st).set q0 (b, .inl (cA, n, .inl (upd f j x))) = wd st2) (hdg : decode cc pc = .ok (.iastore, 1))
    (kk : ∀ (st3 : tSt) (H1 : Heap) (locs1 : List Loc), st3 = st2 → va_P D vwCl (wd st3) H1 → va_S A H0 H1 locs1 → W p l e R s m args below meth c H1 locs1 0 0 Q (F0 m (pc + 1) ls rest)) : W p l e R s m args below meth c H locs 0 0 Q (F0 m pc ls (.int x :: .int i :: .ref b :: rest)) := by
  subst hj; exact va_iast S.1 S.2.1 hK hP hD hS q0 t0 ha ht hin hdg (fun H1 locs1 h1 _ h3 => kk st2 H1 locs1 rfl (hset ▸ h1) h3)
theorem tp_bast (S : CallFix p m c cc nL s args (w0 :: tWALL) own) (hK : va_K D vwCl tys s) (hP : va_P D vwCl (wd st) H) (hD : va_D A (wd st)) (hS : va_S A H0 H locs) (q0 t0 : Nat) {cA : ClassId} {n : Nat} {f : Nat → Int32} (ha : (wd st)[q0]? = some (b, .inl (cA, n, .inl f))) (ht : tys[t0]? = some (cA, .byte)) {i x : Int32} {j : Nat} (hj : i.toNatClampNeg = j) (hin : vp_in i n) (hset : (wd st).set q0 (b, .inl (cA, n, .inl (upd f j (vp_nar .byte x)))) = wd st2) (hdg : decode cc pc = .ok (.bastore, 1))
    (kk : ∀ (st3 : tSt) (H1 : Heap) (locs1 : List Loc), st3 = st2 → va_P D vwCl (wd st3) H1 → va_S A H0 H1 locs1 → W p l e R s m args below meth c H1 locs1 0 0 Q (F0 m (pc + 1) ls rest)) : W p l e R s m args below meth c H locs 0 0 Q (F0 m pc ls (.int x :: .int i :: .ref b :: rest)) := by
  subst hj; exact va_bast S.1 S.2.1 hK hP hD hS q0 t0 ha ht hin hdg (fun H1 locs1 h1 _ h3 => kk st2 H1 locs1 rfl (hset ▸ h1) h3)
end TPW
end
section
/-! calls inside a world, and ends -/
def tQi (wd : tSt → va_W) (n : Nat) (dC : Nat → ClassId) (dI : Nat → Nat → Nat) (a : Nat → Nat) (args : Array Value) (below : List Frame) (s : State) (post : Int32 → tSt → Prop) : State → Prop := MQ below (va_Qi post (tB wd dC dI) (tA n a s.heap.size)) args s 0 0 (tA n a s.heap.size)
def tQv (wd : tSt → va_W) (n : Nat) (dC : Nat → ClassId) (dI : Nat → Nat → Nat) (a : Nat → Nat) (args : Array Value) (below : List Frame) (s : State) (post : tSt → Prop) : State → Prop := MQ below (va_Qv post (tB wd dC dI) (tA n a s.heap.size)) args s 0 0 (tA n a s.heap.size)
def tQr (wd : tSt → va_W) (n : Nat) (dC : Nat → ClassId) (dI : Nat → Nat → Nat) (a : Nat → Nat) (args : Array Value) (below : List Frame) (s : State) (ra : Nat) (post : tSt → Prop) : State → Prop := MQ below (va_Qr post (fun u x t => x = ra ∧ tB wd dC dI u t) (tA n a s.heap.size)) args s 0 0 (tA n a s.heap.size)
/-- at a place of a method: with the world at st and the locals lv it comes to Q -/
def tAt (p : Program) (l : Launch) (e : Env) (R : Room) (s : State) (m : MethodId) (args : Array Value) (below : List Frame) (meth : Method) (c : Code) (D : va_G) (wd : tSt → va_W) (A : Nat → Prop) (Q : State → Prop) (nL pc : Nat) (lv : List (Nat × Value)) (stk : List Value) (st : tSt) : Prop :=
  ∀ (H : Heap) (locs : List Loc) (ls : Array Slot), va_P D vwCl (wd st) H → va_S A s.heap H locs → lv_has ls nL lv → W p l e R s m args below meth c H locs 0 0 Q (F0 m pc ls stk)
section TPC
variable {p : Program} {l : Launch} {e : Env} {R : Room} {s : State} {m : MethodId} {args : Array Value} {below : List Frame} {meth : Method} {c : Code} {H : Heap} {locs : List Loc} {Q : State → Prop}
variable {cc : ByteArray} {nL pc : Nat} {ls : Array Slot} {rest stk : List Value} {b : Nat} {wd : tSt → va_W} {st : tSt} {w0 : Cond} {own : String} {n : Nat} {dC : Nat → ClassId} {dI : Nat → Nat → Nat} {a : Nat → Nat} {ca : Nat → ClassId} {tb : Nat → Nat}
variable {y : MethodName} {bytes : ByteArray} {maxL np index : Nat} {ret : Option FieldType} {rm : Room} {As : List Value} {Qc : Array Value → State → Outcome → State → Prop}
theorem tBlind {av : List Value} {sz : Nat} : FrameBlind (va_Pc av (tPre n wd dC dI a ca tb sz st)) := fun x U g mk q => ⟨q.1, q.2.1, q.2.2.1.blind g mk x, q.2.2.2⟩
/-- what a call needs of the words: its code, its link, the room -/
def tCw (R : Room) (own : String) (index : Nat) (y : MethodName) (bytes : ByteArray) (maxL : Nat) (ret : Option FieldType) (rm : Room) (np : Nat) : Prop :=
  Cond.code y bytes maxL ret ∈ tWALL ∧ Cond.initialized y.cls ∈ tWALL ∧ (rm.cells = 0 ∧ rm.slots = 0 ∧ rm.frames + 1 ≤ R.frames ∧ 8 + (maxL + 11) + rm.locals ≤ R.locals) ∧ y.cls ≠ "java/lang/invoke/MethodHandle" ∧ y.cls ≠ "java/lang/invoke/VarHandle" ∧ (parseMethodDescriptor y.desc).map (fun d => d.parameters.length) = some np
theorem tRunV (S : CallFix p m c cc nL s args (w0 :: tWALL) own) (E : tEnv n dC dI a ca tb s) (hP : va_P (dC, dI) vwCl (wd st) H) (hS : va_S (tA n a s.heap.size) s.heap H locs)
    (hM : Met l y (.code y bytes maxL ret :: tWALL) rm (va_Pc (.ref b :: As) (tPre n wd dC dI a ca tb H.size st)) Qc 0 0 (tA n a H.size))
    (hw : tCw R own index y bytes maxL ret rm np) (hl : Cond.methodLink own index y ∈ tWALL) (hi : Cond.instanceMethod y ∈ tWALL) (hs : Cond.selects y.cls y y ∈ tWALL)
    (q0 ci : Nat) {q : vw_C} {fs : List Value} (hq : vwCl[ci]? = some q) (hqc : q.1 = y.cls) (he : (wd st)[q0]? = some (b, .inr (ci, fs)))
    (hn : As.length = np) (hsize : ls.size = nL) (hstk : stk = As.reverse ++ .ref b :: rest) (hrest : (rest.map fun v => v.category).sum ≤ 8) (hdg : decode cc pc = .ok (.invokevirtual index, 3)) :
    va_Run p l e R s m args below meth c H locs 0 0 0 0 (F0 m pc ls stk) rest (Qc (Value.ref b :: As).toArray) (tA n a H.size) := by
  obtain ⟨h1, h2, ⟨h3, h4, h5, h6⟩, h7, h8, h9⟩ := hw
  have ok : ∀ w ∈ tWALL, w.before args s = true := fun w h => S.2.2.2.2 w (List.mem_cons_of_mem _ h)
  refine va_runV (C := y.cls) S hM ⟨callB_of np S.2.2.2.2 (tGood h1) rfl h3 h4 (ok _ h2) (ok _ hl) ⟨h7, h8, h9⟩ ⟨h5, h6⟩, ok _ hi, ok _ hs⟩ ⟨tBlind, ?_, fun U hU hW => ⟨rfl, by rw [hU], E.step hS hU hW, by rw [hU]; exact hP⟩⟩ rfl hn hsize hstk (lv_room hrest) hdg ⟨by simp, by simp⟩
  rw [← hqc]
  exact va_recv E.1 hP hq he
theorem tRunS (S : CallFix p m c cc nL s args (w0 :: tWALL) own) (E : tEnv n dC dI a ca tb s) (hP : va_P (dC, dI) vwCl (wd st) H) (hS : va_S (tA n a s.heap.size) s.heap H locs)
    (hM : Met l y (.code y bytes maxL ret :: tWALL) rm (va_Pc As (tPre n wd dC dI a ca tb H.size st)) Qc 0 0 (tA n a H.size))
    (hw : tCw R own index y bytes maxL ret rm np) (hl : Cond.methodLink own index y ∈ tWALL) (hi : Cond.static y ∈ tWALL)
    (hn : As.length = np) (hsize : ls.size = nL) (hstk : stk = As.reverse ++ rest) (hrest : (rest.map fun v => v.category).sum ≤ 8) (hdg : decode cc pc = .ok (.invokestatic index, 3)) :
    va_Run p l e R s m args below meth c H locs 0 0 0 0 (F0 m pc ls stk) rest (Qc As.toArray) (tA n a H.size) := by
  obtain ⟨h1, h2, ⟨h3, h4, h5, h6⟩, h7, h8, h9⟩ := hw
  have ok : ∀ w ∈ tWALL, w.before args s = true := fun w h => S.2.2.2.2 w (List.mem_cons_of_mem _ h)
  exact va_runS S hM ⟨callB_of np S.2.2.2.2 (tGood h1) rfl h3 h4 (ok _ h2) (ok _ hl) ⟨h7, h8, h9⟩ ⟨h5, h6⟩, ok _ hi⟩ ⟨tBlind, fun U hU hW => ⟨rfl, by rw [hU], E.step hS hU hW, by rw [hU]; exact hP⟩⟩ rfl hn hsize hstk (lv_room hrest) hdg ⟨by simp, by simp⟩
theorem tRunSN {host : String} (S : CallFix p m c cc nL s args (w0 :: tWALL) own) (E : tEnv n dC dI a ca tb s) (hP : va_P (dC, dI) vwCl (wd st) H) (hS : va_S (tA n a s.heap.size) s.heap H locs)
    (hM : Met l y (.code y bytes maxL ret :: tWALL) rm (va_Pc As (tPre n wd dC dI a ca tb H.size st)) Qc 0 0 (tA n a H.size))
    (hw : tCw R own index y bytes maxL ret rm np) (hl : Cond.methodLinkNest own index y host ∈ tNEST) (hi : Cond.static y ∈ tWALL)
    (hn : As.length = np) (hsize : ls.size = nL) (hstk : stk = As.reverse ++ rest) (hrest : (rest.map fun v => v.category).sum ≤ 8) (hdg : decode cc pc = .ok (.invokestatic index, 3)) :
    va_Run p l e R s m args below meth c H locs 0 0 0 0 (F0 m pc ls stk) rest (Qc As.toArray) (tA n a H.size) := by
  obtain ⟨h1, h2, ⟨h3, h4, h5, h6⟩, h7, h8, h9⟩ := hw
  have ok : ∀ w ∈ tWALL, w.before args s = true := fun w h => S.2.2.2.2 w (List.mem_cons_of_mem _ h)
  exact va_runSN S hM ⟨va_cnB np S.2.2.2.2 (tGood h1) rfl h3 h4 (E.2.1 _ hl) (ok _ h2) ⟨h7, h8, h9⟩ ⟨h5, h6⟩, ok _ hi, trivial⟩ ⟨tBlind, fun U hU hW => ⟨rfl, by rw [hU], E.step hS hU hW, by rw [hU]; exact hP⟩⟩ rfl hn hsize hstk (lv_room hrest) hdg ⟨by simp, by simp⟩
theorem tGi {A1 : Array Value} {post : Int32 → tSt → Prop} (hS : va_S (tA n a s.heap.size) s.heap H locs) (hr : va_Run p l e R s m args below meth c H locs 0 0 0 0 (F0 m pc ls stk) rest (va_Qi post (tB wd dC dI) (tA n a H.size) A1) (tA n a H.size))
    (kk : ∀ (r : Int32) (st1 : tSt) (H1 : Heap) (locs1 : List Loc), post r st1 → va_P (dC, dI) vwCl (wd st1) H1 → va_S (tA n a s.heap.size) s.heap H1 locs1 → W p l e R s m args below meth c H1 locs1 0 0 Q (F0 m (pc + 3) ls (.int r :: rest))) : W p l e R s m args below meth c H locs 0 0 Q (F0 m pc ls stk) := by
  refine va_calli hr hS (fun q _ h => tA.mono hS.1 q h) (fun q h => tA.mono hS.1 q h) (fun r u t H1 locs1 ht hvm hw hB hz1 hk1 hS1 => ?_)
  exact kk r u H1 locs1 hw (by rw [← ht]; exact hB) hS1
theorem tGv {A1 : Array Value} {post : tSt → Prop} (hS : va_S (tA n a s.heap.size) s.heap H locs) (hr : va_Run p l e R s m args below meth c H locs 0 0 0 0 (F0 m pc ls stk) rest (va_Qv post (tB wd dC dI) (tA n a H.size) A1) (tA n a H.size))
    (kk : ∀ (st1 : tSt) (H1 : Heap) (locs1 : List Loc), post st1 → va_P (dC, dI) vwCl (wd st1) H1 → va_S (tA n a s.heap.size) s.heap H1 locs1 → W p l e R s m args below meth c H1 locs1 0 0 Q (F0 m (pc + 3) ls rest)) : W p l e R s m args below meth c H locs 0 0 Q (F0 m pc ls stk) := by
  refine va_callv hr hS (fun q _ h => tA.mono hS.1 q h) (fun q h => tA.mono hS.1 q h) (fun u t H1 locs1 ht hvm hw hB hz1 hk1 hS1 => ?_)
  exact kk u H1 locs1 hw (by rw [← ht]; exact hB) hS1
theorem tGr {A1 : Array Value} {post : tSt → Prop} {ra : Nat} (hS : va_S (tA n a s.heap.size) s.heap H locs) (hr : va_Run p l e R s m args below meth c H locs 0 0 0 0 (F0 m pc ls stk) rest (va_Qr post (fun u x t => x = ra ∧ tB wd dC dI u t) (tA n a H.size) A1) (tA n a H.size))
    (kk : ∀ (st1 : tSt) (H1 : Heap) (locs1 : List Loc), post st1 → va_P (dC, dI) vwCl (wd st1) H1 → va_S (tA n a s.heap.size) s.heap H1 locs1 → W p l e R s m args below meth c H1 locs1 0 0 Q (F0 m (pc + 3) ls (.ref ra :: rest))) : W p l e R s m args below meth c H locs 0 0 Q (F0 m pc ls stk) := by
  refine va_callr hr hS (fun q _ h => tA.mono hS.1 q h) (fun q h => tA.mono hS.1 q h) (fun u x t H1 locs1 ht hvm hw hB hz1 hk1 hS1 => ?_)
  obtain ⟨h1, h2⟩ := hB
  subst h1
  exact kk u H1 locs1 hw (by rw [← ht]; exact h2) hS1
theorem tRi {v : Int32} {post : Int32 → tSt → Prop} (S : CallFix p m c cc nL s args (w0 :: tWALL) own) (hr : meth.sig.returnType = some .int) (hlk : meth.locks = false) (hP : va_P (dC, dI) vwCl (wd st) H) (hS : va_S (tA n a s.heap.size) s.heap H locs) (hp : post v st) (hdg : decode cc pc = .ok (.ireturn, 1)) :
    W p l e R s m args below meth c H locs 0 0 (tQi wd n dC dI a args below s post) (F0 m pc ls [.int v]) :=
  W.iret S.1 S.2.1 hr (fun t ht hW => ⟨⟨v, st, rfl, hp, by show va_P _ _ _ t.heap; rw [ht]; exact hP⟩, hS.F ht⟩) hS.2.2 hdg hlk
theorem tRz {v : Int32} {post : Int32 → tSt → Prop} (S : CallFix p m c cc nL s args (w0 :: tWALL) own) (hr : meth.sig.returnType = some .boolean) (hlk : meth.locks = false) (hP : va_P (dC, dI) vwCl (wd st) H) (hS : va_S (tA n a s.heap.size) s.heap H locs) (hv : v = 0 ∨ v = 1) (hp : post v st) (hdg : decode cc pc = .ok (.ireturn, 1)) :
    W p l e R s m args below meth c H locs 0 0 (tQi wd n dC dI a args below s post) (F0 m pc ls [.int v]) :=
  W.zret S.1 S.2.1 hr (by rcases hv with h | h <;> rw [h] <;> decide +kernel) (fun t ht hW => ⟨⟨v, st, rfl, hp, by show va_P _ _ _ t.heap; rw [ht]; exact hP⟩, hS.F ht⟩) hS.2.2 hdg hlk
theorem tRv {post : tSt → Prop} (S : CallFix p m c cc nL s args (w0 :: tWALL) own) (hr : meth.sig.returnType = none) (hlk : meth.locks = false) (hP : va_P (dC, dI) vwCl (wd st) H) (hS : va_S (tA n a s.heap.size) s.heap H locs) (hp : post st) (hdg : decode cc pc = .ok (.return_, 1)) :
    W p l e R s m args below meth c H locs 0 0 (tQv wd n dC dI a args below s post) (F0 m pc ls []) :=
  W.vret S.1 S.2.1 hr (fun t ht hW => ⟨⟨st, rfl, hp, by show va_P _ _ _ t.heap; rw [ht]; exact hP⟩, hS.F ht⟩) hS.2.2 hdg hlk
theorem tRr {ra : Nat} {cn : String} {post : tSt → Prop} (S : CallFix p m c cc nL s args (w0 :: tWALL) own) (hr : meth.sig.returnType = some (.object cn)) (hlk : meth.locks = false) (hP : va_P (dC, dI) vwCl (wd st) H) (hS : va_S (tA n a s.heap.size) s.heap H locs) (hp : post st) (hdg : decode cc pc = .ok (.areturn, 1)) :
    W p l e R s m args below meth c H locs 0 0 (tQr wd n dC dI a args below s ra post) (F0 m pc ls [.ref ra]) :=
  W.aret S.1 S.2.1 hr (Or.inl ⟨cn, rfl⟩) (Or.inr ⟨ra, rfl⟩) (fun t ht hW => ⟨⟨st, ra, rfl, hp, rfl, by show va_P _ _ _ t.heap; rw [ht]; exact hP⟩, hS.F ht⟩) hS.2.2 hdg hlk
end TPC
end
section
section TPK
variable {p : Program} {l : Launch} {e : Env} {R : Room} {s : State} {m : MethodId} {args : Array Value} {below : List Frame} {meth : Method} {c : Code} {H : Heap} {locs : List Loc} {Q : State → Prop}
variable {cc : ByteArray} {nL pc : Nat} {ls : Array Slot} {rest : List Value} {dC : Nat → ClassId} {dI : Nat → Nat → Nat} {ca : Nat → ClassId} {A : Nat → Prop} {b : Nat} {wd : tSt → va_W} {st st2 : tSt} {w0 : Cond} {own : String} {index : Nat}
theorem tp_copyi (S : CallFix p m c cc nL s args (w0 :: tWALL) own) (hK : va_K (dC, dI) vwCl (tTys ca) s) (hP : va_P (dC, dI) vwCl (wd st) H) (hD : va_D A (wd st)) (hS : va_S A s.heap H locs) (hz : ls.size = nL) (hlink : (Cond.methodLink own index arraycopyName).before args s = true) (hnat : (Cond.native arraycopyName).before args s = true) (hstat : (Cond.static arraycopyName).before args s = true) (hini : (Cond.initialized "java/lang/System").before args s = true)
    (q0 q1 : Nat) {a0 n0 n1 : Nat} {f g : Nat → Int32} (ha0 : (wd st)[q0]? = some (a0, .inl (ca 0, n0, .inl f))) (ha1 : (wd st)[q1]? = some (b, .inl (ca 0, n1, .inl g)))
    {sp dp n : Int32} (h1 : ¬ sp < 0) (h2 : ¬ dp < 0) (h3 : ¬ n < 0) (h4 : sp.toNatClampNeg + n.toNatClampNeg ≤ n0) (h5 : dp.toNatClampNeg + n.toNatClampNeg ≤ n1)
    (hframes : 1 ≤ R.frames) (hlocals : (rest.map fun v => v.category).sum + (nativeFrameWords "java/lang/System" "arraycopy" 5 + 11) ≤ R.locals) (hset : (wd st).set q1 (b, .inl (ca 0, n1, .inl (va_cpy f g sp.toNatClampNeg dp.toNatClampNeg n.toNatClampNeg))) = wd st2) (hdg : decode cc pc = .ok (.invokestatic index, 3))
    (kk : ∀ (st3 : tSt) (H1 : Heap) (locs1 : List Loc), st3 = st2 → va_P (dC, dI) vwCl (wd st3) H1 → va_S A s.heap H1 locs1 → W p l e R s m args below meth c H1 locs1 0 0 Q (F0 m (pc + 3) ls rest)) : W p l e R s m args below meth c H locs 0 0 Q (F0 m pc ls (.int n :: .int dp :: .ref b :: .int sp :: .ref a0 :: rest)) :=
  va_copyi S.1 S.2.1 (by rw [hz]; exact S.2.2.1) S.2.2.2.1 hlink hnat hstat hini hK hP hD hS q0 q1 0 0 (ty := .int) ha0 ha1 rfl rfl rfl h1 h2 h3 h4 h5 (fun _ _ => rfl) hframes hlocals hdg (fun H1 locs1 h1 _ h3 => kk st2 H1 locs1 rfl (hset ▸ h1) h3)
theorem tp_copyx (S : CallFix p m c cc nL s args (w0 :: tWALL) own) (hK : va_K (dC, dI) vwCl (tTys ca) s) (hP : va_P (dC, dI) vwCl (wd st) H) (hD : va_D A (wd st)) (hS : va_S A s.heap H locs) (hz : ls.size = nL) (hlink : (Cond.methodLink own index arraycopyName).before args s = true) (hnat : (Cond.native arraycopyName).before args s = true) (hstat : (Cond.static arraycopyName).before args s = true) (hini : (Cond.initialized "java/lang/System").before args s = true)
    {b0 n0 : Nat} {f : Nat → Int32} (hX : va_X b0 n0 f s s.heap) (hbl : b0 < s.heap.size) (hbA : ¬ A b0) (q1 : Nat) {n1 : Nat} {g : Nat → Int32} (ha1 : (wd st)[q1]? = some (b, .inl (ca 0, n1, .inl g)))
    {sp dp n : Int32} (h1 : ¬ sp < 0) (h2 : ¬ dp < 0) (h3 : ¬ n < 0) (h4 : sp.toNatClampNeg + n.toNatClampNeg ≤ n0) (h5 : dp.toNatClampNeg + n.toNatClampNeg ≤ n1)
    (hframes : 1 ≤ R.frames) (hlocals : (rest.map fun v => v.category).sum + (nativeFrameWords "java/lang/System" "arraycopy" 5 + 11) ≤ R.locals) (hset : (wd st).set q1 (b, .inl (ca 0, n1, .inl (va_cpy f g sp.toNatClampNeg dp.toNatClampNeg n.toNatClampNeg))) = wd st2) (hdg : decode cc pc = .ok (.invokestatic index, 3))
    (kk : ∀ (st3 : tSt) (H1 : Heap) (locs1 : List Loc), st3 = st2 → va_P (dC, dI) vwCl (wd st3) H1 → va_S A s.heap H1 locs1 → W p l e R s m args below meth c H1 locs1 0 0 Q (F0 m (pc + 3) ls rest)) : W p l e R s m args below meth c H locs 0 0 Q (F0 m pc ls (.int n :: .int dp :: .ref b :: .int sp :: .ref b0 :: rest)) :=
  va_copyx S.1 S.2.1 (by rw [hz]; exact S.2.2.1) S.2.2.2.1 hlink hnat hstat hini hK hP hD hS hX hbl hbA q1 0 ha1 rfl h1 h2 h3 h4 h5 hframes hlocals hdg (fun H1 locs1 h1 _ h3 => kk st2 H1 locs1 rfl (hset ▸ h1) h3)
end TPK
end
section
def cwC (a : Nat → Nat) (ca : Nat → ClassId) (st : tSt) : va_W := [(a 0, .inr (7, [.ref (a 1), .ref (a 3), .ref (a 6), .ref (a 13), .ref (a 26), .ref (a 37), .ref (a 38), .ref (a 39), .int (st 0 0), .int (st 1 0), .int (st 2 0), .int (st 3 0), .int (st 4 0)])),
  (a 1, .inr (4, [.ref (a 2), .int (st 5 0)])),
  (a 2, .inl (ca 0, 40, .inl (st 6))),
  (a 3, .inr (5, [.ref (a 4), .ref (a 5)])),
  (a 4, .inl (ca 0, 4, .inl (st 7))),
  (a 5, .inl (ca 0, 4, .inl (st 8))),
  (a 6, .inl (ca 1, 6, .inr (.inr (.inr (.inr (fun i => some (a (7 + i)))))))),
  (a 7, .inr (2, [.int (st 9 0), .int (st 10 0), .int (st 11 0), .int (st 12 0)])),
  (a 8, .inr (2, [.int (st 9 1), .int (st 10 1), .int (st 11 1), .int (st 12 1)])),
  (a 9, .inr (2, [.int (st 9 2), .int (st 10 2), .int (st 11 2), .int (st 12 2)])),
  (a 10, .inr (2, [.int (st 9 3), .int (st 10 3), .int (st 11 3), .int (st 12 3)])),
  (a 11, .inr (2, [.int (st 9 4), .int (st 10 4), .int (st 11 4), .int (st 12 4)])),
  (a 12, .inr (2, [.int (st 9 5), .int (st 10 5), .int (st 11 5), .int (st 12 5)])),
  (a 13, .inl (ca 2, 6, .inr (.inr (.inr (.inr (fun i => some (a (14 + i)))))))),
  (a 14, .inr (0, [.ref (a 20), .int (st 13 0)])),
  (a 15, .inr (0, [.ref (a 21), .int (st 13 1)])),
  (a 16, .inr (0, [.ref (a 22), .int (st 13 2)])),
  (a 17, .inr (0, [.ref (a 23), .int (st 13 3)])),
  (a 18, .inr (0, [.ref (a 24), .int (st 13 4)])),
  (a 19, .inr (0, [.ref (a 25), .int (st 13 5)])),
  (a 20, .inl (ca 0, 8, .inl (st 14))),
  (a 21, .inl (ca 0, 8, .inl (st 15))),
  (a 22, .inl (ca 0, 8, .inl (st 16))),
  (a 23, .inl (ca 0, 8, .inl (st 17))),
  (a 24, .inl (ca 0, 8, .inl (st 18))),
  (a 25, .inl (ca 0, 8, .inl (st 19))),
  (a 26, .inl (ca 3, 10, .inr (.inr (.inr (.inr (fun i => some (a (27 + i)))))))),
  (a 27, .inr (6, [.int (st 20 0), .int (st 21 0), .int (st 22 0)])),
  (a 28, .inr (6, [.int (st 20 1), .int (st 21 1), .int (st 22 1)])),
  (a 29, .inr (6, [.int (st 20 2), .int (st 21 2), .int (st 22 2)])),
  (a 30, .inr (6, [.int (st 20 3), .int (st 21 3), .int (st 22 3)])),
  (a 31, .inr (6, [.int (st 20 4), .int (st 21 4), .int (st 22 4)])),
  (a 32, .inr (6, [.int (st 20 5), .int (st 21 5), .int (st 22 5)])),
  (a 33, .inr (6, [.int (st 20 6), .int (st 21 6), .int (st 22 6)])),
  (a 34, .inr (6, [.int (st 20 7), .int (st 21 7), .int (st 22 7)])),
  (a 35, .inr (6, [.int (st 20 8), .int (st 21 8), .int (st 22 8)])),
  (a 36, .inr (6, [.int (st 20 9), .int (st 21 9), .int (st 22 9)])),
  (a 37, .inl (ca 0, 5, .inl (st 23))),
  (a 38, .inl (ca 0, 8, .inl (st 24))),
  (a 39, .inr (3, [.ref (a 40), .ref (a 41), .ref (a 42), .ref (a 43), .int (st 25 0), .int (st 26 0)])),
  (a 40, .inr (1, [.ref (a 44), .ref (a 45), .ref (a 46), .ref (a 47), .int (st 27 0)])),
  (a 41, .inl (ca 0, 6, .inl (st 28))),
  (a 42, .inl (ca 0, 6, .inl (st 29))),
  (a 43, .inl (ca 0, 10, .inl (st 30))),
  (a 44, .inl (ca 0, 6, .inl (st 31))),
  (a 45, .inl (ca 0, 12, .inl (st 32))),
  (a 46, .inl (ca 0, 12, .inl (st 33))),
  (a 47, .inl (ca 0, 12, .inl (st 34)))]
theorem cC_dom (a : Nat → Nat) (ca : Nat → ClassId) (st : tSt) : (cwC a ca st).map (fun q => q.1) = (List.range 48).map a := rfl
theorem cC_D {dC : Nat → ClassId} {dI : Nat → Nat → Nat} {a : Nat → Nat} {ca : Nat → ClassId} {tb : Nat → Nat} {s : State} (E : tEnv 48 dC dI a ca tb s) (st : tSt) : va_D (tA 48 a s.heap.size) (cwC a ca st) := tD (cC_dom a ca st) E.2.2.2.1
theorem cC_tp (a : Nat → Nat) (ca : Nat → ClassId) (st : tSt) : (cwC a ca st)[0]? = some (a 0, .inr (7, [.ref (a 1), .ref (a 3), .ref (a 6), .ref (a 13), .ref (a 26), .ref (a 37), .ref (a 38), .ref (a 39), .int (st 0 0), .int (st 1 0), .int (st 2 0), .int (st 3 0), .int (st 4 0)])) := rfl
theorem sC_tp_piperCount (a : Nat → Nat) (ca : Nat → ClassId) (st : tSt) (v : Int32) : (cwC a ca st).set 0 (a 0, .inr (7, ([.ref (a 1), .ref (a 3), .ref (a 6), .ref (a 13), .ref (a 26), .ref (a 37), .ref (a 38), .ref (a 39), .int (st 0 0), .int (st 1 0), .int (st 2 0), .int (st 3 0), .int (st 4 0)] : List Value).set 8 (.int v))) = cwC a ca (tUp st 0 0 v) := rfl
theorem sC_tp_tuneCount (a : Nat → Nat) (ca : Nat → ClassId) (st : tSt) (v : Int32) : (cwC a ca st).set 0 (a 0, .inr (7, ([.ref (a 1), .ref (a 3), .ref (a 6), .ref (a 13), .ref (a 26), .ref (a 37), .ref (a 38), .ref (a 39), .int (st 0 0), .int (st 1 0), .int (st 2 0), .int (st 3 0), .int (st 4 0)] : List Value).set 9 (.int v))) = cwC a ca (tUp st 1 0 v) := rfl
theorem sC_tp_today (a : Nat → Nat) (ca : Nat → ClassId) (st : tSt) (v : Int32) : (cwC a ca st).set 0 (a 0, .inr (7, ([.ref (a 1), .ref (a 3), .ref (a 6), .ref (a 13), .ref (a 26), .ref (a 37), .ref (a 38), .ref (a 39), .int (st 0 0), .int (st 1 0), .int (st 2 0), .int (st 3 0), .int (st 4 0)] : List Value).set 10 (.int v))) = cwC a ca (tUp st 2 0 v) := rfl
theorem sC_tp_fund (a : Nat → Nat) (ca : Nat → ClassId) (st : tSt) (v : Int32) : (cwC a ca st).set 0 (a 0, .inr (7, ([.ref (a 1), .ref (a 3), .ref (a 6), .ref (a 13), .ref (a 26), .ref (a 37), .ref (a 38), .ref (a 39), .int (st 0 0), .int (st 1 0), .int (st 2 0), .int (st 3 0), .int (st 4 0)] : List Value).set 11 (.int v))) = cwC a ca (tUp st 3 0 v) := rfl
theorem sC_tp_planned (a : Nat → Nat) (ca : Nat → ClassId) (st : tSt) (v : Int32) : (cwC a ca st).set 0 (a 0, .inr (7, ([.ref (a 1), .ref (a 3), .ref (a 6), .ref (a 13), .ref (a 26), .ref (a 37), .ref (a 38), .ref (a 39), .int (st 0 0), .int (st 1 0), .int (st 2 0), .int (st 3 0), .int (st 4 0)] : List Value).set 12 (.int v))) = cwC a ca (tUp st 4 0 v) := rfl
theorem cC_tape (a : Nat → Nat) (ca : Nat → ClassId) (st : tSt) : (cwC a ca st)[1]? = some (a 1, .inr (4, [.ref (a 2), .int (st 5 0)])) := rfl
theorem sC_tape_length (a : Nat → Nat) (ca : Nat → ClassId) (st : tSt) (v : Int32) : (cwC a ca st).set 1 (a 1, .inr (4, ([.ref (a 2), .int (st 5 0)] : List Value).set 1 (.int v))) = cwC a ca (tUp st 5 0 v) := rfl
theorem cC_bytes (a : Nat → Nat) (ca : Nat → ClassId) (st : tSt) : (cwC a ca st)[2]? = some (a 2, .inl (ca 0, 40, .inl (st 6))) := rfl
theorem sC_bytes (a : Nat → Nat) (ca : Nat → ClassId) (st : tSt) (i : Nat) (v : Int32) : (cwC a ca st).set 2 (a 2, .inl (ca 0, 40, .inl (upd (st 6) i v))) = cwC a ca (tUp st 6 i v) := rfl
theorem rC_bytes (a : Nat → Nat) (ca : Nat → ClassId) (st : tSt) (g : Nat → Int32) : (cwC a ca st).set 2 (a 2, .inl (ca 0, 40, .inl g)) = cwC a ca (tUpA st 6 g) := rfl
theorem cC_tw (a : Nat → Nat) (ca : Nat → ClassId) (st : tSt) : (cwC a ca st)[3]? = some (a 3, .inr (5, [.ref (a 4), .ref (a 5)])) := rfl
theorem cC_numbers (a : Nat → Nat) (ca : Nat → ClassId) (st : tSt) : (cwC a ca st)[4]? = some (a 4, .inl (ca 0, 4, .inl (st 7))) := rfl
theorem sC_numbers (a : Nat → Nat) (ca : Nat → ClassId) (st : tSt) (i : Nat) (v : Int32) : (cwC a ca st).set 4 (a 4, .inl (ca 0, 4, .inl (upd (st 7) i v))) = cwC a ca (tUp st 7 i v) := rfl
theorem rC_numbers (a : Nat → Nat) (ca : Nat → ClassId) (st : tSt) (g : Nat → Int32) : (cwC a ca st).set 4 (a 4, .inl (ca 0, 4, .inl g)) = cwC a ca (tUpA st 7 g) := rfl
theorem cC_coming (a : Nat → Nat) (ca : Nat → ClassId) (st : tSt) : (cwC a ca st)[5]? = some (a 5, .inl (ca 0, 4, .inl (st 8))) := rfl
theorem sC_coming (a : Nat → Nat) (ca : Nat → ClassId) (st : tSt) (i : Nat) (v : Int32) : (cwC a ca st).set 5 (a 5, .inl (ca 0, 4, .inl (upd (st 8) i v))) = cwC a ca (tUp st 8 i v) := rfl
theorem rC_coming (a : Nat → Nat) (ca : Nat → ClassId) (st : tSt) (g : Nat → Int32) : (cwC a ca st).set 5 (a 5, .inl (ca 0, 4, .inl g)) = cwC a ca (tUpA st 8 g) := rfl
theorem cC_pipersA (a : Nat → Nat) (ca : Nat → ClassId) (st : tSt) : (cwC a ca st)[6]? = some (a 6, .inl (ca 1, 6, .inr (.inr (.inr (.inr (fun i => some (a (7 + i)))))))) := rfl
theorem cC_piper (a : Nat → Nat) (ca : Nat → ClassId) (st : tSt) {j : Nat} (hj : j < 6) : (cwC a ca st)[7 + j]? = some (a (7 + j), .inr (2, [.int (st 9 j), .int (st 10 j), .int (st 11 j), .int (st 12 j)])) := by
  match j, hj with
  | 0, _ => rfl
  | 1, _ => rfl
  | 2, _ => rfl
  | 3, _ => rfl
  | 4, _ => rfl
  | 5, _ => rfl
  | _ + 6, h => exact absurd h (by omega)
theorem sC_piper_rank (a : Nat → Nat) (ca : Nat → ClassId) (st : tSt) {j : Nat} (hj : j < 6) (v : Int32) : (cwC a ca st).set (7 + j) (a (7 + j), .inr (2, ([.int (st 9 j), .int (st 10 j), .int (st 11 j), .int (st 12 j)] : List Value).set 0 (.int v))) = cwC a ca (tUp st 9 j v) := by
  match j, hj with
  | 0, _ => rfl
  | 1, _ => rfl
  | 2, _ => rfl
  | 3, _ => rfl
  | 4, _ => rfl
  | 5, _ => rfl
  | _ + 6, h => exact absurd h (by omega)
theorem sC_piper_plays (a : Nat → Nat) (ca : Nat → ClassId) (st : tSt) {j : Nat} (hj : j < 6) (v : Int32) : (cwC a ca st).set (7 + j) (a (7 + j), .inr (2, ([.int (st 9 j), .int (st 10 j), .int (st 11 j), .int (st 12 j)] : List Value).set 1 (.int v))) = cwC a ca (tUp st 10 j v) := by
  match j, hj with
  | 0, _ => rfl
  | 1, _ => rfl
  | 2, _ => rfl
  | 3, _ => rfl
  | 4, _ => rfl
  | 5, _ => rfl
  | _ + 6, h => exact absurd h (by omega)
theorem sC_piper_state (a : Nat → Nat) (ca : Nat → ClassId) (st : tSt) {j : Nat} (hj : j < 6) (v : Int32) : (cwC a ca st).set (7 + j) (a (7 + j), .inr (2, ([.int (st 9 j), .int (st 10 j), .int (st 11 j), .int (st 12 j)] : List Value).set 2 (.int v))) = cwC a ca (tUp st 11 j v) := by
  match j, hj with
  | 0, _ => rfl
  | 1, _ => rfl
  | 2, _ => rfl
  | 3, _ => rfl
  | 4, _ => rfl
  | 5, _ => rfl
  | _ + 6, h => exact absurd h (by omega)
theorem sC_piper_wages (a : Nat → Nat) (ca : Nat → ClassId) (st : tSt) {j : Nat} (hj : j < 6) (v : Int32) : (cwC a ca st).set (7 + j) (a (7 + j), .inr (2, ([.int (st 9 j), .int (st 10 j), .int (st 11 j), .int (st 12 j)] : List Value).set 3 (.int v))) = cwC a ca (tUp st 12 j v) := by
  match j, hj with
  | 0, _ => rfl
  | 1, _ => rfl
  | 2, _ => rfl
  | 3, _ => rfl
  | 4, _ => rfl
  | 5, _ => rfl
  | _ + 6, h => exact absurd h (by omega)
theorem cC_callsA (a : Nat → Nat) (ca : Nat → ClassId) (st : tSt) : (cwC a ca st)[13]? = some (a 13, .inl (ca 2, 6, .inr (.inr (.inr (.inr (fun i => some (a (14 + i)))))))) := rfl
theorem cC_call (a : Nat → Nat) (ca : Nat → ClassId) (st : tSt) {j : Nat} (hj : j < 6) : (cwC a ca st)[14 + j]? = some (a (14 + j), .inr (0, [.ref (a (20 + j)), .int (st 13 j)])) := by
  match j, hj with
  | 0, _ => rfl
  | 1, _ => rfl
  | 2, _ => rfl
  | 3, _ => rfl
  | 4, _ => rfl
  | 5, _ => rfl
  | _ + 6, h => exact absurd h (by omega)
theorem sC_call_there (a : Nat → Nat) (ca : Nat → ClassId) (st : tSt) {j : Nat} (hj : j < 6) (v : Int32) : (cwC a ca st).set (14 + j) (a (14 + j), .inr (0, ([.ref (a (20 + j)), .int (st 13 j)] : List Value).set 1 (.int v))) = cwC a ca (tUp st 13 j v) := by
  match j, hj with
  | 0, _ => rfl
  | 1, _ => rfl
  | 2, _ => rfl
  | 3, _ => rfl
  | 4, _ => rfl
  | 5, _ => rfl
  | _ + 6, h => exact absurd h (by omega)
theorem cC_facts (a : Nat → Nat) (ca : Nat → ClassId) (st : tSt) {j : Nat} (hj : j < 6) : (cwC a ca st)[20 + j]? = some (a (20 + j), .inl (ca 0, 8, .inl (st (14 + j)))) := by
  match j, hj with
  | 0, _ => rfl
  | 1, _ => rfl
  | 2, _ => rfl
  | 3, _ => rfl
  | 4, _ => rfl
  | 5, _ => rfl
  | _ + 6, h => exact absurd h (by omega)
theorem sC_facts (a : Nat → Nat) (ca : Nat → ClassId) (st : tSt) {j : Nat} (hj : j < 6) (i : Nat) (v : Int32) : (cwC a ca st).set (20 + j) (a (20 + j), .inl (ca 0, 8, .inl (upd (st (14 + j)) i v))) = cwC a ca (tUp st (14 + j) i v) := by
  match j, hj with
  | 0, _ => rfl
  | 1, _ => rfl
  | 2, _ => rfl
  | 3, _ => rfl
  | 4, _ => rfl
  | 5, _ => rfl
  | _ + 6, h => exact absurd h (by omega)
theorem rC_facts (a : Nat → Nat) (ca : Nat → ClassId) (st : tSt) {j : Nat} (hj : j < 6) (g : Nat → Int32) : (cwC a ca st).set (20 + j) (a (20 + j), .inl (ca 0, 8, .inl g)) = cwC a ca (tUpA st (14 + j) g) := by
  match j, hj with
  | 0, _ => rfl
  | 1, _ => rfl
  | 2, _ => rfl
  | 3, _ => rfl
  | 4, _ => rfl
  | 5, _ => rfl
  | _ + 6, h => exact absurd h (by omega)
theorem cC_tunesA (a : Nat → Nat) (ca : Nat → ClassId) (st : tSt) : (cwC a ca st)[26]? = some (a 26, .inl (ca 3, 10, .inr (.inr (.inr (.inr (fun i => some (a (27 + i)))))))) := rfl
theorem cC_tune (a : Nat → Nat) (ca : Nat → ClassId) (st : tSt) {j : Nat} (hj : j < 10) : (cwC a ca st)[27 + j]? = some (a (27 + j), .inr (6, [.int (st 20 j), .int (st 21 j), .int (st 22 j)])) := by
  match j, hj with
  | 0, _ => rfl
  | 1, _ => rfl
  | 2, _ => rfl
  | 3, _ => rfl
  | 4, _ => rfl
  | 5, _ => rfl
  | 6, _ => rfl
  | 7, _ => rfl
  | 8, _ => rfl
  | 9, _ => rfl
  | _ + 10, h => exact absurd h (by omega)
theorem sC_tune_occasions (a : Nat → Nat) (ca : Nat → ClassId) (st : tSt) {j : Nat} (hj : j < 10) (v : Int32) : (cwC a ca st).set (27 + j) (a (27 + j), .inr (6, ([.int (st 20 j), .int (st 21 j), .int (st 22 j)] : List Value).set 0 (.int v))) = cwC a ca (tUp st 20 j v) := by
  match j, hj with
  | 0, _ => rfl
  | 1, _ => rfl
  | 2, _ => rfl
  | 3, _ => rfl
  | 4, _ => rfl
  | 5, _ => rfl
  | 6, _ => rfl
  | 7, _ => rfl
  | 8, _ => rfl
  | 9, _ => rfl
  | _ + 10, h => exact absurd h (by omega)
theorem sC_tune_months (a : Nat → Nat) (ca : Nat → ClassId) (st : tSt) {j : Nat} (hj : j < 10) (v : Int32) : (cwC a ca st).set (27 + j) (a (27 + j), .inr (6, ([.int (st 20 j), .int (st 21 j), .int (st 22 j)] : List Value).set 1 (.int v))) = cwC a ca (tUp st 21 j v) := by
  match j, hj with
  | 0, _ => rfl
  | 1, _ => rfl
  | 2, _ => rfl
  | 3, _ => rfl
  | 4, _ => rfl
  | 5, _ => rfl
  | 6, _ => rfl
  | 7, _ => rfl
  | 8, _ => rfl
  | 9, _ => rfl
  | _ + 10, h => exact absurd h (by omega)
theorem sC_tune_lastTurn (a : Nat → Nat) (ca : Nat → ClassId) (st : tSt) {j : Nat} (hj : j < 10) (v : Int32) : (cwC a ca st).set (27 + j) (a (27 + j), .inr (6, ([.int (st 20 j), .int (st 21 j), .int (st 22 j)] : List Value).set 2 (.int v))) = cwC a ca (tUp st 22 j v) := by
  match j, hj with
  | 0, _ => rfl
  | 1, _ => rfl
  | 2, _ => rfl
  | 3, _ => rfl
  | 4, _ => rfl
  | 5, _ => rfl
  | 6, _ => rfl
  | 7, _ => rfl
  | 8, _ => rfl
  | 9, _ => rfl
  | _ + 10, h => exact absurd h (by omega)
theorem cC_piecesOf (a : Nat → Nat) (ca : Nat → ClassId) (st : tSt) : (cwC a ca st)[37]? = some (a 37, .inl (ca 0, 5, .inl (st 23))) := rfl
theorem sC_piecesOf (a : Nat → Nat) (ca : Nat → ClassId) (st : tSt) (i : Nat) (v : Int32) : (cwC a ca st).set 37 (a 37, .inl (ca 0, 5, .inl (upd (st 23) i v))) = cwC a ca (tUp st 23 i v) := rfl
theorem rC_piecesOf (a : Nat → Nat) (ca : Nat → ClassId) (st : tSt) (g : Nat → Int32) : (cwC a ca st).set 37 (a 37, .inl (ca 0, 5, .inl g)) = cwC a ca (tUpA st 23 g) := rfl
theorem cC_asked (a : Nat → Nat) (ca : Nat → ClassId) (st : tSt) : (cwC a ca st)[38]? = some (a 38, .inl (ca 0, 8, .inl (st 24))) := rfl
theorem sC_asked (a : Nat → Nat) (ca : Nat → ClassId) (st : tSt) (i : Nat) (v : Int32) : (cwC a ca st).set 38 (a 38, .inl (ca 0, 8, .inl (upd (st 24) i v))) = cwC a ca (tUp st 24 i v) := rfl
theorem rC_asked (a : Nat → Nat) (ca : Nat → ClassId) (st : tSt) (g : Nat → Int32) : (cwC a ca st).set 38 (a 38, .inl (ca 0, 8, .inl g)) = cwC a ca (tUpA st 24 g) := rfl
theorem cC_plan (a : Nat → Nat) (ca : Nat → ClassId) (st : tSt) : (cwC a ca st)[39]? = some (a 39, .inr (3, [.ref (a 40), .ref (a 41), .ref (a 42), .ref (a 43), .int (st 25 0), .int (st 26 0)])) := rfl
theorem sC_plan_turnCount (a : Nat → Nat) (ca : Nat → ClassId) (st : tSt) (v : Int32) : (cwC a ca st).set 39 (a 39, .inr (3, ([.ref (a 40), .ref (a 41), .ref (a 42), .ref (a 43), .int (st 25 0), .int (st 26 0)] : List Value).set 4 (.int v))) = cwC a ca (tUp st 25 0 v) := rfl
theorem sC_plan_bits (a : Nat → Nat) (ca : Nat → ClassId) (st : tSt) (v : Int32) : (cwC a ca st).set 39 (a 39, .inr (3, ([.ref (a 40), .ref (a 41), .ref (a 42), .ref (a 43), .int (st 25 0), .int (st 26 0)] : List Value).set 5 (.int v))) = cwC a ca (tUp st 26 0 v) := rfl
theorem cC_cast (a : Nat → Nat) (ca : Nat → ClassId) (st : tSt) : (cwC a ca st)[40]? = some (a 40, .inr (1, [.ref (a 44), .ref (a 45), .ref (a 46), .ref (a 47), .int (st 27 0)])) := rfl
theorem sC_cast_partCount (a : Nat → Nat) (ca : Nat → ClassId) (st : tSt) (v : Int32) : (cwC a ca st).set 40 (a 40, .inr (1, ([.ref (a 44), .ref (a 45), .ref (a 46), .ref (a 47), .int (st 27 0)] : List Value).set 4 (.int v))) = cwC a ca (tUp st 27 0 v) := rfl
theorem cC_turns (a : Nat → Nat) (ca : Nat → ClassId) (st : tSt) : (cwC a ca st)[41]? = some (a 41, .inl (ca 0, 6, .inl (st 28))) := rfl
theorem sC_turns (a : Nat → Nat) (ca : Nat → ClassId) (st : tSt) (i : Nat) (v : Int32) : (cwC a ca st).set 41 (a 41, .inl (ca 0, 6, .inl (upd (st 28) i v))) = cwC a ca (tUp st 28 i v) := rfl
theorem rC_turns (a : Nat → Nat) (ca : Nat → ClassId) (st : tSt) (g : Nat → Int32) : (cwC a ca st).set 41 (a 41, .inl (ca 0, 6, .inl g)) = cwC a ca (tUpA st 28 g) := rfl
theorem cC_chosenTunes (a : Nat → Nat) (ca : Nat → ClassId) (st : tSt) : (cwC a ca st)[42]? = some (a 42, .inl (ca 0, 6, .inl (st 29))) := rfl
theorem sC_chosenTunes (a : Nat → Nat) (ca : Nat → ClassId) (st : tSt) (i : Nat) (v : Int32) : (cwC a ca st).set 42 (a 42, .inl (ca 0, 6, .inl (upd (st 29) i v))) = cwC a ca (tUp st 29 i v) := rfl
theorem rC_chosenTunes (a : Nat → Nat) (ca : Nat → ClassId) (st : tSt) (g : Nat → Int32) : (cwC a ca st).set 42 (a 42, .inl (ca 0, 6, .inl g)) = cwC a ca (tUpA st 29 g) := rfl
theorem cC_lastTurns (a : Nat → Nat) (ca : Nat → ClassId) (st : tSt) : (cwC a ca st)[43]? = some (a 43, .inl (ca 0, 10, .inl (st 30))) := rfl
theorem sC_lastTurns (a : Nat → Nat) (ca : Nat → ClassId) (st : tSt) (i : Nat) (v : Int32) : (cwC a ca st).set 43 (a 43, .inl (ca 0, 10, .inl (upd (st 30) i v))) = cwC a ca (tUp st 30 i v) := rfl
theorem rC_lastTurns (a : Nat → Nat) (ca : Nat → ClassId) (st : tSt) (g : Nat → Int32) : (cwC a ca st).set 43 (a 43, .inl (ca 0, 10, .inl g)) = cwC a ca (tUpA st 30 g) := rfl
theorem cC_openTo (a : Nat → Nat) (ca : Nat → ClassId) (st : tSt) : (cwC a ca st)[44]? = some (a 44, .inl (ca 0, 6, .inl (st 31))) := rfl
theorem sC_openTo (a : Nat → Nat) (ca : Nat → ClassId) (st : tSt) (i : Nat) (v : Int32) : (cwC a ca st).set 44 (a 44, .inl (ca 0, 6, .inl (upd (st 31) i v))) = cwC a ca (tUp st 31 i v) := rfl
theorem rC_openTo (a : Nat → Nat) (ca : Nat → ClassId) (st : tSt) (g : Nat → Int32) : (cwC a ca st).set 44 (a 44, .inl (ca 0, 6, .inl g)) = cwC a ca (tUpA st 31 g) := rfl
theorem cC_bars (a : Nat → Nat) (ca : Nat → ClassId) (st : tSt) : (cwC a ca st)[45]? = some (a 45, .inl (ca 0, 12, .inl (st 32))) := rfl
theorem sC_bars (a : Nat → Nat) (ca : Nat → ClassId) (st : tSt) (i : Nat) (v : Int32) : (cwC a ca st).set 45 (a 45, .inl (ca 0, 12, .inl (upd (st 32) i v))) = cwC a ca (tUp st 32 i v) := rfl
theorem rC_bars (a : Nat → Nat) (ca : Nat → ClassId) (st : tSt) (g : Nat → Int32) : (cwC a ca st).set 45 (a 45, .inl (ca 0, 12, .inl g)) = cwC a ca (tUpA st 32 g) := rfl
theorem cC_callOf (a : Nat → Nat) (ca : Nat → ClassId) (st : tSt) : (cwC a ca st)[46]? = some (a 46, .inl (ca 0, 12, .inl (st 33))) := rfl
theorem sC_callOf (a : Nat → Nat) (ca : Nat → ClassId) (st : tSt) (i : Nat) (v : Int32) : (cwC a ca st).set 46 (a 46, .inl (ca 0, 12, .inl (upd (st 33) i v))) = cwC a ca (tUp st 33 i v) := rfl
theorem rC_callOf (a : Nat → Nat) (ca : Nat → ClassId) (st : tSt) (g : Nat → Int32) : (cwC a ca st).set 46 (a 46, .inl (ca 0, 12, .inl g)) = cwC a ca (tUpA st 33 g) := rfl
theorem cC_piperFor (a : Nat → Nat) (ca : Nat → ClassId) (st : tSt) : (cwC a ca st)[47]? = some (a 47, .inl (ca 0, 12, .inl (st 34))) := rfl
theorem sC_piperFor (a : Nat → Nat) (ca : Nat → ClassId) (st : tSt) (i : Nat) (v : Int32) : (cwC a ca st).set 47 (a 47, .inl (ca 0, 12, .inl (upd (st 34) i v))) = cwC a ca (tUp st 34 i v) := rfl
theorem rC_piperFor (a : Nat → Nat) (ca : Nat → ClassId) (st : tSt) (g : Nat → Int32) : (cwC a ca st).set 47 (a 47, .inl (ca 0, 12, .inl g)) = cwC a ca (tUpA st 34 g) := rfl
def cwM (a : Nat → Nat) (ca : Nat → ClassId) (st : tSt) : va_W := [(a 0, .inr (8, [.ref (a 1), .int (st 0 0), .int (st 1 0), .int (st 2 0), .int (st 3 0), .int (st 4 0), .int (st 5 0), .ref (a 2), .ref (a 3), .ref (a 4), .ref (a 5), .ref (a 6), .ref (a 7), .ref (a 8), .ref (a 9), .ref (a 10), .ref (a 11), .ref (a 12), .ref (a 13), .int (st 6 0), .int (st 7 0), .int (st 8 0), .ref (a 14), .ref (a 15), .ref (a 16), .ref (a 17), .ref (a 18), .ref (a 19), .ref (a 20)])),
  (a 1, .inl (ca 4, 40, .inl (st 9))),
  (a 2, .inl (ca 0, 4, .inl (st 10))),
  (a 3, .inl (ca 0, 4, .inl (st 11))),
  (a 4, .inl (ca 0, 6, .inl (st 12))),
  (a 5, .inl (ca 0, 6, .inl (st 13))),
  (a 6, .inl (ca 0, 6, .inl (st 14))),
  (a 7, .inl (ca 0, 6, .inl (st 15))),
  (a 8, .inl (ca 0, 5, .inl (st 16))),
  (a 9, .inl (ca 0, 48, .inl (st 17))),
  (a 10, .inl (ca 0, 10, .inl (st 18))),
  (a 11, .inl (ca 0, 10, .inl (st 19))),
  (a 12, .inl (ca 0, 10, .inl (st 20))),
  (a 13, .inl (ca 0, 10, .inl (st 21))),
  (a 14, .inl (ca 0, 6, .inl (st 22))),
  (a 15, .inl (ca 0, 12, .inl (st 23))),
  (a 16, .inl (ca 0, 12, .inl (st 24))),
  (a 17, .inl (ca 0, 12, .inl (st 25))),
  (a 18, .inl (ca 0, 12, .inl (st 26))),
  (a 19, .inl (ca 0, 6, .inl (st 27))),
  (a 20, .inl (ca 0, 10, .inl (st 28)))]
theorem cM_dom (a : Nat → Nat) (ca : Nat → ClassId) (st : tSt) : (cwM a ca st).map (fun q => q.1) = (List.range 21).map a := rfl
theorem cM_D {dC : Nat → ClassId} {dI : Nat → Nat → Nat} {a : Nat → Nat} {ca : Nat → ClassId} {tb : Nat → Nat} {s : State} (E : tEnv 21 dC dI a ca tb s) (st : tSt) : va_D (tA 21 a s.heap.size) (cwM a ca st) := tD (cM_dom a ca st) E.2.2.2.1
theorem cM_mo (a : Nat → Nat) (ca : Nat → ClassId) (st : tSt) : (cwM a ca st)[0]? = some (a 0, .inr (8, [.ref (a 1), .int (st 0 0), .int (st 1 0), .int (st 2 0), .int (st 3 0), .int (st 4 0), .int (st 5 0), .ref (a 2), .ref (a 3), .ref (a 4), .ref (a 5), .ref (a 6), .ref (a 7), .ref (a 8), .ref (a 9), .ref (a 10), .ref (a 11), .ref (a 12), .ref (a 13), .int (st 6 0), .int (st 7 0), .int (st 8 0), .ref (a 14), .ref (a 15), .ref (a 16), .ref (a 17), .ref (a 18), .ref (a 19), .ref (a 20)])) := rfl
theorem sM_mo_taped (a : Nat → Nat) (ca : Nat → ClassId) (st : tSt) (v : Int32) : (cwM a ca st).set 0 (a 0, .inr (8, ([.ref (a 1), .int (st 0 0), .int (st 1 0), .int (st 2 0), .int (st 3 0), .int (st 4 0), .int (st 5 0), .ref (a 2), .ref (a 3), .ref (a 4), .ref (a 5), .ref (a 6), .ref (a 7), .ref (a 8), .ref (a 9), .ref (a 10), .ref (a 11), .ref (a 12), .ref (a 13), .int (st 6 0), .int (st 7 0), .int (st 8 0), .ref (a 14), .ref (a 15), .ref (a 16), .ref (a 17), .ref (a 18), .ref (a 19), .ref (a 20)] : List Value).set 1 (.int v))) = cwM a ca (tUp st 0 0 v) := rfl
theorem sM_mo_today (a : Nat → Nat) (ca : Nat → ClassId) (st : tSt) (v : Int32) : (cwM a ca st).set 0 (a 0, .inr (8, ([.ref (a 1), .int (st 0 0), .int (st 1 0), .int (st 2 0), .int (st 3 0), .int (st 4 0), .int (st 5 0), .ref (a 2), .ref (a 3), .ref (a 4), .ref (a 5), .ref (a 6), .ref (a 7), .ref (a 8), .ref (a 9), .ref (a 10), .ref (a 11), .ref (a 12), .ref (a 13), .int (st 6 0), .int (st 7 0), .int (st 8 0), .ref (a 14), .ref (a 15), .ref (a 16), .ref (a 17), .ref (a 18), .ref (a 19), .ref (a 20)] : List Value).set 2 (.int v))) = cwM a ca (tUp st 1 0 v) := rfl
theorem sM_mo_pipers (a : Nat → Nat) (ca : Nat → ClassId) (st : tSt) (v : Int32) : (cwM a ca st).set 0 (a 0, .inr (8, ([.ref (a 1), .int (st 0 0), .int (st 1 0), .int (st 2 0), .int (st 3 0), .int (st 4 0), .int (st 5 0), .ref (a 2), .ref (a 3), .ref (a 4), .ref (a 5), .ref (a 6), .ref (a 7), .ref (a 8), .ref (a 9), .ref (a 10), .ref (a 11), .ref (a 12), .ref (a 13), .int (st 6 0), .int (st 7 0), .int (st 8 0), .ref (a 14), .ref (a 15), .ref (a 16), .ref (a 17), .ref (a 18), .ref (a 19), .ref (a 20)] : List Value).set 3 (.int v))) = cwM a ca (tUp st 2 0 v) := rfl
theorem sM_mo_tunes (a : Nat → Nat) (ca : Nat → ClassId) (st : tSt) (v : Int32) : (cwM a ca st).set 0 (a 0, .inr (8, ([.ref (a 1), .int (st 0 0), .int (st 1 0), .int (st 2 0), .int (st 3 0), .int (st 4 0), .int (st 5 0), .ref (a 2), .ref (a 3), .ref (a 4), .ref (a 5), .ref (a 6), .ref (a 7), .ref (a 8), .ref (a 9), .ref (a 10), .ref (a 11), .ref (a 12), .ref (a 13), .int (st 6 0), .int (st 7 0), .int (st 8 0), .ref (a 14), .ref (a 15), .ref (a 16), .ref (a 17), .ref (a 18), .ref (a 19), .ref (a 20)] : List Value).set 4 (.int v))) = cwM a ca (tUp st 3 0 v) := rfl
theorem sM_mo_fund (a : Nat → Nat) (ca : Nat → ClassId) (st : tSt) (v : Int32) : (cwM a ca st).set 0 (a 0, .inr (8, ([.ref (a 1), .int (st 0 0), .int (st 1 0), .int (st 2 0), .int (st 3 0), .int (st 4 0), .int (st 5 0), .ref (a 2), .ref (a 3), .ref (a 4), .ref (a 5), .ref (a 6), .ref (a 7), .ref (a 8), .ref (a 9), .ref (a 10), .ref (a 11), .ref (a 12), .ref (a 13), .int (st 6 0), .int (st 7 0), .int (st 8 0), .ref (a 14), .ref (a 15), .ref (a 16), .ref (a 17), .ref (a 18), .ref (a 19), .ref (a 20)] : List Value).set 5 (.int v))) = cwM a ca (tUp st 4 0 v) := rfl
theorem sM_mo_stamps (a : Nat → Nat) (ca : Nat → ClassId) (st : tSt) (v : Int32) : (cwM a ca st).set 0 (a 0, .inr (8, ([.ref (a 1), .int (st 0 0), .int (st 1 0), .int (st 2 0), .int (st 3 0), .int (st 4 0), .int (st 5 0), .ref (a 2), .ref (a 3), .ref (a 4), .ref (a 5), .ref (a 6), .ref (a 7), .ref (a 8), .ref (a 9), .ref (a 10), .ref (a 11), .ref (a 12), .ref (a 13), .int (st 6 0), .int (st 7 0), .int (st 8 0), .ref (a 14), .ref (a 15), .ref (a 16), .ref (a 17), .ref (a 18), .ref (a 19), .ref (a 20)] : List Value).set 6 (.int v))) = cwM a ca (tUp st 5 0 v) := rfl
theorem sM_mo_many (a : Nat → Nat) (ca : Nat → ClassId) (st : tSt) (v : Int32) : (cwM a ca st).set 0 (a 0, .inr (8, ([.ref (a 1), .int (st 0 0), .int (st 1 0), .int (st 2 0), .int (st 3 0), .int (st 4 0), .int (st 5 0), .ref (a 2), .ref (a 3), .ref (a 4), .ref (a 5), .ref (a 6), .ref (a 7), .ref (a 8), .ref (a 9), .ref (a 10), .ref (a 11), .ref (a 12), .ref (a 13), .int (st 6 0), .int (st 7 0), .int (st 8 0), .ref (a 14), .ref (a 15), .ref (a 16), .ref (a 17), .ref (a 18), .ref (a 19), .ref (a 20)] : List Value).set 19 (.int v))) = cwM a ca (tUp st 6 0 v) := rfl
theorem sM_mo_set (a : Nat → Nat) (ca : Nat → ClassId) (st : tSt) (v : Int32) : (cwM a ca st).set 0 (a 0, .inr (8, ([.ref (a 1), .int (st 0 0), .int (st 1 0), .int (st 2 0), .int (st 3 0), .int (st 4 0), .int (st 5 0), .ref (a 2), .ref (a 3), .ref (a 4), .ref (a 5), .ref (a 6), .ref (a 7), .ref (a 8), .ref (a 9), .ref (a 10), .ref (a 11), .ref (a 12), .ref (a 13), .int (st 6 0), .int (st 7 0), .int (st 8 0), .ref (a 14), .ref (a 15), .ref (a 16), .ref (a 17), .ref (a 18), .ref (a 19), .ref (a 20)] : List Value).set 20 (.int v))) = cwM a ca (tUp st 7 0 v) := rfl
theorem sM_mo_parts (a : Nat → Nat) (ca : Nat → ClassId) (st : tSt) (v : Int32) : (cwM a ca st).set 0 (a 0, .inr (8, ([.ref (a 1), .int (st 0 0), .int (st 1 0), .int (st 2 0), .int (st 3 0), .int (st 4 0), .int (st 5 0), .ref (a 2), .ref (a 3), .ref (a 4), .ref (a 5), .ref (a 6), .ref (a 7), .ref (a 8), .ref (a 9), .ref (a 10), .ref (a 11), .ref (a 12), .ref (a 13), .int (st 6 0), .int (st 7 0), .int (st 8 0), .ref (a 14), .ref (a 15), .ref (a 16), .ref (a 17), .ref (a 18), .ref (a 19), .ref (a 20)] : List Value).set 21 (.int v))) = cwM a ca (tUp st 8 0 v) := rfl
theorem cM_tape (a : Nat → Nat) (ca : Nat → ClassId) (st : tSt) : (cwM a ca st)[1]? = some (a 1, .inl (ca 4, 40, .inl (st 9))) := rfl
theorem sM_tape (a : Nat → Nat) (ca : Nat → ClassId) (st : tSt) (i : Nat) (v : Int32) : (cwM a ca st).set 1 (a 1, .inl (ca 4, 40, .inl (upd (st 9) i v))) = cwM a ca (tUp st 9 i v) := rfl
theorem rM_tape (a : Nat → Nat) (ca : Nat → ClassId) (st : tSt) (g : Nat → Int32) : (cwM a ca st).set 1 (a 1, .inl (ca 4, 40, .inl g)) = cwM a ca (tUpA st 9 g) := rfl
theorem cM_four (a : Nat → Nat) (ca : Nat → ClassId) (st : tSt) {j : Nat} (hj : j < 2) : (cwM a ca st)[2 + j]? = some (a (2 + j), .inl (ca 0, 4, .inl (st (10 + j)))) := by
  match j, hj with
  | 0, _ => rfl
  | 1, _ => rfl
  | _ + 2, h => exact absurd h (by omega)
theorem sM_four (a : Nat → Nat) (ca : Nat → ClassId) (st : tSt) {j : Nat} (hj : j < 2) (i : Nat) (v : Int32) : (cwM a ca st).set (2 + j) (a (2 + j), .inl (ca 0, 4, .inl (upd (st (10 + j)) i v))) = cwM a ca (tUp st (10 + j) i v) := by
  match j, hj with
  | 0, _ => rfl
  | 1, _ => rfl
  | _ + 2, h => exact absurd h (by omega)
theorem rM_four (a : Nat → Nat) (ca : Nat → ClassId) (st : tSt) {j : Nat} (hj : j < 2) (g : Nat → Int32) : (cwM a ca st).set (2 + j) (a (2 + j), .inl (ca 0, 4, .inl g)) = cwM a ca (tUpA st (10 + j) g) := by
  match j, hj with
  | 0, _ => rfl
  | 1, _ => rfl
  | _ + 2, h => exact absurd h (by omega)
theorem cM_rank (a : Nat → Nat) (ca : Nat → ClassId) (st : tSt) : (cwM a ca st)[4]? = some (a 4, .inl (ca 0, 6, .inl (st 12))) := rfl
theorem sM_rank (a : Nat → Nat) (ca : Nat → ClassId) (st : tSt) (i : Nat) (v : Int32) : (cwM a ca st).set 4 (a 4, .inl (ca 0, 6, .inl (upd (st 12) i v))) = cwM a ca (tUp st 12 i v) := rfl
theorem rM_rank (a : Nat → Nat) (ca : Nat → ClassId) (st : tSt) (g : Nat → Int32) : (cwM a ca st).set 4 (a 4, .inl (ca 0, 6, .inl g)) = cwM a ca (tUpA st 12 g) := rfl
theorem cM_plays (a : Nat → Nat) (ca : Nat → ClassId) (st : tSt) : (cwM a ca st)[5]? = some (a 5, .inl (ca 0, 6, .inl (st 13))) := rfl
theorem sM_plays (a : Nat → Nat) (ca : Nat → ClassId) (st : tSt) (i : Nat) (v : Int32) : (cwM a ca st).set 5 (a 5, .inl (ca 0, 6, .inl (upd (st 13) i v))) = cwM a ca (tUp st 13 i v) := rfl
theorem rM_plays (a : Nat → Nat) (ca : Nat → ClassId) (st : tSt) (g : Nat → Int32) : (cwM a ca st).set 5 (a 5, .inl (ca 0, 6, .inl g)) = cwM a ca (tUpA st 13 g) := rfl
theorem cM_how (a : Nat → Nat) (ca : Nat → ClassId) (st : tSt) : (cwM a ca st)[6]? = some (a 6, .inl (ca 0, 6, .inl (st 14))) := rfl
theorem sM_how (a : Nat → Nat) (ca : Nat → ClassId) (st : tSt) (i : Nat) (v : Int32) : (cwM a ca st).set 6 (a 6, .inl (ca 0, 6, .inl (upd (st 14) i v))) = cwM a ca (tUp st 14 i v) := rfl
theorem rM_how (a : Nat → Nat) (ca : Nat → ClassId) (st : tSt) (g : Nat → Int32) : (cwM a ca st).set 6 (a 6, .inl (ca 0, 6, .inl g)) = cwM a ca (tUpA st 14 g) := rfl
theorem cM_wages (a : Nat → Nat) (ca : Nat → ClassId) (st : tSt) : (cwM a ca st)[7]? = some (a 7, .inl (ca 0, 6, .inl (st 15))) := rfl
theorem sM_wages (a : Nat → Nat) (ca : Nat → ClassId) (st : tSt) (i : Nat) (v : Int32) : (cwM a ca st).set 7 (a 7, .inl (ca 0, 6, .inl (upd (st 15) i v))) = cwM a ca (tUp st 15 i v) := rfl
theorem rM_wages (a : Nat → Nat) (ca : Nat → ClassId) (st : tSt) (g : Nat → Int32) : (cwM a ca st).set 7 (a 7, .inl (ca 0, 6, .inl g)) = cwM a ca (tUpA st 15 g) := rfl
theorem cM_pieces (a : Nat → Nat) (ca : Nat → ClassId) (st : tSt) : (cwM a ca st)[8]? = some (a 8, .inl (ca 0, 5, .inl (st 16))) := rfl
theorem sM_pieces (a : Nat → Nat) (ca : Nat → ClassId) (st : tSt) (i : Nat) (v : Int32) : (cwM a ca st).set 8 (a 8, .inl (ca 0, 5, .inl (upd (st 16) i v))) = cwM a ca (tUp st 16 i v) := rfl
theorem rM_pieces (a : Nat → Nat) (ca : Nat → ClassId) (st : tSt) (g : Nat → Int32) : (cwM a ca st).set 8 (a 8, .inl (ca 0, 5, .inl g)) = cwM a ca (tUpA st 16 g) := rfl
theorem cM_call (a : Nat → Nat) (ca : Nat → ClassId) (st : tSt) : (cwM a ca st)[9]? = some (a 9, .inl (ca 0, 48, .inl (st 17))) := rfl
theorem sM_call (a : Nat → Nat) (ca : Nat → ClassId) (st : tSt) (i : Nat) (v : Int32) : (cwM a ca st).set 9 (a 9, .inl (ca 0, 48, .inl (upd (st 17) i v))) = cwM a ca (tUp st 17 i v) := rfl
theorem rM_call (a : Nat → Nat) (ca : Nat → ClassId) (st : tSt) (g : Nat → Int32) : (cwM a ca st).set 9 (a 9, .inl (ca 0, 48, .inl g)) = cwM a ca (tUpA st 17 g) := rfl
theorem cM_fits (a : Nat → Nat) (ca : Nat → ClassId) (st : tSt) : (cwM a ca st)[10]? = some (a 10, .inl (ca 0, 10, .inl (st 18))) := rfl
theorem sM_fits (a : Nat → Nat) (ca : Nat → ClassId) (st : tSt) (i : Nat) (v : Int32) : (cwM a ca st).set 10 (a 10, .inl (ca 0, 10, .inl (upd (st 18) i v))) = cwM a ca (tUp st 18 i v) := rfl
theorem rM_fits (a : Nat → Nat) (ca : Nat → ClassId) (st : tSt) (g : Nat → Int32) : (cwM a ca st).set 10 (a 10, .inl (ca 0, 10, .inl g)) = cwM a ca (tUpA st 18 g) := rfl
theorem cM_months (a : Nat → Nat) (ca : Nat → ClassId) (st : tSt) : (cwM a ca st)[11]? = some (a 11, .inl (ca 0, 10, .inl (st 19))) := rfl
theorem sM_months (a : Nat → Nat) (ca : Nat → ClassId) (st : tSt) (i : Nat) (v : Int32) : (cwM a ca st).set 11 (a 11, .inl (ca 0, 10, .inl (upd (st 19) i v))) = cwM a ca (tUp st 19 i v) := rfl
theorem rM_months (a : Nat → Nat) (ca : Nat → ClassId) (st : tSt) (g : Nat → Int32) : (cwM a ca st).set 11 (a 11, .inl (ca 0, 10, .inl g)) = cwM a ca (tUpA st 19 g) := rfl
theorem cM_heardDay (a : Nat → Nat) (ca : Nat → ClassId) (st : tSt) : (cwM a ca st)[12]? = some (a 12, .inl (ca 0, 10, .inl (st 20))) := rfl
theorem sM_heardDay (a : Nat → Nat) (ca : Nat → ClassId) (st : tSt) (i : Nat) (v : Int32) : (cwM a ca st).set 12 (a 12, .inl (ca 0, 10, .inl (upd (st 20) i v))) = cwM a ca (tUp st 20 i v) := rfl
theorem rM_heardDay (a : Nat → Nat) (ca : Nat → ClassId) (st : tSt) (g : Nat → Int32) : (cwM a ca st).set 12 (a 12, .inl (ca 0, 10, .inl g)) = cwM a ca (tUpA st 20 g) := rfl
theorem cM_heardAs (a : Nat → Nat) (ca : Nat → ClassId) (st : tSt) : (cwM a ca st)[13]? = some (a 13, .inl (ca 0, 10, .inl (st 21))) := rfl
theorem sM_heardAs (a : Nat → Nat) (ca : Nat → ClassId) (st : tSt) (i : Nat) (v : Int32) : (cwM a ca st).set 13 (a 13, .inl (ca 0, 10, .inl (upd (st 21) i v))) = cwM a ca (tUp st 21 i v) := rfl
theorem rM_heardAs (a : Nat → Nat) (ca : Nat → ClassId) (st : tSt) (g : Nat → Int32) : (cwM a ca st).set 13 (a 13, .inl (ca 0, 10, .inl g)) = cwM a ca (tUpA st 21 g) := rfl
theorem cM_row (a : Nat → Nat) (ca : Nat → ClassId) (st : tSt) : (cwM a ca st)[14]? = some (a 14, .inl (ca 0, 6, .inl (st 22))) := rfl
theorem sM_row (a : Nat → Nat) (ca : Nat → ClassId) (st : tSt) (i : Nat) (v : Int32) : (cwM a ca st).set 14 (a 14, .inl (ca 0, 6, .inl (upd (st 22) i v))) = cwM a ca (tUp st 22 i v) := rfl
theorem rM_row (a : Nat → Nat) (ca : Nat → ClassId) (st : tSt) (g : Nat → Int32) : (cwM a ca st).set 14 (a 14, .inl (ca 0, 6, .inl g)) = cwM a ca (tUpA st 22 g) := rfl
theorem cM_partCall (a : Nat → Nat) (ca : Nat → ClassId) (st : tSt) : (cwM a ca st)[15]? = some (a 15, .inl (ca 0, 12, .inl (st 23))) := rfl
theorem sM_partCall (a : Nat → Nat) (ca : Nat → ClassId) (st : tSt) (i : Nat) (v : Int32) : (cwM a ca st).set 15 (a 15, .inl (ca 0, 12, .inl (upd (st 23) i v))) = cwM a ca (tUp st 23 i v) := rfl
theorem rM_partCall (a : Nat → Nat) (ca : Nat → ClassId) (st : tSt) (g : Nat → Int32) : (cwM a ca st).set 15 (a 15, .inl (ca 0, 12, .inl g)) = cwM a ca (tUpA st 23 g) := rfl
theorem cM_partOf (a : Nat → Nat) (ca : Nat → ClassId) (st : tSt) : (cwM a ca st)[16]? = some (a 16, .inl (ca 0, 12, .inl (st 24))) := rfl
theorem sM_partOf (a : Nat → Nat) (ca : Nat → ClassId) (st : tSt) (i : Nat) (v : Int32) : (cwM a ca st).set 16 (a 16, .inl (ca 0, 12, .inl (upd (st 24) i v))) = cwM a ca (tUp st 24 i v) := rfl
theorem rM_partOf (a : Nat → Nat) (ca : Nat → ClassId) (st : tSt) (g : Nat → Int32) : (cwM a ca st).set 16 (a 16, .inl (ca 0, 12, .inl g)) = cwM a ca (tUpA st 24 g) := rfl
theorem cM_taker (a : Nat → Nat) (ca : Nat → ClassId) (st : tSt) : (cwM a ca st)[17]? = some (a 17, .inl (ca 0, 12, .inl (st 25))) := rfl
theorem sM_taker (a : Nat → Nat) (ca : Nat → ClassId) (st : tSt) (i : Nat) (v : Int32) : (cwM a ca st).set 17 (a 17, .inl (ca 0, 12, .inl (upd (st 25) i v))) = cwM a ca (tUp st 25 i v) := rfl
theorem rM_taker (a : Nat → Nat) (ca : Nat → ClassId) (st : tSt) (g : Nat → Int32) : (cwM a ca st).set 17 (a 17, .inl (ca 0, 12, .inl g)) = cwM a ca (tUpA st 25 g) := rfl
theorem cM_blame (a : Nat → Nat) (ca : Nat → ClassId) (st : tSt) : (cwM a ca st)[18]? = some (a 18, .inl (ca 0, 12, .inl (st 26))) := rfl
theorem sM_blame (a : Nat → Nat) (ca : Nat → ClassId) (st : tSt) (i : Nat) (v : Int32) : (cwM a ca st).set 18 (a 18, .inl (ca 0, 12, .inl (upd (st 26) i v))) = cwM a ca (tUp st 26 i v) := rfl
theorem rM_blame (a : Nat → Nat) (ca : Nat → ClassId) (st : tSt) (g : Nat → Int32) : (cwM a ca st).set 18 (a 18, .inl (ca 0, 12, .inl g)) = cwM a ca (tUpA st 26 g) := rfl
theorem cM_has (a : Nat → Nat) (ca : Nat → ClassId) (st : tSt) : (cwM a ca st)[19]? = some (a 19, .inl (ca 0, 6, .inl (st 27))) := rfl
theorem sM_has (a : Nat → Nat) (ca : Nat → ClassId) (st : tSt) (i : Nat) (v : Int32) : (cwM a ca st).set 19 (a 19, .inl (ca 0, 6, .inl (upd (st 27) i v))) = cwM a ca (tUp st 27 i v) := rfl
theorem rM_has (a : Nat → Nat) (ca : Nat → ClassId) (st : tSt) (g : Nat → Int32) : (cwM a ca st).set 19 (a 19, .inl (ca 0, 6, .inl g)) = cwM a ca (tUpA st 27 g) := rfl
theorem cM_turn (a : Nat → Nat) (ca : Nat → ClassId) (st : tSt) : (cwM a ca st)[20]? = some (a 20, .inl (ca 0, 10, .inl (st 28))) := rfl
theorem sM_turn (a : Nat → Nat) (ca : Nat → ClassId) (st : tSt) (i : Nat) (v : Int32) : (cwM a ca st).set 20 (a 20, .inl (ca 0, 10, .inl (upd (st 28) i v))) = cwM a ca (tUp st 28 i v) := rfl
theorem rM_turn (a : Nat → Nat) (ca : Nat → ClassId) (st : tSt) (g : Nat → Int32) : (cwM a ca st).set 20 (a 20, .inl (ca 0, 10, .inl g)) = cwM a ca (tUpA st 28 g) := rfl
end
section
theorem iwX0 : ∀ w ∈ u_ws RX0 TX0 2, w ∈ tWALL := fun w h => List.mem_filter.mpr ⟨(by decide +kernel : ∀ w ∈ u_ws RX0 TX0 2, w ∈ lw_tbl) w h, (by decide +kernel : ∀ w ∈ u_ws RX0 TX0 2, goodWord w = true) w h⟩
theorem iwX1 : ∀ w ∈ u_ws RX1 TX1 5, w ∈ tWALL := fun w h => List.mem_filter.mpr ⟨(by decide +kernel : ∀ w ∈ u_ws RX1 TX1 5, w ∈ lw_tbl) w h, (by decide +kernel : ∀ w ∈ u_ws RX1 TX1 5, goodWord w = true) w h⟩
theorem iwX2 : ∀ w ∈ u_ws RX2 TX2 4, w ∈ tWALL := fun w h => List.mem_filter.mpr ⟨(by decide +kernel : ∀ w ∈ u_ws RX2 TX2 4, w ∈ lw_tbl) w h, (by decide +kernel : ∀ w ∈ u_ws RX2 TX2 4, goodWord w = true) w h⟩
theorem iwX3 : ∀ w ∈ u_ws RX3 TX3 6, w ∈ tWALL := fun w h => List.mem_filter.mpr ⟨(by decide +kernel : ∀ w ∈ u_ws RX3 TX3 6, w ∈ lw_tbl) w h, (by decide +kernel : ∀ w ∈ u_ws RX3 TX3 6, goodWord w = true) w h⟩
theorem iwX4 : ∀ w ∈ u_ws RX4 TX4 2, w ∈ tWALL := fun w h => List.mem_filter.mpr ⟨(by decide +kernel : ∀ w ∈ u_ws RX4 TX4 2, w ∈ lw_tbl) w h, (by decide +kernel : ∀ w ∈ u_ws RX4 TX4 2, goodWord w = true) w h⟩
theorem iwX5 : ∀ w ∈ u_ws RX5 TX5 2, w ∈ tWALL := fun w h => List.mem_filter.mpr ⟨(by decide +kernel : ∀ w ∈ u_ws RX5 TX5 2, w ∈ lw_tbl) w h, (by decide +kernel : ∀ w ∈ u_ws RX5 TX5 2, goodWord w = true) w h⟩
theorem iwX6 : ∀ w ∈ u_ws RX6 TX6 3, w ∈ tWALL := fun w h => List.mem_filter.mpr ⟨(by decide +kernel : ∀ w ∈ u_ws RX6 TX6 3, w ∈ lw_tbl) w h, (by decide +kernel : ∀ w ∈ u_ws RX6 TX6 3, goodWord w = true) w h⟩
theorem iwX7 : ∀ w ∈ u_ws RX7 TX7 13, w ∈ tWALL := fun w h => List.mem_filter.mpr ⟨(by decide +kernel : ∀ w ∈ u_ws RX7 TX7 13, w ∈ lw_tbl) w h, (by decide +kernel : ∀ w ∈ u_ws RX7 TX7 13, goodWord w = true) w h⟩
theorem iwX8 : ∀ w ∈ u_ws RX8 TX8 29, w ∈ tWALL := fun w h => List.mem_filter.mpr ⟨(by decide +kernel : ∀ w ∈ u_ws RX8 TX8 29, w ∈ lw_tbl) w h, (by decide +kernel : ∀ w ∈ u_ws RX8 TX8 29, goodWord w = true) w h⟩
theorem kw_0 : Cond.fieldLink RX4 15 "TowerPipers$Tape" "length" "I" ∈ tWALL := tin1 (List.mem_of_getElem? (i := 29) (by decide +kernel)) rfl
theorem kw_1 : Cond.initialized RX4 ∈ tWALL := tin1 (List.mem_of_getElem? (i := 2) (by decide +kernel)) rfl
theorem kw_2 : Cond.code yX4_size cX4_size 1 (some .int) ∈ tWALL := tin1 (List.mem_of_getElem? (i := 208) (by decide +kernel)) rfl
theorem kw_3 : Cond.code yX4_hasRoom cX4_hasRoom 1 (some .boolean) ∈ tWALL := tin1 (List.mem_of_getElem? (i := 200) (by decide +kernel)) rfl
theorem kw_4 : Cond.fieldLink RX4 11 "TowerPipers$Tape" "bytes" "[I" ∈ tWALL := tin1 (List.mem_of_getElem? (i := 28) (by decide +kernel)) rfl
theorem kw_5 : Cond.code yX4_put cX4_put 3 none ∈ tWALL := tin1 (List.mem_of_getElem? (i := 204) (by decide +kernel)) rfl
theorem kw_6 : Cond.initialized RX7 ∈ tWALL := tin1 (List.mem_of_getElem? (i := 1) (by decide +kernel)) rfl
theorem kw_7 : Cond.code yX7_within cX7_within 3 (some .boolean) ∈ tWALL := tin1 (List.mem_of_getElem? (i := 231) (by decide +kernel)) rfl
theorem kw_8 : Cond.static yX7_within ∈ tWALL := tin1 (List.mem_of_getElem? (i := 230) (by decide +kernel)) rfl
theorem kw_9 : Cond.methodLinkNest RX4 19 yX7_within "TowerPipers" ∈ tNEST := tne1 (List.mem_of_getElem? (i := 229) (by decide +kernel)) rfl
theorem kw_10 : Cond.code yX4_byteAt cX4_byteAt 2 (some .int) ∈ tWALL := tin1 (List.mem_of_getElem? (i := 228) (by decide +kernel)) rfl
theorem kw_11 : Cond.code yX4_empty cX4_empty 1 none ∈ tWALL := tin2 (List.mem_of_getElem? (i := 12) (by decide +kernel)) rfl
theorem kw_12 : Cond.methodLinkNest RX5 18 yX7_within "TowerPipers" ∈ tNEST := tne2 (List.mem_of_getElem? (i := 0) (by decide +kernel)) rfl
theorem kw_13 : Cond.fieldLink RX5 9 "TowerPipers$TownWord" "numbers" "[I" ∈ tWALL := tin1 (List.mem_of_getElem? (i := 42) (by decide +kernel)) rfl
theorem kw_14 : Cond.initialized RX5 ∈ tWALL := tin1 (List.mem_of_getElem? (i := 3) (by decide +kernel)) rfl
theorem kw_15 : Cond.code yX5_number cX5_number 2 (some .int) ∈ tWALL := tin2 (List.mem_of_getElem? (i := 82) (by decide +kernel)) rfl
theorem kw_16 : Cond.methodLink RX5 52 yX4_byteAt ∈ tWALL := tin1 (List.mem_of_getElem? (i := 225) (by decide +kernel)) rfl
theorem kw_17 : Cond.instanceMethod yX4_byteAt ∈ tWALL := tin1 (List.mem_of_getElem? (i := 226) (by decide +kernel)) rfl
theorem kw_18 : Cond.selects RX4 yX4_byteAt yX4_byteAt ∈ tWALL := tin1 (List.mem_of_getElem? (i := 227) (by decide +kernel)) rfl
theorem kw_19 : Cond.fieldLink RX5 58 "TowerPipers$TownWord" "LETTERS" "[C" ∈ tWALL := tin1 (List.mem_of_getElem? (i := 232) (by decide +kernel)) rfl
theorem kw_20 : Cond.code yX5_kindAt cX5_kindAt 4 (some .int) ∈ tWALL := tin1 (List.mem_of_getElem? (i := 224) (by decide +kernel)) rfl
theorem kw_21 : Cond.code yX5_isDigit cX5_isDigit 3 (some .boolean) ∈ tWALL := tin1 (List.mem_of_getElem? (i := 239) (by decide +kernel)) rfl
theorem kw_22 : Cond.static yX5_isDigit ∈ tWALL := tin1 (List.mem_of_getElem? (i := 238) (by decide +kernel)) rfl
theorem kw_23 : Cond.methodLink RX5 48 yX5_isDigit ∈ tWALL := tin1 (List.mem_of_getElem? (i := 237) (by decide +kernel)) rfl
theorem kw_24 : Cond.code yX5_endOfDigits cX5_endOfDigits 4 (some .int) ∈ tWALL := tin1 (List.mem_of_getElem? (i := 236) (by decide +kernel)) rfl
theorem kw_25 : Cond.code yX5_numberBetween cX5_numberBetween 5 (some .int) ∈ tWALL := tin2 (List.mem_of_getElem? (i := 3) (by decide +kernel)) rfl
theorem kw_26 : Cond.code yX5_faultOfNumber cX5_faultOfNumber 5 (some .int) ∈ tWALL := tin2 (List.mem_of_getElem? (i := 8) (by decide +kernel)) rfl
theorem kw_27 : Cond.static yX5_faultOfNumber ∈ tWALL := tin2 (List.mem_of_getElem? (i := 7) (by decide +kernel)) rfl
theorem kw_28 : Cond.methodLink RX5 44 yX5_faultOfNumber ∈ tWALL := tin2 (List.mem_of_getElem? (i := 6) (by decide +kernel)) rfl
theorem kw_29 : Cond.fieldLink RX5 15 "TowerPipers$TownWord" "coming" "[I" ∈ tWALL := tin1 (List.mem_of_getElem? (i := 43) (by decide +kernel)) rfl
theorem kw_30 : Cond.methodLink RX5 25 arraycopyName ∈ tWALL := tin1 (List.mem_of_getElem? (i := 219) (by decide +kernel)) rfl
theorem kw_31 : Cond.native arraycopyName ∈ tWALL := tin1 (List.mem_of_getElem? (i := 221) (by decide +kernel)) rfl
theorem kw_32 : Cond.static arraycopyName ∈ tWALL := tin1 (List.mem_of_getElem? (i := 220) (by decide +kernel)) rfl
theorem kw_33 : Cond.initialized RJ10 ∈ tWALL := tin1 (List.mem_of_getElem? (i := 10) (by decide +kernel)) rfl
theorem kw_34 : Cond.static yX5_kindAt ∈ tWALL := tin1 (List.mem_of_getElem? (i := 223) (by decide +kernel)) rfl
theorem kw_35 : Cond.methodLink RX5 31 yX5_kindAt ∈ tWALL := tin1 (List.mem_of_getElem? (i := 222) (by decide +kernel)) rfl
theorem kw_36 : Cond.static yX5_endOfDigits ∈ tWALL := tin1 (List.mem_of_getElem? (i := 235) (by decide +kernel)) rfl
theorem kw_37 : Cond.methodLink RX5 35 yX5_endOfDigits ∈ tWALL := tin1 (List.mem_of_getElem? (i := 234) (by decide +kernel)) rfl
theorem kw_38 : Cond.static yX5_numberBetween ∈ tWALL := tin2 (List.mem_of_getElem? (i := 2) (by decide +kernel)) rfl
theorem kw_39 : Cond.methodLink RX5 38 yX5_numberBetween ∈ tWALL := tin2 (List.mem_of_getElem? (i := 1) (by decide +kernel)) rfl
theorem kw_40 : Cond.fieldLink RX5 41 "TowerPipers$TownWord" "HIGHEST" "[I" ∈ tWALL := tin2 (List.mem_of_getElem? (i := 4) (by decide +kernel)) rfl
theorem kw_41 : Cond.fieldLink RX5 22 "TowerPipers$TownWord" "AT_FIRST" "[I" ∈ tWALL := tin1 (List.mem_of_getElem? (i := 217) (by decide +kernel)) rfl
theorem kw_42 : Cond.code yX5_read cX5_read 9 (some .int) ∈ tWALL := tin1 (List.mem_of_getElem? (i := 216) (by decide +kernel)) rfl
theorem kw_43 : Cond.fieldLink RX2 7 "TowerPipers$Piper" "rank" "I" ∈ tWALL := tin1 (List.mem_of_getElem? (i := 107) (by decide +kernel)) rfl
theorem kw_44 : Cond.fieldLink RX2 13 "TowerPipers$Piper" "plays" "I" ∈ tWALL := tin1 (List.mem_of_getElem? (i := 109) (by decide +kernel)) rfl
theorem kw_45 : Cond.initialized RX2 ∈ tWALL := tin1 (List.mem_of_getElem? (i := 6) (by decide +kernel)) rfl
theorem kw_46 : Cond.code yX2_join cX2_join 3 none ∈ tWALL := tin2 (List.mem_of_getElem? (i := 21) (by decide +kernel)) rfl
theorem kw_47 : Cond.code yX7_hasBit cX7_hasBit 2 (some .boolean) ∈ tWALL := tin2 (List.mem_of_getElem? (i := 104) (by decide +kernel)) rfl
theorem kw_48 : Cond.fieldLink RX2 16 "TowerPipers$Piper" "state" "I" ∈ tWALL := tin1 (List.mem_of_getElem? (i := 111) (by decide +kernel)) rfl
theorem kw_49 : Cond.static yX7_hasBit ∈ tWALL := tin2 (List.mem_of_getElem? (i := 103) (by decide +kernel)) rfl
theorem kw_50 : Cond.methodLinkNest RX2 22 yX7_hasBit "TowerPipers" ∈ tNEST := tne2 (List.mem_of_getElem? (i := 141) (by decide +kernel)) rfl
theorem kw_51 : Cond.code yX2_canPlay cX2_canPlay 2 (some .boolean) ∈ tWALL := tin2 (List.mem_of_getElem? (i := 140) (by decide +kernel)) rfl
theorem kw_52 : Cond.fieldLink RX6 9 "TowerPipers$Tune" "occasions" "I" ∈ tWALL := tin1 (List.mem_of_getElem? (i := 142) (by decide +kernel)) rfl
theorem kw_53 : Cond.fieldLink RX6 15 "TowerPipers$Tune" "months" "I" ∈ tWALL := tin1 (List.mem_of_getElem? (i := 143) (by decide +kernel)) rfl
theorem kw_54 : Cond.initialized RX6 ∈ tWALL := tin1 (List.mem_of_getElem? (i := 8) (by decide +kernel)) rfl
theorem kw_55 : Cond.code yX6_learn cX6_learn 3 none ∈ tWALL := tin2 (List.mem_of_getElem? (i := 236) (by decide +kernel)) rfl
theorem kw_56 : Cond.methodLinkNest RX6 21 yX7_hasBit "TowerPipers" ∈ tNEST := tne2 (List.mem_of_getElem? (i := 212) (by decide +kernel)) rfl
theorem kw_57 : Cond.code yX6_fits cX6_fits 3 (some .boolean) ∈ tWALL := tin2 (List.mem_of_getElem? (i := 211) (by decide +kernel)) rfl
theorem kw_58 : Cond.fieldLink RX6 18 "TowerPipers$Tune" "lastTurn" "I" ∈ tWALL := tin1 (List.mem_of_getElem? (i := 144) (by decide +kernel)) rfl
theorem kw_59 : Cond.code yX6_dayHeard cX6_dayHeard 1 (some .int) ∈ tWALL := tin3 (List.mem_of_getElem? (i := 86) (by decide +kernel)) rfl
theorem kw_60 : Cond.fieldLink RX0 19 "TowerPipers$Call" "LEAST" "[I" ∈ tWALL := tin2 (List.mem_of_getElem? (i := 49) (by decide +kernel)) rfl
theorem kw_61 : Cond.fieldLink RX0 22 "TowerPipers$Call" "MOST" "[I" ∈ tWALL := tin2 (List.mem_of_getElem? (i := 51) (by decide +kernel)) rfl
theorem kw_62 : Cond.methodLinkNest RX0 25 yX7_within "TowerPipers" ∈ tNEST := tne2 (List.mem_of_getElem? (i := 53) (by decide +kernel)) rfl
theorem kw_63 : Cond.initialized RX0 ∈ tWALL := tin1 (List.mem_of_getElem? (i := 7) (by decide +kernel)) rfl
theorem kw_64 : Cond.code yX0_canBe cX0_canBe 2 (some .boolean) ∈ tWALL := tin2 (List.mem_of_getElem? (i := 48) (by decide +kernel)) rfl
theorem kw_65 : Cond.fieldLink RX0 11 "TowerPipers$Call" "facts" "[I" ∈ tWALL := tin1 (List.mem_of_getElem? (i := 129) (by decide +kernel)) rfl
theorem kw_66 : Cond.methodLink RX0 29 arraycopyName ∈ tWALL := tin2 (List.mem_of_getElem? (i := 58) (by decide +kernel)) rfl
theorem kw_67 : Cond.fieldLink RX0 15 "TowerPipers$Call" "there" "Z" ∈ tWALL := tin1 (List.mem_of_getElem? (i := 130) (by decide +kernel)) rfl
theorem kw_68 : Cond.code yX0_come cX0_come 2 none ∈ tWALL := tin2 (List.mem_of_getElem? (i := 57) (by decide +kernel)) rfl
theorem kw_69 : Cond.code yX0_go cX0_go 1 none ∈ tWALL := tin2 (List.mem_of_getElem? (i := 70) (by decide +kernel)) rfl
theorem kw_70 : Cond.code yX0_fact cX0_fact 2 (some .int) ∈ tWALL := tin2 (List.mem_of_getElem? (i := 108) (by decide +kernel)) rfl
theorem kw_71 : Cond.code yX0_isOfOrder cX0_isOfOrder 2 (some .boolean) ∈ tWALL := tin2 (List.mem_of_getElem? (i := 97) (by decide +kernel)) rfl
theorem kw_72 : Cond.code yX0_end cX0_end 1 (some .int) ∈ tWALL := tin2 (List.mem_of_getElem? (i := 119) (by decide +kernel)) rfl
theorem kw_73 : Cond.methodLink RX0 35 yX0_end ∈ tWALL := tin2 (List.mem_of_getElem? (i := 116) (by decide +kernel)) rfl
theorem kw_74 : Cond.instanceMethod yX0_end ∈ tWALL := tin2 (List.mem_of_getElem? (i := 117) (by decide +kernel)) rfl
theorem kw_75 : Cond.selects RX0 yX0_end yX0_end ∈ tWALL := tin2 (List.mem_of_getElem? (i := 118) (by decide +kernel)) rfl
theorem kw_76 : Cond.code yX0_isOnAt cX0_isOnAt 2 (some .boolean) ∈ tWALL := tin2 (List.mem_of_getElem? (i := 115) (by decide +kernel)) rfl
theorem kw_77 : Cond.code yX0_partCount cX0_partCount 1 (some .int) ∈ tWALL := tin2 (List.mem_of_getElem? (i := 131) (by decide +kernel)) rfl
theorem kw_78 : Cond.code yX0_partsWith cX0_partsWith 2 (some .int) ∈ tWALL := tin2 (List.mem_of_getElem? (i := 123) (by decide +kernel)) rfl
theorem kw_79 : Cond.methodLink RX0 39 Lib.Math.abs.name ∈ tWALL := tin2 (List.mem_of_getElem? (i := 150) (by decide +kernel)) rfl
theorem kw_80 : Cond.static Lib.Math.abs.name ∈ tWALL := tin2 (List.mem_of_getElem? (i := 151) (by decide +kernel)) rfl
theorem kw_81 : Cond.initialized RJ9 ∈ tWALL := tin1 (List.mem_of_getElem? (i := 12) (by decide +kernel)) rfl
theorem kw_82 : Cond.code Lib.Math.abs.name Lib.Math.abs.code 1 (some .int) ∈ tWALL := tin2 (List.mem_of_getElem? (i := 152) (by decide +kernel)) rfl
theorem kw_83 : Cond.code yX0_clashesWith cX0_clashesWith 4 (some .boolean) ∈ tWALL := tin2 (List.mem_of_getElem? (i := 149) (by decide +kernel)) rfl
theorem kw_84 : Cond.initialized RJ7 ∈ tWALL := tin1 (List.mem_of_getElem? (i := 11) (by decide +kernel)) rfl
theorem kw_85 : Cond.code yJ7_fill_53178 cJ7_fill_53178 4 none ∈ tWALL := tin2 (List.mem_of_getElem? (i := 93) (by decide +kernel)) rfl
theorem kw_86 : Cond.fieldLink RX1 24 "TowerPipers$Cast" "partCount" "I" ∈ tWALL := tin1 (List.mem_of_getElem? (i := 71) (by decide +kernel)) rfl
theorem kw_87 : Cond.fieldLink RX1 9 "TowerPipers$Cast" "openTo" "[I" ∈ tWALL := tin1 (List.mem_of_getElem? (i := 67) (by decide +kernel)) rfl
theorem kw_88 : Cond.static yJ7_fill_53178 ∈ tWALL := tin2 (List.mem_of_getElem? (i := 92) (by decide +kernel)) rfl
theorem kw_89 : Cond.methodLink RX1 28 yJ7_fill_53178 ∈ tWALL := tin2 (List.mem_of_getElem? (i := 91) (by decide +kernel)) rfl
theorem kw_90 : Cond.initialized RX1 ∈ tWALL := tin1 (List.mem_of_getElem? (i := 5) (by decide +kernel)) rfl
theorem kw_91 : Cond.code yX1_clear cX1_clear 1 none ∈ tWALL := tin2 (List.mem_of_getElem? (i := 90) (by decide +kernel)) rfl
theorem kw_92 : Cond.fieldLink RX1 18 "TowerPipers$Cast" "callOf" "[I" ∈ tWALL := tin1 (List.mem_of_getElem? (i := 69) (by decide +kernel)) rfl
theorem kw_93 : Cond.fieldLink RX1 21 "TowerPipers$Cast" "piperFor" "[I" ∈ tWALL := tin1 (List.mem_of_getElem? (i := 70) (by decide +kernel)) rfl
theorem kw_94 : Cond.code yX1_piperOf cX1_piperOf 5 (some .int) ∈ tWALL := tin2 (List.mem_of_getElem? (i := 228) (by decide +kernel)) rfl
theorem kw_95 : Cond.code yX1_partsOf cX1_partsOf 4 (some .int) ∈ tWALL := tin3 (List.mem_of_getElem? (i := 70) (by decide +kernel)) rfl
theorem kw_96 : Cond.methodLink RX1 62 yX2_canPlay ∈ tWALL := tin2 (List.mem_of_getElem? (i := 137) (by decide +kernel)) rfl
theorem kw_97 : Cond.instanceMethod yX2_canPlay ∈ tWALL := tin2 (List.mem_of_getElem? (i := 138) (by decide +kernel)) rfl
theorem kw_98 : Cond.selects RX2 yX2_canPlay yX2_canPlay ∈ tWALL := tin2 (List.mem_of_getElem? (i := 139) (by decide +kernel)) rfl
theorem kw_99 : Cond.code yX1_markTakers cX1_markTakers 4 none ∈ tWALL := tin2 (List.mem_of_getElem? (i := 136) (by decide +kernel)) rfl
theorem kw_100 : Cond.fieldLink RX1 15 "TowerPipers$Cast" "bars" "[I" ∈ tWALL := tin1 (List.mem_of_getElem? (i := 68) (by decide +kernel)) rfl
theorem kw_101 : Cond.methodLink RX1 68 yX0_clashesWith ∈ tWALL := tin2 (List.mem_of_getElem? (i := 146) (by decide +kernel)) rfl
theorem kw_102 : Cond.instanceMethod yX0_clashesWith ∈ tWALL := tin2 (List.mem_of_getElem? (i := 147) (by decide +kernel)) rfl
theorem kw_103 : Cond.selects RX0 yX0_clashesWith yX0_clashesWith ∈ tWALL := tin2 (List.mem_of_getElem? (i := 148) (by decide +kernel)) rfl
theorem kw_104 : Cond.code yX1_markBars cX1_markBars 6 none ∈ tWALL := tin2 (List.mem_of_getElem? (i := 145) (by decide +kernel)) rfl
theorem kw_105 : Cond.code yX1_allParts cX1_allParts 1 (some .int) ∈ tWALL := tin2 (List.mem_of_getElem? (i := 156) (by decide +kernel)) rfl
theorem kw_106 : Cond.methodLinkNest RX1 80 yX7_hasBit "TowerPipers" ∈ tNEST := tne2 (List.mem_of_getElem? (i := 161) (by decide +kernel)) rfl
theorem kw_107 : Cond.code yX1_tiedTo cX1_tiedTo 7 (some .int) ∈ tWALL := tin2 (List.mem_of_getElem? (i := 160) (by decide +kernel)) rfl
theorem kw_108 : Cond.code yX1_takersOf cX1_takersOf 4 (some .int) ∈ tWALL := tin2 (List.mem_of_getElem? (i := 173) (by decide +kernel)) rfl
theorem kw_109 : Cond.constant RJ6 265 1431655765 ∈ tWALL := tin2 (List.mem_of_getElem? (i := 177) (by decide +kernel)) rfl
theorem kw_110 : Cond.constant RJ6 266 858993459 ∈ tWALL := tin2 (List.mem_of_getElem? (i := 178) (by decide +kernel)) rfl
theorem kw_111 : Cond.constant RJ6 267 252645135 ∈ tWALL := tin2 (List.mem_of_getElem? (i := 179) (by decide +kernel)) rfl
theorem kw_112 : Cond.initialized RJ6 ∈ tWALL := tin1 (List.mem_of_getElem? (i := 13) (by decide +kernel)) rfl
theorem kw_113 : Cond.code yJ6_bitCount_0f7a4 cJ6_bitCount_0f7a4 1 (some .int) ∈ tWALL := tin2 (List.mem_of_getElem? (i := 176) (by decide +kernel)) rfl
theorem kw_114 : Cond.methodLink RX1 86 yX1_takersOf ∈ tWALL := tin2 (List.mem_of_getElem? (i := 170) (by decide +kernel)) rfl
theorem kw_115 : Cond.instanceMethod yX1_takersOf ∈ tWALL := tin2 (List.mem_of_getElem? (i := 172) (by decide +kernel)) rfl
theorem kw_116 : Cond.selects RX1 yX1_takersOf yX1_takersOf ∈ tWALL := tin0 (List.mem_of_getElem? (i := 11) (by decide +kernel)) rfl
theorem kw_117 : Cond.static yJ6_bitCount_0f7a4 ∈ tWALL := tin2 (List.mem_of_getElem? (i := 175) (by decide +kernel)) rfl
theorem kw_118 : Cond.methodLink RX1 89 yJ6_bitCount_0f7a4 ∈ tWALL := tin2 (List.mem_of_getElem? (i := 174) (by decide +kernel)) rfl
theorem kw_119 : Cond.code yX1_hardestOf cX1_hardestOf 8 (some .int) ∈ tWALL := tin2 (List.mem_of_getElem? (i := 169) (by decide +kernel)) rfl
theorem kw_120 : Cond.code yX1_isWorthTrying cX1_isWorthTrying 5 (some .boolean) ∈ tWALL := tin2 (List.mem_of_getElem? (i := 183) (by decide +kernel)) rfl
theorem kw_121 : Cond.methodLink RX1 58 yX1_canFill ∈ tWALL := tin2 (List.mem_of_getElem? (i := 162) (by decide +kernel)) rfl
theorem kw_122 : Cond.instanceMethod yX1_canFill ∈ tWALL := tin2 (List.mem_of_getElem? (i := 164) (by decide +kernel)) rfl
theorem kw_123 : Cond.selects RX1 yX1_canFill yX1_canFill ∈ tWALL := tin0 (List.mem_of_getElem? (i := 9) (by decide +kernel)) rfl
theorem kw_124 : Cond.code yX1_canGive cX1_canGive 7 (some .boolean) ∈ tWALL := tin2 (List.mem_of_getElem? (i := 187) (by decide +kernel)) rfl
theorem kw_125 : Cond.code yX1_canFill cX1_canFill 5 (some .boolean) ∈ tWALL := tin2 (List.mem_of_getElem? (i := 165) (by decide +kernel)) rfl
theorem kw_126 : Cond.methodLink RX1 72 yX1_isWorthTrying ∈ tWALL := tin2 (List.mem_of_getElem? (i := 180) (by decide +kernel)) rfl
theorem kw_127 : Cond.instanceMethod yX1_isWorthTrying ∈ tWALL := tin2 (List.mem_of_getElem? (i := 182) (by decide +kernel)) rfl
theorem kw_128 : Cond.selects RX1 yX1_isWorthTrying yX1_isWorthTrying ∈ tWALL := tin0 (List.mem_of_getElem? (i := 12) (by decide +kernel)) rfl
theorem kw_129 : Cond.methodLink RX1 76 yX1_canGive ∈ tWALL := tin2 (List.mem_of_getElem? (i := 184) (by decide +kernel)) rfl
theorem kw_130 : Cond.instanceMethod yX1_canGive ∈ tWALL := tin2 (List.mem_of_getElem? (i := 186) (by decide +kernel)) rfl
theorem kw_131 : Cond.selects RX1 yX1_canGive yX1_canGive ∈ tWALL := tin0 (List.mem_of_getElem? (i := 13) (by decide +kernel)) rfl
theorem kw_132 : Cond.methodLink RX1 83 yX1_hardestOf ∈ tWALL := tin2 (List.mem_of_getElem? (i := 166) (by decide +kernel)) rfl
theorem kw_133 : Cond.instanceMethod yX1_hardestOf ∈ tWALL := tin2 (List.mem_of_getElem? (i := 168) (by decide +kernel)) rfl
theorem kw_134 : Cond.selects RX1 yX1_hardestOf yX1_hardestOf ∈ tWALL := tin0 (List.mem_of_getElem? (i := 10) (by decide +kernel)) rfl
theorem kw_135 : Cond.methodLink RX1 51 yX1_allParts ∈ tWALL := tin2 (List.mem_of_getElem? (i := 153) (by decide +kernel)) rfl
theorem kw_136 : Cond.instanceMethod yX1_allParts ∈ tWALL := tin2 (List.mem_of_getElem? (i := 155) (by decide +kernel)) rfl
theorem kw_137 : Cond.selects RX1 yX1_allParts yX1_allParts ∈ tWALL := tin0 (List.mem_of_getElem? (i := 7) (by decide +kernel)) rfl
theorem kw_138 : Cond.methodLink RX1 54 yX1_tiedTo ∈ tWALL := tin2 (List.mem_of_getElem? (i := 157) (by decide +kernel)) rfl
theorem kw_139 : Cond.instanceMethod yX1_tiedTo ∈ tWALL := tin2 (List.mem_of_getElem? (i := 159) (by decide +kernel)) rfl
theorem kw_140 : Cond.selects RX1 yX1_tiedTo yX1_tiedTo ∈ tWALL := tin0 (List.mem_of_getElem? (i := 8) (by decide +kernel)) rfl
theorem kw_141 : Cond.methodLink RX1 34 yX0_partCount ∈ tWALL := tin2 (List.mem_of_getElem? (i := 128) (by decide +kernel)) rfl
theorem kw_142 : Cond.instanceMethod yX0_partCount ∈ tWALL := tin2 (List.mem_of_getElem? (i := 129) (by decide +kernel)) rfl
theorem kw_143 : Cond.selects RX0 yX0_partCount yX0_partCount ∈ tWALL := tin2 (List.mem_of_getElem? (i := 130) (by decide +kernel)) rfl
theorem kw_144 : Cond.methodLink RX1 39 yX0_fact ∈ tWALL := tin2 (List.mem_of_getElem? (i := 132) (by decide +kernel)) rfl
theorem kw_145 : Cond.instanceMethod yX0_fact ∈ tWALL := tin2 (List.mem_of_getElem? (i := 106) (by decide +kernel)) rfl
theorem kw_146 : Cond.selects RX0 yX0_fact yX0_fact ∈ tWALL := tin2 (List.mem_of_getElem? (i := 107) (by decide +kernel)) rfl
theorem kw_147 : Cond.methodLink RX1 43 yX1_markTakers ∈ tWALL := tin2 (List.mem_of_getElem? (i := 133) (by decide +kernel)) rfl
theorem kw_148 : Cond.instanceMethod yX1_markTakers ∈ tWALL := tin2 (List.mem_of_getElem? (i := 135) (by decide +kernel)) rfl
theorem kw_149 : Cond.selects RX1 yX1_markTakers yX1_markTakers ∈ tWALL := tin0 (List.mem_of_getElem? (i := 5) (by decide +kernel)) rfl
theorem kw_150 : Cond.methodLink RX1 47 yX1_markBars ∈ tWALL := tin2 (List.mem_of_getElem? (i := 142) (by decide +kernel)) rfl
theorem kw_151 : Cond.instanceMethod yX1_markBars ∈ tWALL := tin2 (List.mem_of_getElem? (i := 144) (by decide +kernel)) rfl
theorem kw_152 : Cond.selects RX1 yX1_markBars yX1_markBars ∈ tWALL := tin0 (List.mem_of_getElem? (i := 6) (by decide +kernel)) rfl
theorem kw_153 : Cond.code yX1_admit cX1_admit 7 (some .boolean) ∈ tWALL := tin2 (List.mem_of_getElem? (i := 127) (by decide +kernel)) rfl
theorem kw_154 : Cond.code yX1_lowerAll cX1_lowerAll 7 none ∈ tWALL := tin2 (List.mem_of_getElem? (i := 195) (by decide +kernel)) rfl
theorem kw_155 : Cond.fieldLink RX3 32 "TowerPipers$Plan" "bits" "I" ∈ tWALL := tin1 (List.mem_of_getElem? (i := 88) (by decide +kernel)) rfl
theorem kw_156 : Cond.initialized RX3 ∈ tWALL := tin1 (List.mem_of_getElem? (i := 4) (by decide +kernel)) rfl
theorem kw_157 : Cond.code yX3_playedBits cX3_playedBits 1 (some .int) ∈ tWALL := tin2 (List.mem_of_getElem? (i := 216) (by decide +kernel)) rfl
theorem kw_158 : Cond.methodLinkNest RX3 35 yX7_within "TowerPipers" ∈ tNEST := tne3 (List.mem_of_getElem? (i := 9) (by decide +kernel)) rfl
theorem kw_159 : Cond.methodLinkNest RX3 39 yX7_hasBit "TowerPipers" ∈ tNEST := tne2 (List.mem_of_getElem? (i := 102) (by decide +kernel)) rfl
theorem kw_160 : Cond.code yX3_has cX3_has 2 (some .boolean) ∈ tWALL := tin3 (List.mem_of_getElem? (i := 8) (by decide +kernel)) rfl
theorem kw_161 : Cond.fieldLink RX3 12 "TowerPipers$Plan" "cast" "LTowerPipers$Cast;" ∈ tWALL := tin1 (List.mem_of_getElem? (i := 83) (by decide +kernel)) rfl
theorem kw_162 : Cond.methodLink RX3 43 yX1_piperOf ∈ tWALL := tin2 (List.mem_of_getElem? (i := 225) (by decide +kernel)) rfl
theorem kw_163 : Cond.instanceMethod yX1_piperOf ∈ tWALL := tin2 (List.mem_of_getElem? (i := 226) (by decide +kernel)) rfl
theorem kw_164 : Cond.selects RX1 yX1_piperOf yX1_piperOf ∈ tWALL := tin2 (List.mem_of_getElem? (i := 227) (by decide +kernel)) rfl
theorem kw_165 : Cond.code yX3_piperOf cX3_piperOf 3 (some .int) ∈ tWALL := tin2 (List.mem_of_getElem? (i := 224) (by decide +kernel)) rfl
theorem kw_166 : Cond.methodLink RX3 47 yX3_has ∈ tWALL := tin3 (List.mem_of_getElem? (i := 5) (by decide +kernel)) rfl
theorem kw_167 : Cond.instanceMethod yX3_has ∈ tWALL := tin3 (List.mem_of_getElem? (i := 6) (by decide +kernel)) rfl
theorem kw_168 : Cond.selects RX3 yX3_has yX3_has ∈ tWALL := tin3 (List.mem_of_getElem? (i := 7) (by decide +kernel)) rfl
theorem kw_169 : Cond.fieldLink RX3 22 "TowerPipers$Plan" "chosenTunes" "[I" ∈ tWALL := tin1 (List.mem_of_getElem? (i := 85) (by decide +kernel)) rfl
theorem kw_170 : Cond.code yX3_tuneOf cX3_tuneOf 2 (some .int) ∈ tWALL := tin3 (List.mem_of_getElem? (i := 4) (by decide +kernel)) rfl
theorem kw_171 : Cond.methodLink RX3 51 yX1_partsOf ∈ tWALL := tin3 (List.mem_of_getElem? (i := 67) (by decide +kernel)) rfl
theorem kw_172 : Cond.instanceMethod yX1_partsOf ∈ tWALL := tin3 (List.mem_of_getElem? (i := 68) (by decide +kernel)) rfl
theorem kw_173 : Cond.selects RX1 yX1_partsOf yX1_partsOf ∈ tWALL := tin3 (List.mem_of_getElem? (i := 69) (by decide +kernel)) rfl
theorem kw_174 : Cond.code yX3_partsOf cX3_partsOf 2 (some .int) ∈ tWALL := tin3 (List.mem_of_getElem? (i := 66) (by decide +kernel)) rfl
theorem kw_175 : Cond.methodLink RX3 85 yX0_isOnAt ∈ tWALL := tin2 (List.mem_of_getElem? (i := 112) (by decide +kernel)) rfl
theorem kw_176 : Cond.instanceMethod yX0_isOnAt ∈ tWALL := tin2 (List.mem_of_getElem? (i := 113) (by decide +kernel)) rfl
theorem kw_177 : Cond.selects RX0 yX0_isOnAt yX0_isOnAt ∈ tWALL := tin2 (List.mem_of_getElem? (i := 114) (by decide +kernel)) rfl
theorem kw_178 : Cond.methodLink RX3 88 yX0_partsWith ∈ tWALL := tin2 (List.mem_of_getElem? (i := 120) (by decide +kernel)) rfl
theorem kw_179 : Cond.instanceMethod yX0_partsWith ∈ tWALL := tin2 (List.mem_of_getElem? (i := 121) (by decide +kernel)) rfl
theorem kw_180 : Cond.selects RX0 yX0_partsWith yX0_partsWith ∈ tWALL := tin2 (List.mem_of_getElem? (i := 122) (by decide +kernel)) rfl
theorem kw_181 : Cond.code yX3_hasPiecesAt cX3_hasPiecesAt 7 (some .boolean) ∈ tWALL := tin2 (List.mem_of_getElem? (i := 111) (by decide +kernel)) rfl
theorem kw_182 : Cond.methodLink RX3 78 yX0_fact ∈ tWALL := tin2 (List.mem_of_getElem? (i := 105) (by decide +kernel)) rfl
theorem kw_183 : Cond.static yX3_hasPiecesAt ∈ tWALL := tin2 (List.mem_of_getElem? (i := 110) (by decide +kernel)) rfl
theorem kw_184 : Cond.methodLink RX3 81 yX3_hasPiecesAt ∈ tWALL := tin2 (List.mem_of_getElem? (i := 109) (by decide +kernel)) rfl
theorem kw_185 : Cond.code yX3_hasPieces cX3_hasPieces 6 (some .boolean) ∈ tWALL := tin2 (List.mem_of_getElem? (i := 101) (by decide +kernel)) rfl
theorem kw_186 : Cond.fieldLink RX3 28 "TowerPipers$Plan" "turnCount" "I" ∈ tWALL := tin1 (List.mem_of_getElem? (i := 87) (by decide +kernel)) rfl
theorem kw_187 : Cond.fieldLink RX3 18 "TowerPipers$Plan" "turns" "[I" ∈ tWALL := tin1 (List.mem_of_getElem? (i := 84) (by decide +kernel)) rfl
theorem kw_188 : Cond.code yX3_takeTurn cX3_takeTurn 2 none ∈ tWALL := tin2 (List.mem_of_getElem? (i := 191) (by decide +kernel)) rfl
theorem kw_189 : Cond.methodLink RX3 60 yX0_isOfOrder ∈ tWALL := tin2 (List.mem_of_getElem? (i := 94) (by decide +kernel)) rfl
theorem kw_190 : Cond.instanceMethod yX0_isOfOrder ∈ tWALL := tin2 (List.mem_of_getElem? (i := 95) (by decide +kernel)) rfl
theorem kw_191 : Cond.selects RX0 yX0_isOfOrder yX0_isOfOrder ∈ tWALL := tin2 (List.mem_of_getElem? (i := 96) (by decide +kernel)) rfl
theorem kw_192 : Cond.methodLink RX3 63 yX3_hasPieces ∈ tWALL := tin2 (List.mem_of_getElem? (i := 98) (by decide +kernel)) rfl
theorem kw_193 : Cond.instanceMethod yX3_hasPieces ∈ tWALL := tin2 (List.mem_of_getElem? (i := 100) (by decide +kernel)) rfl
theorem kw_194 : Cond.selects RX3 yX3_hasPieces yX3_hasPieces ∈ tWALL := tin0 (List.mem_of_getElem? (i := 4) (by decide +kernel)) rfl
theorem kw_195 : Cond.methodLink RX3 67 yX1_admit ∈ tWALL := tin2 (List.mem_of_getElem? (i := 124) (by decide +kernel)) rfl
theorem kw_196 : Cond.instanceMethod yX1_admit ∈ tWALL := tin2 (List.mem_of_getElem? (i := 125) (by decide +kernel)) rfl
theorem kw_197 : Cond.selects RX1 yX1_admit yX1_admit ∈ tWALL := tin2 (List.mem_of_getElem? (i := 126) (by decide +kernel)) rfl
theorem kw_198 : Cond.methodLink RX3 71 yX3_takeTurn ∈ tWALL := tin2 (List.mem_of_getElem? (i := 188) (by decide +kernel)) rfl
theorem kw_199 : Cond.instanceMethod yX3_takeTurn ∈ tWALL := tin2 (List.mem_of_getElem? (i := 190) (by decide +kernel)) rfl
theorem kw_200 : Cond.selects RX3 yX3_takeTurn yX3_takeTurn ∈ tWALL := tin0 (List.mem_of_getElem? (i := 14) (by decide +kernel)) rfl
theorem kw_201 : Cond.methodLink RX3 75 yX1_lowerAll ∈ tWALL := tin2 (List.mem_of_getElem? (i := 192) (by decide +kernel)) rfl
theorem kw_202 : Cond.instanceMethod yX1_lowerAll ∈ tWALL := tin2 (List.mem_of_getElem? (i := 193) (by decide +kernel)) rfl
theorem kw_203 : Cond.selects RX1 yX1_lowerAll yX1_lowerAll ∈ tWALL := tin2 (List.mem_of_getElem? (i := 194) (by decide +kernel)) rfl
theorem kw_204 : Cond.methodLink RX3 55 yX1_clear ∈ tWALL := tin2 (List.mem_of_getElem? (i := 87) (by decide +kernel)) rfl
theorem kw_205 : Cond.instanceMethod yX1_clear ∈ tWALL := tin2 (List.mem_of_getElem? (i := 88) (by decide +kernel)) rfl
theorem kw_206 : Cond.selects RX1 yX1_clear yX1_clear ∈ tWALL := tin2 (List.mem_of_getElem? (i := 89) (by decide +kernel)) rfl
theorem kw_207 : Cond.code yX3_castCalls cX3_castCalls 7 none ∈ tWALL := tin2 (List.mem_of_getElem? (i := 86) (by decide +kernel)) rfl
theorem kw_208 : Cond.methodLink RX3 100 yX6_fits ∈ tWALL := tin2 (List.mem_of_getElem? (i := 208) (by decide +kernel)) rfl
theorem kw_209 : Cond.instanceMethod yX6_fits ∈ tWALL := tin2 (List.mem_of_getElem? (i := 209) (by decide +kernel)) rfl
theorem kw_210 : Cond.selects RX6 yX6_fits yX6_fits ∈ tWALL := tin2 (List.mem_of_getElem? (i := 210) (by decide +kernel)) rfl
theorem kw_211 : Cond.fieldLink RX3 25 "TowerPipers$Plan" "lastTurns" "[I" ∈ tWALL := tin1 (List.mem_of_getElem? (i := 86) (by decide +kernel)) rfl
theorem kw_212 : Cond.code yX3_longestUnheard cX3_longestUnheard 6 (some .int) ∈ tWALL := tin2 (List.mem_of_getElem? (i := 207) (by decide +kernel)) rfl
theorem kw_213 : Cond.methodLink RX3 96 yX3_longestUnheard ∈ tWALL := tin2 (List.mem_of_getElem? (i := 204) (by decide +kernel)) rfl
theorem kw_214 : Cond.instanceMethod yX3_longestUnheard ∈ tWALL := tin2 (List.mem_of_getElem? (i := 206) (by decide +kernel)) rfl
theorem kw_215 : Cond.selects RX3 yX3_longestUnheard yX3_longestUnheard ∈ tWALL := tin0 (List.mem_of_getElem? (i := 16) (by decide +kernel)) rfl
theorem kw_216 : Cond.fieldLinkNest RX3 91 "TowerPipers$Tune" "lastTurn" "I" "TowerPipers" ∈ tNEST := tne1 (List.mem_of_getElem? (i := 145) (by decide +kernel)) rfl
theorem kw_217 : Cond.code yX3_chooseTunes cX3_chooseTunes 8 none ∈ tWALL := tin2 (List.mem_of_getElem? (i := 203) (by decide +kernel)) rfl
theorem kw_218 : Cond.code yX3_hearTunes cX3_hearTunes 3 none ∈ tWALL := tin3 (List.mem_of_getElem? (i := 47) (by decide +kernel)) rfl
theorem kw_219 : Cond.fieldLink RX7 10 "TowerPipers" "tape" "LTowerPipers$Tape;" ∈ tWALL := tin1 (List.mem_of_getElem? (i := 153) (by decide +kernel)) rfl
theorem kw_220 : Cond.methodLink RX7 75 yX4_hasRoom ∈ tWALL := tin1 (List.mem_of_getElem? (i := 197) (by decide +kernel)) rfl
theorem kw_221 : Cond.instanceMethod yX4_hasRoom ∈ tWALL := tin1 (List.mem_of_getElem? (i := 198) (by decide +kernel)) rfl
theorem kw_222 : Cond.selects RX4 yX4_hasRoom yX4_hasRoom ∈ tWALL := tin1 (List.mem_of_getElem? (i := 199) (by decide +kernel)) rfl
theorem kw_223 : Cond.methodLink RX7 79 yX4_put ∈ tWALL := tin1 (List.mem_of_getElem? (i := 201) (by decide +kernel)) rfl
theorem kw_224 : Cond.instanceMethod yX4_put ∈ tWALL := tin1 (List.mem_of_getElem? (i := 202) (by decide +kernel)) rfl
theorem kw_225 : Cond.selects RX4 yX4_put yX4_put ∈ tWALL := tin1 (List.mem_of_getElem? (i := 203) (by decide +kernel)) rfl
theorem kw_226 : Cond.methodLink RX7 83 yX4_size ∈ tWALL := tin1 (List.mem_of_getElem? (i := 205) (by decide +kernel)) rfl
theorem kw_227 : Cond.instanceMethod yX4_size ∈ tWALL := tin1 (List.mem_of_getElem? (i := 206) (by decide +kernel)) rfl
theorem kw_228 : Cond.selects RX4 yX4_size yX4_size ∈ tWALL := tin1 (List.mem_of_getElem? (i := 207) (by decide +kernel)) rfl
theorem kw_229 : Cond.code yX7_feed cX7_feed 6 (some .int) ∈ tWALL := tin1 (List.mem_of_getElem? (i := 196) (by decide +kernel)) rfl
theorem kw_230 : Cond.fieldLink RX7 19 "TowerPipers" "townWord" "LTowerPipers$TownWord;" ∈ tWALL := tin1 (List.mem_of_getElem? (i := 154) (by decide +kernel)) rfl
theorem kw_231 : Cond.methodLink RX7 87 yX5_read ∈ tWALL := tin1 (List.mem_of_getElem? (i := 213) (by decide +kernel)) rfl
theorem kw_232 : Cond.instanceMethod yX5_read ∈ tWALL := tin1 (List.mem_of_getElem? (i := 214) (by decide +kernel)) rfl
theorem kw_233 : Cond.selects RX5 yX5_read yX5_read ∈ tWALL := tin1 (List.mem_of_getElem? (i := 215) (by decide +kernel)) rfl
theorem kw_234 : Cond.methodLink RX7 91 yX4_empty ∈ tWALL := tin2 (List.mem_of_getElem? (i := 9) (by decide +kernel)) rfl
theorem kw_235 : Cond.instanceMethod yX4_empty ∈ tWALL := tin2 (List.mem_of_getElem? (i := 10) (by decide +kernel)) rfl
theorem kw_236 : Cond.selects RX4 yX4_empty yX4_empty ∈ tWALL := tin2 (List.mem_of_getElem? (i := 11) (by decide +kernel)) rfl
theorem kw_237 : Cond.fieldLink RX7 68 "TowerPipers" "planned" "Z" ∈ tWALL := tin1 (List.mem_of_getElem? (i := 165) (by decide +kernel)) rfl
theorem kw_238 : Cond.code yX7_word cX7_word 3 (some .int) ∈ tWALL := tin1 (List.mem_of_getElem? (i := 212) (by decide +kernel)) rfl
theorem kw_239 : Cond.fieldLink RX7 55 "TowerPipers" "piperCount" "I" ∈ tWALL := tin1 (List.mem_of_getElem? (i := 161) (by decide +kernel)) rfl
theorem kw_240 : Cond.methodLink RX7 94 yX7_within ∈ tWALL := tin2 (List.mem_of_getElem? (i := 17) (by decide +kernel)) rfl
theorem kw_241 : Cond.fieldLink RX7 25 "TowerPipers" "pipers" "[LTowerPipers$Piper;" ∈ tWALL := tin1 (List.mem_of_getElem? (i := 155) (by decide +kernel)) rfl
theorem kw_242 : Cond.methodLink RX7 98 yX2_join ∈ tWALL := tin2 (List.mem_of_getElem? (i := 18) (by decide +kernel)) rfl
theorem kw_243 : Cond.instanceMethod yX2_join ∈ tWALL := tin2 (List.mem_of_getElem? (i := 19) (by decide +kernel)) rfl
theorem kw_244 : Cond.selects RX2 yX2_join yX2_join ∈ tWALL := tin2 (List.mem_of_getElem? (i := 20) (by decide +kernel)) rfl
theorem kw_245 : Cond.code yX7_piper cX7_piper 4 (some .int) ∈ tWALL := tin2 (List.mem_of_getElem? (i := 16) (by decide +kernel)) rfl
theorem kw_246 : Cond.code yX7_isPiper cX7_isPiper 2 (some .boolean) ∈ tWALL := tin2 (List.mem_of_getElem? (i := 29) (by decide +kernel)) rfl
theorem kw_247 : Cond.methodLink RX7 102 yX7_isPiper ∈ tWALL := tin2 (List.mem_of_getElem? (i := 26) (by decide +kernel)) rfl
theorem kw_248 : Cond.instanceMethod yX7_isPiper ∈ tWALL := tin2 (List.mem_of_getElem? (i := 28) (by decide +kernel)) rfl
theorem kw_249 : Cond.selects RX7 yX7_isPiper yX7_isPiper ∈ tWALL := tin0 (List.mem_of_getElem? (i := 0) (by decide +kernel)) rfl
theorem kw_250 : Cond.fieldLinkNest RX7 106 "TowerPipers$Piper" "state" "I" "TowerPipers" ∈ tNEST := tne1 (List.mem_of_getElem? (i := 112) (by decide +kernel)) rfl
theorem kw_251 : Cond.code yX7_ill cX7_ill 4 (some .boolean) ∈ tWALL := tin2 (List.mem_of_getElem? (i := 25) (by decide +kernel)) rfl
theorem kw_252 : Cond.code yX7_old cX7_old 2 (some .boolean) ∈ tWALL := tin2 (List.mem_of_getElem? (i := 33) (by decide +kernel)) rfl
theorem kw_253 : Cond.fieldLink RX7 41 "TowerPipers" "piecesOf" "[I" ∈ tWALL := tin1 (List.mem_of_getElem? (i := 158) (by decide +kernel)) rfl
theorem kw_254 : Cond.code yX7_pieces cX7_pieces 3 (some .boolean) ∈ tWALL := tin2 (List.mem_of_getElem? (i := 37) (by decide +kernel)) rfl
theorem kw_255 : Cond.fieldLink RX7 31 "TowerPipers" "calls" "[LTowerPipers$Call;" ∈ tWALL := tin1 (List.mem_of_getElem? (i := 156) (by decide +kernel)) rfl
theorem kw_256 : Cond.fieldLinkNest RX7 203 "TowerPipers$Call" "there" "Z" "TowerPipers" ∈ tNEST := tne1 (List.mem_of_getElem? (i := 131) (by decide +kernel)) rfl
theorem kw_257 : Cond.code yX7_freeCall cX7_freeCall 2 (some .int) ∈ tWALL := tin2 (List.mem_of_getElem? (i := 45) (by decide +kernel)) rfl
theorem kw_258 : Cond.fieldLink RX7 45 "TowerPipers" "asked" "[I" ∈ tWALL := tin1 (List.mem_of_getElem? (i := 159) (by decide +kernel)) rfl
theorem kw_259 : Cond.methodLink RX7 109 yX7_freeCall ∈ tWALL := tin2 (List.mem_of_getElem? (i := 42) (by decide +kernel)) rfl
theorem kw_260 : Cond.instanceMethod yX7_freeCall ∈ tWALL := tin2 (List.mem_of_getElem? (i := 44) (by decide +kernel)) rfl
theorem kw_261 : Cond.selects RX7 yX7_freeCall yX7_freeCall ∈ tWALL := tin0 (List.mem_of_getElem? (i := 1) (by decide +kernel)) rfl
theorem kw_262 : Cond.static yX0_canBe ∈ tWALL := tin2 (List.mem_of_getElem? (i := 47) (by decide +kernel)) rfl
theorem kw_263 : Cond.methodLink RX7 112 yX0_canBe ∈ tWALL := tin2 (List.mem_of_getElem? (i := 46) (by decide +kernel)) rfl
theorem kw_264 : Cond.methodLink RX7 116 yX0_come ∈ tWALL := tin2 (List.mem_of_getElem? (i := 54) (by decide +kernel)) rfl
theorem kw_265 : Cond.instanceMethod yX0_come ∈ tWALL := tin2 (List.mem_of_getElem? (i := 55) (by decide +kernel)) rfl
theorem kw_266 : Cond.selects RX0 yX0_come yX0_come ∈ tWALL := tin2 (List.mem_of_getElem? (i := 56) (by decide +kernel)) rfl
theorem kw_267 : Cond.code yX7_call cX7_call 10 (some .int) ∈ tWALL := tin2 (List.mem_of_getElem? (i := 41) (by decide +kernel)) rfl
theorem kw_268 : Cond.code yX7_isCall cX7_isCall 2 (some .boolean) ∈ tWALL := tin2 (List.mem_of_getElem? (i := 66) (by decide +kernel)) rfl
theorem kw_269 : Cond.methodLink RX7 120 yX7_isCall ∈ tWALL := tin2 (List.mem_of_getElem? (i := 63) (by decide +kernel)) rfl
theorem kw_270 : Cond.instanceMethod yX7_isCall ∈ tWALL := tin2 (List.mem_of_getElem? (i := 65) (by decide +kernel)) rfl
theorem kw_271 : Cond.selects RX7 yX7_isCall yX7_isCall ∈ tWALL := tin0 (List.mem_of_getElem? (i := 2) (by decide +kernel)) rfl
theorem kw_272 : Cond.methodLink RX7 123 yX0_go ∈ tWALL := tin2 (List.mem_of_getElem? (i := 67) (by decide +kernel)) rfl
theorem kw_273 : Cond.instanceMethod yX0_go ∈ tWALL := tin2 (List.mem_of_getElem? (i := 68) (by decide +kernel)) rfl
theorem kw_274 : Cond.selects RX0 yX0_go yX0_go ∈ tWALL := tin2 (List.mem_of_getElem? (i := 69) (by decide +kernel)) rfl
theorem kw_275 : Cond.code yX7_off cX7_off 2 (some .boolean) ∈ tWALL := tin2 (List.mem_of_getElem? (i := 62) (by decide +kernel)) rfl
theorem kw_276 : Cond.fieldLink RX7 62 "TowerPipers" "today" "I" ∈ tWALL := tin1 (List.mem_of_getElem? (i := 163) (by decide +kernel)) rfl
theorem kw_277 : Cond.code yX7_monthOfToday cX7_monthOfToday 1 (some .int) ∈ tWALL := tin2 (List.mem_of_getElem? (i := 199) (by decide +kernel)) rfl
theorem kw_278 : Cond.fieldLink RX7 51 "TowerPipers" "plan" "LTowerPipers$Plan;" ∈ tWALL := tin1 (List.mem_of_getElem? (i := 160) (by decide +kernel)) rfl
theorem kw_279 : Cond.methodLink RX7 171 yX5_number ∈ tWALL := tin2 (List.mem_of_getElem? (i := 79) (by decide +kernel)) rfl
theorem kw_280 : Cond.instanceMethod yX5_number ∈ tWALL := tin2 (List.mem_of_getElem? (i := 80) (by decide +kernel)) rfl
theorem kw_281 : Cond.selects RX5 yX5_number yX5_number ∈ tWALL := tin2 (List.mem_of_getElem? (i := 81) (by decide +kernel)) rfl
theorem kw_282 : Cond.methodLink RX7 206 yX3_castCalls ∈ tWALL := tin2 (List.mem_of_getElem? (i := 83) (by decide +kernel)) rfl
theorem kw_283 : Cond.instanceMethod yX3_castCalls ∈ tWALL := tin2 (List.mem_of_getElem? (i := 84) (by decide +kernel)) rfl
theorem kw_284 : Cond.selects RX3 yX3_castCalls yX3_castCalls ∈ tWALL := tin2 (List.mem_of_getElem? (i := 85) (by decide +kernel)) rfl
theorem kw_285 : Cond.fieldLink RX7 37 "TowerPipers" "tunes" "[LTowerPipers$Tune;" ∈ tWALL := tin1 (List.mem_of_getElem? (i := 157) (by decide +kernel)) rfl
theorem kw_286 : Cond.methodLink RX7 197 yX7_monthOfToday ∈ tWALL := tin2 (List.mem_of_getElem? (i := 196) (by decide +kernel)) rfl
theorem kw_287 : Cond.instanceMethod yX7_monthOfToday ∈ tWALL := tin2 (List.mem_of_getElem? (i := 198) (by decide +kernel)) rfl
theorem kw_288 : Cond.selects RX7 yX7_monthOfToday yX7_monthOfToday ∈ tWALL := tin0 (List.mem_of_getElem? (i := 15) (by decide +kernel)) rfl
theorem kw_289 : Cond.methodLink RX7 210 yX3_chooseTunes ∈ tWALL := tin2 (List.mem_of_getElem? (i := 200) (by decide +kernel)) rfl
theorem kw_290 : Cond.instanceMethod yX3_chooseTunes ∈ tWALL := tin2 (List.mem_of_getElem? (i := 201) (by decide +kernel)) rfl
theorem kw_291 : Cond.selects RX3 yX3_chooseTunes yX3_chooseTunes ∈ tWALL := tin2 (List.mem_of_getElem? (i := 202) (by decide +kernel)) rfl
theorem kw_292 : Cond.code yX7_planOfToday cX7_planOfToday 1 (some (.object "TowerPipers$Plan")) ∈ tWALL := tin2 (List.mem_of_getElem? (i := 78) (by decide +kernel)) rfl
theorem kw_293 : Cond.methodLink RX7 126 yX7_planOfToday ∈ tWALL := tin2 (List.mem_of_getElem? (i := 75) (by decide +kernel)) rfl
theorem kw_294 : Cond.instanceMethod yX7_planOfToday ∈ tWALL := tin2 (List.mem_of_getElem? (i := 77) (by decide +kernel)) rfl
theorem kw_295 : Cond.selects RX7 yX7_planOfToday yX7_planOfToday ∈ tWALL := tin0 (List.mem_of_getElem? (i := 3) (by decide +kernel)) rfl
theorem kw_296 : Cond.methodLink RX7 130 yX3_playedBits ∈ tWALL := tin2 (List.mem_of_getElem? (i := 213) (by decide +kernel)) rfl
theorem kw_297 : Cond.instanceMethod yX3_playedBits ∈ tWALL := tin2 (List.mem_of_getElem? (i := 214) (by decide +kernel)) rfl
theorem kw_298 : Cond.selects RX3 yX3_playedBits yX3_playedBits ∈ tWALL := tin2 (List.mem_of_getElem? (i := 215) (by decide +kernel)) rfl
theorem kw_299 : Cond.code yX7_played cX7_played 1 (some .int) ∈ tWALL := tin2 (List.mem_of_getElem? (i := 74) (by decide +kernel)) rfl
theorem kw_300 : Cond.methodLink RX7 133 yX3_piperOf ∈ tWALL := tin2 (List.mem_of_getElem? (i := 221) (by decide +kernel)) rfl
theorem kw_301 : Cond.instanceMethod yX3_piperOf ∈ tWALL := tin2 (List.mem_of_getElem? (i := 222) (by decide +kernel)) rfl
theorem kw_302 : Cond.selects RX3 yX3_piperOf yX3_piperOf ∈ tWALL := tin2 (List.mem_of_getElem? (i := 223) (by decide +kernel)) rfl
theorem kw_303 : Cond.code yX7_who cX7_who 3 (some .int) ∈ tWALL := tin2 (List.mem_of_getElem? (i := 220) (by decide +kernel)) rfl
theorem kw_304 : Cond.fieldLink RX7 59 "TowerPipers" "tuneCount" "I" ∈ tWALL := tin1 (List.mem_of_getElem? (i := 162) (by decide +kernel)) rfl
theorem kw_305 : Cond.methodLink RX7 137 yX6_learn ∈ tWALL := tin2 (List.mem_of_getElem? (i := 233) (by decide +kernel)) rfl
theorem kw_306 : Cond.instanceMethod yX6_learn ∈ tWALL := tin2 (List.mem_of_getElem? (i := 234) (by decide +kernel)) rfl
theorem kw_307 : Cond.selects RX6 yX6_learn yX6_learn ∈ tWALL := tin2 (List.mem_of_getElem? (i := 235) (by decide +kernel)) rfl
theorem kw_308 : Cond.code yX7_tune cX7_tune 4 (some .int) ∈ tWALL := tin2 (List.mem_of_getElem? (i := 232) (by decide +kernel)) rfl
theorem kw_309 : Cond.methodLink RX7 140 yX3_tuneOf ∈ tWALL := tin3 (List.mem_of_getElem? (i := 1) (by decide +kernel)) rfl
theorem kw_310 : Cond.instanceMethod yX3_tuneOf ∈ tWALL := tin3 (List.mem_of_getElem? (i := 2) (by decide +kernel)) rfl
theorem kw_311 : Cond.selects RX3 yX3_tuneOf yX3_tuneOf ∈ tWALL := tin3 (List.mem_of_getElem? (i := 3) (by decide +kernel)) rfl
theorem kw_312 : Cond.code yX7_heard cX7_heard 2 (some .int) ∈ tWALL := tin3 (List.mem_of_getElem? (i := 0) (by decide +kernel)) rfl
theorem kw_313 : Cond.methodLink RX7 191 yX0_fact ∈ tWALL := tin3 (List.mem_of_getElem? (i := 19) (by decide +kernel)) rfl
theorem kw_314 : Cond.code yX7_fundShare cX7_fundShare 2 (some .int) ∈ tWALL := tin3 (List.mem_of_getElem? (i := 18) (by decide +kernel)) rfl
theorem kw_315 : Cond.fieldLinkNest RX7 179 "TowerPipers$Piper" "rank" "I" "TowerPipers" ∈ tNEST := tne1 (List.mem_of_getElem? (i := 108) (by decide +kernel)) rfl
theorem kw_316 : Cond.methodLink RX7 218 Lib.Math.max.name ∈ tWALL := tin3 (List.mem_of_getElem? (i := 28) (by decide +kernel)) rfl
theorem kw_317 : Cond.static Lib.Math.max.name ∈ tWALL := tin3 (List.mem_of_getElem? (i := 29) (by decide +kernel)) rfl
theorem kw_318 : Cond.code Lib.Math.max.name Lib.Math.max.code 2 (some .int) ∈ tWALL := tin3 (List.mem_of_getElem? (i := 30) (by decide +kernel)) rfl
theorem kw_319 : Cond.code yX7_partOfTwo cX7_partOfTwo 9 (some .int) ∈ tWALL := tin3 (List.mem_of_getElem? (i := 27) (by decide +kernel)) rfl
theorem kw_320 : Cond.methodLink RX7 147 yX7_fundShare ∈ tWALL := tin3 (List.mem_of_getElem? (i := 15) (by decide +kernel)) rfl
theorem kw_321 : Cond.instanceMethod yX7_fundShare ∈ tWALL := tin3 (List.mem_of_getElem? (i := 17) (by decide +kernel)) rfl
theorem kw_322 : Cond.selects RX7 yX7_fundShare yX7_fundShare ∈ tWALL := tin0 (List.mem_of_getElem? (i := 17) (by decide +kernel)) rfl
theorem kw_323 : Cond.methodLink RX7 214 yX7_partOfTwo ∈ tWALL := tin3 (List.mem_of_getElem? (i := 24) (by decide +kernel)) rfl
theorem kw_324 : Cond.instanceMethod yX7_partOfTwo ∈ tWALL := tin3 (List.mem_of_getElem? (i := 26) (by decide +kernel)) rfl
theorem kw_325 : Cond.selects RX7 yX7_partOfTwo yX7_partOfTwo ∈ tWALL := tin0 (List.mem_of_getElem? (i := 19) (by decide +kernel)) rfl
theorem kw_326 : Cond.code yX7_piperShare cX7_piperShare 7 (some .int) ∈ tWALL := tin3 (List.mem_of_getElem? (i := 23) (by decide +kernel)) rfl
theorem kw_327 : Cond.methodLink RX7 144 yX3_has ∈ tWALL := tin3 (List.mem_of_getElem? (i := 14) (by decide +kernel)) rfl
theorem kw_328 : Cond.methodLink RX7 150 yX7_piperShare ∈ tWALL := tin3 (List.mem_of_getElem? (i := 20) (by decide +kernel)) rfl
theorem kw_329 : Cond.instanceMethod yX7_piperShare ∈ tWALL := tin3 (List.mem_of_getElem? (i := 22) (by decide +kernel)) rfl
theorem kw_330 : Cond.selects RX7 yX7_piperShare yX7_piperShare ∈ tWALL := tin0 (List.mem_of_getElem? (i := 18) (by decide +kernel)) rfl
theorem kw_331 : Cond.code yX7_share cX7_share 4 (some .int) ∈ tWALL := tin3 (List.mem_of_getElem? (i := 13) (by decide +kernel)) rfl
theorem kw_332 : Cond.fieldLink RX7 65 "TowerPipers" "fund" "I" ∈ tWALL := tin1 (List.mem_of_getElem? (i := 164) (by decide +kernel)) rfl
theorem kw_333 : Cond.fieldLinkNest RX7 188 "TowerPipers$Piper" "wages" "I" "TowerPipers" ∈ tNEST := tne1 (List.mem_of_getElem? (i := 114) (by decide +kernel)) rfl
theorem kw_334 : Cond.code yX7_settle cX7_settle 4 none ∈ tWALL := tin3 (List.mem_of_getElem? (i := 38) (by decide +kernel)) rfl
theorem kw_335 : Cond.code yX7_fineTheWell cX7_fineTheWell 3 none ∈ tWALL := tin3 (List.mem_of_getElem? (i := 43) (by decide +kernel)) rfl
theorem kw_336 : Cond.methodLink RX7 174 Lib.Math.min.name ∈ tWALL := tin3 (List.mem_of_getElem? (i := 52) (by decide +kernel)) rfl
theorem kw_337 : Cond.static Lib.Math.min.name ∈ tWALL := tin3 (List.mem_of_getElem? (i := 53) (by decide +kernel)) rfl
theorem kw_338 : Cond.code Lib.Math.min.name Lib.Math.min.code 2 (some .int) ∈ tWALL := tin3 (List.mem_of_getElem? (i := 54) (by decide +kernel)) rfl
theorem kw_339 : Cond.code yX7_payTheOld cX7_payTheOld 3 none ∈ tWALL := tin3 (List.mem_of_getElem? (i := 51) (by decide +kernel)) rfl
theorem kw_340 : Cond.methodLink RX7 168 yX7_payTheOld ∈ tWALL := tin3 (List.mem_of_getElem? (i := 48) (by decide +kernel)) rfl
theorem kw_341 : Cond.instanceMethod yX7_payTheOld ∈ tWALL := tin3 (List.mem_of_getElem? (i := 50) (by decide +kernel)) rfl
theorem kw_342 : Cond.selects RX7 yX7_payTheOld yX7_payTheOld ∈ tWALL := tin0 (List.mem_of_getElem? (i := 22) (by decide +kernel)) rfl
theorem kw_343 : Cond.methodLink RX7 164 yX3_hearTunes ∈ tWALL := tin3 (List.mem_of_getElem? (i := 44) (by decide +kernel)) rfl
theorem kw_344 : Cond.instanceMethod yX3_hearTunes ∈ tWALL := tin3 (List.mem_of_getElem? (i := 45) (by decide +kernel)) rfl
theorem kw_345 : Cond.selects RX3 yX3_hearTunes yX3_hearTunes ∈ tWALL := tin3 (List.mem_of_getElem? (i := 46) (by decide +kernel)) rfl
theorem kw_346 : Cond.methodLink RX7 158 yX0_isOfOrder ∈ tWALL := tin3 (List.mem_of_getElem? (i := 39) (by decide +kernel)) rfl
theorem kw_347 : Cond.methodLink RX7 161 yX7_fineTheWell ∈ tWALL := tin3 (List.mem_of_getElem? (i := 40) (by decide +kernel)) rfl
theorem kw_348 : Cond.instanceMethod yX7_fineTheWell ∈ tWALL := tin3 (List.mem_of_getElem? (i := 42) (by decide +kernel)) rfl
theorem kw_349 : Cond.selects RX7 yX7_fineTheWell yX7_fineTheWell ∈ tWALL := tin0 (List.mem_of_getElem? (i := 21) (by decide +kernel)) rfl
theorem kw_350 : Cond.methodLink RX7 154 yX7_settle ∈ tWALL := tin3 (List.mem_of_getElem? (i := 35) (by decide +kernel)) rfl
theorem kw_351 : Cond.instanceMethod yX7_settle ∈ tWALL := tin3 (List.mem_of_getElem? (i := 37) (by decide +kernel)) rfl
theorem kw_352 : Cond.selects RX7 yX7_settle yX7_settle ∈ tWALL := tin0 (List.mem_of_getElem? (i := 20) (by decide +kernel)) rfl
theorem kw_353 : Cond.code yX7_day cX7_day 3 (some .int) ∈ tWALL := tin3 (List.mem_of_getElem? (i := 34) (by decide +kernel)) rfl
theorem kw_354 : Cond.code yX7_lasts cX7_lasts 3 (some .int) ∈ tWALL := tin3 (List.mem_of_getElem? (i := 58) (by decide +kernel)) rfl
theorem kw_355 : Cond.fieldLinkNest RX7 182 "TowerPipers$Piper" "plays" "I" "TowerPipers" ∈ tNEST := tne1 (List.mem_of_getElem? (i := 110) (by decide +kernel)) rfl
theorem kw_356 : Cond.methodLink RX7 185 yX3_partsOf ∈ tWALL := tin3 (List.mem_of_getElem? (i := 63) (by decide +kernel)) rfl
theorem kw_357 : Cond.instanceMethod yX3_partsOf ∈ tWALL := tin3 (List.mem_of_getElem? (i := 64) (by decide +kernel)) rfl
theorem kw_358 : Cond.selects RX3 yX3_partsOf yX3_partsOf ∈ tWALL := tin3 (List.mem_of_getElem? (i := 65) (by decide +kernel)) rfl
theorem kw_359 : Cond.code yX7_look cX7_look 3 (some .int) ∈ tWALL := tin3 (List.mem_of_getElem? (i := 62) (by decide +kernel)) rfl
theorem kw_360 : Cond.code yX7_wages cX7_wages 2 (some .int) ∈ tWALL := tin3 (List.mem_of_getElem? (i := 74) (by decide +kernel)) rfl
theorem kw_361 : Cond.code yX7_about cX7_about 3 (some .int) ∈ tWALL := tin3 (List.mem_of_getElem? (i := 78) (by decide +kernel)) rfl
theorem kw_362 : Cond.code yX7_callCount cX7_callCount 3 (some .int) ∈ tWALL := tin3 (List.mem_of_getElem? (i := 90) (by decide +kernel)) rfl
theorem kw_363 : Cond.methodLink RX7 200 yX7_callCount ∈ tWALL := tin3 (List.mem_of_getElem? (i := 87) (by decide +kernel)) rfl
theorem kw_364 : Cond.instanceMethod yX7_callCount ∈ tWALL := tin3 (List.mem_of_getElem? (i := 89) (by decide +kernel)) rfl
theorem kw_365 : Cond.selects RX7 yX7_callCount yX7_callCount ∈ tWALL := tin0 (List.mem_of_getElem? (i := 23) (by decide +kernel)) rfl
theorem kw_366 : Cond.methodLink RX7 194 yX6_dayHeard ∈ tWALL := tin3 (List.mem_of_getElem? (i := 83) (by decide +kernel)) rfl
theorem kw_367 : Cond.instanceMethod yX6_dayHeard ∈ tWALL := tin3 (List.mem_of_getElem? (i := 84) (by decide +kernel)) rfl
theorem kw_368 : Cond.selects RX6 yX6_dayHeard yX6_dayHeard ∈ tWALL := tin3 (List.mem_of_getElem? (i := 85) (by decide +kernel)) rfl
theorem kw_369 : Cond.code yX7_count cX7_count 2 (some .int) ∈ tWALL := tin3 (List.mem_of_getElem? (i := 82) (by decide +kernel)) rfl
theorem kw_370 : Cond.initialized RX8 ∈ tWALL := tin1 (List.mem_of_getElem? (i := 9) (by decide +kernel)) rfl
theorem kw_371 : Cond.code yX8_lies cX8_lies 3 (some .boolean) ∈ tWALL := tin3 (List.mem_of_getElem? (i := 214) (by decide +kernel)) rfl
theorem kw_372 : Cond.code yX8_has cX8_has 2 (some .boolean) ∈ tWALL := tin4 (List.mem_of_getElem? (i := 39) (by decide +kernel)) rfl
theorem kw_373 : Cond.fieldLink RX8 7 "TowerPipersModel" "tape" "[B" ∈ tWALL := tin3 (List.mem_of_getElem? (i := 100) (by decide +kernel)) rfl
theorem kw_374 : Cond.fieldLink RX8 75 "TowerPipersModel" "taped" "I" ∈ tWALL := tin3 (List.mem_of_getElem? (i := 101) (by decide +kernel)) rfl
theorem kw_375 : Cond.code yX8_push cX8_push 3 none ∈ tWALL := tin3 (List.mem_of_getElem? (i := 196) (by decide +kernel)) rfl
theorem kw_376 : Cond.methodLink RX8 79 yX8_push ∈ tWALL := tin3 (List.mem_of_getElem? (i := 193) (by decide +kernel)) rfl
theorem kw_377 : Cond.instanceMethod yX8_push ∈ tWALL := tin3 (List.mem_of_getElem? (i := 195) (by decide +kernel)) rfl
theorem kw_378 : Cond.selects RX8 yX8_push yX8_push ∈ tWALL := tin0 (List.mem_of_getElem? (i := 24) (by decide +kernel)) rfl
theorem kw_379 : Cond.code yX8_feed cX8_feed 6 (some .int) ∈ tWALL := tin3 (List.mem_of_getElem? (i := 192) (by decide +kernel)) rfl
theorem kw_380 : Cond.code yX8_asAtFirst cX8_asAtFirst 1 none ∈ tWALL := tin3 (List.mem_of_getElem? (i := 99) (by decide +kernel)) rfl
theorem kw_381 : Cond.code yX8_letter cX8_letter 1 (some .int) ∈ tWALL := tin3 (List.mem_of_getElem? (i := 211) (by decide +kernel)) rfl
theorem kw_382 : Cond.code yX8_canBe cX8_canBe 2 (some .boolean) ∈ tWALL := tin3 (List.mem_of_getElem? (i := 217) (by decide +kernel)) rfl
theorem kw_383 : Cond.code yX8_at cX8_at 3 (some .int) ∈ tWALL := tin3 (List.mem_of_getElem? (i := 208) (by decide +kernel)) rfl
theorem kw_384 : Cond.static yX8_canBe ∈ tWALL := tin3 (List.mem_of_getElem? (i := 216) (by decide +kernel)) rfl
theorem kw_385 : Cond.methodLink RX8 95 yX8_canBe ∈ tWALL := tin3 (List.mem_of_getElem? (i := 215) (by decide +kernel)) rfl
theorem kw_386 : Cond.fieldLink RX8 17 "TowerPipersModel" "read" "[I" ∈ tWALL := tin3 (List.mem_of_getElem? (i := 108) (by decide +kernel)) rfl
theorem kw_387 : Cond.methodLink RX8 83 yX8_at ∈ tWALL := tin3 (List.mem_of_getElem? (i := 205) (by decide +kernel)) rfl
theorem kw_388 : Cond.instanceMethod yX8_at ∈ tWALL := tin3 (List.mem_of_getElem? (i := 207) (by decide +kernel)) rfl
theorem kw_389 : Cond.selects RX8 yX8_at yX8_at ∈ tWALL := tin0 (List.mem_of_getElem? (i := 26) (by decide +kernel)) rfl
theorem kw_390 : Cond.static yX8_lies ∈ tWALL := tin3 (List.mem_of_getElem? (i := 213) (by decide +kernel)) rfl
theorem kw_391 : Cond.methodLink RX8 91 yX8_lies ∈ tWALL := tin3 (List.mem_of_getElem? (i := 212) (by decide +kernel)) rfl
theorem kw_392 : Cond.static yX8_letter ∈ tWALL := tin3 (List.mem_of_getElem? (i := 210) (by decide +kernel)) rfl
theorem kw_393 : Cond.methodLink RX8 87 yX8_letter ∈ tWALL := tin3 (List.mem_of_getElem? (i := 209) (by decide +kernel)) rfl
theorem kw_394 : Cond.static yX8_asAtFirst ∈ tWALL := tin3 (List.mem_of_getElem? (i := 98) (by decide +kernel)) rfl
theorem kw_395 : Cond.methodLink RX8 71 yX8_asAtFirst ∈ tWALL := tin3 (List.mem_of_getElem? (i := 97) (by decide +kernel)) rfl
theorem kw_396 : Cond.code yX8_reads cX8_reads 7 (some .int) ∈ tWALL := tin3 (List.mem_of_getElem? (i := 204) (by decide +kernel)) rfl
theorem kw_397 : Cond.fieldLink RX8 13 "TowerPipersModel" "word" "[I" ∈ tWALL := tin3 (List.mem_of_getElem? (i := 107) (by decide +kernel)) rfl
theorem kw_398 : Cond.methodLink RX8 99 yX8_reads ∈ tWALL := tin3 (List.mem_of_getElem? (i := 201) (by decide +kernel)) rfl
theorem kw_399 : Cond.instanceMethod yX8_reads ∈ tWALL := tin3 (List.mem_of_getElem? (i := 203) (by decide +kernel)) rfl
theorem kw_400 : Cond.selects RX8 yX8_reads yX8_reads ∈ tWALL := tin0 (List.mem_of_getElem? (i := 25) (by decide +kernel)) rfl
theorem kw_401 : Cond.code yX8_word cX8_word 4 (some .int) ∈ tWALL := tin3 (List.mem_of_getElem? (i := 200) (by decide +kernel)) rfl
theorem kw_402 : Cond.fieldLink RX8 102 "TowerPipersModel" "pipers" "I" ∈ tWALL := tin3 (List.mem_of_getElem? (i := 103) (by decide +kernel)) rfl
theorem kw_403 : Cond.code yX8_isPiper cX8_isPiper 2 (some .boolean) ∈ tWALL := tin3 (List.mem_of_getElem? (i := 229) (by decide +kernel)) rfl
theorem kw_404 : Cond.fieldLink RX8 20 "TowerPipersModel" "rank" "[I" ∈ tWALL := tin3 (List.mem_of_getElem? (i := 109) (by decide +kernel)) rfl
theorem kw_405 : Cond.fieldLink RX8 23 "TowerPipersModel" "plays" "[I" ∈ tWALL := tin3 (List.mem_of_getElem? (i := 110) (by decide +kernel)) rfl
theorem kw_406 : Cond.code yX8_piper cX8_piper 3 (some .int) ∈ tWALL := tin3 (List.mem_of_getElem? (i := 221) (by decide +kernel)) rfl
theorem kw_407 : Cond.fieldLink RX8 26 "TowerPipersModel" "how" "[I" ∈ tWALL := tin3 (List.mem_of_getElem? (i := 111) (by decide +kernel)) rfl
theorem kw_408 : Cond.methodLink RX8 105 yX8_isPiper ∈ tWALL := tin3 (List.mem_of_getElem? (i := 226) (by decide +kernel)) rfl
theorem kw_409 : Cond.instanceMethod yX8_isPiper ∈ tWALL := tin3 (List.mem_of_getElem? (i := 228) (by decide +kernel)) rfl
theorem kw_410 : Cond.selects RX8 yX8_isPiper yX8_isPiper ∈ tWALL := tin0 (List.mem_of_getElem? (i := 27) (by decide +kernel)) rfl
theorem kw_411 : Cond.code yX8_ill cX8_ill 3 (some .boolean) ∈ tWALL := tin3 (List.mem_of_getElem? (i := 225) (by decide +kernel)) rfl
theorem kw_412 : Cond.code yX8_old cX8_old 2 (some .boolean) ∈ tWALL := tin3 (List.mem_of_getElem? (i := 233) (by decide +kernel)) rfl
theorem kw_413 : Cond.fieldLink RX8 32 "TowerPipersModel" "pieces" "[I" ∈ tWALL := tin3 (List.mem_of_getElem? (i := 113) (by decide +kernel)) rfl
theorem kw_414 : Cond.code yX8_pieces cX8_pieces 3 (some .boolean) ∈ tWALL := tin3 (List.mem_of_getElem? (i := 237) (by decide +kernel)) rfl
theorem kw_415 : Cond.code yX8_isInstrument cX8_isInstrument 1 (some .boolean) ∈ tWALL := tin4 (List.mem_of_getElem? (i := 4) (by decide +kernel)) rfl
theorem kw_416 : Cond.fieldLink RX8 35 "TowerPipersModel" "call" "[I" ∈ tWALL := tin3 (List.mem_of_getElem? (i := 114) (by decide +kernel)) rfl
theorem kw_417 : Cond.code yX8_isCall cX8_isCall 2 (some .boolean) ∈ tWALL := tin4 (List.mem_of_getElem? (i := 8) (by decide +kernel)) rfl
theorem kw_418 : Cond.code yX8_of cX8_of 3 (some .int) ∈ tWALL := tin4 (List.mem_of_getElem? (i := 28) (by decide +kernel)) rfl
theorem kw_419 : Cond.methodLink RX8 112 yX8_isCall ∈ tWALL := tin4 (List.mem_of_getElem? (i := 5) (by decide +kernel)) rfl
theorem kw_420 : Cond.instanceMethod yX8_isCall ∈ tWALL := tin4 (List.mem_of_getElem? (i := 7) (by decide +kernel)) rfl
theorem kw_421 : Cond.selects RX8 yX8_isCall yX8_isCall ∈ tWALL := tin0 (List.mem_of_getElem? (i := 28) (by decide +kernel)) rfl
theorem kw_422 : Cond.static yX8_isInstrument ∈ tWALL := tin4 (List.mem_of_getElem? (i := 3) (by decide +kernel)) rfl
theorem kw_423 : Cond.methodLink RX8 109 yX8_isInstrument ∈ tWALL := tin4 (List.mem_of_getElem? (i := 2) (by decide +kernel)) rfl
theorem kw_424 : Cond.code yX8_call cX8_call 10 (some .int) ∈ tWALL := tin4 (List.mem_of_getElem? (i := 1) (by decide +kernel)) rfl
theorem kw_425 : Cond.code yX8_off cX8_off 2 (some .boolean) ∈ tWALL := tin4 (List.mem_of_getElem? (i := 12) (by decide +kernel)) rfl
theorem kw_426 : Cond.methodLink RX8 118 yX8_of ∈ tWALL := tin4 (List.mem_of_getElem? (i := 25) (by decide +kernel)) rfl
theorem kw_427 : Cond.instanceMethod yX8_of ∈ tWALL := tin4 (List.mem_of_getElem? (i := 27) (by decide +kernel)) rfl
theorem kw_428 : Cond.selects RX8 yX8_of yX8_of ∈ tWALL := tin0 (List.mem_of_getElem? (i := 31) (by decide +kernel)) rfl
theorem kw_429 : Cond.fieldLink RX8 50 "TowerPipersModel" "row" "[I" ∈ tWALL := tin3 (List.mem_of_getElem? (i := 122) (by decide +kernel)) rfl
theorem kw_430 : Cond.fieldLink RX8 115 "TowerPipersModel" "many" "I" ∈ tWALL := tin3 (List.mem_of_getElem? (i := 119) (by decide +kernel)) rfl
theorem kw_431 : Cond.code yX8_sorts cX8_sorts 3 none ∈ tWALL := tin4 (List.mem_of_getElem? (i := 24) (by decide +kernel)) rfl
theorem kw_432 : Cond.code yX8_apart cX8_apart 2 (some .int) ∈ tWALL := tin4 (List.mem_of_getElem? (i := 58) (by decide +kernel)) rfl
theorem kw_433 : Cond.static yX8_apart ∈ tWALL := tin4 (List.mem_of_getElem? (i := 57) (by decide +kernel)) rfl
theorem kw_434 : Cond.methodLink RX8 121 yX8_apart ∈ tWALL := tin4 (List.mem_of_getElem? (i := 56) (by decide +kernel)) rfl
theorem kw_435 : Cond.code yX8_goes cX8_goes 6 (some .boolean) ∈ tWALL := tin4 (List.mem_of_getElem? (i := 55) (by decide +kernel)) rfl
theorem kw_436 : Cond.fieldLink RX8 124 "TowerPipersModel" "parts" "I" ∈ tWALL := tin3 (List.mem_of_getElem? (i := 121) (by decide +kernel)) rfl
theorem kw_437 : Cond.fieldLink RX8 53 "TowerPipersModel" "partCall" "[I" ∈ tWALL := tin3 (List.mem_of_getElem? (i := 123) (by decide +kernel)) rfl
theorem kw_438 : Cond.fieldLink RX8 56 "TowerPipersModel" "partOf" "[I" ∈ tWALL := tin3 (List.mem_of_getElem? (i := 124) (by decide +kernel)) rfl
theorem kw_439 : Cond.code yX8_hasPieces cX8_hasPieces 6 (some .boolean) ∈ tWALL := tin4 (List.mem_of_getElem? (i := 43) (by decide +kernel)) rfl
theorem kw_440 : Cond.fieldLink RX8 127 "TowerPipersModel" "set" "I" ∈ tWALL := tin3 (List.mem_of_getElem? (i := 120) (by decide +kernel)) rfl
theorem kw_441 : Cond.static yX8_has ∈ tWALL := tin4 (List.mem_of_getElem? (i := 38) (by decide +kernel)) rfl
theorem kw_442 : Cond.methodLink RX8 130 yX8_has ∈ tWALL := tin4 (List.mem_of_getElem? (i := 37) (by decide +kernel)) rfl
theorem kw_443 : Cond.code yX8_lists cX8_lists 4 none ∈ tWALL := tin4 (List.mem_of_getElem? (i := 36) (by decide +kernel)) rfl
theorem kw_444 : Cond.fieldLink RX8 59 "TowerPipersModel" "taker" "[I" ∈ tWALL := tin3 (List.mem_of_getElem? (i := 125) (by decide +kernel)) rfl
theorem kw_445 : Cond.methodLink RX8 132 yX8_goes ∈ tWALL := tin4 (List.mem_of_getElem? (i := 52) (by decide +kernel)) rfl
theorem kw_446 : Cond.instanceMethod yX8_goes ∈ tWALL := tin4 (List.mem_of_getElem? (i := 54) (by decide +kernel)) rfl
theorem kw_447 : Cond.selects RX8 yX8_goes yX8_goes ∈ tWALL := tin0 (List.mem_of_getElem? (i := 37) (by decide +kernel)) rfl
theorem kw_448 : Cond.code yX8_hinders cX8_hinders 4 (some .int) ∈ tWALL := tin4 (List.mem_of_getElem? (i := 51) (by decide +kernel)) rfl
theorem kw_449 : Cond.methodLink RX8 135 yX8_hinders ∈ tWALL := tin4 (List.mem_of_getElem? (i := 48) (by decide +kernel)) rfl
theorem kw_450 : Cond.instanceMethod yX8_hinders ∈ tWALL := tin4 (List.mem_of_getElem? (i := 50) (by decide +kernel)) rfl
theorem kw_451 : Cond.selects RX8 yX8_hinders yX8_hinders ∈ tWALL := tin0 (List.mem_of_getElem? (i := 36) (by decide +kernel)) rfl
theorem kw_452 : Cond.fieldLink RX8 62 "TowerPipersModel" "blame" "[I" ∈ tWALL := tin3 (List.mem_of_getElem? (i := 126) (by decide +kernel)) rfl
theorem kw_453 : Cond.code yX8_takes cX8_takes 3 (some .boolean) ∈ tWALL := tin4 (List.mem_of_getElem? (i := 47) (by decide +kernel)) rfl
theorem kw_454 : Cond.methodLink RX8 145 yX8_takes ∈ tWALL := tin4 (List.mem_of_getElem? (i := 44) (by decide +kernel)) rfl
theorem kw_455 : Cond.instanceMethod yX8_takes ∈ tWALL := tin4 (List.mem_of_getElem? (i := 46) (by decide +kernel)) rfl
theorem kw_456 : Cond.selects RX8 yX8_takes yX8_takes ∈ tWALL := tin0 (List.mem_of_getElem? (i := 35) (by decide +kernel)) rfl
theorem kw_457 : Cond.methodLink RX8 138 yX8_lists ∈ tWALL := tin4 (List.mem_of_getElem? (i := 33) (by decide +kernel)) rfl
theorem kw_458 : Cond.instanceMethod yX8_lists ∈ tWALL := tin4 (List.mem_of_getElem? (i := 35) (by decide +kernel)) rfl
theorem kw_459 : Cond.selects RX8 yX8_lists yX8_lists ∈ tWALL := tin0 (List.mem_of_getElem? (i := 33) (by decide +kernel)) rfl
theorem kw_460 : Cond.methodLink RX8 141 yX8_hasPieces ∈ tWALL := tin4 (List.mem_of_getElem? (i := 40) (by decide +kernel)) rfl
theorem kw_461 : Cond.instanceMethod yX8_hasPieces ∈ tWALL := tin4 (List.mem_of_getElem? (i := 42) (by decide +kernel)) rfl
theorem kw_462 : Cond.selects RX8 yX8_hasPieces yX8_hasPieces ∈ tWALL := tin0 (List.mem_of_getElem? (i := 34) (by decide +kernel)) rfl
theorem kw_463 : Cond.code yX8_canBePlayed cX8_canBePlayed 4 (some .boolean) ∈ tWALL := tin4 (List.mem_of_getElem? (i := 32) (by decide +kernel)) rfl
theorem kw_464 : Cond.methodLink RX8 151 yX8_canBePlayed ∈ tWALL := tin4 (List.mem_of_getElem? (i := 29) (by decide +kernel)) rfl
theorem kw_465 : Cond.instanceMethod yX8_canBePlayed ∈ tWALL := tin4 (List.mem_of_getElem? (i := 31) (by decide +kernel)) rfl
theorem kw_466 : Cond.selects RX8 yX8_canBePlayed yX8_canBePlayed ∈ tWALL := tin0 (List.mem_of_getElem? (i := 32) (by decide +kernel)) rfl
theorem kw_467 : Cond.methodLink RX8 148 yX8_sorts ∈ tWALL := tin4 (List.mem_of_getElem? (i := 21) (by decide +kernel)) rfl
theorem kw_468 : Cond.instanceMethod yX8_sorts ∈ tWALL := tin4 (List.mem_of_getElem? (i := 23) (by decide +kernel)) rfl
theorem kw_469 : Cond.selects RX8 yX8_sorts yX8_sorts ∈ tWALL := tin0 (List.mem_of_getElem? (i := 30) (by decide +kernel)) rfl
theorem kw_470 : Cond.code yX8_works cX8_works 2 (some .int) ∈ tWALL := tin4 (List.mem_of_getElem? (i := 20) (by decide +kernel)) rfl
theorem kw_471 : Cond.methodLink RX8 154 yX8_works ∈ tWALL := tin4 (List.mem_of_getElem? (i := 17) (by decide +kernel)) rfl
theorem kw_472 : Cond.instanceMethod yX8_works ∈ tWALL := tin4 (List.mem_of_getElem? (i := 19) (by decide +kernel)) rfl
theorem kw_473 : Cond.selects RX8 yX8_works yX8_works ∈ tWALL := tin0 (List.mem_of_getElem? (i := 29) (by decide +kernel)) rfl
theorem kw_474 : Cond.code yX8_played cX8_played 1 (some .int) ∈ tWALL := tin4 (List.mem_of_getElem? (i := 16) (by decide +kernel)) rfl
theorem kw_475 : Cond.code yX8_whoHas cX8_whoHas 5 (some .int) ∈ tWALL := tin4 (List.mem_of_getElem? (i := 66) (by decide +kernel)) rfl
theorem kw_476 : Cond.methodLink RX8 158 yX8_whoHas ∈ tWALL := tin4 (List.mem_of_getElem? (i := 63) (by decide +kernel)) rfl
theorem kw_477 : Cond.instanceMethod yX8_whoHas ∈ tWALL := tin4 (List.mem_of_getElem? (i := 65) (by decide +kernel)) rfl
theorem kw_478 : Cond.selects RX8 yX8_whoHas yX8_whoHas ∈ tWALL := tin0 (List.mem_of_getElem? (i := 38) (by decide +kernel)) rfl
theorem kw_479 : Cond.code yX8_who cX8_who 3 (some .int) ∈ tWALL := tin4 (List.mem_of_getElem? (i := 62) (by decide +kernel)) rfl
theorem kw_480 : Cond.fieldLink RX8 161 "TowerPipersModel" "tunes" "I" ∈ tWALL := tin3 (List.mem_of_getElem? (i := 104) (by decide +kernel)) rfl
theorem kw_481 : Cond.fieldLink RX8 38 "TowerPipersModel" "fits" "[I" ∈ tWALL := tin3 (List.mem_of_getElem? (i := 115) (by decide +kernel)) rfl
theorem kw_482 : Cond.fieldLink RX8 41 "TowerPipersModel" "months" "[I" ∈ tWALL := tin3 (List.mem_of_getElem? (i := 116) (by decide +kernel)) rfl
theorem kw_483 : Cond.fieldLink RX8 44 "TowerPipersModel" "heardDay" "[I" ∈ tWALL := tin3 (List.mem_of_getElem? (i := 117) (by decide +kernel)) rfl
theorem kw_484 : Cond.fieldLink RX8 47 "TowerPipersModel" "heardAs" "[I" ∈ tWALL := tin3 (List.mem_of_getElem? (i := 118) (by decide +kernel)) rfl
theorem kw_485 : Cond.code yX8_tune cX8_tune 3 (some .int) ∈ tWALL := tin4 (List.mem_of_getElem? (i := 70) (by decide +kernel)) rfl
theorem kw_486 : Cond.fieldLink RX8 164 "TowerPipersModel" "today" "I" ∈ tWALL := tin3 (List.mem_of_getElem? (i := 102) (by decide +kernel)) rfl
theorem kw_487 : Cond.code yX8_month cX8_month 1 (some .int) ∈ tWALL := tin4 (List.mem_of_getElem? (i := 82) (by decide +kernel)) rfl
theorem kw_488 : Cond.fieldLink RX8 65 "TowerPipersModel" "has" "[I" ∈ tWALL := tin3 (List.mem_of_getElem? (i := 127) (by decide +kernel)) rfl
theorem kw_489 : Cond.fieldLink RX8 68 "TowerPipersModel" "turn" "[I" ∈ tWALL := tin3 (List.mem_of_getElem? (i := 128) (by decide +kernel)) rfl
theorem kw_490 : Cond.methodLink RX8 170 yX8_month ∈ tWALL := tin4 (List.mem_of_getElem? (i := 79) (by decide +kernel)) rfl
theorem kw_491 : Cond.instanceMethod yX8_month ∈ tWALL := tin4 (List.mem_of_getElem? (i := 81) (by decide +kernel)) rfl
theorem kw_492 : Cond.selects RX8 yX8_month yX8_month ∈ tWALL := tin0 (List.mem_of_getElem? (i := 40) (by decide +kernel)) rfl
theorem kw_493 : Cond.fieldLink RX8 167 "TowerPipersModel" "stamps" "I" ∈ tWALL := tin3 (List.mem_of_getElem? (i := 106) (by decide +kernel)) rfl
theorem kw_494 : Cond.code yX8_tunesOf cX8_tunesOf 6 none ∈ tWALL := tin4 (List.mem_of_getElem? (i := 78) (by decide +kernel)) rfl
theorem kw_495 : Cond.methodLink RX8 173 yX8_tunesOf ∈ tWALL := tin4 (List.mem_of_getElem? (i := 75) (by decide +kernel)) rfl
theorem kw_496 : Cond.instanceMethod yX8_tunesOf ∈ tWALL := tin4 (List.mem_of_getElem? (i := 77) (by decide +kernel)) rfl
theorem kw_497 : Cond.selects RX8 yX8_tunesOf yX8_tunesOf ∈ tWALL := tin0 (List.mem_of_getElem? (i := 39) (by decide +kernel)) rfl
theorem kw_498 : Cond.code yX8_heard cX8_heard 2 (some .int) ∈ tWALL := tin4 (List.mem_of_getElem? (i := 74) (by decide +kernel)) rfl
theorem kw_499 : Cond.code yX8_fundOf cX8_fundOf 2 (some .int) ∈ tWALL := tin4 (List.mem_of_getElem? (i := 90) (by decide +kernel)) rfl
theorem kw_500 : Cond.methodLink RX8 176 yX8_fundOf ∈ tWALL := tin4 (List.mem_of_getElem? (i := 87) (by decide +kernel)) rfl
theorem kw_501 : Cond.instanceMethod yX8_fundOf ∈ tWALL := tin4 (List.mem_of_getElem? (i := 89) (by decide +kernel)) rfl
theorem kw_502 : Cond.selects RX8 yX8_fundOf yX8_fundOf ∈ tWALL := tin0 (List.mem_of_getElem? (i := 41) (by decide +kernel)) rfl
theorem kw_503 : Cond.code yX8_shareOf cX8_shareOf 12 (some .int) ∈ tWALL := tin4 (List.mem_of_getElem? (i := 94) (by decide +kernel)) rfl
theorem kw_504 : Cond.methodLink RX8 179 yX8_shareOf ∈ tWALL := tin4 (List.mem_of_getElem? (i := 91) (by decide +kernel)) rfl
theorem kw_505 : Cond.instanceMethod yX8_shareOf ∈ tWALL := tin4 (List.mem_of_getElem? (i := 93) (by decide +kernel)) rfl
theorem kw_506 : Cond.selects RX8 yX8_shareOf yX8_shareOf ∈ tWALL := tin0 (List.mem_of_getElem? (i := 42) (by decide +kernel)) rfl
theorem kw_507 : Cond.code yX8_share cX8_share 3 (some .int) ∈ tWALL := tin4 (List.mem_of_getElem? (i := 86) (by decide +kernel)) rfl
theorem kw_508 : Cond.fieldLink RX8 29 "TowerPipersModel" "wages" "[I" ∈ tWALL := tin3 (List.mem_of_getElem? (i := 112) (by decide +kernel)) rfl
theorem kw_509 : Cond.fieldLink RX8 182 "TowerPipersModel" "fund" "I" ∈ tWALL := tin3 (List.mem_of_getElem? (i := 105) (by decide +kernel)) rfl
theorem kw_510 : Cond.code yX8_fines cX8_fines 2 none ∈ tWALL := tin4 (List.mem_of_getElem? (i := 102) (by decide +kernel)) rfl
theorem kw_511 : Cond.methodLink RX8 185 yX8_fines ∈ tWALL := tin4 (List.mem_of_getElem? (i := 99) (by decide +kernel)) rfl
theorem kw_512 : Cond.instanceMethod yX8_fines ∈ tWALL := tin4 (List.mem_of_getElem? (i := 101) (by decide +kernel)) rfl
theorem kw_513 : Cond.selects RX8 yX8_fines yX8_fines ∈ tWALL := tin0 (List.mem_of_getElem? (i := 43) (by decide +kernel)) rfl
theorem kw_514 : Cond.code yX8_day cX8_day 4 (some .int) ∈ tWALL := tin4 (List.mem_of_getElem? (i := 98) (by decide +kernel)) rfl
theorem kw_515 : Cond.code yX8_lasts cX8_lasts 3 (some .int) ∈ tWALL := tin4 (List.mem_of_getElem? (i := 106) (by decide +kernel)) rfl
theorem kw_516 : Cond.code yX8_look cX8_look 6 (some .int) ∈ tWALL := tin4 (List.mem_of_getElem? (i := 110) (by decide +kernel)) rfl
theorem kw_517 : Cond.code yX8_wages cX8_wages 2 (some .int) ∈ tWALL := tin4 (List.mem_of_getElem? (i := 114) (by decide +kernel)) rfl
theorem kw_518 : Cond.code yX8_about cX8_about 3 (some .int) ∈ tWALL := tin4 (List.mem_of_getElem? (i := 118) (by decide +kernel)) rfl
theorem kw_519 : Cond.code yX8_count cX8_count 4 (some .int) ∈ tWALL := tin4 (List.mem_of_getElem? (i := 122) (by decide +kernel)) rfl
end
section
def wp_Tape_size (st : tSt) (post : Int32 → tSt → Prop) : Prop :=
 post (st 5 0) st
def wp_Tape_hasRoom (st : tSt) (post : Int32 → tSt → Prop) : Prop :=
 (((40 : Int32) < ((st 5 0) + (20 : Int32)) →
  post (0 : Int32) st) ∧
  (¬ (40 : Int32) < ((st 5 0) + (20 : Int32)) →
  post (1 : Int32) st))
def wp_Tape_put_3 (post : tSt → Prop) : Nat → Int32 → Int32 → tSt → Prop
  | 0 => fun _ _ _ => False
  | n + 1 => fun x1 x2 st =>
    ((x2 < 0 →
     post st) ∧
     (¬ x2 < 0 →
     (((40 : Int32) ≤ (st 5 0) →
      post st) ∧
      (¬ (40 : Int32) ≤ (st 5 0) →
      vp_in (st 5 0) 40 ∧
      (∀ st1 : tSt, st1 = tUp st 6 (st 5 0).toNatClampNeg ((x1 >>> (x2 &&& 31)) &&& (255 : Int32)) →
       (∀ st2 : tSt, st2 = tUp st1 5 0 ((st1 5 0) + (1 : Int32)) →
        (∀ y2_3 : Int32, y2_3 = x2 + (-8) →
         (wp_Tape_put_3 post n) x1 y2_3 st2)))))))
def wp_Tape_put (x1 : Int32) (st : tSt) (post : tSt → Prop) : Prop :=
 (fun z0 z1 w => ∃ q3, wp_Tape_put_3 post q3 z0 z1 w) x1 (24 : Int32) st
def wp_T_within (x0 : Int32) (x1 : Int32) (x2 : Int32) (st : tSt) (post : Int32 → tSt → Prop) : Prop :=
 ((x0 < x1 →
  post (0 : Int32) st) ∧
  (¬ x0 < x1 →
  ((x2 < x0 →
   post (0 : Int32) st) ∧
   (¬ x2 < x0 →
   post (1 : Int32) st))))
def wp_Tape_byteAt (x1 : Int32) (st : tSt) (post : Int32 → tSt → Prop) : Prop :=
 wp_T_within x1 (0 : Int32) ((st 5 0) - (1 : Int32)) st (fun r2 st1 =>
  ((r2 = 0 →
   post (-1 : Int32) st1) ∧
   (¬ r2 = 0 →
   vp_in x1 40 ∧
   post (st1 6 x1.toNatClampNeg) st1)))
def wp_Tape_empty (st : tSt) (post : tSt → Prop) : Prop :=
 (∀ st1 : tSt, st1 = tUp st 5 0 (0 : Int32) →
  post st1)
def wp_TownWord_number (x1 : Int32) (st : tSt) (post : Int32 → tSt → Prop) : Prop :=
 wp_T_within x1 (0 : Int32) (3 : Int32) st (fun r2 st1 =>
  ((r2 = 0 →
   post (-1 : Int32) st1) ∧
   (¬ r2 = 0 →
   vp_in x1 4 ∧
   post (st1 7 x1.toNatClampNeg) st1)))
def wp_TownWord_kindAt_2 (post : Int32 → tSt → Prop) : Nat → Int32 → Int32 → Int32 → tSt → Prop
  | 0 => fun _ _ _ _ => False
  | n + 1 => fun x1 x2 x3 st =>
    (((4 : Int32) ≤ x3 →
     post (-1 : Int32) st) ∧
     (¬ (4 : Int32) ≤ x3 →
     ((x2 ≤ x1 →
      post (-1 : Int32) st) ∧
      (¬ x2 ≤ x1 →
      wp_Tape_byteAt x1 st (fun r2 st1 =>
       vp_in x3 4 ∧
       ((r2 = (tab_LETTERS x3.toNatClampNeg) →
        post x3 st1) ∧
        (¬ r2 = (tab_LETTERS x3.toNatClampNeg) →
        (∀ y3_3 : Int32, y3_3 = x3 + 1 →
         (wp_TownWord_kindAt_2 post n) x1 x2 y3_3 st1))))))))
def wp_TownWord_kindAt (x1 : Int32) (x2 : Int32) (st : tSt) (post : Int32 → tSt → Prop) : Prop :=
 (fun z0 z1 z2 w => ∃ q2, wp_TownWord_kindAt_2 post q2 z0 z1 z2 w) x1 x2 (0 : Int32) st
def wp_TownWord_isDigit (x1 : Int32) (x2 : Int32) (st : tSt) (post : Int32 → tSt → Prop) : Prop :=
 ((x2 ≤ x1 →
  post (0 : Int32) st) ∧
  (¬ x2 ≤ x1 →
  wp_Tape_byteAt x1 st (fun r2 st1 =>
   wp_T_within r2 (48 : Int32) (57 : Int32) st1 (fun r4 st3 =>
    ((r4 = 0 →
     post (0 : Int32) st3) ∧
     (¬ r4 = 0 →
     post (1 : Int32) st3))))))
def wp_TownWord_endOfDigits_2 (post : Int32 → tSt → Prop) : Nat → Int32 → Int32 → Int32 → tSt → Prop
  | 0 => fun _ _ _ _ => False
  | n + 1 => fun x1 x2 x3 st =>
    (((x1 + (4 : Int32)) ≤ x3 →
     post x3 st) ∧
     (¬ (x1 + (4 : Int32)) ≤ x3 →
     wp_TownWord_isDigit x3 x2 st (fun r2 st1 =>
      ((r2 = 0 →
       post x3 st1) ∧
       (¬ r2 = 0 →
       (∀ y3_3 : Int32, y3_3 = x3 + 1 →
        (wp_TownWord_endOfDigits_2 post n) x1 x2 y3_3 st1))))))
def wp_TownWord_endOfDigits (x1 : Int32) (x2 : Int32) (st : tSt) (post : Int32 → tSt → Prop) : Prop :=
 (fun z0 z1 z2 w => ∃ q2, wp_TownWord_endOfDigits_2 post q2 z0 z1 z2 w) x1 x2 x1 st
def wp_TownWord_numberBetween_5 (post : Int32 → tSt → Prop) : Nat → Int32 → Int32 → Int32 → tSt → Prop
  | 0 => fun _ _ _ _ => False
  | n + 1 => fun x2 x3 x4 st =>
    ((x2 ≤ x4 →
     post x3 st) ∧
     (¬ x2 ≤ x4 →
     wp_Tape_byteAt x4 st (fun r2 st1 =>
      (∀ y3_3 : Int32, y3_3 = (((x3 * (10 : Int32)) + r2) - (48 : Int32)) →
       (∀ y4_4 : Int32, y4_4 = x4 + 1 →
        (wp_TownWord_numberBetween_5 post n) x2 y3_3 y4_4 st1)))))
def wp_TownWord_numberBetween (x1 : Int32) (x2 : Int32) (st : tSt) (post : Int32 → tSt → Prop) : Prop :=
 (fun z0 z1 z2 w => ∃ q5, wp_TownWord_numberBetween_5 post q5 z0 z1 z2 w) x2 (0 : Int32) x1 st
def wp_TownWord_faultOfNumber (x1 : Int32) (x2 : Int32) (x3 : Int32) (x4 : Int32) (st : tSt) (post : Int32 → tSt → Prop) : Prop :=
 ((x2 = x1 →
  post ((200 : Int32) + x1) st) ∧
  (¬ x2 = x1 →
  wp_TownWord_isDigit x2 x3 st (fun r2 st1 =>
   ((r2 = 0 →
    ((x4 = 0 →
     ((x3 ≤ x2 →
      post (0 : Int32) st1) ∧
      (¬ x3 ≤ x2 →
      wp_Tape_byteAt x2 st1 (fun r4 st3 =>
       ((r4 = (59 : Int32) →
        post (0 : Int32) st3) ∧
        (¬ r4 = (59 : Int32) →
        post ((500 : Int32) + x2) st3)))))) ∧
     (¬ x4 = 0 →
     post ((400 : Int32) + x1) st1))) ∧
    (¬ r2 = 0 →
    post ((300 : Int32) + x2) st1)))))
def wp_TownWord_read_85 (post : Int32 → tSt → Prop) (k15 : Int32 → Int32 → tSt → Prop) (k115 : tSt → Prop) (x2 : Int32) (x4 : Int32) (x6 : Int32) (x7 : Int32) (s1 : Int32) (s2 : Int32) (s3 : Int32) (s4 : Int32) (st : tSt) : Prop :=
 wp_TownWord_faultOfNumber s1 s2 s3 s4 st (fun r2 st1 =>
  ((r2 = 0 →
   vp_in x4 4 ∧
   (∀ st3 : tSt, st3 = tUp st1 8 x4.toNatClampNeg x7 →
    (∀ y3_4 : Int32, y3_4 = (x6 + (1 : Int32)) →
     k15 x2 y3_4 st3))) ∧
   (¬ r2 = 0 →
   post r2 st1)))
def wp_TownWord_read_115 (post : Int32 → tSt → Prop) (st : tSt) : Prop :=
 (∀ st1 : tSt, st1 = tUpA st 7 (va_cpy (st 8) (st 7) 0 0 4) →
  post (0 : Int32) st1)
def wp_TownWord_read_15 (post : Int32 → tSt → Prop) (k115 : tSt → Prop) : Nat → Int32 → Int32 → tSt → Prop
  | 0 => fun _ _ _ => False
  | n + 1 => fun x2 x3 st =>
    ((x2 < x3 →
     k115 st) ∧
     (¬ x2 < x3 →
     wp_TownWord_kindAt x3 x2 st (fun r2 st1 =>
      ((r2 = (-1 : Int32) →
       post ((100 : Int32) + x3) st1) ∧
       (¬ r2 = (-1 : Int32) →
       (∀ y5_3 : Int32, y5_3 = (x3 + (1 : Int32)) →
        wp_TownWord_endOfDigits y5_3 x2 st1 (fun r5 st4 =>
         wp_TownWord_numberBetween y5_3 r5 st4 (fun r7 st6 =>
          vp_in r2 4 ∧
          ((r7 ≤ (tab_HIGHEST r2.toNatClampNeg) →
           (wp_TownWord_read_85 post (wp_TownWord_read_15 post k115 n) k115) x2 r2 r5 r7 y5_3 r5 x2 (0 : Int32) st6) ∧
           (¬ r7 ≤ (tab_HIGHEST r2.toNatClampNeg) →
           (wp_TownWord_read_85 post (wp_TownWord_read_15 post k115 n) k115) x2 r2 r5 r7 y5_3 r5 x2 (1 : Int32) st6))))))))))
def wp_TownWord_read (x2 : Int32) (st : tSt) (post : Int32 → tSt → Prop) : Prop :=
 (∀ st1 : tSt, st1 = tUpA st 8 (va_cpy (tab_AT_FIRST) (st 8) 0 0 4) →
  (fun z0 z1 w => ∃ q15, wp_TownWord_read_15 post (wp_TownWord_read_115 post) q15 z0 z1 w) x2 (0 : Int32) st1)
def wp_Piper_join (j : Nat) (x1 : Int32) (x2 : Int32) (st : tSt) (post : tSt → Prop) : Prop :=
 (∀ st1 : tSt, st1 = tUp st 9 j x1 →
  (∀ st2 : tSt, st2 = tUp st1 10 j x2 →
   post st2))
def wp_T_hasBit (x0 : Int32) (x1 : Int32) (st : tSt) (post : Int32 → tSt → Prop) : Prop :=
 ((((x0 >>> (x1 &&& 31)) &&& (1 : Int32)) = (1 : Int32) →
  post (1 : Int32) st) ∧
  (¬ ((x0 >>> (x1 &&& 31)) &&& (1 : Int32)) = (1 : Int32) →
  post (0 : Int32) st))
def wp_Piper_canPlay (j : Nat) (x1 : Int32) (st : tSt) (post : Int32 → tSt → Prop) : Prop :=
 (((st 11 j) = 0 →
  wp_T_hasBit (st 10 j) x1 st (fun r2 st1 =>
   ((r2 = 0 →
    post (0 : Int32) st1) ∧
    (¬ r2 = 0 →
    post (1 : Int32) st1)))) ∧
  (¬ (st 11 j) = 0 →
  post (0 : Int32) st))
def wp_Tune_learn (j : Nat) (x1 : Int32) (x2 : Int32) (st : tSt) (post : tSt → Prop) : Prop :=
 (∀ st1 : tSt, st1 = tUp st 20 j x1 →
  (∀ st2 : tSt, st2 = tUp st1 21 j x2 →
   post st2))
def wp_Tune_fits (j : Nat) (x1 : Int32) (x2 : Int32) (st : tSt) (post : Int32 → tSt → Prop) : Prop :=
 wp_T_hasBit (st 20 j) x1 st (fun r2 st1 =>
  ((r2 = 0 →
   post (0 : Int32) st1) ∧
   (¬ r2 = 0 →
   wp_T_hasBit (st1 21 j) x2 st1 (fun r4 st3 =>
    ((r4 = 0 →
     post (0 : Int32) st3) ∧
     (¬ r4 = 0 →
     post (1 : Int32) st3))))))
def wp_Tune_dayHeard (j : Nat) (st : tSt) (post : Int32 → tSt → Prop) : Prop :=
 (((st 22 j) = (-1 : Int32) →
  post (-1 : Int32) st) ∧
  (¬ (st 22 j) = (-1 : Int32) →
  post ((st 22 j) / (6 : Int32)) st))
def wp_Call_canBe_35 (post : Int32 → tSt → Prop) (st : tSt) : Prop :=
 (((96 : Int32) < ((st 24 1) + (st 24 2)) →
  post (0 : Int32) st) ∧
  (¬ (96 : Int32) < ((st 24 1) + (st 24 2)) →
  post (1 : Int32) st))
def wp_Call_canBe_2 (post : Int32 → tSt → Prop) (k35 : tSt → Prop) : Nat → Int32 → tSt → Prop
  | 0 => fun _ _ => False
  | n + 1 => fun x1 st =>
    (((8 : Int32) ≤ x1 →
     k35 st) ∧
     (¬ (8 : Int32) ≤ x1 →
     vp_in x1 8 ∧
     vp_in x1 8 ∧
     vp_in x1 8 ∧
     wp_T_within (st 24 x1.toNatClampNeg) (tab_LEAST x1.toNatClampNeg) (tab_MOST x1.toNatClampNeg) st (fun r2 st1 =>
      ((r2 = 0 →
       post (0 : Int32) st1) ∧
       (¬ r2 = 0 →
       (∀ y1_3 : Int32, y1_3 = x1 + 1 →
        (wp_Call_canBe_2 post k35 n) y1_3 st1))))))
def wp_Call_canBe (st : tSt) (post : Int32 → tSt → Prop) : Prop :=
 (fun z0 w => ∃ q2, wp_Call_canBe_2 post (wp_Call_canBe_35 post) q2 z0 w) (0 : Int32) st
def wp_Call_come (j : Nat) (st : tSt) (post : tSt → Prop) : Prop :=
 (∀ st1 : tSt, st1 = tUpA st (14 + j) (va_cpy (st 24) (st (14 + j)) 0 0 8) →
  (∀ st2 : tSt, st2 = tUp st1 13 j (1 : Int32) →
   post st2))
def wp_Call_go (j : Nat) (st : tSt) (post : tSt → Prop) : Prop :=
 (∀ st1 : tSt, st1 = tUp st 13 j (0 : Int32) →
  post st1)
def wp_Call_fact (j : Nat) (x1 : Int32) (st : tSt) (post : Int32 → tSt → Prop) : Prop :=
 wp_T_within x1 (0 : Int32) (7 : Int32) st (fun r2 st1 =>
  ((r2 = 0 →
   post (-1 : Int32) st1) ∧
   (¬ r2 = 0 →
   vp_in x1 8 ∧
   post (st1 (14 + j) x1.toNatClampNeg) st1)))
def wp_Call_isOfOrder (j : Nat) (x1 : Int32) (st : tSt) (post : Int32 → tSt → Prop) : Prop :=
 (((st 13 j) = 0 →
  post (0 : Int32) st) ∧
  (¬ (st 13 j) = 0 →
  (((st (14 + j) 0) = x1 →
   post (1 : Int32) st) ∧
   (¬ (st (14 + j) 0) = x1 →
   post (0 : Int32) st))))
def wp_Call_end (j : Nat) (st : tSt) (post : Int32 → tSt → Prop) : Prop :=
 post ((st (14 + j) 1) + (st (14 + j) 2)) st
def wp_Call_isOnAt (j : Nat) (x1 : Int32) (st : tSt) (post : Int32 → tSt → Prop) : Prop :=
 ((x1 < (st (14 + j) 1) →
  post (0 : Int32) st) ∧
  (¬ x1 < (st (14 + j) 1) →
  wp_Call_end j st (fun r2 st1 =>
   ((r2 ≤ x1 →
    post (0 : Int32) st1) ∧
    (¬ r2 ≤ x1 →
    post (1 : Int32) st1)))))
def wp_Call_partCount (j : Nat) (st : tSt) (post : Int32 → tSt → Prop) : Prop :=
 (((st (14 + j) 6) = (-1 : Int32) →
  post (1 : Int32) st) ∧
  (¬ (st (14 + j) 6) = (-1 : Int32) →
  post (2 : Int32) st))
def wp_Call_partsWith_15 (j : Nat) (post : Int32 → tSt → Prop) (x1 : Int32) (s0 : Int32) (st : tSt) : Prop :=
 (((st (14 + j) 6) = x1 →
  post (s0 + (1 : Int32)) st) ∧
  (¬ (st (14 + j) 6) = x1 →
  post (s0 + (0 : Int32)) st))
def wp_Call_partsWith (j : Nat) (x1 : Int32) (st : tSt) (post : Int32 → tSt → Prop) : Prop :=
 (((st (14 + j) 5) = x1 →
  (wp_Call_partsWith_15 j post) x1 (1 : Int32) st) ∧
  (¬ (st (14 + j) 5) = x1 →
  (wp_Call_partsWith_15 j post) x1 (0 : Int32) st))
def wp_Call_clashesWith (j : Nat) (j1 : Nat) (x2 : Int32) (st : tSt) (post : Int32 → tSt → Prop) : Prop :=
 (∀ y3_1 : Int32, y3_1 = (x2 * (if 0 ≤ ((st (14 + j) 3) - (st (14 + j1) 3)) then ((st (14 + j) 3) - (st (14 + j1) 3)) else 0 - ((st (14 + j) 3) - (st (14 + j1) 3)))) →
  wp_Call_end j1 st (fun r3 st2 =>
   (((r3 + y3_1) ≤ (st (14 + j) 1) →
    post (0 : Int32) st2) ∧
    (¬ (r3 + y3_1) ≤ (st (14 + j) 1) →
    wp_Call_end j st2 (fun r5 st4 =>
     (((r5 + y3_1) ≤ (st2 (14 + j1) 1) →
      post (0 : Int32) st4) ∧
      (¬ (r5 + y3_1) ≤ (st2 (14 + j1) 1) →
      post (1 : Int32) st4)))))))
def wp_Arrays_fill_5 (post : tSt → Prop) : Nat → Int32 → Int32 → Int32 → tSt → Prop
  | 0 => fun _ _ _ _ => False
  | n + 1 => fun x1 x2 x3 st =>
    ((x3 ≤ x2 →
     post st) ∧
     (¬ x3 ≤ x2 →
     vp_in x2 6 ∧
     (∀ st1 : tSt, st1 = tUp st 31 x2.toNatClampNeg x1 →
      (∀ y2_2 : Int32, y2_2 = x2 + 1 →
       (wp_Arrays_fill_5 post n) x1 y2_2 x3 st1))))
def wp_Arrays_fill (x1 : Int32) (st : tSt) (post : tSt → Prop) : Prop :=
 (fun z0 z1 z2 w => ∃ q5, wp_Arrays_fill_5 post q5 z0 z1 z2 w) x1 (0 : Int32) (6 : Int32) st
def wp_Cast_clear (st : tSt) (post : tSt → Prop) : Prop :=
 (∀ st1 : tSt, st1 = tUp st 27 0 (0 : Int32) →
  wp_Arrays_fill (0 : Int32) st1 (fun st2 =>
   post st2))
def wp_Cast_piperOf_44 (post : Int32 → tSt → Prop) (k5 : Int32 → Int32 → Int32 → tSt → Prop) (x1 : Int32) (x3 : Int32) (x4 : Int32) (st : tSt) : Prop :=
 (∀ y4_1 : Int32, y4_1 = x4 + 1 →
  k5 x1 x3 y4_1 st)
def wp_Cast_piperOf_5 (post : Int32 → tSt → Prop) : Nat → Int32 → Int32 → Int32 → tSt → Prop
  | 0 => fun _ _ _ _ => False
  | n + 1 => fun x1 x3 x4 st =>
    (((st 27 0) ≤ x4 →
     post (-1 : Int32) st) ∧
     (¬ (st 27 0) ≤ x4 →
     ((x3 < 0 →
      post (-1 : Int32) st) ∧
      (¬ x3 < 0 →
      vp_in x4 12 ∧
      (((st 33 x4.toNatClampNeg) = x1 →
       ((x3 = 0 →
        vp_in x4 12 ∧
        post (st 34 x4.toNatClampNeg) st) ∧
        (¬ x3 = 0 →
        (∀ y3_1 : Int32, y3_1 = x3 + (-1) →
         (wp_Cast_piperOf_44 post (wp_Cast_piperOf_5 post n)) x1 y3_1 x4 st)))) ∧
       (¬ (st 33 x4.toNatClampNeg) = x1 →
       (wp_Cast_piperOf_44 post (wp_Cast_piperOf_5 post n)) x1 x3 x4 st))))))
def wp_Cast_piperOf (x1 : Int32) (x2 : Int32) (st : tSt) (post : Int32 → tSt → Prop) : Prop :=
 (fun z0 z1 z2 w => ∃ q5, wp_Cast_piperOf_5 post q5 z0 z1 z2 w) x1 x2 (0 : Int32) st
def wp_Cast_partsOf_25 (post : Int32 → tSt → Prop) (k4 : Int32 → Int32 → Int32 → tSt → Prop) (x1 : Int32) (x2 : Int32) (x3 : Int32) (st : tSt) : Prop :=
 (∀ y3_1 : Int32, y3_1 = x3 + 1 →
  k4 x1 x2 y3_1 st)
def wp_Cast_partsOf_4 (post : Int32 → tSt → Prop) : Nat → Int32 → Int32 → Int32 → tSt → Prop
  | 0 => fun _ _ _ _ => False
  | n + 1 => fun x1 x2 x3 st =>
    (((st 27 0) ≤ x3 →
     post x2 st) ∧
     (¬ (st 27 0) ≤ x3 →
     vp_in x3 12 ∧
     (((st 34 x3.toNatClampNeg) = x1 →
      (∀ y2_1 : Int32, y2_1 = x2 + 1 →
       (wp_Cast_partsOf_25 post (wp_Cast_partsOf_4 post n)) x1 y2_1 x3 st)) ∧
      (¬ (st 34 x3.toNatClampNeg) = x1 →
      (wp_Cast_partsOf_25 post (wp_Cast_partsOf_4 post n)) x1 x2 x3 st))))
def wp_Cast_partsOf (x1 : Int32) (st : tSt) (post : Int32 → tSt → Prop) : Prop :=
 (fun z0 z1 z2 w => ∃ q4, wp_Cast_partsOf_4 post q4 z0 z1 z2 w) x1 (0 : Int32) (0 : Int32) st
def wp_Cast_markTakers_33 (post : tSt → Prop) (k2 : Int32 → Int32 → tSt → Prop) (x2 : Int32) (x3 : Int32) (st : tSt) : Prop :=
 (∀ y3_1 : Int32, y3_1 = x3 + 1 →
  k2 x2 y3_1 st)
def wp_Cast_markTakers_2 (post : tSt → Prop) : Nat → Int32 → Int32 → tSt → Prop
  | 0 => fun _ _ _ => False
  | n + 1 => fun x2 x3 st =>
    (((6 : Int32) ≤ x3 →
     post st) ∧
     (¬ (6 : Int32) ≤ x3 →
     vp_in x3 6 ∧
     wp_Piper_canPlay x3.toNatClampNeg x2 st (fun r2 st1 =>
      ((r2 = 0 →
       (wp_Cast_markTakers_33 post (wp_Cast_markTakers_2 post n)) x2 x3 st1) ∧
       (¬ r2 = 0 →
       vp_in x3 6 ∧
       vp_in x3 6 ∧
       (∀ st3 : tSt, st3 = tUp st1 31 x3.toNatClampNeg ((st1 31 x3.toNatClampNeg) ||| ((1 : Int32) <<< ((st1 27 0) &&& 31))) →
        (wp_Cast_markTakers_33 post (wp_Cast_markTakers_2 post n)) x2 x3 st3))))))
def wp_Cast_markTakers (x2 : Int32) (st : tSt) (post : tSt → Prop) : Prop :=
 (fun z0 z1 w => ∃ q2, wp_Cast_markTakers_2 post q2 z0 z1 w) x2 (0 : Int32) st
def wp_Cast_markBars_98 (post : tSt → Prop) (k28 : Int32 → Int32 → Int32 → Int32 → tSt → Prop) (x2 : Int32) (x3 : Int32) (x4 : Int32) (x5 : Int32) (st : tSt) : Prop :=
 (∀ y5_1 : Int32, y5_1 = x5 + 1 →
  k28 x2 x3 x4 y5_1 st)
def wp_Cast_markBars_28 (post : tSt → Prop) : Nat → Int32 → Int32 → Int32 → Int32 → tSt → Prop
  | 0 => fun _ _ _ _ _ => False
  | n + 1 => fun x2 x3 x4 x5 st =>
    ((x4 ≤ x5 →
     post st) ∧
     (¬ x4 ≤ x5 →
     vp_in x5 12 ∧
     vp_in x5 12 ∧
     (∀ st1 : tSt, st1 = tUp st 32 x5.toNatClampNeg ((st 32 x5.toNatClampNeg) &&& (((1 : Int32) <<< (x4 &&& 31)) ^^^ (-1 : Int32))) →
      vp_in x2 6 ∧
      vp_in x5 12 ∧
      vp_in (st1 33 x5.toNatClampNeg) 6 ∧
      wp_Call_clashesWith x2.toNatClampNeg ((st1 33 x5.toNatClampNeg).toNatClampNeg) x3 st1 (fun r3 st2 =>
       ((r3 = 0 →
        (wp_Cast_markBars_98 post (wp_Cast_markBars_28 post n)) x2 x3 x4 x5 st2) ∧
        (¬ r3 = 0 →
        vp_in x5 12 ∧
        vp_in x5 12 ∧
        (∀ st4 : tSt, st4 = tUp st2 32 x5.toNatClampNeg ((st2 32 x5.toNatClampNeg) ||| ((1 : Int32) <<< (x4 &&& 31))) →
         vp_in x4 12 ∧
         vp_in x4 12 ∧
         (∀ st5 : tSt, st5 = tUp st4 32 x4.toNatClampNeg ((st4 32 x4.toNatClampNeg) ||| ((1 : Int32) <<< (x5 &&& 31))) →
          (wp_Cast_markBars_98 post (wp_Cast_markBars_28 post n)) x2 x3 x4 x5 st5))))))))
def wp_Cast_markBars (x2 : Int32) (x3 : Int32) (st : tSt) (post : tSt → Prop) : Prop :=
 (∀ y4_1 : Int32, y4_1 = (st 27 0) →
  vp_in y4_1 12 ∧
  (∀ st2 : tSt, st2 = tUp st 33 y4_1.toNatClampNeg x2 →
   vp_in y4_1 12 ∧
   (∀ st3 : tSt, st3 = tUp st2 32 y4_1.toNatClampNeg ((1 : Int32) <<< (y4_1 &&& 31)) →
    (fun z0 z1 z2 z3 w => ∃ q28, wp_Cast_markBars_28 post q28 z0 z1 z2 z3 w) x2 x3 y4_1 (0 : Int32) st3)))
def wp_Cast_allParts (st : tSt) (post : Int32 → tSt → Prop) : Prop :=
 post (((1 : Int32) <<< ((st 27 0) &&& 31)) - (1 : Int32)) st
def wp_Cast_tiedTo_59 (post : Int32 → tSt → Prop) (k29 : Int32 → Int32 → Int32 → Int32 → Int32 → tSt → Prop) (k65 : Int32 → Int32 → Int32 → Int32 → tSt → Prop) (x2 : Int32) (x3 : Int32) (x4 : Int32) (x5 : Int32) (x6 : Int32) (st : tSt) : Prop :=
 (∀ y6_1 : Int32, y6_1 = x6 + 1 →
  k29 x2 x3 x4 x5 y6_1 st)
def wp_Cast_tiedTo_65 (post : Int32 → tSt → Prop) (k10 : Int32 → Int32 → Int32 → Int32 → tSt → Prop) (x2 : Int32) (x3 : Int32) (x4 : Int32) (x5 : Int32) (st : tSt) : Prop :=
 (∀ y5_1 : Int32, y5_1 = x5 + 1 →
  k10 x2 x3 x4 y5_1 st)
def wp_Cast_tiedTo_29 (post : Int32 → tSt → Prop) (k65 : Int32 → Int32 → Int32 → Int32 → tSt → Prop) : Nat → Int32 → Int32 → Int32 → Int32 → Int32 → tSt → Prop
  | 0 => fun _ _ _ _ _ _ => False
  | n + 1 => fun x2 x3 x4 x5 x6 st =>
    (((st 27 0) ≤ x6 →
     k65 x2 x3 x4 x5 st) ∧
     (¬ (st 27 0) ≤ x6 →
     wp_T_hasBit x3 x6 st (fun r2 st1 =>
      ((r2 = 0 →
       (wp_Cast_tiedTo_59 post (wp_Cast_tiedTo_29 post k65 n) k65) x2 x3 x4 x5 x6 st1) ∧
       (¬ r2 = 0 →
       vp_in x6 12 ∧
       (∀ y3_3 : Int32, y3_3 = (x3 ||| ((st1 32 x6.toNatClampNeg) &&& x2)) →
        (wp_Cast_tiedTo_59 post (wp_Cast_tiedTo_29 post k65 n) k65) x2 y3_3 x4 x5 x6 st1))))))
def wp_Cast_tiedTo_10 (post : Int32 → tSt → Prop) : Nat → Int32 → Int32 → Int32 → Int32 → tSt → Prop
  | 0 => fun _ _ _ _ _ => False
  | n + 1 => fun x2 x3 x4 x5 st =>
    (((12 : Int32) ≤ x5 →
     post x3 st) ∧
     (¬ (12 : Int32) ≤ x5 →
     ((x3 = x4 →
      post x3 st) ∧
      (¬ x3 = x4 →
      (fun z0 z1 z2 z3 z4 w => ∃ q29, wp_Cast_tiedTo_29 post (wp_Cast_tiedTo_65 post (wp_Cast_tiedTo_10 post n)) q29 z0 z1 z2 z3 z4 w) x2 x3 x3 x5 (0 : Int32) st))))
def wp_Cast_tiedTo (x1 : Int32) (x2 : Int32) (st : tSt) (post : Int32 → tSt → Prop) : Prop :=
 (∀ y3_1 : Int32, y3_1 = ((1 : Int32) <<< (x1 &&& 31)) →
  (fun z0 z1 z2 z3 w => ∃ q10, wp_Cast_tiedTo_10 post q10 z0 z1 z2 z3 w) x2 y3_1 (0 : Int32) (0 : Int32) st)
def wp_Cast_takersOf_4 (post : Int32 → tSt → Prop) : Nat → Int32 → Int32 → Int32 → tSt → Prop
  | 0 => fun _ _ _ _ => False
  | n + 1 => fun x1 x2 x3 st =>
    (((6 : Int32) ≤ x3 →
     post x2 st) ∧
     (¬ (6 : Int32) ≤ x3 →
     vp_in x3 6 ∧
     (∀ y2_1 : Int32, y2_1 = (x2 + (((st 31 x3.toNatClampNeg) >>> (x1 &&& 31)) &&& (1 : Int32))) →
      (∀ y3_2 : Int32, y3_2 = x3 + 1 →
       (wp_Cast_takersOf_4 post n) x1 y2_1 y3_2 st))))
def wp_Cast_takersOf (x1 : Int32) (st : tSt) (post : Int32 → tSt → Prop) : Prop :=
 (fun z0 z1 z2 w => ∃ q4, wp_Cast_takersOf_4 post q4 z0 z1 z2 w) x1 (0 : Int32) (0 : Int32) st
def wp_Integer_bitCount (x0 : Int32) (st : tSt) (post : Int32 → tSt → Prop) : Prop :=
 (∀ y0_1 : Int32, y0_1 = (x0 - (((x0.toUInt32 >>> ((1 : Int32).toUInt32 &&& Int32.toUInt32 31)).toInt32) &&& (1431655765 : Int32))) →
  (∀ y0_2 : Int32, y0_2 = ((y0_1 &&& (858993459 : Int32)) + (((y0_1.toUInt32 >>> ((2 : Int32).toUInt32 &&& Int32.toUInt32 31)).toInt32) &&& (858993459 : Int32))) →
   (∀ y0_3 : Int32, y0_3 = ((y0_2 + ((y0_2.toUInt32 >>> ((4 : Int32).toUInt32 &&& Int32.toUInt32 31)).toInt32)) &&& (252645135 : Int32)) →
    (∀ y0_4 : Int32, y0_4 = (y0_3 + ((y0_3.toUInt32 >>> ((8 : Int32).toUInt32 &&& Int32.toUInt32 31)).toInt32)) →
     (∀ y0_5 : Int32, y0_5 = (y0_4 + ((y0_4.toUInt32 >>> ((16 : Int32).toUInt32 &&& Int32.toUInt32 31)).toInt32)) →
      post (y0_5 &&& (63 : Int32)) st)))))
def wp_Cast_hardestOf_80 (post : Int32 → tSt → Prop) (k11 : Int32 → Int32 → Int32 → Int32 → Int32 → tSt → Prop) (x1 : Int32) (x2 : Int32) (x3 : Int32) (x4 : Int32) (x5 : Int32) (st : tSt) : Prop :=
 (∀ y5_1 : Int32, y5_1 = x5 + 1 →
  k11 x1 x2 x3 x4 y5_1 st)
def wp_Cast_hardestOf_70 (post : Int32 → tSt → Prop) (k11 : Int32 → Int32 → Int32 → Int32 → Int32 → tSt → Prop) (x1 : Int32) (x5 : Int32) (x6 : Int32) (x7 : Int32) (st : tSt) : Prop :=
 (wp_Cast_hardestOf_80 post k11) x1 x5 x6 x7 x5 st
def wp_Cast_hardestOf_11 (post : Int32 → tSt → Prop) : Nat → Int32 → Int32 → Int32 → Int32 → Int32 → tSt → Prop
  | 0 => fun _ _ _ _ _ _ => False
  | n + 1 => fun x1 x2 x3 x4 x5 st =>
    (((st 27 0) ≤ x5 →
     post x2 st) ∧
     (¬ (st 27 0) ≤ x5 →
     wp_T_hasBit x1 x5 st (fun r2 st1 =>
      ((r2 = 0 →
       (wp_Cast_hardestOf_80 post (wp_Cast_hardestOf_11 post n)) x1 x2 x3 x4 x5 st1) ∧
       (¬ r2 = 0 →
       wp_Cast_takersOf x5 st1 (fun r4 st3 =>
        vp_in x5 12 ∧
        wp_Integer_bitCount ((st3 32 x5.toNatClampNeg) &&& x1) st3 (fun r6 st5 =>
         ((r4 < x3 →
          (wp_Cast_hardestOf_70 post (wp_Cast_hardestOf_11 post n)) x1 x5 r4 r6 st5) ∧
          (¬ r4 < x3 →
          ((r4 = x3 →
           ((r6 ≤ x4 →
            (wp_Cast_hardestOf_80 post (wp_Cast_hardestOf_11 post n)) x1 x2 x3 x4 x5 st5) ∧
            (¬ r6 ≤ x4 →
            (wp_Cast_hardestOf_70 post (wp_Cast_hardestOf_11 post n)) x1 x5 r4 r6 st5))) ∧
           (¬ r4 = x3 →
           (wp_Cast_hardestOf_80 post (wp_Cast_hardestOf_11 post n)) x1 x2 x3 x4 x5 st5)))))))))))
def wp_Cast_hardestOf (x1 : Int32) (st : tSt) (post : Int32 → tSt → Prop) : Prop :=
 (fun z0 z1 z2 z3 z4 w => ∃ q11, wp_Cast_hardestOf_11 post q11 z0 z1 z2 z3 z4 w) x1 (0 : Int32) (7 : Int32) (0 : Int32) (0 : Int32) st
def wp_Cast_isWorthTrying_37 (post : Int32 → tSt → Prop) (x1 : Int32) (x2 : Int32) (st : tSt) : Prop :=
 vp_in x1 6 ∧
 wp_T_hasBit (st 31 x1.toNatClampNeg) x2 st (fun r2 st1 =>
  (r2 = 0 ∨ r2 = 1) ∧
  post r2 st1)
def wp_Cast_isWorthTrying_3 (post : Int32 → tSt → Prop) (k37 : Int32 → Int32 → tSt → Prop) : Nat → Int32 → Int32 → Int32 → Int32 → tSt → Prop
  | 0 => fun _ _ _ _ _ => False
  | n + 1 => fun x1 x2 x3 x4 st =>
    ((x1 ≤ x4 →
     k37 x1 x2 st) ∧
     (¬ x1 ≤ x4 →
     vp_in x4 6 ∧
     vp_in x1 6 ∧
     ((((st 31 x4.toNatClampNeg) &&& x3) = ((st 31 x1.toNatClampNeg) &&& x3) →
      post (0 : Int32) st) ∧
      (¬ ((st 31 x4.toNatClampNeg) &&& x3) = ((st 31 x1.toNatClampNeg) &&& x3) →
      (∀ y4_1 : Int32, y4_1 = x4 + 1 →
       (wp_Cast_isWorthTrying_3 post k37 n) x1 x2 x3 y4_1 st)))))
def wp_Cast_isWorthTrying (x1 : Int32) (x2 : Int32) (x3 : Int32) (st : tSt) (post : Int32 → tSt → Prop) : Prop :=
 (fun z0 z1 z2 z3 w => ∃ q3, wp_Cast_isWorthTrying_3 post (wp_Cast_isWorthTrying_37 post) q3 z0 z1 z2 z3 w) x1 x2 x3 (0 : Int32) st
def wp_Cast_canGive_b (cf : Int32 → Int32 → tSt → (Int32 → tSt → Prop) → Prop) (x1 : Int32) (x2 : Int32) (x3 : Int32) (x4 : Int32) (st : tSt) (post : Int32 → tSt → Prop) : Prop :=
 ((x4 < (12 : Int32) →
  vp_in x2 6 ∧
  (∀ y5_1 : Int32, y5_1 = (st 31 x2.toNatClampNeg) →
   vp_in x1 12 ∧
   vp_in x2 6 ∧
   (∀ st2 : tSt, st2 = tUp st 31 x2.toNatClampNeg (y5_1 &&& ((st 32 x1.toNatClampNeg) ^^^ (-1 : Int32))) →
    cf (x3 &&& (((1 : Int32) <<< (x1 &&& 31)) ^^^ (-1 : Int32))) (x4 + (1 : Int32)) st2 (fun r4 st3 =>
     vp_in x2 6 ∧
     (∀ st5 : tSt, st5 = tUp st3 31 x2.toNatClampNeg y5_1 →
      ((r4 = 0 →
       (r4 = 0 ∨ r4 = 1) ∧
       post r4 st5) ∧
       (¬ r4 = 0 →
       vp_in x1 12 ∧
       (∀ st6 : tSt, st6 = tUp st5 34 x1.toNatClampNeg x2 →
        (r4 = 0 ∨ r4 = 1) ∧
        post r4 st6)))))))) ∧
  (¬ x4 < (12 : Int32) →
  post (0 : Int32) st))
def wp_Cast_canFill_b_47 (cg : Int32 → Int32 → Int32 → Int32 → tSt → (Int32 → tSt → Prop) → Prop) (post : Int32 → tSt → Prop) (k15 : Int32 → Int32 → Int32 → Int32 → tSt → Prop) (x1 : Int32) (x2 : Int32) (x3 : Int32) (x4 : Int32) (st : tSt) : Prop :=
 (∀ y4_1 : Int32, y4_1 = x4 + 1 →
  k15 x1 x2 x3 y4_1 st)
def wp_Cast_canFill_b_15 (cg : Int32 → Int32 → Int32 → Int32 → tSt → (Int32 → tSt → Prop) → Prop) (post : Int32 → tSt → Prop) : Nat → Int32 → Int32 → Int32 → Int32 → tSt → Prop
  | 0 => fun _ _ _ _ _ => False
  | n + 1 => fun x1 x2 x3 x4 st =>
    (((6 : Int32) ≤ x4 →
     post (0 : Int32) st) ∧
     (¬ (6 : Int32) ≤ x4 →
     wp_Cast_isWorthTrying x4 x3 x1 st (fun r2 st1 =>
      ((r2 = 0 →
       (wp_Cast_canFill_b_47 cg post (wp_Cast_canFill_b_15 cg post n)) x1 x2 x3 x4 st1) ∧
       (¬ r2 = 0 →
       cg x3 x4 x1 x2 st1 (fun r4 st3 =>
        ((r4 = 0 →
         (wp_Cast_canFill_b_47 cg post (wp_Cast_canFill_b_15 cg post n)) x1 x2 x3 x4 st3) ∧
         (¬ r4 = 0 →
         post (1 : Int32) st3))))))))
def wp_Cast_canFill_b (cg : Int32 → Int32 → Int32 → Int32 → tSt → (Int32 → tSt → Prop) → Prop) (x1 : Int32) (x2 : Int32) (st : tSt) (post : Int32 → tSt → Prop) : Prop :=
 ((x1 = 0 →
  post (1 : Int32) st) ∧
  (¬ x1 = 0 →
  wp_Cast_hardestOf x1 st (fun r2 st1 =>
   (fun z0 z1 z2 z3 w => ∃ q15, wp_Cast_canFill_b_15 cg post q15 z0 z1 z2 z3 w) x1 x2 r2 (0 : Int32) st1)))
def wp_Cast_canFill : Nat → Int32 → Int32 → tSt → (Int32 → tSt → Prop) → Prop
  | 0 => fun _ _ _ _ => False
  | d + 1 => wp_Cast_canFill_b (wp_Cast_canGive_b (wp_Cast_canFill d))
def wp_Cast_canGive (d : Nat) : Int32 → Int32 → Int32 → Int32 → tSt → (Int32 → tSt → Prop) → Prop := wp_Cast_canGive_b (wp_Cast_canFill d)
def wp_Cast_admit_97 (post : Int32 → tSt → Prop) : Nat → Int32 → tSt → Prop
  | 0 => fun _ _ => False
  | n + 1 => fun x6 st =>
    (((6 : Int32) ≤ x6 →
     post (0 : Int32) st) ∧
     (¬ (6 : Int32) ≤ x6 →
     vp_in x6 6 ∧
     wp_Cast_allParts st (fun r2 st1 =>
      vp_in x6 6 ∧
      (∀ st3 : tSt, st3 = tUp st1 31 x6.toNatClampNeg ((st 31 x6.toNatClampNeg) &&& r2) →
       (∀ y6_4 : Int32, y6_4 = x6 + 1 →
        (wp_Cast_admit_97 post n) y6_4 st3)))))
def wp_Cast_admit_68 (post : Int32 → tSt → Prop) (x5 : Int32) (st : tSt) : Prop :=
 wp_Cast_allParts st (fun r2 st1 =>
  wp_Cast_tiedTo x5 r2 st1 (fun r4 st3 =>
   wp_Cast_canFill 13 r4 (0 : Int32) st3 (fun r6 st5 =>
    ((r6 = 0 →
     (∀ st7 : tSt, st7 = tUp st5 27 0 x5 →
      (fun z0 w => ∃ q97, wp_Cast_admit_97 post q97 z0 w) (0 : Int32) st7)) ∧
     (¬ r6 = 0 →
     post (1 : Int32) st5)))))
def wp_Cast_admit_9 (post : Int32 → tSt → Prop) (k68 : Int32 → tSt → Prop) : Nat → Int32 → Int32 → Int32 → Int32 → tSt → Prop
  | 0 => fun _ _ _ _ _ => False
  | n + 1 => fun x2 x4 x5 x6 st =>
    vp_in x2 6 ∧
    wp_Call_partCount x2.toNatClampNeg st (fun r2 st1 =>
     ((r2 ≤ x6 →
      k68 x5 st1) ∧
      (¬ r2 ≤ x6 →
      (((12 : Int32) ≤ (st1 27 0) →
       k68 x5 st1) ∧
       (¬ (12 : Int32) ≤ (st1 27 0) →
       vp_in x2 6 ∧
       wp_Call_fact x2.toNatClampNeg ((5 : Int32) + x6) st1 (fun r4 st3 =>
        wp_Cast_markTakers r4 st3 (fun st5 =>
         wp_Cast_markBars x2 x4 st5 (fun st6 =>
          (∀ st7 : tSt, st7 = tUp st6 27 0 ((st6 27 0) + (1 : Int32)) →
           (∀ y6_8 : Int32, y6_8 = x6 + 1 →
            (wp_Cast_admit_9 post k68 n) x2 x4 x5 y6_8 st7))))))))))
def wp_Cast_admit (x2 : Int32) (x4 : Int32) (st : tSt) (post : Int32 → tSt → Prop) : Prop :=
 (∀ y5_1 : Int32, y5_1 = (st 27 0) →
  (fun z0 z1 z2 z3 w => ∃ q9, wp_Cast_admit_9 post (wp_Cast_admit_68 post) q9 z0 z1 z2 z3 w) x2 x4 y5_1 (0 : Int32) st)
def wp_Cast_lowerAll_76 (post : tSt → Prop) (k36 : Int32 → Int32 → Int32 → Int32 → Int32 → Int32 → tSt → Prop) (k84 : Int32 → Int32 → tSt → Prop) (x1 : Int32) (x2 : Int32) (x3 : Int32) (x4 : Int32) (x6 : Int32) (s0 : Int32) (st : tSt) : Prop :=
 (∀ y6_1 : Int32, y6_1 = x6 + 1 →
  k36 x1 x2 x3 x4 s0 y6_1 st)
def wp_Cast_lowerAll_75 (post : tSt → Prop) (k36 : Int32 → Int32 → Int32 → Int32 → Int32 → Int32 → tSt → Prop) (k84 : Int32 → Int32 → tSt → Prop) (x1 : Int32) (x2 : Int32) (x3 : Int32) (x4 : Int32) (x6 : Int32) (st : tSt) : Prop :=
 (wp_Cast_lowerAll_76 post k36 k84) x1 x2 x3 x4 x6 (0 : Int32) st
def wp_Cast_lowerAll_84 (post : tSt → Prop) (k7 : Int32 → Int32 → tSt → Prop) (x1 : Int32) (x2 : Int32) (st : tSt) : Prop :=
 vp_in x2 12 ∧
 vp_in (st 34 x2.toNatClampNeg) 6 ∧
 vp_in x2 12 ∧
 vp_in (st 34 x2.toNatClampNeg) 6 ∧
 (∀ st1 : tSt, st1 = tUp st 31 (st 34 x2.toNatClampNeg).toNatClampNeg ((st 31 (st 34 x2.toNatClampNeg).toNatClampNeg) &&& ((st 32 x2.toNatClampNeg) ^^^ (-1 : Int32))) →
  (∀ y1_2 : Int32, y1_2 = (x1 &&& (((1 : Int32) <<< (x2 &&& 31)) ^^^ (-1 : Int32))) →
   (∀ y2_3 : Int32, y2_3 = x2 + 1 →
    k7 y1_2 y2_3 st1)))
def wp_Cast_lowerAll_36 (post : tSt → Prop) (k84 : Int32 → Int32 → tSt → Prop) : Nat → Int32 → Int32 → Int32 → Int32 → Int32 → Int32 → tSt → Prop
  | 0 => fun _ _ _ _ _ _ _ => False
  | n + 1 => fun x1 x2 x3 x4 x5 x6 st =>
    ((x4 ≤ x6 →
     k84 x1 x2 st) ∧
     (¬ x4 ≤ x6 →
     ((x5 = 0 →
      wp_Cast_isWorthTrying x6 x2 x3 st (fun r2 st1 =>
       ((r2 = 0 →
        (wp_Cast_lowerAll_75 post (wp_Cast_lowerAll_36 post k84 n) k84) x1 x2 x3 x4 x6 st1) ∧
        (¬ r2 = 0 →
        wp_Cast_canGive 13 x2 x6 x3 x2 st1 (fun r4 st3 =>
         ((r4 = 0 →
          (wp_Cast_lowerAll_75 post (wp_Cast_lowerAll_36 post k84 n) k84) x1 x2 x3 x4 x6 st3) ∧
          (¬ r4 = 0 →
          (wp_Cast_lowerAll_76 post (wp_Cast_lowerAll_36 post k84 n) k84) x1 x2 x3 x4 x6 (1 : Int32) st3))))))) ∧
      (¬ x5 = 0 →
      k84 x1 x2 st))))
def wp_Cast_lowerAll_7 (post : tSt → Prop) : Nat → Int32 → Int32 → tSt → Prop
  | 0 => fun _ _ _ => False
  | n + 1 => fun x1 x2 st =>
    (((st 27 0) ≤ x2 →
     post st) ∧
     (¬ (st 27 0) ≤ x2 →
     wp_Cast_tiedTo x2 x1 st (fun r2 st1 =>
      vp_in x2 12 ∧
      (∀ y4_3 : Int32, y4_3 = (st1 34 x2.toNatClampNeg) →
       (fun z0 z1 z2 z3 z4 z5 w => ∃ q36, wp_Cast_lowerAll_36 post (wp_Cast_lowerAll_84 post (wp_Cast_lowerAll_7 post n)) q36 z0 z1 z2 z3 z4 z5 w) x1 x2 r2 y4_3 (0 : Int32) (0 : Int32) st1))))
def wp_Cast_lowerAll (st : tSt) (post : tSt → Prop) : Prop :=
 wp_Cast_allParts st (fun r2 st1 =>
  (fun z0 z1 w => ∃ q7, wp_Cast_lowerAll_7 post q7 z0 z1 w) r2 (0 : Int32) st1)
def wp_Plan_playedBits (st : tSt) (post : Int32 → tSt → Prop) : Prop :=
 post (st 26 0) st
def wp_Plan_has (x1 : Int32) (st : tSt) (post : Int32 → tSt → Prop) : Prop :=
 wp_T_within x1 (0 : Int32) (5 : Int32) st (fun r2 st1 =>
  ((r2 = 0 →
   post (0 : Int32) st1) ∧
   (¬ r2 = 0 →
   wp_T_hasBit (st1 26 0) x1 st1 (fun r4 st3 =>
    ((r4 = 0 →
     post (0 : Int32) st3) ∧
     (¬ r4 = 0 →
     post (1 : Int32) st3))))))
def wp_Plan_piperOf (x1 : Int32) (x2 : Int32) (st : tSt) (post : Int32 → tSt → Prop) : Prop :=
 wp_Cast_piperOf x1 x2 st (fun r2 st1 =>
  post r2 st1)
def wp_Plan_tuneOf (x1 : Int32) (st : tSt) (post : Int32 → tSt → Prop) : Prop :=
 wp_Plan_has x1 st (fun r2 st1 =>
  ((r2 = 0 →
   post (-1 : Int32) st1) ∧
   (¬ r2 = 0 →
   vp_in x1 6 ∧
   post (st1 29 x1.toNatClampNeg) st1)))
def wp_Plan_partsOf (x1 : Int32) (st : tSt) (post : Int32 → tSt → Prop) : Prop :=
 wp_Cast_partsOf x1 st (fun r2 st1 =>
  post r2 st1)
def wp_Plan_hasPiecesAt_56 (post : Int32 → tSt → Prop) (k15 : Int32 → Int32 → Int32 → Int32 → Int32 → tSt → Prop) (k62 : Int32 → Int32 → Int32 → Int32 → tSt → Prop) (x2 : Int32) (x3 : Int32) (x4 : Int32) (x5 : Int32) (x6 : Int32) (st : tSt) : Prop :=
 (∀ y6_1 : Int32, y6_1 = x6 + 1 →
  k15 x2 x3 x4 x5 y6_1 st)
def wp_Plan_hasPiecesAt_62 (post : Int32 → tSt → Prop) (k3 : Int32 → Int32 → Int32 → tSt → Prop) (x2 : Int32) (x3 : Int32) (x4 : Int32) (x5 : Int32) (st : tSt) : Prop :=
 vp_in x4 5 ∧
 ((x5 ≤ (st 23 x4.toNatClampNeg) →
  (∀ y4_1 : Int32, y4_1 = x4 + 1 →
   k3 x2 x3 y4_1 st)) ∧
  (¬ x5 ≤ (st 23 x4.toNatClampNeg) →
  post (0 : Int32) st))
def wp_Plan_hasPiecesAt_15 (post : Int32 → tSt → Prop) (k62 : Int32 → Int32 → Int32 → Int32 → tSt → Prop) : Nat → Int32 → Int32 → Int32 → Int32 → Int32 → tSt → Prop
  | 0 => fun _ _ _ _ _ _ => False
  | n + 1 => fun x2 x3 x4 x5 x6 st =>
    (((6 : Int32) ≤ x6 →
     k62 x2 x3 x4 x5 st) ∧
     (¬ (6 : Int32) ≤ x6 →
     wp_T_hasBit x2 x6 st (fun r2 st1 =>
      ((r2 = 0 →
       (wp_Plan_hasPiecesAt_56 post (wp_Plan_hasPiecesAt_15 post k62 n) k62) x2 x3 x4 x5 x6 st1) ∧
       (¬ r2 = 0 →
       vp_in x6 6 ∧
       wp_Call_isOnAt x6.toNatClampNeg x3 st1 (fun r4 st3 =>
        ((r4 = 0 →
         (wp_Plan_hasPiecesAt_56 post (wp_Plan_hasPiecesAt_15 post k62 n) k62) x2 x3 x4 x5 x6 st3) ∧
         (¬ r4 = 0 →
         vp_in x6 6 ∧
         wp_Call_partsWith x6.toNatClampNeg x4 st3 (fun r6 st5 =>
          (∀ y5_7 : Int32, y5_7 = (x5 + r6) →
           (wp_Plan_hasPiecesAt_56 post (wp_Plan_hasPiecesAt_15 post k62 n) k62) x2 x3 x4 y5_7 x6 st5))))))))))
def wp_Plan_hasPiecesAt_3 (post : Int32 → tSt → Prop) : Nat → Int32 → Int32 → Int32 → tSt → Prop
  | 0 => fun _ _ _ _ => False
  | n + 1 => fun x2 x3 x4 st =>
    (((5 : Int32) ≤ x4 →
     post (1 : Int32) st) ∧
     (¬ (5 : Int32) ≤ x4 →
     (fun z0 z1 z2 z3 z4 w => ∃ q15, wp_Plan_hasPiecesAt_15 post (wp_Plan_hasPiecesAt_62 post (wp_Plan_hasPiecesAt_3 post n)) q15 z0 z1 z2 z3 z4 w) x2 x3 x4 (0 : Int32) (0 : Int32) st))
def wp_Plan_hasPiecesAt (x2 : Int32) (x3 : Int32) (st : tSt) (post : Int32 → tSt → Prop) : Prop :=
 (fun z0 z1 z2 w => ∃ q3, wp_Plan_hasPiecesAt_3 post q3 z0 z1 z2 w) x2 x3 (0 : Int32) st
def wp_Plan_hasPieces_50 (post : Int32 → tSt → Prop) (k13 : Int32 → Int32 → tSt → Prop) (x4 : Int32) (x5 : Int32) (st : tSt) : Prop :=
 (∀ y5_1 : Int32, y5_1 = x5 + 1 →
  k13 x4 y5_1 st)
def wp_Plan_hasPieces_13 (post : Int32 → tSt → Prop) : Nat → Int32 → Int32 → tSt → Prop
  | 0 => fun _ _ _ => False
  | n + 1 => fun x4 x5 st =>
    (((6 : Int32) ≤ x5 →
     post (1 : Int32) st) ∧
     (¬ (6 : Int32) ≤ x5 →
     wp_T_hasBit x4 x5 st (fun r2 st1 =>
      ((r2 = 0 →
       (wp_Plan_hasPieces_50 post (wp_Plan_hasPieces_13 post n)) x4 x5 st1) ∧
       (¬ r2 = 0 →
       vp_in x5 6 ∧
       wp_Call_fact x5.toNatClampNeg (1 : Int32) st1 (fun r4 st3 =>
        wp_Plan_hasPiecesAt x4 r4 st3 (fun r6 st5 =>
         ((r6 = 0 →
          post (0 : Int32) st5) ∧
          (¬ r6 = 0 →
          (wp_Plan_hasPieces_50 post (wp_Plan_hasPieces_13 post n)) x4 x5 st5)))))))))
def wp_Plan_hasPieces (x3 : Int32) (st : tSt) (post : Int32 → tSt → Prop) : Prop :=
 (∀ y4_1 : Int32, y4_1 = ((st 26 0) ||| ((1 : Int32) <<< (x3 &&& 31))) →
  (fun z0 z1 w => ∃ q13, wp_Plan_hasPieces_13 post q13 z0 z1 w) y4_1 (0 : Int32) st)
def wp_Plan_takeTurn (x1 : Int32) (st : tSt) (post : tSt → Prop) : Prop :=
 (((6 : Int32) ≤ (st 25 0) →
  post st) ∧
  (¬ (6 : Int32) ≤ (st 25 0) →
  vp_in (st 25 0) 6 ∧
  (∀ st1 : tSt, st1 = tUp st 28 (st 25 0).toNatClampNeg x1 →
   (∀ st2 : tSt, st2 = tUp st1 25 0 ((st1 25 0) + (1 : Int32)) →
    (∀ st3 : tSt, st3 = tUp st2 26 0 ((st2 26 0) ||| ((1 : Int32) <<< (x1 &&& 31))) →
     post st3)))))
def wp_Plan_castCalls_81 (post : tSt → Prop) (k29 : Int32 → Int32 → Int32 → tSt → Prop) (k87 : Int32 → Int32 → tSt → Prop) (x4 : Int32) (x5 : Int32) (x6 : Int32) (st : tSt) : Prop :=
 (∀ y6_1 : Int32, y6_1 = x6 + 1 →
  k29 x4 x5 y6_1 st)
def wp_Plan_castCalls_87 (post : tSt → Prop) (k20 : Int32 → Int32 → tSt → Prop) (k93 : tSt → Prop) (x4 : Int32) (x5 : Int32) (st : tSt) : Prop :=
 (∀ y5_1 : Int32, y5_1 = x5 + 1 →
  k20 x4 y5_1 st)
def wp_Plan_castCalls_29 (post : tSt → Prop) (k87 : Int32 → Int32 → tSt → Prop) : Nat → Int32 → Int32 → Int32 → tSt → Prop
  | 0 => fun _ _ _ _ => False
  | n + 1 => fun x4 x5 x6 st =>
    (((6 : Int32) ≤ x6 →
     k87 x4 x5 st) ∧
     (¬ (6 : Int32) ≤ x6 →
     vp_in x6 6 ∧
     wp_Call_isOfOrder x6.toNatClampNeg x5 st (fun r2 st1 =>
      ((r2 = 0 →
       (wp_Plan_castCalls_81 post (wp_Plan_castCalls_29 post k87 n) k87) x4 x5 x6 st1) ∧
       (¬ r2 = 0 →
       wp_Plan_hasPieces x6 st1 (fun r4 st3 =>
        ((r4 = 0 →
         (wp_Plan_castCalls_81 post (wp_Plan_castCalls_29 post k87 n) k87) x4 x5 x6 st3) ∧
         (¬ r4 = 0 →
         wp_Cast_admit x6 x4 st3 (fun r6 st5 =>
          ((r6 = 0 →
           (wp_Plan_castCalls_81 post (wp_Plan_castCalls_29 post k87 n) k87) x4 x5 x6 st5) ∧
           (¬ r6 = 0 →
           wp_Plan_takeTurn x6 st5 (fun st7 =>
            (wp_Plan_castCalls_81 post (wp_Plan_castCalls_29 post k87 n) k87) x4 x5 x6 st7))))))))))))
def wp_Plan_castCalls_93 (post : tSt → Prop) (st : tSt) : Prop :=
 wp_Cast_lowerAll st (fun st1 =>
  post st1)
def wp_Plan_castCalls_20 (post : tSt → Prop) (k93 : tSt → Prop) : Nat → Int32 → Int32 → tSt → Prop
  | 0 => fun _ _ _ => False
  | n + 1 => fun x4 x5 st =>
    (((3 : Int32) < x5 →
     k93 st) ∧
     (¬ (3 : Int32) < x5 →
     (fun z0 z1 z2 w => ∃ q29, wp_Plan_castCalls_29 post (wp_Plan_castCalls_87 post (wp_Plan_castCalls_20 post k93 n) k93) q29 z0 z1 z2 w) x4 x5 (0 : Int32) st))
def wp_Plan_castCalls (x4 : Int32) (st : tSt) (post : tSt → Prop) : Prop :=
 wp_Cast_clear st (fun st1 =>
  (∀ st2 : tSt, st2 = tUp st1 25 0 (0 : Int32) →
   (∀ st3 : tSt, st3 = tUp st2 26 0 (0 : Int32) →
    (fun z0 z1 w => ∃ q20, wp_Plan_castCalls_20 post (wp_Plan_castCalls_93 post) q20 z0 z1 w) x4 (0 : Int32) st3)))
def wp_Plan_longestUnheard_52 (post : Int32 → tSt → Prop) (k6 : Int32 → Int32 → Int32 → Int32 → tSt → Prop) (x2 : Int32) (x3 : Int32) (x4 : Int32) (x5 : Int32) (st : tSt) : Prop :=
 (∀ y5_1 : Int32, y5_1 = x5 + 1 →
  k6 x2 x3 x4 y5_1 st)
def wp_Plan_longestUnheard_48 (post : Int32 → tSt → Prop) (k6 : Int32 → Int32 → Int32 → Int32 → tSt → Prop) (x2 : Int32) (x3 : Int32) (x5 : Int32) (st : tSt) : Prop :=
 (wp_Plan_longestUnheard_52 post k6) x2 x3 x5 x5 st
def wp_Plan_longestUnheard_6 (post : Int32 → tSt → Prop) : Nat → Int32 → Int32 → Int32 → Int32 → tSt → Prop
  | 0 => fun _ _ _ _ _ => False
  | n + 1 => fun x2 x3 x4 x5 st =>
    (((10 : Int32) ≤ x5 →
     post x4 st) ∧
     (¬ (10 : Int32) ≤ x5 →
     vp_in x5 10 ∧
     wp_Tune_fits x5.toNatClampNeg x2 x3 st (fun r2 st1 =>
      ((r2 = 0 →
       (wp_Plan_longestUnheard_52 post (wp_Plan_longestUnheard_6 post n)) x2 x3 x4 x5 st1) ∧
       (¬ r2 = 0 →
       ((x4 = (-1 : Int32) →
        (wp_Plan_longestUnheard_48 post (wp_Plan_longestUnheard_6 post n)) x2 x3 x5 st1) ∧
        (¬ x4 = (-1 : Int32) →
        vp_in x5 10 ∧
        vp_in x4 10 ∧
        (((st1 30 x4.toNatClampNeg) ≤ (st1 30 x5.toNatClampNeg) →
         (wp_Plan_longestUnheard_52 post (wp_Plan_longestUnheard_6 post n)) x2 x3 x4 x5 st1) ∧
         (¬ (st1 30 x4.toNatClampNeg) ≤ (st1 30 x5.toNatClampNeg) →
         (wp_Plan_longestUnheard_48 post (wp_Plan_longestUnheard_6 post n)) x2 x3 x5 st1)))))))))
def wp_Plan_longestUnheard (x2 : Int32) (x3 : Int32) (st : tSt) (post : Int32 → tSt → Prop) : Prop :=
 (fun z0 z1 z2 z3 w => ∃ q6, wp_Plan_longestUnheard_6 post q6 z0 z1 z2 z3 w) x2 x3 (-1 : Int32) (0 : Int32) st
def wp_Plan_chooseTunes_94 (post : tSt → Prop) (k33 : Int32 → Int32 → Int32 → tSt → Prop) (x3 : Int32) (x4 : Int32) (x5 : Int32) (st : tSt) : Prop :=
 (∀ y5_1 : Int32, y5_1 = x5 + 1 →
  k33 x3 x4 y5_1 st)
def wp_Plan_chooseTunes_33 (post : tSt → Prop) : Nat → Int32 → Int32 → Int32 → tSt → Prop
  | 0 => fun _ _ _ _ => False
  | n + 1 => fun x3 x4 x5 st =>
    (((st 25 0) ≤ x5 →
     post st) ∧
     (¬ (st 25 0) ≤ x5 →
     vp_in x5 6 ∧
     (∀ y6_1 : Int32, y6_1 = (st 28 x5.toNatClampNeg) →
      vp_in y6_1 6 ∧
      wp_Call_fact y6_1.toNatClampNeg (4 : Int32) st (fun r3 st2 =>
       wp_Plan_longestUnheard r3 x3 st2 (fun r5 st4 =>
        vp_in y6_1 6 ∧
        (∀ st6 : tSt, st6 = tUp st4 29 y6_1.toNatClampNeg r5 →
         ((r5 = (-1 : Int32) →
          (wp_Plan_chooseTunes_94 post (wp_Plan_chooseTunes_33 post n)) x3 x4 x5 st6) ∧
          (¬ r5 = (-1 : Int32) →
          vp_in r5 10 ∧
          (∀ st7 : tSt, st7 = tUp st6 30 r5.toNatClampNeg (x4 + x5) →
           (wp_Plan_chooseTunes_94 post (wp_Plan_chooseTunes_33 post n)) x3 x4 x5 st7)))))))))
def wp_Plan_chooseTunes_30 (post : tSt → Prop) (x3 : Int32) (x4 : Int32) (st : tSt) : Prop :=
 (fun z0 z1 z2 w => ∃ q33, wp_Plan_chooseTunes_33 post q33 z0 z1 z2 w) x3 x4 (0 : Int32) st
def wp_Plan_chooseTunes_3 (post : tSt → Prop) (k30 : Int32 → Int32 → tSt → Prop) : Nat → Int32 → Int32 → Int32 → tSt → Prop
  | 0 => fun _ _ _ _ => False
  | n + 1 => fun x3 x4 x5 st =>
    (((10 : Int32) ≤ x5 →
     k30 x3 x4 st) ∧
     (¬ (10 : Int32) ≤ x5 →
     vp_in x5 10 ∧
     vp_in x5 10 ∧
     (∀ st1 : tSt, st1 = tUp st 30 x5.toNatClampNeg (st 22 x5.toNatClampNeg) →
      (∀ y5_2 : Int32, y5_2 = x5 + 1 →
       (wp_Plan_chooseTunes_3 post k30 n) x3 x4 y5_2 st1))))
def wp_Plan_chooseTunes (x3 : Int32) (x4 : Int32) (st : tSt) (post : tSt → Prop) : Prop :=
 (fun z0 z1 z2 w => ∃ q3, wp_Plan_chooseTunes_3 post (wp_Plan_chooseTunes_30 post) q3 z0 z1 z2 w) x3 x4 (0 : Int32) st
def wp_Plan_hearTunes_2 (post : tSt → Prop) : Nat → Int32 → tSt → Prop
  | 0 => fun _ _ => False
  | n + 1 => fun x2 st =>
    (((10 : Int32) ≤ x2 →
     post st) ∧
     (¬ (10 : Int32) ≤ x2 →
     vp_in x2 10 ∧
     vp_in x2 10 ∧
     (∀ st1 : tSt, st1 = tUp st 22 x2.toNatClampNeg (st 30 x2.toNatClampNeg) →
      (∀ y2_2 : Int32, y2_2 = x2 + 1 →
       (wp_Plan_hearTunes_2 post n) y2_2 st1))))
def wp_Plan_hearTunes (st : tSt) (post : tSt → Prop) : Prop :=
 (fun z0 w => ∃ q2, wp_Plan_hearTunes_2 post q2 z0 w) (0 : Int32) st
def wp_T_feed (x1 : Int32) (x2 : Int32) (x3 : Int32) (x4 : Int32) (x5 : Int32) (st : tSt) (post : Int32 → tSt → Prop) : Prop :=
 wp_Tape_hasRoom st (fun r2 st1 =>
  ((r2 = 0 →
   post (-1 : Int32) st1) ∧
   (¬ r2 = 0 →
   wp_Tape_put x1 st1 (fun st3 =>
    wp_Tape_put x2 st3 (fun st4 =>
     wp_Tape_put x3 st4 (fun st5 =>
      wp_Tape_put x4 st5 (fun st6 =>
       wp_Tape_put x5 st6 (fun st7 =>
        wp_Tape_size st7 (fun r9 st8 =>
         post r9 st8)))))))))
def wp_T_word (x1 : Int32) (st : tSt) (post : Int32 → tSt → Prop) : Prop :=
 ((x1 < 0 →
  post (-1 : Int32) st) ∧
  (¬ x1 < 0 →
  wp_Tape_size st (fun r2 st1 =>
   ((x1 ≤ r2 →
    wp_TownWord_read x1 st1 (fun r4 st3 =>
     wp_Tape_empty st3 (fun st5 =>
      (∀ st6 : tSt, st6 = tUp st5 4 0 (0 : Int32) →
       post r4 st6)))) ∧
    (¬ x1 ≤ r2 →
    post (-1 : Int32) st1)))))
def wp_T_piper (x1 : Int32) (x2 : Int32) (st : tSt) (post : Int32 → tSt → Prop) : Prop :=
 (((6 : Int32) ≤ (st 0 0) →
  post (-1 : Int32) st) ∧
  (¬ (6 : Int32) ≤ (st 0 0) →
  wp_T_within x1 (1 : Int32) (9 : Int32) st (fun r2 st1 =>
   ((r2 = 0 →
    post (-1 : Int32) st1) ∧
    (¬ r2 = 0 →
    wp_T_within x2 (1 : Int32) (31 : Int32) st1 (fun r4 st3 =>
     ((r4 = 0 →
      post (-1 : Int32) st3) ∧
      (¬ r4 = 0 →
      (∀ y3_5 : Int32, y3_5 = (st3 0 0) →
       vp_in y3_5 6 ∧
       wp_Piper_join y3_5.toNatClampNeg x1 x2 st3 (fun st6 =>
        (∀ st7 : tSt, st7 = tUp st6 0 0 ((st6 0 0) + (1 : Int32)) →
         (∀ st8 : tSt, st8 = tUp st7 4 0 (0 : Int32) →
          post y3_5 st8))))))))))))
def wp_T_isPiper (x1 : Int32) (st : tSt) (post : Int32 → tSt → Prop) : Prop :=
 wp_T_within x1 (0 : Int32) ((st 0 0) - (1 : Int32)) st (fun r2 st1 =>
  (r2 = 0 ∨ r2 = 1) ∧
  post r2 st1)
def wp_T_ill_9 (post : Int32 → tSt → Prop) (x1 : Int32) (s0 : Int32) (st : tSt) : Prop :=
 wp_T_isPiper x1 st (fun r2 st1 =>
  ((r2 = 0 →
   post (0 : Int32) st1) ∧
   (¬ r2 = 0 →
   vp_in x1 6 ∧
   (((st1 11 x1.toNatClampNeg) = (2 : Int32) →
    post (0 : Int32) st1) ∧
    (¬ (st1 11 x1.toNatClampNeg) = (2 : Int32) →
    vp_in x1 6 ∧
    (((st1 11 x1.toNatClampNeg) = s0 →
     post (0 : Int32) st1) ∧
     (¬ (st1 11 x1.toNatClampNeg) = s0 →
     vp_in x1 6 ∧
     (∀ st3 : tSt, st3 = tUp st1 11 x1.toNatClampNeg s0 →
      (∀ st4 : tSt, st4 = tUp st3 4 0 (0 : Int32) →
       post (1 : Int32) st4)))))))))
def wp_T_ill (x1 : Int32) (x2 : Int32) (st : tSt) (post : Int32 → tSt → Prop) : Prop :=
 ((x2 = 0 →
  (wp_T_ill_9 post) x1 (0 : Int32) st) ∧
  (¬ x2 = 0 →
  (wp_T_ill_9 post) x1 (1 : Int32) st))
def wp_T_old (x1 : Int32) (st : tSt) (post : Int32 → tSt → Prop) : Prop :=
 wp_T_isPiper x1 st (fun r2 st1 =>
  ((r2 = 0 →
   post (0 : Int32) st1) ∧
   (¬ r2 = 0 →
   vp_in x1 6 ∧
   (((st1 11 x1.toNatClampNeg) = (2 : Int32) →
    post (0 : Int32) st1) ∧
    (¬ (st1 11 x1.toNatClampNeg) = (2 : Int32) →
    vp_in x1 6 ∧
    (∀ st3 : tSt, st3 = tUp st1 11 x1.toNatClampNeg (2 : Int32) →
     (∀ st4 : tSt, st4 = tUp st3 4 0 (0 : Int32) →
      post (1 : Int32) st4)))))))
def wp_T_pieces (x1 : Int32) (x2 : Int32) (st : tSt) (post : Int32 → tSt → Prop) : Prop :=
 wp_T_within x1 (0 : Int32) (4 : Int32) st (fun r2 st1 =>
  ((r2 = 0 →
   post (0 : Int32) st1) ∧
   (¬ r2 = 0 →
   wp_T_within x2 (0 : Int32) (3 : Int32) st1 (fun r4 st3 =>
    ((r4 = 0 →
     post (0 : Int32) st3) ∧
     (¬ r4 = 0 →
     vp_in x1 5 ∧
     (∀ st5 : tSt, st5 = tUp st3 23 x1.toNatClampNeg x2 →
      (∀ st6 : tSt, st6 = tUp st5 4 0 (0 : Int32) →
       post (1 : Int32) st6))))))))
def wp_T_freeCall_2 (post : Int32 → tSt → Prop) : Nat → Int32 → tSt → Prop
  | 0 => fun _ _ => False
  | n + 1 => fun x1 st =>
    (((6 : Int32) ≤ x1 →
     post (-1 : Int32) st) ∧
     (¬ (6 : Int32) ≤ x1 →
     vp_in x1 6 ∧
     (((st 13 x1.toNatClampNeg) = 0 →
      post x1 st) ∧
      (¬ (st 13 x1.toNatClampNeg) = 0 →
      (∀ y1_1 : Int32, y1_1 = x1 + 1 →
       (wp_T_freeCall_2 post n) y1_1 st)))))
def wp_T_freeCall (st : tSt) (post : Int32 → tSt → Prop) : Prop :=
 (fun z0 w => ∃ q2, wp_T_freeCall_2 post q2 z0 w) (0 : Int32) st
def wp_T_call (x1 : Int32) (x2 : Int32) (x3 : Int32) (x4 : Int32) (x5 : Int32) (x6 : Int32) (x7 : Int32) (x8 : Int32) (st : tSt) (post : Int32 → tSt → Prop) : Prop :=
 (∀ st1 : tSt, st1 = tUp st 24 0 x1 →
  (∀ st2 : tSt, st2 = tUp st1 24 1 x2 →
   (∀ st3 : tSt, st3 = tUp st2 24 2 x3 →
    (∀ st4 : tSt, st4 = tUp st3 24 3 x4 →
     (∀ st5 : tSt, st5 = tUp st4 24 4 x5 →
      (∀ st6 : tSt, st6 = tUp st5 24 5 x6 →
       (∀ st7 : tSt, st7 = tUp st6 24 6 x7 →
        (∀ st8 : tSt, st8 = tUp st7 24 7 x8 →
         wp_T_freeCall st8 (fun r10 st9 =>
          ((r10 = (-1 : Int32) →
           post (-1 : Int32) st9) ∧
           (¬ r10 = (-1 : Int32) →
           wp_Call_canBe st9 (fun r12 st11 =>
            ((r12 = 0 →
             post (-1 : Int32) st11) ∧
             (¬ r12 = 0 →
             vp_in r10 6 ∧
             wp_Call_come r10.toNatClampNeg st11 (fun st13 =>
              (∀ st14 : tSt, st14 = tUp st13 4 0 (0 : Int32) →
               post r10 st14))))))))))))))))
def wp_T_isCall (x1 : Int32) (st : tSt) (post : Int32 → tSt → Prop) : Prop :=
 wp_T_within x1 (0 : Int32) (5 : Int32) st (fun r2 st1 =>
  ((r2 = 0 →
   post (0 : Int32) st1) ∧
   (¬ r2 = 0 →
   vp_in x1 6 ∧
   (((st1 13 x1.toNatClampNeg) = 0 →
    post (0 : Int32) st1) ∧
    (¬ (st1 13 x1.toNatClampNeg) = 0 →
    post (1 : Int32) st1)))))
def wp_T_off (x1 : Int32) (st : tSt) (post : Int32 → tSt → Prop) : Prop :=
 wp_T_isCall x1 st (fun r2 st1 =>
  ((r2 = 0 →
   post (0 : Int32) st1) ∧
   (¬ r2 = 0 →
   vp_in x1 6 ∧
   wp_Call_go x1.toNatClampNeg st1 (fun st3 =>
    (∀ st4 : tSt, st4 = tUp st3 4 0 (0 : Int32) →
     post (1 : Int32) st4)))))
def wp_T_monthOfToday (st : tSt) (post : Int32 → tSt → Prop) : Prop :=
 post (((st 2 0) / (30 : Int32)) - ((st 2 0) / (30 : Int32)) / (12 : Int32) * (12 : Int32)) st
def wp_T_planOfToday (st : tSt) (post : tSt → Prop) : Prop :=
 (((st 4 0) = 0 →
  wp_TownWord_number (0 : Int32) st (fun r2 st1 =>
   wp_Plan_castCalls r2 st1 (fun st3 =>
    wp_T_monthOfToday st3 (fun r5 st4 =>
     wp_Plan_chooseTunes r5 ((st4 2 0) * (6 : Int32)) st4 (fun st6 =>
      (∀ st7 : tSt, st7 = tUp st6 4 0 (1 : Int32) →
       post st7)))))) ∧
  (¬ (st 4 0) = 0 →
  post st))
def wp_T_played (st : tSt) (post : Int32 → tSt → Prop) : Prop :=
 wp_T_planOfToday st (fun st1 =>
  wp_Plan_playedBits st1 (fun r3 st2 =>
   post r3 st2))
def wp_T_who (x1 : Int32) (x2 : Int32) (st : tSt) (post : Int32 → tSt → Prop) : Prop :=
 wp_T_planOfToday st (fun st1 =>
  wp_Plan_piperOf x1 x2 st1 (fun r3 st2 =>
   post r3 st2))
def wp_T_tune (x1 : Int32) (x2 : Int32) (st : tSt) (post : Int32 → tSt → Prop) : Prop :=
 (((10 : Int32) ≤ (st 1 0) →
  post (-1 : Int32) st) ∧
  (¬ (10 : Int32) ≤ (st 1 0) →
  wp_T_within x1 (0 : Int32) (63 : Int32) st (fun r2 st1 =>
   ((r2 = 0 →
    post (-1 : Int32) st1) ∧
    (¬ r2 = 0 →
    wp_T_within x2 (0 : Int32) (4095 : Int32) st1 (fun r4 st3 =>
     ((r4 = 0 →
      post (-1 : Int32) st3) ∧
      (¬ r4 = 0 →
      (∀ y3_5 : Int32, y3_5 = (st3 1 0) →
       vp_in y3_5 10 ∧
       wp_Tune_learn y3_5.toNatClampNeg x1 x2 st3 (fun st6 =>
        (∀ st7 : tSt, st7 = tUp st6 1 0 ((st6 1 0) + (1 : Int32)) →
         (∀ st8 : tSt, st8 = tUp st7 4 0 (0 : Int32) →
          post y3_5 st8))))))))))))
def wp_T_heard (x1 : Int32) (st : tSt) (post : Int32 → tSt → Prop) : Prop :=
 wp_T_planOfToday st (fun st1 =>
  wp_Plan_tuneOf x1 st1 (fun r3 st2 =>
   post r3 st2))
def wp_T_fundShare (x1 : Int32) (st : tSt) (post : Int32 → tSt → Prop) : Prop :=
 vp_in x1 6 ∧
 wp_Call_fact x1.toNatClampNeg (7 : Int32) st (fun r2 st1 =>
  wp_TownWord_number (1 : Int32) st1 (fun r4 st3 =>
   post ((r2 * r4) / (100 : Int32)) st3))
def wp_T_partOfTwo_120 (post : Int32 → tSt → Prop) (x4 : Int32) (x5 : Int32) (x7 : Int32) (s0 : Int32) (st : tSt) : Prop :=
 ¬ x4 = 0 ∧
 ((s0 = 0 →
  post ((x5 / x4) + (0 : Int32)) st) ∧
  (¬ s0 = 0 →
  post ((x5 / x4) + x7) st))
def wp_T_partOfTwo_115 (post : Int32 → tSt → Prop) (x4 : Int32) (x5 : Int32) (x7 : Int32) (st : tSt) : Prop :=
 (wp_T_partOfTwo_120 post) x4 x5 x7 (1 : Int32) st
def wp_T_partOfTwo_119 (post : Int32 → tSt → Prop) (x4 : Int32) (x5 : Int32) (x7 : Int32) (st : tSt) : Prop :=
 (wp_T_partOfTwo_120 post) x4 x5 x7 (0 : Int32) st
def wp_T_partOfTwo (x1 : Int32) (x2 : Int32) (x3 : Int32) (st : tSt) (post : Int32 → tSt → Prop) : Prop :=
 wp_T_isPiper x2 st (fun r2 st1 =>
  ((r2 = 0 →
   post (0 : Int32) st1) ∧
   (¬ r2 = 0 →
   wp_T_isPiper x3 st1 (fun r4 st3 =>
    ((r4 = 0 →
     post (0 : Int32) st3) ∧
     (¬ r4 = 0 →
     vp_in x2 6 ∧
     vp_in x3 6 ∧
     (∀ y4_5 : Int32, y4_5 = (if (1 : Int32) < ((st3 9 x2.toNatClampNeg) + (st3 9 x3.toNatClampNeg)) then ((st3 9 x2.toNatClampNeg) + (st3 9 x3.toNatClampNeg)) else (1 : Int32)) →
      vp_in x2 6 ∧
      (∀ y5_6 : Int32, y5_6 = (x1 * (st3 9 x2.toNatClampNeg)) →
       vp_in x3 6 ∧
       (∀ y6_7 : Int32, y6_7 = (x1 * (st3 9 x3.toNatClampNeg)) →
        ¬ y4_5 = 0 ∧
        ¬ y4_5 = 0 ∧
        (∀ y7_8 : Int32, y7_8 = ((x1 - (y5_6 / y4_5)) - (y6_7 / y4_5)) →
         ¬ y4_5 = 0 ∧
         ¬ y4_5 = 0 ∧
         (((y6_7 - y6_7 / y4_5 * y4_5) < (y5_6 - y5_6 / y4_5 * y4_5) →
          (wp_T_partOfTwo_115 post) y4_5 y5_6 y7_8 st3) ∧
          (¬ (y6_7 - y6_7 / y4_5 * y4_5) < (y5_6 - y5_6 / y4_5 * y4_5) →
          ¬ y4_5 = 0 ∧
          ¬ y4_5 = 0 ∧
          (((y5_6 - y5_6 / y4_5 * y4_5) = (y6_7 - y6_7 / y4_5 * y4_5) →
           ((x3 ≤ x2 →
            (wp_T_partOfTwo_119 post) y4_5 y5_6 y7_8 st3) ∧
            (¬ x3 ≤ x2 →
            (wp_T_partOfTwo_115 post) y4_5 y5_6 y7_8 st3))) ∧
           (¬ (y5_6 - y5_6 / y4_5 * y4_5) = (y6_7 - y6_7 / y4_5 * y4_5) →
           (wp_T_partOfTwo_119 post) y4_5 y5_6 y7_8 st3))))))))))))))
def wp_T_piperShare (x2 : Int32) (x3 : Int32) (st : tSt) (post : Int32 → tSt → Prop) : Prop :=
 wp_Plan_piperOf x2 (0 : Int32) st (fun r2 st1 =>
  wp_Plan_piperOf x2 (1 : Int32) st1 (fun r4 st3 =>
   vp_in x2 6 ∧
   wp_Call_fact x2.toNatClampNeg (7 : Int32) st3 (fun r6 st5 =>
    wp_T_fundShare x2 st5 (fun r8 st7 =>
     (∀ y6_9 : Int32, y6_9 = (r6 - r8) →
      ((x3 = r2 →
       ((r4 = (-1 : Int32) →
        post y6_9 st7) ∧
        (¬ r4 = (-1 : Int32) →
        wp_T_partOfTwo y6_9 x3 r4 st7 (fun r13 st12 =>
         post r13 st12)))) ∧
       (¬ x3 = r2 →
       ((x3 = r4 →
        wp_T_partOfTwo y6_9 x3 r2 st7 (fun r11 st10 =>
         post r11 st10)) ∧
        (¬ x3 = r4 →
        post (0 : Int32) st7)))))))))
def wp_T_share (x1 : Int32) (x2 : Int32) (st : tSt) (post : Int32 → tSt → Prop) : Prop :=
 wp_T_planOfToday st (fun st1 =>
  wp_Plan_has x1 st1 (fun r3 st2 =>
   ((r3 = 0 →
    post (-1 : Int32) st2) ∧
    (¬ r3 = 0 →
    ((x2 = (-1 : Int32) →
     wp_T_fundShare x1 st2 (fun r9 st8 =>
      post r9 st8)) ∧
     (¬ x2 = (-1 : Int32) →
     wp_T_isPiper x2 st2 (fun r5 st4 =>
      ((r5 = 0 →
       post (-1 : Int32) st4) ∧
       (¬ r5 = 0 →
       wp_T_piperShare x1 x2 st4 (fun r7 st6 =>
        post r7 st6))))))))))
def wp_T_settle_37 (post : tSt → Prop) (x2 : Int32) (st : tSt) : Prop :=
 wp_T_fundShare x2 st (fun r2 st1 =>
  (∀ st3 : tSt, st3 = tUp st1 3 0 ((st 3 0) + r2) →
   post st3))
def wp_T_settle_2 (post : tSt → Prop) (k37 : Int32 → tSt → Prop) : Nat → Int32 → Int32 → tSt → Prop
  | 0 => fun _ _ _ => False
  | n + 1 => fun x2 x3 st =>
    (((st 0 0) ≤ x3 →
     k37 x2 st) ∧
     (¬ (st 0 0) ≤ x3 →
     vp_in x3 6 ∧
     wp_T_piperShare x2 x3 st (fun r2 st1 =>
      (∀ st3 : tSt, st3 = tUp st1 12 x3.toNatClampNeg ((st 12 x3.toNatClampNeg) + r2) →
       (∀ y3_4 : Int32, y3_4 = x3 + 1 →
        (wp_T_settle_2 post k37 n) x2 y3_4 st3)))))
def wp_T_settle (x2 : Int32) (st : tSt) (post : tSt → Prop) : Prop :=
 (fun z0 z1 w => ∃ q2, wp_T_settle_2 post (wp_T_settle_37 post) q2 z0 z1 w) x2 (0 : Int32) st
def wp_T_fineTheWell_56 (post : tSt → Prop) (k11 : Int32 → Int32 → tSt → Prop) (x1 : Int32) (x2 : Int32) (st : tSt) : Prop :=
 (∀ y2_1 : Int32, y2_1 = x2 + 1 →
  k11 x1 y2_1 st)
def wp_T_fineTheWell_11 (post : tSt → Prop) : Nat → Int32 → Int32 → tSt → Prop
  | 0 => fun _ _ _ => False
  | n + 1 => fun x1 x2 st =>
    (((st 0 0) ≤ x2 →
     post st) ∧
     (¬ (st 0 0) ≤ x2 →
     vp_in x2 6 ∧
     (((st 11 x2.toNatClampNeg) = 0 →
      vp_in x2 6 ∧
      (∀ st1 : tSt, st1 = tUp st 12 x2.toNatClampNeg ((st 12 x2.toNatClampNeg) - x1) →
       (∀ st2 : tSt, st2 = tUp st1 3 0 ((st1 3 0) + x1) →
        (wp_T_fineTheWell_56 post (wp_T_fineTheWell_11 post n)) x1 x2 st2))) ∧
      (¬ (st 11 x2.toNatClampNeg) = 0 →
      (wp_T_fineTheWell_56 post (wp_T_fineTheWell_11 post n)) x1 x2 st))))
def wp_T_fineTheWell (st : tSt) (post : tSt → Prop) : Prop :=
 wp_TownWord_number (3 : Int32) st (fun r2 st1 =>
  (fun z0 z1 w => ∃ q11, wp_T_fineTheWell_11 post q11 z0 z1 w) r2 (0 : Int32) st1)
def wp_T_payTheOld_64 (post : tSt → Prop) (k2 : Int32 → tSt → Prop) (x1 : Int32) (st : tSt) : Prop :=
 (∀ y1_1 : Int32, y1_1 = x1 + 1 →
  k2 y1_1 st)
def wp_T_payTheOld_2 (post : tSt → Prop) : Nat → Int32 → tSt → Prop
  | 0 => fun _ _ => False
  | n + 1 => fun x1 st =>
    (((st 0 0) ≤ x1 →
     post st) ∧
     (¬ (st 0 0) ≤ x1 →
     vp_in x1 6 ∧
     (((st 11 x1.toNatClampNeg) = (2 : Int32) →
      wp_TownWord_number (2 : Int32) st (fun r2 st1 =>
       (∀ y2_3 : Int32, y2_3 = (if r2 < (st 3 0) then r2 else (st 3 0)) →
        vp_in x1 6 ∧
        (∀ st4 : tSt, st4 = tUp st1 12 x1.toNatClampNeg ((st1 12 x1.toNatClampNeg) + y2_3) →
         (∀ st5 : tSt, st5 = tUp st4 3 0 ((st4 3 0) - y2_3) →
          (wp_T_payTheOld_64 post (wp_T_payTheOld_2 post n)) x1 st5))))) ∧
      (¬ (st 11 x1.toNatClampNeg) = (2 : Int32) →
      (wp_T_payTheOld_64 post (wp_T_payTheOld_2 post n)) x1 st))))
def wp_T_payTheOld (st : tSt) (post : tSt → Prop) : Prop :=
 (fun z0 w => ∃ q2, wp_T_payTheOld_2 post q2 z0 w) (0 : Int32) st
def wp_T_day_59 (post : Int32 → tSt → Prop) (k19 : Int32 → tSt → Prop) (k65 : tSt → Prop) (x2 : Int32) (st : tSt) : Prop :=
 (∀ y2_1 : Int32, y2_1 = x2 + 1 →
  k19 y2_1 st)
def wp_T_day_96 (post : Int32 → tSt → Prop) (st : tSt) : Prop :=
 (∀ st1 : tSt, st1 = tUp st 4 0 (0 : Int32) →
  (∀ st2 : tSt, st2 = tUp st1 2 0 ((st1 2 0) + (1 : Int32)) →
   ((((st2 2 0) - (st2 2 0) / (360 : Int32) * (360 : Int32)) = 0 →
    wp_T_payTheOld st2 (fun st3 =>
     post (st3 2 0) st3)) ∧
    (¬ ((st2 2 0) - (st2 2 0) / (360 : Int32) * (360 : Int32)) = 0 →
    post (st2 2 0) st2))))
def wp_T_day_75 (post : Int32 → tSt → Prop) (k96 : tSt → Prop) : Nat → Int32 → tSt → Prop
  | 0 => fun _ _ => False
  | n + 1 => fun x2 st =>
    (((6 : Int32) ≤ x2 →
     k96 st) ∧
     (¬ (6 : Int32) ≤ x2 →
     vp_in x2 6 ∧
     wp_Call_go x2.toNatClampNeg st (fun st1 =>
      (∀ y2_2 : Int32, y2_2 = x2 + 1 →
       (wp_T_day_75 post k96 n) y2_2 st1))))
def wp_T_day_65 (post : Int32 → tSt → Prop) (st : tSt) : Prop :=
 wp_Plan_hearTunes st (fun st1 =>
  (fun z0 w => ∃ q75, wp_T_day_75 post (wp_T_day_96 post) q75 z0 w) (0 : Int32) st1)
def wp_T_day_19 (post : Int32 → tSt → Prop) (k65 : tSt → Prop) : Nat → Int32 → tSt → Prop
  | 0 => fun _ _ => False
  | n + 1 => fun x2 st =>
    (((6 : Int32) ≤ x2 →
     k65 st) ∧
     (¬ (6 : Int32) ≤ x2 →
     wp_Plan_has x2 st (fun r2 st1 =>
      ((r2 = 0 →
       vp_in x2 6 ∧
       wp_Call_isOfOrder x2.toNatClampNeg (0 : Int32) st1 (fun r4 st3 =>
        ((r4 = 0 →
         (wp_T_day_59 post (wp_T_day_19 post k65 n) k65) x2 st3) ∧
         (¬ r4 = 0 →
         wp_T_fineTheWell st3 (fun st5 =>
          (wp_T_day_59 post (wp_T_day_19 post k65 n) k65) x2 st5))))) ∧
       (¬ r2 = 0 →
       wp_T_settle x2 st1 (fun st6 =>
        (wp_T_day_59 post (wp_T_day_19 post k65 n) k65) x2 st6))))))
def wp_T_day (st : tSt) (post : Int32 → tSt → Prop) : Prop :=
 (((st 2 0) < (9999 : Int32) →
  wp_T_planOfToday st (fun st1 =>
   (fun z0 w => ∃ q19, wp_T_day_19 post (wp_T_day_65 post) q19 z0 w) (0 : Int32) st1)) ∧
  (¬ (st 2 0) < (9999 : Int32) →
  post (-1 : Int32) st))
def wp_T_lasts_36 (post : Int32 → tSt → Prop) (k4 : Int32 → Int32 → tSt → Prop) (k42 : Int32 → tSt → Prop) (x1 : Int32) (x2 : Int32) (st : tSt) : Prop :=
 (∀ y2_1 : Int32, y2_1 = x2 + 1 →
  k4 x1 y2_1 st)
def wp_T_lasts_42 (post : Int32 → tSt → Prop) (x1 : Int32) (st : tSt) : Prop :=
 ((x1 = 0 →
  post (9999 : Int32) st) ∧
  (¬ x1 = 0 →
  ¬ x1 = 0 ∧
  post (if ((st 3 0) / x1) < (9999 : Int32) then ((st 3 0) / x1) else (9999 : Int32)) st))
def wp_T_lasts_4 (post : Int32 → tSt → Prop) (k42 : Int32 → tSt → Prop) : Nat → Int32 → Int32 → tSt → Prop
  | 0 => fun _ _ _ => False
  | n + 1 => fun x1 x2 st =>
    (((st 0 0) ≤ x2 →
     k42 x1 st) ∧
     (¬ (st 0 0) ≤ x2 →
     vp_in x2 6 ∧
     (((st 11 x2.toNatClampNeg) = (2 : Int32) →
      wp_TownWord_number (2 : Int32) st (fun r2 st1 =>
       (∀ y1_3 : Int32, y1_3 = (x1 + r2) →
        (wp_T_lasts_36 post (wp_T_lasts_4 post k42 n) k42) y1_3 x2 st1))) ∧
      (¬ (st 11 x2.toNatClampNeg) = (2 : Int32) →
      (wp_T_lasts_36 post (wp_T_lasts_4 post k42 n) k42) x1 x2 st))))
def wp_T_lasts (st : tSt) (post : Int32 → tSt → Prop) : Prop :=
 (fun z0 z1 w => ∃ q4, wp_T_lasts_4 post (wp_T_lasts_42 post) q4 z0 z1 w) (0 : Int32) (0 : Int32) st
def wp_T_look (x1 : Int32) (x2 : Int32) (st : tSt) (post : Int32 → tSt → Prop) : Prop :=
 wp_T_isPiper x1 st (fun r2 st1 =>
  ((r2 = 0 →
   post (-1 : Int32) st1) ∧
   (¬ r2 = 0 →
   ((x2 = 0 →
    vp_in x1 6 ∧
    post (st1 9 x1.toNatClampNeg) st1) ∧
    (¬ x2 = 0 →
    ((x2 = 1 →
     vp_in x1 6 ∧
     post (st1 10 x1.toNatClampNeg) st1) ∧
     (¬ x2 = 1 →
     ((x2 = 2 →
      vp_in x1 6 ∧
      post (st1 11 x1.toNatClampNeg) st1) ∧
      (¬ x2 = 2 →
      ((x2 = 3 →
       wp_T_planOfToday st1 (fun st3 =>
        wp_Plan_partsOf x1 st3 (fun r5 st4 =>
         post r5 st4))) ∧
       (¬ x2 = 3 →
       post (-1 : Int32) st1)))))))))))
def wp_T_wages (x1 : Int32) (st : tSt) (post : Int32 → tSt → Prop) : Prop :=
 ((x1 = (-1 : Int32) →
  post (st 3 0) st) ∧
  (¬ x1 = (-1 : Int32) →
  wp_T_isPiper x1 st (fun r2 st1 =>
   ((r2 = 0 →
    post (0 : Int32) st1) ∧
    (¬ r2 = 0 →
    vp_in x1 6 ∧
    post (st1 12 x1.toNatClampNeg) st1)))))
def wp_T_about (x1 : Int32) (x2 : Int32) (st : tSt) (post : Int32 → tSt → Prop) : Prop :=
 wp_T_isCall x1 st (fun r2 st1 =>
  ((r2 = 0 →
   post (-1 : Int32) st1) ∧
   (¬ r2 = 0 →
   wp_T_within x2 (0 : Int32) (7 : Int32) st1 (fun r4 st3 =>
    ((r4 = 0 →
     post (-1 : Int32) st3) ∧
     (¬ r4 = 0 →
     vp_in x1 6 ∧
     wp_Call_fact x1.toNatClampNeg x2 st3 (fun r6 st5 =>
      post r6 st5)))))))
def wp_T_callCount_25 (post : Int32 → tSt → Prop) (k4 : Int32 → Int32 → tSt → Prop) (x1 : Int32) (x2 : Int32) (st : tSt) : Prop :=
 (∀ y2_1 : Int32, y2_1 = x2 + 1 →
  k4 x1 y2_1 st)
def wp_T_callCount_4 (post : Int32 → tSt → Prop) : Nat → Int32 → Int32 → tSt → Prop
  | 0 => fun _ _ _ => False
  | n + 1 => fun x1 x2 st =>
    (((6 : Int32) ≤ x2 →
     post x1 st) ∧
     (¬ (6 : Int32) ≤ x2 →
     vp_in x2 6 ∧
     (((st 13 x2.toNatClampNeg) = 0 →
      (wp_T_callCount_25 post (wp_T_callCount_4 post n)) x1 x2 st) ∧
      (¬ (st 13 x2.toNatClampNeg) = 0 →
      (∀ y1_1 : Int32, y1_1 = x1 + 1 →
       (wp_T_callCount_25 post (wp_T_callCount_4 post n)) y1_1 x2 st)))))
def wp_T_callCount (st : tSt) (post : Int32 → tSt → Prop) : Prop :=
 (fun z0 z1 w => ∃ q4, wp_T_callCount_4 post q4 z0 z1 w) (0 : Int32) (0 : Int32) st
def wp_T_count (x1 : Int32) (st : tSt) (post : Int32 → tSt → Prop) : Prop :=
 wp_T_within x1 (10 : Int32) (13 : Int32) st (fun r2 st1 =>
  ((r2 = 0 →
   wp_T_within x1 (20 : Int32) (24 : Int32) st1 (fun r4 st3 =>
    ((r4 = 0 →
     wp_T_within x1 (30 : Int32) (39 : Int32) st3 (fun r6 st5 =>
      ((r6 = 0 →
       ((x1 = 0 →
        post (st5 2 0) st5) ∧
        (¬ x1 = 0 →
        ((x1 = 1 →
         wp_T_monthOfToday st5 (fun r8 st7 =>
          post r8 st7)) ∧
         (¬ x1 = 1 →
         ((x1 = 2 →
          post (st5 0 0) st5) ∧
          (¬ x1 = 2 →
          ((x1 = 3 →
           wp_T_callCount st5 (fun r10 st9 =>
            post r10 st9)) ∧
           (¬ x1 = 3 →
           ((x1 = 4 →
            post (st5 1 0) st5) ∧
            (¬ x1 = 4 →
            ((x1 = 5 →
             wp_Tape_size st5 (fun r12 st11 =>
              post r12 st11)) ∧
             (¬ x1 = 5 →
             post (-1 : Int32) st5))))))))))))) ∧
       (¬ r6 = 0 →
       vp_in (x1 - (30 : Int32)) 10 ∧
       wp_Tune_dayHeard ((x1 - (30 : Int32)).toNatClampNeg) st5 (fun r14 st13 =>
        post r14 st13))))) ∧
     (¬ r4 = 0 →
     vp_in (x1 - (20 : Int32)) 5 ∧
     post (st3 23 (x1 - (20 : Int32)).toNatClampNeg) st3)))) ∧
   (¬ r2 = 0 →
   wp_TownWord_number (x1 - (10 : Int32)) st1 (fun r16 st15 =>
    post r16 st15))))
end
section
def wp_M_lies (x0 : Int32) (x1 : Int32) (x2 : Int32) (st : tSt) (post : Int32 → tSt → Prop) : Prop :=
 ((x0 < x1 →
  post (0 : Int32) st) ∧
  (¬ x0 < x1 →
  ((x2 < x0 →
   post (0 : Int32) st) ∧
   (¬ x2 < x0 →
   post (1 : Int32) st))))
def wp_M_has (x0 : Int32) (x1 : Int32) (st : tSt) (post : Int32 → tSt → Prop) : Prop :=
 ((((x0 >>> (x1 &&& 31)) &&& (1 : Int32)) = (1 : Int32) →
  post (1 : Int32) st) ∧
  (¬ ((x0 >>> (x1 &&& 31)) &&& (1 : Int32)) = (1 : Int32) →
  post (0 : Int32) st))
def wp_M_push_3 (post : tSt → Prop) : Nat → Int32 → Int32 → tSt → Prop
  | 0 => fun _ _ _ => False
  | n + 1 => fun x1 x2 st =>
    ((x2 < 0 →
     post st) ∧
     (¬ x2 < 0 →
     vp_in (st 0 0) 40 ∧
     (∀ st1 : tSt, st1 = tUp st 9 (st 0 0).toNatClampNeg (vp_nar .byte ((x1 >>> (x2 &&& 31)).toInt8.toInt32)) →
      (∀ st2 : tSt, st2 = tUp st1 0 0 ((st1 0 0) + (1 : Int32)) →
       (∀ y2_3 : Int32, y2_3 = x2 + (-8) →
        (wp_M_push_3 post n) x1 y2_3 st2)))))
def wp_M_push (x1 : Int32) (st : tSt) (post : tSt → Prop) : Prop :=
 (fun z0 z1 w => ∃ q3, wp_M_push_3 post q3 z0 z1 w) x1 (24 : Int32) st
def wp_M_feed (x1 : Int32) (x2 : Int32) (x3 : Int32) (x4 : Int32) (x5 : Int32) (st : tSt) (post : Int32 → tSt → Prop) : Prop :=
 ((((st 0 0) + (20 : Int32)) ≤ (40 : Int32) →
  wp_M_push x1 st (fun st1 =>
   wp_M_push x2 st1 (fun st2 =>
    wp_M_push x3 st2 (fun st3 =>
     wp_M_push x4 st3 (fun st4 =>
      wp_M_push x5 st4 (fun st5 =>
       post (st5 0 0) st5)))))) ∧
  (¬ ((st 0 0) + (20 : Int32)) ≤ (40 : Int32) →
  post (-1 : Int32) st))
def wp_M_asAtFirst (j : Nat) (st : tSt) (post : tSt → Prop) : Prop :=
 (∀ st1 : tSt, st1 = tUp st (10 + j) 0 (1 : Int32) →
  (∀ st2 : tSt, st2 = tUp st1 (10 + j) 1 (10 : Int32) →
   (∀ st3 : tSt, st3 = tUp st2 (10 + j) 2 (100 : Int32) →
    (∀ st4 : tSt, st4 = tUp st3 (10 + j) 3 (50 : Int32) →
     post st4))))
def wp_M_letter (x0 : Int32) (st : tSt) (post : Int32 → tSt → Prop) : Prop :=
 ((x0 = (119 : Int32) →
  post (0 : Int32) st) ∧
  (¬ x0 = (119 : Int32) →
  ((x0 = (102 : Int32) →
   post (1 : Int32) st) ∧
   (¬ x0 = (102 : Int32) →
   ((x0 = (112 : Int32) →
    post (2 : Int32) st) ∧
    (¬ x0 = (112 : Int32) →
    ((x0 = (103 : Int32) →
     post (3 : Int32) st) ∧
     (¬ x0 = (103 : Int32) →
     post (-1 : Int32) st))))))))
def wp_M_canBe (x0 : Int32) (x1 : Int32) (st : tSt) (post : Int32 → tSt → Prop) : Prop :=
 ((x0 = 0 →
  (((20 : Int32) < x1 →
   post (0 : Int32) st) ∧
   (¬ (20 : Int32) < x1 →
   post (1 : Int32) st))) ∧
  (¬ x0 = 0 →
  ((x0 = (1 : Int32) →
   (((100 : Int32) < x1 →
    post (0 : Int32) st) ∧
    (¬ (100 : Int32) < x1 →
    post (1 : Int32) st))) ∧
   (¬ x0 = (1 : Int32) →
   post (1 : Int32) st))))
def wp_M_at (x1 : Int32) (x2 : Int32) (st : tSt) (post : Int32 → tSt → Prop) : Prop :=
 ((x2 ≤ x1 →
  post (0 : Int32) st) ∧
  (¬ x2 ≤ x1 →
  vp_in x1 40 ∧
  post ((st 9 x1.toNatClampNeg) &&& (255 : Int32)) st))
def wp_M_reads_122 (post : Int32 → tSt → Prop) (k11 : Int32 → Int32 → Int32 → tSt → Prop) (x1 : Int32) (x2 : Int32) (x3 : Int32) (x4 : Int32) (x5 : Int32) (x6 : Int32) (st : tSt) : Prop :=
 wp_M_canBe x4 x6 st (fun r2 st1 =>
  ((r2 = 0 →
   post ((400 : Int32) + x5) st1) ∧
   (¬ r2 = 0 →
   vp_in x4 4 ∧
   (∀ st3 : tSt, st3 = tUp st1 11 x4.toNatClampNeg x6 →
    ((x2 = x1 →
     post (0 : Int32) st3) ∧
     (¬ x2 = x1 →
     wp_M_at x2 x1 st3 (fun r5 st4 =>
      ((r5 = (59 : Int32) →
       (∀ y2_6 : Int32, y2_6 = x2 + 1 →
        (∀ y3_7 : Int32, y3_7 = x3 + 1 →
         k11 x1 y2_6 y3_7 st4))) ∧
       (¬ r5 = (59 : Int32) →
       post ((500 : Int32) + x2) st4)))))))))
def wp_M_reads_69 (post : Int32 → tSt → Prop) (k122 : Int32 → Int32 → Int32 → Int32 → Int32 → Int32 → tSt → Prop) : Nat → Int32 → Int32 → Int32 → Int32 → Int32 → Int32 → tSt → Prop
  | 0 => fun _ _ _ _ _ _ _ => False
  | n + 1 => fun x1 x2 x3 x4 x5 x6 st =>
    wp_M_at x2 x1 st (fun r2 st1 =>
     wp_M_lies r2 (48 : Int32) (57 : Int32) st1 (fun r4 st3 =>
      ((r4 = 0 →
       k122 x1 x2 x3 x4 x5 x6 st3) ∧
       (¬ r4 = 0 →
       ((x2 = (x5 + (4 : Int32)) →
        post ((300 : Int32) + x2) st3) ∧
        (¬ x2 = (x5 + (4 : Int32)) →
        wp_M_at x2 x1 st3 (fun r6 st5 =>
         (∀ y6_7 : Int32, y6_7 = ((((10 : Int32) * x6) + r6) - (48 : Int32)) →
          (∀ y2_8 : Int32, y2_8 = x2 + 1 →
           (wp_M_reads_69 post k122 n) x1 y2_8 x3 x4 x5 y6_7 st5)))))))))
def wp_M_reads_11 (post : Int32 → tSt → Prop) : Nat → Int32 → Int32 → Int32 → tSt → Prop
  | 0 => fun _ _ _ _ => False
  | n + 1 => fun x1 x2 x3 st =>
    ((x1 < x3 →
     post ((100 : Int32) + x2) st) ∧
     (¬ x1 < x3 →
     wp_M_at x2 x1 st (fun r2 st1 =>
      wp_M_letter r2 st1 (fun r4 st3 =>
       ((r4 = (-1 : Int32) →
        post ((100 : Int32) + x2) st3) ∧
        (¬ r4 = (-1 : Int32) →
        (∀ y2_5 : Int32, y2_5 = x2 + 1 →
         wp_M_at y2_5 x1 st3 (fun r7 st6 =>
          wp_M_lies r7 (48 : Int32) (57 : Int32) st6 (fun r9 st8 =>
           ((r9 = 0 →
            post ((200 : Int32) + y2_5) st8) ∧
            (¬ r9 = 0 →
            (fun z0 z1 z2 z3 z4 z5 w => ∃ q69, wp_M_reads_69 post (wp_M_reads_122 post (wp_M_reads_11 post n)) q69 z0 z1 z2 z3 z4 z5 w) x1 y2_5 x3 r4 y2_5 (0 : Int32) st8)))))))))))
def wp_M_reads (x1 : Int32) (st : tSt) (post : Int32 → tSt → Prop) : Prop :=
 wp_M_asAtFirst 1 st (fun st1 =>
  (fun z0 z1 z2 w => ∃ q11, wp_M_reads_11 post q11 z0 z1 z2 w) x1 (0 : Int32) (0 : Int32) st1)
def wp_M_word_27 (post : Int32 → tSt → Prop) : Nat → Int32 → Int32 → tSt → Prop
  | 0 => fun _ _ _ => False
  | n + 1 => fun x2 x3 st =>
    (((4 : Int32) ≤ x3 →
     post x2 st) ∧
     (¬ (4 : Int32) ≤ x3 →
     ((x2 = 0 →
      vp_in x3 4 ∧
      vp_in x3 4 ∧
      (∀ st1 : tSt, st1 = tUp st 10 x3.toNatClampNeg (st 11 x3.toNatClampNeg) →
       (∀ y3_2 : Int32, y3_2 = x3 + 1 →
        (wp_M_word_27 post n) x2 y3_2 st1))) ∧
      (¬ x2 = 0 →
      post x2 st))))
def wp_M_word (x1 : Int32) (st : tSt) (post : Int32 → tSt → Prop) : Prop :=
 ((x1 < 0 →
  post (-1 : Int32) st) ∧
  (¬ x1 < 0 →
  ((x1 ≤ (st 0 0) →
   (∀ st1 : tSt, st1 = tUp st 0 0 (0 : Int32) →
    wp_M_reads x1 st1 (fun r3 st2 =>
     (fun z0 z1 w => ∃ q27, wp_M_word_27 post q27 z0 z1 w) r3 (0 : Int32) st2))) ∧
   (¬ x1 ≤ (st 0 0) →
   post (-1 : Int32) st))))
def wp_M_isPiper (x1 : Int32) (st : tSt) (post : Int32 → tSt → Prop) : Prop :=
 wp_M_lies x1 (0 : Int32) ((st 2 0) - (1 : Int32)) st (fun r2 st1 =>
  (r2 = 0 ∨ r2 = 1) ∧
  post r2 st1)
def wp_M_piper (x1 : Int32) (x2 : Int32) (st : tSt) (post : Int32 → tSt → Prop) : Prop :=
 (((st 2 0) = (6 : Int32) →
  post (-1 : Int32) st) ∧
  (¬ (st 2 0) = (6 : Int32) →
  wp_M_lies x1 (1 : Int32) (9 : Int32) st (fun r2 st1 =>
   ((r2 = 0 →
    post (-1 : Int32) st1) ∧
    (¬ r2 = 0 →
    wp_M_lies x2 (1 : Int32) (31 : Int32) st1 (fun r4 st3 =>
     ((r4 = 0 →
      post (-1 : Int32) st3) ∧
      (¬ r4 = 0 →
      vp_in (st3 2 0) 6 ∧
      (∀ st5 : tSt, st5 = tUp st3 12 (st3 2 0).toNatClampNeg x1 →
       vp_in (st5 2 0) 6 ∧
       (∀ st6 : tSt, st6 = tUp st5 13 (st5 2 0).toNatClampNeg x2 →
        (∀ st7 : tSt, st7 = tUp st6 2 0 ((st6 2 0) + (1 : Int32)) →
         post ((st7 2 0) - (1 : Int32)) st7)))))))))))
def wp_M_ill_53 (post : Int32 → tSt → Prop) (s1 : Int32) (s2 : Int32) (st : tSt) : Prop :=
 vp_in s1 6 ∧
 (∀ st1 : tSt, st1 = tUp st 14 s1.toNatClampNeg s2 →
  post (1 : Int32) st1)
def wp_M_ill_33 (post : Int32 → tSt → Prop) (x1 : Int32) (x2 : Int32) (s0 : Int32) (st : tSt) : Prop :=
 ((s0 = x2 →
  post (0 : Int32) st) ∧
  (¬ s0 = x2 →
  ((x2 = 0 →
   (wp_M_ill_53 post) x1 (0 : Int32) st) ∧
   (¬ x2 = 0 →
   (wp_M_ill_53 post) x1 (1 : Int32) st))))
def wp_M_ill (x1 : Int32) (x2 : Int32) (st : tSt) (post : Int32 → tSt → Prop) : Prop :=
 wp_M_isPiper x1 st (fun r2 st1 =>
  ((r2 = 0 →
   post (0 : Int32) st1) ∧
   (¬ r2 = 0 →
   vp_in x1 6 ∧
   (((st1 14 x1.toNatClampNeg) = (2 : Int32) →
    post (0 : Int32) st1) ∧
    (¬ (st1 14 x1.toNatClampNeg) = (2 : Int32) →
    vp_in x1 6 ∧
    (((st1 14 x1.toNatClampNeg) = (1 : Int32) →
     (wp_M_ill_33 post) x1 x2 (1 : Int32) st1) ∧
     (¬ (st1 14 x1.toNatClampNeg) = (1 : Int32) →
     (wp_M_ill_33 post) x1 x2 (0 : Int32) st1)))))))
def wp_M_old (x1 : Int32) (st : tSt) (post : Int32 → tSt → Prop) : Prop :=
 wp_M_isPiper x1 st (fun r2 st1 =>
  ((r2 = 0 →
   post (0 : Int32) st1) ∧
   (¬ r2 = 0 →
   vp_in x1 6 ∧
   (((st1 14 x1.toNatClampNeg) = (2 : Int32) →
    post (0 : Int32) st1) ∧
    (¬ (st1 14 x1.toNatClampNeg) = (2 : Int32) →
    vp_in x1 6 ∧
    (∀ st3 : tSt, st3 = tUp st1 14 x1.toNatClampNeg (2 : Int32) →
     post (1 : Int32) st3))))))
def wp_M_pieces (x1 : Int32) (x2 : Int32) (st : tSt) (post : Int32 → tSt → Prop) : Prop :=
 wp_M_lies x1 (0 : Int32) (4 : Int32) st (fun r2 st1 =>
  ((r2 = 0 →
   post (0 : Int32) st1) ∧
   (¬ r2 = 0 →
   wp_M_lies x2 (0 : Int32) (3 : Int32) st1 (fun r4 st3 =>
    ((r4 = 0 →
     post (0 : Int32) st3) ∧
     (¬ r4 = 0 →
     vp_in x1 5 ∧
     (∀ st5 : tSt, st5 = tUp st3 16 x1.toNatClampNeg x2 →
      post (1 : Int32) st5)))))))
def wp_M_isInstrument (x0 : Int32) (st : tSt) (post : Int32 → tSt → Prop) : Prop :=
 wp_M_lies x0 (0 : Int32) (4 : Int32) st (fun r2 st1 =>
  (r2 = 0 ∨ r2 = 1) ∧
  post r2 st1)
def wp_M_isCall (x1 : Int32) (st : tSt) (post : Int32 → tSt → Prop) : Prop :=
 wp_M_lies x1 (0 : Int32) (5 : Int32) st (fun r2 st1 =>
  ((r2 = 0 →
   post (0 : Int32) st1) ∧
   (¬ r2 = 0 →
   vp_in ((8 : Int32) * x1) 48 ∧
   (((st1 17 ((8 : Int32) * x1).toNatClampNeg) = (-1 : Int32) →
    post (0 : Int32) st1) ∧
    (¬ (st1 17 ((8 : Int32) * x1).toNatClampNeg) = (-1 : Int32) →
    post (1 : Int32) st1)))))
def wp_M_of (x1 : Int32) (x2 : Int32) (st : tSt) (post : Int32 → tSt → Prop) : Prop :=
 vp_in (((8 : Int32) * x1) + x2) 48 ∧
 post (st 17 (((8 : Int32) * x1) + x2).toNatClampNeg) st
def wp_M_call_116 (post : Int32 → tSt → Prop) (x1 : Int32) (x2 : Int32) (x3 : Int32) (x4 : Int32) (x5 : Int32) (x6 : Int32) (x7 : Int32) (x8 : Int32) (x9 : Int32) (st : tSt) : Prop :=
 vp_in ((8 : Int32) * x9) 48 ∧
 (∀ st1 : tSt, st1 = tUp st 17 ((8 : Int32) * x9).toNatClampNeg x1 →
  vp_in (((8 : Int32) * x9) + (1 : Int32)) 48 ∧
  (∀ st2 : tSt, st2 = tUp st1 17 (((8 : Int32) * x9) + (1 : Int32)).toNatClampNeg x2 →
   vp_in (((8 : Int32) * x9) + (2 : Int32)) 48 ∧
   (∀ st3 : tSt, st3 = tUp st2 17 (((8 : Int32) * x9) + (2 : Int32)).toNatClampNeg x3 →
    vp_in (((8 : Int32) * x9) + (3 : Int32)) 48 ∧
    (∀ st4 : tSt, st4 = tUp st3 17 (((8 : Int32) * x9) + (3 : Int32)).toNatClampNeg x4 →
     vp_in (((8 : Int32) * x9) + (4 : Int32)) 48 ∧
     (∀ st5 : tSt, st5 = tUp st4 17 (((8 : Int32) * x9) + (4 : Int32)).toNatClampNeg x5 →
      vp_in (((8 : Int32) * x9) + (5 : Int32)) 48 ∧
      (∀ st6 : tSt, st6 = tUp st5 17 (((8 : Int32) * x9) + (5 : Int32)).toNatClampNeg x6 →
       vp_in (((8 : Int32) * x9) + (6 : Int32)) 48 ∧
       (∀ st7 : tSt, st7 = tUp st6 17 (((8 : Int32) * x9) + (6 : Int32)).toNatClampNeg x7 →
        vp_in (((8 : Int32) * x9) + (7 : Int32)) 48 ∧
        (∀ st8 : tSt, st8 = tUp st7 17 (((8 : Int32) * x9) + (7 : Int32)).toNatClampNeg x8 →
         post x9 st8))))))))
def wp_M_call_97 (post : Int32 → tSt → Prop) (k116 : Int32 → Int32 → Int32 → Int32 → Int32 → Int32 → Int32 → Int32 → Int32 → tSt → Prop) : Nat → Int32 → Int32 → Int32 → Int32 → Int32 → Int32 → Int32 → Int32 → Int32 → tSt → Prop
  | 0 => fun _ _ _ _ _ _ _ _ _ _ => False
  | n + 1 => fun x1 x2 x3 x4 x5 x6 x7 x8 x9 st =>
    (((6 : Int32) ≤ x9 →
     post (-1 : Int32) st) ∧
     (¬ (6 : Int32) ≤ x9 →
     wp_M_isCall x9 st (fun r2 st1 =>
      ((r2 = 0 →
       k116 x1 x2 x3 x4 x5 x6 x7 x8 x9 st1) ∧
       (¬ r2 = 0 →
       (∀ y9_3 : Int32, y9_3 = x9 + 1 →
        (wp_M_call_97 post k116 n) x1 x2 x3 x4 x5 x6 x7 x8 y9_3 st1))))))
def wp_M_call_80 (post : Int32 → tSt → Prop) (x1 : Int32) (x2 : Int32) (x3 : Int32) (x4 : Int32) (x5 : Int32) (x6 : Int32) (x7 : Int32) (x8 : Int32) (st : tSt) : Prop :=
 wp_M_lies x8 (0 : Int32) (9999 : Int32) st (fun r2 st1 =>
  ((r2 = 0 →
   post (-1 : Int32) st1) ∧
   (¬ r2 = 0 →
   (fun z0 z1 z2 z3 z4 z5 z6 z7 z8 w => ∃ q97, wp_M_call_97 post (wp_M_call_116 post) q97 z0 z1 z2 z3 z4 z5 z6 z7 z8 w) x1 x2 x3 x4 x5 x6 x7 x8 (0 : Int32) st1)))
def wp_M_call (x1 : Int32) (x2 : Int32) (x3 : Int32) (x4 : Int32) (x5 : Int32) (x6 : Int32) (x7 : Int32) (x8 : Int32) (st : tSt) (post : Int32 → tSt → Prop) : Prop :=
 wp_M_lies x1 (0 : Int32) (3 : Int32) st (fun r2 st1 =>
  ((r2 = 0 →
   post (-1 : Int32) st1) ∧
   (¬ r2 = 0 →
   wp_M_lies x2 (0 : Int32) (95 : Int32) st1 (fun r4 st3 =>
    ((r4 = 0 →
     post (-1 : Int32) st3) ∧
     (¬ r4 = 0 →
     wp_M_lies x3 (1 : Int32) (24 : Int32) st3 (fun r6 st5 =>
      ((r6 = 0 →
       post (-1 : Int32) st5) ∧
       (¬ r6 = 0 →
       (((96 : Int32) < (x2 + x3) →
        post (-1 : Int32) st5) ∧
        (¬ (96 : Int32) < (x2 + x3) →
        wp_M_lies x4 (0 : Int32) (9 : Int32) st5 (fun r8 st7 =>
         ((r8 = 0 →
          post (-1 : Int32) st7) ∧
          (¬ r8 = 0 →
          wp_M_lies x5 (0 : Int32) (5 : Int32) st7 (fun r10 st9 =>
           ((r10 = 0 →
            post (-1 : Int32) st9) ∧
            (¬ r10 = 0 →
            wp_M_isInstrument x6 st9 (fun r12 st11 =>
             ((r12 = 0 →
              post (-1 : Int32) st11) ∧
              (¬ r12 = 0 →
              ((x7 = (-1 : Int32) →
               (wp_M_call_80 post) x1 x2 x3 x4 x5 x6 x7 x8 st11) ∧
               (¬ x7 = (-1 : Int32) →
               wp_M_isInstrument x7 st11 (fun r14 st13 =>
                ((r14 = 0 →
                 post (-1 : Int32) st13) ∧
                 (¬ r14 = 0 →
                 (wp_M_call_80 post) x1 x2 x3 x4 x5 x6 x7 x8 st13)))))))))))))))))))))))))
def wp_M_off (x1 : Int32) (st : tSt) (post : Int32 → tSt → Prop) : Prop :=
 wp_M_isCall x1 st (fun r2 st1 =>
  ((r2 = 0 →
   post (0 : Int32) st1) ∧
   (¬ r2 = 0 →
   vp_in ((8 : Int32) * x1) 48 ∧
   (∀ st3 : tSt, st3 = tUp st1 17 ((8 : Int32) * x1).toNatClampNeg (-1 : Int32) →
    post (1 : Int32) st3))))
def wp_M_sorts_61 (post : tSt → Prop) (k14 : Int32 → Int32 → tSt → Prop) (k67 : Int32 → tSt → Prop) (x1 : Int32) (x2 : Int32) (st : tSt) : Prop :=
 (∀ y2_1 : Int32, y2_1 = x2 + 1 →
  k14 x1 y2_1 st)
def wp_M_sorts_67 (post : tSt → Prop) (k7 : Int32 → tSt → Prop) (x1 : Int32) (st : tSt) : Prop :=
 (∀ y1_1 : Int32, y1_1 = x1 + 1 →
  k7 y1_1 st)
def wp_M_sorts_14 (post : tSt → Prop) (k67 : Int32 → tSt → Prop) : Nat → Int32 → Int32 → tSt → Prop
  | 0 => fun _ _ _ => False
  | n + 1 => fun x1 x2 st =>
    (((6 : Int32) ≤ x2 →
     k67 x1 st) ∧
     (¬ (6 : Int32) ≤ x2 →
     wp_M_isCall x2 st (fun r2 st1 =>
      ((r2 = 0 →
       (wp_M_sorts_61 post (wp_M_sorts_14 post k67 n) k67) x1 x2 st1) ∧
       (¬ r2 = 0 →
       wp_M_of x2 (0 : Int32) st1 (fun r4 st3 =>
        ((r4 = x1 →
         vp_in (st3 6 0) 6 ∧
         (∀ st5 : tSt, st5 = tUp st3 22 (st3 6 0).toNatClampNeg x2 →
          (∀ st6 : tSt, st6 = tUp st5 6 0 ((st5 6 0) + (1 : Int32)) →
           (wp_M_sorts_61 post (wp_M_sorts_14 post k67 n) k67) x1 x2 st6))) ∧
         (¬ r4 = x1 →
         (wp_M_sorts_61 post (wp_M_sorts_14 post k67 n) k67) x1 x2 st3))))))))
def wp_M_sorts_7 (post : tSt → Prop) : Nat → Int32 → tSt → Prop
  | 0 => fun _ _ => False
  | n + 1 => fun x1 st =>
    (((4 : Int32) ≤ x1 →
     post st) ∧
     (¬ (4 : Int32) ≤ x1 →
     (fun z0 z1 w => ∃ q14, wp_M_sorts_14 post (wp_M_sorts_67 post (wp_M_sorts_7 post n)) q14 z0 z1 w) x1 (0 : Int32) st))
def wp_M_sorts (st : tSt) (post : tSt → Prop) : Prop :=
 (∀ st1 : tSt, st1 = tUp st 6 0 (0 : Int32) →
  (fun z0 w => ∃ q7, wp_M_sorts_7 post q7 z0 w) (0 : Int32) st1)
def wp_M_apart (x0 : Int32) (x1 : Int32) (st : tSt) (post : Int32 → tSt → Prop) : Prop :=
 ((x1 ≤ x0 →
  post (x0 - x1) st) ∧
  (¬ x1 ≤ x0 →
  post (x1 - x0) st))
def wp_M_goes_61 (post : Int32 → tSt → Prop) (x4 : Int32) (s0 : Int32) (st : tSt) : Prop :=
 wp_M_of s0 (1 : Int32) st (fun r2 st1 =>
  wp_M_of x4 (1 : Int32) st1 (fun r4 st3 =>
   wp_M_of x4 (2 : Int32) st3 (fun r6 st5 =>
    wp_M_of x4 (3 : Int32) st5 (fun r8 st7 =>
     wp_M_of s0 (3 : Int32) st7 (fun r10 st9 =>
      wp_M_apart r8 r10 st9 (fun r12 st11 =>
       ((r2 < ((r4 + r6) + ((st5 10 0) * r12)) →
        post (0 : Int32) st11) ∧
        (¬ r2 < ((r4 + r6) + ((st5 10 0) * r12)) →
        post (1 : Int32) st11))))))))
def wp_M_goes_50 (post : Int32 → tSt → Prop) (x1 : Int32) (x2 : Int32) (x3 : Int32) (s0 : Int32) (st : tSt) : Prop :=
 ((x3 = 0 →
  (wp_M_goes_61 post) s0 x1 st) ∧
  (¬ x3 = 0 →
  (wp_M_goes_61 post) s0 x2 st))
def wp_M_goes_40 (post : Int32 → tSt → Prop) (x1 : Int32) (x2 : Int32) (s0 : Int32) (st : tSt) : Prop :=
 ((s0 = 0 →
  (wp_M_goes_50 post) x1 x2 s0 x2 st) ∧
  (¬ s0 = 0 →
  (wp_M_goes_50 post) x1 x2 s0 x1 st))
def wp_M_goes_35 (post : Int32 → tSt → Prop) (x1 : Int32) (x2 : Int32) (st : tSt) : Prop :=
 (wp_M_goes_40 post) x1 x2 (1 : Int32) st
def wp_M_goes_39 (post : Int32 → tSt → Prop) (x1 : Int32) (x2 : Int32) (st : tSt) : Prop :=
 (wp_M_goes_40 post) x1 x2 (0 : Int32) st
def wp_M_goes (x1 : Int32) (x2 : Int32) (st : tSt) (post : Int32 → tSt → Prop) : Prop :=
 wp_M_of x1 (1 : Int32) st (fun r2 st1 =>
  wp_M_of x2 (1 : Int32) st1 (fun r4 st3 =>
   ((r2 < r4 →
    (wp_M_goes_35 post) x1 x2 st3) ∧
    (¬ r2 < r4 →
    wp_M_of x1 (1 : Int32) st3 (fun r6 st5 =>
     wp_M_of x2 (1 : Int32) st5 (fun r8 st7 =>
      ((r6 = r8 →
       ((x2 ≤ x1 →
        (wp_M_goes_39 post) x1 x2 st7) ∧
        (¬ x2 ≤ x1 →
        (wp_M_goes_35 post) x1 x2 st7))) ∧
       (¬ r6 = r8 →
       (wp_M_goes_39 post) x1 x2 st7))))))))
def wp_M_hasPieces_86 (post : Int32 → tSt → Prop) (k20 : Int32 → Int32 → Int32 → Int32 → tSt → Prop) (k94 : Int32 → Int32 → Int32 → tSt → Prop) (x1 : Int32) (x2 : Int32) (x4 : Int32) (s0 : Int32) (s1 : Int32) (st : tSt) : Prop :=
 (∀ y3_1 : Int32, y3_1 = (s0 + s1) →
  (∀ y4_2 : Int32, y4_2 = x4 + 1 →
   k20 x1 x2 y3_1 y4_2 st))
def wp_M_hasPieces_85 (post : Int32 → tSt → Prop) (k20 : Int32 → Int32 → Int32 → Int32 → tSt → Prop) (k94 : Int32 → Int32 → Int32 → tSt → Prop) (x1 : Int32) (x2 : Int32) (x4 : Int32) (s0 : Int32) (st : tSt) : Prop :=
 (wp_M_hasPieces_86 post k20 k94) x1 x2 x4 s0 (0 : Int32) st
def wp_M_hasPieces_94 (post : Int32 → tSt → Prop) (k9 : Int32 → Int32 → tSt → Prop) (k112 : Int32 → tSt → Prop) (x1 : Int32) (x2 : Int32) (x3 : Int32) (st : tSt) : Prop :=
 vp_in x1 5 ∧
 ((x3 ≤ (st 16 x1.toNatClampNeg) →
  (∀ y2_1 : Int32, y2_1 = x2 + 1 →
   k9 x1 y2_1 st)) ∧
  (¬ x3 ≤ (st 16 x1.toNatClampNeg) →
  post (0 : Int32) st))
def wp_M_hasPieces_20 (post : Int32 → tSt → Prop) (k94 : Int32 → Int32 → Int32 → tSt → Prop) : Nat → Int32 → Int32 → Int32 → Int32 → tSt → Prop
  | 0 => fun _ _ _ _ _ => False
  | n + 1 => fun x1 x2 x3 x4 st =>
    (((st 8 0) ≤ x4 →
     k94 x1 x2 x3 st) ∧
     (¬ (st 8 0) ≤ x4 →
     vp_in x4 12 ∧
     (∀ y5_1 : Int32, y5_1 = (st 23 x4.toNatClampNeg) →
      vp_in x4 12 ∧
      (((st 24 x4.toNatClampNeg) = x1 →
       wp_M_of y5_1 (1 : Int32) st (fun r3 st2 =>
        wp_M_of y5_1 (1 : Int32) st2 (fun r5 st4 =>
         wp_M_of y5_1 (2 : Int32) st4 (fun r7 st6 =>
          wp_M_lies x2 r3 ((r5 + r7) - (1 : Int32)) st6 (fun r9 st8 =>
           ((r9 = 0 →
            (wp_M_hasPieces_85 post (wp_M_hasPieces_20 post k94 n) k94) x1 x2 x4 x3 st8) ∧
            (¬ r9 = 0 →
            (wp_M_hasPieces_86 post (wp_M_hasPieces_20 post k94 n) k94) x1 x2 x4 x3 (1 : Int32) st8))))))) ∧
       (¬ (st 24 x4.toNatClampNeg) = x1 →
       (wp_M_hasPieces_85 post (wp_M_hasPieces_20 post k94 n) k94) x1 x2 x4 x3 st)))))
def wp_M_hasPieces_112 (post : Int32 → tSt → Prop) (k2 : Int32 → tSt → Prop) (x1 : Int32) (st : tSt) : Prop :=
 (∀ y1_1 : Int32, y1_1 = x1 + 1 →
  k2 y1_1 st)
def wp_M_hasPieces_9 (post : Int32 → tSt → Prop) (k112 : Int32 → tSt → Prop) : Nat → Int32 → Int32 → tSt → Prop
  | 0 => fun _ _ _ => False
  | n + 1 => fun x1 x2 st =>
    (((96 : Int32) ≤ x2 →
     k112 x1 st) ∧
     (¬ (96 : Int32) ≤ x2 →
     (fun z0 z1 z2 z3 w => ∃ q20, wp_M_hasPieces_20 post (wp_M_hasPieces_94 post (wp_M_hasPieces_9 post k112 n) k112) q20 z0 z1 z2 z3 w) x1 x2 (0 : Int32) (0 : Int32) st))
def wp_M_hasPieces_2 (post : Int32 → tSt → Prop) : Nat → Int32 → tSt → Prop
  | 0 => fun _ _ => False
  | n + 1 => fun x1 st =>
    (((5 : Int32) ≤ x1 →
     post (1 : Int32) st) ∧
     (¬ (5 : Int32) ≤ x1 →
     (fun z0 z1 w => ∃ q9, wp_M_hasPieces_9 post (wp_M_hasPieces_112 post (wp_M_hasPieces_2 post n)) q9 z0 z1 w) x1 (0 : Int32) st))
def wp_M_hasPieces (st : tSt) (post : Int32 → tSt → Prop) : Prop :=
 (fun z0 w => ∃ q2, wp_M_hasPieces_2 post q2 z0 w) (0 : Int32) st
def wp_M_lists_92 (post : tSt → Prop) (k24 : Int32 → Int32 → Int32 → tSt → Prop) (k98 : Int32 → tSt → Prop) (x1 : Int32) (x2 : Int32) (x3 : Int32) (st : tSt) : Prop :=
 (∀ y3_1 : Int32, y3_1 = x3 + 1 →
  k24 x1 x2 y3_1 st)
def wp_M_lists_98 (post : tSt → Prop) (k7 : Int32 → tSt → Prop) (x1 : Int32) (st : tSt) : Prop :=
 (∀ y1_1 : Int32, y1_1 = x1 + 1 →
  k7 y1_1 st)
def wp_M_lists_24 (post : tSt → Prop) (k98 : Int32 → tSt → Prop) : Nat → Int32 → Int32 → Int32 → tSt → Prop
  | 0 => fun _ _ _ _ => False
  | n + 1 => fun x1 x2 x3 st =>
    (((2 : Int32) ≤ x3 →
     k98 x1 st) ∧
     (¬ (2 : Int32) ≤ x3 →
     wp_M_has (st 7 0) x2 st (fun r2 st1 =>
      ((r2 = 0 →
       k98 x1 st1) ∧
       (¬ r2 = 0 →
       wp_M_of x2 ((5 : Int32) + x3) st1 (fun r4 st3 =>
        ((r4 = (-1 : Int32) →
         (wp_M_lists_92 post (wp_M_lists_24 post k98 n) k98) x1 x2 x3 st3) ∧
         (¬ r4 = (-1 : Int32) →
         vp_in (st3 8 0) 12 ∧
         (∀ st5 : tSt, st5 = tUp st3 23 (st3 8 0).toNatClampNeg x2 →
          wp_M_of x2 ((5 : Int32) + x3) st5 (fun r7 st6 =>
           vp_in (st5 8 0) 12 ∧
           (∀ st8 : tSt, st8 = tUp st6 24 (st5 8 0).toNatClampNeg r7 →
            (∀ st9 : tSt, st9 = tUp st8 8 0 ((st8 8 0) + (1 : Int32)) →
             (wp_M_lists_92 post (wp_M_lists_24 post k98 n) k98) x1 x2 x3 st9))))))))))))
def wp_M_lists_7 (post : tSt → Prop) : Nat → Int32 → tSt → Prop
  | 0 => fun _ _ => False
  | n + 1 => fun x1 st =>
    (((st 6 0) ≤ x1 →
     post st) ∧
     (¬ (st 6 0) ≤ x1 →
     vp_in x1 6 ∧
     (∀ y2_1 : Int32, y2_1 = (st 22 x1.toNatClampNeg) →
      (fun z0 z1 z2 w => ∃ q24, wp_M_lists_24 post (wp_M_lists_98 post (wp_M_lists_7 post n)) q24 z0 z1 z2 w) x1 y2_1 (0 : Int32) st)))
def wp_M_lists (st : tSt) (post : tSt → Prop) : Prop :=
 (∀ st1 : tSt, st1 = tUp st 8 0 (0 : Int32) →
  (fun z0 w => ∃ q7, wp_M_lists_7 post q7 z0 w) (0 : Int32) st1)
def wp_M_hinders_82 (post : Int32 → tSt → Prop) (k31 : Int32 → Int32 → Int32 → tSt → Prop) (x1 : Int32) (x2 : Int32) (x3 : Int32) (st : tSt) : Prop :=
 (∀ y3_1 : Int32, y3_1 = x3 + 1 →
  k31 x1 x2 y3_1 st)
def wp_M_hinders_31 (post : Int32 → tSt → Prop) : Nat → Int32 → Int32 → Int32 → tSt → Prop
  | 0 => fun _ _ _ _ => False
  | n + 1 => fun x1 x2 x3 st =>
    ((x1 ≤ x3 →
     post (-1 : Int32) st) ∧
     (¬ x1 ≤ x3 →
     vp_in x3 12 ∧
     (((st 25 x3.toNatClampNeg) = x2 →
      vp_in x3 12 ∧
      vp_in x1 12 ∧
      (((st 23 x3.toNatClampNeg) = (st 23 x1.toNatClampNeg) →
       post x3 st) ∧
       (¬ (st 23 x3.toNatClampNeg) = (st 23 x1.toNatClampNeg) →
       vp_in x3 12 ∧
       vp_in x1 12 ∧
       wp_M_goes (st 23 x3.toNatClampNeg) (st 23 x1.toNatClampNeg) st (fun r2 st1 =>
        ((r2 = 0 →
         post x3 st1) ∧
         (¬ r2 = 0 →
         (wp_M_hinders_82 post (wp_M_hinders_31 post n)) x1 x2 x3 st1)))))) ∧
      (¬ (st 25 x3.toNatClampNeg) = x2 →
      (wp_M_hinders_82 post (wp_M_hinders_31 post n)) x1 x2 x3 st))))
def wp_M_hinders (x1 : Int32) (x2 : Int32) (st : tSt) (post : Int32 → tSt → Prop) : Prop :=
 vp_in x2 6 ∧
 (((st 14 x2.toNatClampNeg) = 0 →
  vp_in x2 6 ∧
  vp_in x1 12 ∧
  wp_M_has (st 13 x2.toNatClampNeg) (st 24 x1.toNatClampNeg) st (fun r2 st1 =>
   ((r2 = 0 →
    post x1 st1) ∧
    (¬ r2 = 0 →
    (fun z0 z1 z2 w => ∃ q31, wp_M_hinders_31 post q31 z0 z1 z2 w) x1 x2 (0 : Int32) st1)))) ∧
  (¬ (st 14 x2.toNatClampNeg) = 0 →
  post x1 st))
def wp_M_takes_61 (post : Int32 → tSt → Prop) (k0 : Int32 → tSt → Prop) (x1 : Int32) (st : tSt) : Prop :=
 k0 x1 st
def wp_M_takes_0 (post : Int32 → tSt → Prop) : Nat → Int32 → tSt → Prop
  | 0 => fun _ _ => False
  | n + 1 => fun x1 st =>
    vp_in x1 12 ∧
    ((((st 2 0) - (1 : Int32)) ≤ (st 25 x1.toNatClampNeg) →
     post (0 : Int32) st) ∧
     (¬ ((st 2 0) - (1 : Int32)) ≤ (st 25 x1.toNatClampNeg) →
     vp_in x1 12 ∧
     vp_in x1 12 ∧
     (∀ st1 : tSt, st1 = tUp st 25 x1.toNatClampNeg ((st 25 x1.toNatClampNeg) + (1 : Int32)) →
      vp_in x1 12 ∧
      wp_M_hinders x1 (st1 25 x1.toNatClampNeg) st1 (fun r3 st2 =>
       ((r3 = (-1 : Int32) →
        post (1 : Int32) st2) ∧
        (¬ r3 = (-1 : Int32) →
        ((x1 ≤ r3 →
         (wp_M_takes_61 post (wp_M_takes_0 post n)) x1 st2) ∧
         (¬ x1 ≤ r3 →
         vp_in x1 12 ∧
         vp_in x1 12 ∧
         (∀ st4 : tSt, st4 = tUp st2 26 x1.toNatClampNeg ((st2 26 x1.toNatClampNeg) ||| ((1 : Int32) <<< (r3 &&& 31))) →
          (wp_M_takes_61 post (wp_M_takes_0 post n)) x1 st4)))))))))
def wp_M_takes (x1 : Int32) (st : tSt) (post : Int32 → tSt → Prop) : Prop :=
  ∃ n, wp_M_takes_0 post n x1 st
def wp_M_canBePlayed_111 (post : Int32 → tSt → Prop) (k88 : Int32 → Int32 → Int32 → tSt → Prop) (k118 : Int32 → Int32 → tSt → Prop) (x1 : Int32) (x3 : Int32) (s0 : Int32) (st : tSt) : Prop :=
 (∀ y3_1 : Int32, y3_1 = x3 + 1 →
  k88 x1 s0 y3_1 st)
def wp_M_canBePlayed_118 (post : Int32 → tSt → Prop) (k29 : Int32 → tSt → Prop) (x1 : Int32) (x2 : Int32) (st : tSt) : Prop :=
 vp_in x2 12 ∧
 vp_in x1 12 ∧
 vp_in x2 12 ∧
 (∀ st1 : tSt, st1 = tUp st 26 x2.toNatClampNeg ((st 26 x2.toNatClampNeg) ||| ((st 26 x1.toNatClampNeg) &&& (((1 : Int32) <<< (x2 &&& 31)) ^^^ (-1 : Int32)))) →
  k29 x2 st1)
def wp_M_canBePlayed_88 (post : Int32 → tSt → Prop) (k118 : Int32 → Int32 → tSt → Prop) : Nat → Int32 → Int32 → Int32 → tSt → Prop
  | 0 => fun _ _ _ _ => False
  | n + 1 => fun x1 x2 x3 st =>
    ((x1 ≤ x3 →
     k118 x1 x2 st) ∧
     (¬ x1 ≤ x3 →
     vp_in x1 12 ∧
     wp_M_has (st 26 x1.toNatClampNeg) x3 st (fun r2 st1 =>
      ((r2 = 0 →
       (wp_M_canBePlayed_111 post (wp_M_canBePlayed_88 post k118 n) k118) x1 x3 x2 st1) ∧
       (¬ r2 = 0 →
       (wp_M_canBePlayed_111 post (wp_M_canBePlayed_88 post k118 n) k118) x1 x3 x3 st1)))))
def wp_M_canBePlayed_29 (post : Int32 → tSt → Prop) : Nat → Int32 → tSt → Prop
  | 0 => fun _ _ => False
  | n + 1 => fun x1 st =>
    (((st 8 0) ≤ x1 →
     post (1 : Int32) st) ∧
     (¬ (st 8 0) ≤ x1 →
     wp_M_takes x1 st (fun r2 st1 =>
      ((r2 = 0 →
       vp_in x1 12 ∧
       (((st1 26 x1.toNatClampNeg) = 0 →
        post (0 : Int32) st1) ∧
        (¬ (st1 26 x1.toNatClampNeg) = 0 →
        (fun z0 z1 z2 w => ∃ q88, wp_M_canBePlayed_88 post (wp_M_canBePlayed_118 post (wp_M_canBePlayed_29 post n)) q88 z0 z1 z2 w) x1 (0 : Int32) (0 : Int32) st1))) ∧
       (¬ r2 = 0 →
       (∀ y1_3 : Int32, y1_3 = x1 + 1 →
        (((st1 8 0) ≤ y1_3 →
         (wp_M_canBePlayed_29 post n) y1_3 st1) ∧
         (¬ (st1 8 0) ≤ y1_3 →
         vp_in y1_3 12 ∧
         (∀ st4 : tSt, st4 = tUp st1 25 y1_3.toNatClampNeg (-1 : Int32) →
          vp_in y1_3 12 ∧
          (∀ st5 : tSt, st5 = tUp st4 26 y1_3.toNatClampNeg (0 : Int32) →
           (wp_M_canBePlayed_29 post n) y1_3 st5))))))))))
def wp_M_canBePlayed (st : tSt) (post : Int32 → tSt → Prop) : Prop :=
 wp_M_lists st (fun st1 =>
  wp_M_hasPieces st1 (fun r3 st2 =>
   ((r3 = 0 →
    post (0 : Int32) st2) ∧
    (¬ r3 = 0 →
    (∀ st4 : tSt, st4 = tUp st2 25 0 (-1 : Int32) →
     (∀ st5 : tSt, st5 = tUp st4 26 0 (0 : Int32) →
      (fun z0 w => ∃ q29, wp_M_canBePlayed_29 post q29 z0 w) (0 : Int32) st5))))))
def wp_M_works_62 (post : Int32 → tSt → Prop) (k11 : Int32 → tSt → Prop) (k68 : tSt → Prop) (x1 : Int32) (st : tSt) : Prop :=
 (∀ y1_1 : Int32, y1_1 = x1 + 1 →
  k11 y1_1 st)
def wp_M_works_68 (post : Int32 → tSt → Prop) (st : tSt) : Prop :=
 wp_M_canBePlayed st (fun r2 st1 =>
  post (st1 7 0) st1)
def wp_M_works_11 (post : Int32 → tSt → Prop) (k68 : tSt → Prop) : Nat → Int32 → tSt → Prop
  | 0 => fun _ _ => False
  | n + 1 => fun x1 st =>
    (((st 6 0) ≤ x1 →
     k68 st) ∧
     (¬ (st 6 0) ≤ x1 →
     vp_in x1 6 ∧
     (∀ st1 : tSt, st1 = tUp st 7 0 ((st 7 0) ||| ((1 : Int32) <<< ((st 22 x1.toNatClampNeg) &&& 31))) →
      wp_M_canBePlayed st1 (fun r3 st2 =>
       ((r3 = 0 →
        vp_in x1 6 ∧
        (∀ st4 : tSt, st4 = tUp st2 7 0 ((st2 7 0) &&& (((1 : Int32) <<< ((st2 22 x1.toNatClampNeg) &&& 31)) ^^^ (-1 : Int32))) →
         (wp_M_works_62 post (wp_M_works_11 post k68 n) k68) x1 st4)) ∧
        (¬ r3 = 0 →
        (wp_M_works_62 post (wp_M_works_11 post k68 n) k68) x1 st2))))))
def wp_M_works (st : tSt) (post : Int32 → tSt → Prop) : Prop :=
 wp_M_sorts st (fun st1 =>
  (∀ st2 : tSt, st2 = tUp st1 7 0 (0 : Int32) →
   (fun z0 w => ∃ q11, wp_M_works_11 post (wp_M_works_68 post) q11 z0 w) (0 : Int32) st2))
def wp_M_played (st : tSt) (post : Int32 → tSt → Prop) : Prop :=
 wp_M_works st (fun r2 st1 =>
  post r2 st1)
def wp_M_whoHas_44 (post : Int32 → tSt → Prop) (k5 : Int32 → Int32 → Int32 → Int32 → tSt → Prop) (x1 : Int32) (x2 : Int32) (x3 : Int32) (x4 : Int32) (st : tSt) : Prop :=
 (∀ y4_1 : Int32, y4_1 = x4 + 1 →
  k5 x1 x2 x3 y4_1 st)
def wp_M_whoHas_5 (post : Int32 → tSt → Prop) : Nat → Int32 → Int32 → Int32 → Int32 → tSt → Prop
  | 0 => fun _ _ _ _ _ => False
  | n + 1 => fun x1 x2 x3 x4 st =>
    (((st 8 0) ≤ x4 →
     post (-1 : Int32) st) ∧
     (¬ (st 8 0) ≤ x4 →
     vp_in x4 12 ∧
     (((st 23 x4.toNatClampNeg) = x1 →
      ((x3 = x2 →
       vp_in x4 12 ∧
       post (st 25 x4.toNatClampNeg) st) ∧
       (¬ x3 = x2 →
       (∀ y3_1 : Int32, y3_1 = x3 + 1 →
        (wp_M_whoHas_44 post (wp_M_whoHas_5 post n)) x1 x2 y3_1 x4 st)))) ∧
      (¬ (st 23 x4.toNatClampNeg) = x1 →
      (wp_M_whoHas_44 post (wp_M_whoHas_5 post n)) x1 x2 x3 x4 st))))
def wp_M_whoHas (x1 : Int32) (x2 : Int32) (st : tSt) (post : Int32 → tSt → Prop) : Prop :=
 (fun z0 z1 z2 z3 w => ∃ q5, wp_M_whoHas_5 post q5 z0 z1 z2 z3 w) x1 x2 (0 : Int32) (0 : Int32) st
def wp_M_who (x1 : Int32) (x2 : Int32) (st : tSt) (post : Int32 → tSt → Prop) : Prop :=
 wp_M_isCall x1 st (fun r2 st1 =>
  ((r2 = 0 →
   post (-1 : Int32) st1) ∧
   (¬ r2 = 0 →
   wp_M_lies x2 (0 : Int32) (1 : Int32) st1 (fun r4 st3 =>
    ((r4 = 0 →
     post (-1 : Int32) st3) ∧
     (¬ r4 = 0 →
     wp_M_works st3 (fun r6 st5 =>
      wp_M_has r6 x1 st5 (fun r8 st7 =>
       ((r8 = 0 →
        post (-1 : Int32) st7) ∧
        (¬ r8 = 0 →
        wp_M_whoHas x1 x2 st7 (fun r10 st9 =>
         post r10 st9)))))))))))
def wp_M_tune (x1 : Int32) (x2 : Int32) (st : tSt) (post : Int32 → tSt → Prop) : Prop :=
 (((st 3 0) = (10 : Int32) →
  post (-1 : Int32) st) ∧
  (¬ (st 3 0) = (10 : Int32) →
  wp_M_lies x1 (0 : Int32) (63 : Int32) st (fun r2 st1 =>
   ((r2 = 0 →
    post (-1 : Int32) st1) ∧
    (¬ r2 = 0 →
    wp_M_lies x2 (0 : Int32) (4095 : Int32) st1 (fun r4 st3 =>
     ((r4 = 0 →
      post (-1 : Int32) st3) ∧
      (¬ r4 = 0 →
      vp_in (st3 3 0) 10 ∧
      (∀ st5 : tSt, st5 = tUp st3 18 (st3 3 0).toNatClampNeg x1 →
       vp_in (st5 3 0) 10 ∧
       (∀ st6 : tSt, st6 = tUp st5 19 (st5 3 0).toNatClampNeg x2 →
        vp_in (st6 3 0) 10 ∧
        (∀ st7 : tSt, st7 = tUp st6 20 (st6 3 0).toNatClampNeg (-1 : Int32) →
         vp_in (st7 3 0) 10 ∧
         (∀ st8 : tSt, st8 = tUp st7 21 (st7 3 0).toNatClampNeg (0 : Int32) →
          (∀ st9 : tSt, st9 = tUp st8 3 0 ((st8 3 0) + (1 : Int32)) →
           post ((st9 3 0) - (1 : Int32)) st9)))))))))))))
def wp_M_month (st : tSt) (post : Int32 → tSt → Prop) : Prop :=
 post (((st 1 0) / (30 : Int32)) - ((st 1 0) / (30 : Int32)) / (12 : Int32) * (12 : Int32)) st
def wp_M_tunesOf_206 (post : tSt → Prop) (k40 : Int32 → Int32 → Int32 → tSt → Prop) (x1 : Int32) (x2 : Int32) (x3 : Int32) (st : tSt) : Prop :=
 (∀ y3_1 : Int32, y3_1 = x3 + 1 →
  k40 x1 x2 y3_1 st)
def wp_M_tunesOf_170 (post : tSt → Prop) (k79 : Int32 → Int32 → Int32 → Int32 → Int32 → tSt → Prop) (k176 : Int32 → Int32 → Int32 → Int32 → tSt → Prop) (x1 : Int32) (x2 : Int32) (x3 : Int32) (x4 : Int32) (x5 : Int32) (st : tSt) : Prop :=
 (∀ y5_1 : Int32, y5_1 = x5 + 1 →
  k79 x1 x2 x3 x4 y5_1 st)
def wp_M_tunesOf_161 (post : tSt → Prop) (k79 : Int32 → Int32 → Int32 → Int32 → Int32 → tSt → Prop) (k176 : Int32 → Int32 → Int32 → Int32 → tSt → Prop) (x1 : Int32) (x2 : Int32) (x3 : Int32) (x4 : Int32) (x5 : Int32) (st : tSt) : Prop :=
 vp_in x4 6 ∧
 (∀ st1 : tSt, st1 = tUp st 27 x4.toNatClampNeg x5 →
  (wp_M_tunesOf_170 post k79 k176) x1 x2 x3 x4 x5 st1)
def wp_M_tunesOf_176 (post : tSt → Prop) (k40 : Int32 → Int32 → Int32 → tSt → Prop) (x1 : Int32) (x2 : Int32) (x3 : Int32) (x4 : Int32) (st : tSt) : Prop :=
 vp_in x4 6 ∧
 (((st 27 x4.toNatClampNeg) = (-1 : Int32) →
  (wp_M_tunesOf_206 post k40) x1 x2 x3 st) ∧
  (¬ (st 27 x4.toNatClampNeg) = (-1 : Int32) →
  (∀ y2_1 : Int32, y2_1 = x2 + 1 →
   vp_in x4 6 ∧
   vp_in (st 27 x4.toNatClampNeg) 10 ∧
   (∀ st2 : tSt, st2 = tUp st 28 (st 27 x4.toNatClampNeg).toNatClampNeg y2_1 →
    (wp_M_tunesOf_206 post k40) x1 y2_1 x3 st2))))
def wp_M_tunesOf_79 (post : tSt → Prop) (k176 : Int32 → Int32 → Int32 → Int32 → tSt → Prop) : Nat → Int32 → Int32 → Int32 → Int32 → Int32 → tSt → Prop
  | 0 => fun _ _ _ _ _ _ => False
  | n + 1 => fun x1 x2 x3 x4 x5 st =>
    (((st 3 0) ≤ x5 →
     k176 x1 x2 x3 x4 st) ∧
     (¬ (st 3 0) ≤ x5 →
     vp_in x5 10 ∧
     wp_M_of x4 (4 : Int32) st (fun r2 st1 =>
      wp_M_has (st 18 x5.toNatClampNeg) r2 st1 (fun r4 st3 =>
       ((r4 = 0 →
        (wp_M_tunesOf_170 post (wp_M_tunesOf_79 post k176 n) k176) x1 x2 x3 x4 x5 st3) ∧
        (¬ r4 = 0 →
        vp_in x5 10 ∧
        wp_M_month st3 (fun r6 st5 =>
         wp_M_has (st3 19 x5.toNatClampNeg) r6 st5 (fun r8 st7 =>
          ((r8 = 0 →
           (wp_M_tunesOf_170 post (wp_M_tunesOf_79 post k176 n) k176) x1 x2 x3 x4 x5 st7) ∧
           (¬ r8 = 0 →
           vp_in x4 6 ∧
           (((st7 27 x4.toNatClampNeg) = (-1 : Int32) →
            (wp_M_tunesOf_161 post (wp_M_tunesOf_79 post k176 n) k176) x1 x2 x3 x4 x5 st7) ∧
            (¬ (st7 27 x4.toNatClampNeg) = (-1 : Int32) →
            vp_in x5 10 ∧
            vp_in x4 6 ∧
            vp_in (st7 27 x4.toNatClampNeg) 10 ∧
            (((st7 28 (st7 27 x4.toNatClampNeg).toNatClampNeg) ≤ (st7 28 x5.toNatClampNeg) →
             (wp_M_tunesOf_170 post (wp_M_tunesOf_79 post k176 n) k176) x1 x2 x3 x4 x5 st7) ∧
             (¬ (st7 28 (st7 27 x4.toNatClampNeg).toNatClampNeg) ≤ (st7 28 x5.toNatClampNeg) →
             (wp_M_tunesOf_161 post (wp_M_tunesOf_79 post k176 n) k176) x1 x2 x3 x4 x5 st7))))))))))))))
def wp_M_tunesOf_40 (post : tSt → Prop) : Nat → Int32 → Int32 → Int32 → tSt → Prop
  | 0 => fun _ _ _ _ => False
  | n + 1 => fun x1 x2 x3 st =>
    (((st 6 0) ≤ x3 →
     post st) ∧
     (¬ (st 6 0) ≤ x3 →
     vp_in x3 6 ∧
     (∀ y4_1 : Int32, y4_1 = (st 22 x3.toNatClampNeg) →
      vp_in y4_1 6 ∧
      (∀ st2 : tSt, st2 = tUp st 27 y4_1.toNatClampNeg (-1 : Int32) →
       wp_M_has x1 y4_1 st2 (fun r4 st3 =>
        ((r4 = 0 →
         (wp_M_tunesOf_206 post (wp_M_tunesOf_40 post n)) x1 x2 x3 st3) ∧
         (¬ r4 = 0 →
         (fun z0 z1 z2 z3 z4 w => ∃ q79, wp_M_tunesOf_79 post (wp_M_tunesOf_176 post (wp_M_tunesOf_40 post n)) q79 z0 z1 z2 z3 z4 w) x1 x2 x3 y4_1 (0 : Int32) st3)))))))
def wp_M_tunesOf_38 (post : tSt → Prop) (x1 : Int32) (x2 : Int32) (st : tSt) : Prop :=
 (fun z0 z1 z2 w => ∃ q40, wp_M_tunesOf_40 post q40 z0 z1 z2 w) x1 x2 (0 : Int32) st
def wp_M_tunesOf_12 (post : tSt → Prop) (k38 : Int32 → Int32 → tSt → Prop) : Nat → Int32 → Int32 → Int32 → tSt → Prop
  | 0 => fun _ _ _ _ => False
  | n + 1 => fun x1 x2 x3 st =>
    (((st 3 0) ≤ x3 →
     k38 x1 x2 st) ∧
     (¬ (st 3 0) ≤ x3 →
     vp_in x3 10 ∧
     vp_in x3 10 ∧
     (∀ st1 : tSt, st1 = tUp st 28 x3.toNatClampNeg (st 21 x3.toNatClampNeg) →
      (∀ y3_2 : Int32, y3_2 = x3 + 1 →
       (wp_M_tunesOf_12 post k38 n) x1 x2 y3_2 st1))))
def wp_M_tunesOf (st : tSt) (post : tSt → Prop) : Prop :=
 wp_M_works st (fun r2 st1 =>
  (∀ y2_3 : Int32, y2_3 = (st1 5 0) →
   (fun z0 z1 z2 w => ∃ q12, wp_M_tunesOf_12 post (wp_M_tunesOf_38 post) q12 z0 z1 z2 w) r2 y2_3 (0 : Int32) st1))
def wp_M_heard (x1 : Int32) (st : tSt) (post : Int32 → tSt → Prop) : Prop :=
 wp_M_isCall x1 st (fun r2 st1 =>
  ((r2 = 0 →
   post (-1 : Int32) st1) ∧
   (¬ r2 = 0 →
   wp_M_tunesOf st1 (fun st3 =>
    vp_in x1 6 ∧
    post (st3 27 x1.toNatClampNeg) st3))))
def wp_M_fundOf (x1 : Int32) (st : tSt) (post : Int32 → tSt → Prop) : Prop :=
 wp_M_of x1 (7 : Int32) st (fun r2 st1 =>
  post ((r2 * (st1 10 1)) / (100 : Int32)) st1)
def wp_M_shareOf_79 (post : Int32 → tSt → Prop) (x2 : Int32) (x5 : Int32) (x6 : Int32) (s0 : Int32) (st : tSt) : Prop :=
 vp_in x2 6 ∧
 ¬ x6 = 0 ∧
 (∀ y8_1 : Int32, y8_1 = ((x5 * (st 12 x2.toNatClampNeg)) / x6) →
  vp_in s0 6 ∧
  ¬ x6 = 0 ∧
  (∀ y9_2 : Int32, y9_2 = ((x5 - y8_1) - ((x5 * (st 12 s0.toNatClampNeg)) / x6)) →
   vp_in x2 6 ∧
   ¬ x6 = 0 ∧
   (∀ y10_3 : Int32, y10_3 = ((x5 * (st 12 x2.toNatClampNeg)) - (x5 * (st 12 x2.toNatClampNeg)) / x6 * x6) →
    vp_in s0 6 ∧
    ¬ x6 = 0 ∧
    (∀ y11_4 : Int32, y11_4 = ((x5 * (st 12 s0.toNatClampNeg)) - (x5 * (st 12 s0.toNatClampNeg)) / x6 * x6) →
     ((y11_4 < y10_3 →
      post (y8_1 + y9_2) st) ∧
      (¬ y11_4 < y10_3 →
      ((y10_3 = y11_4 →
       ((s0 ≤ x2 →
        post (y8_1 + (0 : Int32)) st) ∧
        (¬ s0 ≤ x2 →
        post (y8_1 + y9_2) st))) ∧
       (¬ y10_3 = y11_4 →
       post (y8_1 + (0 : Int32)) st))))))))
def wp_M_shareOf_43 (post : Int32 → tSt → Prop) (x2 : Int32) (x3 : Int32) (x4 : Int32) (x5 : Int32) (st : tSt) : Prop :=
 ((x4 = (-1 : Int32) →
  post x5 st) ∧
  (¬ x4 = (-1 : Int32) →
  vp_in x3 6 ∧
  vp_in x4 6 ∧
  (∀ y6_1 : Int32, y6_1 = ((st 12 x3.toNatClampNeg) + (st 12 x4.toNatClampNeg)) →
   ((x2 = x3 →
    (wp_M_shareOf_79 post) x2 x5 y6_1 x4 st) ∧
    (¬ x2 = x3 →
    (wp_M_shareOf_79 post) x2 x5 y6_1 x3 st)))))
def wp_M_shareOf (x1 : Int32) (x2 : Int32) (st : tSt) (post : Int32 → tSt → Prop) : Prop :=
 wp_M_whoHas x1 (0 : Int32) st (fun r2 st1 =>
  wp_M_whoHas x1 (1 : Int32) st1 (fun r4 st3 =>
   wp_M_of x1 (7 : Int32) st3 (fun r6 st5 =>
    wp_M_fundOf x1 st5 (fun r8 st7 =>
     (∀ y5_9 : Int32, y5_9 = (r6 - r8) →
      ((x2 = r2 →
       (wp_M_shareOf_43 post) x2 r2 r4 y5_9 st7) ∧
       (¬ x2 = r2 →
       ((x2 = r4 →
        (wp_M_shareOf_43 post) x2 r2 r4 y5_9 st7) ∧
        (¬ x2 = r4 →
        post (0 : Int32) st7)))))))))
def wp_M_share_21 (post : Int32 → tSt → Prop) (x1 : Int32) (x2 : Int32) (st : tSt) : Prop :=
 wp_M_works st (fun r2 st1 =>
  wp_M_has r2 x1 st1 (fun r4 st3 =>
   ((r4 = 0 →
    post (-1 : Int32) st3) ∧
    (¬ r4 = 0 →
    ((x2 = (-1 : Int32) →
     wp_M_fundOf x1 st3 (fun r8 st7 =>
      post r8 st7)) ∧
     (¬ x2 = (-1 : Int32) →
     wp_M_shareOf x1 x2 st3 (fun r6 st5 =>
      post r6 st5)))))))
def wp_M_share (x1 : Int32) (x2 : Int32) (st : tSt) (post : Int32 → tSt → Prop) : Prop :=
 wp_M_isCall x1 st (fun r2 st1 =>
  ((r2 = 0 →
   post (-1 : Int32) st1) ∧
   (¬ r2 = 0 →
   ((x2 = (-1 : Int32) →
    (wp_M_share_21 post) x1 x2 st1) ∧
    (¬ x2 = (-1 : Int32) →
    wp_M_isPiper x2 st1 (fun r4 st3 =>
     ((r4 = 0 →
      post (-1 : Int32) st3) ∧
      (¬ r4 = 0 →
      (wp_M_share_21 post) x1 x2 st3))))))))
def wp_M_fines_52 (post : tSt → Prop) (k2 : Int32 → tSt → Prop) (x1 : Int32) (st : tSt) : Prop :=
 (∀ y1_1 : Int32, y1_1 = x1 + 1 →
  k2 y1_1 st)
def wp_M_fines_2 (post : tSt → Prop) : Nat → Int32 → tSt → Prop
  | 0 => fun _ _ => False
  | n + 1 => fun x1 st =>
    (((st 2 0) ≤ x1 →
     post st) ∧
     (¬ (st 2 0) ≤ x1 →
     vp_in x1 6 ∧
     (((st 14 x1.toNatClampNeg) = 0 →
      vp_in x1 6 ∧
      vp_in x1 6 ∧
      (∀ st1 : tSt, st1 = tUp st 15 x1.toNatClampNeg ((st 15 x1.toNatClampNeg) - (st 10 3)) →
       (∀ st2 : tSt, st2 = tUp st1 4 0 ((st1 4 0) + (st1 10 3)) →
        (wp_M_fines_52 post (wp_M_fines_2 post n)) x1 st2))) ∧
      (¬ (st 14 x1.toNatClampNeg) = 0 →
      (wp_M_fines_52 post (wp_M_fines_2 post n)) x1 st))))
def wp_M_fines (st : tSt) (post : tSt → Prop) : Prop :=
 (fun z0 w => ∃ q2, wp_M_fines_2 post q2 z0 w) (0 : Int32) st
def wp_M_day_158 (post : Int32 → tSt → Prop) (k18 : Int32 → tSt → Prop) (k164 : tSt → Prop) (x1 : Int32) (st : tSt) : Prop :=
 (∀ y1_1 : Int32, y1_1 = x1 + 1 →
  k18 y1_1 st)
def wp_M_day_105 (post : Int32 → tSt → Prop) (k18 : Int32 → tSt → Prop) (k164 : tSt → Prop) (x1 : Int32) (x2 : Int32) (st : tSt) : Prop :=
 vp_in x2 6 ∧
 (((st 27 x2.toNatClampNeg) = (-1 : Int32) →
  (wp_M_day_158 post k18 k164) x1 st) ∧
  (¬ (st 27 x2.toNatClampNeg) = (-1 : Int32) →
  (∀ st1 : tSt, st1 = tUp st 5 0 ((st 5 0) + (1 : Int32)) →
   vp_in x2 6 ∧
   vp_in (st1 27 x2.toNatClampNeg) 10 ∧
   (∀ st2 : tSt, st2 = tUp st1 21 (st1 27 x2.toNatClampNeg).toNatClampNeg (st1 5 0) →
    vp_in x2 6 ∧
    vp_in (st2 27 x2.toNatClampNeg) 10 ∧
    (∀ st3 : tSt, st3 = tUp st2 20 (st2 27 x2.toNatClampNeg).toNatClampNeg (st2 1 0) →
     (wp_M_day_158 post k18 k164) x1 st3)))))
def wp_M_day_89 (post : Int32 → tSt → Prop) (k18 : Int32 → tSt → Prop) (k164 : tSt → Prop) (x1 : Int32) (x2 : Int32) (st : tSt) : Prop :=
 (wp_M_day_105 post k18 k164) x1 x2 st
def wp_M_day_60 (post : Int32 → tSt → Prop) (k89 : Int32 → Int32 → tSt → Prop) : Nat → Int32 → Int32 → Int32 → tSt → Prop
  | 0 => fun _ _ _ _ => False
  | n + 1 => fun x1 x2 x3 st =>
    (((st 2 0) ≤ x3 →
     k89 x1 x2 st) ∧
     (¬ (st 2 0) ≤ x3 →
     vp_in x3 6 ∧
     wp_M_shareOf x2 x3 st (fun r2 st1 =>
      vp_in x3 6 ∧
      (∀ st3 : tSt, st3 = tUp st1 15 x3.toNatClampNeg ((st 15 x3.toNatClampNeg) + r2) →
       (∀ y3_4 : Int32, y3_4 = x3 + 1 →
        (wp_M_day_60 post k89 n) x1 x2 y3_4 st3)))))
def wp_M_day_279 (post : Int32 → tSt → Prop) (k200 : Int32 → tSt → Prop) (x1 : Int32) (st : tSt) : Prop :=
 (∀ y1_1 : Int32, y1_1 = x1 + 1 →
  k200 y1_1 st)
def wp_M_day_258 (post : Int32 → tSt → Prop) (k200 : Int32 → tSt → Prop) (x1 : Int32) (s0 : Int32) (st : tSt) : Prop :=
 vp_in x1 6 ∧
 vp_in x1 6 ∧
 (∀ st1 : tSt, st1 = tUp st 15 x1.toNatClampNeg ((st 15 x1.toNatClampNeg) + s0) →
  (∀ st2 : tSt, st2 = tUp st1 4 0 ((st1 4 0) - s0) →
   (wp_M_day_279 post k200) x1 st2))
def wp_M_day_200 (post : Int32 → tSt → Prop) : Nat → Int32 → tSt → Prop
  | 0 => fun _ _ => False
  | n + 1 => fun x1 st =>
    (((st 2 0) ≤ x1 →
     post (st 1 0) st) ∧
     (¬ (st 2 0) ≤ x1 →
     ((((st 1 0) - (st 1 0) / (360 : Int32) * (360 : Int32)) = 0 →
      vp_in x1 6 ∧
      (((st 14 x1.toNatClampNeg) = (2 : Int32) →
       (((st 4 0) ≤ (st 10 2) →
        (wp_M_day_258 post (wp_M_day_200 post n)) x1 (st 4 0) st) ∧
        (¬ (st 4 0) ≤ (st 10 2) →
        (wp_M_day_258 post (wp_M_day_200 post n)) x1 (st 10 2) st))) ∧
       (¬ (st 14 x1.toNatClampNeg) = (2 : Int32) →
       (wp_M_day_279 post (wp_M_day_200 post n)) x1 st))) ∧
      (¬ ((st 1 0) - (st 1 0) / (360 : Int32) * (360 : Int32)) = 0 →
      post (st 1 0) st))))
def wp_M_day_188 (post : Int32 → tSt → Prop) (st : tSt) : Prop :=
 (∀ st1 : tSt, st1 = tUp st 1 0 ((st 1 0) + (1 : Int32)) →
  (fun z0 w => ∃ q200, wp_M_day_200 post q200 z0 w) (0 : Int32) st1)
def wp_M_day_166 (post : Int32 → tSt → Prop) (k188 : tSt → Prop) : Nat → Int32 → tSt → Prop
  | 0 => fun _ _ => False
  | n + 1 => fun x1 st =>
    (((6 : Int32) ≤ x1 →
     k188 st) ∧
     (¬ (6 : Int32) ≤ x1 →
     vp_in ((8 : Int32) * x1) 48 ∧
     (∀ st1 : tSt, st1 = tUp st 17 ((8 : Int32) * x1).toNatClampNeg (-1 : Int32) →
      (∀ y1_2 : Int32, y1_2 = x1 + 1 →
       (wp_M_day_166 post k188 n) y1_2 st1))))
def wp_M_day_164 (post : Int32 → tSt → Prop) (st : tSt) : Prop :=
 (fun z0 w => ∃ q166, wp_M_day_166 post (wp_M_day_188 post) q166 z0 w) (0 : Int32) st
def wp_M_day_18 (post : Int32 → tSt → Prop) (k164 : tSt → Prop) : Nat → Int32 → tSt → Prop
  | 0 => fun _ _ => False
  | n + 1 => fun x1 st =>
    (((st 6 0) ≤ x1 →
     k164 st) ∧
     (¬ (st 6 0) ≤ x1 →
     vp_in x1 6 ∧
     (∀ y2_1 : Int32, y2_1 = (st 22 x1.toNatClampNeg) →
      wp_M_has (st 7 0) y2_1 st (fun r3 st2 =>
       ((r3 = 0 →
        wp_M_of y2_1 (0 : Int32) st2 (fun r5 st4 =>
         ((r5 = 0 →
          wp_M_fines st4 (fun st6 =>
           (wp_M_day_105 post (wp_M_day_18 post k164 n) k164) x1 y2_1 st6)) ∧
          (¬ r5 = 0 →
          (wp_M_day_105 post (wp_M_day_18 post k164 n) k164) x1 y2_1 st4)))) ∧
        (¬ r3 = 0 →
        wp_M_fundOf y2_1 st2 (fun r8 st7 =>
         (∀ st9 : tSt, st9 = tUp st7 4 0 ((st2 4 0) + r8) →
          (fun z0 z1 z2 w => ∃ q60, wp_M_day_60 post (wp_M_day_89 post (wp_M_day_18 post k164 n) k164) q60 z0 z1 z2 w) x1 y2_1 (0 : Int32) st9))))))))
def wp_M_day (st : tSt) (post : Int32 → tSt → Prop) : Prop :=
 (((st 1 0) = (9999 : Int32) →
  post (-1 : Int32) st) ∧
  (¬ (st 1 0) = (9999 : Int32) →
  wp_M_tunesOf st (fun st1 =>
   (fun z0 w => ∃ q18, wp_M_day_18 post (wp_M_day_164 post) q18 z0 w) (0 : Int32) st1)))
def wp_M_lasts_28 (post : Int32 → tSt → Prop) (k4 : Int32 → Int32 → tSt → Prop) (k36 : Int32 → tSt → Prop) (x2 : Int32) (s0 : Int32) (s1 : Int32) (st : tSt) : Prop :=
 (∀ y1_1 : Int32, y1_1 = (s0 + s1) →
  (∀ y2_2 : Int32, y2_2 = x2 + 1 →
   k4 y1_1 y2_2 st))
def wp_M_lasts_36 (post : Int32 → tSt → Prop) (x1 : Int32) (st : tSt) : Prop :=
 ((x1 = 0 →
  post (9999 : Int32) st) ∧
  (¬ x1 = 0 →
  (((st 10 2) = 0 →
   post (9999 : Int32) st) ∧
   (¬ (st 10 2) = 0 →
   ¬ (x1 * (st 10 2)) = 0 ∧
   (∀ y2_1 : Int32, y2_1 = ((st 4 0) / (x1 * (st 10 2))) →
    (((9999 : Int32) ≤ y2_1 →
     post (9999 : Int32) st) ∧
     (¬ (9999 : Int32) ≤ y2_1 →
     post y2_1 st)))))))
def wp_M_lasts_4 (post : Int32 → tSt → Prop) (k36 : Int32 → tSt → Prop) : Nat → Int32 → Int32 → tSt → Prop
  | 0 => fun _ _ _ => False
  | n + 1 => fun x1 x2 st =>
    (((st 2 0) ≤ x2 →
     k36 x1 st) ∧
     (¬ (st 2 0) ≤ x2 →
     vp_in x2 6 ∧
     (((st 14 x2.toNatClampNeg) = (2 : Int32) →
      (wp_M_lasts_28 post (wp_M_lasts_4 post k36 n) k36) x2 x1 (1 : Int32) st) ∧
      (¬ (st 14 x2.toNatClampNeg) = (2 : Int32) →
      (wp_M_lasts_28 post (wp_M_lasts_4 post k36 n) k36) x2 x1 (0 : Int32) st))))
def wp_M_lasts (st : tSt) (post : Int32 → tSt → Prop) : Prop :=
 (fun z0 z1 w => ∃ q4, wp_M_lasts_4 post (wp_M_lasts_36 post) q4 z0 z1 w) (0 : Int32) (0 : Int32) st
def wp_M_look_99 (post : Int32 → tSt → Prop) (k72 : Int32 → Int32 → Int32 → tSt → Prop) (x1 : Int32) (x5 : Int32) (s0 : Int32) (s1 : Int32) (st : tSt) : Prop :=
 (∀ y4_1 : Int32, y4_1 = (s0 + s1) →
  (∀ y5_2 : Int32, y5_2 = x5 + 1 →
   k72 x1 y4_1 y5_2 st))
def wp_M_look_72 (post : Int32 → tSt → Prop) : Nat → Int32 → Int32 → Int32 → tSt → Prop
  | 0 => fun _ _ _ _ => False
  | n + 1 => fun x1 x4 x5 st =>
    (((st 8 0) ≤ x5 →
     post x4 st) ∧
     (¬ (st 8 0) ≤ x5 →
     vp_in x5 12 ∧
     (((st 25 x5.toNatClampNeg) = x1 →
      (wp_M_look_99 post (wp_M_look_72 post n)) x1 x5 x4 (1 : Int32) st) ∧
      (¬ (st 25 x5.toNatClampNeg) = x1 →
      (wp_M_look_99 post (wp_M_look_72 post n)) x1 x5 x4 (0 : Int32) st))))
def wp_M_look (x1 : Int32) (x2 : Int32) (st : tSt) (post : Int32 → tSt → Prop) : Prop :=
 wp_M_isPiper x1 st (fun r2 st1 =>
  ((r2 = 0 →
   post (-1 : Int32) st1) ∧
   (¬ r2 = 0 →
   ((x2 = 0 →
    vp_in x1 6 ∧
    post (st1 12 x1.toNatClampNeg) st1) ∧
    (¬ x2 = 0 →
    ((x2 = 1 →
     vp_in x1 6 ∧
     post (st1 13 x1.toNatClampNeg) st1) ∧
     (¬ x2 = 1 →
     ((x2 = 2 →
      vp_in x1 6 ∧
      post (st1 14 x1.toNatClampNeg) st1) ∧
      (¬ x2 = 2 →
      ((x2 = 3 →
       wp_M_works st1 (fun r4 st3 =>
        (fun z0 z1 z2 w => ∃ q72, wp_M_look_72 post q72 z0 z1 z2 w) x1 (0 : Int32) (0 : Int32) st3)) ∧
       (¬ x2 = 3 →
       post (-1 : Int32) st1)))))))))))
def wp_M_wages (x1 : Int32) (st : tSt) (post : Int32 → tSt → Prop) : Prop :=
 ((x1 = (-1 : Int32) →
  post (st 4 0) st) ∧
  (¬ x1 = (-1 : Int32) →
  wp_M_isPiper x1 st (fun r2 st1 =>
   ((r2 = 0 →
    post (0 : Int32) st1) ∧
    (¬ r2 = 0 →
    vp_in x1 6 ∧
    post (st1 15 x1.toNatClampNeg) st1)))))
def wp_M_about (x1 : Int32) (x2 : Int32) (st : tSt) (post : Int32 → tSt → Prop) : Prop :=
 wp_M_isCall x1 st (fun r2 st1 =>
  ((r2 = 0 →
   post (-1 : Int32) st1) ∧
   (¬ r2 = 0 →
   wp_M_lies x2 (0 : Int32) (7 : Int32) st1 (fun r4 st3 =>
    ((r4 = 0 →
     post (-1 : Int32) st3) ∧
     (¬ r4 = 0 →
     wp_M_of x1 x2 st3 (fun r6 st5 =>
      post r6 st5)))))))
def wp_M_count_145 (post : Int32 → tSt → Prop) (k125 : Int32 → Int32 → tSt → Prop) (x3 : Int32) (s0 : Int32) (s1 : Int32) (st : tSt) : Prop :=
 (∀ y2_1 : Int32, y2_1 = (s0 + s1) →
  (∀ y3_2 : Int32, y3_2 = x3 + 1 →
   k125 y2_1 y3_2 st))
def wp_M_count_125 (post : Int32 → tSt → Prop) : Nat → Int32 → Int32 → tSt → Prop
  | 0 => fun _ _ _ => False
  | n + 1 => fun x2 x3 st =>
    (((6 : Int32) ≤ x3 →
     post x2 st) ∧
     (¬ (6 : Int32) ≤ x3 →
     wp_M_isCall x3 st (fun r2 st1 =>
      ((r2 = 0 →
       (wp_M_count_145 post (wp_M_count_125 post n)) x3 x2 (0 : Int32) st1) ∧
       (¬ r2 = 0 →
       (wp_M_count_145 post (wp_M_count_125 post n)) x3 x2 (1 : Int32) st1)))))
def wp_M_count (x1 : Int32) (st : tSt) (post : Int32 → tSt → Prop) : Prop :=
 wp_M_lies x1 (10 : Int32) (13 : Int32) st (fun r2 st1 =>
  ((r2 = 0 →
   wp_M_lies x1 (20 : Int32) (24 : Int32) st1 (fun r4 st3 =>
    ((r4 = 0 →
     wp_M_lies x1 (30 : Int32) ((29 : Int32) + (st3 3 0)) st3 (fun r6 st5 =>
      ((r6 = 0 →
       ((x1 = 0 →
        post (st5 1 0) st5) ∧
        (¬ x1 = 0 →
        ((x1 = 1 →
         wp_M_month st5 (fun r8 st7 =>
          post r8 st7)) ∧
         (¬ x1 = 1 →
         ((x1 = 2 →
          post (st5 2 0) st5) ∧
          (¬ x1 = 2 →
          ((x1 = 3 →
           (fun z0 z1 w => ∃ q125, wp_M_count_125 post q125 z0 z1 w) (0 : Int32) (0 : Int32) st5) ∧
           (¬ x1 = 3 →
           ((x1 = 4 →
            post (st5 3 0) st5) ∧
            (¬ x1 = 4 →
            ((x1 = 5 →
             post (st5 0 0) st5) ∧
             (¬ x1 = 5 →
             post (-1 : Int32) st5))))))))))))) ∧
       (¬ r6 = 0 →
       vp_in (x1 - (30 : Int32)) 10 ∧
       post (st5 20 (x1 - (30 : Int32)).toNatClampNeg) st5)))) ∧
     (¬ r4 = 0 →
     vp_in (x1 - (20 : Int32)) 5 ∧
     post (st3 16 (x1 - (20 : Int32)).toNatClampNeg) st3)))) ∧
   (¬ r2 = 0 →
   vp_in (x1 - (10 : Int32)) 4 ∧
   post (st1 10 (x1 - (10 : Int32)).toNatClampNeg) st1)))
end
section
abbrev rmX4_size : Room := { frames := 0, cells := 0, slots := 0, locals := 0 }
theorem cw_X4_size {R : Room} {own : String} {index : Nat} (h : rmX4_size.frames + 1 ≤ R.frames ∧ 8 + (1 + 11) + rmX4_size.locals ≤ R.locals) : tCw R own index yX4_size cX4_size 1 (some .int) rmX4_size 0 := ⟨kw_2, kw_1, ⟨rfl, rfl, h.1, h.2⟩, by decide +kernel, by decide +kernel, by decide +kernel⟩

set_option maxHeartbeats 4000000 in
set_option maxRecDepth 100000 in
theorem mt_X4_size (l : Launch) (dC : Nat → ClassId) (dI : Nat → Nat → Nat) (a : Nat → Nat) (ca : Nat → ClassId) (tb : Nat → Nat) (sz : Nat) (st : tSt) (post : Int32 → tSt → Prop) (h : wp_Tape_size  st post) : Met l yX4_size (.code yX4_size cX4_size 1 (some .int) :: tWALL) rmX4_size (va_Pc [.ref (a 1)] (tPre 48 (cwC a ca) dC dI a ca tb sz st)) (va_Qi post (tB (cwC a ca) dC dI) (tA 48 a sz)) 0 0 (tA 48 a sz) := by
  refine tp_met (by decide) (Nat.le_of_ble_eq_true rfl) ?_
  intro p e s m below meth c ls S hr hlk hsz E hP hl
  subst hsz
  have S : CallFix p m c cX4_size 1 s _ (.code yX4_size cX4_size 1 (some .int) :: tWALL) RX4 := S
  have hl : lv_has ls 1 [(0, .ref (a 1))] := hl
  have hS : va_S (tA 48 a s.heap.size) s.heap s.heap [] := va_S.rf
  show W p l e _ s m _ below meth c s.heap [] 0 0 (tQi (cwC a ca) 48 dC dI a ([.ref (a 1)] : List Value).toArray below s post) (F0 m 0 ls [])
  refine lv_aload_n (pc := 0) S.1 S.2.1 dX4_size_0 rfl (lv_at hl 0 rfl) ?_
  refine tp_get (pc := 1) S E.1 hP iwX4 1 (cC_tape a ca st) rfl 1 (by decide) kw_0 (v := .int (st 5 0)) rfl dX4_size_1 ?_
  exact tRi S hr hlk hP hS h dX4_size_4

abbrev rmX4_hasRoom : Room := { frames := 0, cells := 0, slots := 0, locals := 0 }
theorem cw_X4_hasRoom {R : Room} {own : String} {index : Nat} (h : rmX4_hasRoom.frames + 1 ≤ R.frames ∧ 8 + (1 + 11) + rmX4_hasRoom.locals ≤ R.locals) : tCw R own index yX4_hasRoom cX4_hasRoom 1 (some .boolean) rmX4_hasRoom 0 := ⟨kw_3, kw_1, ⟨rfl, rfl, h.1, h.2⟩, by decide +kernel, by decide +kernel, by decide +kernel⟩

set_option maxHeartbeats 4000000 in
set_option maxRecDepth 100000 in
theorem mt_X4_hasRoom (l : Launch) (dC : Nat → ClassId) (dI : Nat → Nat → Nat) (a : Nat → Nat) (ca : Nat → ClassId) (tb : Nat → Nat) (sz : Nat) (st : tSt) (post : Int32 → tSt → Prop) (h : wp_Tape_hasRoom  st post) : Met l yX4_hasRoom (.code yX4_hasRoom cX4_hasRoom 1 (some .boolean) :: tWALL) rmX4_hasRoom (va_Pc [.ref (a 1)] (tPre 48 (cwC a ca) dC dI a ca tb sz st)) (va_Qi post (tB (cwC a ca) dC dI) (tA 48 a sz)) 0 0 (tA 48 a sz) := by
  refine tp_met (by decide) (Nat.le_of_ble_eq_true rfl) ?_
  intro p e s m below meth c ls S hr hlk hsz E hP hl
  subst hsz
  have S : CallFix p m c cX4_hasRoom 1 s _ (.code yX4_hasRoom cX4_hasRoom 1 (some .boolean) :: tWALL) RX4 := S
  have hl : lv_has ls 1 [(0, .ref (a 1))] := hl
  have hS : va_S (tA 48 a s.heap.size) s.heap s.heap [] := va_S.rf
  show W p l e _ s m _ below meth c s.heap [] 0 0 (tQi (cwC a ca) 48 dC dI a ([.ref (a 1)] : List Value).toArray below s post) (F0 m 0 ls [])
  refine lv_aload_n (pc := 0) S.1 S.2.1 dX4_hasRoom_0 rfl (lv_at hl 0 rfl) ?_
  refine tp_get (pc := 1) S E.1 hP iwX4 1 (cC_tape a ca st) rfl 1 (by decide) kw_0 (v := .int (st 5 0)) rfl dX4_hasRoom_1 ?_
  refine lv_bipush (pc := 4) S.1 S.2.1 (v := 20) dX4_hasRoom_4 (by decide) ?_
  refine lv_iadd (pc := 6) S.1 S.2.1 dX4_hasRoom_6 ?_
  refine lv_bipush (pc := 7) S.1 S.2.1 (v := 40) dX4_hasRoom_7 (by decide) ?_
  refine lv_icmp_gt (pc := 9) (tgt := 16) S.1 S.2.1 dX4_hasRoom_9 (by decide) (fun c1 => ?_) (fun c1 => ?_)
  · have h := h.1 c1
    refine lv_iconst (pc := 16) S.1 S.2.1 (v := 0) dX4_hasRoom_16 (by decide) ?_
    exact tRz S hr hlk hP hS (Or.inl rfl) h dX4_hasRoom_17
  · have h := h.2 c1
    refine lv_iconst (pc := 12) S.1 S.2.1 (v := 1) dX4_hasRoom_12 (by decide) ?_
    refine lv_goto (pc := 13) S.1 S.2.1 (tgt := 17) dX4_hasRoom_13 (by decide) ?_
    exact tRz S hr hlk hP hS (Or.inr rfl) h dX4_hasRoom_17

abbrev rmX4_put : Room := { frames := 0, cells := 0, slots := 0, locals := 0 }
theorem cw_X4_put {R : Room} {own : String} {index : Nat} (h : rmX4_put.frames + 1 ≤ R.frames ∧ 8 + (3 + 11) + rmX4_put.locals ≤ R.locals) : tCw R own index yX4_put cX4_put 3 none rmX4_put 1 := ⟨kw_5, kw_1, ⟨rfl, rfl, h.1, h.2⟩, by decide +kernel, by decide +kernel, by decide +kernel⟩
set_option maxHeartbeats 4000000 in
set_option maxRecDepth 100000 in
theorem wk_X4_put_3 {p : Program} {l : Launch} {e : Env} {s : State} {m : MethodId} {args : Array Value} {below : List Frame} {meth : Method} {c : Code} {dC : Nat → ClassId} {dI : Nat → Nat → Nat} {a : Nat → Nat} {ca : Nat → ClassId} {tb : Nat → Nat} {w0 : Cond} (S : CallFix p m c cX4_put 3 s args (w0 :: tWALL) RX4) (hr : meth.sig.returnType = none) (hlk : meth.locks = false) (E : tEnv 48 dC dI a ca tb s) (post : tSt → Prop) : ∀ (n : Nat) (x1 : Int32) (x2 : Int32) (st : tSt), wp_Tape_put_3 post n x1 x2 st → tAt p l e rmX4_put s m args below meth c (dC, dI) (cwC a ca) (tA 48 a s.heap.size) (tQv (cwC a ca) 48 dC dI a args below s post) 3 3 [(0, .ref (a 1)), (1, .int x1), (2, .int x2)] [] st := by
  intro n
  induction n with
  | zero => intro x1 x2 st h; exact absurd h id
  | succ n ih =>
    intro x1 x2 st h H locs ls hP hS hl
    refine lv_iload_n (pc := 3) S.1 S.2.1 dX4_put_3 rfl (lv_at hl 2 rfl) ?_
    refine lv_if_lt (pc := 4) (tgt := 48) S.1 S.2.1 dX4_put_4 (by decide) (fun c1 => ?_) (fun c1 => ?_)
    · have h := h.1 c1
      exact tRv S hr hlk hP hS h dX4_put_48
    · have h := h.2 c1
      refine lv_aload_n (pc := 7) S.1 S.2.1 dX4_put_7 rfl (lv_at hl 0 rfl) ?_
      refine tp_get (pc := 8) S E.1 hP iwX4 1 (cC_tape a ca st) rfl 1 (by decide) kw_0 (v := .int (st 5 0)) rfl dX4_put_8 ?_
      refine lv_bipush (pc := 11) S.1 S.2.1 (v := 40) dX4_put_11 (by decide) ?_
      refine lv_icmp_ge (pc := 13) (tgt := 48) S.1 S.2.1 dX4_put_13 (by decide) (fun c2 => ?_) (fun c2 => ?_)
      · have h := h.1 c2
        exact tRv S hr hlk hP hS h dX4_put_48
      · have h := h.2 c2
        refine lv_aload_n (pc := 16) S.1 S.2.1 dX4_put_16 rfl (lv_at hl 0 rfl) ?_
        refine tp_get (pc := 17) S E.1 hP iwX4 1 (cC_tape a ca st) rfl 0 (by decide) kw_4 (v := .ref (a 2)) rfl dX4_put_17 ?_
        refine lv_aload_n (pc := 20) S.1 S.2.1 dX4_put_20 rfl (lv_at hl 0 rfl) ?_
        refine tp_get (pc := 21) S E.1 hP iwX4 1 (cC_tape a ca st) rfl 1 (by decide) kw_0 (v := .int (st 5 0)) rfl dX4_put_21 ?_
        refine lv_iload_n (pc := 24) S.1 S.2.1 dX4_put_24 rfl (lv_at hl 1 rfl) ?_
        refine lv_iload_n (pc := 25) S.1 S.2.1 dX4_put_25 rfl (lv_at hl 2 rfl) ?_
        refine lv_ishr (pc := 26) S.1 S.2.1 dX4_put_26 ?_
        refine lv_sipush (pc := 27) S.1 S.2.1 (v := 255) dX4_put_27 (by decide) ?_
        refine lv_iand (pc := 30) S.1 S.2.1 dX4_put_30 ?_
        obtain ⟨hn3, h⟩ := h
        refine tp_iast (pc := 31) S E.1 hP (cC_D E st) hS 2 0 (cC_bytes a ca st) rfl (j := (st 5 0).toNatClampNeg) rfl hn3 (sC_bytes a ca st _ _) dX4_put_31 (fun st1 H locs e4 hP hS => ?_)
        have h := h st1 e4
        refine lv_aload_n (pc := 32) S.1 S.2.1 dX4_put_32 rfl (lv_at hl 0 rfl) ?_
        refine lv_dup (pc := 33) S.1 S.2.1 dX4_put_33 rfl ?_
        refine tp_get (pc := 34) S E.1 hP iwX4 1 (cC_tape a ca st1) rfl 1 (by decide) kw_0 (v := .int (st1 5 0)) rfl dX4_put_34 ?_
        refine lv_iconst (pc := 37) S.1 S.2.1 (v := 1) dX4_put_37 (by decide) ?_
        refine lv_iadd (pc := 38) S.1 S.2.1 dX4_put_38 ?_
        refine tp_put (pc := 39) S E.1 hP (cC_D E st1) hS iwX4 tyX4 tyX4_ok nmX4 1 (cC_tape a ca st1) rfl 1 (by decide) kw_0 rfl (v := .int ((st1 5 0) + (1 : Int32))) (tyX4_ok 1 (by decide)) rfl rfl (Nat.le_of_ble_eq_true rfl) (sC_tape_length a ca st1 _) dX4_put_39 (fun st2 H locs e5 hP hS => ?_)
        have h := h st2 e5
        obtain ⟨y2_3, e6⟩ : ∃ y : Int32, y = x2 + (-8) := ⟨_, rfl⟩
        have h := h y2_3 e6
        refine lv_iinc (pc := 42) S.1 S.2.1 (v := y2_3) (lv' := [(2, .int y2_3), (0, .ref (a 1)), (1, .int x1)]) dX4_put_42 hl (k := 2) rfl (by rw [e6]; rfl) (by decide) rfl (fun ls hl => ?_)
        refine lv_goto (pc := 45) S.1 S.2.1 (tgt := 3) dX4_put_45 (by decide) ?_
        exact ih x1 y2_3 st2 h _ _ _ hP hS (lv_sub hl [1, 2, 0] rfl)
set_option maxHeartbeats 4000000 in
set_option maxRecDepth 100000 in
theorem mt_X4_put (l : Launch) (dC : Nat → ClassId) (dI : Nat → Nat → Nat) (a : Nat → Nat) (ca : Nat → ClassId) (tb : Nat → Nat) (sz : Nat) (x1 : Int32) (st : tSt) (post : tSt → Prop) (h : wp_Tape_put x1 st post) : Met l yX4_put (.code yX4_put cX4_put 3 none :: tWALL) rmX4_put (va_Pc [.ref (a 1), .int x1] (tPre 48 (cwC a ca) dC dI a ca tb sz st)) (va_Qv post (tB (cwC a ca) dC dI) (tA 48 a sz)) 0 0 (tA 48 a sz) := by
  refine tp_met (by decide) (Nat.le_of_ble_eq_true rfl) ?_
  intro p e s m below meth c ls S hr hlk hsz E hP hl
  subst hsz
  have S : CallFix p m c cX4_put 3 s _ (.code yX4_put cX4_put 3 none :: tWALL) RX4 := S
  have hl : lv_has ls 3 [(0, .ref (a 1)), (1, .int x1)] := hl
  have hS : va_S (tA 48 a s.heap.size) s.heap s.heap [] := va_S.rf
  show W p l e _ s m _ below meth c s.heap [] 0 0 (tQv (cwC a ca) 48 dC dI a ([.ref (a 1), .int x1] : List Value).toArray below s post) (F0 m 0 ls [])
  refine lv_bipush (pc := 0) S.1 S.2.1 (v := 24) dX4_put_0 (by decide) ?_
  refine lv_istore_n (pc := 2) S.1 S.2.1 (lv' := [(2, .int (24 : Int32)), (0, .ref (a 1)), (1, .int x1)]) dX4_put_2 rfl hl (by decide) rfl (fun ls hl => ?_)
  exact (fun x1 x2 st h => Exists.elim h (fun q h => wk_X4_put_3 S hr hlk E post  q x1 x2 st h)) x1 (24 : Int32) st h _ _ _ hP hS (lv_sub hl [1, 2, 0] rfl)

abbrev rmX7_within : Room := { frames := 0, cells := 0, slots := 0, locals := 0 }
theorem cw_X7_within {R : Room} {own : String} {index : Nat} (h : rmX7_within.frames + 1 ≤ R.frames ∧ 8 + (3 + 11) + rmX7_within.locals ≤ R.locals) : tCw R own index yX7_within cX7_within 3 (some .boolean) rmX7_within 3 := ⟨kw_7, kw_6, ⟨rfl, rfl, h.1, h.2⟩, by decide +kernel, by decide +kernel, by decide +kernel⟩

set_option maxHeartbeats 4000000 in
set_option maxRecDepth 100000 in
theorem mt_X7_within (l : Launch) (dC : Nat → ClassId) (dI : Nat → Nat → Nat) (a : Nat → Nat) (ca : Nat → ClassId) (tb : Nat → Nat) (sz : Nat) (x0 : Int32) (x1 : Int32) (x2 : Int32) (st : tSt) (post : Int32 → tSt → Prop) (h : wp_T_within x0 x1 x2 st post) : Met l yX7_within (.code yX7_within cX7_within 3 (some .boolean) :: tWALL) rmX7_within (va_Pc [.int x0, .int x1, .int x2] (tPre 48 (cwC a ca) dC dI a ca tb sz st)) (va_Qi post (tB (cwC a ca) dC dI) (tA 48 a sz)) 0 0 (tA 48 a sz) := by
  refine tp_met (by decide) (Nat.le_of_ble_eq_true rfl) ?_
  intro p e s m below meth c ls S hr hlk hsz E hP hl
  subst hsz
  have S : CallFix p m c cX7_within 3 s _ (.code yX7_within cX7_within 3 (some .boolean) :: tWALL) RX7 := S
  have hl : lv_has ls 3 [(0, .int x0), (1, .int x1), (2, .int x2)] := hl
  have hS : va_S (tA 48 a s.heap.size) s.heap s.heap [] := va_S.rf
  show W p l e _ s m _ below meth c s.heap [] 0 0 (tQi (cwC a ca) 48 dC dI a ([.int x0, .int x1, .int x2] : List Value).toArray below s post) (F0 m 0 ls [])
  refine lv_iload_n (pc := 0) S.1 S.2.1 dX7_within_0 rfl (lv_at hl 0 rfl) ?_
  refine lv_iload_n (pc := 1) S.1 S.2.1 dX7_within_1 rfl (lv_at hl 1 rfl) ?_
  refine lv_icmp_lt (pc := 2) (tgt := 14) S.1 S.2.1 dX7_within_2 (by decide) (fun c1 => ?_) (fun c1 => ?_)
  · have h := h.1 c1
    refine lv_iconst (pc := 14) S.1 S.2.1 (v := 0) dX7_within_14 (by decide) ?_
    exact tRz S hr hlk hP hS (Or.inl rfl) h dX7_within_15
  · have h := h.2 c1
    refine lv_iload_n (pc := 5) S.1 S.2.1 dX7_within_5 rfl (lv_at hl 0 rfl) ?_
    refine lv_iload_n (pc := 6) S.1 S.2.1 dX7_within_6 rfl (lv_at hl 2 rfl) ?_
    refine lv_icmp_gt (pc := 7) (tgt := 14) S.1 S.2.1 dX7_within_7 (by decide) (fun c2 => ?_) (fun c2 => ?_)
    · have h := h.1 c2
      refine lv_iconst (pc := 14) S.1 S.2.1 (v := 0) dX7_within_14 (by decide) ?_
      exact tRz S hr hlk hP hS (Or.inl rfl) h dX7_within_15
    · have h := h.2 c2
      refine lv_iconst (pc := 10) S.1 S.2.1 (v := 1) dX7_within_10 (by decide) ?_
      refine lv_goto (pc := 11) S.1 S.2.1 (tgt := 15) dX7_within_11 (by decide) ?_
      exact tRz S hr hlk hP hS (Or.inr rfl) h dX7_within_15

abbrev rmX4_byteAt : Room := { frames := 1, cells := 0, slots := 0, locals := 22 }
theorem cw_X4_byteAt {R : Room} {own : String} {index : Nat} (h : rmX4_byteAt.frames + 1 ≤ R.frames ∧ 8 + (2 + 11) + rmX4_byteAt.locals ≤ R.locals) : tCw R own index yX4_byteAt cX4_byteAt 2 (some .int) rmX4_byteAt 1 := ⟨kw_10, kw_1, ⟨rfl, rfl, h.1, h.2⟩, by decide +kernel, by decide +kernel, by decide +kernel⟩

set_option maxHeartbeats 4000000 in
set_option maxRecDepth 100000 in
theorem mt_X4_byteAt (l : Launch) (dC : Nat → ClassId) (dI : Nat → Nat → Nat) (a : Nat → Nat) (ca : Nat → ClassId) (tb : Nat → Nat) (sz : Nat) (x1 : Int32) (st : tSt) (post : Int32 → tSt → Prop) (h : wp_Tape_byteAt x1 st post) : Met l yX4_byteAt (.code yX4_byteAt cX4_byteAt 2 (some .int) :: tWALL) rmX4_byteAt (va_Pc [.ref (a 1), .int x1] (tPre 48 (cwC a ca) dC dI a ca tb sz st)) (va_Qi post (tB (cwC a ca) dC dI) (tA 48 a sz)) 0 0 (tA 48 a sz) := by
  refine tp_met (by decide) (Nat.le_of_ble_eq_true rfl) ?_
  intro p e s m below meth c ls S hr hlk hsz E hP hl
  subst hsz
  have S : CallFix p m c cX4_byteAt 2 s _ (.code yX4_byteAt cX4_byteAt 2 (some .int) :: tWALL) RX4 := S
  have hl : lv_has ls 2 [(0, .ref (a 1)), (1, .int x1)] := hl
  have hS : va_S (tA 48 a s.heap.size) s.heap s.heap [] := va_S.rf
  show W p l e _ s m _ below meth c s.heap [] 0 0 (tQi (cwC a ca) 48 dC dI a ([.ref (a 1), .int x1] : List Value).toArray below s post) (F0 m 0 ls [])
  refine lv_iload_n (pc := 0) S.1 S.2.1 dX4_byteAt_0 rfl (lv_at hl 1 rfl) ?_
  refine lv_iconst (pc := 1) S.1 S.2.1 (v := 0) dX4_byteAt_1 (by decide) ?_
  refine lv_aload_n (pc := 2) S.1 S.2.1 dX4_byteAt_2 rfl (lv_at hl 0 rfl) ?_
  refine tp_get (pc := 3) S E.1 hP iwX4 1 (cC_tape a ca st) rfl 1 (by decide) kw_0 (v := .int (st 5 0)) rfl dX4_byteAt_3 ?_
  refine lv_iconst (pc := 6) S.1 S.2.1 (v := 1) dX4_byteAt_6 (by decide) ?_
  refine lv_isub (pc := 7) S.1 S.2.1 dX4_byteAt_7 ?_
  refine tGi hS (tRunSN (pc := 8) (As := [.int x1, .int (0 : Int32), .int ((st 5 0) - (1 : Int32))]) (rest := []) S E hP hS (mt_X7_within l dC dI a ca tb H.size x1 (0 : Int32) ((st 5 0) - (1 : Int32)) st _ h) (cw_X7_within ⟨Nat.le_of_ble_eq_true rfl, Nat.le_of_ble_eq_true rfl⟩) kw_9 kw_8 rfl hl.1 rfl (by decide) dX4_byteAt_8) (fun r2 st1 H locs h hP hS => ?_)
  refine lv_if_eq (pc := 11) (tgt := 23) S.1 S.2.1 dX4_byteAt_11 (by decide) (fun c1 => ?_) (fun c1 => ?_)
  · have h := h.1 c1
    refine lv_iconst (pc := 23) S.1 S.2.1 (v := (-1)) dX4_byteAt_23 (by decide) ?_
    exact tRi S hr hlk hP hS h dX4_byteAt_24
  · have h := h.2 c1
    refine lv_aload_n (pc := 14) S.1 S.2.1 dX4_byteAt_14 rfl (lv_at hl 0 rfl) ?_
    refine tp_get (pc := 15) S E.1 hP iwX4 1 (cC_tape a ca st1) rfl 0 (by decide) kw_4 (v := .ref (a 2)) rfl dX4_byteAt_15 ?_
    refine lv_iload_n (pc := 18) S.1 S.2.1 dX4_byteAt_18 rfl (lv_at hl 1 rfl) ?_
    obtain ⟨hn2, h⟩ := h
    refine tp_iald (pc := 19) S E.1 hP 2 0 (cC_bytes a ca st1) rfl (j := x1.toNatClampNeg) rfl hn2 dX4_byteAt_19 ?_
    refine lv_goto (pc := 20) S.1 S.2.1 (tgt := 24) dX4_byteAt_20 (by decide) ?_
    exact tRi S hr hlk hP hS h dX4_byteAt_24

abbrev rmX4_empty : Room := { frames := 0, cells := 0, slots := 0, locals := 0 }
theorem cw_X4_empty {R : Room} {own : String} {index : Nat} (h : rmX4_empty.frames + 1 ≤ R.frames ∧ 8 + (1 + 11) + rmX4_empty.locals ≤ R.locals) : tCw R own index yX4_empty cX4_empty 1 none rmX4_empty 0 := ⟨kw_11, kw_1, ⟨rfl, rfl, h.1, h.2⟩, by decide +kernel, by decide +kernel, by decide +kernel⟩

set_option maxHeartbeats 4000000 in
set_option maxRecDepth 100000 in
theorem mt_X4_empty (l : Launch) (dC : Nat → ClassId) (dI : Nat → Nat → Nat) (a : Nat → Nat) (ca : Nat → ClassId) (tb : Nat → Nat) (sz : Nat) (st : tSt) (post : tSt → Prop) (h : wp_Tape_empty  st post) : Met l yX4_empty (.code yX4_empty cX4_empty 1 none :: tWALL) rmX4_empty (va_Pc [.ref (a 1)] (tPre 48 (cwC a ca) dC dI a ca tb sz st)) (va_Qv post (tB (cwC a ca) dC dI) (tA 48 a sz)) 0 0 (tA 48 a sz) := by
  refine tp_met (by decide) (Nat.le_of_ble_eq_true rfl) ?_
  intro p e s m below meth c ls S hr hlk hsz E hP hl
  subst hsz
  have S : CallFix p m c cX4_empty 1 s _ (.code yX4_empty cX4_empty 1 none :: tWALL) RX4 := S
  have hl : lv_has ls 1 [(0, .ref (a 1))] := hl
  have hS : va_S (tA 48 a s.heap.size) s.heap s.heap [] := va_S.rf
  show W p l e _ s m _ below meth c s.heap [] 0 0 (tQv (cwC a ca) 48 dC dI a ([.ref (a 1)] : List Value).toArray below s post) (F0 m 0 ls [])
  refine lv_aload_n (pc := 0) S.1 S.2.1 dX4_empty_0 rfl (lv_at hl 0 rfl) ?_
  refine lv_iconst (pc := 1) S.1 S.2.1 (v := 0) dX4_empty_1 (by decide) ?_
  refine tp_put (pc := 2) S E.1 hP (cC_D E st) hS iwX4 tyX4 tyX4_ok nmX4 1 (cC_tape a ca st) rfl 1 (by decide) kw_0 rfl (v := .int (0 : Int32)) (tyX4_ok 1 (by decide)) rfl rfl (Nat.le_of_ble_eq_true rfl) (sC_tape_length a ca st _) dX4_empty_2 (fun st1 H locs e1 hP hS => ?_)
  have h := h st1 e1
  exact tRv S hr hlk hP hS h dX4_empty_5

abbrev rmX5_number : Room := { frames := 1, cells := 0, slots := 0, locals := 22 }
theorem cw_X5_number {R : Room} {own : String} {index : Nat} (h : rmX5_number.frames + 1 ≤ R.frames ∧ 8 + (2 + 11) + rmX5_number.locals ≤ R.locals) : tCw R own index yX5_number cX5_number 2 (some .int) rmX5_number 1 := ⟨kw_15, kw_14, ⟨rfl, rfl, h.1, h.2⟩, by decide +kernel, by decide +kernel, by decide +kernel⟩

set_option maxHeartbeats 4000000 in
set_option maxRecDepth 100000 in
theorem mt_X5_number (l : Launch) (dC : Nat → ClassId) (dI : Nat → Nat → Nat) (a : Nat → Nat) (ca : Nat → ClassId) (tb : Nat → Nat) (sz : Nat) (x1 : Int32) (st : tSt) (post : Int32 → tSt → Prop) (h : wp_TownWord_number x1 st post) : Met l yX5_number (.code yX5_number cX5_number 2 (some .int) :: tWALL) rmX5_number (va_Pc [.ref (a 3), .int x1] (tPre 48 (cwC a ca) dC dI a ca tb sz st)) (va_Qi post (tB (cwC a ca) dC dI) (tA 48 a sz)) 0 0 (tA 48 a sz) := by
  refine tp_met (by decide) (Nat.le_of_ble_eq_true rfl) ?_
  intro p e s m below meth c ls S hr hlk hsz E hP hl
  subst hsz
  have S : CallFix p m c cX5_number 2 s _ (.code yX5_number cX5_number 2 (some .int) :: tWALL) RX5 := S
  have hl : lv_has ls 2 [(0, .ref (a 3)), (1, .int x1)] := hl
  have hS : va_S (tA 48 a s.heap.size) s.heap s.heap [] := va_S.rf
  show W p l e _ s m _ below meth c s.heap [] 0 0 (tQi (cwC a ca) 48 dC dI a ([.ref (a 3), .int x1] : List Value).toArray below s post) (F0 m 0 ls [])
  refine lv_iload_n (pc := 0) S.1 S.2.1 dX5_number_0 rfl (lv_at hl 1 rfl) ?_
  refine lv_iconst (pc := 1) S.1 S.2.1 (v := 0) dX5_number_1 (by decide) ?_
  refine lv_iconst (pc := 2) S.1 S.2.1 (v := 3) dX5_number_2 (by decide) ?_
  refine tGi hS (tRunSN (pc := 3) (As := [.int x1, .int (0 : Int32), .int (3 : Int32)]) (rest := []) S E hP hS (mt_X7_within l dC dI a ca tb H.size x1 (0 : Int32) (3 : Int32) st _ h) (cw_X7_within ⟨Nat.le_of_ble_eq_true rfl, Nat.le_of_ble_eq_true rfl⟩) kw_12 kw_8 rfl hl.1 rfl (by decide) dX5_number_3) (fun r2 st1 H locs h hP hS => ?_)
  refine lv_if_eq (pc := 6) (tgt := 18) S.1 S.2.1 dX5_number_6 (by decide) (fun c1 => ?_) (fun c1 => ?_)
  · have h := h.1 c1
    refine lv_iconst (pc := 18) S.1 S.2.1 (v := (-1)) dX5_number_18 (by decide) ?_
    exact tRi S hr hlk hP hS h dX5_number_19
  · have h := h.2 c1
    refine lv_aload_n (pc := 9) S.1 S.2.1 dX5_number_9 rfl (lv_at hl 0 rfl) ?_
    refine tp_get (pc := 10) S E.1 hP iwX5 3 (cC_tw a ca st1) rfl 0 (by decide) kw_13 (v := .ref (a 4)) rfl dX5_number_10 ?_
    refine lv_iload_n (pc := 13) S.1 S.2.1 dX5_number_13 rfl (lv_at hl 1 rfl) ?_
    obtain ⟨hn2, h⟩ := h
    refine tp_iald (pc := 14) S E.1 hP 4 0 (cC_numbers a ca st1) rfl (j := x1.toNatClampNeg) rfl hn2 dX5_number_14 ?_
    refine lv_goto (pc := 15) S.1 S.2.1 (tgt := 19) dX5_number_15 (by decide) ?_
    exact tRi S hr hlk hP hS h dX5_number_19

abbrev rmX5_kindAt : Room := { frames := 2, cells := 0, slots := 0, locals := 43 }
theorem cw_X5_kindAt {R : Room} {own : String} {index : Nat} (h : rmX5_kindAt.frames + 1 ≤ R.frames ∧ 8 + (4 + 11) + rmX5_kindAt.locals ≤ R.locals) : tCw R own index yX5_kindAt cX5_kindAt 4 (some .int) rmX5_kindAt 3 := ⟨kw_20, kw_14, ⟨rfl, rfl, h.1, h.2⟩, by decide +kernel, by decide +kernel, by decide +kernel⟩
set_option maxHeartbeats 4000000 in
set_option maxRecDepth 100000 in
theorem wk_X5_kindAt_2 {p : Program} {l : Launch} {e : Env} {s : State} {m : MethodId} {args : Array Value} {below : List Frame} {meth : Method} {c : Code} {dC : Nat → ClassId} {dI : Nat → Nat → Nat} {a : Nat → Nat} {ca : Nat → ClassId} {tb : Nat → Nat} {w0 : Cond} (S : CallFix p m c cX5_kindAt 4 s args (w0 :: tWALL) RX5) (hr : meth.sig.returnType = (some .int)) (hlk : meth.locks = false) (E : tEnv 48 dC dI a ca tb s) (post : Int32 → tSt → Prop) : ∀ (n : Nat) (x1 : Int32) (x2 : Int32) (x3 : Int32) (st : tSt), wp_TownWord_kindAt_2 post n x1 x2 x3 st → tAt p l e rmX5_kindAt s m args below meth c (dC, dI) (cwC a ca) (tA 48 a s.heap.size) (tQi (cwC a ca) 48 dC dI a args below s post) 4 2 [(0, .ref (a 1)), (1, .int x1), (2, .int x2), (3, .int x3)] [] st := by
  intro n
  induction n with
  | zero => intro x1 x2 x3 st h; exact absurd h id
  | succ n ih =>
    intro x1 x2 x3 st h H locs ls hP hS hl
    refine lv_iload_n (pc := 2) S.1 S.2.1 dX5_kindAt_2 rfl (lv_at hl 3 rfl) ?_
    refine lv_iconst (pc := 3) S.1 S.2.1 (v := 4) dX5_kindAt_3 (by decide) ?_
    refine lv_icmp_ge (pc := 4) (tgt := 33) S.1 S.2.1 dX5_kindAt_4 (by decide) (fun c1 => ?_) (fun c1 => ?_)
    · have h := h.1 c1
      refine lv_iconst (pc := 33) S.1 S.2.1 (v := (-1)) dX5_kindAt_33 (by decide) ?_
      exact tRi S hr hlk hP hS h dX5_kindAt_34
    · have h := h.2 c1
      refine lv_iload_n (pc := 7) S.1 S.2.1 dX5_kindAt_7 rfl (lv_at hl 1 rfl) ?_
      refine lv_iload_n (pc := 8) S.1 S.2.1 dX5_kindAt_8 rfl (lv_at hl 2 rfl) ?_
      refine lv_icmp_ge (pc := 9) (tgt := 33) S.1 S.2.1 dX5_kindAt_9 (by decide) (fun c2 => ?_) (fun c2 => ?_)
      · have h := h.1 c2
        refine lv_iconst (pc := 33) S.1 S.2.1 (v := (-1)) dX5_kindAt_33 (by decide) ?_
        exact tRi S hr hlk hP hS h dX5_kindAt_34
      · have h := h.2 c2
        refine lv_aload_n (pc := 12) S.1 S.2.1 dX5_kindAt_12 rfl (lv_at hl 0 rfl) ?_
        refine lv_iload_n (pc := 13) S.1 S.2.1 dX5_kindAt_13 rfl (lv_at hl 1 rfl) ?_
        refine tGi hS (tRunV (pc := 14) (As := [.int x1]) (rest := []) S E hP hS (mt_X4_byteAt l dC dI a ca tb H.size x1 st _ h) (cw_X4_byteAt ⟨Nat.le_of_ble_eq_true rfl, Nat.le_of_ble_eq_true rfl⟩) kw_16 kw_17 kw_18 1 4 rfl rfl (cC_tape a ca st) rfl hl.1 rfl (by decide) dX5_kindAt_14) (fun r2 st1 H locs h hP hS => ?_)
        refine va_gets (pc := 17) S.1 S.2.1 (E.2.2.1.1).1 hS S.2.2.2.1 (S.2.2.2.2 _ (List.mem_cons_of_mem _ kw_19)) (fun _ h => h) dX5_kindAt_17 ?_
        refine lv_iload_n (pc := 20) S.1 S.2.1 dX5_kindAt_20 rfl (lv_at hl 3 rfl) ?_
        obtain ⟨hn3, h⟩ := h
        refine va_tc (pc := 21) S.1 S.2.1 (E.2.2.1.1).2 hS hn3 (v := .int (tab_LETTERS x3.toNatClampNeg)) rfl dX5_kindAt_21 ?_
        refine lv_icmp_ne (pc := 22) (tgt := 27) S.1 S.2.1 dX5_kindAt_22 (by decide) (fun c4 => ?_) (fun c4 => ?_)
        · have h := h.2 c4
          obtain ⟨y3_3, e5⟩ : ∃ y : Int32, y = x3 + 1 := ⟨_, rfl⟩
          have h := h y3_3 e5
          refine lv_iinc (pc := 27) S.1 S.2.1 (v := y3_3) (lv' := [(3, .int y3_3), (0, .ref (a 1)), (1, .int x1), (2, .int x2)]) dX5_kindAt_27 hl (k := 3) rfl (by rw [e5]; rfl) (by decide) rfl (fun ls hl => ?_)
          refine lv_goto (pc := 30) S.1 S.2.1 (tgt := 2) dX5_kindAt_30 (by decide) ?_
          exact ih x1 x2 y3_3 st1 h _ _ _ hP hS (lv_sub hl [1, 2, 3, 0] rfl)
        · have h := h.1 c4
          refine lv_iload_n (pc := 25) S.1 S.2.1 dX5_kindAt_25 rfl (lv_at hl 3 rfl) ?_
          exact tRi S hr hlk hP hS h dX5_kindAt_26
set_option maxHeartbeats 4000000 in
set_option maxRecDepth 100000 in
theorem mt_X5_kindAt (l : Launch) (dC : Nat → ClassId) (dI : Nat → Nat → Nat) (a : Nat → Nat) (ca : Nat → ClassId) (tb : Nat → Nat) (sz : Nat) (x1 : Int32) (x2 : Int32) (st : tSt) (post : Int32 → tSt → Prop) (h : wp_TownWord_kindAt x1 x2 st post) : Met l yX5_kindAt (.code yX5_kindAt cX5_kindAt 4 (some .int) :: tWALL) rmX5_kindAt (va_Pc [.ref (a 1), .int x1, .int x2] (tPre 48 (cwC a ca) dC dI a ca tb sz st)) (va_Qi post (tB (cwC a ca) dC dI) (tA 48 a sz)) 0 0 (tA 48 a sz) := by
  refine tp_met (by decide) (Nat.le_of_ble_eq_true rfl) ?_
  intro p e s m below meth c ls S hr hlk hsz E hP hl
  subst hsz
  have S : CallFix p m c cX5_kindAt 4 s _ (.code yX5_kindAt cX5_kindAt 4 (some .int) :: tWALL) RX5 := S
  have hl : lv_has ls 4 [(0, .ref (a 1)), (1, .int x1), (2, .int x2)] := hl
  have hS : va_S (tA 48 a s.heap.size) s.heap s.heap [] := va_S.rf
  show W p l e _ s m _ below meth c s.heap [] 0 0 (tQi (cwC a ca) 48 dC dI a ([.ref (a 1), .int x1, .int x2] : List Value).toArray below s post) (F0 m 0 ls [])
  refine lv_iconst (pc := 0) S.1 S.2.1 (v := 0) dX5_kindAt_0 (by decide) ?_
  refine lv_istore_n (pc := 1) S.1 S.2.1 (lv' := [(3, .int (0 : Int32)), (0, .ref (a 1)), (1, .int x1), (2, .int x2)]) dX5_kindAt_1 rfl hl (by decide) rfl (fun ls hl => ?_)
  exact (fun x1 x2 x3 st h => Exists.elim h (fun q h => wk_X5_kindAt_2 S hr hlk E post  q x1 x2 x3 st h)) x1 x2 (0 : Int32) st h _ _ _ hP hS (lv_sub hl [1, 2, 3, 0] rfl)

abbrev rmX5_isDigit : Room := { frames := 2, cells := 0, slots := 0, locals := 43 }
theorem cw_X5_isDigit {R : Room} {own : String} {index : Nat} (h : rmX5_isDigit.frames + 1 ≤ R.frames ∧ 8 + (3 + 11) + rmX5_isDigit.locals ≤ R.locals) : tCw R own index yX5_isDigit cX5_isDigit 3 (some .boolean) rmX5_isDigit 3 := ⟨kw_21, kw_14, ⟨rfl, rfl, h.1, h.2⟩, by decide +kernel, by decide +kernel, by decide +kernel⟩

set_option maxHeartbeats 4000000 in
set_option maxRecDepth 100000 in
theorem mt_X5_isDigit (l : Launch) (dC : Nat → ClassId) (dI : Nat → Nat → Nat) (a : Nat → Nat) (ca : Nat → ClassId) (tb : Nat → Nat) (sz : Nat) (x1 : Int32) (x2 : Int32) (st : tSt) (post : Int32 → tSt → Prop) (h : wp_TownWord_isDigit x1 x2 st post) : Met l yX5_isDigit (.code yX5_isDigit cX5_isDigit 3 (some .boolean) :: tWALL) rmX5_isDigit (va_Pc [.ref (a 1), .int x1, .int x2] (tPre 48 (cwC a ca) dC dI a ca tb sz st)) (va_Qi post (tB (cwC a ca) dC dI) (tA 48 a sz)) 0 0 (tA 48 a sz) := by
  refine tp_met (by decide) (Nat.le_of_ble_eq_true rfl) ?_
  intro p e s m below meth c ls S hr hlk hsz E hP hl
  subst hsz
  have S : CallFix p m c cX5_isDigit 3 s _ (.code yX5_isDigit cX5_isDigit 3 (some .boolean) :: tWALL) RX5 := S
  have hl : lv_has ls 3 [(0, .ref (a 1)), (1, .int x1), (2, .int x2)] := hl
  have hS : va_S (tA 48 a s.heap.size) s.heap s.heap [] := va_S.rf
  show W p l e _ s m _ below meth c s.heap [] 0 0 (tQi (cwC a ca) 48 dC dI a ([.ref (a 1), .int x1, .int x2] : List Value).toArray below s post) (F0 m 0 ls [])
  refine lv_iload_n (pc := 0) S.1 S.2.1 dX5_isDigit_0 rfl (lv_at hl 1 rfl) ?_
  refine lv_iload_n (pc := 1) S.1 S.2.1 dX5_isDigit_1 rfl (lv_at hl 2 rfl) ?_
  refine lv_icmp_ge (pc := 2) (tgt := 24) S.1 S.2.1 dX5_isDigit_2 (by decide) (fun c1 => ?_) (fun c1 => ?_)
  · have h := h.1 c1
    refine lv_iconst (pc := 24) S.1 S.2.1 (v := 0) dX5_isDigit_24 (by decide) ?_
    exact tRz S hr hlk hP hS (Or.inl rfl) h dX5_isDigit_25
  · have h := h.2 c1
    refine lv_aload_n (pc := 5) S.1 S.2.1 dX5_isDigit_5 rfl (lv_at hl 0 rfl) ?_
    refine lv_iload_n (pc := 6) S.1 S.2.1 dX5_isDigit_6 rfl (lv_at hl 1 rfl) ?_
    refine tGi hS (tRunV (pc := 7) (As := [.int x1]) (rest := []) S E hP hS (mt_X4_byteAt l dC dI a ca tb H.size x1 st _ h) (cw_X4_byteAt ⟨Nat.le_of_ble_eq_true rfl, Nat.le_of_ble_eq_true rfl⟩) kw_16 kw_17 kw_18 1 4 rfl rfl (cC_tape a ca st) rfl hl.1 rfl (by decide) dX5_isDigit_7) (fun r2 st1 H locs h hP hS => ?_)
    refine lv_bipush (pc := 10) S.1 S.2.1 (v := 48) dX5_isDigit_10 (by decide) ?_
    refine lv_bipush (pc := 12) S.1 S.2.1 (v := 57) dX5_isDigit_12 (by decide) ?_
    refine tGi hS (tRunSN (pc := 14) (As := [.int r2, .int (48 : Int32), .int (57 : Int32)]) (rest := []) S E hP hS (mt_X7_within l dC dI a ca tb H.size r2 (48 : Int32) (57 : Int32) st1 _ h) (cw_X7_within ⟨Nat.le_of_ble_eq_true rfl, Nat.le_of_ble_eq_true rfl⟩) kw_12 kw_8 rfl hl.1 rfl (by decide) dX5_isDigit_14) (fun r4 st3 H locs h hP hS => ?_)
    refine lv_if_eq (pc := 17) (tgt := 24) S.1 S.2.1 dX5_isDigit_17 (by decide) (fun c2 => ?_) (fun c2 => ?_)
    · have h := h.1 c2
      refine lv_iconst (pc := 24) S.1 S.2.1 (v := 0) dX5_isDigit_24 (by decide) ?_
      exact tRz S hr hlk hP hS (Or.inl rfl) h dX5_isDigit_25
    · have h := h.2 c2
      refine lv_iconst (pc := 20) S.1 S.2.1 (v := 1) dX5_isDigit_20 (by decide) ?_
      refine lv_goto (pc := 21) S.1 S.2.1 (tgt := 25) dX5_isDigit_21 (by decide) ?_
      exact tRz S hr hlk hP hS (Or.inr rfl) h dX5_isDigit_25
end
section
theorem zz_ok : True := trivial
end
