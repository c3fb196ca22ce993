section
-- ===== PART A: goes FIRST, ahead of the names: the tables' words, and 'selects' of the private methods out of them =====
/-- a private method of a class that the tables say can be made, by its rows of tables_1 -/
def lw_okq (q : MethodName × Nat) : Prop := (q.1.cls ≠ "java/lang/invoke/MethodHandle" ∧ q.1.cls ≠ "java/lang/invoke/VarHandle") ∧ Cond.instantiable q.1.cls q.2 ∈ tables_1 ∧ Cond.privateMethod q.1 ∈ tables_1 ∧ Cond.instanceMethod q.1 ∈ tables_1
theorem lw_p0 : lw_okq (⟨"ShootingDays$Row", "forget", "()V"⟩, 10) := ⟨⟨by decide +kernel, by decide +kernel⟩, List.mem_of_getElem? (i := 95) (by decide +kernel), List.mem_of_getElem? (i := 292) (by decide +kernel), List.mem_of_getElem? (i := 293) (by decide +kernel)⟩
theorem lw_p1 : lw_okq (⟨"ShootingDays$Row", "measureScene", "(LShootingDays$Film;I)V"⟩, 10) := ⟨⟨by decide +kernel, by decide +kernel⟩, List.mem_of_getElem? (i := 95) (by decide +kernel), List.mem_of_getElem? (i := 296) (by decide +kernel), List.mem_of_getElem? (i := 297) (by decide +kernel)⟩
theorem lw_p2 : lw_okq (⟨"ShootingDays$Row", "isInTurn", "(LShootingDays$Film;)Z"⟩, 10) := ⟨⟨by decide +kernel, by decide +kernel⟩, List.mem_of_getElem? (i := 95) (by decide +kernel), List.mem_of_getElem? (i := 304) (by decide +kernel), List.mem_of_getElem? (i := 305) (by decide +kernel)⟩
theorem lw_p3 : lw_okq (⟨"ShootingDays$Film", "needsOfAll", "(I)I"⟩, 11) := ⟨⟨by decide +kernel, by decide +kernel⟩, List.mem_of_getElem? (i := 21) (by decide +kernel), List.mem_of_getElem? (i := 332) (by decide +kernel), List.mem_of_getElem? (i := 333) (by decide +kernel)⟩
theorem lw_p4 : lw_okq (⟨"ShootingDays$Bill", "isLetGo", "(II)Z"⟩, 2) := ⟨⟨by decide +kernel, by decide +kernel⟩, List.mem_of_getElem? (i := 172) (by decide +kernel), List.mem_of_getElem? (i := 410) (by decide +kernel), List.mem_of_getElem? (i := 411) (by decide +kernel)⟩
theorem lw_p5 : lw_okq (⟨"ShootingDays$Bill", "rentOf", "(I)I"⟩, 2) := ⟨⟨by decide +kernel, by decide +kernel⟩, List.mem_of_getElem? (i := 172) (by decide +kernel), List.mem_of_getElem? (i := 431) (by decide +kernel), List.mem_of_getElem? (i := 432) (by decide +kernel)⟩
theorem lw_p6 : lw_okq (⟨"ShootingDays$Bill", "minutesInRows", "(I)I"⟩, 2) := ⟨⟨by decide +kernel, by decide +kernel⟩, List.mem_of_getElem? (i := 172) (by decide +kernel), List.mem_of_getElem? (i := 459) (by decide +kernel), List.mem_of_getElem? (i := 460) (by decide +kernel)⟩
theorem lw_p7 : lw_okq (⟨"ShootingDays$Bill", "placesInRows", "()I"⟩, 2) := ⟨⟨by decide +kernel, by decide +kernel⟩, List.mem_of_getElem? (i := 172) (by decide +kernel), List.mem_of_getElem? (i := 467) (by decide +kernel), List.mem_of_getElem? (i := 468) (by decide +kernel)⟩
theorem lw_p8 : lw_okq (⟨"ShootingDays", "refusalToJoin", "(II)I"⟩, 4) := ⟨⟨by decide +kernel, by decide +kernel⟩, List.mem_of_getElem? (i := 13) (by decide +kernel), List.mem_of_getElem? (i := 475) (by decide +kernel), List.mem_of_getElem? (i := 476) (by decide +kernel)⟩
theorem lw_p9 : lw_okq (⟨"ShootingDays$Arranger", "fillPool", "(I)V"⟩, 7) := ⟨⟨by decide +kernel, by decide +kernel⟩, List.mem_of_getElem? (i := 192) (by decide +kernel), List.mem_of_getElem? (i := 495) (by decide +kernel), List.mem_of_getElem? (i := 496) (by decide +kernel)⟩
theorem lw_p10 : lw_okq (⟨"ShootingDays$Arranger", "tryEach", "(III)V"⟩, 7) := ⟨⟨by decide +kernel, by decide +kernel⟩, List.mem_of_getElem? (i := 192) (by decide +kernel), List.mem_of_getElem? (i := 501) (by decide +kernel), List.mem_of_getElem? (i := 502) (by decide +kernel)⟩
theorem lw_p11 : lw_okq (⟨"ShootingDays$Arranger", "tryNext", "(IIII)V"⟩, 7) := ⟨⟨by decide +kernel, by decide +kernel⟩, List.mem_of_getElem? (i := 192) (by decide +kernel), List.mem_of_getElem? (i := 508) (by decide +kernel), List.mem_of_getElem? (i := 509) (by decide +kernel)⟩
theorem lw_p12 : lw_okq (⟨"ShootingDays$Planner", "moveIfGood", "(IIII)Z"⟩, 7) := ⟨⟨by decide +kernel, by decide +kernel⟩, List.mem_of_getElem? (i := 185) (by decide +kernel), List.mem_of_getElem? (i := 566) (by decide +kernel), List.mem_of_getElem? (i := 567) (by decide +kernel)⟩
theorem lw_p13 : lw_okq (⟨"ShootingDays$Planner", "toNextTurns", "(I)Z"⟩, 7) := ⟨⟨by decide +kernel, by decide +kernel⟩, List.mem_of_getElem? (i := 185) (by decide +kernel), List.mem_of_getElem? (i := 583) (by decide +kernel), List.mem_of_getElem? (i := 584) (by decide +kernel)⟩
theorem lw_p14 : lw_okq (⟨"ShootingDays$Planner", "swapTurns", "(II)V"⟩, 7) := ⟨⟨by decide +kernel, by decide +kernel⟩, List.mem_of_getElem? (i := 185) (by decide +kernel), List.mem_of_getElem? (i := 587) (by decide +kernel), List.mem_of_getElem? (i := 588) (by decide +kernel)⟩
theorem lw_p15 : lw_okq (⟨"ShootingDays$Planner", "giveRows", "([I)V"⟩, 7) := ⟨⟨by decide +kernel, by decide +kernel⟩, List.mem_of_getElem? (i := 185) (by decide +kernel), List.mem_of_getElem? (i := 591) (by decide +kernel), List.mem_of_getElem? (i := 592) (by decide +kernel)⟩
def lw_privs_1 : List (MethodName × Nat) := [(⟨"ShootingDays$Row", "forget", "()V"⟩, 10), (⟨"ShootingDays$Row", "measureScene", "(LShootingDays$Film;I)V"⟩, 10), (⟨"ShootingDays$Row", "isInTurn", "(LShootingDays$Film;)Z"⟩, 10), (⟨"ShootingDays$Film", "needsOfAll", "(I)I"⟩, 11), (⟨"ShootingDays$Bill", "isLetGo", "(II)Z"⟩, 2), (⟨"ShootingDays$Bill", "rentOf", "(I)I"⟩, 2), (⟨"ShootingDays$Bill", "minutesInRows", "(I)I"⟩, 2), (⟨"ShootingDays$Bill", "placesInRows", "()I"⟩, 2), (⟨"ShootingDays", "refusalToJoin", "(II)I"⟩, 4), (⟨"ShootingDays$Arranger", "fillPool", "(I)V"⟩, 7), (⟨"ShootingDays$Arranger", "tryEach", "(III)V"⟩, 7), (⟨"ShootingDays$Arranger", "tryNext", "(IIII)V"⟩, 7), (⟨"ShootingDays$Planner", "moveIfGood", "(IIII)Z"⟩, 7), (⟨"ShootingDays$Planner", "toNextTurns", "(I)Z"⟩, 7), (⟨"ShootingDays$Planner", "swapTurns", "(II)V"⟩, 7), (⟨"ShootingDays$Planner", "giveRows", "([I)V"⟩, 7)]
theorem lw_r1 : ∀ q ∈ lw_privs_1, lw_okq q := List.forall_mem_cons.mpr ⟨lw_p0, List.forall_mem_cons.mpr ⟨lw_p1, List.forall_mem_cons.mpr ⟨lw_p2, List.forall_mem_cons.mpr ⟨lw_p3, List.forall_mem_cons.mpr ⟨lw_p4, List.forall_mem_cons.mpr ⟨lw_p5, List.forall_mem_cons.mpr ⟨lw_p6, List.forall_mem_cons.mpr ⟨lw_p7, List.forall_mem_cons.mpr ⟨lw_p8, List.forall_mem_cons.mpr ⟨lw_p9, List.forall_mem_cons.mpr ⟨lw_p10, List.forall_mem_cons.mpr ⟨lw_p11, List.forall_mem_cons.mpr ⟨lw_p12, List.forall_mem_cons.mpr ⟨lw_p13, List.forall_mem_cons.mpr ⟨lw_p14, List.forall_mem_cons.mpr ⟨lw_p15, fun _ h => absurd h List.not_mem_nil⟩⟩⟩⟩⟩⟩⟩⟩⟩⟩⟩⟩⟩⟩⟩⟩
theorem lw_p16 : lw_okq (⟨"ShootingDaysModel", "keeps", "()Z"⟩, 28) := ⟨⟨by decide +kernel, by decide +kernel⟩, List.mem_of_getElem? (i := 629) (by decide +kernel), List.mem_of_getElem? (i := 739) (by decide +kernel), List.mem_of_getElem? (i := 740) (by decide +kernel)⟩
theorem lw_p17 : lw_okq (⟨"ShootingDaysModel", "minutesOf", "(I)I"⟩, 28) := ⟨⟨by decide +kernel, by decide +kernel⟩, List.mem_of_getElem? (i := 629) (by decide +kernel), List.mem_of_getElem? (i := 743) (by decide +kernel), List.mem_of_getElem? (i := 744) (by decide +kernel)⟩
theorem lw_p18 : lw_okq (⟨"ShootingDaysModel", "lightOf", "(I)I"⟩, 28) := ⟨⟨by decide +kernel, by decide +kernel⟩, List.mem_of_getElem? (i := 629) (by decide +kernel), List.mem_of_getElem? (i := 750) (by decide +kernel), List.mem_of_getElem? (i := 751) (by decide +kernel)⟩
theorem lw_p19 : lw_okq (⟨"ShootingDaysModel", "has", "(II)Z"⟩, 28) := ⟨⟨by decide +kernel, by decide +kernel⟩, List.mem_of_getElem? (i := 629) (by decide +kernel), List.mem_of_getElem? (i := 754) (by decide +kernel), List.mem_of_getElem? (i := 755) (by decide +kernel)⟩
theorem lw_p20 : lw_okq (⟨"ShootingDaysModel", "isOrdered", "(I)Z"⟩, 28) := ⟨⟨by decide +kernel, by decide +kernel⟩, List.mem_of_getElem? (i := 629) (by decide +kernel), List.mem_of_getElem? (i := 758) (by decide +kernel), List.mem_of_getElem? (i := 759) (by decide +kernel)⟩
theorem lw_p21 : lw_okq (⟨"ShootingDaysModel", "placeIn", "(I)I"⟩, 28) := ⟨⟨by decide +kernel, by decide +kernel⟩, List.mem_of_getElem? (i := 629) (by decide +kernel), List.mem_of_getElem? (i := 762) (by decide +kernel), List.mem_of_getElem? (i := 763) (by decide +kernel)⟩
theorem lw_p22 : lw_okq (⟨"ShootingDaysModel", "isScene", "(I)Z"⟩, 28) := ⟨⟨by decide +kernel, by decide +kernel⟩, List.mem_of_getElem? (i := 629) (by decide +kernel), List.mem_of_getElem? (i := 770) (by decide +kernel), List.mem_of_getElem? (i := 771) (by decide +kernel)⟩
theorem lw_p23 : lw_okq (⟨"ShootingDaysModel", "mustBe", "(II)Z"⟩, 28) := ⟨⟨by decide +kernel, by decide +kernel⟩, List.mem_of_getElem? (i := 629) (by decide +kernel), List.mem_of_getElem? (i := 774) (by decide +kernel), List.mem_of_getElem? (i := 775) (by decide +kernel)⟩
theorem lw_p24 : lw_okq (⟨"ShootingDaysModel", "isDay", "(I)Z"⟩, 28) := ⟨⟨by decide +kernel, by decide +kernel⟩, List.mem_of_getElem? (i := 629) (by decide +kernel), List.mem_of_getElem? (i := 786) (by decide +kernel), List.mem_of_getElem? (i := 787) (by decide +kernel)⟩
theorem lw_p25 : lw_okq (⟨"ShootingDaysModel", "keepAll", "()V"⟩, 28) := ⟨⟨by decide +kernel, by decide +kernel⟩, List.mem_of_getElem? (i := 629) (by decide +kernel), List.mem_of_getElem? (i := 794) (by decide +kernel), List.mem_of_getElem? (i := 795) (by decide +kernel)⟩
theorem lw_p26 : lw_okq (⟨"ShootingDaysModel", "puts", "(II)Z"⟩, 28) := ⟨⟨by decide +kernel, by decide +kernel⟩, List.mem_of_getElem? (i := 629) (by decide +kernel), List.mem_of_getElem? (i := 798) (by decide +kernel), List.mem_of_getElem? (i := 799) (by decide +kernel)⟩
theorem lw_p27 : lw_okq (⟨"ShootingDaysModel", "arranges", "(I)Z"⟩, 28) := ⟨⟨by decide +kernel, by decide +kernel⟩, List.mem_of_getElem? (i := 629) (by decide +kernel), List.mem_of_getElem? (i := 802) (by decide +kernel), List.mem_of_getElem? (i := 803) (by decide +kernel)⟩
theorem lw_p28 : lw_okq (⟨"ShootingDaysModel", "tries", "(III)V"⟩, 28) := ⟨⟨by decide +kernel, by decide +kernel⟩, List.mem_of_getElem? (i := 629) (by decide +kernel), List.mem_of_getElem? (i := 807) (by decide +kernel), List.mem_of_getElem? (i := 808) (by decide +kernel)⟩
theorem lw_p29 : lw_okq (⟨"ShootingDaysModel", "backAll", "()V"⟩, 28) := ⟨⟨by decide +kernel, by decide +kernel⟩, List.mem_of_getElem? (i := 629) (by decide +kernel), List.mem_of_getElem? (i := 811) (by decide +kernel), List.mem_of_getElem? (i := 812) (by decide +kernel)⟩
theorem lw_p30 : lw_okq (⟨"ShootingDaysModel", "takes", "(I)V"⟩, 28) := ⟨⟨by decide +kernel, by decide +kernel⟩, List.mem_of_getElem? (i := 629) (by decide +kernel), List.mem_of_getElem? (i := 824) (by decide +kernel), List.mem_of_getElem? (i := 825) (by decide +kernel)⟩
theorem lw_p31 : lw_okq (⟨"ShootingDaysModel", "trades", "(II)V"⟩, 28) := ⟨⟨by decide +kernel, by decide +kernel⟩, List.mem_of_getElem? (i := 629) (by decide +kernel), List.mem_of_getElem? (i := 836) (by decide +kernel), List.mem_of_getElem? (i := 837) (by decide +kernel)⟩
def lw_privs_2 : List (MethodName × Nat) := [(⟨"ShootingDaysModel", "keeps", "()Z"⟩, 28), (⟨"ShootingDaysModel", "minutesOf", "(I)I"⟩, 28), (⟨"ShootingDaysModel", "lightOf", "(I)I"⟩, 28), (⟨"ShootingDaysModel", "has", "(II)Z"⟩, 28), (⟨"ShootingDaysModel", "isOrdered", "(I)Z"⟩, 28), (⟨"ShootingDaysModel", "placeIn", "(I)I"⟩, 28), (⟨"ShootingDaysModel", "isScene", "(I)Z"⟩, 28), (⟨"ShootingDaysModel", "mustBe", "(II)Z"⟩, 28), (⟨"ShootingDaysModel", "isDay", "(I)Z"⟩, 28), (⟨"ShootingDaysModel", "keepAll", "()V"⟩, 28), (⟨"ShootingDaysModel", "puts", "(II)Z"⟩, 28), (⟨"ShootingDaysModel", "arranges", "(I)Z"⟩, 28), (⟨"ShootingDaysModel", "tries", "(III)V"⟩, 28), (⟨"ShootingDaysModel", "backAll", "()V"⟩, 28), (⟨"ShootingDaysModel", "takes", "(I)V"⟩, 28), (⟨"ShootingDaysModel", "trades", "(II)V"⟩, 28)]
theorem lw_r2 : ∀ q ∈ lw_privs_2, lw_okq q := List.forall_mem_cons.mpr ⟨lw_p16, List.forall_mem_cons.mpr ⟨lw_p17, List.forall_mem_cons.mpr ⟨lw_p18, List.forall_mem_cons.mpr ⟨lw_p19, List.forall_mem_cons.mpr ⟨lw_p20, List.forall_mem_cons.mpr ⟨lw_p21, List.forall_mem_cons.mpr ⟨lw_p22, List.forall_mem_cons.mpr ⟨lw_p23, List.forall_mem_cons.mpr ⟨lw_p24, List.forall_mem_cons.mpr ⟨lw_p25, List.forall_mem_cons.mpr ⟨lw_p26, List.forall_mem_cons.mpr ⟨lw_p27, List.forall_mem_cons.mpr ⟨lw_p28, List.forall_mem_cons.mpr ⟨lw_p29, List.forall_mem_cons.mpr ⟨lw_p30, List.forall_mem_cons.mpr ⟨lw_p31, fun _ h => absurd h List.not_mem_nil⟩⟩⟩⟩⟩⟩⟩⟩⟩⟩⟩⟩⟩⟩⟩⟩
theorem lw_p32 : lw_okq (⟨"ShootingDaysModel", "costAll", "()I"⟩, 28) := ⟨⟨by decide +kernel, by decide +kernel⟩, List.mem_of_getElem? (i := 629) (by decide +kernel), List.mem_of_getElem? (i := 840) (by decide +kernel), List.mem_of_getElem? (i := 841) (by decide +kernel)⟩
theorem lw_p33 : lw_okq (⟨"ShootingDaysModel", "payAll", "()I"⟩, 28) := ⟨⟨by decide +kernel, by decide +kernel⟩, List.mem_of_getElem? (i := 629) (by decide +kernel), List.mem_of_getElem? (i := 844) (by decide +kernel), List.mem_of_getElem? (i := 845) (by decide +kernel)⟩
theorem lw_p34 : lw_okq (⟨"ShootingDaysModel", "paid", "(I)I"⟩, 28) := ⟨⟨by decide +kernel, by decide +kernel⟩, List.mem_of_getElem? (i := 629) (by decide +kernel), List.mem_of_getElem? (i := 848) (by decide +kernel), List.mem_of_getElem? (i := 849) (by decide +kernel)⟩
theorem lw_p35 : lw_okq (⟨"ShootingDaysModel", "edge", "(IZ)I"⟩, 28) := ⟨⟨by decide +kernel, by decide +kernel⟩, List.mem_of_getElem? (i := 629) (by decide +kernel), List.mem_of_getElem? (i := 852) (by decide +kernel), List.mem_of_getElem? (i := 853) (by decide +kernel)⟩
theorem lw_p36 : lw_okq (⟨"ShootingDaysModel", "plays", "(II)Z"⟩, 28) := ⟨⟨by decide +kernel, by decide +kernel⟩, List.mem_of_getElem? (i := 629) (by decide +kernel), List.mem_of_getElem? (i := 856) (by decide +kernel), List.mem_of_getElem? (i := 857) (by decide +kernel)⟩
theorem lw_p37 : lw_okq (⟨"ShootingDaysModel", "rentAll", "()I"⟩, 28) := ⟨⟨by decide +kernel, by decide +kernel⟩, List.mem_of_getElem? (i := 629) (by decide +kernel), List.mem_of_getElem? (i := 860) (by decide +kernel), List.mem_of_getElem? (i := 861) (by decide +kernel)⟩
theorem lw_p38 : lw_okq (⟨"ShootingDaysModel", "uses", "(II)Z"⟩, 28) := ⟨⟨by decide +kernel, by decide +kernel⟩, List.mem_of_getElem? (i := 629) (by decide +kernel), List.mem_of_getElem? (i := 864) (by decide +kernel), List.mem_of_getElem? (i := 865) (by decide +kernel)⟩
theorem lw_p39 : lw_okq (⟨"ShootingDaysModel", "overAll", "()I"⟩, 28) := ⟨⟨by decide +kernel, by decide +kernel⟩, List.mem_of_getElem? (i := 629) (by decide +kernel), List.mem_of_getElem? (i := 868) (by decide +kernel), List.mem_of_getElem? (i := 869) (by decide +kernel)⟩
theorem lw_p40 : lw_okq (⟨"ShootingDaysModel", "over", "(I)I"⟩, 28) := ⟨⟨by decide +kernel, by decide +kernel⟩, List.mem_of_getElem? (i := 629) (by decide +kernel), List.mem_of_getElem? (i := 872) (by decide +kernel), List.mem_of_getElem? (i := 873) (by decide +kernel)⟩
theorem lw_p41 : lw_okq (⟨"ShootingDaysModel", "daysOf", "(I)I"⟩, 28) := ⟨⟨by decide +kernel, by decide +kernel⟩, List.mem_of_getElem? (i := 629) (by decide +kernel), List.mem_of_getElem? (i := 888) (by decide +kernel), List.mem_of_getElem? (i := 889) (by decide +kernel)⟩
theorem lw_p42 : lw_okq (⟨"ShootingDaysModel", "betters", "()Z"⟩, 28) := ⟨⟨by decide +kernel, by decide +kernel⟩, List.mem_of_getElem? (i := 629) (by decide +kernel), List.mem_of_getElem? (i := 896) (by decide +kernel), List.mem_of_getElem? (i := 897) (by decide +kernel)⟩
theorem lw_p43 : lw_okq (⟨"ShootingDaysModel", "movesWell", "(III)Z"⟩, 28) := ⟨⟨by decide +kernel, by decide +kernel⟩, List.mem_of_getElem? (i := 629) (by decide +kernel), List.mem_of_getElem? (i := 900) (by decide +kernel), List.mem_of_getElem? (i := 901) (by decide +kernel)⟩
theorem lw_p44 : lw_okq (⟨"ShootingDaysModel", "gives", "(II)V"⟩, 28) := ⟨⟨by decide +kernel, by decide +kernel⟩, List.mem_of_getElem? (i := 629) (by decide +kernel), List.mem_of_getElem? (i := 908) (by decide +kernel), List.mem_of_getElem? (i := 909) (by decide +kernel)⟩
theorem lw_p45 : lw_okq (⟨"ShootingDaysModel", "lays", "()V"⟩, 28) := ⟨⟨by decide +kernel, by decide +kernel⟩, List.mem_of_getElem? (i := 629) (by decide +kernel), List.mem_of_getElem? (i := 912) (by decide +kernel), List.mem_of_getElem? (i := 913) (by decide +kernel)⟩
def lw_privs_3 : List (MethodName × Nat) := [(⟨"ShootingDaysModel", "costAll", "()I"⟩, 28), (⟨"ShootingDaysModel", "payAll", "()I"⟩, 28), (⟨"ShootingDaysModel", "paid", "(I)I"⟩, 28), (⟨"ShootingDaysModel", "edge", "(IZ)I"⟩, 28), (⟨"ShootingDaysModel", "plays", "(II)Z"⟩, 28), (⟨"ShootingDaysModel", "rentAll", "()I"⟩, 28), (⟨"ShootingDaysModel", "uses", "(II)Z"⟩, 28), (⟨"ShootingDaysModel", "overAll", "()I"⟩, 28), (⟨"ShootingDaysModel", "over", "(I)I"⟩, 28), (⟨"ShootingDaysModel", "daysOf", "(I)I"⟩, 28), (⟨"ShootingDaysModel", "betters", "()Z"⟩, 28), (⟨"ShootingDaysModel", "movesWell", "(III)Z"⟩, 28), (⟨"ShootingDaysModel", "gives", "(II)V"⟩, 28), (⟨"ShootingDaysModel", "lays", "()V"⟩, 28)]
theorem lw_r3 : ∀ q ∈ lw_privs_3, lw_okq q := List.forall_mem_cons.mpr ⟨lw_p32, List.forall_mem_cons.mpr ⟨lw_p33, List.forall_mem_cons.mpr ⟨lw_p34, List.forall_mem_cons.mpr ⟨lw_p35, List.forall_mem_cons.mpr ⟨lw_p36, List.forall_mem_cons.mpr ⟨lw_p37, List.forall_mem_cons.mpr ⟨lw_p38, List.forall_mem_cons.mpr ⟨lw_p39, List.forall_mem_cons.mpr ⟨lw_p40, List.forall_mem_cons.mpr ⟨lw_p41, List.forall_mem_cons.mpr ⟨lw_p42, List.forall_mem_cons.mpr ⟨lw_p43, List.forall_mem_cons.mpr ⟨lw_p44, List.forall_mem_cons.mpr ⟨lw_p45, fun _ h => absurd h List.not_mem_nil⟩⟩⟩⟩⟩⟩⟩⟩⟩⟩⟩⟩⟩⟩
def lw_privs : List (MethodName × Nat) := lw_privs_1 ++ (lw_privs_2 ++ (lw_privs_3))
def lw_tbl : List Cond := k2_sels lw_privs ++ tables_1
theorem lw_privs_ok : ∀ q ∈ lw_privs, lw_okq q := by
  show ∀ q ∈ lw_privs_1 ++ (lw_privs_2 ++ (lw_privs_3)), lw_okq q
  exact List.forall_mem_append.mpr ⟨lw_r1, List.forall_mem_append.mpr ⟨lw_r2, lw_r3⟩⟩
def RX0 : String := "ShootingDays$Arranger"
def TX0 : u_T := fun k => match k with
  | 0 => ("ShootingDays$Arranger", "film", "LShootingDays$Film;", true)
  | 1 => ("ShootingDays$Arranger", "pool", "[I", true)
  | 2 => ("ShootingDays$Arranger", "tried", "[I", true)
  | 3 => ("ShootingDays$Arranger", "best", "[I", true)
  | 4 => ("ShootingDays$Arranger", "size", "I", false)
  | 5 => ("ShootingDays$Arranger", "members", "I", false)
  | _ => ("ShootingDays$Arranger", "fewest", "I", false)
def tyX0 : Nat → FieldType := fun k => match k with
  | 0 => .object "ShootingDays$Film"
  | 1 => .array .int
  | 2 => .array .int
  | 3 => .array .int
  | 4 => .int
  | 5 => .int
  | _ => .int
theorem nmX0 : ∀ a, a < 7 → ∀ b, b < 7 → a ≠ b → (TX0 a).2.1 ≠ (TX0 b).2.1 := by decide +kernel
theorem tyX0_ok : ∀ k, k < 7 → parseFieldDescriptor (TX0 k).2.2.1 = some (tyX0 k) := by decide +kernel
abbrev cX0_init : ByteArray := prog_2_method_1_code
def yX0_init : MethodName := ⟨RX0, "<init>", "(LShootingDays$Film;)V"⟩
abbrev cX0_arrange : ByteArray := prog_2_method_2_code
def yX0_arrange : MethodName := ⟨RX0, "arrange", "(ILShootingDays$Row;)V"⟩
abbrev cX0_fillPool : ByteArray := prog_2_method_3_code
def yX0_fillPool : MethodName := ⟨RX0, "fillPool", "(I)V"⟩
abbrev cX0_tryEach : ByteArray := prog_2_method_4_code
def yX0_tryEach : MethodName := ⟨RX0, "tryEach", "(III)V"⟩
abbrev cX0_tryNext : ByteArray := prog_2_method_5_code
def yX0_tryNext : MethodName := ⟨RX0, "tryNext", "(IIII)V"⟩
def RX1 : String := "ShootingDays$Bill"
def TX1 : u_T := fun k => match k with
  | 0 => ("ShootingDays$Bill", "film", "LShootingDays$Film;", true)
  | _ => ("ShootingDays$Bill", "plan", "LShootingDays$Plan;", true)
def tyX1 : Nat → FieldType := fun k => match k with
  | 0 => .object "ShootingDays$Film"
  | _ => .object "ShootingDays$Plan"
theorem nmX1 : ∀ a, a < 2 → ∀ b, b < 2 → a ≠ b → (TX1 a).2.1 ≠ (TX1 b).2.1 := by decide +kernel
theorem tyX1_ok : ∀ k, k < 2 → parseFieldDescriptor (TX1 k).2.2.1 = some (tyX1 k) := by decide +kernel
abbrev cX1_init : ByteArray := prog_3_method_1_code
def yX1_init : MethodName := ⟨RX1, "<init>", "(LShootingDays$Film;LShootingDays$Plan;)V"⟩
abbrev cX1_total : ByteArray := prog_3_method_2_code
def yX1_total : MethodName := ⟨RX1, "total", "()I"⟩
abbrev cX1_wages : ByteArray := prog_3_method_3_code
def yX1_wages : MethodName := ⟨RX1, "wages", "()I"⟩
abbrev cX1_paidDays : ByteArray := prog_3_method_4_code
def yX1_paidDays : MethodName := ⟨RX1, "paidDays", "(I)I"⟩
abbrev cX1_isLetGo : ByteArray := prog_3_method_5_code
def yX1_isLetGo : MethodName := ⟨RX1, "isLetGo", "(II)Z"⟩
abbrev cX1_rents : ByteArray := prog_3_method_6_code
def yX1_rents : MethodName := ⟨RX1, "rents", "()I"⟩
abbrev cX1_rentOf : ByteArray := prog_3_method_7_code
def yX1_rentOf : MethodName := ⟨RX1, "rentOf", "(I)I"⟩
abbrev cX1_overtime : ByteArray := prog_3_method_8_code
def yX1_overtime : MethodName := ⟨RX1, "overtime", "()I"⟩
abbrev cX1_leastPossible : ByteArray := prog_3_method_9_code
def yX1_leastPossible : MethodName := ⟨RX1, "leastPossible", "()I"⟩
abbrev cX1_minutesInRows : ByteArray := prog_3_method_10_code
def yX1_minutesInRows : MethodName := ⟨RX1, "minutesInRows", "(I)I"⟩
abbrev cX1_placesInRows : ByteArray := prog_3_method_11_code
def yX1_placesInRows : MethodName := ⟨RX1, "placesInRows", "()I"⟩
def RX2 : String := "ShootingDays$Film"
def TX2 : u_T := fun k => match k with
  | 0 => ("ShootingDays$Film", "minutes", "[I", true)
  | 1 => ("ShootingDays$Film", "place", "[I", true)
  | 2 => ("ShootingDays$Film", "light", "[I", true)
  | 3 => ("ShootingDays$Film", "out", "[I", true)
  | 4 => ("ShootingDays$Film", "players", "[I", true)
  | 5 => ("ShootingDays$Film", "needs", "[I", true)
  | 6 => ("ShootingDays$Film", "pay", "[I", true)
  | 7 => ("ShootingDays$Film", "gap", "[I", true)
  | 8 => ("ShootingDays$Film", "rent", "[I", true)
  | 9 => ("ShootingDays$Film", "spot", "[I", true)
  | _ => ("ShootingDays$Film", "scenes", "I", false)
def tyX2 : Nat → FieldType := fun k => match k with
  | 0 => .array .int
  | 1 => .array .int
  | 2 => .array .int
  | 3 => .array .int
  | 4 => .array .int
  | 5 => .array .int
  | 6 => .array .int
  | 7 => .array .int
  | 8 => .array .int
  | 9 => .array .int
  | _ => .int
theorem nmX2 : ∀ a, a < 11 → ∀ b, b < 11 → a ≠ b → (TX2 a).2.1 ≠ (TX2 b).2.1 := by decide +kernel
theorem tyX2_ok : ∀ k, k < 11 → parseFieldDescriptor (TX2 k).2.2.1 = some (tyX2 k) := by decide +kernel
abbrev cX2_init : ByteArray := prog_4_method_1_code
def yX2_init : MethodName := ⟨RX2, "<init>", "()V"⟩
abbrev cX2_addScene : ByteArray := prog_4_method_2_code
def yX2_addScene : MethodName := ⟨RX2, "addScene", "(IIIII)I"⟩
abbrev cX2_hasScene : ByteArray := prog_4_method_3_code
def yX2_hasScene : MethodName := ⟨RX2, "hasScene", "(I)Z"⟩
abbrev cX2_way : ByteArray := prog_4_method_4_code
def yX2_way : MethodName := ⟨RX2, "way", "(II)I"⟩
abbrev cX2_needsByOthersToo : ByteArray := prog_4_method_5_code
def yX2_needsByOthersToo : MethodName := ⟨RX2, "needsByOthersToo", "(I)I"⟩
abbrev cX2_needsOfAll : ByteArray := prog_4_method_6_code
def yX2_needsOfAll : MethodName := ⟨RX2, "needsOfAll", "(I)I"⟩
abbrev cX2_scenesAheadOfSome : ByteArray := prog_4_method_7_code
def yX2_scenesAheadOfSome : MethodName := ⟨RX2, "scenesAheadOfSome", "()I"⟩
def RX3 : String := "ShootingDays$Plan"
def TX3 : u_T := fun k => match k with
  | 0 => ("ShootingDays$Plan", "film", "LShootingDays$Film;", true)
  | 1 => ("ShootingDays$Plan", "rows", "[LShootingDays$Row;", true)
  | 2 => ("ShootingDays$Plan", "most", "[I", true)
  | 3 => ("ShootingDays$Plan", "sun", "[I", true)
  | _ => ("ShootingDays$Plan", "days", "I", false)
def tyX3 : Nat → FieldType := fun k => match k with
  | 0 => .object "ShootingDays$Film"
  | 1 => .array (.object "ShootingDays$Row")
  | 2 => .array .int
  | 3 => .array .int
  | _ => .int
theorem nmX3 : ∀ a, a < 5 → ∀ b, b < 5 → a ≠ b → (TX3 a).2.1 ≠ (TX3 b).2.1 := by decide +kernel
theorem tyX3_ok : ∀ k, k < 5 → parseFieldDescriptor (TX3 k).2.2.1 = some (tyX3 k) := by decide +kernel
abbrev cX3_init : ByteArray := prog_5_method_1_code
def yX3_init : MethodName := ⟨RX3, "<init>", "(LShootingDays$Film;)V"⟩
abbrev cX3_addDay : ByteArray := prog_5_method_2_code
def yX3_addDay : MethodName := ⟨RX3, "addDay", "(II)I"⟩
abbrev cX3_hasDay : ByteArray := prog_5_method_3_code
def yX3_hasDay : MethodName := ⟨RX3, "hasDay", "(I)Z"⟩
abbrev cX3_measureRows : ByteArray := prog_5_method_4_code
def yX3_measureRows : MethodName := ⟨RX3, "measureRows", "()V"⟩
abbrev cX3_exchange : ByteArray := prog_5_method_5_code
def yX3_exchange : MethodName := ⟨RX3, "exchange", "(II)V"⟩
abbrev cX3_keeps : ByteArray := prog_5_method_6_code
def yX3_keeps : MethodName := ⟨RX3, "keeps", "()Z"⟩
abbrev cX3_scenesInRows : ByteArray := prog_5_method_7_code
def yX3_scenesInRows : MethodName := ⟨RX3, "scenesInRows", "()I"⟩
abbrev cX3_dayWith : ByteArray := prog_5_method_8_code
def yX3_dayWith : MethodName := ⟨RX3, "dayWith", "(I)I"⟩
abbrev cX3_placeInRow : ByteArray := prog_5_method_9_code
def yX3_placeInRow : MethodName := ⟨RX3, "placeInRow", "(I)I"⟩
abbrev cX3_plays : ByteArray := prog_5_method_10_code
def yX3_plays : MethodName := ⟨RX3, "plays", "(II)Z"⟩
abbrev cX3_firstDayOf : ByteArray := prog_5_method_11_code
def yX3_firstDayOf : MethodName := ⟨RX3, "firstDayOf", "(I)I"⟩
abbrev cX3_lastDayOf : ByteArray := prog_5_method_12_code
def yX3_lastDayOf : MethodName := ⟨RX3, "lastDayOf", "(I)I"⟩
abbrev cX3_daysWith : ByteArray := prog_5_method_13_code
def yX3_daysWith : MethodName := ⟨RX3, "daysWith", "(I)I"⟩
abbrev cX3_greatestMost : ByteArray := prog_5_method_14_code
def yX3_greatestMost : MethodName := ⟨RX3, "greatestMost", "()I"⟩
def RX4 : String := "ShootingDays$Planner"
def TX4 : u_T := fun k => match k with
  | 0 => ("ShootingDays$Planner", "film", "LShootingDays$Film;", true)
  | 1 => ("ShootingDays$Planner", "plan", "LShootingDays$Plan;", true)
  | 2 => ("ShootingDays$Planner", "bill", "LShootingDays$Bill;", true)
  | 3 => ("ShootingDays$Planner", "arranger", "LShootingDays$Arranger;", true)
  | 4 => ("ShootingDays$Planner", "rowsBefore", "[LShootingDays$Row;", true)
  | 5 => ("ShootingDays$Planner", "turns", "[I", true)
  | _ => ("ShootingDays$Planner", "bestTurns", "[I", true)
def tyX4 : Nat → FieldType := fun k => match k with
  | 0 => .object "ShootingDays$Film"
  | 1 => .object "ShootingDays$Plan"
  | 2 => .object "ShootingDays$Bill"
  | 3 => .object "ShootingDays$Arranger"
  | 4 => .array (.object "ShootingDays$Row")
  | 5 => .array .int
  | _ => .array .int
theorem nmX4 : ∀ a, a < 7 → ∀ b, b < 7 → a ≠ b → (TX4 a).2.1 ≠ (TX4 b).2.1 := by decide +kernel
theorem tyX4_ok : ∀ k, k < 7 → parseFieldDescriptor (TX4 k).2.2.1 = some (tyX4 k) := by decide +kernel
abbrev cX4_init : ByteArray := prog_6_method_1_code
def yX4_init : MethodName := ⟨RX4, "<init>", "(LShootingDays$Film;LShootingDays$Plan;LShootingDays$Bill;)V"⟩
abbrev cX4_join : ByteArray := prog_6_method_2_code
def yX4_join : MethodName := ⟨RX4, "join", "(II)I"⟩
abbrev cX4_couldJoin : ByteArray := prog_6_method_3_code
def yX4_couldJoin : MethodName := ⟨RX4, "couldJoin", "(II)I"⟩
abbrev cX4_leave : ByteArray := prog_6_method_4_code
def yX4_leave : MethodName := ⟨RX4, "leave", "(II)V"⟩
abbrev cX4_arrangeDay : ByteArray := prog_6_method_5_code
def yX4_arrangeDay : MethodName := ⟨RX4, "arrangeDay", "(I)V"⟩
abbrev cX4_makeFirstGoodMove : ByteArray := prog_6_method_6_code
def yX4_makeFirstGoodMove : MethodName := ⟨RX4, "makeFirstGoodMove", "()Z"⟩
abbrev cX4_moveIfGood : ByteArray := prog_6_method_7_code
def yX4_moveIfGood : MethodName := ⟨RX4, "moveIfGood", "(IIII)Z"⟩
abbrev cX4_makeFirstGoodTrade : ByteArray := prog_6_method_8_code
def yX4_makeFirstGoodTrade : MethodName := ⟨RX4, "makeFirstGoodTrade", "()Z"⟩
abbrev cX4_takeBestOrder : ByteArray := prog_6_method_9_code
def yX4_takeBestOrder : MethodName := ⟨RX4, "takeBestOrder", "()I"⟩
abbrev cX4_giveRows : ByteArray := prog_6_method_10_code
def yX4_giveRows : MethodName := ⟨RX4, "giveRows", "([I)V"⟩
abbrev cX4_toNextTurns : ByteArray := prog_6_method_11_code
def yX4_toNextTurns : MethodName := ⟨RX4, "toNextTurns", "(I)Z"⟩
abbrev cX4_swapTurns : ByteArray := prog_6_method_12_code
def yX4_swapTurns : MethodName := ⟨RX4, "swapTurns", "(II)V"⟩
abbrev cX4_clearOutScenes : ByteArray := prog_6_method_13_code
def yX4_clearOutScenes : MethodName := ⟨RX4, "clearOutScenes", "(I)I"⟩
abbrev cX4_fillWithIndoorScenes : ByteArray := prog_6_method_14_code
def yX4_fillWithIndoorScenes : MethodName := ⟨RX4, "fillWithIndoorScenes", "(I)I"⟩
def RX5 : String := "ShootingDays$Row"
def TX5 : u_T := fun k => match k with
  | 0 => ("ShootingDays$Row", "scenes", "[I", true)
  | 1 => ("ShootingDays$Row", "size", "I", false)
  | 2 => ("ShootingDays$Row", "members", "I", false)
  | 3 => ("ShootingDays$Row", "needs", "I", false)
  | 4 => ("ShootingDays$Row", "minutes", "I", false)
  | 5 => ("ShootingDays$Row", "sunMinutes", "I", false)
  | 6 => ("ShootingDays$Row", "players", "I", false)
  | 7 => ("ShootingDays$Row", "places", "I", false)
  | 8 => ("ShootingDays$Row", "night", "Z", false)
  | _ => ("ShootingDays$Row", "inTurn", "Z", false)
def tyX5 : Nat → FieldType := fun k => match k with
  | 0 => .array .int
  | 1 => .int
  | 2 => .int
  | 3 => .int
  | 4 => .int
  | 5 => .int
  | 6 => .int
  | 7 => .int
  | 8 => .boolean
  | _ => .boolean
theorem nmX5 : ∀ a, a < 10 → ∀ b, b < 10 → a ≠ b → (TX5 a).2.1 ≠ (TX5 b).2.1 := by decide +kernel
theorem tyX5_ok : ∀ k, k < 10 → parseFieldDescriptor (TX5 k).2.2.1 = some (tyX5 k) := by decide +kernel
abbrev cX5_init : ByteArray := prog_7_method_1_code
def yX5_init : MethodName := ⟨RX5, "<init>", "()V"⟩
abbrev cX5_sceneAt : ByteArray := prog_7_method_2_code
def yX5_sceneAt : MethodName := ⟨RX5, "sceneAt", "(I)I"⟩
abbrev cX5_isFull : ByteArray := prog_7_method_3_code
def yX5_isFull : MethodName := ⟨RX5, "isFull", "()Z"⟩
abbrev cX5_clear : ByteArray := prog_7_method_4_code
def yX5_clear : MethodName := ⟨RX5, "clear", "()V"⟩
abbrev cX5_append : ByteArray := prog_7_method_5_code
def yX5_append : MethodName := ⟨RX5, "append", "(I)V"⟩
abbrev cX5_measure : ByteArray := prog_7_method_6_code
def yX5_measure : MethodName := ⟨RX5, "measure", "(LShootingDays$Film;)V"⟩
abbrev cX5_forget : ByteArray := prog_7_method_7_code
def yX5_forget : MethodName := ⟨RX5, "forget", "()V"⟩
abbrev cX5_measureScene : ByteArray := prog_7_method_8_code
def yX5_measureScene : MethodName := ⟨RX5, "measureScene", "(LShootingDays$Film;I)V"⟩
abbrev cX5_isInTurn : ByteArray := prog_7_method_9_code
def yX5_isInTurn : MethodName := ⟨RX5, "isInTurn", "(LShootingDays$Film;)Z"⟩
abbrev cX5_fitsInto : ByteArray := prog_7_method_10_code
def yX5_fitsInto : MethodName := ⟨RX5, "fitsInto", "(II)Z"⟩
abbrev cX5_hasDayLight : ByteArray := prog_7_method_11_code
def yX5_hasDayLight : MethodName := ⟨RX5, "hasDayLight", "()Z"⟩
abbrev cX5_halfHoursOver : ByteArray := prog_7_method_12_code
def yX5_halfHoursOver : MethodName := ⟨RX5, "halfHoursOver", "()I"⟩
def RX6 : String := "ShootingDays"
def TX6 : u_T := fun k => match k with
  | 0 => ("ShootingDays", "film", "LShootingDays$Film;", true)
  | 1 => ("ShootingDays", "plan", "LShootingDays$Plan;", true)
  | 2 => ("ShootingDays", "bill", "LShootingDays$Bill;", true)
  | _ => ("ShootingDays", "planner", "LShootingDays$Planner;", true)
def tyX6 : Nat → FieldType := fun k => match k with
  | 0 => .object "ShootingDays$Film"
  | 1 => .object "ShootingDays$Plan"
  | 2 => .object "ShootingDays$Bill"
  | _ => .object "ShootingDays$Planner"
theorem nmX6 : ∀ a, a < 4 → ∀ b, b < 4 → a ≠ b → (TX6 a).2.1 ≠ (TX6 b).2.1 := by decide +kernel
theorem tyX6_ok : ∀ k, k < 4 → parseFieldDescriptor (TX6 k).2.2.1 = some (tyX6 k) := by decide +kernel
abbrev cX6_init : ByteArray := prog_1_method_1_code
def yX6_init : MethodName := ⟨RX6, "<init>", "()V"⟩
abbrev cX6_scene : ByteArray := prog_1_method_2_code
def yX6_scene : MethodName := ⟨RX6, "scene", "(IIIII)I"⟩
abbrev cX6_player : ByteArray := prog_1_method_3_code
def yX6_player : MethodName := ⟨RX6, "player", "(III)I"⟩
abbrev cX6_rent : ByteArray := prog_1_method_4_code
def yX6_rent : MethodName := ⟨RX6, "rent", "(II)I"⟩
abbrev cX6_spot : ByteArray := prog_1_method_5_code
def yX6_spot : MethodName := ⟨RX6, "spot", "(II)I"⟩
abbrev cX6_ahead : ByteArray := prog_1_method_6_code
def yX6_ahead : MethodName := ⟨RX6, "ahead", "(II)I"⟩
abbrev cX6_day : ByteArray := prog_1_method_7_code
def yX6_day : MethodName := ⟨RX6, "day", "(II)I"⟩
abbrev cX6_about : ByteArray := prog_1_method_8_code
def yX6_about : MethodName := ⟨RX6, "about", "(II)I"⟩
abbrev cX6_row : ByteArray := prog_1_method_9_code
def yX6_row : MethodName := ⟨RX6, "row", "(II)I"⟩
abbrev cX6_of : ByteArray := prog_1_method_10_code
def yX6_of : MethodName := ⟨RX6, "of", "(II)I"⟩
abbrev cX6_held : ByteArray := prog_1_method_11_code
def yX6_held : MethodName := ⟨RX6, "held", "(II)I"⟩
abbrev cX6_cost : ByteArray := prog_1_method_12_code
def yX6_cost : MethodName := ⟨RX6, "cost", "(I)I"⟩
abbrev cX6_below : ByteArray := prog_1_method_13_code
def yX6_below : MethodName := ⟨RX6, "below", "()I"⟩
abbrev cX6_may : ByteArray := prog_1_method_14_code
def yX6_may : MethodName := ⟨RX6, "may", "(II)I"⟩
abbrev cX6_put : ByteArray := prog_1_method_15_code
def yX6_put : MethodName := ⟨RX6, "put", "(II)I"⟩
abbrev cX6_take : ByteArray := prog_1_method_16_code
def yX6_take : MethodName := ⟨RX6, "take", "(I)I"⟩
abbrev cX6_tidy : ByteArray := prog_1_method_17_code
def yX6_tidy : MethodName := ⟨RX6, "tidy", "(I)I"⟩
abbrev cX6_trade : ByteArray := prog_1_method_18_code
def yX6_trade : MethodName := ⟨RX6, "trade", "(II)I"⟩
abbrev cX6_better : ByteArray := prog_1_method_19_code
def yX6_better : MethodName := ⟨RX6, "better", "()I"⟩
abbrev cX6_order : ByteArray := prog_1_method_20_code
def yX6_order : MethodName := ⟨RX6, "order", "()I"⟩
abbrev cX6_rain : ByteArray := prog_1_method_21_code
def yX6_rain : MethodName := ⟨RX6, "rain", "(I)I"⟩
abbrev cX6_change : ByteArray := prog_1_method_22_code
def yX6_change : MethodName := ⟨RX6, "change", "(III)I"⟩
abbrev cX6_count : ByteArray := prog_1_method_23_code
def yX6_count : MethodName := ⟨RX6, "count", "(I)I"⟩
abbrev cX6_refusalToJoin : ByteArray := prog_1_method_24_code
def yX6_refusalToJoin : MethodName := ⟨RX6, "refusalToJoin", "(II)I"⟩
abbrev cX6_within : ByteArray := prog_1_method_25_code
def yX6_within : MethodName := ⟨RX6, "within", "(III)Z"⟩
abbrev cX6_isPlace : ByteArray := prog_1_method_26_code
def yX6_isPlace : MethodName := ⟨RX6, "isPlace", "(I)Z"⟩
abbrev cX6_isPlayer : ByteArray := prog_1_method_27_code
def yX6_isPlayer : MethodName := ⟨RX6, "isPlayer", "(I)Z"⟩
abbrev cX6_isDayLength : ByteArray := prog_1_method_28_code
def yX6_isDayLength : MethodName := ⟨RX6, "isDayLength", "(II)Z"⟩
abbrev cX6_hasBit : ByteArray := prog_1_method_29_code
def yX6_hasBit : MethodName := ⟨RX6, "hasBit", "(II)Z"⟩
def RX7 : String := "ShootingDaysModel"
def TX7 : u_T := fun k => match k with
  | 0 => ("ShootingDaysModel", "thrown", "I", false)
  | 1 => ("ShootingDaysModel", "scenes", "I", false)
  | 2 => ("ShootingDaysModel", "minutes", "[I", true)
  | 3 => ("ShootingDaysModel", "place", "[I", true)
  | 4 => ("ShootingDaysModel", "light", "[I", true)
  | 5 => ("ShootingDaysModel", "out", "[Z", true)
  | 6 => ("ShootingDaysModel", "players", "[I", true)
  | 7 => ("ShootingDaysModel", "aheads", "[I", true)
  | 8 => ("ShootingDaysModel", "dayOf", "[I", true)
  | 9 => ("ShootingDaysModel", "pay", "[I", true)
  | 10 => ("ShootingDaysModel", "gap", "[I", true)
  | 11 => ("ShootingDaysModel", "rent", "[I", true)
  | 12 => ("ShootingDaysModel", "spot", "[I", true)
  | 13 => ("ShootingDaysModel", "days", "I", false)
  | 14 => ("ShootingDaysModel", "most", "[I", true)
  | 15 => ("ShootingDaysModel", "sun", "[I", true)
  | 16 => ("ShootingDaysModel", "size", "[I", true)
  | 17 => ("ShootingDaysModel", "rows", "[I", true)
  | 18 => ("ShootingDaysModel", "heap", "[I", true)
  | 19 => ("ShootingDaysModel", "bestRow", "[I", true)
  | 20 => ("ShootingDaysModel", "bestMinutes", "I", false)
  | 21 => ("ShootingDaysModel", "keptRow", "[I", true)
  | 22 => ("ShootingDaysModel", "allRows", "[I", true)
  | 23 => ("ShootingDaysModel", "allSizes", "[I", true)
  | 24 => ("ShootingDaysModel", "allDays", "[I", true)
  | 25 => ("ShootingDaysModel", "given", "[I", true)
  | 26 => ("ShootingDaysModel", "bestGiven", "[I", true)
  | _ => ("ShootingDaysModel", "bestCost", "I", false)
def tyX7 : Nat → FieldType := fun k => match k with
  | 0 => .int
  | 1 => .int
  | 2 => .array .int
  | 3 => .array .int
  | 4 => .array .int
  | 5 => .array .boolean
  | 6 => .array .int
  | 7 => .array .int
  | 8 => .array .int
  | 9 => .array .int
  | 10 => .array .int
  | 11 => .array .int
  | 12 => .array .int
  | 13 => .int
  | 14 => .array .int
  | 15 => .array .int
  | 16 => .array .int
  | 17 => .array .int
  | 18 => .array .int
  | 19 => .array .int
  | 20 => .int
  | 21 => .array .int
  | 22 => .array .int
  | 23 => .array .int
  | 24 => .array .int
  | 25 => .array .int
  | 26 => .array .int
  | _ => .int
theorem nmX7 : ∀ a, a < 28 → ∀ b, b < 28 → a ≠ b → (TX7 a).2.1 ≠ (TX7 b).2.1 := by decide +kernel
theorem tyX7_ok : ∀ k, k < 28 → parseFieldDescriptor (TX7 k).2.2.1 = some (tyX7 k) := by decide +kernel
abbrev cX7_init : ByteArray := prog_9_method_1_code
def yX7_init : MethodName := ⟨RX7, "<init>", "()V"⟩
abbrev cX7_in : ByteArray := prog_9_method_3_code
def yX7_in : MethodName := ⟨RX7, "in", "(III)Z"⟩
abbrev cX7_isScene : ByteArray := prog_9_method_4_code
def yX7_isScene : MethodName := ⟨RX7, "isScene", "(I)Z"⟩
abbrev cX7_isDay : ByteArray := prog_9_method_5_code
def yX7_isDay : MethodName := ⟨RX7, "isDay", "(I)Z"⟩
abbrev cX7_distance : ByteArray := prog_9_method_6_code
def yX7_distance : MethodName := ⟨RX7, "distance", "(II)I"⟩
abbrev cX7_scene : ByteArray := prog_9_method_7_code
def yX7_scene : MethodName := ⟨RX7, "scene", "(IIIII)I"⟩
abbrev cX7_player : ByteArray := prog_9_method_8_code
def yX7_player : MethodName := ⟨RX7, "player", "(III)I"⟩
abbrev cX7_rent : ByteArray := prog_9_method_9_code
def yX7_rent : MethodName := ⟨RX7, "rent", "(II)I"⟩
abbrev cX7_spot : ByteArray := prog_9_method_10_code
def yX7_spot : MethodName := ⟨RX7, "spot", "(II)I"⟩
abbrev cX7_mustBe : ByteArray := prog_9_method_11_code
def yX7_mustBe : MethodName := ⟨RX7, "mustBe", "(II)Z"⟩
abbrev cX7_ahead : ByteArray := prog_9_method_12_code
def yX7_ahead : MethodName := ⟨RX7, "ahead", "(II)I"⟩
abbrev cX7_day : ByteArray := prog_9_method_13_code
def yX7_day : MethodName := ⟨RX7, "day", "(II)I"⟩
abbrev cX7_change : ByteArray := prog_9_method_14_code
def yX7_change : MethodName := ⟨RX7, "change", "(III)I"⟩
abbrev cX7_minutesOf : ByteArray := prog_9_method_15_code
def yX7_minutesOf : MethodName := ⟨RX7, "minutesOf", "(I)I"⟩
abbrev cX7_lightOf : ByteArray := prog_9_method_16_code
def yX7_lightOf : MethodName := ⟨RX7, "lightOf", "(I)I"⟩
abbrev cX7_has : ByteArray := prog_9_method_17_code
def yX7_has : MethodName := ⟨RX7, "has", "(II)Z"⟩
abbrev cX7_placeIn : ByteArray := prog_9_method_18_code
def yX7_placeIn : MethodName := ⟨RX7, "placeIn", "(I)I"⟩
abbrev cX7_isOrdered : ByteArray := prog_9_method_19_code
def yX7_isOrdered : MethodName := ⟨RX7, "isOrdered", "(I)Z"⟩
abbrev cX7_keeps : ByteArray := prog_9_method_20_code
def yX7_keeps : MethodName := ⟨RX7, "keeps", "()Z"⟩
abbrev cX7_tries : ByteArray := prog_9_method_21_code
def yX7_tries : MethodName := ⟨RX7, "tries", "(III)V"⟩
abbrev cX7_arranges : ByteArray := prog_9_method_22_code
def yX7_arranges : MethodName := ⟨RX7, "arranges", "(I)Z"⟩
abbrev cX7_puts : ByteArray := prog_9_method_23_code
def yX7_puts : MethodName := ⟨RX7, "puts", "(II)Z"⟩
abbrev cX7_takes : ByteArray := prog_9_method_24_code
def yX7_takes : MethodName := ⟨RX7, "takes", "(I)V"⟩
abbrev cX7_keepAll : ByteArray := prog_9_method_25_code
def yX7_keepAll : MethodName := ⟨RX7, "keepAll", "()V"⟩
abbrev cX7_backAll : ByteArray := prog_9_method_26_code
def yX7_backAll : MethodName := ⟨RX7, "backAll", "()V"⟩
abbrev cX7_may : ByteArray := prog_9_method_27_code
def yX7_may : MethodName := ⟨RX7, "may", "(II)I"⟩
abbrev cX7_put : ByteArray := prog_9_method_28_code
def yX7_put : MethodName := ⟨RX7, "put", "(II)I"⟩
abbrev cX7_take : ByteArray := prog_9_method_29_code
def yX7_take : MethodName := ⟨RX7, "take", "(I)I"⟩
abbrev cX7_tidy : ByteArray := prog_9_method_30_code
def yX7_tidy : MethodName := ⟨RX7, "tidy", "(I)I"⟩
abbrev cX7_trades : ByteArray := prog_9_method_31_code
def yX7_trades : MethodName := ⟨RX7, "trades", "(II)V"⟩
abbrev cX7_trade : ByteArray := prog_9_method_32_code
def yX7_trade : MethodName := ⟨RX7, "trade", "(II)I"⟩
abbrev cX7_plays : ByteArray := prog_9_method_33_code
def yX7_plays : MethodName := ⟨RX7, "plays", "(II)Z"⟩
abbrev cX7_edge : ByteArray := prog_9_method_34_code
def yX7_edge : MethodName := ⟨RX7, "edge", "(IZ)I"⟩
abbrev cX7_daysOf : ByteArray := prog_9_method_35_code
def yX7_daysOf : MethodName := ⟨RX7, "daysOf", "(I)I"⟩
abbrev cX7_paid : ByteArray := prog_9_method_36_code
def yX7_paid : MethodName := ⟨RX7, "paid", "(I)I"⟩
abbrev cX7_payAll : ByteArray := prog_9_method_37_code
def yX7_payAll : MethodName := ⟨RX7, "payAll", "()I"⟩
abbrev cX7_uses : ByteArray := prog_9_method_38_code
def yX7_uses : MethodName := ⟨RX7, "uses", "(II)Z"⟩
abbrev cX7_rentAll : ByteArray := prog_9_method_39_code
def yX7_rentAll : MethodName := ⟨RX7, "rentAll", "()I"⟩
abbrev cX7_over : ByteArray := prog_9_method_40_code
def yX7_over : MethodName := ⟨RX7, "over", "(I)I"⟩
abbrev cX7_overAll : ByteArray := prog_9_method_41_code
def yX7_overAll : MethodName := ⟨RX7, "overAll", "()I"⟩
abbrev cX7_costAll : ByteArray := prog_9_method_42_code
def yX7_costAll : MethodName := ⟨RX7, "costAll", "()I"⟩
abbrev cX7_cost : ByteArray := prog_9_method_43_code
def yX7_cost : MethodName := ⟨RX7, "cost", "(I)I"⟩
abbrev cX7_below : ByteArray := prog_9_method_44_code
def yX7_below : MethodName := ⟨RX7, "below", "()I"⟩
abbrev cX7_held : ByteArray := prog_9_method_45_code
def yX7_held : MethodName := ⟨RX7, "held", "(II)I"⟩
abbrev cX7_movesWell : ByteArray := prog_9_method_46_code
def yX7_movesWell : MethodName := ⟨RX7, "movesWell", "(III)Z"⟩
abbrev cX7_betters : ByteArray := prog_9_method_47_code
def yX7_betters : MethodName := ⟨RX7, "betters", "()Z"⟩
abbrev cX7_better : ByteArray := prog_9_method_48_code
def yX7_better : MethodName := ⟨RX7, "better", "()I"⟩
abbrev cX7_lays : ByteArray := prog_9_method_49_code
def yX7_lays : MethodName := ⟨RX7, "lays", "()V"⟩
abbrev cX7_gives : ByteArray := prog_9_method_50_code
def yX7_gives : MethodName := ⟨RX7, "gives", "(II)V"⟩
abbrev cX7_order : ByteArray := prog_9_method_51_code
def yX7_order : MethodName := ⟨RX7, "order", "()I"⟩
abbrev cX7_rain : ByteArray := prog_9_method_52_code
def yX7_rain : MethodName := ⟨RX7, "rain", "(I)I"⟩
abbrev cX7_about : ByteArray := prog_9_method_53_code
def yX7_about : MethodName := ⟨RX7, "about", "(II)I"⟩
abbrev cX7_row : ByteArray := prog_9_method_54_code
def yX7_row : MethodName := ⟨RX7, "row", "(II)I"⟩
abbrev cX7_of : ByteArray := prog_9_method_55_code
def yX7_of : MethodName := ⟨RX7, "of", "(II)I"⟩
abbrev cX7_count : ByteArray := prog_9_method_56_code
def yX7_count : MethodName := ⟨RX7, "count", "(I)I"⟩
def RL : String := "ShootingDaysLaw"
abbrev cL_law : ByteArray := code
def yL_law : MethodName := ⟨RL, "law", "([I)Z"⟩
abbrev vwCl : List vw_C := [(RX0, TX0, 7), (RX1, TX1, 2), (RX2, TX2, 11), (RX3, TX3, 5), (RX4, TX4, 7), (RX5, TX5, 10), (RX6, TX6, 4), (RX7, TX7, 28)]
end
section
theorem dX0_init_0 : decode cX0_init 0 = .ok (.aload_n 0, 1) := by decide +kernel
theorem dX0_init_1 : decode cX0_init 1 = .ok (.invokespecial 3, 3) := by decide +kernel
theorem dX0_init_4 : decode cX0_init 4 = .ok (.aload_n 0, 1) := by decide +kernel
theorem dX0_init_5 : decode cX0_init 5 = .ok (.iconst 5, 1) := by decide +kernel
theorem dX0_init_6 : decode cX0_init 6 = .ok (.newarray .int, 2) := by decide +kernel
theorem dX0_init_8 : decode cX0_init 8 = .ok (.putfield 9, 3) := by decide +kernel
theorem dX0_init_11 : decode cX0_init 11 = .ok (.aload_n 0, 1) := by decide +kernel
theorem dX0_init_12 : decode cX0_init 12 = .ok (.iconst 5, 1) := by decide +kernel
theorem dX0_init_13 : decode cX0_init 13 = .ok (.newarray .int, 2) := by decide +kernel
theorem dX0_init_15 : decode cX0_init 15 = .ok (.putfield 15, 3) := by decide +kernel
theorem dX0_init_18 : decode cX0_init 18 = .ok (.aload_n 0, 1) := by decide +kernel
theorem dX0_init_19 : decode cX0_init 19 = .ok (.iconst 5, 1) := by decide +kernel
theorem dX0_init_20 : decode cX0_init 20 = .ok (.newarray .int, 2) := by decide +kernel
theorem dX0_init_22 : decode cX0_init 22 = .ok (.putfield 18, 3) := by decide +kernel
theorem dX0_init_25 : decode cX0_init 25 = .ok (.aload_n 0, 1) := by decide +kernel
theorem dX0_init_26 : decode cX0_init 26 = .ok (.aload_n 1, 1) := by decide +kernel
theorem dX0_init_27 : decode cX0_init 27 = .ok (.putfield 21, 3) := by decide +kernel
theorem dX0_init_30 : decode cX0_init 30 = .ok (.return_, 1) := by decide +kernel
theorem dX0_arrange_0 : decode cX0_arrange 0 = .ok (.aload_n 0, 1) := by decide +kernel
theorem dX0_arrange_1 : decode cX0_arrange 1 = .ok (.iload_n 1, 1) := by decide +kernel
theorem dX0_arrange_2 : decode cX0_arrange 2 = .ok (.invokevirtual 25, 3) := by decide +kernel
theorem dX0_arrange_5 : decode cX0_arrange 5 = .ok (.aload_n 0, 1) := by decide +kernel
theorem dX0_arrange_6 : decode cX0_arrange 6 = .ok (.ldc 31, 2) := by decide +kernel
theorem dX0_arrange_8 : decode cX0_arrange 8 = .ok (.putfield 32, 3) := by decide +kernel
theorem dX0_arrange_11 : decode cX0_arrange 11 = .ok (.aload_n 0, 1) := by decide +kernel
theorem dX0_arrange_12 : decode cX0_arrange 12 = .ok (.iconst 0, 1) := by decide +kernel
theorem dX0_arrange_13 : decode cX0_arrange 13 = .ok (.iconst 0, 1) := by decide +kernel
theorem dX0_arrange_14 : decode cX0_arrange 14 = .ok (.iconst 0, 1) := by decide +kernel
theorem dX0_arrange_15 : decode cX0_arrange 15 = .ok (.invokevirtual 36, 3) := by decide +kernel
theorem dX0_arrange_18 : decode cX0_arrange 18 = .ok (.aload_n 2, 1) := by decide +kernel
theorem dX0_arrange_19 : decode cX0_arrange 19 = .ok (.invokevirtual 40, 3) := by decide +kernel
theorem dX0_arrange_22 : decode cX0_arrange 22 = .ok (.iconst 0, 1) := by decide +kernel
theorem dX0_arrange_23 : decode cX0_arrange 23 = .ok (.istore_n 3, 1) := by decide +kernel
theorem dX0_arrange_24 : decode cX0_arrange 24 = .ok (.iload_n 3, 1) := by decide +kernel
theorem dX0_arrange_25 : decode cX0_arrange 25 = .ok (.aload_n 0, 1) := by decide +kernel
theorem dX0_arrange_26 : decode cX0_arrange 26 = .ok (.getfield 45, 3) := by decide +kernel
theorem dX0_arrange_29 : decode cX0_arrange 29 = .ok (.if_icmp .ge 19, 3) := by decide +kernel
theorem dX0_arrange_32 : decode cX0_arrange 32 = .ok (.aload_n 2, 1) := by decide +kernel
theorem dX0_arrange_33 : decode cX0_arrange 33 = .ok (.aload_n 0, 1) := by decide +kernel
theorem dX0_arrange_34 : decode cX0_arrange 34 = .ok (.getfield 18, 3) := by decide +kernel
theorem dX0_arrange_37 : decode cX0_arrange 37 = .ok (.iload_n 3, 1) := by decide +kernel
theorem dX0_arrange_38 : decode cX0_arrange 38 = .ok (.iaload, 1) := by decide +kernel
theorem dX0_arrange_39 : decode cX0_arrange 39 = .ok (.invokevirtual 48, 3) := by decide +kernel
theorem dX0_arrange_42 : decode cX0_arrange 42 = .ok (.iinc 3 1, 3) := by decide +kernel
theorem dX0_arrange_45 : decode cX0_arrange 45 = .ok (.goto (-21), 3) := by decide +kernel
theorem dX0_arrange_48 : decode cX0_arrange 48 = .ok (.aload_n 2, 1) := by decide +kernel
theorem dX0_arrange_49 : decode cX0_arrange 49 = .ok (.aload_n 0, 1) := by decide +kernel
theorem dX0_arrange_50 : decode cX0_arrange 50 = .ok (.getfield 21, 3) := by decide +kernel
theorem dX0_arrange_53 : decode cX0_arrange 53 = .ok (.invokevirtual 51, 3) := by decide +kernel
theorem dX0_arrange_56 : decode cX0_arrange 56 = .ok (.return_, 1) := by decide +kernel
theorem dX0_fillPool_0 : decode cX0_fillPool 0 = .ok (.aload_n 0, 1) := by decide +kernel
theorem dX0_fillPool_1 : decode cX0_fillPool 1 = .ok (.iconst 0, 1) := by decide +kernel
theorem dX0_fillPool_2 : decode cX0_fillPool 2 = .ok (.putfield 45, 3) := by decide +kernel
theorem dX0_fillPool_5 : decode cX0_fillPool 5 = .ok (.aload_n 0, 1) := by decide +kernel
theorem dX0_fillPool_6 : decode cX0_fillPool 6 = .ok (.iconst 0, 1) := by decide +kernel
theorem dX0_fillPool_7 : decode cX0_fillPool 7 = .ok (.putfield 55, 3) := by decide +kernel
theorem dX0_fillPool_10 : decode cX0_fillPool 10 = .ok (.iconst 0, 1) := by decide +kernel
theorem dX0_fillPool_11 : decode cX0_fillPool 11 = .ok (.istore_n 2, 1) := by decide +kernel
theorem dX0_fillPool_12 : decode cX0_fillPool 12 = .ok (.iload_n 2, 1) := by decide +kernel
theorem dX0_fillPool_13 : decode cX0_fillPool 13 = .ok (.aload_n 0, 1) := by decide +kernel
theorem dX0_fillPool_14 : decode cX0_fillPool 14 = .ok (.getfield 21, 3) := by decide +kernel
theorem dX0_fillPool_17 : decode cX0_fillPool 17 = .ok (.getfield 58, 3) := by decide +kernel
theorem dX0_fillPool_20 : decode cX0_fillPool 20 = .ok (.if_icmp .ge 57, 3) := by decide +kernel
theorem dX0_fillPool_23 : decode cX0_fillPool 23 = .ok (.aload_n 0, 1) := by decide +kernel
theorem dX0_fillPool_24 : decode cX0_fillPool 24 = .ok (.getfield 45, 3) := by decide +kernel
theorem dX0_fillPool_27 : decode cX0_fillPool 27 = .ok (.iconst 5, 1) := by decide +kernel
theorem dX0_fillPool_28 : decode cX0_fillPool 28 = .ok (.if_icmp .ge 49, 3) := by decide +kernel
theorem dX0_fillPool_31 : decode cX0_fillPool 31 = .ok (.iload_n 1, 1) := by decide +kernel
theorem dX0_fillPool_32 : decode cX0_fillPool 32 = .ok (.iload_n 2, 1) := by decide +kernel
theorem dX0_fillPool_33 : decode cX0_fillPool 33 = .ok (.invokestatic 63, 3) := by decide +kernel
theorem dX0_fillPool_36 : decode cX0_fillPool 36 = .ok (.ifCond .eq 35, 3) := by decide +kernel
theorem dX0_fillPool_39 : decode cX0_fillPool 39 = .ok (.aload_n 0, 1) := by decide +kernel
theorem dX0_fillPool_40 : decode cX0_fillPool 40 = .ok (.getfield 9, 3) := by decide +kernel
theorem dX0_fillPool_43 : decode cX0_fillPool 43 = .ok (.aload_n 0, 1) := by decide +kernel
theorem dX0_fillPool_44 : decode cX0_fillPool 44 = .ok (.getfield 45, 3) := by decide +kernel
theorem dX0_fillPool_47 : decode cX0_fillPool 47 = .ok (.iload_n 2, 1) := by decide +kernel
theorem dX0_fillPool_48 : decode cX0_fillPool 48 = .ok (.iastore, 1) := by decide +kernel
theorem dX0_fillPool_49 : decode cX0_fillPool 49 = .ok (.aload_n 0, 1) := by decide +kernel
theorem dX0_fillPool_50 : decode cX0_fillPool 50 = .ok (.dup, 1) := by decide +kernel
theorem dX0_fillPool_51 : decode cX0_fillPool 51 = .ok (.getfield 55, 3) := by decide +kernel
theorem dX0_fillPool_54 : decode cX0_fillPool 54 = .ok (.iconst 1, 1) := by decide +kernel
theorem dX0_fillPool_55 : decode cX0_fillPool 55 = .ok (.iload_n 2, 1) := by decide +kernel
theorem dX0_fillPool_56 : decode cX0_fillPool 56 = .ok (.ishl, 1) := by decide +kernel
theorem dX0_fillPool_57 : decode cX0_fillPool 57 = .ok (.ior, 1) := by decide +kernel
theorem dX0_fillPool_58 : decode cX0_fillPool 58 = .ok (.putfield 55, 3) := by decide +kernel
theorem dX0_fillPool_61 : decode cX0_fillPool 61 = .ok (.aload_n 0, 1) := by decide +kernel
theorem dX0_fillPool_62 : decode cX0_fillPool 62 = .ok (.dup, 1) := by decide +kernel
theorem dX0_fillPool_63 : decode cX0_fillPool 63 = .ok (.getfield 45, 3) := by decide +kernel
theorem dX0_fillPool_66 : decode cX0_fillPool 66 = .ok (.iconst 1, 1) := by decide +kernel
theorem dX0_fillPool_67 : decode cX0_fillPool 67 = .ok (.iadd, 1) := by decide +kernel
theorem dX0_fillPool_68 : decode cX0_fillPool 68 = .ok (.putfield 45, 3) := by decide +kernel
theorem dX0_fillPool_71 : decode cX0_fillPool 71 = .ok (.iinc 2 1, 3) := by decide +kernel
theorem dX0_fillPool_74 : decode cX0_fillPool 74 = .ok (.goto (-62), 3) := by decide +kernel
theorem dX0_fillPool_77 : decode cX0_fillPool 77 = .ok (.return_, 1) := by decide +kernel
theorem dX0_tryEach_0 : decode cX0_tryEach 0 = .ok (.iload_n 1, 1) := by decide +kernel
theorem dX0_tryEach_1 : decode cX0_tryEach 1 = .ok (.aload_n 0, 1) := by decide +kernel
theorem dX0_tryEach_2 : decode cX0_tryEach 2 = .ok (.getfield 45, 3) := by decide +kernel
theorem dX0_tryEach_5 : decode cX0_tryEach 5 = .ok (.if_icmp .lt 26, 3) := by decide +kernel
theorem dX0_tryEach_8 : decode cX0_tryEach 8 = .ok (.aload_n 0, 1) := by decide +kernel
theorem dX0_tryEach_9 : decode cX0_tryEach 9 = .ok (.iload_n 3, 1) := by decide +kernel
theorem dX0_tryEach_10 : decode cX0_tryEach 10 = .ok (.putfield 32, 3) := by decide +kernel
theorem dX0_tryEach_13 : decode cX0_tryEach 13 = .ok (.aload_n 0, 1) := by decide +kernel
theorem dX0_tryEach_14 : decode cX0_tryEach 14 = .ok (.getfield 15, 3) := by decide +kernel
theorem dX0_tryEach_17 : decode cX0_tryEach 17 = .ok (.iconst 0, 1) := by decide +kernel
theorem dX0_tryEach_18 : decode cX0_tryEach 18 = .ok (.aload_n 0, 1) := by decide +kernel
theorem dX0_tryEach_19 : decode cX0_tryEach 19 = .ok (.getfield 18, 3) := by decide +kernel
theorem dX0_tryEach_22 : decode cX0_tryEach 22 = .ok (.iconst 0, 1) := by decide +kernel
theorem dX0_tryEach_23 : decode cX0_tryEach 23 = .ok (.aload_n 0, 1) := by decide +kernel
theorem dX0_tryEach_24 : decode cX0_tryEach 24 = .ok (.getfield 45, 3) := by decide +kernel
theorem dX0_tryEach_27 : decode cX0_tryEach 27 = .ok (.invokestatic 67, 3) := by decide +kernel
theorem dX0_tryEach_30 : decode cX0_tryEach 30 = .ok (.return_, 1) := by decide +kernel
theorem dX0_tryEach_31 : decode cX0_tryEach 31 = .ok (.iconst 0, 1) := by decide +kernel
theorem dX0_tryEach_32 : decode cX0_tryEach 32 = .ok (.istore 4, 2) := by decide +kernel
theorem dX0_tryEach_34 : decode cX0_tryEach 34 = .ok (.iload 4, 2) := by decide +kernel
theorem dX0_tryEach_36 : decode cX0_tryEach 36 = .ok (.aload_n 0, 1) := by decide +kernel
theorem dX0_tryEach_37 : decode cX0_tryEach 37 = .ok (.getfield 45, 3) := by decide +kernel
theorem dX0_tryEach_40 : decode cX0_tryEach 40 = .ok (.if_icmp .ge 68, 3) := by decide +kernel
theorem dX0_tryEach_43 : decode cX0_tryEach 43 = .ok (.aload_n 0, 1) := by decide +kernel
theorem dX0_tryEach_44 : decode cX0_tryEach 44 = .ok (.getfield 21, 3) := by decide +kernel
theorem dX0_tryEach_47 : decode cX0_tryEach 47 = .ok (.getfield 73, 3) := by decide +kernel
theorem dX0_tryEach_50 : decode cX0_tryEach 50 = .ok (.aload_n 0, 1) := by decide +kernel
theorem dX0_tryEach_51 : decode cX0_tryEach 51 = .ok (.getfield 9, 3) := by decide +kernel
theorem dX0_tryEach_54 : decode cX0_tryEach 54 = .ok (.iload 4, 2) := by decide +kernel
theorem dX0_tryEach_56 : decode cX0_tryEach 56 = .ok (.iaload, 1) := by decide +kernel
theorem dX0_tryEach_57 : decode cX0_tryEach 57 = .ok (.iaload, 1) := by decide +kernel
theorem dX0_tryEach_58 : decode cX0_tryEach 58 = .ok (.aload_n 0, 1) := by decide +kernel
theorem dX0_tryEach_59 : decode cX0_tryEach 59 = .ok (.getfield 55, 3) := by decide +kernel
theorem dX0_tryEach_62 : decode cX0_tryEach 62 = .ok (.iand, 1) := by decide +kernel
theorem dX0_tryEach_63 : decode cX0_tryEach 63 = .ok (.iload_n 2, 1) := by decide +kernel
theorem dX0_tryEach_64 : decode cX0_tryEach 64 = .ok (.iconst (-1), 1) := by decide +kernel
theorem dX0_tryEach_65 : decode cX0_tryEach 65 = .ok (.ixor, 1) := by decide +kernel
theorem dX0_tryEach_66 : decode cX0_tryEach 66 = .ok (.iand, 1) := by decide +kernel
theorem dX0_tryEach_67 : decode cX0_tryEach 67 = .ok (.istore 5, 2) := by decide +kernel
theorem dX0_tryEach_69 : decode cX0_tryEach 69 = .ok (.iload_n 2, 1) := by decide +kernel
theorem dX0_tryEach_70 : decode cX0_tryEach 70 = .ok (.aload_n 0, 1) := by decide +kernel
theorem dX0_tryEach_71 : decode cX0_tryEach 71 = .ok (.getfield 9, 3) := by decide +kernel
theorem dX0_tryEach_74 : decode cX0_tryEach 74 = .ok (.iload 4, 2) := by decide +kernel
theorem dX0_tryEach_76 : decode cX0_tryEach 76 = .ok (.iaload, 1) := by decide +kernel
theorem dX0_tryEach_77 : decode cX0_tryEach 77 = .ok (.invokestatic 63, 3) := by decide +kernel
theorem dX0_tryEach_80 : decode cX0_tryEach 80 = .ok (.ifCond .ne 22, 3) := by decide +kernel
theorem dX0_tryEach_83 : decode cX0_tryEach 83 = .ok (.iload 5, 2) := by decide +kernel
theorem dX0_tryEach_85 : decode cX0_tryEach 85 = .ok (.ifCond .ne 17, 3) := by decide +kernel
theorem dX0_tryEach_88 : decode cX0_tryEach 88 = .ok (.aload_n 0, 1) := by decide +kernel
theorem dX0_tryEach_89 : decode cX0_tryEach 89 = .ok (.aload_n 0, 1) := by decide +kernel
theorem dX0_tryEach_90 : decode cX0_tryEach 90 = .ok (.getfield 9, 3) := by decide +kernel
theorem dX0_tryEach_93 : decode cX0_tryEach 93 = .ok (.iload 4, 2) := by decide +kernel
theorem dX0_tryEach_95 : decode cX0_tryEach 95 = .ok (.iaload, 1) := by decide +kernel
theorem dX0_tryEach_96 : decode cX0_tryEach 96 = .ok (.iload_n 1, 1) := by decide +kernel
theorem dX0_tryEach_97 : decode cX0_tryEach 97 = .ok (.iload_n 2, 1) := by decide +kernel
theorem dX0_tryEach_98 : decode cX0_tryEach 98 = .ok (.iload_n 3, 1) := by decide +kernel
theorem dX0_tryEach_99 : decode cX0_tryEach 99 = .ok (.invokevirtual 76, 3) := by decide +kernel
theorem dX0_tryEach_102 : decode cX0_tryEach 102 = .ok (.iinc 4 1, 3) := by decide +kernel
theorem dX0_tryEach_105 : decode cX0_tryEach 105 = .ok (.goto (-71), 3) := by decide +kernel
theorem dX0_tryEach_108 : decode cX0_tryEach 108 = .ok (.return_, 1) := by decide +kernel
theorem dX0_tryNext_0 : decode cX0_tryNext 0 = .ok (.iload_n 2, 1) := by decide +kernel
theorem dX0_tryNext_1 : decode cX0_tryNext 1 = .ok (.ifCond .le 25, 3) := by decide +kernel
theorem dX0_tryNext_4 : decode cX0_tryNext 4 = .ok (.iload 4, 2) := by decide +kernel
theorem dX0_tryNext_6 : decode cX0_tryNext 6 = .ok (.aload_n 0, 1) := by decide +kernel
theorem dX0_tryNext_7 : decode cX0_tryNext 7 = .ok (.getfield 21, 3) := by decide +kernel
theorem dX0_tryNext_10 : decode cX0_tryNext 10 = .ok (.aload_n 0, 1) := by decide +kernel
theorem dX0_tryNext_11 : decode cX0_tryNext 11 = .ok (.getfield 15, 3) := by decide +kernel
theorem dX0_tryNext_14 : decode cX0_tryNext 14 = .ok (.iload_n 2, 1) := by decide +kernel
theorem dX0_tryNext_15 : decode cX0_tryNext 15 = .ok (.iconst 1, 1) := by decide +kernel
theorem dX0_tryNext_16 : decode cX0_tryNext 16 = .ok (.isub, 1) := by decide +kernel
theorem dX0_tryNext_17 : decode cX0_tryNext 17 = .ok (.iaload, 1) := by decide +kernel
theorem dX0_tryNext_18 : decode cX0_tryNext 18 = .ok (.iload_n 1, 1) := by decide +kernel
theorem dX0_tryNext_19 : decode cX0_tryNext 19 = .ok (.invokevirtual 80, 3) := by decide +kernel
theorem dX0_tryNext_22 : decode cX0_tryNext 22 = .ok (.iadd, 1) := by decide +kernel
theorem dX0_tryNext_23 : decode cX0_tryNext 23 = .ok (.goto 5, 3) := by decide +kernel
theorem dX0_tryNext_26 : decode cX0_tryNext 26 = .ok (.iload 4, 2) := by decide +kernel
theorem dX0_tryNext_28 : decode cX0_tryNext 28 = .ok (.istore 5, 2) := by decide +kernel
theorem dX0_tryNext_30 : decode cX0_tryNext 30 = .ok (.iload 5, 2) := by decide +kernel
theorem dX0_tryNext_32 : decode cX0_tryNext 32 = .ok (.aload_n 0, 1) := by decide +kernel
theorem dX0_tryNext_33 : decode cX0_tryNext 33 = .ok (.getfield 32, 3) := by decide +kernel
theorem dX0_tryNext_36 : decode cX0_tryNext 36 = .ok (.if_icmp .ge 24, 3) := by decide +kernel
theorem dX0_tryNext_39 : decode cX0_tryNext 39 = .ok (.aload_n 0, 1) := by decide +kernel
theorem dX0_tryNext_40 : decode cX0_tryNext 40 = .ok (.getfield 15, 3) := by decide +kernel
theorem dX0_tryNext_43 : decode cX0_tryNext 43 = .ok (.iload_n 2, 1) := by decide +kernel
theorem dX0_tryNext_44 : decode cX0_tryNext 44 = .ok (.iload_n 1, 1) := by decide +kernel
theorem dX0_tryNext_45 : decode cX0_tryNext 45 = .ok (.iastore, 1) := by decide +kernel
theorem dX0_tryNext_46 : decode cX0_tryNext 46 = .ok (.aload_n 0, 1) := by decide +kernel
theorem dX0_tryNext_47 : decode cX0_tryNext 47 = .ok (.iload_n 2, 1) := by decide +kernel
theorem dX0_tryNext_48 : decode cX0_tryNext 48 = .ok (.iconst 1, 1) := by decide +kernel
theorem dX0_tryNext_49 : decode cX0_tryNext 49 = .ok (.iadd, 1) := by decide +kernel
theorem dX0_tryNext_50 : decode cX0_tryNext 50 = .ok (.iload_n 3, 1) := by decide +kernel
theorem dX0_tryNext_51 : decode cX0_tryNext 51 = .ok (.iconst 1, 1) := by decide +kernel
theorem dX0_tryNext_52 : decode cX0_tryNext 52 = .ok (.iload_n 1, 1) := by decide +kernel
theorem dX0_tryNext_53 : decode cX0_tryNext 53 = .ok (.ishl, 1) := by decide +kernel
theorem dX0_tryNext_54 : decode cX0_tryNext 54 = .ok (.ior, 1) := by decide +kernel
theorem dX0_tryNext_55 : decode cX0_tryNext 55 = .ok (.iload 5, 2) := by decide +kernel
theorem dX0_tryNext_57 : decode cX0_tryNext 57 = .ok (.invokevirtual 36, 3) := by decide +kernel
theorem dX0_tryNext_60 : decode cX0_tryNext 60 = .ok (.return_, 1) := by decide +kernel
theorem dX1_init_0 : decode cX1_init 0 = .ok (.aload_n 0, 1) := by decide +kernel
theorem dX1_init_1 : decode cX1_init 1 = .ok (.invokespecial 3, 3) := by decide +kernel
theorem dX1_init_4 : decode cX1_init 4 = .ok (.aload_n 0, 1) := by decide +kernel
theorem dX1_init_5 : decode cX1_init 5 = .ok (.aload_n 1, 1) := by decide +kernel
theorem dX1_init_6 : decode cX1_init 6 = .ok (.putfield 9, 3) := by decide +kernel
theorem dX1_init_9 : decode cX1_init 9 = .ok (.aload_n 0, 1) := by decide +kernel
theorem dX1_init_10 : decode cX1_init 10 = .ok (.aload_n 2, 1) := by decide +kernel
theorem dX1_init_11 : decode cX1_init 11 = .ok (.putfield 15, 3) := by decide +kernel
theorem dX1_init_14 : decode cX1_init 14 = .ok (.return_, 1) := by decide +kernel
theorem dX1_total_0 : decode cX1_total 0 = .ok (.aload_n 0, 1) := by decide +kernel
theorem dX1_total_1 : decode cX1_total 1 = .ok (.invokevirtual 19, 3) := by decide +kernel
theorem dX1_total_4 : decode cX1_total 4 = .ok (.aload_n 0, 1) := by decide +kernel
theorem dX1_total_5 : decode cX1_total 5 = .ok (.invokevirtual 23, 3) := by decide +kernel
theorem dX1_total_8 : decode cX1_total 8 = .ok (.iadd, 1) := by decide +kernel
theorem dX1_total_9 : decode cX1_total 9 = .ok (.aload_n 0, 1) := by decide +kernel
theorem dX1_total_10 : decode cX1_total 10 = .ok (.invokevirtual 26, 3) := by decide +kernel
theorem dX1_total_13 : decode cX1_total 13 = .ok (.iadd, 1) := by decide +kernel
theorem dX1_total_14 : decode cX1_total 14 = .ok (.ireturn, 1) := by decide +kernel
theorem dX1_wages_0 : decode cX1_wages 0 = .ok (.iconst 0, 1) := by decide +kernel
theorem dX1_wages_1 : decode cX1_wages 1 = .ok (.istore_n 1, 1) := by decide +kernel
theorem dX1_wages_2 : decode cX1_wages 2 = .ok (.iconst 0, 1) := by decide +kernel
theorem dX1_wages_3 : decode cX1_wages 3 = .ok (.istore_n 2, 1) := by decide +kernel
theorem dX1_wages_4 : decode cX1_wages 4 = .ok (.iload_n 2, 1) := by decide +kernel
theorem dX1_wages_5 : decode cX1_wages 5 = .ok (.bipush 8, 2) := by decide +kernel
theorem dX1_wages_7 : decode cX1_wages 7 = .ok (.if_icmp .ge 39, 3) := by decide +kernel
theorem dX1_wages_10 : decode cX1_wages 10 = .ok (.aload_n 0, 1) := by decide +kernel
theorem dX1_wages_11 : decode cX1_wages 11 = .ok (.getfield 9, 3) := by decide +kernel
theorem dX1_wages_14 : decode cX1_wages 14 = .ok (.getfield 29, 3) := by decide +kernel
theorem dX1_wages_17 : decode cX1_wages 17 = .ok (.iload_n 2, 1) := by decide +kernel
theorem dX1_wages_18 : decode cX1_wages 18 = .ok (.iaload, 1) := by decide +kernel
theorem dX1_wages_19 : decode cX1_wages 19 = .ok (.ifCond .le 21, 3) := by decide +kernel
theorem dX1_wages_22 : decode cX1_wages 22 = .ok (.iload_n 1, 1) := by decide +kernel
theorem dX1_wages_23 : decode cX1_wages 23 = .ok (.aload_n 0, 1) := by decide +kernel
theorem dX1_wages_24 : decode cX1_wages 24 = .ok (.getfield 9, 3) := by decide +kernel
theorem dX1_wages_27 : decode cX1_wages 27 = .ok (.getfield 29, 3) := by decide +kernel
theorem dX1_wages_30 : decode cX1_wages 30 = .ok (.iload_n 2, 1) := by decide +kernel
theorem dX1_wages_31 : decode cX1_wages 31 = .ok (.iaload, 1) := by decide +kernel
theorem dX1_wages_32 : decode cX1_wages 32 = .ok (.aload_n 0, 1) := by decide +kernel
theorem dX1_wages_33 : decode cX1_wages 33 = .ok (.iload_n 2, 1) := by decide +kernel
theorem dX1_wages_34 : decode cX1_wages 34 = .ok (.invokevirtual 35, 3) := by decide +kernel
theorem dX1_wages_37 : decode cX1_wages 37 = .ok (.imul, 1) := by decide +kernel
theorem dX1_wages_38 : decode cX1_wages 38 = .ok (.iadd, 1) := by decide +kernel
theorem dX1_wages_39 : decode cX1_wages 39 = .ok (.istore_n 1, 1) := by decide +kernel
theorem dX1_wages_40 : decode cX1_wages 40 = .ok (.iinc 2 1, 3) := by decide +kernel
theorem dX1_wages_43 : decode cX1_wages 43 = .ok (.goto (-39), 3) := by decide +kernel
theorem dX1_wages_46 : decode cX1_wages 46 = .ok (.iload_n 1, 1) := by decide +kernel
theorem dX1_wages_47 : decode cX1_wages 47 = .ok (.ireturn, 1) := by decide +kernel
theorem dX1_paidDays_0 : decode cX1_paidDays 0 = .ok (.iconst 0, 1) := by decide +kernel
theorem dX1_paidDays_1 : decode cX1_paidDays 1 = .ok (.istore_n 2, 1) := by decide +kernel
theorem dX1_paidDays_2 : decode cX1_paidDays 2 = .ok (.iconst 0, 1) := by decide +kernel
theorem dX1_paidDays_3 : decode cX1_paidDays 3 = .ok (.istore_n 3, 1) := by decide +kernel
theorem dX1_paidDays_4 : decode cX1_paidDays 4 = .ok (.iconst 0, 1) := by decide +kernel
theorem dX1_paidDays_5 : decode cX1_paidDays 5 = .ok (.istore 4, 2) := by decide +kernel
theorem dX1_paidDays_7 : decode cX1_paidDays 7 = .ok (.iload 4, 2) := by decide +kernel
theorem dX1_paidDays_9 : decode cX1_paidDays 9 = .ok (.aload_n 0, 1) := by decide +kernel
theorem dX1_paidDays_10 : decode cX1_paidDays 10 = .ok (.getfield 15, 3) := by decide +kernel
theorem dX1_paidDays_13 : decode cX1_paidDays 13 = .ok (.getfield 39, 3) := by decide +kernel
theorem dX1_paidDays_16 : decode cX1_paidDays 16 = .ok (.if_icmp .ge 50, 3) := by decide +kernel
theorem dX1_paidDays_19 : decode cX1_paidDays 19 = .ok (.aload_n 0, 1) := by decide +kernel
theorem dX1_paidDays_20 : decode cX1_paidDays 20 = .ok (.getfield 15, 3) := by decide +kernel
theorem dX1_paidDays_23 : decode cX1_paidDays 23 = .ok (.iload_n 1, 1) := by decide +kernel
theorem dX1_paidDays_24 : decode cX1_paidDays 24 = .ok (.iload 4, 2) := by decide +kernel
theorem dX1_paidDays_26 : decode cX1_paidDays 26 = .ok (.invokevirtual 45, 3) := by decide +kernel
theorem dX1_paidDays_29 : decode cX1_paidDays 29 = .ok (.ifCond .ne 9, 3) := by decide +kernel
theorem dX1_paidDays_32 : decode cX1_paidDays 32 = .ok (.iinc 3 1, 3) := by decide +kernel
theorem dX1_paidDays_35 : decode cX1_paidDays 35 = .ok (.goto 25, 3) := by decide +kernel
theorem dX1_paidDays_38 : decode cX1_paidDays 38 = .ok (.iload_n 2, 1) := by decide +kernel
theorem dX1_paidDays_39 : decode cX1_paidDays 39 = .ok (.ifCond .le 16, 3) := by decide +kernel
theorem dX1_paidDays_42 : decode cX1_paidDays 42 = .ok (.aload_n 0, 1) := by decide +kernel
theorem dX1_paidDays_43 : decode cX1_paidDays 43 = .ok (.iload_n 1, 1) := by decide +kernel
theorem dX1_paidDays_44 : decode cX1_paidDays 44 = .ok (.iload_n 3, 1) := by decide +kernel
theorem dX1_paidDays_45 : decode cX1_paidDays 45 = .ok (.invokevirtual 49, 3) := by decide +kernel
theorem dX1_paidDays_48 : decode cX1_paidDays 48 = .ok (.ifCond .ne 7, 3) := by decide +kernel
theorem dX1_paidDays_51 : decode cX1_paidDays 51 = .ok (.iload_n 2, 1) := by decide +kernel
theorem dX1_paidDays_52 : decode cX1_paidDays 52 = .ok (.iload_n 3, 1) := by decide +kernel
theorem dX1_paidDays_53 : decode cX1_paidDays 53 = .ok (.iadd, 1) := by decide +kernel
theorem dX1_paidDays_54 : decode cX1_paidDays 54 = .ok (.istore_n 2, 1) := by decide +kernel
theorem dX1_paidDays_55 : decode cX1_paidDays 55 = .ok (.iinc 2 1, 3) := by decide +kernel
theorem dX1_paidDays_58 : decode cX1_paidDays 58 = .ok (.iconst 0, 1) := by decide +kernel
theorem dX1_paidDays_59 : decode cX1_paidDays 59 = .ok (.istore_n 3, 1) := by decide +kernel
theorem dX1_paidDays_60 : decode cX1_paidDays 60 = .ok (.iinc 4 1, 3) := by decide +kernel
theorem dX1_paidDays_63 : decode cX1_paidDays 63 = .ok (.goto (-56), 3) := by decide +kernel
theorem dX1_paidDays_66 : decode cX1_paidDays 66 = .ok (.iload_n 2, 1) := by decide +kernel
theorem dX1_paidDays_67 : decode cX1_paidDays 67 = .ok (.ireturn, 1) := by decide +kernel
theorem dX1_isLetGo_0 : decode cX1_isLetGo 0 = .ok (.aload_n 0, 1) := by decide +kernel
theorem dX1_isLetGo_1 : decode cX1_isLetGo 1 = .ok (.getfield 9, 3) := by decide +kernel
theorem dX1_isLetGo_4 : decode cX1_isLetGo 4 = .ok (.getfield 52, 3) := by decide +kernel
theorem dX1_isLetGo_7 : decode cX1_isLetGo 7 = .ok (.iload_n 1, 1) := by decide +kernel
theorem dX1_isLetGo_8 : decode cX1_isLetGo 8 = .ok (.iaload, 1) := by decide +kernel
theorem dX1_isLetGo_9 : decode cX1_isLetGo 9 = .ok (.ifCond .le 20, 3) := by decide +kernel
theorem dX1_isLetGo_12 : decode cX1_isLetGo 12 = .ok (.iload_n 2, 1) := by decide +kernel
theorem dX1_isLetGo_13 : decode cX1_isLetGo 13 = .ok (.aload_n 0, 1) := by decide +kernel
theorem dX1_isLetGo_14 : decode cX1_isLetGo 14 = .ok (.getfield 9, 3) := by decide +kernel
theorem dX1_isLetGo_17 : decode cX1_isLetGo 17 = .ok (.getfield 52, 3) := by decide +kernel
theorem dX1_isLetGo_20 : decode cX1_isLetGo 20 = .ok (.iload_n 1, 1) := by decide +kernel
theorem dX1_isLetGo_21 : decode cX1_isLetGo 21 = .ok (.iaload, 1) := by decide +kernel
theorem dX1_isLetGo_22 : decode cX1_isLetGo 22 = .ok (.if_icmp .lt 7, 3) := by decide +kernel
theorem dX1_isLetGo_25 : decode cX1_isLetGo 25 = .ok (.iconst 1, 1) := by decide +kernel
theorem dX1_isLetGo_26 : decode cX1_isLetGo 26 = .ok (.goto 4, 3) := by decide +kernel
theorem dX1_isLetGo_29 : decode cX1_isLetGo 29 = .ok (.iconst 0, 1) := by decide +kernel
theorem dX1_isLetGo_30 : decode cX1_isLetGo 30 = .ok (.ireturn, 1) := by decide +kernel
theorem dX1_rents_0 : decode cX1_rents 0 = .ok (.iconst 0, 1) := by decide +kernel
theorem dX1_rents_1 : decode cX1_rents 1 = .ok (.istore_n 1, 1) := by decide +kernel
theorem dX1_rents_2 : decode cX1_rents 2 = .ok (.iconst 0, 1) := by decide +kernel
theorem dX1_rents_3 : decode cX1_rents 3 = .ok (.istore_n 2, 1) := by decide +kernel
theorem dX1_rents_4 : decode cX1_rents 4 = .ok (.iload_n 2, 1) := by decide +kernel
theorem dX1_rents_5 : decode cX1_rents 5 = .ok (.aload_n 0, 1) := by decide +kernel
theorem dX1_rents_6 : decode cX1_rents 6 = .ok (.getfield 15, 3) := by decide +kernel
theorem dX1_rents_9 : decode cX1_rents 9 = .ok (.getfield 39, 3) := by decide +kernel
theorem dX1_rents_12 : decode cX1_rents 12 = .ok (.if_icmp .ge 28, 3) := by decide +kernel
theorem dX1_rents_15 : decode cX1_rents 15 = .ok (.iload_n 1, 1) := by decide +kernel
theorem dX1_rents_16 : decode cX1_rents 16 = .ok (.aload_n 0, 1) := by decide +kernel
theorem dX1_rents_17 : decode cX1_rents 17 = .ok (.aload_n 0, 1) := by decide +kernel
theorem dX1_rents_18 : decode cX1_rents 18 = .ok (.getfield 15, 3) := by decide +kernel
theorem dX1_rents_21 : decode cX1_rents 21 = .ok (.getfield 55, 3) := by decide +kernel
theorem dX1_rents_24 : decode cX1_rents 24 = .ok (.iload_n 2, 1) := by decide +kernel
theorem dX1_rents_25 : decode cX1_rents 25 = .ok (.aaload, 1) := by decide +kernel
theorem dX1_rents_26 : decode cX1_rents 26 = .ok (.getfield 59, 3) := by decide +kernel
theorem dX1_rents_29 : decode cX1_rents 29 = .ok (.invokevirtual 64, 3) := by decide +kernel
theorem dX1_rents_32 : decode cX1_rents 32 = .ok (.iadd, 1) := by decide +kernel
theorem dX1_rents_33 : decode cX1_rents 33 = .ok (.istore_n 1, 1) := by decide +kernel
theorem dX1_rents_34 : decode cX1_rents 34 = .ok (.iinc 2 1, 3) := by decide +kernel
theorem dX1_rents_37 : decode cX1_rents 37 = .ok (.goto (-33), 3) := by decide +kernel
theorem dX1_rents_40 : decode cX1_rents 40 = .ok (.iload_n 1, 1) := by decide +kernel
theorem dX1_rents_41 : decode cX1_rents 41 = .ok (.ireturn, 1) := by decide +kernel
theorem dX1_rentOf_0 : decode cX1_rentOf 0 = .ok (.iconst 0, 1) := by decide +kernel
theorem dX1_rentOf_1 : decode cX1_rentOf 1 = .ok (.istore_n 2, 1) := by decide +kernel
theorem dX1_rentOf_2 : decode cX1_rentOf 2 = .ok (.iconst 0, 1) := by decide +kernel
theorem dX1_rentOf_3 : decode cX1_rentOf 3 = .ok (.istore_n 3, 1) := by decide +kernel
theorem dX1_rentOf_4 : decode cX1_rentOf 4 = .ok (.iload_n 3, 1) := by decide +kernel
theorem dX1_rentOf_5 : decode cX1_rentOf 5 = .ok (.bipush 8, 2) := by decide +kernel
theorem dX1_rentOf_7 : decode cX1_rentOf 7 = .ok (.if_icmp .ge 29, 3) := by decide +kernel
theorem dX1_rentOf_10 : decode cX1_rentOf 10 = .ok (.iload_n 1, 1) := by decide +kernel
theorem dX1_rentOf_11 : decode cX1_rentOf 11 = .ok (.iload_n 3, 1) := by decide +kernel
theorem dX1_rentOf_12 : decode cX1_rentOf 12 = .ok (.invokestatic 67, 3) := by decide +kernel
theorem dX1_rentOf_15 : decode cX1_rentOf 15 = .ok (.ifCond .eq 15, 3) := by decide +kernel
theorem dX1_rentOf_18 : decode cX1_rentOf 18 = .ok (.iload_n 2, 1) := by decide +kernel
theorem dX1_rentOf_19 : decode cX1_rentOf 19 = .ok (.aload_n 0, 1) := by decide +kernel
theorem dX1_rentOf_20 : decode cX1_rentOf 20 = .ok (.getfield 9, 3) := by decide +kernel
theorem dX1_rentOf_23 : decode cX1_rentOf 23 = .ok (.getfield 70, 3) := by decide +kernel
theorem dX1_rentOf_26 : decode cX1_rentOf 26 = .ok (.iload_n 3, 1) := by decide +kernel
theorem dX1_rentOf_27 : decode cX1_rentOf 27 = .ok (.iaload, 1) := by decide +kernel
theorem dX1_rentOf_28 : decode cX1_rentOf 28 = .ok (.iadd, 1) := by decide +kernel
theorem dX1_rentOf_29 : decode cX1_rentOf 29 = .ok (.istore_n 2, 1) := by decide +kernel
theorem dX1_rentOf_30 : decode cX1_rentOf 30 = .ok (.iinc 3 1, 3) := by decide +kernel
theorem dX1_rentOf_33 : decode cX1_rentOf 33 = .ok (.goto (-29), 3) := by decide +kernel
theorem dX1_rentOf_36 : decode cX1_rentOf 36 = .ok (.iload_n 2, 1) := by decide +kernel
theorem dX1_rentOf_37 : decode cX1_rentOf 37 = .ok (.ireturn, 1) := by decide +kernel
theorem dX1_overtime_0 : decode cX1_overtime 0 = .ok (.iconst 0, 1) := by decide +kernel
theorem dX1_overtime_1 : decode cX1_overtime 1 = .ok (.istore_n 1, 1) := by decide +kernel
theorem dX1_overtime_2 : decode cX1_overtime 2 = .ok (.iconst 0, 1) := by decide +kernel
theorem dX1_overtime_3 : decode cX1_overtime 3 = .ok (.istore_n 2, 1) := by decide +kernel
theorem dX1_overtime_4 : decode cX1_overtime 4 = .ok (.iload_n 2, 1) := by decide +kernel
theorem dX1_overtime_5 : decode cX1_overtime 5 = .ok (.aload_n 0, 1) := by decide +kernel
theorem dX1_overtime_6 : decode cX1_overtime 6 = .ok (.getfield 15, 3) := by decide +kernel
theorem dX1_overtime_9 : decode cX1_overtime 9 = .ok (.getfield 39, 3) := by decide +kernel
theorem dX1_overtime_12 : decode cX1_overtime 12 = .ok (.if_icmp .ge 24, 3) := by decide +kernel
theorem dX1_overtime_15 : decode cX1_overtime 15 = .ok (.iload_n 1, 1) := by decide +kernel
theorem dX1_overtime_16 : decode cX1_overtime 16 = .ok (.aload_n 0, 1) := by decide +kernel
theorem dX1_overtime_17 : decode cX1_overtime 17 = .ok (.getfield 15, 3) := by decide +kernel
theorem dX1_overtime_20 : decode cX1_overtime 20 = .ok (.getfield 55, 3) := by decide +kernel
theorem dX1_overtime_23 : decode cX1_overtime 23 = .ok (.iload_n 2, 1) := by decide +kernel
theorem dX1_overtime_24 : decode cX1_overtime 24 = .ok (.aaload, 1) := by decide +kernel
theorem dX1_overtime_25 : decode cX1_overtime 25 = .ok (.invokevirtual 73, 3) := by decide +kernel
theorem dX1_overtime_28 : decode cX1_overtime 28 = .ok (.iadd, 1) := by decide +kernel
theorem dX1_overtime_29 : decode cX1_overtime 29 = .ok (.istore_n 1, 1) := by decide +kernel
theorem dX1_overtime_30 : decode cX1_overtime 30 = .ok (.iinc 2 1, 3) := by decide +kernel
theorem dX1_overtime_33 : decode cX1_overtime 33 = .ok (.goto (-29), 3) := by decide +kernel
theorem dX1_overtime_36 : decode cX1_overtime 36 = .ok (.iload_n 1, 1) := by decide +kernel
theorem dX1_overtime_37 : decode cX1_overtime 37 = .ok (.bipush 50, 2) := by decide +kernel
theorem dX1_overtime_39 : decode cX1_overtime 39 = .ok (.imul, 1) := by decide +kernel
theorem dX1_overtime_40 : decode cX1_overtime 40 = .ok (.ireturn, 1) := by decide +kernel
theorem dX1_leastPossible_0 : decode cX1_leastPossible 0 = .ok (.aload_n 0, 1) := by decide +kernel
theorem dX1_leastPossible_1 : decode cX1_leastPossible 1 = .ok (.getfield 15, 3) := by decide +kernel
theorem dX1_leastPossible_4 : decode cX1_leastPossible 4 = .ok (.invokevirtual 76, 3) := by decide +kernel
theorem dX1_leastPossible_7 : decode cX1_leastPossible 7 = .ok (.istore_n 1, 1) := by decide +kernel
theorem dX1_leastPossible_8 : decode cX1_leastPossible 8 = .ok (.iload_n 1, 1) := by decide +kernel
theorem dX1_leastPossible_9 : decode cX1_leastPossible 9 = .ok (.ifCond .gt 5, 3) := by decide +kernel
theorem dX1_leastPossible_12 : decode cX1_leastPossible 12 = .ok (.iconst 0, 1) := by decide +kernel
theorem dX1_leastPossible_13 : decode cX1_leastPossible 13 = .ok (.ireturn, 1) := by decide +kernel
theorem dX1_leastPossible_14 : decode cX1_leastPossible 14 = .ok (.iconst 0, 1) := by decide +kernel
theorem dX1_leastPossible_15 : decode cX1_leastPossible 15 = .ok (.istore_n 2, 1) := by decide +kernel
theorem dX1_leastPossible_16 : decode cX1_leastPossible 16 = .ok (.iconst 0, 1) := by decide +kernel
theorem dX1_leastPossible_17 : decode cX1_leastPossible 17 = .ok (.istore_n 3, 1) := by decide +kernel
theorem dX1_leastPossible_18 : decode cX1_leastPossible 18 = .ok (.iload_n 3, 1) := by decide +kernel
theorem dX1_leastPossible_19 : decode cX1_leastPossible 19 = .ok (.bipush 8, 2) := by decide +kernel
theorem dX1_leastPossible_21 : decode cX1_leastPossible 21 = .ok (.if_icmp .ge 37, 3) := by decide +kernel
theorem dX1_leastPossible_24 : decode cX1_leastPossible 24 = .ok (.aload_n 0, 1) := by decide +kernel
theorem dX1_leastPossible_25 : decode cX1_leastPossible 25 = .ok (.iload_n 3, 1) := by decide +kernel
theorem dX1_leastPossible_26 : decode cX1_leastPossible 26 = .ok (.invokevirtual 79, 3) := by decide +kernel
theorem dX1_leastPossible_29 : decode cX1_leastPossible 29 = .ok (.iload_n 1, 1) := by decide +kernel
theorem dX1_leastPossible_30 : decode cX1_leastPossible 30 = .ok (.iadd, 1) := by decide +kernel
theorem dX1_leastPossible_31 : decode cX1_leastPossible 31 = .ok (.iconst 1, 1) := by decide +kernel
theorem dX1_leastPossible_32 : decode cX1_leastPossible 32 = .ok (.isub, 1) := by decide +kernel
theorem dX1_leastPossible_33 : decode cX1_leastPossible 33 = .ok (.iload_n 1, 1) := by decide +kernel
theorem dX1_leastPossible_34 : decode cX1_leastPossible 34 = .ok (.idiv, 1) := by decide +kernel
theorem dX1_leastPossible_35 : decode cX1_leastPossible 35 = .ok (.istore 4, 2) := by decide +kernel
theorem dX1_leastPossible_37 : decode cX1_leastPossible 37 = .ok (.iload_n 2, 1) := by decide +kernel
theorem dX1_leastPossible_38 : decode cX1_leastPossible 38 = .ok (.aload_n 0, 1) := by decide +kernel
theorem dX1_leastPossible_39 : decode cX1_leastPossible 39 = .ok (.getfield 9, 3) := by decide +kernel
theorem dX1_leastPossible_42 : decode cX1_leastPossible 42 = .ok (.getfield 29, 3) := by decide +kernel
theorem dX1_leastPossible_45 : decode cX1_leastPossible 45 = .ok (.iload_n 3, 1) := by decide +kernel
theorem dX1_leastPossible_46 : decode cX1_leastPossible 46 = .ok (.iaload, 1) := by decide +kernel
theorem dX1_leastPossible_47 : decode cX1_leastPossible 47 = .ok (.iload 4, 2) := by decide +kernel
theorem dX1_leastPossible_49 : decode cX1_leastPossible 49 = .ok (.imul, 1) := by decide +kernel
theorem dX1_leastPossible_50 : decode cX1_leastPossible 50 = .ok (.iadd, 1) := by decide +kernel
theorem dX1_leastPossible_51 : decode cX1_leastPossible 51 = .ok (.istore_n 2, 1) := by decide +kernel
theorem dX1_leastPossible_52 : decode cX1_leastPossible 52 = .ok (.iinc 3 1, 3) := by decide +kernel
theorem dX1_leastPossible_55 : decode cX1_leastPossible 55 = .ok (.goto (-37), 3) := by decide +kernel
theorem dX1_leastPossible_58 : decode cX1_leastPossible 58 = .ok (.iload_n 2, 1) := by decide +kernel
theorem dX1_leastPossible_59 : decode cX1_leastPossible 59 = .ok (.aload_n 0, 1) := by decide +kernel
theorem dX1_leastPossible_60 : decode cX1_leastPossible 60 = .ok (.aload_n 0, 1) := by decide +kernel
theorem dX1_leastPossible_61 : decode cX1_leastPossible 61 = .ok (.invokevirtual 82, 3) := by decide +kernel
theorem dX1_leastPossible_64 : decode cX1_leastPossible 64 = .ok (.invokevirtual 64, 3) := by decide +kernel
theorem dX1_leastPossible_67 : decode cX1_leastPossible 67 = .ok (.iadd, 1) := by decide +kernel
theorem dX1_leastPossible_68 : decode cX1_leastPossible 68 = .ok (.ireturn, 1) := by decide +kernel
theorem dX1_minutesInRows_0 : decode cX1_minutesInRows 0 = .ok (.aload_n 0, 1) := by decide +kernel
theorem dX1_minutesInRows_1 : decode cX1_minutesInRows 1 = .ok (.getfield 15, 3) := by decide +kernel
theorem dX1_minutesInRows_4 : decode cX1_minutesInRows 4 = .ok (.invokevirtual 85, 3) := by decide +kernel
theorem dX1_minutesInRows_7 : decode cX1_minutesInRows 7 = .ok (.istore_n 2, 1) := by decide +kernel
theorem dX1_minutesInRows_8 : decode cX1_minutesInRows 8 = .ok (.iconst 0, 1) := by decide +kernel
theorem dX1_minutesInRows_9 : decode cX1_minutesInRows 9 = .ok (.istore_n 3, 1) := by decide +kernel
theorem dX1_minutesInRows_10 : decode cX1_minutesInRows 10 = .ok (.iconst 0, 1) := by decide +kernel
theorem dX1_minutesInRows_11 : decode cX1_minutesInRows 11 = .ok (.istore 4, 2) := by decide +kernel
theorem dX1_minutesInRows_13 : decode cX1_minutesInRows 13 = .ok (.iload 4, 2) := by decide +kernel
theorem dX1_minutesInRows_15 : decode cX1_minutesInRows 15 = .ok (.aload_n 0, 1) := by decide +kernel
theorem dX1_minutesInRows_16 : decode cX1_minutesInRows 16 = .ok (.getfield 9, 3) := by decide +kernel
theorem dX1_minutesInRows_19 : decode cX1_minutesInRows 19 = .ok (.getfield 88, 3) := by decide +kernel
theorem dX1_minutesInRows_22 : decode cX1_minutesInRows 22 = .ok (.if_icmp .ge 48, 3) := by decide +kernel
theorem dX1_minutesInRows_25 : decode cX1_minutesInRows 25 = .ok (.iload_n 2, 1) := by decide +kernel
theorem dX1_minutesInRows_26 : decode cX1_minutesInRows 26 = .ok (.iload 4, 2) := by decide +kernel
theorem dX1_minutesInRows_28 : decode cX1_minutesInRows 28 = .ok (.invokestatic 67, 3) := by decide +kernel
theorem dX1_minutesInRows_31 : decode cX1_minutesInRows 31 = .ok (.ifCond .eq 33, 3) := by decide +kernel
theorem dX1_minutesInRows_34 : decode cX1_minutesInRows 34 = .ok (.aload_n 0, 1) := by decide +kernel
theorem dX1_minutesInRows_35 : decode cX1_minutesInRows 35 = .ok (.getfield 9, 3) := by decide +kernel
theorem dX1_minutesInRows_38 : decode cX1_minutesInRows 38 = .ok (.getfield 91, 3) := by decide +kernel
theorem dX1_minutesInRows_41 : decode cX1_minutesInRows 41 = .ok (.iload 4, 2) := by decide +kernel
theorem dX1_minutesInRows_43 : decode cX1_minutesInRows 43 = .ok (.iaload, 1) := by decide +kernel
theorem dX1_minutesInRows_44 : decode cX1_minutesInRows 44 = .ok (.iload_n 1, 1) := by decide +kernel
theorem dX1_minutesInRows_45 : decode cX1_minutesInRows 45 = .ok (.invokestatic 67, 3) := by decide +kernel
theorem dX1_minutesInRows_48 : decode cX1_minutesInRows 48 = .ok (.ifCond .eq 16, 3) := by decide +kernel
theorem dX1_minutesInRows_51 : decode cX1_minutesInRows 51 = .ok (.iload_n 3, 1) := by decide +kernel
theorem dX1_minutesInRows_52 : decode cX1_minutesInRows 52 = .ok (.aload_n 0, 1) := by decide +kernel
theorem dX1_minutesInRows_53 : decode cX1_minutesInRows 53 = .ok (.getfield 9, 3) := by decide +kernel
theorem dX1_minutesInRows_56 : decode cX1_minutesInRows 56 = .ok (.getfield 94, 3) := by decide +kernel
theorem dX1_minutesInRows_59 : decode cX1_minutesInRows 59 = .ok (.iload 4, 2) := by decide +kernel
theorem dX1_minutesInRows_61 : decode cX1_minutesInRows 61 = .ok (.iaload, 1) := by decide +kernel
theorem dX1_minutesInRows_62 : decode cX1_minutesInRows 62 = .ok (.iadd, 1) := by decide +kernel
theorem dX1_minutesInRows_63 : decode cX1_minutesInRows 63 = .ok (.istore_n 3, 1) := by decide +kernel
theorem dX1_minutesInRows_64 : decode cX1_minutesInRows 64 = .ok (.iinc 4 1, 3) := by decide +kernel
theorem dX1_minutesInRows_67 : decode cX1_minutesInRows 67 = .ok (.goto (-54), 3) := by decide +kernel
theorem dX1_minutesInRows_70 : decode cX1_minutesInRows 70 = .ok (.iload_n 3, 1) := by decide +kernel
theorem dX1_minutesInRows_71 : decode cX1_minutesInRows 71 = .ok (.ireturn, 1) := by decide +kernel
theorem dX1_placesInRows_0 : decode cX1_placesInRows 0 = .ok (.iconst 0, 1) := by decide +kernel
theorem dX1_placesInRows_1 : decode cX1_placesInRows 1 = .ok (.istore_n 1, 1) := by decide +kernel
theorem dX1_placesInRows_2 : decode cX1_placesInRows 2 = .ok (.iconst 0, 1) := by decide +kernel
theorem dX1_placesInRows_3 : decode cX1_placesInRows 3 = .ok (.istore_n 2, 1) := by decide +kernel
theorem dX1_placesInRows_4 : decode cX1_placesInRows 4 = .ok (.iload_n 2, 1) := by decide +kernel
theorem dX1_placesInRows_5 : decode cX1_placesInRows 5 = .ok (.aload_n 0, 1) := by decide +kernel
theorem dX1_placesInRows_6 : decode cX1_placesInRows 6 = .ok (.getfield 15, 3) := by decide +kernel
theorem dX1_placesInRows_9 : decode cX1_placesInRows 9 = .ok (.getfield 39, 3) := by decide +kernel
theorem dX1_placesInRows_12 : decode cX1_placesInRows 12 = .ok (.if_icmp .ge 24, 3) := by decide +kernel
theorem dX1_placesInRows_15 : decode cX1_placesInRows 15 = .ok (.iload_n 1, 1) := by decide +kernel
theorem dX1_placesInRows_16 : decode cX1_placesInRows 16 = .ok (.aload_n 0, 1) := by decide +kernel
theorem dX1_placesInRows_17 : decode cX1_placesInRows 17 = .ok (.getfield 15, 3) := by decide +kernel
theorem dX1_placesInRows_20 : decode cX1_placesInRows 20 = .ok (.getfield 55, 3) := by decide +kernel
theorem dX1_placesInRows_23 : decode cX1_placesInRows 23 = .ok (.iload_n 2, 1) := by decide +kernel
theorem dX1_placesInRows_24 : decode cX1_placesInRows 24 = .ok (.aaload, 1) := by decide +kernel
theorem dX1_placesInRows_25 : decode cX1_placesInRows 25 = .ok (.getfield 59, 3) := by decide +kernel
theorem dX1_placesInRows_28 : decode cX1_placesInRows 28 = .ok (.ior, 1) := by decide +kernel
theorem dX1_placesInRows_29 : decode cX1_placesInRows 29 = .ok (.istore_n 1, 1) := by decide +kernel
theorem dX1_placesInRows_30 : decode cX1_placesInRows 30 = .ok (.iinc 2 1, 3) := by decide +kernel
theorem dX1_placesInRows_33 : decode cX1_placesInRows 33 = .ok (.goto (-29), 3) := by decide +kernel
theorem dX1_placesInRows_36 : decode cX1_placesInRows 36 = .ok (.iload_n 1, 1) := by decide +kernel
theorem dX1_placesInRows_37 : decode cX1_placesInRows 37 = .ok (.ireturn, 1) := by decide +kernel
theorem dX2_init_0 : decode cX2_init 0 = .ok (.aload_n 0, 1) := by decide +kernel
theorem dX2_init_1 : decode cX2_init 1 = .ok (.invokespecial 3, 3) := by decide +kernel
theorem dX2_init_4 : decode cX2_init 4 = .ok (.aload_n 0, 1) := by decide +kernel
theorem dX2_init_5 : decode cX2_init 5 = .ok (.bipush 20, 2) := by decide +kernel
theorem dX2_init_7 : decode cX2_init 7 = .ok (.newarray .int, 2) := by decide +kernel
theorem dX2_init_9 : decode cX2_init 9 = .ok (.putfield 9, 3) := by decide +kernel
theorem dX2_init_12 : decode cX2_init 12 = .ok (.aload_n 0, 1) := by decide +kernel
theorem dX2_init_13 : decode cX2_init 13 = .ok (.bipush 20, 2) := by decide +kernel
theorem dX2_init_15 : decode cX2_init 15 = .ok (.newarray .int, 2) := by decide +kernel
theorem dX2_init_17 : decode cX2_init 17 = .ok (.putfield 15, 3) := by decide +kernel
theorem dX2_init_20 : decode cX2_init 20 = .ok (.aload_n 0, 1) := by decide +kernel
theorem dX2_init_21 : decode cX2_init 21 = .ok (.bipush 20, 2) := by decide +kernel
theorem dX2_init_23 : decode cX2_init 23 = .ok (.newarray .int, 2) := by decide +kernel
theorem dX2_init_25 : decode cX2_init 25 = .ok (.putfield 18, 3) := by decide +kernel
theorem dX2_init_28 : decode cX2_init 28 = .ok (.aload_n 0, 1) := by decide +kernel
theorem dX2_init_29 : decode cX2_init 29 = .ok (.bipush 20, 2) := by decide +kernel
theorem dX2_init_31 : decode cX2_init 31 = .ok (.newarray .int, 2) := by decide +kernel
theorem dX2_init_33 : decode cX2_init 33 = .ok (.putfield 21, 3) := by decide +kernel
theorem dX2_init_36 : decode cX2_init 36 = .ok (.aload_n 0, 1) := by decide +kernel
theorem dX2_init_37 : decode cX2_init 37 = .ok (.bipush 20, 2) := by decide +kernel
theorem dX2_init_39 : decode cX2_init 39 = .ok (.newarray .int, 2) := by decide +kernel
theorem dX2_init_41 : decode cX2_init 41 = .ok (.putfield 24, 3) := by decide +kernel
theorem dX2_init_44 : decode cX2_init 44 = .ok (.aload_n 0, 1) := by decide +kernel
theorem dX2_init_45 : decode cX2_init 45 = .ok (.bipush 20, 2) := by decide +kernel
theorem dX2_init_47 : decode cX2_init 47 = .ok (.newarray .int, 2) := by decide +kernel
theorem dX2_init_49 : decode cX2_init 49 = .ok (.putfield 27, 3) := by decide +kernel
theorem dX2_init_52 : decode cX2_init 52 = .ok (.aload_n 0, 1) := by decide +kernel
theorem dX2_init_53 : decode cX2_init 53 = .ok (.bipush 8, 2) := by decide +kernel
theorem dX2_init_55 : decode cX2_init 55 = .ok (.newarray .int, 2) := by decide +kernel
theorem dX2_init_57 : decode cX2_init 57 = .ok (.putfield 30, 3) := by decide +kernel
theorem dX2_init_60 : decode cX2_init 60 = .ok (.aload_n 0, 1) := by decide +kernel
theorem dX2_init_61 : decode cX2_init 61 = .ok (.bipush 8, 2) := by decide +kernel
theorem dX2_init_63 : decode cX2_init 63 = .ok (.newarray .int, 2) := by decide +kernel
theorem dX2_init_65 : decode cX2_init 65 = .ok (.putfield 33, 3) := by decide +kernel
theorem dX2_init_68 : decode cX2_init 68 = .ok (.aload_n 0, 1) := by decide +kernel
theorem dX2_init_69 : decode cX2_init 69 = .ok (.bipush 8, 2) := by decide +kernel
theorem dX2_init_71 : decode cX2_init 71 = .ok (.newarray .int, 2) := by decide +kernel
theorem dX2_init_73 : decode cX2_init 73 = .ok (.putfield 36, 3) := by decide +kernel
theorem dX2_init_76 : decode cX2_init 76 = .ok (.aload_n 0, 1) := by decide +kernel
theorem dX2_init_77 : decode cX2_init 77 = .ok (.bipush 8, 2) := by decide +kernel
theorem dX2_init_79 : decode cX2_init 79 = .ok (.newarray .int, 2) := by decide +kernel
theorem dX2_init_81 : decode cX2_init 81 = .ok (.putfield 39, 3) := by decide +kernel
theorem dX2_init_84 : decode cX2_init 84 = .ok (.return_, 1) := by decide +kernel
theorem dX2_addScene_0 : decode cX2_addScene 0 = .ok (.aload_n 0, 1) := by decide +kernel
theorem dX2_addScene_1 : decode cX2_addScene 1 = .ok (.getfield 42, 3) := by decide +kernel
theorem dX2_addScene_4 : decode cX2_addScene 4 = .ok (.istore 6, 2) := by decide +kernel
theorem dX2_addScene_6 : decode cX2_addScene 6 = .ok (.iload 6, 2) := by decide +kernel
theorem dX2_addScene_8 : decode cX2_addScene 8 = .ok (.bipush 20, 2) := by decide +kernel
theorem dX2_addScene_10 : decode cX2_addScene 10 = .ok (.if_icmp .lt 6, 3) := by decide +kernel
theorem dX2_addScene_13 : decode cX2_addScene 13 = .ok (.bipush (-4), 2) := by decide +kernel
theorem dX2_addScene_15 : decode cX2_addScene 15 = .ok (.ireturn, 1) := by decide +kernel
theorem dX2_addScene_16 : decode cX2_addScene 16 = .ok (.aload_n 0, 1) := by decide +kernel
theorem dX2_addScene_17 : decode cX2_addScene 17 = .ok (.getfield 9, 3) := by decide +kernel
theorem dX2_addScene_20 : decode cX2_addScene 20 = .ok (.iload 6, 2) := by decide +kernel
theorem dX2_addScene_22 : decode cX2_addScene 22 = .ok (.iload_n 1, 1) := by decide +kernel
theorem dX2_addScene_23 : decode cX2_addScene 23 = .ok (.iastore, 1) := by decide +kernel
theorem dX2_addScene_24 : decode cX2_addScene 24 = .ok (.aload_n 0, 1) := by decide +kernel
theorem dX2_addScene_25 : decode cX2_addScene 25 = .ok (.getfield 15, 3) := by decide +kernel
theorem dX2_addScene_28 : decode cX2_addScene 28 = .ok (.iload 6, 2) := by decide +kernel
theorem dX2_addScene_30 : decode cX2_addScene 30 = .ok (.iload_n 2, 1) := by decide +kernel
theorem dX2_addScene_31 : decode cX2_addScene 31 = .ok (.iastore, 1) := by decide +kernel
theorem dX2_addScene_32 : decode cX2_addScene 32 = .ok (.aload_n 0, 1) := by decide +kernel
theorem dX2_addScene_33 : decode cX2_addScene 33 = .ok (.getfield 18, 3) := by decide +kernel
theorem dX2_addScene_36 : decode cX2_addScene 36 = .ok (.iload 6, 2) := by decide +kernel
theorem dX2_addScene_38 : decode cX2_addScene 38 = .ok (.iload_n 3, 1) := by decide +kernel
theorem dX2_addScene_39 : decode cX2_addScene 39 = .ok (.iastore, 1) := by decide +kernel
theorem dX2_addScene_40 : decode cX2_addScene 40 = .ok (.aload_n 0, 1) := by decide +kernel
theorem dX2_addScene_41 : decode cX2_addScene 41 = .ok (.getfield 21, 3) := by decide +kernel
theorem dX2_addScene_44 : decode cX2_addScene 44 = .ok (.iload 6, 2) := by decide +kernel
theorem dX2_addScene_46 : decode cX2_addScene 46 = .ok (.iload 4, 2) := by decide +kernel
theorem dX2_addScene_48 : decode cX2_addScene 48 = .ok (.iastore, 1) := by decide +kernel
theorem dX2_addScene_49 : decode cX2_addScene 49 = .ok (.aload_n 0, 1) := by decide +kernel
theorem dX2_addScene_50 : decode cX2_addScene 50 = .ok (.getfield 24, 3) := by decide +kernel
theorem dX2_addScene_53 : decode cX2_addScene 53 = .ok (.iload 6, 2) := by decide +kernel
theorem dX2_addScene_55 : decode cX2_addScene 55 = .ok (.iload 5, 2) := by decide +kernel
theorem dX2_addScene_57 : decode cX2_addScene 57 = .ok (.iastore, 1) := by decide +kernel
theorem dX2_addScene_58 : decode cX2_addScene 58 = .ok (.aload_n 0, 1) := by decide +kernel
theorem dX2_addScene_59 : decode cX2_addScene 59 = .ok (.dup, 1) := by decide +kernel
theorem dX2_addScene_60 : decode cX2_addScene 60 = .ok (.getfield 42, 3) := by decide +kernel
theorem dX2_addScene_63 : decode cX2_addScene 63 = .ok (.iconst 1, 1) := by decide +kernel
theorem dX2_addScene_64 : decode cX2_addScene 64 = .ok (.iadd, 1) := by decide +kernel
theorem dX2_addScene_65 : decode cX2_addScene 65 = .ok (.putfield 42, 3) := by decide +kernel
theorem dX2_addScene_68 : decode cX2_addScene 68 = .ok (.iload 6, 2) := by decide +kernel
theorem dX2_addScene_70 : decode cX2_addScene 70 = .ok (.ireturn, 1) := by decide +kernel
theorem dX2_hasScene_0 : decode cX2_hasScene 0 = .ok (.iload_n 1, 1) := by decide +kernel
theorem dX2_hasScene_1 : decode cX2_hasScene 1 = .ok (.ifCond .lt 15, 3) := by decide +kernel
theorem dX2_hasScene_4 : decode cX2_hasScene 4 = .ok (.iload_n 1, 1) := by decide +kernel
theorem dX2_hasScene_5 : decode cX2_hasScene 5 = .ok (.aload_n 0, 1) := by decide +kernel
theorem dX2_hasScene_6 : decode cX2_hasScene 6 = .ok (.getfield 42, 3) := by decide +kernel
theorem dX2_hasScene_9 : decode cX2_hasScene 9 = .ok (.if_icmp .ge 7, 3) := by decide +kernel
theorem dX2_hasScene_12 : decode cX2_hasScene 12 = .ok (.iconst 1, 1) := by decide +kernel
theorem dX2_hasScene_13 : decode cX2_hasScene 13 = .ok (.goto 4, 3) := by decide +kernel
theorem dX2_hasScene_16 : decode cX2_hasScene 16 = .ok (.iconst 0, 1) := by decide +kernel
theorem dX2_hasScene_17 : decode cX2_hasScene 17 = .ok (.ireturn, 1) := by decide +kernel
theorem dX2_way_0 : decode cX2_way 0 = .ok (.aload_n 0, 1) := by decide +kernel
theorem dX2_way_1 : decode cX2_way 1 = .ok (.getfield 39, 3) := by decide +kernel
theorem dX2_way_4 : decode cX2_way 4 = .ok (.aload_n 0, 1) := by decide +kernel
theorem dX2_way_5 : decode cX2_way 5 = .ok (.getfield 15, 3) := by decide +kernel
theorem dX2_way_8 : decode cX2_way 8 = .ok (.iload_n 2, 1) := by decide +kernel
theorem dX2_way_9 : decode cX2_way 9 = .ok (.iaload, 1) := by decide +kernel
theorem dX2_way_10 : decode cX2_way 10 = .ok (.iaload, 1) := by decide +kernel
theorem dX2_way_11 : decode cX2_way 11 = .ok (.aload_n 0, 1) := by decide +kernel
theorem dX2_way_12 : decode cX2_way 12 = .ok (.getfield 39, 3) := by decide +kernel
theorem dX2_way_15 : decode cX2_way 15 = .ok (.aload_n 0, 1) := by decide +kernel
theorem dX2_way_16 : decode cX2_way 16 = .ok (.getfield 15, 3) := by decide +kernel
theorem dX2_way_19 : decode cX2_way 19 = .ok (.iload_n 1, 1) := by decide +kernel
theorem dX2_way_20 : decode cX2_way 20 = .ok (.iaload, 1) := by decide +kernel
theorem dX2_way_21 : decode cX2_way 21 = .ok (.iaload, 1) := by decide +kernel
theorem dX2_way_22 : decode cX2_way 22 = .ok (.isub, 1) := by decide +kernel
theorem dX2_way_23 : decode cX2_way 23 = .ok (.istore_n 3, 1) := by decide +kernel
theorem dX2_way_24 : decode cX2_way 24 = .ok (.iload_n 3, 1) := by decide +kernel
theorem dX2_way_25 : decode cX2_way 25 = .ok (.ifCond .ge 8, 3) := by decide +kernel
theorem dX2_way_28 : decode cX2_way 28 = .ok (.iload_n 3, 1) := by decide +kernel
theorem dX2_way_29 : decode cX2_way 29 = .ok (.ineg, 1) := by decide +kernel
theorem dX2_way_30 : decode cX2_way 30 = .ok (.goto 4, 3) := by decide +kernel
theorem dX2_way_33 : decode cX2_way 33 = .ok (.iload_n 3, 1) := by decide +kernel
theorem dX2_way_34 : decode cX2_way 34 = .ok (.ireturn, 1) := by decide +kernel
theorem dX2_needsByOthersToo_0 : decode cX2_needsByOthersToo 0 = .ok (.aload_n 0, 1) := by decide +kernel
theorem dX2_needsByOthersToo_1 : decode cX2_needsByOthersToo 1 = .ok (.getfield 27, 3) := by decide +kernel
theorem dX2_needsByOthersToo_4 : decode cX2_needsByOthersToo 4 = .ok (.iload_n 1, 1) := by decide +kernel
theorem dX2_needsByOthersToo_5 : decode cX2_needsByOthersToo 5 = .ok (.iaload, 1) := by decide +kernel
theorem dX2_needsByOthersToo_6 : decode cX2_needsByOthersToo 6 = .ok (.istore_n 2, 1) := by decide +kernel
theorem dX2_needsByOthersToo_7 : decode cX2_needsByOthersToo 7 = .ok (.iconst 0, 1) := by decide +kernel
theorem dX2_needsByOthersToo_8 : decode cX2_needsByOthersToo 8 = .ok (.istore_n 3, 1) := by decide +kernel
theorem dX2_needsByOthersToo_9 : decode cX2_needsByOthersToo 9 = .ok (.iload_n 3, 1) := by decide +kernel
theorem dX2_needsByOthersToo_10 : decode cX2_needsByOthersToo 10 = .ok (.aload_n 0, 1) := by decide +kernel
theorem dX2_needsByOthersToo_11 : decode cX2_needsByOthersToo 11 = .ok (.getfield 42, 3) := by decide +kernel
theorem dX2_needsByOthersToo_14 : decode cX2_needsByOthersToo 14 = .ok (.if_icmp .ge 17, 3) := by decide +kernel
theorem dX2_needsByOthersToo_17 : decode cX2_needsByOthersToo 17 = .ok (.iload_n 2, 1) := by decide +kernel
theorem dX2_needsByOthersToo_18 : decode cX2_needsByOthersToo 18 = .ok (.aload_n 0, 1) := by decide +kernel
theorem dX2_needsByOthersToo_19 : decode cX2_needsByOthersToo 19 = .ok (.iload_n 2, 1) := by decide +kernel
theorem dX2_needsByOthersToo_20 : decode cX2_needsByOthersToo 20 = .ok (.invokevirtual 46, 3) := by decide +kernel
theorem dX2_needsByOthersToo_23 : decode cX2_needsByOthersToo 23 = .ok (.ior, 1) := by decide +kernel
theorem dX2_needsByOthersToo_24 : decode cX2_needsByOthersToo 24 = .ok (.istore_n 2, 1) := by decide +kernel
theorem dX2_needsByOthersToo_25 : decode cX2_needsByOthersToo 25 = .ok (.iinc 3 1, 3) := by decide +kernel
theorem dX2_needsByOthersToo_28 : decode cX2_needsByOthersToo 28 = .ok (.goto (-19), 3) := by decide +kernel
theorem dX2_needsByOthersToo_31 : decode cX2_needsByOthersToo 31 = .ok (.iload_n 2, 1) := by decide +kernel
theorem dX2_needsByOthersToo_32 : decode cX2_needsByOthersToo 32 = .ok (.ireturn, 1) := by decide +kernel
theorem dX2_needsOfAll_0 : decode cX2_needsOfAll 0 = .ok (.iconst 0, 1) := by decide +kernel
theorem dX2_needsOfAll_1 : decode cX2_needsOfAll 1 = .ok (.istore_n 2, 1) := by decide +kernel
theorem dX2_needsOfAll_2 : decode cX2_needsOfAll 2 = .ok (.iconst 0, 1) := by decide +kernel
theorem dX2_needsOfAll_3 : decode cX2_needsOfAll 3 = .ok (.istore_n 3, 1) := by decide +kernel
theorem dX2_needsOfAll_4 : decode cX2_needsOfAll 4 = .ok (.iload_n 3, 1) := by decide +kernel
theorem dX2_needsOfAll_5 : decode cX2_needsOfAll 5 = .ok (.aload_n 0, 1) := by decide +kernel
theorem dX2_needsOfAll_6 : decode cX2_needsOfAll 6 = .ok (.getfield 42, 3) := by decide +kernel
theorem dX2_needsOfAll_9 : decode cX2_needsOfAll 9 = .ok (.if_icmp .ge 26, 3) := by decide +kernel
theorem dX2_needsOfAll_12 : decode cX2_needsOfAll 12 = .ok (.iload_n 1, 1) := by decide +kernel
theorem dX2_needsOfAll_13 : decode cX2_needsOfAll 13 = .ok (.iload_n 3, 1) := by decide +kernel
theorem dX2_needsOfAll_14 : decode cX2_needsOfAll 14 = .ok (.invokestatic 50, 3) := by decide +kernel
theorem dX2_needsOfAll_17 : decode cX2_needsOfAll 17 = .ok (.ifCond .eq 12, 3) := by decide +kernel
theorem dX2_needsOfAll_20 : decode cX2_needsOfAll 20 = .ok (.iload_n 2, 1) := by decide +kernel
theorem dX2_needsOfAll_21 : decode cX2_needsOfAll 21 = .ok (.aload_n 0, 1) := by decide +kernel
theorem dX2_needsOfAll_22 : decode cX2_needsOfAll 22 = .ok (.getfield 27, 3) := by decide +kernel
theorem dX2_needsOfAll_25 : decode cX2_needsOfAll 25 = .ok (.iload_n 3, 1) := by decide +kernel
theorem dX2_needsOfAll_26 : decode cX2_needsOfAll 26 = .ok (.iaload, 1) := by decide +kernel
theorem dX2_needsOfAll_27 : decode cX2_needsOfAll 27 = .ok (.ior, 1) := by decide +kernel
theorem dX2_needsOfAll_28 : decode cX2_needsOfAll 28 = .ok (.istore_n 2, 1) := by decide +kernel
theorem dX2_needsOfAll_29 : decode cX2_needsOfAll 29 = .ok (.iinc 3 1, 3) := by decide +kernel
theorem dX2_needsOfAll_32 : decode cX2_needsOfAll 32 = .ok (.goto (-28), 3) := by decide +kernel
theorem dX2_needsOfAll_35 : decode cX2_needsOfAll 35 = .ok (.iload_n 2, 1) := by decide +kernel
theorem dX2_needsOfAll_36 : decode cX2_needsOfAll 36 = .ok (.ireturn, 1) := by decide +kernel
theorem dX2_scenesAheadOfSome_0 : decode cX2_scenesAheadOfSome 0 = .ok (.iconst 0, 1) := by decide +kernel
theorem dX2_scenesAheadOfSome_1 : decode cX2_scenesAheadOfSome 1 = .ok (.istore_n 1, 1) := by decide +kernel
theorem dX2_scenesAheadOfSome_2 : decode cX2_scenesAheadOfSome 2 = .ok (.iconst 0, 1) := by decide +kernel
theorem dX2_scenesAheadOfSome_3 : decode cX2_scenesAheadOfSome 3 = .ok (.istore_n 2, 1) := by decide +kernel
theorem dX2_scenesAheadOfSome_4 : decode cX2_scenesAheadOfSome 4 = .ok (.iload_n 2, 1) := by decide +kernel
theorem dX2_scenesAheadOfSome_5 : decode cX2_scenesAheadOfSome 5 = .ok (.aload_n 0, 1) := by decide +kernel
theorem dX2_scenesAheadOfSome_6 : decode cX2_scenesAheadOfSome 6 = .ok (.getfield 42, 3) := by decide +kernel
theorem dX2_scenesAheadOfSome_9 : decode cX2_scenesAheadOfSome 9 = .ok (.if_icmp .ge 18, 3) := by decide +kernel
theorem dX2_scenesAheadOfSome_12 : decode cX2_scenesAheadOfSome 12 = .ok (.iload_n 1, 1) := by decide +kernel
theorem dX2_scenesAheadOfSome_13 : decode cX2_scenesAheadOfSome 13 = .ok (.aload_n 0, 1) := by decide +kernel
theorem dX2_scenesAheadOfSome_14 : decode cX2_scenesAheadOfSome 14 = .ok (.getfield 27, 3) := by decide +kernel
theorem dX2_scenesAheadOfSome_17 : decode cX2_scenesAheadOfSome 17 = .ok (.iload_n 2, 1) := by decide +kernel
theorem dX2_scenesAheadOfSome_18 : decode cX2_scenesAheadOfSome 18 = .ok (.iaload, 1) := by decide +kernel
theorem dX2_scenesAheadOfSome_19 : decode cX2_scenesAheadOfSome 19 = .ok (.ior, 1) := by decide +kernel
theorem dX2_scenesAheadOfSome_20 : decode cX2_scenesAheadOfSome 20 = .ok (.istore_n 1, 1) := by decide +kernel
theorem dX2_scenesAheadOfSome_21 : decode cX2_scenesAheadOfSome 21 = .ok (.iinc 2 1, 3) := by decide +kernel
theorem dX2_scenesAheadOfSome_24 : decode cX2_scenesAheadOfSome 24 = .ok (.goto (-20), 3) := by decide +kernel
theorem dX2_scenesAheadOfSome_27 : decode cX2_scenesAheadOfSome 27 = .ok (.iload_n 1, 1) := by decide +kernel
theorem dX2_scenesAheadOfSome_28 : decode cX2_scenesAheadOfSome 28 = .ok (.ireturn, 1) := by decide +kernel
theorem dX3_init_0 : decode cX3_init 0 = .ok (.aload_n 0, 1) := by decide +kernel
theorem dX3_init_1 : decode cX3_init 1 = .ok (.invokespecial 3, 3) := by decide +kernel
theorem dX3_init_4 : decode cX3_init 4 = .ok (.aload_n 0, 1) := by decide +kernel
theorem dX3_init_5 : decode cX3_init 5 = .ok (.bipush 10, 2) := by decide +kernel
theorem dX3_init_7 : decode cX3_init 7 = .ok (.anewarray 9, 3) := by decide +kernel
theorem dX3_init_10 : decode cX3_init 10 = .ok (.putfield 11, 3) := by decide +kernel
theorem dX3_init_13 : decode cX3_init 13 = .ok (.aload_n 0, 1) := by decide +kernel
theorem dX3_init_14 : decode cX3_init 14 = .ok (.bipush 8, 2) := by decide +kernel
theorem dX3_init_16 : decode cX3_init 16 = .ok (.newarray .int, 2) := by decide +kernel
theorem dX3_init_18 : decode cX3_init 18 = .ok (.putfield 17, 3) := by decide +kernel
theorem dX3_init_21 : decode cX3_init 21 = .ok (.aload_n 0, 1) := by decide +kernel
theorem dX3_init_22 : decode cX3_init 22 = .ok (.bipush 8, 2) := by decide +kernel
theorem dX3_init_24 : decode cX3_init 24 = .ok (.newarray .int, 2) := by decide +kernel
theorem dX3_init_26 : decode cX3_init 26 = .ok (.putfield 21, 3) := by decide +kernel
theorem dX3_init_29 : decode cX3_init 29 = .ok (.aload_n 0, 1) := by decide +kernel
theorem dX3_init_30 : decode cX3_init 30 = .ok (.aload_n 1, 1) := by decide +kernel
theorem dX3_init_31 : decode cX3_init 31 = .ok (.putfield 24, 3) := by decide +kernel
theorem dX3_init_34 : decode cX3_init 34 = .ok (.iconst 0, 1) := by decide +kernel
theorem dX3_init_35 : decode cX3_init 35 = .ok (.istore_n 2, 1) := by decide +kernel
theorem dX3_init_36 : decode cX3_init 36 = .ok (.iload_n 2, 1) := by decide +kernel
theorem dX3_init_37 : decode cX3_init 37 = .ok (.aload_n 0, 1) := by decide +kernel
theorem dX3_init_38 : decode cX3_init 38 = .ok (.getfield 11, 3) := by decide +kernel
theorem dX3_init_41 : decode cX3_init 41 = .ok (.arraylength, 1) := by decide +kernel
theorem dX3_init_42 : decode cX3_init 42 = .ok (.if_icmp .ge 22, 3) := by decide +kernel
theorem dX3_init_45 : decode cX3_init 45 = .ok (.aload_n 0, 1) := by decide +kernel
theorem dX3_init_46 : decode cX3_init 46 = .ok (.getfield 11, 3) := by decide +kernel
theorem dX3_init_49 : decode cX3_init 49 = .ok (.iload_n 2, 1) := by decide +kernel
theorem dX3_init_50 : decode cX3_init 50 = .ok (.new 9, 3) := by decide +kernel
theorem dX3_init_53 : decode cX3_init 53 = .ok (.dup, 1) := by decide +kernel
theorem dX3_init_54 : decode cX3_init 54 = .ok (.invokespecial 28, 3) := by decide +kernel
theorem dX3_init_57 : decode cX3_init 57 = .ok (.aastore, 1) := by decide +kernel
theorem dX3_init_58 : decode cX3_init 58 = .ok (.iinc 2 1, 3) := by decide +kernel
theorem dX3_init_61 : decode cX3_init 61 = .ok (.goto (-25), 3) := by decide +kernel
theorem dX3_init_64 : decode cX3_init 64 = .ok (.return_, 1) := by decide +kernel
theorem dX3_addDay_0 : decode cX3_addDay 0 = .ok (.aload_n 0, 1) := by decide +kernel
theorem dX3_addDay_1 : decode cX3_addDay 1 = .ok (.getfield 29, 3) := by decide +kernel
theorem dX3_addDay_4 : decode cX3_addDay 4 = .ok (.istore_n 3, 1) := by decide +kernel
theorem dX3_addDay_5 : decode cX3_addDay 5 = .ok (.iload_n 3, 1) := by decide +kernel
theorem dX3_addDay_6 : decode cX3_addDay 6 = .ok (.bipush 8, 2) := by decide +kernel
theorem dX3_addDay_8 : decode cX3_addDay 8 = .ok (.if_icmp .lt 6, 3) := by decide +kernel
theorem dX3_addDay_11 : decode cX3_addDay 11 = .ok (.bipush (-4), 2) := by decide +kernel
theorem dX3_addDay_13 : decode cX3_addDay 13 = .ok (.ireturn, 1) := by decide +kernel
theorem dX3_addDay_14 : decode cX3_addDay 14 = .ok (.aload_n 0, 1) := by decide +kernel
theorem dX3_addDay_15 : decode cX3_addDay 15 = .ok (.getfield 17, 3) := by decide +kernel
theorem dX3_addDay_18 : decode cX3_addDay 18 = .ok (.iload_n 3, 1) := by decide +kernel
theorem dX3_addDay_19 : decode cX3_addDay 19 = .ok (.iload_n 1, 1) := by decide +kernel
theorem dX3_addDay_20 : decode cX3_addDay 20 = .ok (.iastore, 1) := by decide +kernel
theorem dX3_addDay_21 : decode cX3_addDay 21 = .ok (.aload_n 0, 1) := by decide +kernel
theorem dX3_addDay_22 : decode cX3_addDay 22 = .ok (.getfield 21, 3) := by decide +kernel
theorem dX3_addDay_25 : decode cX3_addDay 25 = .ok (.iload_n 3, 1) := by decide +kernel
theorem dX3_addDay_26 : decode cX3_addDay 26 = .ok (.iload_n 2, 1) := by decide +kernel
theorem dX3_addDay_27 : decode cX3_addDay 27 = .ok (.iastore, 1) := by decide +kernel
theorem dX3_addDay_28 : decode cX3_addDay 28 = .ok (.aload_n 0, 1) := by decide +kernel
theorem dX3_addDay_29 : decode cX3_addDay 29 = .ok (.dup, 1) := by decide +kernel
theorem dX3_addDay_30 : decode cX3_addDay 30 = .ok (.getfield 29, 3) := by decide +kernel
theorem dX3_addDay_33 : decode cX3_addDay 33 = .ok (.iconst 1, 1) := by decide +kernel
theorem dX3_addDay_34 : decode cX3_addDay 34 = .ok (.iadd, 1) := by decide +kernel
theorem dX3_addDay_35 : decode cX3_addDay 35 = .ok (.putfield 29, 3) := by decide +kernel
theorem dX3_addDay_38 : decode cX3_addDay 38 = .ok (.iload_n 3, 1) := by decide +kernel
theorem dX3_addDay_39 : decode cX3_addDay 39 = .ok (.ireturn, 1) := by decide +kernel
theorem dX3_hasDay_0 : decode cX3_hasDay 0 = .ok (.iload_n 1, 1) := by decide +kernel
theorem dX3_hasDay_1 : decode cX3_hasDay 1 = .ok (.ifCond .lt 15, 3) := by decide +kernel
theorem dX3_hasDay_4 : decode cX3_hasDay 4 = .ok (.iload_n 1, 1) := by decide +kernel
theorem dX3_hasDay_5 : decode cX3_hasDay 5 = .ok (.aload_n 0, 1) := by decide +kernel
theorem dX3_hasDay_6 : decode cX3_hasDay 6 = .ok (.getfield 29, 3) := by decide +kernel
theorem dX3_hasDay_9 : decode cX3_hasDay 9 = .ok (.if_icmp .ge 7, 3) := by decide +kernel
theorem dX3_hasDay_12 : decode cX3_hasDay 12 = .ok (.iconst 1, 1) := by decide +kernel
theorem dX3_hasDay_13 : decode cX3_hasDay 13 = .ok (.goto 4, 3) := by decide +kernel
theorem dX3_hasDay_16 : decode cX3_hasDay 16 = .ok (.iconst 0, 1) := by decide +kernel
theorem dX3_hasDay_17 : decode cX3_hasDay 17 = .ok (.ireturn, 1) := by decide +kernel
theorem dX3_measureRows_0 : decode cX3_measureRows 0 = .ok (.iconst 0, 1) := by decide +kernel
theorem dX3_measureRows_1 : decode cX3_measureRows 1 = .ok (.istore_n 1, 1) := by decide +kernel
theorem dX3_measureRows_2 : decode cX3_measureRows 2 = .ok (.iload_n 1, 1) := by decide +kernel
theorem dX3_measureRows_3 : decode cX3_measureRows 3 = .ok (.aload_n 0, 1) := by decide +kernel
theorem dX3_measureRows_4 : decode cX3_measureRows 4 = .ok (.getfield 29, 3) := by decide +kernel
theorem dX3_measureRows_7 : decode cX3_measureRows 7 = .ok (.if_icmp .ge 22, 3) := by decide +kernel
theorem dX3_measureRows_10 : decode cX3_measureRows 10 = .ok (.aload_n 0, 1) := by decide +kernel
theorem dX3_measureRows_11 : decode cX3_measureRows 11 = .ok (.getfield 11, 3) := by decide +kernel
theorem dX3_measureRows_14 : decode cX3_measureRows 14 = .ok (.iload_n 1, 1) := by decide +kernel
theorem dX3_measureRows_15 : decode cX3_measureRows 15 = .ok (.aaload, 1) := by decide +kernel
theorem dX3_measureRows_16 : decode cX3_measureRows 16 = .ok (.aload_n 0, 1) := by decide +kernel
theorem dX3_measureRows_17 : decode cX3_measureRows 17 = .ok (.getfield 24, 3) := by decide +kernel
theorem dX3_measureRows_20 : decode cX3_measureRows 20 = .ok (.invokevirtual 33, 3) := by decide +kernel
theorem dX3_measureRows_23 : decode cX3_measureRows 23 = .ok (.iinc 1 1, 3) := by decide +kernel
theorem dX3_measureRows_26 : decode cX3_measureRows 26 = .ok (.goto (-24), 3) := by decide +kernel
theorem dX3_measureRows_29 : decode cX3_measureRows 29 = .ok (.return_, 1) := by decide +kernel
theorem dX3_exchange_0 : decode cX3_exchange 0 = .ok (.aload_n 0, 1) := by decide +kernel
theorem dX3_exchange_1 : decode cX3_exchange 1 = .ok (.getfield 11, 3) := by decide +kernel
theorem dX3_exchange_4 : decode cX3_exchange 4 = .ok (.iload_n 1, 1) := by decide +kernel
theorem dX3_exchange_5 : decode cX3_exchange 5 = .ok (.aaload, 1) := by decide +kernel
theorem dX3_exchange_6 : decode cX3_exchange 6 = .ok (.astore_n 3, 1) := by decide +kernel
theorem dX3_exchange_7 : decode cX3_exchange 7 = .ok (.aload_n 0, 1) := by decide +kernel
theorem dX3_exchange_8 : decode cX3_exchange 8 = .ok (.getfield 11, 3) := by decide +kernel
theorem dX3_exchange_11 : decode cX3_exchange 11 = .ok (.iload_n 1, 1) := by decide +kernel
theorem dX3_exchange_12 : decode cX3_exchange 12 = .ok (.aload_n 0, 1) := by decide +kernel
theorem dX3_exchange_13 : decode cX3_exchange 13 = .ok (.getfield 11, 3) := by decide +kernel
theorem dX3_exchange_16 : decode cX3_exchange 16 = .ok (.iload_n 2, 1) := by decide +kernel
theorem dX3_exchange_17 : decode cX3_exchange 17 = .ok (.aaload, 1) := by decide +kernel
theorem dX3_exchange_18 : decode cX3_exchange 18 = .ok (.aastore, 1) := by decide +kernel
theorem dX3_exchange_19 : decode cX3_exchange 19 = .ok (.aload_n 0, 1) := by decide +kernel
theorem dX3_exchange_20 : decode cX3_exchange 20 = .ok (.getfield 11, 3) := by decide +kernel
theorem dX3_exchange_23 : decode cX3_exchange 23 = .ok (.iload_n 2, 1) := by decide +kernel
theorem dX3_exchange_24 : decode cX3_exchange 24 = .ok (.aload_n 3, 1) := by decide +kernel
theorem dX3_exchange_25 : decode cX3_exchange 25 = .ok (.aastore, 1) := by decide +kernel
theorem dX3_exchange_26 : decode cX3_exchange 26 = .ok (.return_, 1) := by decide +kernel
theorem dX3_keeps_0 : decode cX3_keeps 0 = .ok (.iconst 0, 1) := by decide +kernel
theorem dX3_keeps_1 : decode cX3_keeps 1 = .ok (.istore_n 1, 1) := by decide +kernel
theorem dX3_keeps_2 : decode cX3_keeps 2 = .ok (.iconst 0, 1) := by decide +kernel
theorem dX3_keeps_3 : decode cX3_keeps 3 = .ok (.istore_n 2, 1) := by decide +kernel
theorem dX3_keeps_4 : decode cX3_keeps 4 = .ok (.aload_n 0, 1) := by decide +kernel
theorem dX3_keeps_5 : decode cX3_keeps 5 = .ok (.getfield 29, 3) := by decide +kernel
theorem dX3_keeps_8 : decode cX3_keeps 8 = .ok (.iconst 1, 1) := by decide +kernel
theorem dX3_keeps_9 : decode cX3_keeps 9 = .ok (.isub, 1) := by decide +kernel
theorem dX3_keeps_10 : decode cX3_keeps 10 = .ok (.istore_n 3, 1) := by decide +kernel
theorem dX3_keeps_11 : decode cX3_keeps 11 = .ok (.iload_n 3, 1) := by decide +kernel
theorem dX3_keeps_12 : decode cX3_keeps 12 = .ok (.ifCond .lt 85, 3) := by decide +kernel
theorem dX3_keeps_15 : decode cX3_keeps 15 = .ok (.aload_n 0, 1) := by decide +kernel
theorem dX3_keeps_16 : decode cX3_keeps 16 = .ok (.getfield 11, 3) := by decide +kernel
theorem dX3_keeps_19 : decode cX3_keeps 19 = .ok (.iload_n 3, 1) := by decide +kernel
theorem dX3_keeps_20 : decode cX3_keeps 20 = .ok (.aaload, 1) := by decide +kernel
theorem dX3_keeps_21 : decode cX3_keeps 21 = .ok (.astore 4, 2) := by decide +kernel
theorem dX3_keeps_23 : decode cX3_keeps 23 = .ok (.aload 4, 2) := by decide +kernel
theorem dX3_keeps_25 : decode cX3_keeps 25 = .ok (.aload_n 0, 1) := by decide +kernel
theorem dX3_keeps_26 : decode cX3_keeps 26 = .ok (.getfield 17, 3) := by decide +kernel
theorem dX3_keeps_29 : decode cX3_keeps 29 = .ok (.iload_n 3, 1) := by decide +kernel
theorem dX3_keeps_30 : decode cX3_keeps 30 = .ok (.iaload, 1) := by decide +kernel
theorem dX3_keeps_31 : decode cX3_keeps 31 = .ok (.aload_n 0, 1) := by decide +kernel
theorem dX3_keeps_32 : decode cX3_keeps 32 = .ok (.getfield 21, 3) := by decide +kernel
theorem dX3_keeps_35 : decode cX3_keeps 35 = .ok (.iload_n 3, 1) := by decide +kernel
theorem dX3_keeps_36 : decode cX3_keeps 36 = .ok (.iaload, 1) := by decide +kernel
theorem dX3_keeps_37 : decode cX3_keeps 37 = .ok (.invokevirtual 37, 3) := by decide +kernel
theorem dX3_keeps_40 : decode cX3_keeps 40 = .ok (.ifCond .eq 11, 3) := by decide +kernel
theorem dX3_keeps_43 : decode cX3_keeps 43 = .ok (.aload 4, 2) := by decide +kernel
theorem dX3_keeps_45 : decode cX3_keeps 45 = .ok (.getfield 41, 3) := by decide +kernel
theorem dX3_keeps_48 : decode cX3_keeps 48 = .ok (.ifCond .ne 5, 3) := by decide +kernel
theorem dX3_keeps_51 : decode cX3_keeps 51 = .ok (.iconst 0, 1) := by decide +kernel
theorem dX3_keeps_52 : decode cX3_keeps 52 = .ok (.ireturn, 1) := by decide +kernel
theorem dX3_keeps_53 : decode cX3_keeps 53 = .ok (.aload 4, 2) := by decide +kernel
theorem dX3_keeps_55 : decode cX3_keeps 55 = .ok (.getfield 45, 3) := by decide +kernel
theorem dX3_keeps_58 : decode cX3_keeps 58 = .ok (.ifCond .eq 7, 3) := by decide +kernel
theorem dX3_keeps_61 : decode cX3_keeps 61 = .ok (.iload_n 2, 1) := by decide +kernel
theorem dX3_keeps_62 : decode cX3_keeps 62 = .ok (.ifCond .ne 13, 3) := by decide +kernel
theorem dX3_keeps_65 : decode cX3_keeps 65 = .ok (.aload 4, 2) := by decide +kernel
theorem dX3_keeps_67 : decode cX3_keeps 67 = .ok (.getfield 48, 3) := by decide +kernel
theorem dX3_keeps_70 : decode cX3_keeps 70 = .ok (.iload_n 1, 1) := by decide +kernel
theorem dX3_keeps_71 : decode cX3_keeps 71 = .ok (.iand, 1) := by decide +kernel
theorem dX3_keeps_72 : decode cX3_keeps 72 = .ok (.ifCond .eq 5, 3) := by decide +kernel
theorem dX3_keeps_75 : decode cX3_keeps 75 = .ok (.iconst 0, 1) := by decide +kernel
theorem dX3_keeps_76 : decode cX3_keeps 76 = .ok (.ireturn, 1) := by decide +kernel
theorem dX3_keeps_77 : decode cX3_keeps 77 = .ok (.iload_n 1, 1) := by decide +kernel
theorem dX3_keeps_78 : decode cX3_keeps 78 = .ok (.aload 4, 2) := by decide +kernel
theorem dX3_keeps_80 : decode cX3_keeps 80 = .ok (.getfield 51, 3) := by decide +kernel
theorem dX3_keeps_83 : decode cX3_keeps 83 = .ok (.ior, 1) := by decide +kernel
theorem dX3_keeps_84 : decode cX3_keeps 84 = .ok (.istore_n 1, 1) := by decide +kernel
theorem dX3_keeps_85 : decode cX3_keeps 85 = .ok (.aload 4, 2) := by decide +kernel
theorem dX3_keeps_87 : decode cX3_keeps 87 = .ok (.invokevirtual 54, 3) := by decide +kernel
theorem dX3_keeps_90 : decode cX3_keeps 90 = .ok (.istore_n 2, 1) := by decide +kernel
theorem dX3_keeps_91 : decode cX3_keeps 91 = .ok (.iinc 3 (-1), 3) := by decide +kernel
theorem dX3_keeps_94 : decode cX3_keeps 94 = .ok (.goto (-83), 3) := by decide +kernel
theorem dX3_keeps_97 : decode cX3_keeps 97 = .ok (.iconst 1, 1) := by decide +kernel
theorem dX3_keeps_98 : decode cX3_keeps 98 = .ok (.ireturn, 1) := by decide +kernel
theorem dX3_scenesInRows_0 : decode cX3_scenesInRows 0 = .ok (.iconst 0, 1) := by decide +kernel
theorem dX3_scenesInRows_1 : decode cX3_scenesInRows 1 = .ok (.istore_n 1, 1) := by decide +kernel
theorem dX3_scenesInRows_2 : decode cX3_scenesInRows 2 = .ok (.iconst 0, 1) := by decide +kernel
theorem dX3_scenesInRows_3 : decode cX3_scenesInRows 3 = .ok (.istore_n 2, 1) := by decide +kernel
theorem dX3_scenesInRows_4 : decode cX3_scenesInRows 4 = .ok (.iload_n 2, 1) := by decide +kernel
theorem dX3_scenesInRows_5 : decode cX3_scenesInRows 5 = .ok (.aload_n 0, 1) := by decide +kernel
theorem dX3_scenesInRows_6 : decode cX3_scenesInRows 6 = .ok (.getfield 29, 3) := by decide +kernel
theorem dX3_scenesInRows_9 : decode cX3_scenesInRows 9 = .ok (.if_icmp .ge 21, 3) := by decide +kernel
theorem dX3_scenesInRows_12 : decode cX3_scenesInRows 12 = .ok (.iload_n 1, 1) := by decide +kernel
theorem dX3_scenesInRows_13 : decode cX3_scenesInRows 13 = .ok (.aload_n 0, 1) := by decide +kernel
theorem dX3_scenesInRows_14 : decode cX3_scenesInRows 14 = .ok (.getfield 11, 3) := by decide +kernel
theorem dX3_scenesInRows_17 : decode cX3_scenesInRows 17 = .ok (.iload_n 2, 1) := by decide +kernel
theorem dX3_scenesInRows_18 : decode cX3_scenesInRows 18 = .ok (.aaload, 1) := by decide +kernel
theorem dX3_scenesInRows_19 : decode cX3_scenesInRows 19 = .ok (.getfield 51, 3) := by decide +kernel
theorem dX3_scenesInRows_22 : decode cX3_scenesInRows 22 = .ok (.ior, 1) := by decide +kernel
theorem dX3_scenesInRows_23 : decode cX3_scenesInRows 23 = .ok (.istore_n 1, 1) := by decide +kernel
theorem dX3_scenesInRows_24 : decode cX3_scenesInRows 24 = .ok (.iinc 2 1, 3) := by decide +kernel
theorem dX3_scenesInRows_27 : decode cX3_scenesInRows 27 = .ok (.goto (-23), 3) := by decide +kernel
theorem dX3_scenesInRows_30 : decode cX3_scenesInRows 30 = .ok (.iload_n 1, 1) := by decide +kernel
theorem dX3_scenesInRows_31 : decode cX3_scenesInRows 31 = .ok (.ireturn, 1) := by decide +kernel
theorem dX3_dayWith_0 : decode cX3_dayWith 0 = .ok (.iconst 0, 1) := by decide +kernel
theorem dX3_dayWith_1 : decode cX3_dayWith 1 = .ok (.istore_n 2, 1) := by decide +kernel
theorem dX3_dayWith_2 : decode cX3_dayWith 2 = .ok (.iload_n 2, 1) := by decide +kernel
theorem dX3_dayWith_3 : decode cX3_dayWith 3 = .ok (.aload_n 0, 1) := by decide +kernel
theorem dX3_dayWith_4 : decode cX3_dayWith 4 = .ok (.getfield 29, 3) := by decide +kernel
theorem dX3_dayWith_7 : decode cX3_dayWith 7 = .ok (.if_icmp .ge 27, 3) := by decide +kernel
theorem dX3_dayWith_10 : decode cX3_dayWith 10 = .ok (.aload_n 0, 1) := by decide +kernel
theorem dX3_dayWith_11 : decode cX3_dayWith 11 = .ok (.getfield 11, 3) := by decide +kernel
theorem dX3_dayWith_14 : decode cX3_dayWith 14 = .ok (.iload_n 2, 1) := by decide +kernel
theorem dX3_dayWith_15 : decode cX3_dayWith 15 = .ok (.aaload, 1) := by decide +kernel
theorem dX3_dayWith_16 : decode cX3_dayWith 16 = .ok (.getfield 51, 3) := by decide +kernel
theorem dX3_dayWith_19 : decode cX3_dayWith 19 = .ok (.iload_n 1, 1) := by decide +kernel
theorem dX3_dayWith_20 : decode cX3_dayWith 20 = .ok (.invokestatic 58, 3) := by decide +kernel
theorem dX3_dayWith_23 : decode cX3_dayWith 23 = .ok (.ifCond .eq 5, 3) := by decide +kernel
theorem dX3_dayWith_26 : decode cX3_dayWith 26 = .ok (.iload_n 2, 1) := by decide +kernel
theorem dX3_dayWith_27 : decode cX3_dayWith 27 = .ok (.ireturn, 1) := by decide +kernel
theorem dX3_dayWith_28 : decode cX3_dayWith 28 = .ok (.iinc 2 1, 3) := by decide +kernel
theorem dX3_dayWith_31 : decode cX3_dayWith 31 = .ok (.goto (-29), 3) := by decide +kernel
theorem dX3_dayWith_34 : decode cX3_dayWith 34 = .ok (.iconst (-1), 1) := by decide +kernel
theorem dX3_dayWith_35 : decode cX3_dayWith 35 = .ok (.ireturn, 1) := by decide +kernel
theorem dX3_placeInRow_0 : decode cX3_placeInRow 0 = .ok (.aload_n 0, 1) := by decide +kernel
theorem dX3_placeInRow_1 : decode cX3_placeInRow 1 = .ok (.iload_n 1, 1) := by decide +kernel
theorem dX3_placeInRow_2 : decode cX3_placeInRow 2 = .ok (.invokevirtual 61, 3) := by decide +kernel
theorem dX3_placeInRow_5 : decode cX3_placeInRow 5 = .ok (.istore_n 2, 1) := by decide +kernel
theorem dX3_placeInRow_6 : decode cX3_placeInRow 6 = .ok (.iload_n 2, 1) := by decide +kernel
theorem dX3_placeInRow_7 : decode cX3_placeInRow 7 = .ok (.iconst (-1), 1) := by decide +kernel
theorem dX3_placeInRow_8 : decode cX3_placeInRow 8 = .ok (.if_icmp .ne 5, 3) := by decide +kernel
theorem dX3_placeInRow_11 : decode cX3_placeInRow 11 = .ok (.iconst (-1), 1) := by decide +kernel
theorem dX3_placeInRow_12 : decode cX3_placeInRow 12 = .ok (.ireturn, 1) := by decide +kernel
theorem dX3_placeInRow_13 : decode cX3_placeInRow 13 = .ok (.aload_n 0, 1) := by decide +kernel
theorem dX3_placeInRow_14 : decode cX3_placeInRow 14 = .ok (.getfield 11, 3) := by decide +kernel
theorem dX3_placeInRow_17 : decode cX3_placeInRow 17 = .ok (.iload_n 2, 1) := by decide +kernel
theorem dX3_placeInRow_18 : decode cX3_placeInRow 18 = .ok (.aaload, 1) := by decide +kernel
theorem dX3_placeInRow_19 : decode cX3_placeInRow 19 = .ok (.astore_n 3, 1) := by decide +kernel
theorem dX3_placeInRow_20 : decode cX3_placeInRow 20 = .ok (.iconst 0, 1) := by decide +kernel
theorem dX3_placeInRow_21 : decode cX3_placeInRow 21 = .ok (.istore 4, 2) := by decide +kernel
theorem dX3_placeInRow_23 : decode cX3_placeInRow 23 = .ok (.iload 4, 2) := by decide +kernel
theorem dX3_placeInRow_25 : decode cX3_placeInRow 25 = .ok (.aload_n 3, 1) := by decide +kernel
theorem dX3_placeInRow_26 : decode cX3_placeInRow 26 = .ok (.getfield 65, 3) := by decide +kernel
theorem dX3_placeInRow_29 : decode cX3_placeInRow 29 = .ok (.if_icmp .ge 23, 3) := by decide +kernel
theorem dX3_placeInRow_32 : decode cX3_placeInRow 32 = .ok (.aload_n 3, 1) := by decide +kernel
theorem dX3_placeInRow_33 : decode cX3_placeInRow 33 = .ok (.getfield 68, 3) := by decide +kernel
theorem dX3_placeInRow_36 : decode cX3_placeInRow 36 = .ok (.iload 4, 2) := by decide +kernel
theorem dX3_placeInRow_38 : decode cX3_placeInRow 38 = .ok (.iaload, 1) := by decide +kernel
theorem dX3_placeInRow_39 : decode cX3_placeInRow 39 = .ok (.iload_n 1, 1) := by decide +kernel
theorem dX3_placeInRow_40 : decode cX3_placeInRow 40 = .ok (.if_icmp .ne 6, 3) := by decide +kernel
theorem dX3_placeInRow_43 : decode cX3_placeInRow 43 = .ok (.iload 4, 2) := by decide +kernel
theorem dX3_placeInRow_45 : decode cX3_placeInRow 45 = .ok (.ireturn, 1) := by decide +kernel
theorem dX3_placeInRow_46 : decode cX3_placeInRow 46 = .ok (.iinc 4 1, 3) := by decide +kernel
theorem dX3_placeInRow_49 : decode cX3_placeInRow 49 = .ok (.goto (-26), 3) := by decide +kernel
theorem dX3_placeInRow_52 : decode cX3_placeInRow 52 = .ok (.iconst (-1), 1) := by decide +kernel
theorem dX3_placeInRow_53 : decode cX3_placeInRow 53 = .ok (.ireturn, 1) := by decide +kernel
theorem dX3_plays_0 : decode cX3_plays 0 = .ok (.aload_n 0, 1) := by decide +kernel
theorem dX3_plays_1 : decode cX3_plays 1 = .ok (.getfield 11, 3) := by decide +kernel
theorem dX3_plays_4 : decode cX3_plays 4 = .ok (.iload_n 2, 1) := by decide +kernel
theorem dX3_plays_5 : decode cX3_plays 5 = .ok (.aaload, 1) := by decide +kernel
theorem dX3_plays_6 : decode cX3_plays 6 = .ok (.getfield 71, 3) := by decide +kernel
theorem dX3_plays_9 : decode cX3_plays 9 = .ok (.iload_n 1, 1) := by decide +kernel
theorem dX3_plays_10 : decode cX3_plays 10 = .ok (.invokestatic 58, 3) := by decide +kernel
theorem dX3_plays_13 : decode cX3_plays 13 = .ok (.ireturn, 1) := by decide +kernel
theorem dX3_firstDayOf_0 : decode cX3_firstDayOf 0 = .ok (.iconst 0, 1) := by decide +kernel
theorem dX3_firstDayOf_1 : decode cX3_firstDayOf 1 = .ok (.istore_n 2, 1) := by decide +kernel
theorem dX3_firstDayOf_2 : decode cX3_firstDayOf 2 = .ok (.iload_n 2, 1) := by decide +kernel
theorem dX3_firstDayOf_3 : decode cX3_firstDayOf 3 = .ok (.aload_n 0, 1) := by decide +kernel
theorem dX3_firstDayOf_4 : decode cX3_firstDayOf 4 = .ok (.getfield 29, 3) := by decide +kernel
theorem dX3_firstDayOf_7 : decode cX3_firstDayOf 7 = .ok (.if_icmp .ge 20, 3) := by decide +kernel
theorem dX3_firstDayOf_10 : decode cX3_firstDayOf 10 = .ok (.aload_n 0, 1) := by decide +kernel
theorem dX3_firstDayOf_11 : decode cX3_firstDayOf 11 = .ok (.iload_n 1, 1) := by decide +kernel
theorem dX3_firstDayOf_12 : decode cX3_firstDayOf 12 = .ok (.iload_n 2, 1) := by decide +kernel
theorem dX3_firstDayOf_13 : decode cX3_firstDayOf 13 = .ok (.invokevirtual 74, 3) := by decide +kernel
theorem dX3_firstDayOf_16 : decode cX3_firstDayOf 16 = .ok (.ifCond .eq 5, 3) := by decide +kernel
theorem dX3_firstDayOf_19 : decode cX3_firstDayOf 19 = .ok (.iload_n 2, 1) := by decide +kernel
theorem dX3_firstDayOf_20 : decode cX3_firstDayOf 20 = .ok (.ireturn, 1) := by decide +kernel
theorem dX3_firstDayOf_21 : decode cX3_firstDayOf 21 = .ok (.iinc 2 1, 3) := by decide +kernel
theorem dX3_firstDayOf_24 : decode cX3_firstDayOf 24 = .ok (.goto (-22), 3) := by decide +kernel
theorem dX3_firstDayOf_27 : decode cX3_firstDayOf 27 = .ok (.iconst (-1), 1) := by decide +kernel
theorem dX3_firstDayOf_28 : decode cX3_firstDayOf 28 = .ok (.ireturn, 1) := by decide +kernel
theorem dX3_lastDayOf_0 : decode cX3_lastDayOf 0 = .ok (.aload_n 0, 1) := by decide +kernel
theorem dX3_lastDayOf_1 : decode cX3_lastDayOf 1 = .ok (.getfield 29, 3) := by decide +kernel
theorem dX3_lastDayOf_4 : decode cX3_lastDayOf 4 = .ok (.iconst 1, 1) := by decide +kernel
theorem dX3_lastDayOf_5 : decode cX3_lastDayOf 5 = .ok (.isub, 1) := by decide +kernel
theorem dX3_lastDayOf_6 : decode cX3_lastDayOf 6 = .ok (.istore_n 2, 1) := by decide +kernel
theorem dX3_lastDayOf_7 : decode cX3_lastDayOf 7 = .ok (.iload_n 2, 1) := by decide +kernel
theorem dX3_lastDayOf_8 : decode cX3_lastDayOf 8 = .ok (.ifCond .lt 20, 3) := by decide +kernel
theorem dX3_lastDayOf_11 : decode cX3_lastDayOf 11 = .ok (.aload_n 0, 1) := by decide +kernel
theorem dX3_lastDayOf_12 : decode cX3_lastDayOf 12 = .ok (.iload_n 1, 1) := by decide +kernel
theorem dX3_lastDayOf_13 : decode cX3_lastDayOf 13 = .ok (.iload_n 2, 1) := by decide +kernel
theorem dX3_lastDayOf_14 : decode cX3_lastDayOf 14 = .ok (.invokevirtual 74, 3) := by decide +kernel
theorem dX3_lastDayOf_17 : decode cX3_lastDayOf 17 = .ok (.ifCond .eq 5, 3) := by decide +kernel
theorem dX3_lastDayOf_20 : decode cX3_lastDayOf 20 = .ok (.iload_n 2, 1) := by decide +kernel
theorem dX3_lastDayOf_21 : decode cX3_lastDayOf 21 = .ok (.ireturn, 1) := by decide +kernel
theorem dX3_lastDayOf_22 : decode cX3_lastDayOf 22 = .ok (.iinc 2 (-1), 3) := by decide +kernel
theorem dX3_lastDayOf_25 : decode cX3_lastDayOf 25 = .ok (.goto (-18), 3) := by decide +kernel
theorem dX3_lastDayOf_28 : decode cX3_lastDayOf 28 = .ok (.iconst (-1), 1) := by decide +kernel
theorem dX3_lastDayOf_29 : decode cX3_lastDayOf 29 = .ok (.ireturn, 1) := by decide +kernel
theorem dX3_daysWith_0 : decode cX3_daysWith 0 = .ok (.iconst 0, 1) := by decide +kernel
theorem dX3_daysWith_1 : decode cX3_daysWith 1 = .ok (.istore_n 2, 1) := by decide +kernel
theorem dX3_daysWith_2 : decode cX3_daysWith 2 = .ok (.iconst 0, 1) := by decide +kernel
theorem dX3_daysWith_3 : decode cX3_daysWith 3 = .ok (.istore_n 3, 1) := by decide +kernel
theorem dX3_daysWith_4 : decode cX3_daysWith 4 = .ok (.iload_n 3, 1) := by decide +kernel
theorem dX3_daysWith_5 : decode cX3_daysWith 5 = .ok (.aload_n 0, 1) := by decide +kernel
theorem dX3_daysWith_6 : decode cX3_daysWith 6 = .ok (.getfield 29, 3) := by decide +kernel
theorem dX3_daysWith_9 : decode cX3_daysWith 9 = .ok (.if_icmp .ge 21, 3) := by decide +kernel
theorem dX3_daysWith_12 : decode cX3_daysWith 12 = .ok (.aload_n 0, 1) := by decide +kernel
theorem dX3_daysWith_13 : decode cX3_daysWith 13 = .ok (.iload_n 1, 1) := by decide +kernel
theorem dX3_daysWith_14 : decode cX3_daysWith 14 = .ok (.iload_n 3, 1) := by decide +kernel
theorem dX3_daysWith_15 : decode cX3_daysWith 15 = .ok (.invokevirtual 74, 3) := by decide +kernel
theorem dX3_daysWith_18 : decode cX3_daysWith 18 = .ok (.ifCond .eq 6, 3) := by decide +kernel
theorem dX3_daysWith_21 : decode cX3_daysWith 21 = .ok (.iinc 2 1, 3) := by decide +kernel
theorem dX3_daysWith_24 : decode cX3_daysWith 24 = .ok (.iinc 3 1, 3) := by decide +kernel
theorem dX3_daysWith_27 : decode cX3_daysWith 27 = .ok (.goto (-23), 3) := by decide +kernel
theorem dX3_daysWith_30 : decode cX3_daysWith 30 = .ok (.iload_n 2, 1) := by decide +kernel
theorem dX3_daysWith_31 : decode cX3_daysWith 31 = .ok (.ireturn, 1) := by decide +kernel
theorem dX3_greatestMost_0 : decode cX3_greatestMost 0 = .ok (.iconst 0, 1) := by decide +kernel
theorem dX3_greatestMost_1 : decode cX3_greatestMost 1 = .ok (.istore_n 1, 1) := by decide +kernel
theorem dX3_greatestMost_2 : decode cX3_greatestMost 2 = .ok (.iconst 0, 1) := by decide +kernel
theorem dX3_greatestMost_3 : decode cX3_greatestMost 3 = .ok (.istore_n 2, 1) := by decide +kernel
theorem dX3_greatestMost_4 : decode cX3_greatestMost 4 = .ok (.iload_n 2, 1) := by decide +kernel
theorem dX3_greatestMost_5 : decode cX3_greatestMost 5 = .ok (.aload_n 0, 1) := by decide +kernel
theorem dX3_greatestMost_6 : decode cX3_greatestMost 6 = .ok (.getfield 29, 3) := by decide +kernel
theorem dX3_greatestMost_9 : decode cX3_greatestMost 9 = .ok (.if_icmp .ge 20, 3) := by decide +kernel
theorem dX3_greatestMost_12 : decode cX3_greatestMost 12 = .ok (.iload_n 1, 1) := by decide +kernel
theorem dX3_greatestMost_13 : decode cX3_greatestMost 13 = .ok (.aload_n 0, 1) := by decide +kernel
theorem dX3_greatestMost_14 : decode cX3_greatestMost 14 = .ok (.getfield 17, 3) := by decide +kernel
theorem dX3_greatestMost_17 : decode cX3_greatestMost 17 = .ok (.iload_n 2, 1) := by decide +kernel
theorem dX3_greatestMost_18 : decode cX3_greatestMost 18 = .ok (.iaload, 1) := by decide +kernel
theorem dX3_greatestMost_19 : decode cX3_greatestMost 19 = .ok (.invokestatic 77, 3) := by decide +kernel
theorem dX3_greatestMost_22 : decode cX3_greatestMost 22 = .ok (.istore_n 1, 1) := by decide +kernel
theorem dX3_greatestMost_23 : decode cX3_greatestMost 23 = .ok (.iinc 2 1, 3) := by decide +kernel
theorem dX3_greatestMost_26 : decode cX3_greatestMost 26 = .ok (.goto (-22), 3) := by decide +kernel
theorem dX3_greatestMost_29 : decode cX3_greatestMost 29 = .ok (.iload_n 1, 1) := by decide +kernel
theorem dX3_greatestMost_30 : decode cX3_greatestMost 30 = .ok (.ireturn, 1) := by decide +kernel
end
section
theorem dX4_init_0 : decode cX4_init 0 = .ok (.aload_n 0, 1) := by decide +kernel
theorem dX4_init_1 : decode cX4_init 1 = .ok (.invokespecial 3, 3) := by decide +kernel
theorem dX4_init_4 : decode cX4_init 4 = .ok (.aload_n 0, 1) := by decide +kernel
theorem dX4_init_5 : decode cX4_init 5 = .ok (.bipush 8, 2) := by decide +kernel
theorem dX4_init_7 : decode cX4_init 7 = .ok (.anewarray 9, 3) := by decide +kernel
theorem dX4_init_10 : decode cX4_init 10 = .ok (.putfield 11, 3) := by decide +kernel
theorem dX4_init_13 : decode cX4_init 13 = .ok (.aload_n 0, 1) := by decide +kernel
theorem dX4_init_14 : decode cX4_init 14 = .ok (.bipush 8, 2) := by decide +kernel
theorem dX4_init_16 : decode cX4_init 16 = .ok (.newarray .int, 2) := by decide +kernel
theorem dX4_init_18 : decode cX4_init 18 = .ok (.putfield 17, 3) := by decide +kernel
theorem dX4_init_21 : decode cX4_init 21 = .ok (.aload_n 0, 1) := by decide +kernel
theorem dX4_init_22 : decode cX4_init 22 = .ok (.bipush 8, 2) := by decide +kernel
theorem dX4_init_24 : decode cX4_init 24 = .ok (.newarray .int, 2) := by decide +kernel
theorem dX4_init_26 : decode cX4_init 26 = .ok (.putfield 21, 3) := by decide +kernel
theorem dX4_init_29 : decode cX4_init 29 = .ok (.aload_n 0, 1) := by decide +kernel
theorem dX4_init_30 : decode cX4_init 30 = .ok (.aload_n 1, 1) := by decide +kernel
theorem dX4_init_31 : decode cX4_init 31 = .ok (.putfield 24, 3) := by decide +kernel
theorem dX4_init_34 : decode cX4_init 34 = .ok (.aload_n 0, 1) := by decide +kernel
theorem dX4_init_35 : decode cX4_init 35 = .ok (.aload_n 2, 1) := by decide +kernel
theorem dX4_init_36 : decode cX4_init 36 = .ok (.putfield 28, 3) := by decide +kernel
theorem dX4_init_39 : decode cX4_init 39 = .ok (.aload_n 0, 1) := by decide +kernel
theorem dX4_init_40 : decode cX4_init 40 = .ok (.aload_n 3, 1) := by decide +kernel
theorem dX4_init_41 : decode cX4_init 41 = .ok (.putfield 32, 3) := by decide +kernel
theorem dX4_init_44 : decode cX4_init 44 = .ok (.aload_n 0, 1) := by decide +kernel
theorem dX4_init_45 : decode cX4_init 45 = .ok (.new 36, 3) := by decide +kernel
theorem dX4_init_48 : decode cX4_init 48 = .ok (.dup, 1) := by decide +kernel
theorem dX4_init_49 : decode cX4_init 49 = .ok (.aload_n 1, 1) := by decide +kernel
theorem dX4_init_50 : decode cX4_init 50 = .ok (.invokespecial 38, 3) := by decide +kernel
theorem dX4_init_53 : decode cX4_init 53 = .ok (.putfield 41, 3) := by decide +kernel
theorem dX4_init_56 : decode cX4_init 56 = .ok (.iconst 0, 1) := by decide +kernel
theorem dX4_init_57 : decode cX4_init 57 = .ok (.istore 4, 2) := by decide +kernel
theorem dX4_init_59 : decode cX4_init 59 = .ok (.iload 4, 2) := by decide +kernel
theorem dX4_init_61 : decode cX4_init 61 = .ok (.bipush 8, 2) := by decide +kernel
theorem dX4_init_63 : decode cX4_init 63 = .ok (.if_icmp .ge 23, 3) := by decide +kernel
theorem dX4_init_66 : decode cX4_init 66 = .ok (.aload_n 0, 1) := by decide +kernel
theorem dX4_init_67 : decode cX4_init 67 = .ok (.getfield 11, 3) := by decide +kernel
theorem dX4_init_70 : decode cX4_init 70 = .ok (.iload 4, 2) := by decide +kernel
theorem dX4_init_72 : decode cX4_init 72 = .ok (.aload_n 2, 1) := by decide +kernel
theorem dX4_init_73 : decode cX4_init 73 = .ok (.getfield 45, 3) := by decide +kernel
theorem dX4_init_76 : decode cX4_init 76 = .ok (.iload 4, 2) := by decide +kernel
theorem dX4_init_78 : decode cX4_init 78 = .ok (.aaload, 1) := by decide +kernel
theorem dX4_init_79 : decode cX4_init 79 = .ok (.aastore, 1) := by decide +kernel
theorem dX4_init_80 : decode cX4_init 80 = .ok (.iinc 4 1, 3) := by decide +kernel
theorem dX4_init_83 : decode cX4_init 83 = .ok (.goto (-24), 3) := by decide +kernel
theorem dX4_init_86 : decode cX4_init 86 = .ok (.return_, 1) := by decide +kernel
theorem dX4_join_0 : decode cX4_join 0 = .ok (.aload_n 0, 1) := by decide +kernel
theorem dX4_join_1 : decode cX4_join 1 = .ok (.getfield 28, 3) := by decide +kernel
theorem dX4_join_4 : decode cX4_join 4 = .ok (.getfield 45, 3) := by decide +kernel
theorem dX4_join_7 : decode cX4_join 7 = .ok (.iload_n 2, 1) := by decide +kernel
theorem dX4_join_8 : decode cX4_join 8 = .ok (.aaload, 1) := by decide +kernel
theorem dX4_join_9 : decode cX4_join 9 = .ok (.invokevirtual 50, 3) := by decide +kernel
theorem dX4_join_12 : decode cX4_join 12 = .ok (.ifCond .eq 5, 3) := by decide +kernel
theorem dX4_join_15 : decode cX4_join 15 = .ok (.iconst 2, 1) := by decide +kernel
theorem dX4_join_16 : decode cX4_join 16 = .ok (.ireturn, 1) := by decide +kernel
theorem dX4_join_17 : decode cX4_join 17 = .ok (.aload_n 0, 1) := by decide +kernel
theorem dX4_join_18 : decode cX4_join 18 = .ok (.getfield 41, 3) := by decide +kernel
theorem dX4_join_21 : decode cX4_join 21 = .ok (.aload_n 0, 1) := by decide +kernel
theorem dX4_join_22 : decode cX4_join 22 = .ok (.getfield 28, 3) := by decide +kernel
theorem dX4_join_25 : decode cX4_join 25 = .ok (.getfield 45, 3) := by decide +kernel
theorem dX4_join_28 : decode cX4_join 28 = .ok (.iload_n 2, 1) := by decide +kernel
theorem dX4_join_29 : decode cX4_join 29 = .ok (.aaload, 1) := by decide +kernel
theorem dX4_join_30 : decode cX4_join 30 = .ok (.getfield 54, 3) := by decide +kernel
theorem dX4_join_33 : decode cX4_join 33 = .ok (.iconst 1, 1) := by decide +kernel
theorem dX4_join_34 : decode cX4_join 34 = .ok (.iload_n 1, 1) := by decide +kernel
theorem dX4_join_35 : decode cX4_join 35 = .ok (.ishl, 1) := by decide +kernel
theorem dX4_join_36 : decode cX4_join 36 = .ok (.ior, 1) := by decide +kernel
theorem dX4_join_37 : decode cX4_join 37 = .ok (.aload_n 0, 1) := by decide +kernel
theorem dX4_join_38 : decode cX4_join 38 = .ok (.getfield 28, 3) := by decide +kernel
theorem dX4_join_41 : decode cX4_join 41 = .ok (.getfield 45, 3) := by decide +kernel
theorem dX4_join_44 : decode cX4_join 44 = .ok (.bipush 8, 2) := by decide +kernel
theorem dX4_join_46 : decode cX4_join 46 = .ok (.aaload, 1) := by decide +kernel
theorem dX4_join_47 : decode cX4_join 47 = .ok (.invokevirtual 58, 3) := by decide +kernel
theorem dX4_join_50 : decode cX4_join 50 = .ok (.aload_n 0, 1) := by decide +kernel
theorem dX4_join_51 : decode cX4_join 51 = .ok (.getfield 28, 3) := by decide +kernel
theorem dX4_join_54 : decode cX4_join 54 = .ok (.iload_n 2, 1) := by decide +kernel
theorem dX4_join_55 : decode cX4_join 55 = .ok (.bipush 8, 2) := by decide +kernel
theorem dX4_join_57 : decode cX4_join 57 = .ok (.invokevirtual 62, 3) := by decide +kernel
theorem dX4_join_60 : decode cX4_join 60 = .ok (.aload_n 0, 1) := by decide +kernel
theorem dX4_join_61 : decode cX4_join 61 = .ok (.getfield 28, 3) := by decide +kernel
theorem dX4_join_64 : decode cX4_join 64 = .ok (.invokevirtual 66, 3) := by decide +kernel
theorem dX4_join_67 : decode cX4_join 67 = .ok (.ifCond .eq 5, 3) := by decide +kernel
theorem dX4_join_70 : decode cX4_join 70 = .ok (.iconst 0, 1) := by decide +kernel
theorem dX4_join_71 : decode cX4_join 71 = .ok (.ireturn, 1) := by decide +kernel
theorem dX4_join_72 : decode cX4_join 72 = .ok (.aload_n 0, 1) := by decide +kernel
theorem dX4_join_73 : decode cX4_join 73 = .ok (.getfield 28, 3) := by decide +kernel
theorem dX4_join_76 : decode cX4_join 76 = .ok (.iload_n 2, 1) := by decide +kernel
theorem dX4_join_77 : decode cX4_join 77 = .ok (.bipush 8, 2) := by decide +kernel
theorem dX4_join_79 : decode cX4_join 79 = .ok (.invokevirtual 62, 3) := by decide +kernel
theorem dX4_join_82 : decode cX4_join 82 = .ok (.iconst 1, 1) := by decide +kernel
theorem dX4_join_83 : decode cX4_join 83 = .ok (.ireturn, 1) := by decide +kernel
theorem dX4_couldJoin_0 : decode cX4_couldJoin 0 = .ok (.aload_n 0, 1) := by decide +kernel
theorem dX4_couldJoin_1 : decode cX4_couldJoin 1 = .ok (.iload_n 1, 1) := by decide +kernel
theorem dX4_couldJoin_2 : decode cX4_couldJoin 2 = .ok (.iload_n 2, 1) := by decide +kernel
theorem dX4_couldJoin_3 : decode cX4_couldJoin 3 = .ok (.invokevirtual 69, 3) := by decide +kernel
theorem dX4_couldJoin_6 : decode cX4_couldJoin 6 = .ok (.istore_n 3, 1) := by decide +kernel
theorem dX4_couldJoin_7 : decode cX4_couldJoin 7 = .ok (.iload_n 3, 1) := by decide +kernel
theorem dX4_couldJoin_8 : decode cX4_couldJoin 8 = .ok (.ifCond .ne 13, 3) := by decide +kernel
theorem dX4_couldJoin_11 : decode cX4_couldJoin 11 = .ok (.aload_n 0, 1) := by decide +kernel
theorem dX4_couldJoin_12 : decode cX4_couldJoin 12 = .ok (.getfield 28, 3) := by decide +kernel
theorem dX4_couldJoin_15 : decode cX4_couldJoin 15 = .ok (.iload_n 2, 1) := by decide +kernel
theorem dX4_couldJoin_16 : decode cX4_couldJoin 16 = .ok (.bipush 8, 2) := by decide +kernel
theorem dX4_couldJoin_18 : decode cX4_couldJoin 18 = .ok (.invokevirtual 62, 3) := by decide +kernel
theorem dX4_couldJoin_21 : decode cX4_couldJoin 21 = .ok (.iload_n 3, 1) := by decide +kernel
theorem dX4_couldJoin_22 : decode cX4_couldJoin 22 = .ok (.ireturn, 1) := by decide +kernel
theorem dX4_leave_0 : decode cX4_leave 0 = .ok (.aload_n 0, 1) := by decide +kernel
theorem dX4_leave_1 : decode cX4_leave 1 = .ok (.getfield 28, 3) := by decide +kernel
theorem dX4_leave_4 : decode cX4_leave 4 = .ok (.getfield 45, 3) := by decide +kernel
theorem dX4_leave_7 : decode cX4_leave 7 = .ok (.iload_n 2, 1) := by decide +kernel
theorem dX4_leave_8 : decode cX4_leave 8 = .ok (.aaload, 1) := by decide +kernel
theorem dX4_leave_9 : decode cX4_leave 9 = .ok (.astore_n 3, 1) := by decide +kernel
theorem dX4_leave_10 : decode cX4_leave 10 = .ok (.aload_n 0, 1) := by decide +kernel
theorem dX4_leave_11 : decode cX4_leave 11 = .ok (.getfield 28, 3) := by decide +kernel
theorem dX4_leave_14 : decode cX4_leave 14 = .ok (.getfield 45, 3) := by decide +kernel
theorem dX4_leave_17 : decode cX4_leave 17 = .ok (.bipush 9, 2) := by decide +kernel
theorem dX4_leave_19 : decode cX4_leave 19 = .ok (.aaload, 1) := by decide +kernel
theorem dX4_leave_20 : decode cX4_leave 20 = .ok (.astore 4, 2) := by decide +kernel
theorem dX4_leave_22 : decode cX4_leave 22 = .ok (.aload 4, 2) := by decide +kernel
theorem dX4_leave_24 : decode cX4_leave 24 = .ok (.invokevirtual 73, 3) := by decide +kernel
theorem dX4_leave_27 : decode cX4_leave 27 = .ok (.iconst 0, 1) := by decide +kernel
theorem dX4_leave_28 : decode cX4_leave 28 = .ok (.istore 5, 2) := by decide +kernel
theorem dX4_leave_30 : decode cX4_leave 30 = .ok (.iload 5, 2) := by decide +kernel
theorem dX4_leave_32 : decode cX4_leave 32 = .ok (.aload_n 3, 1) := by decide +kernel
theorem dX4_leave_33 : decode cX4_leave 33 = .ok (.getfield 76, 3) := by decide +kernel
theorem dX4_leave_36 : decode cX4_leave 36 = .ok (.if_icmp .ge 32, 3) := by decide +kernel
theorem dX4_leave_39 : decode cX4_leave 39 = .ok (.aload_n 3, 1) := by decide +kernel
theorem dX4_leave_40 : decode cX4_leave 40 = .ok (.getfield 79, 3) := by decide +kernel
theorem dX4_leave_43 : decode cX4_leave 43 = .ok (.iload 5, 2) := by decide +kernel
theorem dX4_leave_45 : decode cX4_leave 45 = .ok (.iaload, 1) := by decide +kernel
theorem dX4_leave_46 : decode cX4_leave 46 = .ok (.iload_n 1, 1) := by decide +kernel
theorem dX4_leave_47 : decode cX4_leave 47 = .ok (.if_icmp .eq 15, 3) := by decide +kernel
theorem dX4_leave_50 : decode cX4_leave 50 = .ok (.aload 4, 2) := by decide +kernel
theorem dX4_leave_52 : decode cX4_leave 52 = .ok (.aload_n 3, 1) := by decide +kernel
theorem dX4_leave_53 : decode cX4_leave 53 = .ok (.getfield 79, 3) := by decide +kernel
theorem dX4_leave_56 : decode cX4_leave 56 = .ok (.iload 5, 2) := by decide +kernel
theorem dX4_leave_58 : decode cX4_leave 58 = .ok (.iaload, 1) := by decide +kernel
theorem dX4_leave_59 : decode cX4_leave 59 = .ok (.invokevirtual 82, 3) := by decide +kernel
theorem dX4_leave_62 : decode cX4_leave 62 = .ok (.iinc 5 1, 3) := by decide +kernel
theorem dX4_leave_65 : decode cX4_leave 65 = .ok (.goto (-35), 3) := by decide +kernel
theorem dX4_leave_68 : decode cX4_leave 68 = .ok (.aload 4, 2) := by decide +kernel
theorem dX4_leave_70 : decode cX4_leave 70 = .ok (.aload_n 0, 1) := by decide +kernel
theorem dX4_leave_71 : decode cX4_leave 71 = .ok (.getfield 24, 3) := by decide +kernel
theorem dX4_leave_74 : decode cX4_leave 74 = .ok (.invokevirtual 86, 3) := by decide +kernel
theorem dX4_leave_77 : decode cX4_leave 77 = .ok (.aload_n 0, 1) := by decide +kernel
theorem dX4_leave_78 : decode cX4_leave 78 = .ok (.getfield 28, 3) := by decide +kernel
theorem dX4_leave_81 : decode cX4_leave 81 = .ok (.iload_n 2, 1) := by decide +kernel
theorem dX4_leave_82 : decode cX4_leave 82 = .ok (.bipush 9, 2) := by decide +kernel
theorem dX4_leave_84 : decode cX4_leave 84 = .ok (.invokevirtual 62, 3) := by decide +kernel
theorem dX4_leave_87 : decode cX4_leave 87 = .ok (.return_, 1) := by decide +kernel
theorem dX4_arrangeDay_0 : decode cX4_arrangeDay 0 = .ok (.aload_n 0, 1) := by decide +kernel
theorem dX4_arrangeDay_1 : decode cX4_arrangeDay 1 = .ok (.getfield 41, 3) := by decide +kernel
theorem dX4_arrangeDay_4 : decode cX4_arrangeDay 4 = .ok (.aload_n 0, 1) := by decide +kernel
theorem dX4_arrangeDay_5 : decode cX4_arrangeDay 5 = .ok (.getfield 28, 3) := by decide +kernel
theorem dX4_arrangeDay_8 : decode cX4_arrangeDay 8 = .ok (.getfield 45, 3) := by decide +kernel
theorem dX4_arrangeDay_11 : decode cX4_arrangeDay 11 = .ok (.iload_n 1, 1) := by decide +kernel
theorem dX4_arrangeDay_12 : decode cX4_arrangeDay 12 = .ok (.aaload, 1) := by decide +kernel
theorem dX4_arrangeDay_13 : decode cX4_arrangeDay 13 = .ok (.getfield 54, 3) := by decide +kernel
theorem dX4_arrangeDay_16 : decode cX4_arrangeDay 16 = .ok (.aload_n 0, 1) := by decide +kernel
theorem dX4_arrangeDay_17 : decode cX4_arrangeDay 17 = .ok (.getfield 28, 3) := by decide +kernel
theorem dX4_arrangeDay_20 : decode cX4_arrangeDay 20 = .ok (.getfield 45, 3) := by decide +kernel
theorem dX4_arrangeDay_23 : decode cX4_arrangeDay 23 = .ok (.bipush 8, 2) := by decide +kernel
theorem dX4_arrangeDay_25 : decode cX4_arrangeDay 25 = .ok (.aaload, 1) := by decide +kernel
theorem dX4_arrangeDay_26 : decode cX4_arrangeDay 26 = .ok (.invokevirtual 58, 3) := by decide +kernel
theorem dX4_arrangeDay_29 : decode cX4_arrangeDay 29 = .ok (.aload_n 0, 1) := by decide +kernel
theorem dX4_arrangeDay_30 : decode cX4_arrangeDay 30 = .ok (.getfield 28, 3) := by decide +kernel
theorem dX4_arrangeDay_33 : decode cX4_arrangeDay 33 = .ok (.iload_n 1, 1) := by decide +kernel
theorem dX4_arrangeDay_34 : decode cX4_arrangeDay 34 = .ok (.bipush 8, 2) := by decide +kernel
theorem dX4_arrangeDay_36 : decode cX4_arrangeDay 36 = .ok (.invokevirtual 62, 3) := by decide +kernel
theorem dX4_arrangeDay_39 : decode cX4_arrangeDay 39 = .ok (.return_, 1) := by decide +kernel
theorem dX4_makeFirstGoodMove_0 : decode cX4_makeFirstGoodMove 0 = .ok (.aload_n 0, 1) := by decide +kernel
theorem dX4_makeFirstGoodMove_1 : decode cX4_makeFirstGoodMove 1 = .ok (.getfield 32, 3) := by decide +kernel
theorem dX4_makeFirstGoodMove_4 : decode cX4_makeFirstGoodMove 4 = .ok (.invokevirtual 89, 3) := by decide +kernel
theorem dX4_makeFirstGoodMove_7 : decode cX4_makeFirstGoodMove 7 = .ok (.istore_n 1, 1) := by decide +kernel
theorem dX4_makeFirstGoodMove_8 : decode cX4_makeFirstGoodMove 8 = .ok (.iconst 0, 1) := by decide +kernel
theorem dX4_makeFirstGoodMove_9 : decode cX4_makeFirstGoodMove 9 = .ok (.istore_n 2, 1) := by decide +kernel
theorem dX4_makeFirstGoodMove_10 : decode cX4_makeFirstGoodMove 10 = .ok (.iload_n 2, 1) := by decide +kernel
theorem dX4_makeFirstGoodMove_11 : decode cX4_makeFirstGoodMove 11 = .ok (.aload_n 0, 1) := by decide +kernel
theorem dX4_makeFirstGoodMove_12 : decode cX4_makeFirstGoodMove 12 = .ok (.getfield 24, 3) := by decide +kernel
theorem dX4_makeFirstGoodMove_15 : decode cX4_makeFirstGoodMove 15 = .ok (.getfield 95, 3) := by decide +kernel
theorem dX4_makeFirstGoodMove_18 : decode cX4_makeFirstGoodMove 18 = .ok (.if_icmp .ge 64, 3) := by decide +kernel
theorem dX4_makeFirstGoodMove_21 : decode cX4_makeFirstGoodMove 21 = .ok (.aload_n 0, 1) := by decide +kernel
theorem dX4_makeFirstGoodMove_22 : decode cX4_makeFirstGoodMove 22 = .ok (.getfield 28, 3) := by decide +kernel
theorem dX4_makeFirstGoodMove_25 : decode cX4_makeFirstGoodMove 25 = .ok (.iload_n 2, 1) := by decide +kernel
theorem dX4_makeFirstGoodMove_26 : decode cX4_makeFirstGoodMove 26 = .ok (.invokevirtual 99, 3) := by decide +kernel
theorem dX4_makeFirstGoodMove_29 : decode cX4_makeFirstGoodMove 29 = .ok (.istore_n 3, 1) := by decide +kernel
theorem dX4_makeFirstGoodMove_30 : decode cX4_makeFirstGoodMove 30 = .ok (.iconst 0, 1) := by decide +kernel
theorem dX4_makeFirstGoodMove_31 : decode cX4_makeFirstGoodMove 31 = .ok (.istore 4, 2) := by decide +kernel
theorem dX4_makeFirstGoodMove_33 : decode cX4_makeFirstGoodMove 33 = .ok (.iload 4, 2) := by decide +kernel
theorem dX4_makeFirstGoodMove_35 : decode cX4_makeFirstGoodMove 35 = .ok (.aload_n 0, 1) := by decide +kernel
theorem dX4_makeFirstGoodMove_36 : decode cX4_makeFirstGoodMove 36 = .ok (.getfield 28, 3) := by decide +kernel
theorem dX4_makeFirstGoodMove_39 : decode cX4_makeFirstGoodMove 39 = .ok (.getfield 103, 3) := by decide +kernel
theorem dX4_makeFirstGoodMove_42 : decode cX4_makeFirstGoodMove 42 = .ok (.if_icmp .ge 34, 3) := by decide +kernel
theorem dX4_makeFirstGoodMove_45 : decode cX4_makeFirstGoodMove 45 = .ok (.iload_n 3, 1) := by decide +kernel
theorem dX4_makeFirstGoodMove_46 : decode cX4_makeFirstGoodMove 46 = .ok (.iconst (-1), 1) := by decide +kernel
theorem dX4_makeFirstGoodMove_47 : decode cX4_makeFirstGoodMove 47 = .ok (.if_icmp .eq 29, 3) := by decide +kernel
theorem dX4_makeFirstGoodMove_50 : decode cX4_makeFirstGoodMove 50 = .ok (.iload 4, 2) := by decide +kernel
theorem dX4_makeFirstGoodMove_52 : decode cX4_makeFirstGoodMove 52 = .ok (.iload_n 3, 1) := by decide +kernel
theorem dX4_makeFirstGoodMove_53 : decode cX4_makeFirstGoodMove 53 = .ok (.if_icmp .eq 17, 3) := by decide +kernel
theorem dX4_makeFirstGoodMove_56 : decode cX4_makeFirstGoodMove 56 = .ok (.aload_n 0, 1) := by decide +kernel
theorem dX4_makeFirstGoodMove_57 : decode cX4_makeFirstGoodMove 57 = .ok (.iload_n 2, 1) := by decide +kernel
theorem dX4_makeFirstGoodMove_58 : decode cX4_makeFirstGoodMove 58 = .ok (.iload_n 3, 1) := by decide +kernel
theorem dX4_makeFirstGoodMove_59 : decode cX4_makeFirstGoodMove 59 = .ok (.iload 4, 2) := by decide +kernel
theorem dX4_makeFirstGoodMove_61 : decode cX4_makeFirstGoodMove 61 = .ok (.iload_n 1, 1) := by decide +kernel
theorem dX4_makeFirstGoodMove_62 : decode cX4_makeFirstGoodMove 62 = .ok (.invokevirtual 106, 3) := by decide +kernel
theorem dX4_makeFirstGoodMove_65 : decode cX4_makeFirstGoodMove 65 = .ok (.ifCond .eq 5, 3) := by decide +kernel
theorem dX4_makeFirstGoodMove_68 : decode cX4_makeFirstGoodMove 68 = .ok (.iconst 1, 1) := by decide +kernel
theorem dX4_makeFirstGoodMove_69 : decode cX4_makeFirstGoodMove 69 = .ok (.ireturn, 1) := by decide +kernel
theorem dX4_makeFirstGoodMove_70 : decode cX4_makeFirstGoodMove 70 = .ok (.iinc 4 1, 3) := by decide +kernel
theorem dX4_makeFirstGoodMove_73 : decode cX4_makeFirstGoodMove 73 = .ok (.goto (-40), 3) := by decide +kernel
theorem dX4_makeFirstGoodMove_76 : decode cX4_makeFirstGoodMove 76 = .ok (.iinc 2 1, 3) := by decide +kernel
theorem dX4_makeFirstGoodMove_79 : decode cX4_makeFirstGoodMove 79 = .ok (.goto (-69), 3) := by decide +kernel
theorem dX4_makeFirstGoodMove_82 : decode cX4_makeFirstGoodMove 82 = .ok (.iconst 0, 1) := by decide +kernel
theorem dX4_makeFirstGoodMove_83 : decode cX4_makeFirstGoodMove 83 = .ok (.ireturn, 1) := by decide +kernel
theorem dX4_moveIfGood_0 : decode cX4_moveIfGood 0 = .ok (.aload_n 0, 1) := by decide +kernel
theorem dX4_moveIfGood_1 : decode cX4_moveIfGood 1 = .ok (.iload_n 1, 1) := by decide +kernel
theorem dX4_moveIfGood_2 : decode cX4_moveIfGood 2 = .ok (.iload_n 2, 1) := by decide +kernel
theorem dX4_moveIfGood_3 : decode cX4_moveIfGood 3 = .ok (.invokevirtual 110, 3) := by decide +kernel
theorem dX4_moveIfGood_6 : decode cX4_moveIfGood 6 = .ok (.aload_n 0, 1) := by decide +kernel
theorem dX4_moveIfGood_7 : decode cX4_moveIfGood 7 = .ok (.iload_n 1, 1) := by decide +kernel
theorem dX4_moveIfGood_8 : decode cX4_moveIfGood 8 = .ok (.iload_n 3, 1) := by decide +kernel
theorem dX4_moveIfGood_9 : decode cX4_moveIfGood 9 = .ok (.invokevirtual 69, 3) := by decide +kernel
theorem dX4_moveIfGood_12 : decode cX4_moveIfGood 12 = .ok (.ifCond .ne 27, 3) := by decide +kernel
theorem dX4_moveIfGood_15 : decode cX4_moveIfGood 15 = .ok (.aload_n 0, 1) := by decide +kernel
theorem dX4_moveIfGood_16 : decode cX4_moveIfGood 16 = .ok (.getfield 32, 3) := by decide +kernel
theorem dX4_moveIfGood_19 : decode cX4_moveIfGood 19 = .ok (.invokevirtual 89, 3) := by decide +kernel
theorem dX4_moveIfGood_22 : decode cX4_moveIfGood 22 = .ok (.iload 4, 2) := by decide +kernel
theorem dX4_moveIfGood_24 : decode cX4_moveIfGood 24 = .ok (.if_icmp .ge 5, 3) := by decide +kernel
theorem dX4_moveIfGood_27 : decode cX4_moveIfGood 27 = .ok (.iconst 1, 1) := by decide +kernel
theorem dX4_moveIfGood_28 : decode cX4_moveIfGood 28 = .ok (.ireturn, 1) := by decide +kernel
theorem dX4_moveIfGood_29 : decode cX4_moveIfGood 29 = .ok (.aload_n 0, 1) := by decide +kernel
theorem dX4_moveIfGood_30 : decode cX4_moveIfGood 30 = .ok (.getfield 28, 3) := by decide +kernel
theorem dX4_moveIfGood_33 : decode cX4_moveIfGood 33 = .ok (.iload_n 3, 1) := by decide +kernel
theorem dX4_moveIfGood_34 : decode cX4_moveIfGood 34 = .ok (.bipush 8, 2) := by decide +kernel
theorem dX4_moveIfGood_36 : decode cX4_moveIfGood 36 = .ok (.invokevirtual 62, 3) := by decide +kernel
theorem dX4_moveIfGood_39 : decode cX4_moveIfGood 39 = .ok (.aload_n 0, 1) := by decide +kernel
theorem dX4_moveIfGood_40 : decode cX4_moveIfGood 40 = .ok (.getfield 28, 3) := by decide +kernel
theorem dX4_moveIfGood_43 : decode cX4_moveIfGood 43 = .ok (.iload_n 2, 1) := by decide +kernel
theorem dX4_moveIfGood_44 : decode cX4_moveIfGood 44 = .ok (.bipush 9, 2) := by decide +kernel
theorem dX4_moveIfGood_46 : decode cX4_moveIfGood 46 = .ok (.invokevirtual 62, 3) := by decide +kernel
theorem dX4_moveIfGood_49 : decode cX4_moveIfGood 49 = .ok (.iconst 0, 1) := by decide +kernel
theorem dX4_moveIfGood_50 : decode cX4_moveIfGood 50 = .ok (.ireturn, 1) := by decide +kernel
theorem dX4_makeFirstGoodTrade_0 : decode cX4_makeFirstGoodTrade 0 = .ok (.aload_n 0, 1) := by decide +kernel
theorem dX4_makeFirstGoodTrade_1 : decode cX4_makeFirstGoodTrade 1 = .ok (.getfield 32, 3) := by decide +kernel
theorem dX4_makeFirstGoodTrade_4 : decode cX4_makeFirstGoodTrade 4 = .ok (.invokevirtual 89, 3) := by decide +kernel
theorem dX4_makeFirstGoodTrade_7 : decode cX4_makeFirstGoodTrade 7 = .ok (.istore_n 1, 1) := by decide +kernel
theorem dX4_makeFirstGoodTrade_8 : decode cX4_makeFirstGoodTrade 8 = .ok (.iconst 0, 1) := by decide +kernel
theorem dX4_makeFirstGoodTrade_9 : decode cX4_makeFirstGoodTrade 9 = .ok (.istore_n 2, 1) := by decide +kernel
theorem dX4_makeFirstGoodTrade_10 : decode cX4_makeFirstGoodTrade 10 = .ok (.iload_n 2, 1) := by decide +kernel
theorem dX4_makeFirstGoodTrade_11 : decode cX4_makeFirstGoodTrade 11 = .ok (.aload_n 0, 1) := by decide +kernel
theorem dX4_makeFirstGoodTrade_12 : decode cX4_makeFirstGoodTrade 12 = .ok (.getfield 28, 3) := by decide +kernel
theorem dX4_makeFirstGoodTrade_15 : decode cX4_makeFirstGoodTrade 15 = .ok (.getfield 103, 3) := by decide +kernel
theorem dX4_makeFirstGoodTrade_18 : decode cX4_makeFirstGoodTrade 18 = .ok (.if_icmp .ge 71, 3) := by decide +kernel
theorem dX4_makeFirstGoodTrade_21 : decode cX4_makeFirstGoodTrade 21 = .ok (.iload_n 2, 1) := by decide +kernel
theorem dX4_makeFirstGoodTrade_22 : decode cX4_makeFirstGoodTrade 22 = .ok (.iconst 1, 1) := by decide +kernel
theorem dX4_makeFirstGoodTrade_23 : decode cX4_makeFirstGoodTrade 23 = .ok (.iadd, 1) := by decide +kernel
theorem dX4_makeFirstGoodTrade_24 : decode cX4_makeFirstGoodTrade 24 = .ok (.istore_n 3, 1) := by decide +kernel
theorem dX4_makeFirstGoodTrade_25 : decode cX4_makeFirstGoodTrade 25 = .ok (.iload_n 3, 1) := by decide +kernel
theorem dX4_makeFirstGoodTrade_26 : decode cX4_makeFirstGoodTrade 26 = .ok (.aload_n 0, 1) := by decide +kernel
theorem dX4_makeFirstGoodTrade_27 : decode cX4_makeFirstGoodTrade 27 = .ok (.getfield 28, 3) := by decide +kernel
theorem dX4_makeFirstGoodTrade_30 : decode cX4_makeFirstGoodTrade 30 = .ok (.getfield 103, 3) := by decide +kernel
theorem dX4_makeFirstGoodTrade_33 : decode cX4_makeFirstGoodTrade 33 = .ok (.if_icmp .ge 50, 3) := by decide +kernel
theorem dX4_makeFirstGoodTrade_36 : decode cX4_makeFirstGoodTrade 36 = .ok (.aload_n 0, 1) := by decide +kernel
theorem dX4_makeFirstGoodTrade_37 : decode cX4_makeFirstGoodTrade 37 = .ok (.getfield 28, 3) := by decide +kernel
theorem dX4_makeFirstGoodTrade_40 : decode cX4_makeFirstGoodTrade 40 = .ok (.iload_n 2, 1) := by decide +kernel
theorem dX4_makeFirstGoodTrade_41 : decode cX4_makeFirstGoodTrade 41 = .ok (.iload_n 3, 1) := by decide +kernel
theorem dX4_makeFirstGoodTrade_42 : decode cX4_makeFirstGoodTrade 42 = .ok (.invokevirtual 62, 3) := by decide +kernel
theorem dX4_makeFirstGoodTrade_45 : decode cX4_makeFirstGoodTrade 45 = .ok (.aload_n 0, 1) := by decide +kernel
theorem dX4_makeFirstGoodTrade_46 : decode cX4_makeFirstGoodTrade 46 = .ok (.getfield 28, 3) := by decide +kernel
theorem dX4_makeFirstGoodTrade_49 : decode cX4_makeFirstGoodTrade 49 = .ok (.invokevirtual 66, 3) := by decide +kernel
theorem dX4_makeFirstGoodTrade_52 : decode cX4_makeFirstGoodTrade 52 = .ok (.ifCond .eq 16, 3) := by decide +kernel
theorem dX4_makeFirstGoodTrade_55 : decode cX4_makeFirstGoodTrade 55 = .ok (.aload_n 0, 1) := by decide +kernel
theorem dX4_makeFirstGoodTrade_56 : decode cX4_makeFirstGoodTrade 56 = .ok (.getfield 32, 3) := by decide +kernel
theorem dX4_makeFirstGoodTrade_59 : decode cX4_makeFirstGoodTrade 59 = .ok (.invokevirtual 89, 3) := by decide +kernel
theorem dX4_makeFirstGoodTrade_62 : decode cX4_makeFirstGoodTrade 62 = .ok (.iload_n 1, 1) := by decide +kernel
theorem dX4_makeFirstGoodTrade_63 : decode cX4_makeFirstGoodTrade 63 = .ok (.if_icmp .ge 5, 3) := by decide +kernel
theorem dX4_makeFirstGoodTrade_66 : decode cX4_makeFirstGoodTrade 66 = .ok (.iconst 1, 1) := by decide +kernel
theorem dX4_makeFirstGoodTrade_67 : decode cX4_makeFirstGoodTrade 67 = .ok (.ireturn, 1) := by decide +kernel
theorem dX4_makeFirstGoodTrade_68 : decode cX4_makeFirstGoodTrade 68 = .ok (.aload_n 0, 1) := by decide +kernel
theorem dX4_makeFirstGoodTrade_69 : decode cX4_makeFirstGoodTrade 69 = .ok (.getfield 28, 3) := by decide +kernel
theorem dX4_makeFirstGoodTrade_72 : decode cX4_makeFirstGoodTrade 72 = .ok (.iload_n 2, 1) := by decide +kernel
theorem dX4_makeFirstGoodTrade_73 : decode cX4_makeFirstGoodTrade 73 = .ok (.iload_n 3, 1) := by decide +kernel
theorem dX4_makeFirstGoodTrade_74 : decode cX4_makeFirstGoodTrade 74 = .ok (.invokevirtual 62, 3) := by decide +kernel
theorem dX4_makeFirstGoodTrade_77 : decode cX4_makeFirstGoodTrade 77 = .ok (.iinc 3 1, 3) := by decide +kernel
theorem dX4_makeFirstGoodTrade_80 : decode cX4_makeFirstGoodTrade 80 = .ok (.goto (-55), 3) := by decide +kernel
theorem dX4_makeFirstGoodTrade_83 : decode cX4_makeFirstGoodTrade 83 = .ok (.iinc 2 1, 3) := by decide +kernel
theorem dX4_makeFirstGoodTrade_86 : decode cX4_makeFirstGoodTrade 86 = .ok (.goto (-76), 3) := by decide +kernel
theorem dX4_makeFirstGoodTrade_89 : decode cX4_makeFirstGoodTrade 89 = .ok (.iconst 0, 1) := by decide +kernel
theorem dX4_makeFirstGoodTrade_90 : decode cX4_makeFirstGoodTrade 90 = .ok (.ireturn, 1) := by decide +kernel
theorem dX4_takeBestOrder_0 : decode cX4_takeBestOrder 0 = .ok (.iconst 0, 1) := by decide +kernel
theorem dX4_takeBestOrder_1 : decode cX4_takeBestOrder 1 = .ok (.istore_n 1, 1) := by decide +kernel
theorem dX4_takeBestOrder_2 : decode cX4_takeBestOrder 2 = .ok (.iload_n 1, 1) := by decide +kernel
theorem dX4_takeBestOrder_3 : decode cX4_takeBestOrder 3 = .ok (.aload_n 0, 1) := by decide +kernel
theorem dX4_takeBestOrder_4 : decode cX4_takeBestOrder 4 = .ok (.getfield 28, 3) := by decide +kernel
theorem dX4_takeBestOrder_7 : decode cX4_takeBestOrder 7 = .ok (.getfield 103, 3) := by decide +kernel
theorem dX4_takeBestOrder_10 : decode cX4_takeBestOrder 10 = .ok (.if_icmp .ge 38, 3) := by decide +kernel
theorem dX4_takeBestOrder_13 : decode cX4_takeBestOrder 13 = .ok (.aload_n 0, 1) := by decide +kernel
theorem dX4_takeBestOrder_14 : decode cX4_takeBestOrder 14 = .ok (.getfield 11, 3) := by decide +kernel
theorem dX4_takeBestOrder_17 : decode cX4_takeBestOrder 17 = .ok (.iload_n 1, 1) := by decide +kernel
theorem dX4_takeBestOrder_18 : decode cX4_takeBestOrder 18 = .ok (.aload_n 0, 1) := by decide +kernel
theorem dX4_takeBestOrder_19 : decode cX4_takeBestOrder 19 = .ok (.getfield 28, 3) := by decide +kernel
theorem dX4_takeBestOrder_22 : decode cX4_takeBestOrder 22 = .ok (.getfield 45, 3) := by decide +kernel
theorem dX4_takeBestOrder_25 : decode cX4_takeBestOrder 25 = .ok (.iload_n 1, 1) := by decide +kernel
theorem dX4_takeBestOrder_26 : decode cX4_takeBestOrder 26 = .ok (.aaload, 1) := by decide +kernel
theorem dX4_takeBestOrder_27 : decode cX4_takeBestOrder 27 = .ok (.aastore, 1) := by decide +kernel
theorem dX4_takeBestOrder_28 : decode cX4_takeBestOrder 28 = .ok (.aload_n 0, 1) := by decide +kernel
theorem dX4_takeBestOrder_29 : decode cX4_takeBestOrder 29 = .ok (.getfield 17, 3) := by decide +kernel
theorem dX4_takeBestOrder_32 : decode cX4_takeBestOrder 32 = .ok (.iload_n 1, 1) := by decide +kernel
theorem dX4_takeBestOrder_33 : decode cX4_takeBestOrder 33 = .ok (.iload_n 1, 1) := by decide +kernel
theorem dX4_takeBestOrder_34 : decode cX4_takeBestOrder 34 = .ok (.iastore, 1) := by decide +kernel
theorem dX4_takeBestOrder_35 : decode cX4_takeBestOrder 35 = .ok (.aload_n 0, 1) := by decide +kernel
theorem dX4_takeBestOrder_36 : decode cX4_takeBestOrder 36 = .ok (.getfield 21, 3) := by decide +kernel
theorem dX4_takeBestOrder_39 : decode cX4_takeBestOrder 39 = .ok (.iload_n 1, 1) := by decide +kernel
theorem dX4_takeBestOrder_40 : decode cX4_takeBestOrder 40 = .ok (.iload_n 1, 1) := by decide +kernel
theorem dX4_takeBestOrder_41 : decode cX4_takeBestOrder 41 = .ok (.iastore, 1) := by decide +kernel
theorem dX4_takeBestOrder_42 : decode cX4_takeBestOrder 42 = .ok (.iinc 1 1, 3) := by decide +kernel
theorem dX4_takeBestOrder_45 : decode cX4_takeBestOrder 45 = .ok (.goto (-43), 3) := by decide +kernel
theorem dX4_takeBestOrder_48 : decode cX4_takeBestOrder 48 = .ok (.aload_n 0, 1) := by decide +kernel
theorem dX4_takeBestOrder_49 : decode cX4_takeBestOrder 49 = .ok (.getfield 32, 3) := by decide +kernel
theorem dX4_takeBestOrder_52 : decode cX4_takeBestOrder 52 = .ok (.invokevirtual 89, 3) := by decide +kernel
theorem dX4_takeBestOrder_55 : decode cX4_takeBestOrder 55 = .ok (.istore_n 1, 1) := by decide +kernel
theorem dX4_takeBestOrder_56 : decode cX4_takeBestOrder 56 = .ok (.iconst 1, 1) := by decide +kernel
theorem dX4_takeBestOrder_57 : decode cX4_takeBestOrder 57 = .ok (.istore_n 2, 1) := by decide +kernel
theorem dX4_takeBestOrder_58 : decode cX4_takeBestOrder 58 = .ok (.iload_n 2, 1) := by decide +kernel
theorem dX4_takeBestOrder_59 : decode cX4_takeBestOrder 59 = .ok (.sipush 720, 3) := by decide +kernel
theorem dX4_takeBestOrder_62 : decode cX4_takeBestOrder 62 = .ok (.if_icmp .ge 80, 3) := by decide +kernel
theorem dX4_takeBestOrder_65 : decode cX4_takeBestOrder 65 = .ok (.aload_n 0, 1) := by decide +kernel
theorem dX4_takeBestOrder_66 : decode cX4_takeBestOrder 66 = .ok (.aload_n 0, 1) := by decide +kernel
theorem dX4_takeBestOrder_67 : decode cX4_takeBestOrder 67 = .ok (.getfield 28, 3) := by decide +kernel
theorem dX4_takeBestOrder_70 : decode cX4_takeBestOrder 70 = .ok (.getfield 103, 3) := by decide +kernel
theorem dX4_takeBestOrder_73 : decode cX4_takeBestOrder 73 = .ok (.invokevirtual 113, 3) := by decide +kernel
theorem dX4_takeBestOrder_76 : decode cX4_takeBestOrder 76 = .ok (.ifCond .eq 66, 3) := by decide +kernel
theorem dX4_takeBestOrder_79 : decode cX4_takeBestOrder 79 = .ok (.aload_n 0, 1) := by decide +kernel
theorem dX4_takeBestOrder_80 : decode cX4_takeBestOrder 80 = .ok (.aload_n 0, 1) := by decide +kernel
theorem dX4_takeBestOrder_81 : decode cX4_takeBestOrder 81 = .ok (.getfield 17, 3) := by decide +kernel
theorem dX4_takeBestOrder_84 : decode cX4_takeBestOrder 84 = .ok (.invokevirtual 117, 3) := by decide +kernel
theorem dX4_takeBestOrder_87 : decode cX4_takeBestOrder 87 = .ok (.aload_n 0, 1) := by decide +kernel
theorem dX4_takeBestOrder_88 : decode cX4_takeBestOrder 88 = .ok (.getfield 28, 3) := by decide +kernel
theorem dX4_takeBestOrder_91 : decode cX4_takeBestOrder 91 = .ok (.invokevirtual 66, 3) := by decide +kernel
theorem dX4_takeBestOrder_94 : decode cX4_takeBestOrder 94 = .ok (.ifCond .eq 42, 3) := by decide +kernel
theorem dX4_takeBestOrder_97 : decode cX4_takeBestOrder 97 = .ok (.aload_n 0, 1) := by decide +kernel
theorem dX4_takeBestOrder_98 : decode cX4_takeBestOrder 98 = .ok (.getfield 32, 3) := by decide +kernel
theorem dX4_takeBestOrder_101 : decode cX4_takeBestOrder 101 = .ok (.invokevirtual 89, 3) := by decide +kernel
theorem dX4_takeBestOrder_104 : decode cX4_takeBestOrder 104 = .ok (.iload_n 1, 1) := by decide +kernel
theorem dX4_takeBestOrder_105 : decode cX4_takeBestOrder 105 = .ok (.if_icmp .ge 31, 3) := by decide +kernel
theorem dX4_takeBestOrder_108 : decode cX4_takeBestOrder 108 = .ok (.aload_n 0, 1) := by decide +kernel
theorem dX4_takeBestOrder_109 : decode cX4_takeBestOrder 109 = .ok (.getfield 32, 3) := by decide +kernel
theorem dX4_takeBestOrder_112 : decode cX4_takeBestOrder 112 = .ok (.invokevirtual 89, 3) := by decide +kernel
theorem dX4_takeBestOrder_115 : decode cX4_takeBestOrder 115 = .ok (.istore_n 1, 1) := by decide +kernel
theorem dX4_takeBestOrder_116 : decode cX4_takeBestOrder 116 = .ok (.aload_n 0, 1) := by decide +kernel
theorem dX4_takeBestOrder_117 : decode cX4_takeBestOrder 117 = .ok (.getfield 17, 3) := by decide +kernel
theorem dX4_takeBestOrder_120 : decode cX4_takeBestOrder 120 = .ok (.iconst 0, 1) := by decide +kernel
theorem dX4_takeBestOrder_121 : decode cX4_takeBestOrder 121 = .ok (.aload_n 0, 1) := by decide +kernel
theorem dX4_takeBestOrder_122 : decode cX4_takeBestOrder 122 = .ok (.getfield 21, 3) := by decide +kernel
theorem dX4_takeBestOrder_125 : decode cX4_takeBestOrder 125 = .ok (.iconst 0, 1) := by decide +kernel
theorem dX4_takeBestOrder_126 : decode cX4_takeBestOrder 126 = .ok (.aload_n 0, 1) := by decide +kernel
theorem dX4_takeBestOrder_127 : decode cX4_takeBestOrder 127 = .ok (.getfield 28, 3) := by decide +kernel
theorem dX4_takeBestOrder_130 : decode cX4_takeBestOrder 130 = .ok (.getfield 103, 3) := by decide +kernel
theorem dX4_takeBestOrder_133 : decode cX4_takeBestOrder 133 = .ok (.invokestatic 121, 3) := by decide +kernel
theorem dX4_takeBestOrder_136 : decode cX4_takeBestOrder 136 = .ok (.iinc 2 1, 3) := by decide +kernel
theorem dX4_takeBestOrder_139 : decode cX4_takeBestOrder 139 = .ok (.goto (-81), 3) := by decide +kernel
theorem dX4_takeBestOrder_142 : decode cX4_takeBestOrder 142 = .ok (.aload_n 0, 1) := by decide +kernel
theorem dX4_takeBestOrder_143 : decode cX4_takeBestOrder 143 = .ok (.aload_n 0, 1) := by decide +kernel
theorem dX4_takeBestOrder_144 : decode cX4_takeBestOrder 144 = .ok (.getfield 21, 3) := by decide +kernel
theorem dX4_takeBestOrder_147 : decode cX4_takeBestOrder 147 = .ok (.invokevirtual 117, 3) := by decide +kernel
theorem dX4_takeBestOrder_150 : decode cX4_takeBestOrder 150 = .ok (.iload_n 1, 1) := by decide +kernel
theorem dX4_takeBestOrder_151 : decode cX4_takeBestOrder 151 = .ok (.ireturn, 1) := by decide +kernel
theorem dX4_giveRows_0 : decode cX4_giveRows 0 = .ok (.iconst 0, 1) := by decide +kernel
theorem dX4_giveRows_1 : decode cX4_giveRows 1 = .ok (.istore_n 2, 1) := by decide +kernel
theorem dX4_giveRows_2 : decode cX4_giveRows 2 = .ok (.iload_n 2, 1) := by decide +kernel
theorem dX4_giveRows_3 : decode cX4_giveRows 3 = .ok (.aload_n 0, 1) := by decide +kernel
theorem dX4_giveRows_4 : decode cX4_giveRows 4 = .ok (.getfield 28, 3) := by decide +kernel
theorem dX4_giveRows_7 : decode cX4_giveRows 7 = .ok (.getfield 103, 3) := by decide +kernel
theorem dX4_giveRows_10 : decode cX4_giveRows 10 = .ok (.if_icmp .ge 26, 3) := by decide +kernel
theorem dX4_giveRows_13 : decode cX4_giveRows 13 = .ok (.aload_n 0, 1) := by decide +kernel
theorem dX4_giveRows_14 : decode cX4_giveRows 14 = .ok (.getfield 28, 3) := by decide +kernel
theorem dX4_giveRows_17 : decode cX4_giveRows 17 = .ok (.getfield 45, 3) := by decide +kernel
theorem dX4_giveRows_20 : decode cX4_giveRows 20 = .ok (.iload_n 2, 1) := by decide +kernel
theorem dX4_giveRows_21 : decode cX4_giveRows 21 = .ok (.aload_n 0, 1) := by decide +kernel
theorem dX4_giveRows_22 : decode cX4_giveRows 22 = .ok (.getfield 11, 3) := by decide +kernel
theorem dX4_giveRows_25 : decode cX4_giveRows 25 = .ok (.aload_n 1, 1) := by decide +kernel
theorem dX4_giveRows_26 : decode cX4_giveRows 26 = .ok (.iload_n 2, 1) := by decide +kernel
theorem dX4_giveRows_27 : decode cX4_giveRows 27 = .ok (.iaload, 1) := by decide +kernel
theorem dX4_giveRows_28 : decode cX4_giveRows 28 = .ok (.aaload, 1) := by decide +kernel
theorem dX4_giveRows_29 : decode cX4_giveRows 29 = .ok (.aastore, 1) := by decide +kernel
theorem dX4_giveRows_30 : decode cX4_giveRows 30 = .ok (.iinc 2 1, 3) := by decide +kernel
theorem dX4_giveRows_33 : decode cX4_giveRows 33 = .ok (.goto (-31), 3) := by decide +kernel
theorem dX4_giveRows_36 : decode cX4_giveRows 36 = .ok (.return_, 1) := by decide +kernel
theorem dX4_toNextTurns_0 : decode cX4_toNextTurns 0 = .ok (.iload_n 1, 1) := by decide +kernel
theorem dX4_toNextTurns_1 : decode cX4_toNextTurns 1 = .ok (.iconst 2, 1) := by decide +kernel
theorem dX4_toNextTurns_2 : decode cX4_toNextTurns 2 = .ok (.isub, 1) := by decide +kernel
theorem dX4_toNextTurns_3 : decode cX4_toNextTurns 3 = .ok (.istore_n 2, 1) := by decide +kernel
theorem dX4_toNextTurns_4 : decode cX4_toNextTurns 4 = .ok (.iload_n 2, 1) := by decide +kernel
theorem dX4_toNextTurns_5 : decode cX4_toNextTurns 5 = .ok (.ifCond .lt 26, 3) := by decide +kernel
theorem dX4_toNextTurns_8 : decode cX4_toNextTurns 8 = .ok (.aload_n 0, 1) := by decide +kernel
theorem dX4_toNextTurns_9 : decode cX4_toNextTurns 9 = .ok (.getfield 17, 3) := by decide +kernel
theorem dX4_toNextTurns_12 : decode cX4_toNextTurns 12 = .ok (.iload_n 2, 1) := by decide +kernel
theorem dX4_toNextTurns_13 : decode cX4_toNextTurns 13 = .ok (.iaload, 1) := by decide +kernel
theorem dX4_toNextTurns_14 : decode cX4_toNextTurns 14 = .ok (.aload_n 0, 1) := by decide +kernel
theorem dX4_toNextTurns_15 : decode cX4_toNextTurns 15 = .ok (.getfield 17, 3) := by decide +kernel
theorem dX4_toNextTurns_18 : decode cX4_toNextTurns 18 = .ok (.iload_n 2, 1) := by decide +kernel
theorem dX4_toNextTurns_19 : decode cX4_toNextTurns 19 = .ok (.iconst 1, 1) := by decide +kernel
theorem dX4_toNextTurns_20 : decode cX4_toNextTurns 20 = .ok (.iadd, 1) := by decide +kernel
theorem dX4_toNextTurns_21 : decode cX4_toNextTurns 21 = .ok (.iaload, 1) := by decide +kernel
theorem dX4_toNextTurns_22 : decode cX4_toNextTurns 22 = .ok (.if_icmp .le 9, 3) := by decide +kernel
theorem dX4_toNextTurns_25 : decode cX4_toNextTurns 25 = .ok (.iinc 2 (-1), 3) := by decide +kernel
theorem dX4_toNextTurns_28 : decode cX4_toNextTurns 28 = .ok (.goto (-24), 3) := by decide +kernel
theorem dX4_toNextTurns_31 : decode cX4_toNextTurns 31 = .ok (.iload_n 2, 1) := by decide +kernel
theorem dX4_toNextTurns_32 : decode cX4_toNextTurns 32 = .ok (.ifCond .ge 5, 3) := by decide +kernel
theorem dX4_toNextTurns_35 : decode cX4_toNextTurns 35 = .ok (.iconst 0, 1) := by decide +kernel
theorem dX4_toNextTurns_36 : decode cX4_toNextTurns 36 = .ok (.ireturn, 1) := by decide +kernel
theorem dX4_toNextTurns_37 : decode cX4_toNextTurns 37 = .ok (.iload_n 1, 1) := by decide +kernel
theorem dX4_toNextTurns_38 : decode cX4_toNextTurns 38 = .ok (.iconst 1, 1) := by decide +kernel
theorem dX4_toNextTurns_39 : decode cX4_toNextTurns 39 = .ok (.isub, 1) := by decide +kernel
theorem dX4_toNextTurns_40 : decode cX4_toNextTurns 40 = .ok (.istore_n 3, 1) := by decide +kernel
theorem dX4_toNextTurns_41 : decode cX4_toNextTurns 41 = .ok (.iload_n 3, 1) := by decide +kernel
theorem dX4_toNextTurns_42 : decode cX4_toNextTurns 42 = .ok (.iload_n 2, 1) := by decide +kernel
theorem dX4_toNextTurns_43 : decode cX4_toNextTurns 43 = .ok (.if_icmp .le 24, 3) := by decide +kernel
theorem dX4_toNextTurns_46 : decode cX4_toNextTurns 46 = .ok (.aload_n 0, 1) := by decide +kernel
theorem dX4_toNextTurns_47 : decode cX4_toNextTurns 47 = .ok (.getfield 17, 3) := by decide +kernel
theorem dX4_toNextTurns_50 : decode cX4_toNextTurns 50 = .ok (.iload_n 3, 1) := by decide +kernel
theorem dX4_toNextTurns_51 : decode cX4_toNextTurns 51 = .ok (.iaload, 1) := by decide +kernel
theorem dX4_toNextTurns_52 : decode cX4_toNextTurns 52 = .ok (.aload_n 0, 1) := by decide +kernel
theorem dX4_toNextTurns_53 : decode cX4_toNextTurns 53 = .ok (.getfield 17, 3) := by decide +kernel
theorem dX4_toNextTurns_56 : decode cX4_toNextTurns 56 = .ok (.iload_n 2, 1) := by decide +kernel
theorem dX4_toNextTurns_57 : decode cX4_toNextTurns 57 = .ok (.iaload, 1) := by decide +kernel
theorem dX4_toNextTurns_58 : decode cX4_toNextTurns 58 = .ok (.if_icmp .ge 9, 3) := by decide +kernel
theorem dX4_toNextTurns_61 : decode cX4_toNextTurns 61 = .ok (.iinc 3 (-1), 3) := by decide +kernel
theorem dX4_toNextTurns_64 : decode cX4_toNextTurns 64 = .ok (.goto (-23), 3) := by decide +kernel
theorem dX4_toNextTurns_67 : decode cX4_toNextTurns 67 = .ok (.aload_n 0, 1) := by decide +kernel
theorem dX4_toNextTurns_68 : decode cX4_toNextTurns 68 = .ok (.iload_n 2, 1) := by decide +kernel
theorem dX4_toNextTurns_69 : decode cX4_toNextTurns 69 = .ok (.iload_n 3, 1) := by decide +kernel
theorem dX4_toNextTurns_70 : decode cX4_toNextTurns 70 = .ok (.invokevirtual 127, 3) := by decide +kernel
theorem dX4_toNextTurns_73 : decode cX4_toNextTurns 73 = .ok (.iload_n 1, 1) := by decide +kernel
theorem dX4_toNextTurns_74 : decode cX4_toNextTurns 74 = .ok (.iconst 1, 1) := by decide +kernel
theorem dX4_toNextTurns_75 : decode cX4_toNextTurns 75 = .ok (.isub, 1) := by decide +kernel
theorem dX4_toNextTurns_76 : decode cX4_toNextTurns 76 = .ok (.iload_n 2, 1) := by decide +kernel
theorem dX4_toNextTurns_77 : decode cX4_toNextTurns 77 = .ok (.isub, 1) := by decide +kernel
theorem dX4_toNextTurns_78 : decode cX4_toNextTurns 78 = .ok (.istore 4, 2) := by decide +kernel
theorem dX4_toNextTurns_80 : decode cX4_toNextTurns 80 = .ok (.iconst 0, 1) := by decide +kernel
theorem dX4_toNextTurns_81 : decode cX4_toNextTurns 81 = .ok (.istore 5, 2) := by decide +kernel
theorem dX4_toNextTurns_83 : decode cX4_toNextTurns 83 = .ok (.iload 5, 2) := by decide +kernel
theorem dX4_toNextTurns_85 : decode cX4_toNextTurns 85 = .ok (.iload 4, 2) := by decide +kernel
theorem dX4_toNextTurns_87 : decode cX4_toNextTurns 87 = .ok (.iconst 2, 1) := by decide +kernel
theorem dX4_toNextTurns_88 : decode cX4_toNextTurns 88 = .ok (.idiv, 1) := by decide +kernel
theorem dX4_toNextTurns_89 : decode cX4_toNextTurns 89 = .ok (.if_icmp .ge 25, 3) := by decide +kernel
theorem dX4_toNextTurns_92 : decode cX4_toNextTurns 92 = .ok (.aload_n 0, 1) := by decide +kernel
theorem dX4_toNextTurns_93 : decode cX4_toNextTurns 93 = .ok (.iload_n 2, 1) := by decide +kernel
theorem dX4_toNextTurns_94 : decode cX4_toNextTurns 94 = .ok (.iconst 1, 1) := by decide +kernel
theorem dX4_toNextTurns_95 : decode cX4_toNextTurns 95 = .ok (.iadd, 1) := by decide +kernel
theorem dX4_toNextTurns_96 : decode cX4_toNextTurns 96 = .ok (.iload 5, 2) := by decide +kernel
theorem dX4_toNextTurns_98 : decode cX4_toNextTurns 98 = .ok (.iadd, 1) := by decide +kernel
theorem dX4_toNextTurns_99 : decode cX4_toNextTurns 99 = .ok (.iload_n 1, 1) := by decide +kernel
theorem dX4_toNextTurns_100 : decode cX4_toNextTurns 100 = .ok (.iconst 1, 1) := by decide +kernel
theorem dX4_toNextTurns_101 : decode cX4_toNextTurns 101 = .ok (.isub, 1) := by decide +kernel
theorem dX4_toNextTurns_102 : decode cX4_toNextTurns 102 = .ok (.iload 5, 2) := by decide +kernel
theorem dX4_toNextTurns_104 : decode cX4_toNextTurns 104 = .ok (.isub, 1) := by decide +kernel
theorem dX4_toNextTurns_105 : decode cX4_toNextTurns 105 = .ok (.invokevirtual 127, 3) := by decide +kernel
theorem dX4_toNextTurns_108 : decode cX4_toNextTurns 108 = .ok (.iinc 5 1, 3) := by decide +kernel
theorem dX4_toNextTurns_111 : decode cX4_toNextTurns 111 = .ok (.goto (-28), 3) := by decide +kernel
theorem dX4_toNextTurns_114 : decode cX4_toNextTurns 114 = .ok (.iconst 1, 1) := by decide +kernel
theorem dX4_toNextTurns_115 : decode cX4_toNextTurns 115 = .ok (.ireturn, 1) := by decide +kernel
theorem dX4_swapTurns_0 : decode cX4_swapTurns 0 = .ok (.aload_n 0, 1) := by decide +kernel
theorem dX4_swapTurns_1 : decode cX4_swapTurns 1 = .ok (.getfield 17, 3) := by decide +kernel
theorem dX4_swapTurns_4 : decode cX4_swapTurns 4 = .ok (.iload_n 1, 1) := by decide +kernel
theorem dX4_swapTurns_5 : decode cX4_swapTurns 5 = .ok (.iaload, 1) := by decide +kernel
theorem dX4_swapTurns_6 : decode cX4_swapTurns 6 = .ok (.istore_n 3, 1) := by decide +kernel
theorem dX4_swapTurns_7 : decode cX4_swapTurns 7 = .ok (.aload_n 0, 1) := by decide +kernel
theorem dX4_swapTurns_8 : decode cX4_swapTurns 8 = .ok (.getfield 17, 3) := by decide +kernel
theorem dX4_swapTurns_11 : decode cX4_swapTurns 11 = .ok (.iload_n 1, 1) := by decide +kernel
theorem dX4_swapTurns_12 : decode cX4_swapTurns 12 = .ok (.aload_n 0, 1) := by decide +kernel
theorem dX4_swapTurns_13 : decode cX4_swapTurns 13 = .ok (.getfield 17, 3) := by decide +kernel
theorem dX4_swapTurns_16 : decode cX4_swapTurns 16 = .ok (.iload_n 2, 1) := by decide +kernel
theorem dX4_swapTurns_17 : decode cX4_swapTurns 17 = .ok (.iaload, 1) := by decide +kernel
theorem dX4_swapTurns_18 : decode cX4_swapTurns 18 = .ok (.iastore, 1) := by decide +kernel
theorem dX4_swapTurns_19 : decode cX4_swapTurns 19 = .ok (.aload_n 0, 1) := by decide +kernel
theorem dX4_swapTurns_20 : decode cX4_swapTurns 20 = .ok (.getfield 17, 3) := by decide +kernel
theorem dX4_swapTurns_23 : decode cX4_swapTurns 23 = .ok (.iload_n 2, 1) := by decide +kernel
theorem dX4_swapTurns_24 : decode cX4_swapTurns 24 = .ok (.iload_n 3, 1) := by decide +kernel
theorem dX4_swapTurns_25 : decode cX4_swapTurns 25 = .ok (.iastore, 1) := by decide +kernel
theorem dX4_swapTurns_26 : decode cX4_swapTurns 26 = .ok (.return_, 1) := by decide +kernel
theorem dX4_clearOutScenes_0 : decode cX4_clearOutScenes 0 = .ok (.aload_n 0, 1) := by decide +kernel
theorem dX4_clearOutScenes_1 : decode cX4_clearOutScenes 1 = .ok (.getfield 28, 3) := by decide +kernel
theorem dX4_clearOutScenes_4 : decode cX4_clearOutScenes 4 = .ok (.getfield 45, 3) := by decide +kernel
theorem dX4_clearOutScenes_7 : decode cX4_clearOutScenes 7 = .ok (.iload_n 1, 1) := by decide +kernel
theorem dX4_clearOutScenes_8 : decode cX4_clearOutScenes 8 = .ok (.aaload, 1) := by decide +kernel
theorem dX4_clearOutScenes_9 : decode cX4_clearOutScenes 9 = .ok (.getfield 54, 3) := by decide +kernel
theorem dX4_clearOutScenes_12 : decode cX4_clearOutScenes 12 = .ok (.istore_n 2, 1) := by decide +kernel
theorem dX4_clearOutScenes_13 : decode cX4_clearOutScenes 13 = .ok (.iconst 0, 1) := by decide +kernel
theorem dX4_clearOutScenes_14 : decode cX4_clearOutScenes 14 = .ok (.istore_n 3, 1) := by decide +kernel
theorem dX4_clearOutScenes_15 : decode cX4_clearOutScenes 15 = .ok (.iconst 0, 1) := by decide +kernel
theorem dX4_clearOutScenes_16 : decode cX4_clearOutScenes 16 = .ok (.istore 4, 2) := by decide +kernel
theorem dX4_clearOutScenes_18 : decode cX4_clearOutScenes 18 = .ok (.iload 4, 2) := by decide +kernel
theorem dX4_clearOutScenes_20 : decode cX4_clearOutScenes 20 = .ok (.aload_n 0, 1) := by decide +kernel
theorem dX4_clearOutScenes_21 : decode cX4_clearOutScenes 21 = .ok (.getfield 24, 3) := by decide +kernel
theorem dX4_clearOutScenes_24 : decode cX4_clearOutScenes 24 = .ok (.getfield 95, 3) := by decide +kernel
theorem dX4_clearOutScenes_27 : decode cX4_clearOutScenes 27 = .ok (.if_icmp .ge 42, 3) := by decide +kernel
theorem dX4_clearOutScenes_30 : decode cX4_clearOutScenes 30 = .ok (.iload_n 2, 1) := by decide +kernel
theorem dX4_clearOutScenes_31 : decode cX4_clearOutScenes 31 = .ok (.iload 4, 2) := by decide +kernel
theorem dX4_clearOutScenes_33 : decode cX4_clearOutScenes 33 = .ok (.invokestatic 130, 3) := by decide +kernel
theorem dX4_clearOutScenes_36 : decode cX4_clearOutScenes 36 = .ok (.ifCond .eq 27, 3) := by decide +kernel
theorem dX4_clearOutScenes_39 : decode cX4_clearOutScenes 39 = .ok (.aload_n 0, 1) := by decide +kernel
theorem dX4_clearOutScenes_40 : decode cX4_clearOutScenes 40 = .ok (.getfield 24, 3) := by decide +kernel
theorem dX4_clearOutScenes_43 : decode cX4_clearOutScenes 43 = .ok (.getfield 134, 3) := by decide +kernel
theorem dX4_clearOutScenes_46 : decode cX4_clearOutScenes 46 = .ok (.iload 4, 2) := by decide +kernel
theorem dX4_clearOutScenes_48 : decode cX4_clearOutScenes 48 = .ok (.iaload, 1) := by decide +kernel
theorem dX4_clearOutScenes_49 : decode cX4_clearOutScenes 49 = .ok (.iconst 1, 1) := by decide +kernel
theorem dX4_clearOutScenes_50 : decode cX4_clearOutScenes 50 = .ok (.if_icmp .ne 13, 3) := by decide +kernel
theorem dX4_clearOutScenes_53 : decode cX4_clearOutScenes 53 = .ok (.aload_n 0, 1) := by decide +kernel
theorem dX4_clearOutScenes_54 : decode cX4_clearOutScenes 54 = .ok (.iload 4, 2) := by decide +kernel
theorem dX4_clearOutScenes_56 : decode cX4_clearOutScenes 56 = .ok (.iload_n 1, 1) := by decide +kernel
theorem dX4_clearOutScenes_57 : decode cX4_clearOutScenes 57 = .ok (.invokevirtual 110, 3) := by decide +kernel
theorem dX4_clearOutScenes_60 : decode cX4_clearOutScenes 60 = .ok (.iinc 3 1, 3) := by decide +kernel
theorem dX4_clearOutScenes_63 : decode cX4_clearOutScenes 63 = .ok (.iinc 4 1, 3) := by decide +kernel
theorem dX4_clearOutScenes_66 : decode cX4_clearOutScenes 66 = .ok (.goto (-48), 3) := by decide +kernel
theorem dX4_clearOutScenes_69 : decode cX4_clearOutScenes 69 = .ok (.iload_n 3, 1) := by decide +kernel
theorem dX4_clearOutScenes_70 : decode cX4_clearOutScenes 70 = .ok (.ireturn, 1) := by decide +kernel
theorem dX4_fillWithIndoorScenes_0 : decode cX4_fillWithIndoorScenes 0 = .ok (.iconst 0, 1) := by decide +kernel
theorem dX4_fillWithIndoorScenes_1 : decode cX4_fillWithIndoorScenes 1 = .ok (.istore_n 2, 1) := by decide +kernel
theorem dX4_fillWithIndoorScenes_2 : decode cX4_fillWithIndoorScenes 2 = .ok (.iconst 0, 1) := by decide +kernel
theorem dX4_fillWithIndoorScenes_3 : decode cX4_fillWithIndoorScenes 3 = .ok (.istore_n 3, 1) := by decide +kernel
theorem dX4_fillWithIndoorScenes_4 : decode cX4_fillWithIndoorScenes 4 = .ok (.iload_n 3, 1) := by decide +kernel
theorem dX4_fillWithIndoorScenes_5 : decode cX4_fillWithIndoorScenes 5 = .ok (.aload_n 0, 1) := by decide +kernel
theorem dX4_fillWithIndoorScenes_6 : decode cX4_fillWithIndoorScenes 6 = .ok (.getfield 24, 3) := by decide +kernel
theorem dX4_fillWithIndoorScenes_9 : decode cX4_fillWithIndoorScenes 9 = .ok (.getfield 95, 3) := by decide +kernel
theorem dX4_fillWithIndoorScenes_12 : decode cX4_fillWithIndoorScenes 12 = .ok (.if_icmp .ge 57, 3) := by decide +kernel
theorem dX4_fillWithIndoorScenes_15 : decode cX4_fillWithIndoorScenes 15 = .ok (.aload_n 0, 1) := by decide +kernel
theorem dX4_fillWithIndoorScenes_16 : decode cX4_fillWithIndoorScenes 16 = .ok (.getfield 24, 3) := by decide +kernel
theorem dX4_fillWithIndoorScenes_19 : decode cX4_fillWithIndoorScenes 19 = .ok (.getfield 134, 3) := by decide +kernel
theorem dX4_fillWithIndoorScenes_22 : decode cX4_fillWithIndoorScenes 22 = .ok (.iload_n 3, 1) := by decide +kernel
theorem dX4_fillWithIndoorScenes_23 : decode cX4_fillWithIndoorScenes 23 = .ok (.iaload, 1) := by decide +kernel
theorem dX4_fillWithIndoorScenes_24 : decode cX4_fillWithIndoorScenes 24 = .ok (.ifCond .ne 19, 3) := by decide +kernel
theorem dX4_fillWithIndoorScenes_27 : decode cX4_fillWithIndoorScenes 27 = .ok (.aload_n 0, 1) := by decide +kernel
theorem dX4_fillWithIndoorScenes_28 : decode cX4_fillWithIndoorScenes 28 = .ok (.getfield 28, 3) := by decide +kernel
theorem dX4_fillWithIndoorScenes_31 : decode cX4_fillWithIndoorScenes 31 = .ok (.iload_n 3, 1) := by decide +kernel
theorem dX4_fillWithIndoorScenes_32 : decode cX4_fillWithIndoorScenes 32 = .ok (.invokevirtual 99, 3) := by decide +kernel
theorem dX4_fillWithIndoorScenes_35 : decode cX4_fillWithIndoorScenes 35 = .ok (.iconst (-1), 1) := by decide +kernel
theorem dX4_fillWithIndoorScenes_36 : decode cX4_fillWithIndoorScenes 36 = .ok (.if_icmp .ne 7, 3) := by decide +kernel
theorem dX4_fillWithIndoorScenes_39 : decode cX4_fillWithIndoorScenes 39 = .ok (.iconst 1, 1) := by decide +kernel
theorem dX4_fillWithIndoorScenes_40 : decode cX4_fillWithIndoorScenes 40 = .ok (.goto 4, 3) := by decide +kernel
theorem dX4_fillWithIndoorScenes_43 : decode cX4_fillWithIndoorScenes 43 = .ok (.iconst 0, 1) := by decide +kernel
theorem dX4_fillWithIndoorScenes_44 : decode cX4_fillWithIndoorScenes 44 = .ok (.istore 4, 2) := by decide +kernel
theorem dX4_fillWithIndoorScenes_46 : decode cX4_fillWithIndoorScenes 46 = .ok (.iload 4, 2) := by decide +kernel
theorem dX4_fillWithIndoorScenes_48 : decode cX4_fillWithIndoorScenes 48 = .ok (.ifCond .eq 15, 3) := by decide +kernel
theorem dX4_fillWithIndoorScenes_51 : decode cX4_fillWithIndoorScenes 51 = .ok (.aload_n 0, 1) := by decide +kernel
theorem dX4_fillWithIndoorScenes_52 : decode cX4_fillWithIndoorScenes 52 = .ok (.iload_n 3, 1) := by decide +kernel
theorem dX4_fillWithIndoorScenes_53 : decode cX4_fillWithIndoorScenes 53 = .ok (.iload_n 1, 1) := by decide +kernel
theorem dX4_fillWithIndoorScenes_54 : decode cX4_fillWithIndoorScenes 54 = .ok (.invokevirtual 69, 3) := by decide +kernel
theorem dX4_fillWithIndoorScenes_57 : decode cX4_fillWithIndoorScenes 57 = .ok (.ifCond .ne 6, 3) := by decide +kernel
theorem dX4_fillWithIndoorScenes_60 : decode cX4_fillWithIndoorScenes 60 = .ok (.iinc 2 1, 3) := by decide +kernel
theorem dX4_fillWithIndoorScenes_63 : decode cX4_fillWithIndoorScenes 63 = .ok (.iinc 3 1, 3) := by decide +kernel
theorem dX4_fillWithIndoorScenes_66 : decode cX4_fillWithIndoorScenes 66 = .ok (.goto (-62), 3) := by decide +kernel
theorem dX4_fillWithIndoorScenes_69 : decode cX4_fillWithIndoorScenes 69 = .ok (.iload_n 2, 1) := by decide +kernel
theorem dX4_fillWithIndoorScenes_70 : decode cX4_fillWithIndoorScenes 70 = .ok (.ireturn, 1) := by decide +kernel
theorem dX5_init_0 : decode cX5_init 0 = .ok (.aload_n 0, 1) := by decide +kernel
theorem dX5_init_1 : decode cX5_init 1 = .ok (.invokespecial 3, 3) := by decide +kernel
theorem dX5_init_4 : decode cX5_init 4 = .ok (.aload_n 0, 1) := by decide +kernel
theorem dX5_init_5 : decode cX5_init 5 = .ok (.iconst 5, 1) := by decide +kernel
theorem dX5_init_6 : decode cX5_init 6 = .ok (.newarray .int, 2) := by decide +kernel
theorem dX5_init_8 : decode cX5_init 8 = .ok (.putfield 9, 3) := by decide +kernel
theorem dX5_init_11 : decode cX5_init 11 = .ok (.aload_n 0, 1) := by decide +kernel
theorem dX5_init_12 : decode cX5_init 12 = .ok (.iconst 1, 1) := by decide +kernel
theorem dX5_init_13 : decode cX5_init 13 = .ok (.putfield 15, 3) := by decide +kernel
theorem dX5_init_16 : decode cX5_init 16 = .ok (.return_, 1) := by decide +kernel
theorem dX5_sceneAt_0 : decode cX5_sceneAt 0 = .ok (.iload_n 1, 1) := by decide +kernel
theorem dX5_sceneAt_1 : decode cX5_sceneAt 1 = .ok (.ifCond .lt 20, 3) := by decide +kernel
theorem dX5_sceneAt_4 : decode cX5_sceneAt 4 = .ok (.iload_n 1, 1) := by decide +kernel
theorem dX5_sceneAt_5 : decode cX5_sceneAt 5 = .ok (.aload_n 0, 1) := by decide +kernel
theorem dX5_sceneAt_6 : decode cX5_sceneAt 6 = .ok (.getfield 19, 3) := by decide +kernel
theorem dX5_sceneAt_9 : decode cX5_sceneAt 9 = .ok (.if_icmp .ge 12, 3) := by decide +kernel
theorem dX5_sceneAt_12 : decode cX5_sceneAt 12 = .ok (.aload_n 0, 1) := by decide +kernel
theorem dX5_sceneAt_13 : decode cX5_sceneAt 13 = .ok (.getfield 9, 3) := by decide +kernel
theorem dX5_sceneAt_16 : decode cX5_sceneAt 16 = .ok (.iload_n 1, 1) := by decide +kernel
theorem dX5_sceneAt_17 : decode cX5_sceneAt 17 = .ok (.iaload, 1) := by decide +kernel
theorem dX5_sceneAt_18 : decode cX5_sceneAt 18 = .ok (.goto 4, 3) := by decide +kernel
theorem dX5_sceneAt_21 : decode cX5_sceneAt 21 = .ok (.iconst (-1), 1) := by decide +kernel
theorem dX5_sceneAt_22 : decode cX5_sceneAt 22 = .ok (.ireturn, 1) := by decide +kernel
theorem dX5_isFull_0 : decode cX5_isFull 0 = .ok (.aload_n 0, 1) := by decide +kernel
theorem dX5_isFull_1 : decode cX5_isFull 1 = .ok (.getfield 19, 3) := by decide +kernel
theorem dX5_isFull_4 : decode cX5_isFull 4 = .ok (.iconst 5, 1) := by decide +kernel
theorem dX5_isFull_5 : decode cX5_isFull 5 = .ok (.if_icmp .lt 7, 3) := by decide +kernel
theorem dX5_isFull_8 : decode cX5_isFull 8 = .ok (.iconst 1, 1) := by decide +kernel
theorem dX5_isFull_9 : decode cX5_isFull 9 = .ok (.goto 4, 3) := by decide +kernel
theorem dX5_isFull_12 : decode cX5_isFull 12 = .ok (.iconst 0, 1) := by decide +kernel
theorem dX5_isFull_13 : decode cX5_isFull 13 = .ok (.ireturn, 1) := by decide +kernel
theorem dX5_clear_0 : decode cX5_clear 0 = .ok (.aload_n 0, 1) := by decide +kernel
theorem dX5_clear_1 : decode cX5_clear 1 = .ok (.iconst 0, 1) := by decide +kernel
theorem dX5_clear_2 : decode cX5_clear 2 = .ok (.putfield 19, 3) := by decide +kernel
theorem dX5_clear_5 : decode cX5_clear 5 = .ok (.return_, 1) := by decide +kernel
theorem dX5_append_0 : decode cX5_append 0 = .ok (.aload_n 0, 1) := by decide +kernel
theorem dX5_append_1 : decode cX5_append 1 = .ok (.getfield 19, 3) := by decide +kernel
theorem dX5_append_4 : decode cX5_append 4 = .ok (.iconst 5, 1) := by decide +kernel
theorem dX5_append_5 : decode cX5_append 5 = .ok (.if_icmp .ge 23, 3) := by decide +kernel
theorem dX5_append_8 : decode cX5_append 8 = .ok (.aload_n 0, 1) := by decide +kernel
theorem dX5_append_9 : decode cX5_append 9 = .ok (.getfield 9, 3) := by decide +kernel
theorem dX5_append_12 : decode cX5_append 12 = .ok (.aload_n 0, 1) := by decide +kernel
theorem dX5_append_13 : decode cX5_append 13 = .ok (.getfield 19, 3) := by decide +kernel
theorem dX5_append_16 : decode cX5_append 16 = .ok (.iload_n 1, 1) := by decide +kernel
theorem dX5_append_17 : decode cX5_append 17 = .ok (.iastore, 1) := by decide +kernel
theorem dX5_append_18 : decode cX5_append 18 = .ok (.aload_n 0, 1) := by decide +kernel
theorem dX5_append_19 : decode cX5_append 19 = .ok (.dup, 1) := by decide +kernel
theorem dX5_append_20 : decode cX5_append 20 = .ok (.getfield 19, 3) := by decide +kernel
theorem dX5_append_23 : decode cX5_append 23 = .ok (.iconst 1, 1) := by decide +kernel
theorem dX5_append_24 : decode cX5_append 24 = .ok (.iadd, 1) := by decide +kernel
theorem dX5_append_25 : decode cX5_append 25 = .ok (.putfield 19, 3) := by decide +kernel
theorem dX5_append_28 : decode cX5_append 28 = .ok (.return_, 1) := by decide +kernel
theorem dX5_measure_0 : decode cX5_measure 0 = .ok (.aload_n 0, 1) := by decide +kernel
theorem dX5_measure_1 : decode cX5_measure 1 = .ok (.invokevirtual 23, 3) := by decide +kernel
theorem dX5_measure_4 : decode cX5_measure 4 = .ok (.iconst 0, 1) := by decide +kernel
theorem dX5_measure_5 : decode cX5_measure 5 = .ok (.istore_n 2, 1) := by decide +kernel
theorem dX5_measure_6 : decode cX5_measure 6 = .ok (.iload_n 2, 1) := by decide +kernel
theorem dX5_measure_7 : decode cX5_measure 7 = .ok (.aload_n 0, 1) := by decide +kernel
theorem dX5_measure_8 : decode cX5_measure 8 = .ok (.getfield 19, 3) := by decide +kernel
theorem dX5_measure_11 : decode cX5_measure 11 = .ok (.if_icmp .ge 51, 3) := by decide +kernel
theorem dX5_measure_14 : decode cX5_measure 14 = .ok (.aload_n 0, 1) := by decide +kernel
theorem dX5_measure_15 : decode cX5_measure 15 = .ok (.aload_n 1, 1) := by decide +kernel
theorem dX5_measure_16 : decode cX5_measure 16 = .ok (.aload_n 0, 1) := by decide +kernel
theorem dX5_measure_17 : decode cX5_measure 17 = .ok (.getfield 9, 3) := by decide +kernel
theorem dX5_measure_20 : decode cX5_measure 20 = .ok (.iload_n 2, 1) := by decide +kernel
theorem dX5_measure_21 : decode cX5_measure 21 = .ok (.iaload, 1) := by decide +kernel
theorem dX5_measure_22 : decode cX5_measure 22 = .ok (.invokevirtual 26, 3) := by decide +kernel
theorem dX5_measure_25 : decode cX5_measure 25 = .ok (.iload_n 2, 1) := by decide +kernel
theorem dX5_measure_26 : decode cX5_measure 26 = .ok (.ifCond .le 30, 3) := by decide +kernel
theorem dX5_measure_29 : decode cX5_measure 29 = .ok (.aload_n 0, 1) := by decide +kernel
theorem dX5_measure_30 : decode cX5_measure 30 = .ok (.dup, 1) := by decide +kernel
theorem dX5_measure_31 : decode cX5_measure 31 = .ok (.getfield 30, 3) := by decide +kernel
theorem dX5_measure_34 : decode cX5_measure 34 = .ok (.aload_n 1, 1) := by decide +kernel
theorem dX5_measure_35 : decode cX5_measure 35 = .ok (.aload_n 0, 1) := by decide +kernel
theorem dX5_measure_36 : decode cX5_measure 36 = .ok (.getfield 9, 3) := by decide +kernel
theorem dX5_measure_39 : decode cX5_measure 39 = .ok (.iload_n 2, 1) := by decide +kernel
theorem dX5_measure_40 : decode cX5_measure 40 = .ok (.iconst 1, 1) := by decide +kernel
theorem dX5_measure_41 : decode cX5_measure 41 = .ok (.isub, 1) := by decide +kernel
theorem dX5_measure_42 : decode cX5_measure 42 = .ok (.iaload, 1) := by decide +kernel
theorem dX5_measure_43 : decode cX5_measure 43 = .ok (.aload_n 0, 1) := by decide +kernel
theorem dX5_measure_44 : decode cX5_measure 44 = .ok (.getfield 9, 3) := by decide +kernel
theorem dX5_measure_47 : decode cX5_measure 47 = .ok (.iload_n 2, 1) := by decide +kernel
theorem dX5_measure_48 : decode cX5_measure 48 = .ok (.iaload, 1) := by decide +kernel
theorem dX5_measure_49 : decode cX5_measure 49 = .ok (.invokevirtual 33, 3) := by decide +kernel
theorem dX5_measure_52 : decode cX5_measure 52 = .ok (.iadd, 1) := by decide +kernel
theorem dX5_measure_53 : decode cX5_measure 53 = .ok (.putfield 30, 3) := by decide +kernel
theorem dX5_measure_56 : decode cX5_measure 56 = .ok (.iinc 2 1, 3) := by decide +kernel
theorem dX5_measure_59 : decode cX5_measure 59 = .ok (.goto (-53), 3) := by decide +kernel
theorem dX5_measure_62 : decode cX5_measure 62 = .ok (.aload_n 0, 1) := by decide +kernel
theorem dX5_measure_63 : decode cX5_measure 63 = .ok (.aload_n 0, 1) := by decide +kernel
theorem dX5_measure_64 : decode cX5_measure 64 = .ok (.aload_n 1, 1) := by decide +kernel
theorem dX5_measure_65 : decode cX5_measure 65 = .ok (.invokevirtual 39, 3) := by decide +kernel
theorem dX5_measure_68 : decode cX5_measure 68 = .ok (.putfield 15, 3) := by decide +kernel
theorem dX5_measure_71 : decode cX5_measure 71 = .ok (.return_, 1) := by decide +kernel
theorem dX5_forget_0 : decode cX5_forget 0 = .ok (.aload_n 0, 1) := by decide +kernel
theorem dX5_forget_1 : decode cX5_forget 1 = .ok (.iconst 0, 1) := by decide +kernel
theorem dX5_forget_2 : decode cX5_forget 2 = .ok (.putfield 43, 3) := by decide +kernel
theorem dX5_forget_5 : decode cX5_forget 5 = .ok (.aload_n 0, 1) := by decide +kernel
theorem dX5_forget_6 : decode cX5_forget 6 = .ok (.iconst 0, 1) := by decide +kernel
theorem dX5_forget_7 : decode cX5_forget 7 = .ok (.putfield 46, 3) := by decide +kernel
theorem dX5_forget_10 : decode cX5_forget 10 = .ok (.aload_n 0, 1) := by decide +kernel
theorem dX5_forget_11 : decode cX5_forget 11 = .ok (.iconst 0, 1) := by decide +kernel
theorem dX5_forget_12 : decode cX5_forget 12 = .ok (.putfield 30, 3) := by decide +kernel
theorem dX5_forget_15 : decode cX5_forget 15 = .ok (.aload_n 0, 1) := by decide +kernel
theorem dX5_forget_16 : decode cX5_forget 16 = .ok (.iconst 0, 1) := by decide +kernel
theorem dX5_forget_17 : decode cX5_forget 17 = .ok (.putfield 49, 3) := by decide +kernel
theorem dX5_forget_20 : decode cX5_forget 20 = .ok (.aload_n 0, 1) := by decide +kernel
theorem dX5_forget_21 : decode cX5_forget 21 = .ok (.iconst 0, 1) := by decide +kernel
theorem dX5_forget_22 : decode cX5_forget 22 = .ok (.putfield 52, 3) := by decide +kernel
theorem dX5_forget_25 : decode cX5_forget 25 = .ok (.aload_n 0, 1) := by decide +kernel
theorem dX5_forget_26 : decode cX5_forget 26 = .ok (.iconst 0, 1) := by decide +kernel
theorem dX5_forget_27 : decode cX5_forget 27 = .ok (.putfield 55, 3) := by decide +kernel
theorem dX5_forget_30 : decode cX5_forget 30 = .ok (.aload_n 0, 1) := by decide +kernel
theorem dX5_forget_31 : decode cX5_forget 31 = .ok (.iconst 0, 1) := by decide +kernel
theorem dX5_forget_32 : decode cX5_forget 32 = .ok (.putfield 58, 3) := by decide +kernel
theorem dX5_forget_35 : decode cX5_forget 35 = .ok (.return_, 1) := by decide +kernel
theorem dX5_measureScene_0 : decode cX5_measureScene 0 = .ok (.aload_n 0, 1) := by decide +kernel
theorem dX5_measureScene_1 : decode cX5_measureScene 1 = .ok (.dup, 1) := by decide +kernel
theorem dX5_measureScene_2 : decode cX5_measureScene 2 = .ok (.getfield 43, 3) := by decide +kernel
theorem dX5_measureScene_5 : decode cX5_measureScene 5 = .ok (.iconst 1, 1) := by decide +kernel
theorem dX5_measureScene_6 : decode cX5_measureScene 6 = .ok (.iload_n 2, 1) := by decide +kernel
theorem dX5_measureScene_7 : decode cX5_measureScene 7 = .ok (.ishl, 1) := by decide +kernel
theorem dX5_measureScene_8 : decode cX5_measureScene 8 = .ok (.ior, 1) := by decide +kernel
theorem dX5_measureScene_9 : decode cX5_measureScene 9 = .ok (.putfield 43, 3) := by decide +kernel
theorem dX5_measureScene_12 : decode cX5_measureScene 12 = .ok (.aload_n 0, 1) := by decide +kernel
theorem dX5_measureScene_13 : decode cX5_measureScene 13 = .ok (.dup, 1) := by decide +kernel
theorem dX5_measureScene_14 : decode cX5_measureScene 14 = .ok (.getfield 46, 3) := by decide +kernel
theorem dX5_measureScene_17 : decode cX5_measureScene 17 = .ok (.aload_n 1, 1) := by decide +kernel
theorem dX5_measureScene_18 : decode cX5_measureScene 18 = .ok (.getfield 61, 3) := by decide +kernel
theorem dX5_measureScene_21 : decode cX5_measureScene 21 = .ok (.iload_n 2, 1) := by decide +kernel
theorem dX5_measureScene_22 : decode cX5_measureScene 22 = .ok (.iaload, 1) := by decide +kernel
theorem dX5_measureScene_23 : decode cX5_measureScene 23 = .ok (.ior, 1) := by decide +kernel
theorem dX5_measureScene_24 : decode cX5_measureScene 24 = .ok (.putfield 46, 3) := by decide +kernel
theorem dX5_measureScene_27 : decode cX5_measureScene 27 = .ok (.aload_n 0, 1) := by decide +kernel
theorem dX5_measureScene_28 : decode cX5_measureScene 28 = .ok (.dup, 1) := by decide +kernel
theorem dX5_measureScene_29 : decode cX5_measureScene 29 = .ok (.getfield 30, 3) := by decide +kernel
theorem dX5_measureScene_32 : decode cX5_measureScene 32 = .ok (.aload_n 1, 1) := by decide +kernel
theorem dX5_measureScene_33 : decode cX5_measureScene 33 = .ok (.getfield 63, 3) := by decide +kernel
theorem dX5_measureScene_36 : decode cX5_measureScene 36 = .ok (.iload_n 2, 1) := by decide +kernel
theorem dX5_measureScene_37 : decode cX5_measureScene 37 = .ok (.iaload, 1) := by decide +kernel
theorem dX5_measureScene_38 : decode cX5_measureScene 38 = .ok (.iadd, 1) := by decide +kernel
theorem dX5_measureScene_39 : decode cX5_measureScene 39 = .ok (.putfield 30, 3) := by decide +kernel
theorem dX5_measureScene_42 : decode cX5_measureScene 42 = .ok (.aload_n 0, 1) := by decide +kernel
theorem dX5_measureScene_43 : decode cX5_measureScene 43 = .ok (.dup, 1) := by decide +kernel
theorem dX5_measureScene_44 : decode cX5_measureScene 44 = .ok (.getfield 52, 3) := by decide +kernel
theorem dX5_measureScene_47 : decode cX5_measureScene 47 = .ok (.aload_n 1, 1) := by decide +kernel
theorem dX5_measureScene_48 : decode cX5_measureScene 48 = .ok (.getfield 65, 3) := by decide +kernel
theorem dX5_measureScene_51 : decode cX5_measureScene 51 = .ok (.iload_n 2, 1) := by decide +kernel
theorem dX5_measureScene_52 : decode cX5_measureScene 52 = .ok (.iaload, 1) := by decide +kernel
theorem dX5_measureScene_53 : decode cX5_measureScene 53 = .ok (.ior, 1) := by decide +kernel
theorem dX5_measureScene_54 : decode cX5_measureScene 54 = .ok (.putfield 52, 3) := by decide +kernel
theorem dX5_measureScene_57 : decode cX5_measureScene 57 = .ok (.aload_n 0, 1) := by decide +kernel
theorem dX5_measureScene_58 : decode cX5_measureScene 58 = .ok (.dup, 1) := by decide +kernel
theorem dX5_measureScene_59 : decode cX5_measureScene 59 = .ok (.getfield 55, 3) := by decide +kernel
theorem dX5_measureScene_62 : decode cX5_measureScene 62 = .ok (.iconst 1, 1) := by decide +kernel
theorem dX5_measureScene_63 : decode cX5_measureScene 63 = .ok (.aload_n 1, 1) := by decide +kernel
theorem dX5_measureScene_64 : decode cX5_measureScene 64 = .ok (.getfield 67, 3) := by decide +kernel
theorem dX5_measureScene_67 : decode cX5_measureScene 67 = .ok (.iload_n 2, 1) := by decide +kernel
theorem dX5_measureScene_68 : decode cX5_measureScene 68 = .ok (.iaload, 1) := by decide +kernel
theorem dX5_measureScene_69 : decode cX5_measureScene 69 = .ok (.ishl, 1) := by decide +kernel
theorem dX5_measureScene_70 : decode cX5_measureScene 70 = .ok (.ior, 1) := by decide +kernel
theorem dX5_measureScene_71 : decode cX5_measureScene 71 = .ok (.putfield 55, 3) := by decide +kernel
theorem dX5_measureScene_74 : decode cX5_measureScene 74 = .ok (.aload_n 1, 1) := by decide +kernel
theorem dX5_measureScene_75 : decode cX5_measureScene 75 = .ok (.getfield 70, 3) := by decide +kernel
theorem dX5_measureScene_78 : decode cX5_measureScene 78 = .ok (.iload_n 2, 1) := by decide +kernel
theorem dX5_measureScene_79 : decode cX5_measureScene 79 = .ok (.iaload, 1) := by decide +kernel
theorem dX5_measureScene_80 : decode cX5_measureScene 80 = .ok (.iconst 1, 1) := by decide +kernel
theorem dX5_measureScene_81 : decode cX5_measureScene 81 = .ok (.if_icmp .ne 18, 3) := by decide +kernel
theorem dX5_measureScene_84 : decode cX5_measureScene 84 = .ok (.aload_n 0, 1) := by decide +kernel
theorem dX5_measureScene_85 : decode cX5_measureScene 85 = .ok (.dup, 1) := by decide +kernel
theorem dX5_measureScene_86 : decode cX5_measureScene 86 = .ok (.getfield 49, 3) := by decide +kernel
theorem dX5_measureScene_89 : decode cX5_measureScene 89 = .ok (.aload_n 1, 1) := by decide +kernel
theorem dX5_measureScene_90 : decode cX5_measureScene 90 = .ok (.getfield 63, 3) := by decide +kernel
theorem dX5_measureScene_93 : decode cX5_measureScene 93 = .ok (.iload_n 2, 1) := by decide +kernel
theorem dX5_measureScene_94 : decode cX5_measureScene 94 = .ok (.iaload, 1) := by decide +kernel
theorem dX5_measureScene_95 : decode cX5_measureScene 95 = .ok (.iadd, 1) := by decide +kernel
theorem dX5_measureScene_96 : decode cX5_measureScene 96 = .ok (.putfield 49, 3) := by decide +kernel
theorem dX5_measureScene_99 : decode cX5_measureScene 99 = .ok (.aload_n 1, 1) := by decide +kernel
theorem dX5_measureScene_100 : decode cX5_measureScene 100 = .ok (.getfield 70, 3) := by decide +kernel
theorem dX5_measureScene_103 : decode cX5_measureScene 103 = .ok (.iload_n 2, 1) := by decide +kernel
theorem dX5_measureScene_104 : decode cX5_measureScene 104 = .ok (.iaload, 1) := by decide +kernel
theorem dX5_measureScene_105 : decode cX5_measureScene 105 = .ok (.iconst 2, 1) := by decide +kernel
theorem dX5_measureScene_106 : decode cX5_measureScene 106 = .ok (.if_icmp .ne 8, 3) := by decide +kernel
theorem dX5_measureScene_109 : decode cX5_measureScene 109 = .ok (.aload_n 0, 1) := by decide +kernel
theorem dX5_measureScene_110 : decode cX5_measureScene 110 = .ok (.iconst 1, 1) := by decide +kernel
theorem dX5_measureScene_111 : decode cX5_measureScene 111 = .ok (.putfield 58, 3) := by decide +kernel
theorem dX5_measureScene_114 : decode cX5_measureScene 114 = .ok (.return_, 1) := by decide +kernel
theorem dX5_isInTurn_0 : decode cX5_isInTurn 0 = .ok (.aload_n 0, 1) := by decide +kernel
theorem dX5_isInTurn_1 : decode cX5_isInTurn 1 = .ok (.getfield 43, 3) := by decide +kernel
theorem dX5_isInTurn_4 : decode cX5_isInTurn 4 = .ok (.istore_n 2, 1) := by decide +kernel
theorem dX5_isInTurn_5 : decode cX5_isInTurn 5 = .ok (.iconst 0, 1) := by decide +kernel
theorem dX5_isInTurn_6 : decode cX5_isInTurn 6 = .ok (.istore_n 3, 1) := by decide +kernel
theorem dX5_isInTurn_7 : decode cX5_isInTurn 7 = .ok (.iload_n 3, 1) := by decide +kernel
theorem dX5_isInTurn_8 : decode cX5_isInTurn 8 = .ok (.aload_n 0, 1) := by decide +kernel
theorem dX5_isInTurn_9 : decode cX5_isInTurn 9 = .ok (.getfield 19, 3) := by decide +kernel
theorem dX5_isInTurn_12 : decode cX5_isInTurn 12 = .ok (.if_icmp .ge 40, 3) := by decide +kernel
theorem dX5_isInTurn_15 : decode cX5_isInTurn 15 = .ok (.aload_n 1, 1) := by decide +kernel
theorem dX5_isInTurn_16 : decode cX5_isInTurn 16 = .ok (.getfield 61, 3) := by decide +kernel
theorem dX5_isInTurn_19 : decode cX5_isInTurn 19 = .ok (.aload_n 0, 1) := by decide +kernel
theorem dX5_isInTurn_20 : decode cX5_isInTurn 20 = .ok (.getfield 9, 3) := by decide +kernel
theorem dX5_isInTurn_23 : decode cX5_isInTurn 23 = .ok (.iload_n 3, 1) := by decide +kernel
theorem dX5_isInTurn_24 : decode cX5_isInTurn 24 = .ok (.iaload, 1) := by decide +kernel
theorem dX5_isInTurn_25 : decode cX5_isInTurn 25 = .ok (.iaload, 1) := by decide +kernel
theorem dX5_isInTurn_26 : decode cX5_isInTurn 26 = .ok (.iload_n 2, 1) := by decide +kernel
theorem dX5_isInTurn_27 : decode cX5_isInTurn 27 = .ok (.iand, 1) := by decide +kernel
theorem dX5_isInTurn_28 : decode cX5_isInTurn 28 = .ok (.ifCond .eq 5, 3) := by decide +kernel
theorem dX5_isInTurn_31 : decode cX5_isInTurn 31 = .ok (.iconst 0, 1) := by decide +kernel
theorem dX5_isInTurn_32 : decode cX5_isInTurn 32 = .ok (.ireturn, 1) := by decide +kernel
theorem dX5_isInTurn_33 : decode cX5_isInTurn 33 = .ok (.iload_n 2, 1) := by decide +kernel
theorem dX5_isInTurn_34 : decode cX5_isInTurn 34 = .ok (.iconst 1, 1) := by decide +kernel
theorem dX5_isInTurn_35 : decode cX5_isInTurn 35 = .ok (.aload_n 0, 1) := by decide +kernel
theorem dX5_isInTurn_36 : decode cX5_isInTurn 36 = .ok (.getfield 9, 3) := by decide +kernel
theorem dX5_isInTurn_39 : decode cX5_isInTurn 39 = .ok (.iload_n 3, 1) := by decide +kernel
theorem dX5_isInTurn_40 : decode cX5_isInTurn 40 = .ok (.iaload, 1) := by decide +kernel
theorem dX5_isInTurn_41 : decode cX5_isInTurn 41 = .ok (.ishl, 1) := by decide +kernel
theorem dX5_isInTurn_42 : decode cX5_isInTurn 42 = .ok (.iconst (-1), 1) := by decide +kernel
theorem dX5_isInTurn_43 : decode cX5_isInTurn 43 = .ok (.ixor, 1) := by decide +kernel
theorem dX5_isInTurn_44 : decode cX5_isInTurn 44 = .ok (.iand, 1) := by decide +kernel
theorem dX5_isInTurn_45 : decode cX5_isInTurn 45 = .ok (.istore_n 2, 1) := by decide +kernel
theorem dX5_isInTurn_46 : decode cX5_isInTurn 46 = .ok (.iinc 3 1, 3) := by decide +kernel
theorem dX5_isInTurn_49 : decode cX5_isInTurn 49 = .ok (.goto (-42), 3) := by decide +kernel
theorem dX5_isInTurn_52 : decode cX5_isInTurn 52 = .ok (.iconst 1, 1) := by decide +kernel
theorem dX5_isInTurn_53 : decode cX5_isInTurn 53 = .ok (.ireturn, 1) := by decide +kernel
theorem dX5_fitsInto_0 : decode cX5_fitsInto 0 = .ok (.aload_n 0, 1) := by decide +kernel
theorem dX5_fitsInto_1 : decode cX5_fitsInto 1 = .ok (.getfield 30, 3) := by decide +kernel
theorem dX5_fitsInto_4 : decode cX5_fitsInto 4 = .ok (.iload_n 1, 1) := by decide +kernel
theorem dX5_fitsInto_5 : decode cX5_fitsInto 5 = .ok (.if_icmp .gt 15, 3) := by decide +kernel
theorem dX5_fitsInto_8 : decode cX5_fitsInto 8 = .ok (.aload_n 0, 1) := by decide +kernel
theorem dX5_fitsInto_9 : decode cX5_fitsInto 9 = .ok (.getfield 49, 3) := by decide +kernel
theorem dX5_fitsInto_12 : decode cX5_fitsInto 12 = .ok (.iload_n 2, 1) := by decide +kernel
theorem dX5_fitsInto_13 : decode cX5_fitsInto 13 = .ok (.if_icmp .gt 7, 3) := by decide +kernel
theorem dX5_fitsInto_16 : decode cX5_fitsInto 16 = .ok (.iconst 1, 1) := by decide +kernel
theorem dX5_fitsInto_17 : decode cX5_fitsInto 17 = .ok (.goto 4, 3) := by decide +kernel
theorem dX5_fitsInto_20 : decode cX5_fitsInto 20 = .ok (.iconst 0, 1) := by decide +kernel
theorem dX5_fitsInto_21 : decode cX5_fitsInto 21 = .ok (.ireturn, 1) := by decide +kernel
theorem dX5_hasDayLight_0 : decode cX5_hasDayLight 0 = .ok (.aload_n 0, 1) := by decide +kernel
theorem dX5_hasDayLight_1 : decode cX5_hasDayLight 1 = .ok (.getfield 49, 3) := by decide +kernel
theorem dX5_hasDayLight_4 : decode cX5_hasDayLight 4 = .ok (.ifCond .le 7, 3) := by decide +kernel
theorem dX5_hasDayLight_7 : decode cX5_hasDayLight 7 = .ok (.iconst 1, 1) := by decide +kernel
theorem dX5_hasDayLight_8 : decode cX5_hasDayLight 8 = .ok (.goto 4, 3) := by decide +kernel
theorem dX5_hasDayLight_11 : decode cX5_hasDayLight 11 = .ok (.iconst 0, 1) := by decide +kernel
theorem dX5_hasDayLight_12 : decode cX5_hasDayLight 12 = .ok (.ireturn, 1) := by decide +kernel
theorem dX5_halfHoursOver_0 : decode cX5_halfHoursOver 0 = .ok (.aload_n 0, 1) := by decide +kernel
theorem dX5_halfHoursOver_1 : decode cX5_halfHoursOver 1 = .ok (.getfield 30, 3) := by decide +kernel
theorem dX5_halfHoursOver_4 : decode cX5_halfHoursOver 4 = .ok (.sipush 480, 3) := by decide +kernel
theorem dX5_halfHoursOver_7 : decode cX5_halfHoursOver 7 = .ok (.isub, 1) := by decide +kernel
theorem dX5_halfHoursOver_8 : decode cX5_halfHoursOver 8 = .ok (.istore_n 1, 1) := by decide +kernel
theorem dX5_halfHoursOver_9 : decode cX5_halfHoursOver 9 = .ok (.iload_n 1, 1) := by decide +kernel
theorem dX5_halfHoursOver_10 : decode cX5_halfHoursOver 10 = .ok (.ifCond .gt 7, 3) := by decide +kernel
theorem dX5_halfHoursOver_13 : decode cX5_halfHoursOver 13 = .ok (.iconst 0, 1) := by decide +kernel
theorem dX5_halfHoursOver_14 : decode cX5_halfHoursOver 14 = .ok (.goto 12, 3) := by decide +kernel
theorem dX5_halfHoursOver_17 : decode cX5_halfHoursOver 17 = .ok (.iload_n 1, 1) := by decide +kernel
theorem dX5_halfHoursOver_18 : decode cX5_halfHoursOver 18 = .ok (.bipush 30, 2) := by decide +kernel
theorem dX5_halfHoursOver_20 : decode cX5_halfHoursOver 20 = .ok (.iadd, 1) := by decide +kernel
theorem dX5_halfHoursOver_21 : decode cX5_halfHoursOver 21 = .ok (.iconst 1, 1) := by decide +kernel
theorem dX5_halfHoursOver_22 : decode cX5_halfHoursOver 22 = .ok (.isub, 1) := by decide +kernel
theorem dX5_halfHoursOver_23 : decode cX5_halfHoursOver 23 = .ok (.bipush 30, 2) := by decide +kernel
theorem dX5_halfHoursOver_25 : decode cX5_halfHoursOver 25 = .ok (.idiv, 1) := by decide +kernel
theorem dX5_halfHoursOver_26 : decode cX5_halfHoursOver 26 = .ok (.ireturn, 1) := by decide +kernel
theorem dX6_init_0 : decode cX6_init 0 = .ok (.aload_n 0, 1) := by decide +kernel
theorem dX6_init_1 : decode cX6_init 1 = .ok (.invokespecial 1, 3) := by decide +kernel
theorem dX6_init_4 : decode cX6_init 4 = .ok (.aload_n 0, 1) := by decide +kernel
theorem dX6_init_5 : decode cX6_init 5 = .ok (.new 7, 3) := by decide +kernel
theorem dX6_init_8 : decode cX6_init 8 = .ok (.dup, 1) := by decide +kernel
theorem dX6_init_9 : decode cX6_init 9 = .ok (.invokespecial 9, 3) := by decide +kernel
theorem dX6_init_12 : decode cX6_init 12 = .ok (.putfield 10, 3) := by decide +kernel
theorem dX6_init_15 : decode cX6_init 15 = .ok (.aload_n 0, 1) := by decide +kernel
theorem dX6_init_16 : decode cX6_init 16 = .ok (.new 16, 3) := by decide +kernel
theorem dX6_init_19 : decode cX6_init 19 = .ok (.dup, 1) := by decide +kernel
theorem dX6_init_20 : decode cX6_init 20 = .ok (.aload_n 0, 1) := by decide +kernel
theorem dX6_init_21 : decode cX6_init 21 = .ok (.getfield 10, 3) := by decide +kernel
theorem dX6_init_24 : decode cX6_init 24 = .ok (.invokespecial 18, 3) := by decide +kernel
theorem dX6_init_27 : decode cX6_init 27 = .ok (.putfield 21, 3) := by decide +kernel
theorem dX6_init_30 : decode cX6_init 30 = .ok (.aload_n 0, 1) := by decide +kernel
theorem dX6_init_31 : decode cX6_init 31 = .ok (.new 25, 3) := by decide +kernel
theorem dX6_init_34 : decode cX6_init 34 = .ok (.dup, 1) := by decide +kernel
theorem dX6_init_35 : decode cX6_init 35 = .ok (.aload_n 0, 1) := by decide +kernel
theorem dX6_init_36 : decode cX6_init 36 = .ok (.getfield 10, 3) := by decide +kernel
theorem dX6_init_39 : decode cX6_init 39 = .ok (.aload_n 0, 1) := by decide +kernel
theorem dX6_init_40 : decode cX6_init 40 = .ok (.getfield 21, 3) := by decide +kernel
theorem dX6_init_43 : decode cX6_init 43 = .ok (.invokespecial 27, 3) := by decide +kernel
theorem dX6_init_46 : decode cX6_init 46 = .ok (.putfield 30, 3) := by decide +kernel
theorem dX6_init_49 : decode cX6_init 49 = .ok (.aload_n 0, 1) := by decide +kernel
theorem dX6_init_50 : decode cX6_init 50 = .ok (.new 34, 3) := by decide +kernel
theorem dX6_init_53 : decode cX6_init 53 = .ok (.dup, 1) := by decide +kernel
theorem dX6_init_54 : decode cX6_init 54 = .ok (.aload_n 0, 1) := by decide +kernel
theorem dX6_init_55 : decode cX6_init 55 = .ok (.getfield 10, 3) := by decide +kernel
theorem dX6_init_58 : decode cX6_init 58 = .ok (.aload_n 0, 1) := by decide +kernel
theorem dX6_init_59 : decode cX6_init 59 = .ok (.getfield 21, 3) := by decide +kernel
theorem dX6_init_62 : decode cX6_init 62 = .ok (.aload_n 0, 1) := by decide +kernel
theorem dX6_init_63 : decode cX6_init 63 = .ok (.getfield 30, 3) := by decide +kernel
theorem dX6_init_66 : decode cX6_init 66 = .ok (.invokespecial 36, 3) := by decide +kernel
theorem dX6_init_69 : decode cX6_init 69 = .ok (.putfield 39, 3) := by decide +kernel
theorem dX6_init_72 : decode cX6_init 72 = .ok (.return_, 1) := by decide +kernel
theorem dX6_scene_0 : decode cX6_scene 0 = .ok (.iload_n 1, 1) := by decide +kernel
theorem dX6_scene_1 : decode cX6_scene 1 = .ok (.iconst 5, 1) := by decide +kernel
theorem dX6_scene_2 : decode cX6_scene 2 = .ok (.sipush 300, 3) := by decide +kernel
theorem dX6_scene_5 : decode cX6_scene 5 = .ok (.invokestatic 43, 3) := by decide +kernel
theorem dX6_scene_8 : decode cX6_scene 8 = .ok (.ifCond .eq 34, 3) := by decide +kernel
theorem dX6_scene_11 : decode cX6_scene 11 = .ok (.iload_n 3, 1) := by decide +kernel
theorem dX6_scene_12 : decode cX6_scene 12 = .ok (.iconst 0, 1) := by decide +kernel
theorem dX6_scene_13 : decode cX6_scene 13 = .ok (.iconst 2, 1) := by decide +kernel
theorem dX6_scene_14 : decode cX6_scene 14 = .ok (.invokestatic 43, 3) := by decide +kernel
theorem dX6_scene_17 : decode cX6_scene 17 = .ok (.ifCond .eq 25, 3) := by decide +kernel
theorem dX6_scene_20 : decode cX6_scene 20 = .ok (.iload 4, 2) := by decide +kernel
theorem dX6_scene_22 : decode cX6_scene 22 = .ok (.iconst 0, 1) := by decide +kernel
theorem dX6_scene_23 : decode cX6_scene 23 = .ok (.iconst 1, 1) := by decide +kernel
theorem dX6_scene_24 : decode cX6_scene 24 = .ok (.invokestatic 43, 3) := by decide +kernel
theorem dX6_scene_27 : decode cX6_scene 27 = .ok (.ifCond .eq 15, 3) := by decide +kernel
theorem dX6_scene_30 : decode cX6_scene 30 = .ok (.iload 5, 2) := by decide +kernel
theorem dX6_scene_32 : decode cX6_scene 32 = .ok (.iconst 0, 1) := by decide +kernel
theorem dX6_scene_33 : decode cX6_scene 33 = .ok (.sipush 255, 3) := by decide +kernel
theorem dX6_scene_36 : decode cX6_scene 36 = .ok (.invokestatic 43, 3) := by decide +kernel
theorem dX6_scene_39 : decode cX6_scene 39 = .ok (.ifCond .ne 6, 3) := by decide +kernel
theorem dX6_scene_42 : decode cX6_scene 42 = .ok (.bipush (-2), 2) := by decide +kernel
theorem dX6_scene_44 : decode cX6_scene 44 = .ok (.ireturn, 1) := by decide +kernel
theorem dX6_scene_45 : decode cX6_scene 45 = .ok (.iload_n 2, 1) := by decide +kernel
theorem dX6_scene_46 : decode cX6_scene 46 = .ok (.invokestatic 47, 3) := by decide +kernel
theorem dX6_scene_49 : decode cX6_scene 49 = .ok (.ifCond .ne 5, 3) := by decide +kernel
theorem dX6_scene_52 : decode cX6_scene 52 = .ok (.iconst (-1), 1) := by decide +kernel
theorem dX6_scene_53 : decode cX6_scene 53 = .ok (.ireturn, 1) := by decide +kernel
theorem dX6_scene_54 : decode cX6_scene 54 = .ok (.aload_n 0, 1) := by decide +kernel
theorem dX6_scene_55 : decode cX6_scene 55 = .ok (.getfield 10, 3) := by decide +kernel
theorem dX6_scene_58 : decode cX6_scene 58 = .ok (.iload_n 1, 1) := by decide +kernel
theorem dX6_scene_59 : decode cX6_scene 59 = .ok (.iload_n 2, 1) := by decide +kernel
theorem dX6_scene_60 : decode cX6_scene 60 = .ok (.iload_n 3, 1) := by decide +kernel
theorem dX6_scene_61 : decode cX6_scene 61 = .ok (.iload 4, 2) := by decide +kernel
theorem dX6_scene_63 : decode cX6_scene 63 = .ok (.iload 5, 2) := by decide +kernel
theorem dX6_scene_65 : decode cX6_scene 65 = .ok (.invokevirtual 51, 3) := by decide +kernel
theorem dX6_scene_68 : decode cX6_scene 68 = .ok (.ireturn, 1) := by decide +kernel
theorem dX6_player_0 : decode cX6_player 0 = .ok (.iload_n 1, 1) := by decide +kernel
theorem dX6_player_1 : decode cX6_player 1 = .ok (.invokestatic 55, 3) := by decide +kernel
theorem dX6_player_4 : decode cX6_player 4 = .ok (.ifCond .ne 5, 3) := by decide +kernel
theorem dX6_player_7 : decode cX6_player 7 = .ok (.iconst (-1), 1) := by decide +kernel
theorem dX6_player_8 : decode cX6_player 8 = .ok (.ireturn, 1) := by decide +kernel
theorem dX6_player_9 : decode cX6_player 9 = .ok (.iload_n 2, 1) := by decide +kernel
theorem dX6_player_10 : decode cX6_player 10 = .ok (.iconst 0, 1) := by decide +kernel
theorem dX6_player_11 : decode cX6_player 11 = .ok (.sipush 1000, 3) := by decide +kernel
theorem dX6_player_14 : decode cX6_player 14 = .ok (.invokestatic 43, 3) := by decide +kernel
theorem dX6_player_17 : decode cX6_player 17 = .ok (.ifCond .eq 13, 3) := by decide +kernel
theorem dX6_player_20 : decode cX6_player 20 = .ok (.iload_n 3, 1) := by decide +kernel
theorem dX6_player_21 : decode cX6_player 21 = .ok (.iconst 0, 1) := by decide +kernel
theorem dX6_player_22 : decode cX6_player 22 = .ok (.bipush 10, 2) := by decide +kernel
theorem dX6_player_24 : decode cX6_player 24 = .ok (.invokestatic 43, 3) := by decide +kernel
theorem dX6_player_27 : decode cX6_player 27 = .ok (.ifCond .ne 6, 3) := by decide +kernel
theorem dX6_player_30 : decode cX6_player 30 = .ok (.bipush (-2), 2) := by decide +kernel
theorem dX6_player_32 : decode cX6_player 32 = .ok (.ireturn, 1) := by decide +kernel
theorem dX6_player_33 : decode cX6_player 33 = .ok (.aload_n 0, 1) := by decide +kernel
theorem dX6_player_34 : decode cX6_player 34 = .ok (.getfield 10, 3) := by decide +kernel
theorem dX6_player_37 : decode cX6_player 37 = .ok (.getfield 58, 3) := by decide +kernel
theorem dX6_player_40 : decode cX6_player 40 = .ok (.iload_n 1, 1) := by decide +kernel
theorem dX6_player_41 : decode cX6_player 41 = .ok (.iload_n 2, 1) := by decide +kernel
theorem dX6_player_42 : decode cX6_player 42 = .ok (.iastore, 1) := by decide +kernel
theorem dX6_player_43 : decode cX6_player 43 = .ok (.aload_n 0, 1) := by decide +kernel
theorem dX6_player_44 : decode cX6_player 44 = .ok (.getfield 10, 3) := by decide +kernel
theorem dX6_player_47 : decode cX6_player 47 = .ok (.getfield 62, 3) := by decide +kernel
theorem dX6_player_50 : decode cX6_player 50 = .ok (.iload_n 1, 1) := by decide +kernel
theorem dX6_player_51 : decode cX6_player 51 = .ok (.iload_n 3, 1) := by decide +kernel
theorem dX6_player_52 : decode cX6_player 52 = .ok (.iastore, 1) := by decide +kernel
theorem dX6_player_53 : decode cX6_player 53 = .ok (.iconst 0, 1) := by decide +kernel
theorem dX6_player_54 : decode cX6_player 54 = .ok (.ireturn, 1) := by decide +kernel
theorem dX6_rent_0 : decode cX6_rent 0 = .ok (.iload_n 1, 1) := by decide +kernel
theorem dX6_rent_1 : decode cX6_rent 1 = .ok (.invokestatic 47, 3) := by decide +kernel
theorem dX6_rent_4 : decode cX6_rent 4 = .ok (.ifCond .ne 5, 3) := by decide +kernel
theorem dX6_rent_7 : decode cX6_rent 7 = .ok (.iconst (-1), 1) := by decide +kernel
theorem dX6_rent_8 : decode cX6_rent 8 = .ok (.ireturn, 1) := by decide +kernel
theorem dX6_rent_9 : decode cX6_rent 9 = .ok (.iload_n 2, 1) := by decide +kernel
theorem dX6_rent_10 : decode cX6_rent 10 = .ok (.iconst 0, 1) := by decide +kernel
theorem dX6_rent_11 : decode cX6_rent 11 = .ok (.sipush 1000, 3) := by decide +kernel
theorem dX6_rent_14 : decode cX6_rent 14 = .ok (.invokestatic 43, 3) := by decide +kernel
theorem dX6_rent_17 : decode cX6_rent 17 = .ok (.ifCond .ne 6, 3) := by decide +kernel
theorem dX6_rent_20 : decode cX6_rent 20 = .ok (.bipush (-2), 2) := by decide +kernel
theorem dX6_rent_22 : decode cX6_rent 22 = .ok (.ireturn, 1) := by decide +kernel
theorem dX6_rent_23 : decode cX6_rent 23 = .ok (.aload_n 0, 1) := by decide +kernel
theorem dX6_rent_24 : decode cX6_rent 24 = .ok (.getfield 10, 3) := by decide +kernel
theorem dX6_rent_27 : decode cX6_rent 27 = .ok (.getfield 65, 3) := by decide +kernel
theorem dX6_rent_30 : decode cX6_rent 30 = .ok (.iload_n 1, 1) := by decide +kernel
theorem dX6_rent_31 : decode cX6_rent 31 = .ok (.iaload, 1) := by decide +kernel
theorem dX6_rent_32 : decode cX6_rent 32 = .ok (.istore_n 3, 1) := by decide +kernel
theorem dX6_rent_33 : decode cX6_rent 33 = .ok (.aload_n 0, 1) := by decide +kernel
theorem dX6_rent_34 : decode cX6_rent 34 = .ok (.getfield 10, 3) := by decide +kernel
theorem dX6_rent_37 : decode cX6_rent 37 = .ok (.getfield 65, 3) := by decide +kernel
theorem dX6_rent_40 : decode cX6_rent 40 = .ok (.iload_n 1, 1) := by decide +kernel
theorem dX6_rent_41 : decode cX6_rent 41 = .ok (.iload_n 2, 1) := by decide +kernel
theorem dX6_rent_42 : decode cX6_rent 42 = .ok (.iastore, 1) := by decide +kernel
theorem dX6_rent_43 : decode cX6_rent 43 = .ok (.iload_n 3, 1) := by decide +kernel
theorem dX6_rent_44 : decode cX6_rent 44 = .ok (.ireturn, 1) := by decide +kernel
theorem dX6_spot_0 : decode cX6_spot 0 = .ok (.iload_n 1, 1) := by decide +kernel
theorem dX6_spot_1 : decode cX6_spot 1 = .ok (.invokestatic 47, 3) := by decide +kernel
theorem dX6_spot_4 : decode cX6_spot 4 = .ok (.ifCond .ne 5, 3) := by decide +kernel
theorem dX6_spot_7 : decode cX6_spot 7 = .ok (.iconst (-1), 1) := by decide +kernel
theorem dX6_spot_8 : decode cX6_spot 8 = .ok (.ireturn, 1) := by decide +kernel
theorem dX6_spot_9 : decode cX6_spot 9 = .ok (.iload_n 2, 1) := by decide +kernel
theorem dX6_spot_10 : decode cX6_spot 10 = .ok (.iconst 0, 1) := by decide +kernel
theorem dX6_spot_11 : decode cX6_spot 11 = .ok (.bipush 120, 2) := by decide +kernel
theorem dX6_spot_13 : decode cX6_spot 13 = .ok (.invokestatic 43, 3) := by decide +kernel
theorem dX6_spot_16 : decode cX6_spot 16 = .ok (.ifCond .ne 6, 3) := by decide +kernel
theorem dX6_spot_19 : decode cX6_spot 19 = .ok (.bipush (-2), 2) := by decide +kernel
theorem dX6_spot_21 : decode cX6_spot 21 = .ok (.ireturn, 1) := by decide +kernel
theorem dX6_spot_22 : decode cX6_spot 22 = .ok (.aload_n 0, 1) := by decide +kernel
theorem dX6_spot_23 : decode cX6_spot 23 = .ok (.getfield 10, 3) := by decide +kernel
theorem dX6_spot_26 : decode cX6_spot 26 = .ok (.getfield 68, 3) := by decide +kernel
theorem dX6_spot_29 : decode cX6_spot 29 = .ok (.iload_n 1, 1) := by decide +kernel
theorem dX6_spot_30 : decode cX6_spot 30 = .ok (.iaload, 1) := by decide +kernel
theorem dX6_spot_31 : decode cX6_spot 31 = .ok (.istore_n 3, 1) := by decide +kernel
theorem dX6_spot_32 : decode cX6_spot 32 = .ok (.aload_n 0, 1) := by decide +kernel
theorem dX6_spot_33 : decode cX6_spot 33 = .ok (.getfield 10, 3) := by decide +kernel
theorem dX6_spot_36 : decode cX6_spot 36 = .ok (.getfield 68, 3) := by decide +kernel
theorem dX6_spot_39 : decode cX6_spot 39 = .ok (.iload_n 1, 1) := by decide +kernel
theorem dX6_spot_40 : decode cX6_spot 40 = .ok (.iload_n 2, 1) := by decide +kernel
theorem dX6_spot_41 : decode cX6_spot 41 = .ok (.iastore, 1) := by decide +kernel
theorem dX6_spot_42 : decode cX6_spot 42 = .ok (.aload_n 0, 1) := by decide +kernel
theorem dX6_spot_43 : decode cX6_spot 43 = .ok (.getfield 21, 3) := by decide +kernel
theorem dX6_spot_46 : decode cX6_spot 46 = .ok (.invokevirtual 71, 3) := by decide +kernel
theorem dX6_spot_49 : decode cX6_spot 49 = .ok (.aload_n 0, 1) := by decide +kernel
theorem dX6_spot_50 : decode cX6_spot 50 = .ok (.getfield 21, 3) := by decide +kernel
theorem dX6_spot_53 : decode cX6_spot 53 = .ok (.invokevirtual 74, 3) := by decide +kernel
theorem dX6_spot_56 : decode cX6_spot 56 = .ok (.ifCond .eq 5, 3) := by decide +kernel
theorem dX6_spot_59 : decode cX6_spot 59 = .ok (.iload_n 3, 1) := by decide +kernel
theorem dX6_spot_60 : decode cX6_spot 60 = .ok (.ireturn, 1) := by decide +kernel
theorem dX6_spot_61 : decode cX6_spot 61 = .ok (.aload_n 0, 1) := by decide +kernel
theorem dX6_spot_62 : decode cX6_spot 62 = .ok (.getfield 10, 3) := by decide +kernel
theorem dX6_spot_65 : decode cX6_spot 65 = .ok (.getfield 68, 3) := by decide +kernel
theorem dX6_spot_68 : decode cX6_spot 68 = .ok (.iload_n 1, 1) := by decide +kernel
theorem dX6_spot_69 : decode cX6_spot 69 = .ok (.iload_n 3, 1) := by decide +kernel
theorem dX6_spot_70 : decode cX6_spot 70 = .ok (.iastore, 1) := by decide +kernel
theorem dX6_spot_71 : decode cX6_spot 71 = .ok (.aload_n 0, 1) := by decide +kernel
theorem dX6_spot_72 : decode cX6_spot 72 = .ok (.getfield 21, 3) := by decide +kernel
theorem dX6_spot_75 : decode cX6_spot 75 = .ok (.invokevirtual 71, 3) := by decide +kernel
theorem dX6_spot_78 : decode cX6_spot 78 = .ok (.bipush (-3), 2) := by decide +kernel
theorem dX6_spot_80 : decode cX6_spot 80 = .ok (.ireturn, 1) := by decide +kernel
theorem dX6_ahead_0 : decode cX6_ahead 0 = .ok (.aload_n 0, 1) := by decide +kernel
theorem dX6_ahead_1 : decode cX6_ahead 1 = .ok (.getfield 10, 3) := by decide +kernel
theorem dX6_ahead_4 : decode cX6_ahead 4 = .ok (.iload_n 1, 1) := by decide +kernel
theorem dX6_ahead_5 : decode cX6_ahead 5 = .ok (.invokevirtual 78, 3) := by decide +kernel
theorem dX6_ahead_8 : decode cX6_ahead 8 = .ok (.ifCond .eq 14, 3) := by decide +kernel
theorem dX6_ahead_11 : decode cX6_ahead 11 = .ok (.aload_n 0, 1) := by decide +kernel
theorem dX6_ahead_12 : decode cX6_ahead 12 = .ok (.getfield 10, 3) := by decide +kernel
theorem dX6_ahead_15 : decode cX6_ahead 15 = .ok (.iload_n 2, 1) := by decide +kernel
theorem dX6_ahead_16 : decode cX6_ahead 16 = .ok (.invokevirtual 78, 3) := by decide +kernel
theorem dX6_ahead_19 : decode cX6_ahead 19 = .ok (.ifCond .ne 5, 3) := by decide +kernel
theorem dX6_ahead_22 : decode cX6_ahead 22 = .ok (.iconst (-1), 1) := by decide +kernel
theorem dX6_ahead_23 : decode cX6_ahead 23 = .ok (.ireturn, 1) := by decide +kernel
theorem dX6_ahead_24 : decode cX6_ahead 24 = .ok (.iload_n 1, 1) := by decide +kernel
theorem dX6_ahead_25 : decode cX6_ahead 25 = .ok (.iload_n 2, 1) := by decide +kernel
theorem dX6_ahead_26 : decode cX6_ahead 26 = .ok (.if_icmp .eq 18, 3) := by decide +kernel
theorem dX6_ahead_29 : decode cX6_ahead 29 = .ok (.aload_n 0, 1) := by decide +kernel
theorem dX6_ahead_30 : decode cX6_ahead 30 = .ok (.getfield 10, 3) := by decide +kernel
theorem dX6_ahead_33 : decode cX6_ahead 33 = .ok (.iload_n 1, 1) := by decide +kernel
theorem dX6_ahead_34 : decode cX6_ahead 34 = .ok (.invokevirtual 81, 3) := by decide +kernel
theorem dX6_ahead_37 : decode cX6_ahead 37 = .ok (.iload_n 2, 1) := by decide +kernel
theorem dX6_ahead_38 : decode cX6_ahead 38 = .ok (.invokestatic 85, 3) := by decide +kernel
theorem dX6_ahead_41 : decode cX6_ahead 41 = .ok (.ifCond .eq 6, 3) := by decide +kernel
theorem dX6_ahead_44 : decode cX6_ahead 44 = .ok (.bipush (-2), 2) := by decide +kernel
theorem dX6_ahead_46 : decode cX6_ahead 46 = .ok (.ireturn, 1) := by decide +kernel
theorem dX6_ahead_47 : decode cX6_ahead 47 = .ok (.aload_n 0, 1) := by decide +kernel
theorem dX6_ahead_48 : decode cX6_ahead 48 = .ok (.getfield 10, 3) := by decide +kernel
theorem dX6_ahead_51 : decode cX6_ahead 51 = .ok (.getfield 89, 3) := by decide +kernel
theorem dX6_ahead_54 : decode cX6_ahead 54 = .ok (.iload_n 2, 1) := by decide +kernel
theorem dX6_ahead_55 : decode cX6_ahead 55 = .ok (.iaload, 1) := by decide +kernel
theorem dX6_ahead_56 : decode cX6_ahead 56 = .ok (.istore_n 3, 1) := by decide +kernel
theorem dX6_ahead_57 : decode cX6_ahead 57 = .ok (.iload_n 3, 1) := by decide +kernel
theorem dX6_ahead_58 : decode cX6_ahead 58 = .ok (.iload_n 1, 1) := by decide +kernel
theorem dX6_ahead_59 : decode cX6_ahead 59 = .ok (.invokestatic 85, 3) := by decide +kernel
theorem dX6_ahead_62 : decode cX6_ahead 62 = .ok (.ifCond .eq 5, 3) := by decide +kernel
theorem dX6_ahead_65 : decode cX6_ahead 65 = .ok (.iconst 0, 1) := by decide +kernel
theorem dX6_ahead_66 : decode cX6_ahead 66 = .ok (.ireturn, 1) := by decide +kernel
theorem dX6_ahead_67 : decode cX6_ahead 67 = .ok (.aload_n 0, 1) := by decide +kernel
theorem dX6_ahead_68 : decode cX6_ahead 68 = .ok (.getfield 10, 3) := by decide +kernel
theorem dX6_ahead_71 : decode cX6_ahead 71 = .ok (.getfield 89, 3) := by decide +kernel
theorem dX6_ahead_74 : decode cX6_ahead 74 = .ok (.iload_n 2, 1) := by decide +kernel
theorem dX6_ahead_75 : decode cX6_ahead 75 = .ok (.iload_n 3, 1) := by decide +kernel
theorem dX6_ahead_76 : decode cX6_ahead 76 = .ok (.iconst 1, 1) := by decide +kernel
theorem dX6_ahead_77 : decode cX6_ahead 77 = .ok (.iload_n 1, 1) := by decide +kernel
theorem dX6_ahead_78 : decode cX6_ahead 78 = .ok (.ishl, 1) := by decide +kernel
theorem dX6_ahead_79 : decode cX6_ahead 79 = .ok (.ior, 1) := by decide +kernel
theorem dX6_ahead_80 : decode cX6_ahead 80 = .ok (.iastore, 1) := by decide +kernel
theorem dX6_ahead_81 : decode cX6_ahead 81 = .ok (.aload_n 0, 1) := by decide +kernel
theorem dX6_ahead_82 : decode cX6_ahead 82 = .ok (.getfield 21, 3) := by decide +kernel
theorem dX6_ahead_85 : decode cX6_ahead 85 = .ok (.invokevirtual 71, 3) := by decide +kernel
theorem dX6_ahead_88 : decode cX6_ahead 88 = .ok (.aload_n 0, 1) := by decide +kernel
theorem dX6_ahead_89 : decode cX6_ahead 89 = .ok (.getfield 21, 3) := by decide +kernel
theorem dX6_ahead_92 : decode cX6_ahead 92 = .ok (.invokevirtual 74, 3) := by decide +kernel
theorem dX6_ahead_95 : decode cX6_ahead 95 = .ok (.ifCond .eq 5, 3) := by decide +kernel
theorem dX6_ahead_98 : decode cX6_ahead 98 = .ok (.iconst 1, 1) := by decide +kernel
theorem dX6_ahead_99 : decode cX6_ahead 99 = .ok (.ireturn, 1) := by decide +kernel
theorem dX6_ahead_100 : decode cX6_ahead 100 = .ok (.aload_n 0, 1) := by decide +kernel
theorem dX6_ahead_101 : decode cX6_ahead 101 = .ok (.getfield 10, 3) := by decide +kernel
theorem dX6_ahead_104 : decode cX6_ahead 104 = .ok (.getfield 89, 3) := by decide +kernel
theorem dX6_ahead_107 : decode cX6_ahead 107 = .ok (.iload_n 2, 1) := by decide +kernel
theorem dX6_ahead_108 : decode cX6_ahead 108 = .ok (.iload_n 3, 1) := by decide +kernel
theorem dX6_ahead_109 : decode cX6_ahead 109 = .ok (.iastore, 1) := by decide +kernel
theorem dX6_ahead_110 : decode cX6_ahead 110 = .ok (.aload_n 0, 1) := by decide +kernel
theorem dX6_ahead_111 : decode cX6_ahead 111 = .ok (.getfield 21, 3) := by decide +kernel
theorem dX6_ahead_114 : decode cX6_ahead 114 = .ok (.invokevirtual 71, 3) := by decide +kernel
theorem dX6_ahead_117 : decode cX6_ahead 117 = .ok (.bipush (-3), 2) := by decide +kernel
theorem dX6_ahead_119 : decode cX6_ahead 119 = .ok (.ireturn, 1) := by decide +kernel
theorem dX6_day_0 : decode cX6_day 0 = .ok (.iload_n 1, 1) := by decide +kernel
theorem dX6_day_1 : decode cX6_day 1 = .ok (.iload_n 2, 1) := by decide +kernel
theorem dX6_day_2 : decode cX6_day 2 = .ok (.invokestatic 92, 3) := by decide +kernel
theorem dX6_day_5 : decode cX6_day 5 = .ok (.ifCond .ne 6, 3) := by decide +kernel
theorem dX6_day_8 : decode cX6_day 8 = .ok (.bipush (-2), 2) := by decide +kernel
theorem dX6_day_10 : decode cX6_day 10 = .ok (.ireturn, 1) := by decide +kernel
theorem dX6_day_11 : decode cX6_day 11 = .ok (.aload_n 0, 1) := by decide +kernel
theorem dX6_day_12 : decode cX6_day 12 = .ok (.getfield 21, 3) := by decide +kernel
theorem dX6_day_15 : decode cX6_day 15 = .ok (.iload_n 1, 1) := by decide +kernel
theorem dX6_day_16 : decode cX6_day 16 = .ok (.iload_n 2, 1) := by decide +kernel
theorem dX6_day_17 : decode cX6_day 17 = .ok (.invokevirtual 95, 3) := by decide +kernel
theorem dX6_day_20 : decode cX6_day 20 = .ok (.ireturn, 1) := by decide +kernel
theorem dX6_about_0 : decode cX6_about 0 = .ok (.aload_n 0, 1) := by decide +kernel
theorem dX6_about_1 : decode cX6_about 1 = .ok (.getfield 10, 3) := by decide +kernel
theorem dX6_about_4 : decode cX6_about 4 = .ok (.iload_n 1, 1) := by decide +kernel
theorem dX6_about_5 : decode cX6_about 5 = .ok (.invokevirtual 78, 3) := by decide +kernel
theorem dX6_about_8 : decode cX6_about 8 = .ok (.ifCond .ne 5, 3) := by decide +kernel
theorem dX6_about_11 : decode cX6_about 11 = .ok (.iconst (-1), 1) := by decide +kernel
theorem dX6_about_12 : decode cX6_about 12 = .ok (.ireturn, 1) := by decide +kernel
theorem dX6_about_13 : decode cX6_about 13 = .ok (.iload_n 2, 1) := by decide +kernel
theorem dX6_about_14 : decode cX6_about 14 = .ok (.tableswitch 124 0 7 #[46, 56, 66, 76, 86, 96, 105, 114], 46) := by decide +kernel
theorem dX6_about_60 : decode cX6_about 60 = .ok (.aload_n 0, 1) := by decide +kernel
theorem dX6_about_61 : decode cX6_about 61 = .ok (.getfield 10, 3) := by decide +kernel
theorem dX6_about_64 : decode cX6_about 64 = .ok (.getfield 99, 3) := by decide +kernel
theorem dX6_about_67 : decode cX6_about 67 = .ok (.iload_n 1, 1) := by decide +kernel
theorem dX6_about_68 : decode cX6_about 68 = .ok (.iaload, 1) := by decide +kernel
theorem dX6_about_69 : decode cX6_about 69 = .ok (.ireturn, 1) := by decide +kernel
theorem dX6_about_70 : decode cX6_about 70 = .ok (.aload_n 0, 1) := by decide +kernel
theorem dX6_about_71 : decode cX6_about 71 = .ok (.getfield 10, 3) := by decide +kernel
theorem dX6_about_74 : decode cX6_about 74 = .ok (.getfield 102, 3) := by decide +kernel
theorem dX6_about_77 : decode cX6_about 77 = .ok (.iload_n 1, 1) := by decide +kernel
theorem dX6_about_78 : decode cX6_about 78 = .ok (.iaload, 1) := by decide +kernel
theorem dX6_about_79 : decode cX6_about 79 = .ok (.ireturn, 1) := by decide +kernel
theorem dX6_about_80 : decode cX6_about 80 = .ok (.aload_n 0, 1) := by decide +kernel
theorem dX6_about_81 : decode cX6_about 81 = .ok (.getfield 10, 3) := by decide +kernel
theorem dX6_about_84 : decode cX6_about 84 = .ok (.getfield 105, 3) := by decide +kernel
theorem dX6_about_87 : decode cX6_about 87 = .ok (.iload_n 1, 1) := by decide +kernel
theorem dX6_about_88 : decode cX6_about 88 = .ok (.iaload, 1) := by decide +kernel
theorem dX6_about_89 : decode cX6_about 89 = .ok (.ireturn, 1) := by decide +kernel
theorem dX6_about_90 : decode cX6_about 90 = .ok (.aload_n 0, 1) := by decide +kernel
theorem dX6_about_91 : decode cX6_about 91 = .ok (.getfield 10, 3) := by decide +kernel
theorem dX6_about_94 : decode cX6_about 94 = .ok (.getfield 108, 3) := by decide +kernel
theorem dX6_about_97 : decode cX6_about 97 = .ok (.iload_n 1, 1) := by decide +kernel
theorem dX6_about_98 : decode cX6_about 98 = .ok (.iaload, 1) := by decide +kernel
theorem dX6_about_99 : decode cX6_about 99 = .ok (.ireturn, 1) := by decide +kernel
theorem dX6_about_100 : decode cX6_about 100 = .ok (.aload_n 0, 1) := by decide +kernel
theorem dX6_about_101 : decode cX6_about 101 = .ok (.getfield 10, 3) := by decide +kernel
theorem dX6_about_104 : decode cX6_about 104 = .ok (.getfield 111, 3) := by decide +kernel
theorem dX6_about_107 : decode cX6_about 107 = .ok (.iload_n 1, 1) := by decide +kernel
theorem dX6_about_108 : decode cX6_about 108 = .ok (.iaload, 1) := by decide +kernel
theorem dX6_about_109 : decode cX6_about 109 = .ok (.ireturn, 1) := by decide +kernel
theorem dX6_about_110 : decode cX6_about 110 = .ok (.aload_n 0, 1) := by decide +kernel
theorem dX6_about_111 : decode cX6_about 111 = .ok (.getfield 21, 3) := by decide +kernel
theorem dX6_about_114 : decode cX6_about 114 = .ok (.iload_n 1, 1) := by decide +kernel
theorem dX6_about_115 : decode cX6_about 115 = .ok (.invokevirtual 114, 3) := by decide +kernel
theorem dX6_about_118 : decode cX6_about 118 = .ok (.ireturn, 1) := by decide +kernel
theorem dX6_about_119 : decode cX6_about 119 = .ok (.aload_n 0, 1) := by decide +kernel
theorem dX6_about_120 : decode cX6_about 120 = .ok (.getfield 21, 3) := by decide +kernel
theorem dX6_about_123 : decode cX6_about 123 = .ok (.iload_n 1, 1) := by decide +kernel
theorem dX6_about_124 : decode cX6_about 124 = .ok (.invokevirtual 117, 3) := by decide +kernel
theorem dX6_about_127 : decode cX6_about 127 = .ok (.ireturn, 1) := by decide +kernel
theorem dX6_about_128 : decode cX6_about 128 = .ok (.aload_n 0, 1) := by decide +kernel
theorem dX6_about_129 : decode cX6_about 129 = .ok (.getfield 10, 3) := by decide +kernel
theorem dX6_about_132 : decode cX6_about 132 = .ok (.getfield 89, 3) := by decide +kernel
theorem dX6_about_135 : decode cX6_about 135 = .ok (.iload_n 1, 1) := by decide +kernel
theorem dX6_about_136 : decode cX6_about 136 = .ok (.iaload, 1) := by decide +kernel
theorem dX6_about_137 : decode cX6_about 137 = .ok (.ireturn, 1) := by decide +kernel
theorem dX6_about_138 : decode cX6_about 138 = .ok (.iconst (-1), 1) := by decide +kernel
theorem dX6_about_139 : decode cX6_about 139 = .ok (.ireturn, 1) := by decide +kernel
theorem dX6_row_0 : decode cX6_row 0 = .ok (.aload_n 0, 1) := by decide +kernel
theorem dX6_row_1 : decode cX6_row 1 = .ok (.getfield 21, 3) := by decide +kernel
theorem dX6_row_4 : decode cX6_row 4 = .ok (.iload_n 1, 1) := by decide +kernel
theorem dX6_row_5 : decode cX6_row 5 = .ok (.invokevirtual 120, 3) := by decide +kernel
theorem dX6_row_8 : decode cX6_row 8 = .ok (.ifCond .ne 5, 3) := by decide +kernel
theorem dX6_row_11 : decode cX6_row 11 = .ok (.iconst (-1), 1) := by decide +kernel
theorem dX6_row_12 : decode cX6_row 12 = .ok (.ireturn, 1) := by decide +kernel
theorem dX6_row_13 : decode cX6_row 13 = .ok (.aload_n 0, 1) := by decide +kernel
theorem dX6_row_14 : decode cX6_row 14 = .ok (.getfield 21, 3) := by decide +kernel
theorem dX6_row_17 : decode cX6_row 17 = .ok (.getfield 123, 3) := by decide +kernel
theorem dX6_row_20 : decode cX6_row 20 = .ok (.iload_n 1, 1) := by decide +kernel
theorem dX6_row_21 : decode cX6_row 21 = .ok (.aaload, 1) := by decide +kernel
theorem dX6_row_22 : decode cX6_row 22 = .ok (.iload_n 2, 1) := by decide +kernel
theorem dX6_row_23 : decode cX6_row 23 = .ok (.invokevirtual 127, 3) := by decide +kernel
theorem dX6_row_26 : decode cX6_row 26 = .ok (.ireturn, 1) := by decide +kernel
theorem dX6_of_0 : decode cX6_of 0 = .ok (.aload_n 0, 1) := by decide +kernel
theorem dX6_of_1 : decode cX6_of 1 = .ok (.getfield 21, 3) := by decide +kernel
theorem dX6_of_4 : decode cX6_of 4 = .ok (.iload_n 1, 1) := by decide +kernel
theorem dX6_of_5 : decode cX6_of 5 = .ok (.invokevirtual 120, 3) := by decide +kernel
theorem dX6_of_8 : decode cX6_of 8 = .ok (.ifCond .ne 5, 3) := by decide +kernel
theorem dX6_of_11 : decode cX6_of 11 = .ok (.iconst (-1), 1) := by decide +kernel
theorem dX6_of_12 : decode cX6_of 12 = .ok (.ireturn, 1) := by decide +kernel
theorem dX6_of_13 : decode cX6_of 13 = .ok (.aload_n 0, 1) := by decide +kernel
theorem dX6_of_14 : decode cX6_of 14 = .ok (.getfield 21, 3) := by decide +kernel
theorem dX6_of_17 : decode cX6_of 17 = .ok (.getfield 123, 3) := by decide +kernel
theorem dX6_of_20 : decode cX6_of 20 = .ok (.iload_n 1, 1) := by decide +kernel
theorem dX6_of_21 : decode cX6_of 21 = .ok (.aaload, 1) := by decide +kernel
theorem dX6_of_22 : decode cX6_of 22 = .ok (.astore_n 3, 1) := by decide +kernel
theorem dX6_of_23 : decode cX6_of 23 = .ok (.iload_n 2, 1) := by decide +kernel
theorem dX6_of_24 : decode cX6_of 24 = .ok (.tableswitch 78 0 5 #[40, 45, 50, 55, 60, 65], 40) := by decide +kernel
theorem dX6_of_64 : decode cX6_of 64 = .ok (.aload_n 3, 1) := by decide +kernel
theorem dX6_of_65 : decode cX6_of 65 = .ok (.getfield 132, 3) := by decide +kernel
theorem dX6_of_68 : decode cX6_of 68 = .ok (.ireturn, 1) := by decide +kernel
theorem dX6_of_69 : decode cX6_of 69 = .ok (.aload_n 3, 1) := by decide +kernel
theorem dX6_of_70 : decode cX6_of 70 = .ok (.getfield 136, 3) := by decide +kernel
theorem dX6_of_73 : decode cX6_of 73 = .ok (.ireturn, 1) := by decide +kernel
theorem dX6_of_74 : decode cX6_of 74 = .ok (.aload_n 3, 1) := by decide +kernel
theorem dX6_of_75 : decode cX6_of 75 = .ok (.invokevirtual 138, 3) := by decide +kernel
theorem dX6_of_78 : decode cX6_of 78 = .ok (.ireturn, 1) := by decide +kernel
theorem dX6_of_79 : decode cX6_of 79 = .ok (.aload_n 3, 1) := by decide +kernel
theorem dX6_of_80 : decode cX6_of 80 = .ok (.getfield 142, 3) := by decide +kernel
theorem dX6_of_83 : decode cX6_of 83 = .ok (.ireturn, 1) := by decide +kernel
theorem dX6_of_84 : decode cX6_of 84 = .ok (.aload_n 3, 1) := by decide +kernel
theorem dX6_of_85 : decode cX6_of 85 = .ok (.getfield 144, 3) := by decide +kernel
theorem dX6_of_88 : decode cX6_of 88 = .ok (.ireturn, 1) := by decide +kernel
theorem dX6_of_89 : decode cX6_of 89 = .ok (.aload_n 3, 1) := by decide +kernel
theorem dX6_of_90 : decode cX6_of 90 = .ok (.getfield 147, 3) := by decide +kernel
theorem dX6_of_93 : decode cX6_of 93 = .ok (.ifCond .eq 7, 3) := by decide +kernel
theorem dX6_of_96 : decode cX6_of 96 = .ok (.iconst 1, 1) := by decide +kernel
theorem dX6_of_97 : decode cX6_of 97 = .ok (.goto 4, 3) := by decide +kernel
theorem dX6_of_100 : decode cX6_of 100 = .ok (.iconst 0, 1) := by decide +kernel
theorem dX6_of_101 : decode cX6_of 101 = .ok (.ireturn, 1) := by decide +kernel
theorem dX6_of_102 : decode cX6_of 102 = .ok (.iconst (-1), 1) := by decide +kernel
theorem dX6_of_103 : decode cX6_of 103 = .ok (.ireturn, 1) := by decide +kernel
theorem dX6_held_0 : decode cX6_held 0 = .ok (.iload_n 1, 1) := by decide +kernel
theorem dX6_held_1 : decode cX6_held 1 = .ok (.invokestatic 55, 3) := by decide +kernel
theorem dX6_held_4 : decode cX6_held 4 = .ok (.ifCond .ne 5, 3) := by decide +kernel
theorem dX6_held_7 : decode cX6_held 7 = .ok (.iconst (-1), 1) := by decide +kernel
theorem dX6_held_8 : decode cX6_held 8 = .ok (.ireturn, 1) := by decide +kernel
theorem dX6_held_9 : decode cX6_held 9 = .ok (.iload_n 2, 1) := by decide +kernel
theorem dX6_held_10 : decode cX6_held 10 = .ok (.tableswitch 66 0 3 #[30, 39, 48, 57], 30) := by decide +kernel
theorem dX6_held_40 : decode cX6_held 40 = .ok (.aload_n 0, 1) := by decide +kernel
theorem dX6_held_41 : decode cX6_held 41 = .ok (.getfield 21, 3) := by decide +kernel
theorem dX6_held_44 : decode cX6_held 44 = .ok (.iload_n 1, 1) := by decide +kernel
theorem dX6_held_45 : decode cX6_held 45 = .ok (.invokevirtual 151, 3) := by decide +kernel
theorem dX6_held_48 : decode cX6_held 48 = .ok (.ireturn, 1) := by decide +kernel
theorem dX6_held_49 : decode cX6_held 49 = .ok (.aload_n 0, 1) := by decide +kernel
theorem dX6_held_50 : decode cX6_held 50 = .ok (.getfield 21, 3) := by decide +kernel
theorem dX6_held_53 : decode cX6_held 53 = .ok (.iload_n 1, 1) := by decide +kernel
theorem dX6_held_54 : decode cX6_held 54 = .ok (.invokevirtual 154, 3) := by decide +kernel
theorem dX6_held_57 : decode cX6_held 57 = .ok (.ireturn, 1) := by decide +kernel
theorem dX6_held_58 : decode cX6_held 58 = .ok (.aload_n 0, 1) := by decide +kernel
theorem dX6_held_59 : decode cX6_held 59 = .ok (.getfield 21, 3) := by decide +kernel
theorem dX6_held_62 : decode cX6_held 62 = .ok (.iload_n 1, 1) := by decide +kernel
theorem dX6_held_63 : decode cX6_held 63 = .ok (.invokevirtual 157, 3) := by decide +kernel
theorem dX6_held_66 : decode cX6_held 66 = .ok (.ireturn, 1) := by decide +kernel
theorem dX6_held_67 : decode cX6_held 67 = .ok (.aload_n 0, 1) := by decide +kernel
theorem dX6_held_68 : decode cX6_held 68 = .ok (.getfield 30, 3) := by decide +kernel
theorem dX6_held_71 : decode cX6_held 71 = .ok (.iload_n 1, 1) := by decide +kernel
theorem dX6_held_72 : decode cX6_held 72 = .ok (.invokevirtual 160, 3) := by decide +kernel
theorem dX6_held_75 : decode cX6_held 75 = .ok (.ireturn, 1) := by decide +kernel
theorem dX6_held_76 : decode cX6_held 76 = .ok (.iconst (-1), 1) := by decide +kernel
theorem dX6_held_77 : decode cX6_held 77 = .ok (.ireturn, 1) := by decide +kernel
theorem dX6_cost_0 : decode cX6_cost 0 = .ok (.iload_n 1, 1) := by decide +kernel
theorem dX6_cost_1 : decode cX6_cost 1 = .ok (.tableswitch 63 0 3 #[31, 39, 47, 55], 31) := by decide +kernel
theorem dX6_cost_32 : decode cX6_cost 32 = .ok (.aload_n 0, 1) := by decide +kernel
theorem dX6_cost_33 : decode cX6_cost 33 = .ok (.getfield 30, 3) := by decide +kernel
theorem dX6_cost_36 : decode cX6_cost 36 = .ok (.invokevirtual 163, 3) := by decide +kernel
theorem dX6_cost_39 : decode cX6_cost 39 = .ok (.ireturn, 1) := by decide +kernel
theorem dX6_cost_40 : decode cX6_cost 40 = .ok (.aload_n 0, 1) := by decide +kernel
theorem dX6_cost_41 : decode cX6_cost 41 = .ok (.getfield 30, 3) := by decide +kernel
theorem dX6_cost_44 : decode cX6_cost 44 = .ok (.invokevirtual 166, 3) := by decide +kernel
theorem dX6_cost_47 : decode cX6_cost 47 = .ok (.ireturn, 1) := by decide +kernel
theorem dX6_cost_48 : decode cX6_cost 48 = .ok (.aload_n 0, 1) := by decide +kernel
theorem dX6_cost_49 : decode cX6_cost 49 = .ok (.getfield 30, 3) := by decide +kernel
theorem dX6_cost_52 : decode cX6_cost 52 = .ok (.invokevirtual 169, 3) := by decide +kernel
theorem dX6_cost_55 : decode cX6_cost 55 = .ok (.ireturn, 1) := by decide +kernel
theorem dX6_cost_56 : decode cX6_cost 56 = .ok (.aload_n 0, 1) := by decide +kernel
theorem dX6_cost_57 : decode cX6_cost 57 = .ok (.getfield 30, 3) := by decide +kernel
theorem dX6_cost_60 : decode cX6_cost 60 = .ok (.invokevirtual 172, 3) := by decide +kernel
theorem dX6_cost_63 : decode cX6_cost 63 = .ok (.ireturn, 1) := by decide +kernel
theorem dX6_cost_64 : decode cX6_cost 64 = .ok (.iconst (-1), 1) := by decide +kernel
theorem dX6_cost_65 : decode cX6_cost 65 = .ok (.ireturn, 1) := by decide +kernel
theorem dX6_below_0 : decode cX6_below 0 = .ok (.aload_n 0, 1) := by decide +kernel
theorem dX6_below_1 : decode cX6_below 1 = .ok (.getfield 30, 3) := by decide +kernel
theorem dX6_below_4 : decode cX6_below 4 = .ok (.invokevirtual 175, 3) := by decide +kernel
theorem dX6_below_7 : decode cX6_below 7 = .ok (.ireturn, 1) := by decide +kernel
theorem dX6_may_0 : decode cX6_may 0 = .ok (.aload_n 0, 1) := by decide +kernel
theorem dX6_may_1 : decode cX6_may 1 = .ok (.iload_n 1, 1) := by decide +kernel
theorem dX6_may_2 : decode cX6_may 2 = .ok (.iload_n 2, 1) := by decide +kernel
theorem dX6_may_3 : decode cX6_may 3 = .ok (.invokevirtual 178, 3) := by decide +kernel
theorem dX6_may_6 : decode cX6_may 6 = .ok (.istore_n 3, 1) := by decide +kernel
theorem dX6_may_7 : decode cX6_may 7 = .ok (.iload_n 3, 1) := by decide +kernel
theorem dX6_may_8 : decode cX6_may 8 = .ok (.ifCond .eq 7, 3) := by decide +kernel
theorem dX6_may_11 : decode cX6_may 11 = .ok (.iload_n 3, 1) := by decide +kernel
theorem dX6_may_12 : decode cX6_may 12 = .ok (.goto 12, 3) := by decide +kernel
theorem dX6_may_15 : decode cX6_may 15 = .ok (.aload_n 0, 1) := by decide +kernel
theorem dX6_may_16 : decode cX6_may 16 = .ok (.getfield 39, 3) := by decide +kernel
theorem dX6_may_19 : decode cX6_may 19 = .ok (.iload_n 1, 1) := by decide +kernel
theorem dX6_may_20 : decode cX6_may 20 = .ok (.iload_n 2, 1) := by decide +kernel
theorem dX6_may_21 : decode cX6_may 21 = .ok (.invokevirtual 181, 3) := by decide +kernel
theorem dX6_may_24 : decode cX6_may 24 = .ok (.ireturn, 1) := by decide +kernel
theorem dX6_put_0 : decode cX6_put 0 = .ok (.aload_n 0, 1) := by decide +kernel
theorem dX6_put_1 : decode cX6_put 1 = .ok (.iload_n 1, 1) := by decide +kernel
theorem dX6_put_2 : decode cX6_put 2 = .ok (.iload_n 2, 1) := by decide +kernel
theorem dX6_put_3 : decode cX6_put 3 = .ok (.invokevirtual 178, 3) := by decide +kernel
theorem dX6_put_6 : decode cX6_put 6 = .ok (.istore_n 3, 1) := by decide +kernel
theorem dX6_put_7 : decode cX6_put 7 = .ok (.iload_n 3, 1) := by decide +kernel
theorem dX6_put_8 : decode cX6_put 8 = .ok (.ifCond .eq 7, 3) := by decide +kernel
theorem dX6_put_11 : decode cX6_put 11 = .ok (.iload_n 3, 1) := by decide +kernel
theorem dX6_put_12 : decode cX6_put 12 = .ok (.goto 12, 3) := by decide +kernel
theorem dX6_put_15 : decode cX6_put 15 = .ok (.aload_n 0, 1) := by decide +kernel
theorem dX6_put_16 : decode cX6_put 16 = .ok (.getfield 39, 3) := by decide +kernel
theorem dX6_put_19 : decode cX6_put 19 = .ok (.iload_n 1, 1) := by decide +kernel
theorem dX6_put_20 : decode cX6_put 20 = .ok (.iload_n 2, 1) := by decide +kernel
theorem dX6_put_21 : decode cX6_put 21 = .ok (.invokevirtual 184, 3) := by decide +kernel
theorem dX6_put_24 : decode cX6_put 24 = .ok (.ireturn, 1) := by decide +kernel
theorem dX6_take_0 : decode cX6_take 0 = .ok (.aload_n 0, 1) := by decide +kernel
theorem dX6_take_1 : decode cX6_take 1 = .ok (.getfield 10, 3) := by decide +kernel
theorem dX6_take_4 : decode cX6_take 4 = .ok (.iload_n 1, 1) := by decide +kernel
theorem dX6_take_5 : decode cX6_take 5 = .ok (.invokevirtual 78, 3) := by decide +kernel
theorem dX6_take_8 : decode cX6_take 8 = .ok (.ifCond .ne 5, 3) := by decide +kernel
theorem dX6_take_11 : decode cX6_take 11 = .ok (.iconst (-1), 1) := by decide +kernel
theorem dX6_take_12 : decode cX6_take 12 = .ok (.ireturn, 1) := by decide +kernel
theorem dX6_take_13 : decode cX6_take 13 = .ok (.aload_n 0, 1) := by decide +kernel
theorem dX6_take_14 : decode cX6_take 14 = .ok (.getfield 21, 3) := by decide +kernel
theorem dX6_take_17 : decode cX6_take 17 = .ok (.iload_n 1, 1) := by decide +kernel
theorem dX6_take_18 : decode cX6_take 18 = .ok (.invokevirtual 114, 3) := by decide +kernel
theorem dX6_take_21 : decode cX6_take 21 = .ok (.istore_n 2, 1) := by decide +kernel
theorem dX6_take_22 : decode cX6_take 22 = .ok (.iload_n 2, 1) := by decide +kernel
theorem dX6_take_23 : decode cX6_take 23 = .ok (.iconst (-1), 1) := by decide +kernel
theorem dX6_take_24 : decode cX6_take 24 = .ok (.if_icmp .ne 6, 3) := by decide +kernel
theorem dX6_take_27 : decode cX6_take 27 = .ok (.bipush (-3), 2) := by decide +kernel
theorem dX6_take_29 : decode cX6_take 29 = .ok (.ireturn, 1) := by decide +kernel
theorem dX6_take_30 : decode cX6_take 30 = .ok (.aload_n 0, 1) := by decide +kernel
theorem dX6_take_31 : decode cX6_take 31 = .ok (.getfield 39, 3) := by decide +kernel
theorem dX6_take_34 : decode cX6_take 34 = .ok (.iload_n 1, 1) := by decide +kernel
theorem dX6_take_35 : decode cX6_take 35 = .ok (.iload_n 2, 1) := by decide +kernel
theorem dX6_take_36 : decode cX6_take 36 = .ok (.invokevirtual 187, 3) := by decide +kernel
theorem dX6_take_39 : decode cX6_take 39 = .ok (.iload_n 2, 1) := by decide +kernel
theorem dX6_take_40 : decode cX6_take 40 = .ok (.ireturn, 1) := by decide +kernel
theorem dX6_tidy_0 : decode cX6_tidy 0 = .ok (.aload_n 0, 1) := by decide +kernel
theorem dX6_tidy_1 : decode cX6_tidy 1 = .ok (.getfield 21, 3) := by decide +kernel
theorem dX6_tidy_4 : decode cX6_tidy 4 = .ok (.iload_n 1, 1) := by decide +kernel
theorem dX6_tidy_5 : decode cX6_tidy 5 = .ok (.invokevirtual 120, 3) := by decide +kernel
theorem dX6_tidy_8 : decode cX6_tidy 8 = .ok (.ifCond .ne 5, 3) := by decide +kernel
theorem dX6_tidy_11 : decode cX6_tidy 11 = .ok (.iconst (-1), 1) := by decide +kernel
theorem dX6_tidy_12 : decode cX6_tidy 12 = .ok (.ireturn, 1) := by decide +kernel
theorem dX6_tidy_13 : decode cX6_tidy 13 = .ok (.aload_n 0, 1) := by decide +kernel
theorem dX6_tidy_14 : decode cX6_tidy 14 = .ok (.getfield 39, 3) := by decide +kernel
theorem dX6_tidy_17 : decode cX6_tidy 17 = .ok (.iload_n 1, 1) := by decide +kernel
theorem dX6_tidy_18 : decode cX6_tidy 18 = .ok (.invokevirtual 191, 3) := by decide +kernel
theorem dX6_tidy_21 : decode cX6_tidy 21 = .ok (.aload_n 0, 1) := by decide +kernel
theorem dX6_tidy_22 : decode cX6_tidy 22 = .ok (.getfield 21, 3) := by decide +kernel
theorem dX6_tidy_25 : decode cX6_tidy 25 = .ok (.getfield 123, 3) := by decide +kernel
theorem dX6_tidy_28 : decode cX6_tidy 28 = .ok (.iload_n 1, 1) := by decide +kernel
theorem dX6_tidy_29 : decode cX6_tidy 29 = .ok (.aaload, 1) := by decide +kernel
theorem dX6_tidy_30 : decode cX6_tidy 30 = .ok (.getfield 136, 3) := by decide +kernel
theorem dX6_tidy_33 : decode cX6_tidy 33 = .ok (.ireturn, 1) := by decide +kernel
theorem dX6_trade_0 : decode cX6_trade 0 = .ok (.aload_n 0, 1) := by decide +kernel
theorem dX6_trade_1 : decode cX6_trade 1 = .ok (.getfield 21, 3) := by decide +kernel
theorem dX6_trade_4 : decode cX6_trade 4 = .ok (.iload_n 1, 1) := by decide +kernel
theorem dX6_trade_5 : decode cX6_trade 5 = .ok (.invokevirtual 120, 3) := by decide +kernel
theorem dX6_trade_8 : decode cX6_trade 8 = .ok (.ifCond .eq 14, 3) := by decide +kernel
theorem dX6_trade_11 : decode cX6_trade 11 = .ok (.aload_n 0, 1) := by decide +kernel
theorem dX6_trade_12 : decode cX6_trade 12 = .ok (.getfield 21, 3) := by decide +kernel
theorem dX6_trade_15 : decode cX6_trade 15 = .ok (.iload_n 2, 1) := by decide +kernel
theorem dX6_trade_16 : decode cX6_trade 16 = .ok (.invokevirtual 120, 3) := by decide +kernel
theorem dX6_trade_19 : decode cX6_trade 19 = .ok (.ifCond .ne 5, 3) := by decide +kernel
theorem dX6_trade_22 : decode cX6_trade 22 = .ok (.iconst (-1), 1) := by decide +kernel
theorem dX6_trade_23 : decode cX6_trade 23 = .ok (.ireturn, 1) := by decide +kernel
theorem dX6_trade_24 : decode cX6_trade 24 = .ok (.iload_n 1, 1) := by decide +kernel
theorem dX6_trade_25 : decode cX6_trade 25 = .ok (.iload_n 2, 1) := by decide +kernel
theorem dX6_trade_26 : decode cX6_trade 26 = .ok (.if_icmp .ne 6, 3) := by decide +kernel
theorem dX6_trade_29 : decode cX6_trade 29 = .ok (.bipush (-2), 2) := by decide +kernel
theorem dX6_trade_31 : decode cX6_trade 31 = .ok (.ireturn, 1) := by decide +kernel
theorem dX6_trade_32 : decode cX6_trade 32 = .ok (.aload_n 0, 1) := by decide +kernel
theorem dX6_trade_33 : decode cX6_trade 33 = .ok (.getfield 21, 3) := by decide +kernel
theorem dX6_trade_36 : decode cX6_trade 36 = .ok (.iload_n 1, 1) := by decide +kernel
theorem dX6_trade_37 : decode cX6_trade 37 = .ok (.iload_n 2, 1) := by decide +kernel
theorem dX6_trade_38 : decode cX6_trade 38 = .ok (.invokevirtual 195, 3) := by decide +kernel
theorem dX6_trade_41 : decode cX6_trade 41 = .ok (.aload_n 0, 1) := by decide +kernel
theorem dX6_trade_42 : decode cX6_trade 42 = .ok (.getfield 21, 3) := by decide +kernel
theorem dX6_trade_45 : decode cX6_trade 45 = .ok (.invokevirtual 74, 3) := by decide +kernel
theorem dX6_trade_48 : decode cX6_trade 48 = .ok (.ifCond .eq 11, 3) := by decide +kernel
theorem dX6_trade_51 : decode cX6_trade 51 = .ok (.aload_n 0, 1) := by decide +kernel
theorem dX6_trade_52 : decode cX6_trade 52 = .ok (.getfield 30, 3) := by decide +kernel
theorem dX6_trade_55 : decode cX6_trade 55 = .ok (.invokevirtual 163, 3) := by decide +kernel
theorem dX6_trade_58 : decode cX6_trade 58 = .ok (.ireturn, 1) := by decide +kernel
theorem dX6_trade_59 : decode cX6_trade 59 = .ok (.aload_n 0, 1) := by decide +kernel
theorem dX6_trade_60 : decode cX6_trade 60 = .ok (.getfield 21, 3) := by decide +kernel
theorem dX6_trade_63 : decode cX6_trade 63 = .ok (.iload_n 1, 1) := by decide +kernel
theorem dX6_trade_64 : decode cX6_trade 64 = .ok (.iload_n 2, 1) := by decide +kernel
theorem dX6_trade_65 : decode cX6_trade 65 = .ok (.invokevirtual 195, 3) := by decide +kernel
theorem dX6_trade_68 : decode cX6_trade 68 = .ok (.bipush (-3), 2) := by decide +kernel
theorem dX6_trade_70 : decode cX6_trade 70 = .ok (.ireturn, 1) := by decide +kernel
theorem dX6_better_0 : decode cX6_better 0 = .ok (.iconst 0, 1) := by decide +kernel
theorem dX6_better_1 : decode cX6_better 1 = .ok (.istore_n 1, 1) := by decide +kernel
theorem dX6_better_2 : decode cX6_better 2 = .ok (.iload_n 1, 1) := by decide +kernel
theorem dX6_better_3 : decode cX6_better 3 = .ok (.bipush 20, 2) := by decide +kernel
theorem dX6_better_5 : decode cX6_better 5 = .ok (.if_icmp .ge 29, 3) := by decide +kernel
theorem dX6_better_8 : decode cX6_better 8 = .ok (.aload_n 0, 1) := by decide +kernel
theorem dX6_better_9 : decode cX6_better 9 = .ok (.getfield 39, 3) := by decide +kernel
theorem dX6_better_12 : decode cX6_better 12 = .ok (.invokevirtual 198, 3) := by decide +kernel
theorem dX6_better_15 : decode cX6_better 15 = .ok (.ifCond .ne 13, 3) := by decide +kernel
theorem dX6_better_18 : decode cX6_better 18 = .ok (.aload_n 0, 1) := by decide +kernel
theorem dX6_better_19 : decode cX6_better 19 = .ok (.getfield 39, 3) := by decide +kernel
theorem dX6_better_22 : decode cX6_better 22 = .ok (.invokevirtual 201, 3) := by decide +kernel
theorem dX6_better_25 : decode cX6_better 25 = .ok (.ifCond .eq 9, 3) := by decide +kernel
theorem dX6_better_28 : decode cX6_better 28 = .ok (.iinc 1 1, 3) := by decide +kernel
theorem dX6_better_31 : decode cX6_better 31 = .ok (.goto (-29), 3) := by decide +kernel
theorem dX6_better_34 : decode cX6_better 34 = .ok (.iload_n 1, 1) := by decide +kernel
theorem dX6_better_35 : decode cX6_better 35 = .ok (.ireturn, 1) := by decide +kernel
theorem dX6_order_0 : decode cX6_order 0 = .ok (.aload_n 0, 1) := by decide +kernel
theorem dX6_order_1 : decode cX6_order 1 = .ok (.getfield 21, 3) := by decide +kernel
theorem dX6_order_4 : decode cX6_order 4 = .ok (.getfield 204, 3) := by decide +kernel
theorem dX6_order_7 : decode cX6_order 7 = .ok (.bipush 6, 2) := by decide +kernel
theorem dX6_order_9 : decode cX6_order 9 = .ok (.if_icmp .gt 13, 3) := by decide +kernel
theorem dX6_order_12 : decode cX6_order 12 = .ok (.aload_n 0, 1) := by decide +kernel
theorem dX6_order_13 : decode cX6_order 13 = .ok (.getfield 21, 3) := by decide +kernel
theorem dX6_order_16 : decode cX6_order 16 = .ok (.getfield 204, 3) := by decide +kernel
theorem dX6_order_19 : decode cX6_order 19 = .ok (.ifCond .ne 6, 3) := by decide +kernel
theorem dX6_order_22 : decode cX6_order 22 = .ok (.bipush (-3), 2) := by decide +kernel
theorem dX6_order_24 : decode cX6_order 24 = .ok (.ireturn, 1) := by decide +kernel
theorem dX6_order_25 : decode cX6_order 25 = .ok (.aload_n 0, 1) := by decide +kernel
theorem dX6_order_26 : decode cX6_order 26 = .ok (.getfield 39, 3) := by decide +kernel
theorem dX6_order_29 : decode cX6_order 29 = .ok (.invokevirtual 207, 3) := by decide +kernel
theorem dX6_order_32 : decode cX6_order 32 = .ok (.ireturn, 1) := by decide +kernel
theorem dX6_rain_0 : decode cX6_rain 0 = .ok (.aload_n 0, 1) := by decide +kernel
theorem dX6_rain_1 : decode cX6_rain 1 = .ok (.getfield 21, 3) := by decide +kernel
theorem dX6_rain_4 : decode cX6_rain 4 = .ok (.iload_n 1, 1) := by decide +kernel
theorem dX6_rain_5 : decode cX6_rain 5 = .ok (.invokevirtual 120, 3) := by decide +kernel
theorem dX6_rain_8 : decode cX6_rain 8 = .ok (.ifCond .ne 5, 3) := by decide +kernel
theorem dX6_rain_11 : decode cX6_rain 11 = .ok (.iconst (-1), 1) := by decide +kernel
theorem dX6_rain_12 : decode cX6_rain 12 = .ok (.ireturn, 1) := by decide +kernel
theorem dX6_rain_13 : decode cX6_rain 13 = .ok (.aload_n 0, 1) := by decide +kernel
theorem dX6_rain_14 : decode cX6_rain 14 = .ok (.getfield 39, 3) := by decide +kernel
theorem dX6_rain_17 : decode cX6_rain 17 = .ok (.iload_n 1, 1) := by decide +kernel
theorem dX6_rain_18 : decode cX6_rain 18 = .ok (.invokevirtual 210, 3) := by decide +kernel
theorem dX6_rain_21 : decode cX6_rain 21 = .ok (.istore_n 2, 1) := by decide +kernel
theorem dX6_rain_22 : decode cX6_rain 22 = .ok (.bipush 16, 2) := by decide +kernel
theorem dX6_rain_24 : decode cX6_rain 24 = .ok (.iload_n 2, 1) := by decide +kernel
theorem dX6_rain_25 : decode cX6_rain 25 = .ok (.imul, 1) := by decide +kernel
theorem dX6_rain_26 : decode cX6_rain 26 = .ok (.aload_n 0, 1) := by decide +kernel
theorem dX6_rain_27 : decode cX6_rain 27 = .ok (.getfield 39, 3) := by decide +kernel
theorem dX6_rain_30 : decode cX6_rain 30 = .ok (.iload_n 1, 1) := by decide +kernel
theorem dX6_rain_31 : decode cX6_rain 31 = .ok (.invokevirtual 213, 3) := by decide +kernel
theorem dX6_rain_34 : decode cX6_rain 34 = .ok (.iadd, 1) := by decide +kernel
theorem dX6_rain_35 : decode cX6_rain 35 = .ok (.ireturn, 1) := by decide +kernel
theorem dX6_change_0 : decode cX6_change 0 = .ok (.aload_n 0, 1) := by decide +kernel
theorem dX6_change_1 : decode cX6_change 1 = .ok (.getfield 21, 3) := by decide +kernel
theorem dX6_change_4 : decode cX6_change 4 = .ok (.iload_n 1, 1) := by decide +kernel
theorem dX6_change_5 : decode cX6_change 5 = .ok (.invokevirtual 120, 3) := by decide +kernel
theorem dX6_change_8 : decode cX6_change 8 = .ok (.ifCond .ne 5, 3) := by decide +kernel
theorem dX6_change_11 : decode cX6_change 11 = .ok (.iconst (-1), 1) := by decide +kernel
theorem dX6_change_12 : decode cX6_change 12 = .ok (.ireturn, 1) := by decide +kernel
theorem dX6_change_13 : decode cX6_change 13 = .ok (.iload_n 2, 1) := by decide +kernel
theorem dX6_change_14 : decode cX6_change 14 = .ok (.iload_n 3, 1) := by decide +kernel
theorem dX6_change_15 : decode cX6_change 15 = .ok (.invokestatic 92, 3) := by decide +kernel
theorem dX6_change_18 : decode cX6_change 18 = .ok (.ifCond .ne 6, 3) := by decide +kernel
theorem dX6_change_21 : decode cX6_change 21 = .ok (.bipush (-2), 2) := by decide +kernel
theorem dX6_change_23 : decode cX6_change 23 = .ok (.ireturn, 1) := by decide +kernel
theorem dX6_change_24 : decode cX6_change 24 = .ok (.aload_n 0, 1) := by decide +kernel
theorem dX6_change_25 : decode cX6_change 25 = .ok (.getfield 21, 3) := by decide +kernel
theorem dX6_change_28 : decode cX6_change 28 = .ok (.getfield 123, 3) := by decide +kernel
theorem dX6_change_31 : decode cX6_change 31 = .ok (.iload_n 1, 1) := by decide +kernel
theorem dX6_change_32 : decode cX6_change 32 = .ok (.aaload, 1) := by decide +kernel
theorem dX6_change_33 : decode cX6_change 33 = .ok (.iload_n 2, 1) := by decide +kernel
theorem dX6_change_34 : decode cX6_change 34 = .ok (.iload_n 3, 1) := by decide +kernel
theorem dX6_change_35 : decode cX6_change 35 = .ok (.invokevirtual 216, 3) := by decide +kernel
theorem dX6_change_38 : decode cX6_change 38 = .ok (.ifCond .ne 6, 3) := by decide +kernel
theorem dX6_change_41 : decode cX6_change 41 = .ok (.bipush (-3), 2) := by decide +kernel
theorem dX6_change_43 : decode cX6_change 43 = .ok (.ireturn, 1) := by decide +kernel
theorem dX6_change_44 : decode cX6_change 44 = .ok (.aload_n 0, 1) := by decide +kernel
theorem dX6_change_45 : decode cX6_change 45 = .ok (.getfield 21, 3) := by decide +kernel
theorem dX6_change_48 : decode cX6_change 48 = .ok (.getfield 219, 3) := by decide +kernel
theorem dX6_change_51 : decode cX6_change 51 = .ok (.iload_n 1, 1) := by decide +kernel
theorem dX6_change_52 : decode cX6_change 52 = .ok (.iload_n 2, 1) := by decide +kernel
theorem dX6_change_53 : decode cX6_change 53 = .ok (.iastore, 1) := by decide +kernel
theorem dX6_change_54 : decode cX6_change 54 = .ok (.aload_n 0, 1) := by decide +kernel
theorem dX6_change_55 : decode cX6_change 55 = .ok (.getfield 21, 3) := by decide +kernel
theorem dX6_change_58 : decode cX6_change 58 = .ok (.getfield 222, 3) := by decide +kernel
theorem dX6_change_61 : decode cX6_change 61 = .ok (.iload_n 1, 1) := by decide +kernel
theorem dX6_change_62 : decode cX6_change 62 = .ok (.iload_n 3, 1) := by decide +kernel
theorem dX6_change_63 : decode cX6_change 63 = .ok (.iastore, 1) := by decide +kernel
theorem dX6_change_64 : decode cX6_change 64 = .ok (.iconst 0, 1) := by decide +kernel
theorem dX6_change_65 : decode cX6_change 65 = .ok (.ireturn, 1) := by decide +kernel
theorem dX6_count_0 : decode cX6_count 0 = .ok (.iload_n 1, 1) := by decide +kernel
theorem dX6_count_1 : decode cX6_count 1 = .ok (.tableswitch 69 0 3 #[31, 39, 47, 58], 31) := by decide +kernel
theorem dX6_count_32 : decode cX6_count 32 = .ok (.aload_n 0, 1) := by decide +kernel
theorem dX6_count_33 : decode cX6_count 33 = .ok (.getfield 10, 3) := by decide +kernel
theorem dX6_count_36 : decode cX6_count 36 = .ok (.getfield 225, 3) := by decide +kernel
theorem dX6_count_39 : decode cX6_count 39 = .ok (.ireturn, 1) := by decide +kernel
theorem dX6_count_40 : decode cX6_count 40 = .ok (.aload_n 0, 1) := by decide +kernel
theorem dX6_count_41 : decode cX6_count 41 = .ok (.getfield 21, 3) := by decide +kernel
theorem dX6_count_44 : decode cX6_count 44 = .ok (.getfield 204, 3) := by decide +kernel
theorem dX6_count_47 : decode cX6_count 47 = .ok (.ireturn, 1) := by decide +kernel
theorem dX6_count_48 : decode cX6_count 48 = .ok (.aload_n 0, 1) := by decide +kernel
theorem dX6_count_49 : decode cX6_count 49 = .ok (.getfield 21, 3) := by decide +kernel
theorem dX6_count_52 : decode cX6_count 52 = .ok (.invokevirtual 228, 3) := by decide +kernel
theorem dX6_count_55 : decode cX6_count 55 = .ok (.invokestatic 231, 3) := by decide +kernel
theorem dX6_count_58 : decode cX6_count 58 = .ok (.ireturn, 1) := by decide +kernel
theorem dX6_count_59 : decode cX6_count 59 = .ok (.aload_n 0, 1) := by decide +kernel
theorem dX6_count_60 : decode cX6_count 60 = .ok (.getfield 10, 3) := by decide +kernel
theorem dX6_count_63 : decode cX6_count 63 = .ok (.invokevirtual 236, 3) := by decide +kernel
theorem dX6_count_66 : decode cX6_count 66 = .ok (.invokestatic 231, 3) := by decide +kernel
theorem dX6_count_69 : decode cX6_count 69 = .ok (.ireturn, 1) := by decide +kernel
theorem dX6_count_70 : decode cX6_count 70 = .ok (.iconst (-1), 1) := by decide +kernel
theorem dX6_count_71 : decode cX6_count 71 = .ok (.ireturn, 1) := by decide +kernel
theorem dX6_refusalToJoin_0 : decode cX6_refusalToJoin 0 = .ok (.aload_n 0, 1) := by decide +kernel
theorem dX6_refusalToJoin_1 : decode cX6_refusalToJoin 1 = .ok (.getfield 10, 3) := by decide +kernel
theorem dX6_refusalToJoin_4 : decode cX6_refusalToJoin 4 = .ok (.iload_n 1, 1) := by decide +kernel
theorem dX6_refusalToJoin_5 : decode cX6_refusalToJoin 5 = .ok (.invokevirtual 78, 3) := by decide +kernel
theorem dX6_refusalToJoin_8 : decode cX6_refusalToJoin 8 = .ok (.ifCond .eq 14, 3) := by decide +kernel
theorem dX6_refusalToJoin_11 : decode cX6_refusalToJoin 11 = .ok (.aload_n 0, 1) := by decide +kernel
theorem dX6_refusalToJoin_12 : decode cX6_refusalToJoin 12 = .ok (.getfield 21, 3) := by decide +kernel
theorem dX6_refusalToJoin_15 : decode cX6_refusalToJoin 15 = .ok (.iload_n 2, 1) := by decide +kernel
theorem dX6_refusalToJoin_16 : decode cX6_refusalToJoin 16 = .ok (.invokevirtual 120, 3) := by decide +kernel
theorem dX6_refusalToJoin_19 : decode cX6_refusalToJoin 19 = .ok (.ifCond .ne 5, 3) := by decide +kernel
theorem dX6_refusalToJoin_22 : decode cX6_refusalToJoin 22 = .ok (.iconst (-1), 1) := by decide +kernel
theorem dX6_refusalToJoin_23 : decode cX6_refusalToJoin 23 = .ok (.ireturn, 1) := by decide +kernel
theorem dX6_refusalToJoin_24 : decode cX6_refusalToJoin 24 = .ok (.aload_n 0, 1) := by decide +kernel
theorem dX6_refusalToJoin_25 : decode cX6_refusalToJoin 25 = .ok (.getfield 21, 3) := by decide +kernel
theorem dX6_refusalToJoin_28 : decode cX6_refusalToJoin 28 = .ok (.iload_n 1, 1) := by decide +kernel
theorem dX6_refusalToJoin_29 : decode cX6_refusalToJoin 29 = .ok (.invokevirtual 114, 3) := by decide +kernel
theorem dX6_refusalToJoin_32 : decode cX6_refusalToJoin 32 = .ok (.iconst (-1), 1) := by decide +kernel
theorem dX6_refusalToJoin_33 : decode cX6_refusalToJoin 33 = .ok (.if_icmp .ne 7, 3) := by decide +kernel
theorem dX6_refusalToJoin_36 : decode cX6_refusalToJoin 36 = .ok (.iconst 0, 1) := by decide +kernel
theorem dX6_refusalToJoin_37 : decode cX6_refusalToJoin 37 = .ok (.goto 5, 3) := by decide +kernel
theorem dX6_refusalToJoin_40 : decode cX6_refusalToJoin 40 = .ok (.bipush (-3), 2) := by decide +kernel
theorem dX6_refusalToJoin_42 : decode cX6_refusalToJoin 42 = .ok (.ireturn, 1) := by decide +kernel
theorem dX6_within_0 : decode cX6_within 0 = .ok (.iload_n 0, 1) := by decide +kernel
theorem dX6_within_1 : decode cX6_within 1 = .ok (.iload_n 1, 1) := by decide +kernel
theorem dX6_within_2 : decode cX6_within 2 = .ok (.if_icmp .lt 12, 3) := by decide +kernel
theorem dX6_within_5 : decode cX6_within 5 = .ok (.iload_n 0, 1) := by decide +kernel
theorem dX6_within_6 : decode cX6_within 6 = .ok (.iload_n 2, 1) := by decide +kernel
theorem dX6_within_7 : decode cX6_within 7 = .ok (.if_icmp .gt 7, 3) := by decide +kernel
theorem dX6_within_10 : decode cX6_within 10 = .ok (.iconst 1, 1) := by decide +kernel
theorem dX6_within_11 : decode cX6_within 11 = .ok (.goto 4, 3) := by decide +kernel
theorem dX6_within_14 : decode cX6_within 14 = .ok (.iconst 0, 1) := by decide +kernel
theorem dX6_within_15 : decode cX6_within 15 = .ok (.ireturn, 1) := by decide +kernel
theorem dX6_isPlace_0 : decode cX6_isPlace 0 = .ok (.iload_n 0, 1) := by decide +kernel
theorem dX6_isPlace_1 : decode cX6_isPlace 1 = .ok (.iconst 0, 1) := by decide +kernel
theorem dX6_isPlace_2 : decode cX6_isPlace 2 = .ok (.bipush 7, 2) := by decide +kernel
theorem dX6_isPlace_4 : decode cX6_isPlace 4 = .ok (.invokestatic 43, 3) := by decide +kernel
theorem dX6_isPlace_7 : decode cX6_isPlace 7 = .ok (.ireturn, 1) := by decide +kernel
theorem dX6_isPlayer_0 : decode cX6_isPlayer 0 = .ok (.iload_n 0, 1) := by decide +kernel
theorem dX6_isPlayer_1 : decode cX6_isPlayer 1 = .ok (.iconst 0, 1) := by decide +kernel
theorem dX6_isPlayer_2 : decode cX6_isPlayer 2 = .ok (.bipush 7, 2) := by decide +kernel
theorem dX6_isPlayer_4 : decode cX6_isPlayer 4 = .ok (.invokestatic 43, 3) := by decide +kernel
theorem dX6_isPlayer_7 : decode cX6_isPlayer 7 = .ok (.ireturn, 1) := by decide +kernel
theorem dX6_isDayLength_0 : decode cX6_isDayLength 0 = .ok (.iload_n 0, 1) := by decide +kernel
theorem dX6_isDayLength_1 : decode cX6_isDayLength 1 = .ok (.bipush 60, 2) := by decide +kernel
theorem dX6_isDayLength_3 : decode cX6_isDayLength 3 = .ok (.sipush 900, 3) := by decide +kernel
theorem dX6_isDayLength_6 : decode cX6_isDayLength 6 = .ok (.invokestatic 43, 3) := by decide +kernel
theorem dX6_isDayLength_9 : decode cX6_isDayLength 9 = .ok (.ifCond .eq 18, 3) := by decide +kernel
theorem dX6_isDayLength_12 : decode cX6_isDayLength 12 = .ok (.iload_n 1, 1) := by decide +kernel
theorem dX6_isDayLength_13 : decode cX6_isDayLength 13 = .ok (.iconst 0, 1) := by decide +kernel
theorem dX6_isDayLength_14 : decode cX6_isDayLength 14 = .ok (.sipush 900, 3) := by decide +kernel
theorem dX6_isDayLength_17 : decode cX6_isDayLength 17 = .ok (.invokestatic 43, 3) := by decide +kernel
theorem dX6_isDayLength_20 : decode cX6_isDayLength 20 = .ok (.ifCond .eq 7, 3) := by decide +kernel
theorem dX6_isDayLength_23 : decode cX6_isDayLength 23 = .ok (.iconst 1, 1) := by decide +kernel
theorem dX6_isDayLength_24 : decode cX6_isDayLength 24 = .ok (.goto 4, 3) := by decide +kernel
theorem dX6_isDayLength_27 : decode cX6_isDayLength 27 = .ok (.iconst 0, 1) := by decide +kernel
theorem dX6_isDayLength_28 : decode cX6_isDayLength 28 = .ok (.ireturn, 1) := by decide +kernel
theorem dX6_hasBit_0 : decode cX6_hasBit 0 = .ok (.iload_n 0, 1) := by decide +kernel
theorem dX6_hasBit_1 : decode cX6_hasBit 1 = .ok (.iload_n 1, 1) := by decide +kernel
theorem dX6_hasBit_2 : decode cX6_hasBit 2 = .ok (.ishr, 1) := by decide +kernel
theorem dX6_hasBit_3 : decode cX6_hasBit 3 = .ok (.iconst 1, 1) := by decide +kernel
theorem dX6_hasBit_4 : decode cX6_hasBit 4 = .ok (.iand, 1) := by decide +kernel
theorem dX6_hasBit_5 : decode cX6_hasBit 5 = .ok (.ifCond .eq 7, 3) := by decide +kernel
theorem dX6_hasBit_8 : decode cX6_hasBit 8 = .ok (.iconst 1, 1) := by decide +kernel
theorem dX6_hasBit_9 : decode cX6_hasBit 9 = .ok (.goto 4, 3) := by decide +kernel
theorem dX6_hasBit_12 : decode cX6_hasBit 12 = .ok (.iconst 0, 1) := by decide +kernel
theorem dX6_hasBit_13 : decode cX6_hasBit 13 = .ok (.ireturn, 1) := by decide +kernel
end
section
theorem dX7_init_0 : decode cX7_init 0 = .ok (.aload_n 0, 1) := by decide +kernel
theorem dX7_init_1 : decode cX7_init 1 = .ok (.invokespecial 1, 3) := by decide +kernel
theorem dX7_init_4 : decode cX7_init 4 = .ok (.aload_n 0, 1) := by decide +kernel
theorem dX7_init_5 : decode cX7_init 5 = .ok (.bipush 20, 2) := by decide +kernel
theorem dX7_init_7 : decode cX7_init 7 = .ok (.newarray .int, 2) := by decide +kernel
theorem dX7_init_9 : decode cX7_init 9 = .ok (.putfield 7, 3) := by decide +kernel
theorem dX7_init_12 : decode cX7_init 12 = .ok (.aload_n 0, 1) := by decide +kernel
theorem dX7_init_13 : decode cX7_init 13 = .ok (.bipush 20, 2) := by decide +kernel
theorem dX7_init_15 : decode cX7_init 15 = .ok (.newarray .int, 2) := by decide +kernel
theorem dX7_init_17 : decode cX7_init 17 = .ok (.putfield 13, 3) := by decide +kernel
theorem dX7_init_20 : decode cX7_init 20 = .ok (.aload_n 0, 1) := by decide +kernel
theorem dX7_init_21 : decode cX7_init 21 = .ok (.bipush 20, 2) := by decide +kernel
theorem dX7_init_23 : decode cX7_init 23 = .ok (.newarray .int, 2) := by decide +kernel
theorem dX7_init_25 : decode cX7_init 25 = .ok (.putfield 16, 3) := by decide +kernel
theorem dX7_init_28 : decode cX7_init 28 = .ok (.aload_n 0, 1) := by decide +kernel
theorem dX7_init_29 : decode cX7_init 29 = .ok (.bipush 20, 2) := by decide +kernel
theorem dX7_init_31 : decode cX7_init 31 = .ok (.newarray .boolean, 2) := by decide +kernel
theorem dX7_init_33 : decode cX7_init 33 = .ok (.putfield 19, 3) := by decide +kernel
theorem dX7_init_36 : decode cX7_init 36 = .ok (.aload_n 0, 1) := by decide +kernel
theorem dX7_init_37 : decode cX7_init 37 = .ok (.bipush 20, 2) := by decide +kernel
theorem dX7_init_39 : decode cX7_init 39 = .ok (.newarray .int, 2) := by decide +kernel
theorem dX7_init_41 : decode cX7_init 41 = .ok (.putfield 23, 3) := by decide +kernel
theorem dX7_init_44 : decode cX7_init 44 = .ok (.aload_n 0, 1) := by decide +kernel
theorem dX7_init_45 : decode cX7_init 45 = .ok (.bipush 20, 2) := by decide +kernel
theorem dX7_init_47 : decode cX7_init 47 = .ok (.newarray .int, 2) := by decide +kernel
theorem dX7_init_49 : decode cX7_init 49 = .ok (.putfield 26, 3) := by decide +kernel
theorem dX7_init_52 : decode cX7_init 52 = .ok (.aload_n 0, 1) := by decide +kernel
theorem dX7_init_53 : decode cX7_init 53 = .ok (.bipush 20, 2) := by decide +kernel
theorem dX7_init_55 : decode cX7_init 55 = .ok (.newarray .int, 2) := by decide +kernel
theorem dX7_init_57 : decode cX7_init 57 = .ok (.putfield 29, 3) := by decide +kernel
theorem dX7_init_60 : decode cX7_init 60 = .ok (.aload_n 0, 1) := by decide +kernel
theorem dX7_init_61 : decode cX7_init 61 = .ok (.bipush 8, 2) := by decide +kernel
theorem dX7_init_63 : decode cX7_init 63 = .ok (.newarray .int, 2) := by decide +kernel
theorem dX7_init_65 : decode cX7_init 65 = .ok (.putfield 32, 3) := by decide +kernel
theorem dX7_init_68 : decode cX7_init 68 = .ok (.aload_n 0, 1) := by decide +kernel
theorem dX7_init_69 : decode cX7_init 69 = .ok (.bipush 8, 2) := by decide +kernel
theorem dX7_init_71 : decode cX7_init 71 = .ok (.newarray .int, 2) := by decide +kernel
theorem dX7_init_73 : decode cX7_init 73 = .ok (.putfield 35, 3) := by decide +kernel
theorem dX7_init_76 : decode cX7_init 76 = .ok (.aload_n 0, 1) := by decide +kernel
theorem dX7_init_77 : decode cX7_init 77 = .ok (.bipush 8, 2) := by decide +kernel
theorem dX7_init_79 : decode cX7_init 79 = .ok (.newarray .int, 2) := by decide +kernel
theorem dX7_init_81 : decode cX7_init 81 = .ok (.putfield 38, 3) := by decide +kernel
theorem dX7_init_84 : decode cX7_init 84 = .ok (.aload_n 0, 1) := by decide +kernel
theorem dX7_init_85 : decode cX7_init 85 = .ok (.bipush 8, 2) := by decide +kernel
theorem dX7_init_87 : decode cX7_init 87 = .ok (.newarray .int, 2) := by decide +kernel
theorem dX7_init_89 : decode cX7_init 89 = .ok (.putfield 41, 3) := by decide +kernel
theorem dX7_init_92 : decode cX7_init 92 = .ok (.aload_n 0, 1) := by decide +kernel
theorem dX7_init_93 : decode cX7_init 93 = .ok (.bipush 8, 2) := by decide +kernel
theorem dX7_init_95 : decode cX7_init 95 = .ok (.newarray .int, 2) := by decide +kernel
theorem dX7_init_97 : decode cX7_init 97 = .ok (.putfield 44, 3) := by decide +kernel
theorem dX7_init_100 : decode cX7_init 100 = .ok (.aload_n 0, 1) := by decide +kernel
theorem dX7_init_101 : decode cX7_init 101 = .ok (.bipush 8, 2) := by decide +kernel
theorem dX7_init_103 : decode cX7_init 103 = .ok (.newarray .int, 2) := by decide +kernel
theorem dX7_init_105 : decode cX7_init 105 = .ok (.putfield 47, 3) := by decide +kernel
theorem dX7_init_108 : decode cX7_init 108 = .ok (.aload_n 0, 1) := by decide +kernel
theorem dX7_init_109 : decode cX7_init 109 = .ok (.bipush 8, 2) := by decide +kernel
theorem dX7_init_111 : decode cX7_init 111 = .ok (.newarray .int, 2) := by decide +kernel
theorem dX7_init_113 : decode cX7_init 113 = .ok (.putfield 50, 3) := by decide +kernel
theorem dX7_init_116 : decode cX7_init 116 = .ok (.aload_n 0, 1) := by decide +kernel
theorem dX7_init_117 : decode cX7_init 117 = .ok (.bipush 40, 2) := by decide +kernel
theorem dX7_init_119 : decode cX7_init 119 = .ok (.newarray .int, 2) := by decide +kernel
theorem dX7_init_121 : decode cX7_init 121 = .ok (.putfield 53, 3) := by decide +kernel
theorem dX7_init_124 : decode cX7_init 124 = .ok (.aload_n 0, 1) := by decide +kernel
theorem dX7_init_125 : decode cX7_init 125 = .ok (.bipush 6, 2) := by decide +kernel
theorem dX7_init_127 : decode cX7_init 127 = .ok (.newarray .int, 2) := by decide +kernel
theorem dX7_init_129 : decode cX7_init 129 = .ok (.putfield 56, 3) := by decide +kernel
theorem dX7_init_132 : decode cX7_init 132 = .ok (.aload_n 0, 1) := by decide +kernel
theorem dX7_init_133 : decode cX7_init 133 = .ok (.iconst 5, 1) := by decide +kernel
theorem dX7_init_134 : decode cX7_init 134 = .ok (.newarray .int, 2) := by decide +kernel
theorem dX7_init_136 : decode cX7_init 136 = .ok (.putfield 59, 3) := by decide +kernel
theorem dX7_init_139 : decode cX7_init 139 = .ok (.aload_n 0, 1) := by decide +kernel
theorem dX7_init_140 : decode cX7_init 140 = .ok (.iconst 5, 1) := by decide +kernel
theorem dX7_init_141 : decode cX7_init 141 = .ok (.newarray .int, 2) := by decide +kernel
theorem dX7_init_143 : decode cX7_init 143 = .ok (.putfield 62, 3) := by decide +kernel
theorem dX7_init_146 : decode cX7_init 146 = .ok (.aload_n 0, 1) := by decide +kernel
theorem dX7_init_147 : decode cX7_init 147 = .ok (.bipush 40, 2) := by decide +kernel
theorem dX7_init_149 : decode cX7_init 149 = .ok (.newarray .int, 2) := by decide +kernel
theorem dX7_init_151 : decode cX7_init 151 = .ok (.putfield 65, 3) := by decide +kernel
theorem dX7_init_154 : decode cX7_init 154 = .ok (.aload_n 0, 1) := by decide +kernel
theorem dX7_init_155 : decode cX7_init 155 = .ok (.bipush 8, 2) := by decide +kernel
theorem dX7_init_157 : decode cX7_init 157 = .ok (.newarray .int, 2) := by decide +kernel
theorem dX7_init_159 : decode cX7_init 159 = .ok (.putfield 68, 3) := by decide +kernel
theorem dX7_init_162 : decode cX7_init 162 = .ok (.aload_n 0, 1) := by decide +kernel
theorem dX7_init_163 : decode cX7_init 163 = .ok (.bipush 20, 2) := by decide +kernel
theorem dX7_init_165 : decode cX7_init 165 = .ok (.newarray .int, 2) := by decide +kernel
theorem dX7_init_167 : decode cX7_init 167 = .ok (.putfield 71, 3) := by decide +kernel
theorem dX7_init_170 : decode cX7_init 170 = .ok (.aload_n 0, 1) := by decide +kernel
theorem dX7_init_171 : decode cX7_init 171 = .ok (.bipush 6, 2) := by decide +kernel
theorem dX7_init_173 : decode cX7_init 173 = .ok (.newarray .int, 2) := by decide +kernel
theorem dX7_init_175 : decode cX7_init 175 = .ok (.putfield 74, 3) := by decide +kernel
theorem dX7_init_178 : decode cX7_init 178 = .ok (.aload_n 0, 1) := by decide +kernel
theorem dX7_init_179 : decode cX7_init 179 = .ok (.bipush 6, 2) := by decide +kernel
theorem dX7_init_181 : decode cX7_init 181 = .ok (.newarray .int, 2) := by decide +kernel
theorem dX7_init_183 : decode cX7_init 183 = .ok (.putfield 77, 3) := by decide +kernel
theorem dX7_init_186 : decode cX7_init 186 = .ok (.return_, 1) := by decide +kernel
theorem dX7_in_0 : decode cX7_in 0 = .ok (.iload_n 0, 1) := by decide +kernel
theorem dX7_in_1 : decode cX7_in 1 = .ok (.iload_n 1, 1) := by decide +kernel
theorem dX7_in_2 : decode cX7_in 2 = .ok (.if_icmp .lt 12, 3) := by decide +kernel
theorem dX7_in_5 : decode cX7_in 5 = .ok (.iload_n 0, 1) := by decide +kernel
theorem dX7_in_6 : decode cX7_in 6 = .ok (.iload_n 2, 1) := by decide +kernel
theorem dX7_in_7 : decode cX7_in 7 = .ok (.if_icmp .gt 7, 3) := by decide +kernel
theorem dX7_in_10 : decode cX7_in 10 = .ok (.iconst 1, 1) := by decide +kernel
theorem dX7_in_11 : decode cX7_in 11 = .ok (.goto 4, 3) := by decide +kernel
theorem dX7_in_14 : decode cX7_in 14 = .ok (.iconst 0, 1) := by decide +kernel
theorem dX7_in_15 : decode cX7_in 15 = .ok (.ireturn, 1) := by decide +kernel
theorem dX7_isScene_0 : decode cX7_isScene 0 = .ok (.iload_n 1, 1) := by decide +kernel
theorem dX7_isScene_1 : decode cX7_isScene 1 = .ok (.iconst 0, 1) := by decide +kernel
theorem dX7_isScene_2 : decode cX7_isScene 2 = .ok (.aload_n 0, 1) := by decide +kernel
theorem dX7_isScene_3 : decode cX7_isScene 3 = .ok (.getfield 84, 3) := by decide +kernel
theorem dX7_isScene_6 : decode cX7_isScene 6 = .ok (.iconst 1, 1) := by decide +kernel
theorem dX7_isScene_7 : decode cX7_isScene 7 = .ok (.isub, 1) := by decide +kernel
theorem dX7_isScene_8 : decode cX7_isScene 8 = .ok (.invokestatic 87, 3) := by decide +kernel
theorem dX7_isScene_11 : decode cX7_isScene 11 = .ok (.ireturn, 1) := by decide +kernel
theorem dX7_isDay_0 : decode cX7_isDay 0 = .ok (.iload_n 1, 1) := by decide +kernel
theorem dX7_isDay_1 : decode cX7_isDay 1 = .ok (.iconst 0, 1) := by decide +kernel
theorem dX7_isDay_2 : decode cX7_isDay 2 = .ok (.aload_n 0, 1) := by decide +kernel
theorem dX7_isDay_3 : decode cX7_isDay 3 = .ok (.getfield 91, 3) := by decide +kernel
theorem dX7_isDay_6 : decode cX7_isDay 6 = .ok (.iconst 1, 1) := by decide +kernel
theorem dX7_isDay_7 : decode cX7_isDay 7 = .ok (.isub, 1) := by decide +kernel
theorem dX7_isDay_8 : decode cX7_isDay 8 = .ok (.invokestatic 87, 3) := by decide +kernel
theorem dX7_isDay_11 : decode cX7_isDay 11 = .ok (.ireturn, 1) := by decide +kernel
theorem dX7_distance_0 : decode cX7_distance 0 = .ok (.iload_n 0, 1) := by decide +kernel
theorem dX7_distance_1 : decode cX7_distance 1 = .ok (.iload_n 1, 1) := by decide +kernel
theorem dX7_distance_2 : decode cX7_distance 2 = .ok (.if_icmp .ge 9, 3) := by decide +kernel
theorem dX7_distance_5 : decode cX7_distance 5 = .ok (.iload_n 1, 1) := by decide +kernel
theorem dX7_distance_6 : decode cX7_distance 6 = .ok (.iload_n 0, 1) := by decide +kernel
theorem dX7_distance_7 : decode cX7_distance 7 = .ok (.isub, 1) := by decide +kernel
theorem dX7_distance_8 : decode cX7_distance 8 = .ok (.goto 6, 3) := by decide +kernel
theorem dX7_distance_11 : decode cX7_distance 11 = .ok (.iload_n 0, 1) := by decide +kernel
theorem dX7_distance_12 : decode cX7_distance 12 = .ok (.iload_n 1, 1) := by decide +kernel
theorem dX7_distance_13 : decode cX7_distance 13 = .ok (.isub, 1) := by decide +kernel
theorem dX7_distance_14 : decode cX7_distance 14 = .ok (.ireturn, 1) := by decide +kernel
theorem dX7_scene_0 : decode cX7_scene 0 = .ok (.iload_n 1, 1) := by decide +kernel
theorem dX7_scene_1 : decode cX7_scene 1 = .ok (.iconst 5, 1) := by decide +kernel
theorem dX7_scene_2 : decode cX7_scene 2 = .ok (.sipush 300, 3) := by decide +kernel
theorem dX7_scene_5 : decode cX7_scene 5 = .ok (.invokestatic 87, 3) := by decide +kernel
theorem dX7_scene_8 : decode cX7_scene 8 = .ok (.ifCond .eq 34, 3) := by decide +kernel
theorem dX7_scene_11 : decode cX7_scene 11 = .ok (.iload_n 3, 1) := by decide +kernel
theorem dX7_scene_12 : decode cX7_scene 12 = .ok (.iconst 0, 1) := by decide +kernel
theorem dX7_scene_13 : decode cX7_scene 13 = .ok (.iconst 2, 1) := by decide +kernel
theorem dX7_scene_14 : decode cX7_scene 14 = .ok (.invokestatic 87, 3) := by decide +kernel
theorem dX7_scene_17 : decode cX7_scene 17 = .ok (.ifCond .eq 25, 3) := by decide +kernel
theorem dX7_scene_20 : decode cX7_scene 20 = .ok (.iload 4, 2) := by decide +kernel
theorem dX7_scene_22 : decode cX7_scene 22 = .ok (.iconst 0, 1) := by decide +kernel
theorem dX7_scene_23 : decode cX7_scene 23 = .ok (.iconst 1, 1) := by decide +kernel
theorem dX7_scene_24 : decode cX7_scene 24 = .ok (.invokestatic 87, 3) := by decide +kernel
theorem dX7_scene_27 : decode cX7_scene 27 = .ok (.ifCond .eq 15, 3) := by decide +kernel
theorem dX7_scene_30 : decode cX7_scene 30 = .ok (.iload 5, 2) := by decide +kernel
theorem dX7_scene_32 : decode cX7_scene 32 = .ok (.iconst 0, 1) := by decide +kernel
theorem dX7_scene_33 : decode cX7_scene 33 = .ok (.sipush 255, 3) := by decide +kernel
theorem dX7_scene_36 : decode cX7_scene 36 = .ok (.invokestatic 87, 3) := by decide +kernel
theorem dX7_scene_39 : decode cX7_scene 39 = .ok (.ifCond .ne 6, 3) := by decide +kernel
theorem dX7_scene_42 : decode cX7_scene 42 = .ok (.bipush (-2), 2) := by decide +kernel
theorem dX7_scene_44 : decode cX7_scene 44 = .ok (.ireturn, 1) := by decide +kernel
theorem dX7_scene_45 : decode cX7_scene 45 = .ok (.iload_n 2, 1) := by decide +kernel
theorem dX7_scene_46 : decode cX7_scene 46 = .ok (.iconst 0, 1) := by decide +kernel
theorem dX7_scene_47 : decode cX7_scene 47 = .ok (.bipush 7, 2) := by decide +kernel
theorem dX7_scene_49 : decode cX7_scene 49 = .ok (.invokestatic 87, 3) := by decide +kernel
theorem dX7_scene_52 : decode cX7_scene 52 = .ok (.ifCond .ne 5, 3) := by decide +kernel
theorem dX7_scene_55 : decode cX7_scene 55 = .ok (.iconst (-1), 1) := by decide +kernel
theorem dX7_scene_56 : decode cX7_scene 56 = .ok (.ireturn, 1) := by decide +kernel
theorem dX7_scene_57 : decode cX7_scene 57 = .ok (.aload_n 0, 1) := by decide +kernel
theorem dX7_scene_58 : decode cX7_scene 58 = .ok (.getfield 84, 3) := by decide +kernel
theorem dX7_scene_61 : decode cX7_scene 61 = .ok (.bipush 20, 2) := by decide +kernel
theorem dX7_scene_63 : decode cX7_scene 63 = .ok (.if_icmp .ne 6, 3) := by decide +kernel
theorem dX7_scene_66 : decode cX7_scene 66 = .ok (.bipush (-4), 2) := by decide +kernel
theorem dX7_scene_68 : decode cX7_scene 68 = .ok (.ireturn, 1) := by decide +kernel
theorem dX7_scene_69 : decode cX7_scene 69 = .ok (.aload_n 0, 1) := by decide +kernel
theorem dX7_scene_70 : decode cX7_scene 70 = .ok (.getfield 7, 3) := by decide +kernel
theorem dX7_scene_73 : decode cX7_scene 73 = .ok (.aload_n 0, 1) := by decide +kernel
theorem dX7_scene_74 : decode cX7_scene 74 = .ok (.getfield 84, 3) := by decide +kernel
theorem dX7_scene_77 : decode cX7_scene 77 = .ok (.iload_n 1, 1) := by decide +kernel
theorem dX7_scene_78 : decode cX7_scene 78 = .ok (.iastore, 1) := by decide +kernel
theorem dX7_scene_79 : decode cX7_scene 79 = .ok (.aload_n 0, 1) := by decide +kernel
theorem dX7_scene_80 : decode cX7_scene 80 = .ok (.getfield 13, 3) := by decide +kernel
theorem dX7_scene_83 : decode cX7_scene 83 = .ok (.aload_n 0, 1) := by decide +kernel
theorem dX7_scene_84 : decode cX7_scene 84 = .ok (.getfield 84, 3) := by decide +kernel
theorem dX7_scene_87 : decode cX7_scene 87 = .ok (.iload_n 2, 1) := by decide +kernel
theorem dX7_scene_88 : decode cX7_scene 88 = .ok (.iastore, 1) := by decide +kernel
theorem dX7_scene_89 : decode cX7_scene 89 = .ok (.aload_n 0, 1) := by decide +kernel
theorem dX7_scene_90 : decode cX7_scene 90 = .ok (.getfield 16, 3) := by decide +kernel
theorem dX7_scene_93 : decode cX7_scene 93 = .ok (.aload_n 0, 1) := by decide +kernel
theorem dX7_scene_94 : decode cX7_scene 94 = .ok (.getfield 84, 3) := by decide +kernel
theorem dX7_scene_97 : decode cX7_scene 97 = .ok (.iload_n 3, 1) := by decide +kernel
theorem dX7_scene_98 : decode cX7_scene 98 = .ok (.iastore, 1) := by decide +kernel
theorem dX7_scene_99 : decode cX7_scene 99 = .ok (.aload_n 0, 1) := by decide +kernel
theorem dX7_scene_100 : decode cX7_scene 100 = .ok (.getfield 19, 3) := by decide +kernel
theorem dX7_scene_103 : decode cX7_scene 103 = .ok (.aload_n 0, 1) := by decide +kernel
theorem dX7_scene_104 : decode cX7_scene 104 = .ok (.getfield 84, 3) := by decide +kernel
theorem dX7_scene_107 : decode cX7_scene 107 = .ok (.iload 4, 2) := by decide +kernel
theorem dX7_scene_109 : decode cX7_scene 109 = .ok (.iconst 1, 1) := by decide +kernel
theorem dX7_scene_110 : decode cX7_scene 110 = .ok (.if_icmp .ne 7, 3) := by decide +kernel
theorem dX7_scene_113 : decode cX7_scene 113 = .ok (.iconst 1, 1) := by decide +kernel
theorem dX7_scene_114 : decode cX7_scene 114 = .ok (.goto 4, 3) := by decide +kernel
theorem dX7_scene_117 : decode cX7_scene 117 = .ok (.iconst 0, 1) := by decide +kernel
theorem dX7_scene_118 : decode cX7_scene 118 = .ok (.bastore, 1) := by decide +kernel
theorem dX7_scene_119 : decode cX7_scene 119 = .ok (.aload_n 0, 1) := by decide +kernel
theorem dX7_scene_120 : decode cX7_scene 120 = .ok (.getfield 23, 3) := by decide +kernel
theorem dX7_scene_123 : decode cX7_scene 123 = .ok (.aload_n 0, 1) := by decide +kernel
theorem dX7_scene_124 : decode cX7_scene 124 = .ok (.getfield 84, 3) := by decide +kernel
theorem dX7_scene_127 : decode cX7_scene 127 = .ok (.iload 5, 2) := by decide +kernel
theorem dX7_scene_129 : decode cX7_scene 129 = .ok (.iastore, 1) := by decide +kernel
theorem dX7_scene_130 : decode cX7_scene 130 = .ok (.aload_n 0, 1) := by decide +kernel
theorem dX7_scene_131 : decode cX7_scene 131 = .ok (.getfield 29, 3) := by decide +kernel
theorem dX7_scene_134 : decode cX7_scene 134 = .ok (.aload_n 0, 1) := by decide +kernel
theorem dX7_scene_135 : decode cX7_scene 135 = .ok (.getfield 84, 3) := by decide +kernel
theorem dX7_scene_138 : decode cX7_scene 138 = .ok (.iconst (-1), 1) := by decide +kernel
theorem dX7_scene_139 : decode cX7_scene 139 = .ok (.iastore, 1) := by decide +kernel
theorem dX7_scene_140 : decode cX7_scene 140 = .ok (.aload_n 0, 1) := by decide +kernel
theorem dX7_scene_141 : decode cX7_scene 141 = .ok (.dup, 1) := by decide +kernel
theorem dX7_scene_142 : decode cX7_scene 142 = .ok (.getfield 84, 3) := by decide +kernel
theorem dX7_scene_145 : decode cX7_scene 145 = .ok (.iconst 1, 1) := by decide +kernel
theorem dX7_scene_146 : decode cX7_scene 146 = .ok (.iadd, 1) := by decide +kernel
theorem dX7_scene_147 : decode cX7_scene 147 = .ok (.putfield 84, 3) := by decide +kernel
theorem dX7_scene_150 : decode cX7_scene 150 = .ok (.aload_n 0, 1) := by decide +kernel
theorem dX7_scene_151 : decode cX7_scene 151 = .ok (.getfield 84, 3) := by decide +kernel
theorem dX7_scene_154 : decode cX7_scene 154 = .ok (.iconst 1, 1) := by decide +kernel
theorem dX7_scene_155 : decode cX7_scene 155 = .ok (.isub, 1) := by decide +kernel
theorem dX7_scene_156 : decode cX7_scene 156 = .ok (.ireturn, 1) := by decide +kernel
theorem dX7_player_0 : decode cX7_player 0 = .ok (.iload_n 1, 1) := by decide +kernel
theorem dX7_player_1 : decode cX7_player 1 = .ok (.iconst 0, 1) := by decide +kernel
theorem dX7_player_2 : decode cX7_player 2 = .ok (.bipush 7, 2) := by decide +kernel
theorem dX7_player_4 : decode cX7_player 4 = .ok (.invokestatic 87, 3) := by decide +kernel
theorem dX7_player_7 : decode cX7_player 7 = .ok (.ifCond .ne 5, 3) := by decide +kernel
theorem dX7_player_10 : decode cX7_player 10 = .ok (.iconst (-1), 1) := by decide +kernel
theorem dX7_player_11 : decode cX7_player 11 = .ok (.ireturn, 1) := by decide +kernel
theorem dX7_player_12 : decode cX7_player 12 = .ok (.iload_n 2, 1) := by decide +kernel
theorem dX7_player_13 : decode cX7_player 13 = .ok (.iconst 0, 1) := by decide +kernel
theorem dX7_player_14 : decode cX7_player 14 = .ok (.sipush 1000, 3) := by decide +kernel
theorem dX7_player_17 : decode cX7_player 17 = .ok (.invokestatic 87, 3) := by decide +kernel
theorem dX7_player_20 : decode cX7_player 20 = .ok (.ifCond .eq 13, 3) := by decide +kernel
theorem dX7_player_23 : decode cX7_player 23 = .ok (.iload_n 3, 1) := by decide +kernel
theorem dX7_player_24 : decode cX7_player 24 = .ok (.iconst 0, 1) := by decide +kernel
theorem dX7_player_25 : decode cX7_player 25 = .ok (.bipush 10, 2) := by decide +kernel
theorem dX7_player_27 : decode cX7_player 27 = .ok (.invokestatic 87, 3) := by decide +kernel
theorem dX7_player_30 : decode cX7_player 30 = .ok (.ifCond .ne 6, 3) := by decide +kernel
theorem dX7_player_33 : decode cX7_player 33 = .ok (.bipush (-2), 2) := by decide +kernel
theorem dX7_player_35 : decode cX7_player 35 = .ok (.ireturn, 1) := by decide +kernel
theorem dX7_player_36 : decode cX7_player 36 = .ok (.aload_n 0, 1) := by decide +kernel
theorem dX7_player_37 : decode cX7_player 37 = .ok (.getfield 32, 3) := by decide +kernel
theorem dX7_player_40 : decode cX7_player 40 = .ok (.iload_n 1, 1) := by decide +kernel
theorem dX7_player_41 : decode cX7_player 41 = .ok (.iload_n 2, 1) := by decide +kernel
theorem dX7_player_42 : decode cX7_player 42 = .ok (.iastore, 1) := by decide +kernel
theorem dX7_player_43 : decode cX7_player 43 = .ok (.aload_n 0, 1) := by decide +kernel
theorem dX7_player_44 : decode cX7_player 44 = .ok (.getfield 35, 3) := by decide +kernel
theorem dX7_player_47 : decode cX7_player 47 = .ok (.iload_n 1, 1) := by decide +kernel
theorem dX7_player_48 : decode cX7_player 48 = .ok (.iload_n 3, 1) := by decide +kernel
theorem dX7_player_49 : decode cX7_player 49 = .ok (.iastore, 1) := by decide +kernel
theorem dX7_player_50 : decode cX7_player 50 = .ok (.iconst 0, 1) := by decide +kernel
theorem dX7_player_51 : decode cX7_player 51 = .ok (.ireturn, 1) := by decide +kernel
theorem dX7_rent_0 : decode cX7_rent 0 = .ok (.iload_n 1, 1) := by decide +kernel
theorem dX7_rent_1 : decode cX7_rent 1 = .ok (.iconst 0, 1) := by decide +kernel
theorem dX7_rent_2 : decode cX7_rent 2 = .ok (.bipush 7, 2) := by decide +kernel
theorem dX7_rent_4 : decode cX7_rent 4 = .ok (.invokestatic 87, 3) := by decide +kernel
theorem dX7_rent_7 : decode cX7_rent 7 = .ok (.ifCond .ne 5, 3) := by decide +kernel
theorem dX7_rent_10 : decode cX7_rent 10 = .ok (.iconst (-1), 1) := by decide +kernel
theorem dX7_rent_11 : decode cX7_rent 11 = .ok (.ireturn, 1) := by decide +kernel
theorem dX7_rent_12 : decode cX7_rent 12 = .ok (.iload_n 2, 1) := by decide +kernel
theorem dX7_rent_13 : decode cX7_rent 13 = .ok (.iconst 0, 1) := by decide +kernel
theorem dX7_rent_14 : decode cX7_rent 14 = .ok (.sipush 1000, 3) := by decide +kernel
theorem dX7_rent_17 : decode cX7_rent 17 = .ok (.invokestatic 87, 3) := by decide +kernel
theorem dX7_rent_20 : decode cX7_rent 20 = .ok (.ifCond .ne 6, 3) := by decide +kernel
theorem dX7_rent_23 : decode cX7_rent 23 = .ok (.bipush (-2), 2) := by decide +kernel
theorem dX7_rent_25 : decode cX7_rent 25 = .ok (.ireturn, 1) := by decide +kernel
theorem dX7_rent_26 : decode cX7_rent 26 = .ok (.aload_n 0, 1) := by decide +kernel
theorem dX7_rent_27 : decode cX7_rent 27 = .ok (.getfield 38, 3) := by decide +kernel
theorem dX7_rent_30 : decode cX7_rent 30 = .ok (.iload_n 1, 1) := by decide +kernel
theorem dX7_rent_31 : decode cX7_rent 31 = .ok (.iaload, 1) := by decide +kernel
theorem dX7_rent_32 : decode cX7_rent 32 = .ok (.istore_n 3, 1) := by decide +kernel
theorem dX7_rent_33 : decode cX7_rent 33 = .ok (.aload_n 0, 1) := by decide +kernel
theorem dX7_rent_34 : decode cX7_rent 34 = .ok (.getfield 38, 3) := by decide +kernel
theorem dX7_rent_37 : decode cX7_rent 37 = .ok (.iload_n 1, 1) := by decide +kernel
theorem dX7_rent_38 : decode cX7_rent 38 = .ok (.iload_n 2, 1) := by decide +kernel
theorem dX7_rent_39 : decode cX7_rent 39 = .ok (.iastore, 1) := by decide +kernel
theorem dX7_rent_40 : decode cX7_rent 40 = .ok (.iload_n 3, 1) := by decide +kernel
theorem dX7_rent_41 : decode cX7_rent 41 = .ok (.ireturn, 1) := by decide +kernel
theorem dX7_spot_0 : decode cX7_spot 0 = .ok (.iload_n 1, 1) := by decide +kernel
theorem dX7_spot_1 : decode cX7_spot 1 = .ok (.iconst 0, 1) := by decide +kernel
theorem dX7_spot_2 : decode cX7_spot 2 = .ok (.bipush 7, 2) := by decide +kernel
theorem dX7_spot_4 : decode cX7_spot 4 = .ok (.invokestatic 87, 3) := by decide +kernel
theorem dX7_spot_7 : decode cX7_spot 7 = .ok (.ifCond .ne 5, 3) := by decide +kernel
theorem dX7_spot_10 : decode cX7_spot 10 = .ok (.iconst (-1), 1) := by decide +kernel
theorem dX7_spot_11 : decode cX7_spot 11 = .ok (.ireturn, 1) := by decide +kernel
theorem dX7_spot_12 : decode cX7_spot 12 = .ok (.iload_n 2, 1) := by decide +kernel
theorem dX7_spot_13 : decode cX7_spot 13 = .ok (.iconst 0, 1) := by decide +kernel
theorem dX7_spot_14 : decode cX7_spot 14 = .ok (.bipush 120, 2) := by decide +kernel
theorem dX7_spot_16 : decode cX7_spot 16 = .ok (.invokestatic 87, 3) := by decide +kernel
theorem dX7_spot_19 : decode cX7_spot 19 = .ok (.ifCond .ne 6, 3) := by decide +kernel
theorem dX7_spot_22 : decode cX7_spot 22 = .ok (.bipush (-2), 2) := by decide +kernel
theorem dX7_spot_24 : decode cX7_spot 24 = .ok (.ireturn, 1) := by decide +kernel
theorem dX7_spot_25 : decode cX7_spot 25 = .ok (.aload_n 0, 1) := by decide +kernel
theorem dX7_spot_26 : decode cX7_spot 26 = .ok (.getfield 41, 3) := by decide +kernel
theorem dX7_spot_29 : decode cX7_spot 29 = .ok (.iload_n 1, 1) := by decide +kernel
theorem dX7_spot_30 : decode cX7_spot 30 = .ok (.iaload, 1) := by decide +kernel
theorem dX7_spot_31 : decode cX7_spot 31 = .ok (.istore_n 3, 1) := by decide +kernel
theorem dX7_spot_32 : decode cX7_spot 32 = .ok (.aload_n 0, 1) := by decide +kernel
theorem dX7_spot_33 : decode cX7_spot 33 = .ok (.getfield 41, 3) := by decide +kernel
theorem dX7_spot_36 : decode cX7_spot 36 = .ok (.iload_n 1, 1) := by decide +kernel
theorem dX7_spot_37 : decode cX7_spot 37 = .ok (.iload_n 2, 1) := by decide +kernel
theorem dX7_spot_38 : decode cX7_spot 38 = .ok (.iastore, 1) := by decide +kernel
theorem dX7_spot_39 : decode cX7_spot 39 = .ok (.aload_n 0, 1) := by decide +kernel
theorem dX7_spot_40 : decode cX7_spot 40 = .ok (.invokevirtual 94, 3) := by decide +kernel
theorem dX7_spot_43 : decode cX7_spot 43 = .ok (.ifCond .eq 5, 3) := by decide +kernel
theorem dX7_spot_46 : decode cX7_spot 46 = .ok (.iload_n 3, 1) := by decide +kernel
theorem dX7_spot_47 : decode cX7_spot 47 = .ok (.ireturn, 1) := by decide +kernel
theorem dX7_spot_48 : decode cX7_spot 48 = .ok (.aload_n 0, 1) := by decide +kernel
theorem dX7_spot_49 : decode cX7_spot 49 = .ok (.getfield 41, 3) := by decide +kernel
theorem dX7_spot_52 : decode cX7_spot 52 = .ok (.iload_n 1, 1) := by decide +kernel
theorem dX7_spot_53 : decode cX7_spot 53 = .ok (.iload_n 3, 1) := by decide +kernel
theorem dX7_spot_54 : decode cX7_spot 54 = .ok (.iastore, 1) := by decide +kernel
theorem dX7_spot_55 : decode cX7_spot 55 = .ok (.bipush (-3), 2) := by decide +kernel
theorem dX7_spot_57 : decode cX7_spot 57 = .ok (.ireturn, 1) := by decide +kernel
theorem dX7_mustBe_0 : decode cX7_mustBe 0 = .ok (.aload_n 0, 1) := by decide +kernel
theorem dX7_mustBe_1 : decode cX7_mustBe 1 = .ok (.getfield 26, 3) := by decide +kernel
theorem dX7_mustBe_4 : decode cX7_mustBe 4 = .ok (.iload_n 2, 1) := by decide +kernel
theorem dX7_mustBe_5 : decode cX7_mustBe 5 = .ok (.iaload, 1) := by decide +kernel
theorem dX7_mustBe_6 : decode cX7_mustBe 6 = .ok (.istore_n 3, 1) := by decide +kernel
theorem dX7_mustBe_7 : decode cX7_mustBe 7 = .ok (.iconst 0, 1) := by decide +kernel
theorem dX7_mustBe_8 : decode cX7_mustBe 8 = .ok (.istore 4, 2) := by decide +kernel
theorem dX7_mustBe_10 : decode cX7_mustBe 10 = .ok (.iload 4, 2) := by decide +kernel
theorem dX7_mustBe_12 : decode cX7_mustBe 12 = .ok (.aload_n 0, 1) := by decide +kernel
theorem dX7_mustBe_13 : decode cX7_mustBe 13 = .ok (.getfield 84, 3) := by decide +kernel
theorem dX7_mustBe_16 : decode cX7_mustBe 16 = .ok (.if_icmp .ge 47, 3) := by decide +kernel
theorem dX7_mustBe_19 : decode cX7_mustBe 19 = .ok (.iconst 0, 1) := by decide +kernel
theorem dX7_mustBe_20 : decode cX7_mustBe 20 = .ok (.istore 5, 2) := by decide +kernel
theorem dX7_mustBe_22 : decode cX7_mustBe 22 = .ok (.iload 5, 2) := by decide +kernel
theorem dX7_mustBe_24 : decode cX7_mustBe 24 = .ok (.aload_n 0, 1) := by decide +kernel
theorem dX7_mustBe_25 : decode cX7_mustBe 25 = .ok (.getfield 84, 3) := by decide +kernel
theorem dX7_mustBe_28 : decode cX7_mustBe 28 = .ok (.if_icmp .ge 29, 3) := by decide +kernel
theorem dX7_mustBe_31 : decode cX7_mustBe 31 = .ok (.iload_n 3, 1) := by decide +kernel
theorem dX7_mustBe_32 : decode cX7_mustBe 32 = .ok (.iload 5, 2) := by decide +kernel
theorem dX7_mustBe_34 : decode cX7_mustBe 34 = .ok (.ishr, 1) := by decide +kernel
theorem dX7_mustBe_35 : decode cX7_mustBe 35 = .ok (.iconst 1, 1) := by decide +kernel
theorem dX7_mustBe_36 : decode cX7_mustBe 36 = .ok (.iand, 1) := by decide +kernel
theorem dX7_mustBe_37 : decode cX7_mustBe 37 = .ok (.iconst 1, 1) := by decide +kernel
theorem dX7_mustBe_38 : decode cX7_mustBe 38 = .ok (.if_icmp .ne 13, 3) := by decide +kernel
theorem dX7_mustBe_41 : decode cX7_mustBe 41 = .ok (.iload_n 3, 1) := by decide +kernel
theorem dX7_mustBe_42 : decode cX7_mustBe 42 = .ok (.aload_n 0, 1) := by decide +kernel
theorem dX7_mustBe_43 : decode cX7_mustBe 43 = .ok (.getfield 26, 3) := by decide +kernel
theorem dX7_mustBe_46 : decode cX7_mustBe 46 = .ok (.iload 5, 2) := by decide +kernel
theorem dX7_mustBe_48 : decode cX7_mustBe 48 = .ok (.iaload, 1) := by decide +kernel
theorem dX7_mustBe_49 : decode cX7_mustBe 49 = .ok (.ior, 1) := by decide +kernel
theorem dX7_mustBe_50 : decode cX7_mustBe 50 = .ok (.istore_n 3, 1) := by decide +kernel
theorem dX7_mustBe_51 : decode cX7_mustBe 51 = .ok (.iinc 5 1, 3) := by decide +kernel
theorem dX7_mustBe_54 : decode cX7_mustBe 54 = .ok (.goto (-32), 3) := by decide +kernel
theorem dX7_mustBe_57 : decode cX7_mustBe 57 = .ok (.iinc 4 1, 3) := by decide +kernel
theorem dX7_mustBe_60 : decode cX7_mustBe 60 = .ok (.goto (-50), 3) := by decide +kernel
theorem dX7_mustBe_63 : decode cX7_mustBe 63 = .ok (.iload_n 3, 1) := by decide +kernel
theorem dX7_mustBe_64 : decode cX7_mustBe 64 = .ok (.iload_n 1, 1) := by decide +kernel
theorem dX7_mustBe_65 : decode cX7_mustBe 65 = .ok (.ishr, 1) := by decide +kernel
theorem dX7_mustBe_66 : decode cX7_mustBe 66 = .ok (.iconst 1, 1) := by decide +kernel
theorem dX7_mustBe_67 : decode cX7_mustBe 67 = .ok (.iand, 1) := by decide +kernel
theorem dX7_mustBe_68 : decode cX7_mustBe 68 = .ok (.iconst 1, 1) := by decide +kernel
theorem dX7_mustBe_69 : decode cX7_mustBe 69 = .ok (.if_icmp .ne 7, 3) := by decide +kernel
theorem dX7_mustBe_72 : decode cX7_mustBe 72 = .ok (.iconst 1, 1) := by decide +kernel
theorem dX7_mustBe_73 : decode cX7_mustBe 73 = .ok (.goto 4, 3) := by decide +kernel
theorem dX7_mustBe_76 : decode cX7_mustBe 76 = .ok (.iconst 0, 1) := by decide +kernel
theorem dX7_mustBe_77 : decode cX7_mustBe 77 = .ok (.ireturn, 1) := by decide +kernel
theorem dX7_ahead_0 : decode cX7_ahead 0 = .ok (.aload_n 0, 1) := by decide +kernel
theorem dX7_ahead_1 : decode cX7_ahead 1 = .ok (.iload_n 1, 1) := by decide +kernel
theorem dX7_ahead_2 : decode cX7_ahead 2 = .ok (.invokevirtual 98, 3) := by decide +kernel
theorem dX7_ahead_5 : decode cX7_ahead 5 = .ok (.ifCond .eq 11, 3) := by decide +kernel
theorem dX7_ahead_8 : decode cX7_ahead 8 = .ok (.aload_n 0, 1) := by decide +kernel
theorem dX7_ahead_9 : decode cX7_ahead 9 = .ok (.iload_n 2, 1) := by decide +kernel
theorem dX7_ahead_10 : decode cX7_ahead 10 = .ok (.invokevirtual 98, 3) := by decide +kernel
theorem dX7_ahead_13 : decode cX7_ahead 13 = .ok (.ifCond .ne 5, 3) := by decide +kernel
theorem dX7_ahead_16 : decode cX7_ahead 16 = .ok (.iconst (-1), 1) := by decide +kernel
theorem dX7_ahead_17 : decode cX7_ahead 17 = .ok (.ireturn, 1) := by decide +kernel
theorem dX7_ahead_18 : decode cX7_ahead 18 = .ok (.iload_n 1, 1) := by decide +kernel
theorem dX7_ahead_19 : decode cX7_ahead 19 = .ok (.iload_n 2, 1) := by decide +kernel
theorem dX7_ahead_20 : decode cX7_ahead 20 = .ok (.if_icmp .eq 12, 3) := by decide +kernel
theorem dX7_ahead_23 : decode cX7_ahead 23 = .ok (.aload_n 0, 1) := by decide +kernel
theorem dX7_ahead_24 : decode cX7_ahead 24 = .ok (.iload_n 2, 1) := by decide +kernel
theorem dX7_ahead_25 : decode cX7_ahead 25 = .ok (.iload_n 1, 1) := by decide +kernel
theorem dX7_ahead_26 : decode cX7_ahead 26 = .ok (.invokevirtual 102, 3) := by decide +kernel
theorem dX7_ahead_29 : decode cX7_ahead 29 = .ok (.ifCond .eq 6, 3) := by decide +kernel
theorem dX7_ahead_32 : decode cX7_ahead 32 = .ok (.bipush (-2), 2) := by decide +kernel
theorem dX7_ahead_34 : decode cX7_ahead 34 = .ok (.ireturn, 1) := by decide +kernel
theorem dX7_ahead_35 : decode cX7_ahead 35 = .ok (.aload_n 0, 1) := by decide +kernel
theorem dX7_ahead_36 : decode cX7_ahead 36 = .ok (.getfield 26, 3) := by decide +kernel
theorem dX7_ahead_39 : decode cX7_ahead 39 = .ok (.iload_n 2, 1) := by decide +kernel
theorem dX7_ahead_40 : decode cX7_ahead 40 = .ok (.iaload, 1) := by decide +kernel
theorem dX7_ahead_41 : decode cX7_ahead 41 = .ok (.iload_n 1, 1) := by decide +kernel
theorem dX7_ahead_42 : decode cX7_ahead 42 = .ok (.ishr, 1) := by decide +kernel
theorem dX7_ahead_43 : decode cX7_ahead 43 = .ok (.iconst 1, 1) := by decide +kernel
theorem dX7_ahead_44 : decode cX7_ahead 44 = .ok (.iand, 1) := by decide +kernel
theorem dX7_ahead_45 : decode cX7_ahead 45 = .ok (.iconst 1, 1) := by decide +kernel
theorem dX7_ahead_46 : decode cX7_ahead 46 = .ok (.if_icmp .ne 5, 3) := by decide +kernel
theorem dX7_ahead_49 : decode cX7_ahead 49 = .ok (.iconst 0, 1) := by decide +kernel
theorem dX7_ahead_50 : decode cX7_ahead 50 = .ok (.ireturn, 1) := by decide +kernel
theorem dX7_ahead_51 : decode cX7_ahead 51 = .ok (.aload_n 0, 1) := by decide +kernel
theorem dX7_ahead_52 : decode cX7_ahead 52 = .ok (.getfield 26, 3) := by decide +kernel
theorem dX7_ahead_55 : decode cX7_ahead 55 = .ok (.iload_n 2, 1) := by decide +kernel
theorem dX7_ahead_56 : decode cX7_ahead 56 = .ok (.dup2, 1) := by decide +kernel
theorem dX7_ahead_57 : decode cX7_ahead 57 = .ok (.iaload, 1) := by decide +kernel
theorem dX7_ahead_58 : decode cX7_ahead 58 = .ok (.iconst 1, 1) := by decide +kernel
theorem dX7_ahead_59 : decode cX7_ahead 59 = .ok (.iload_n 1, 1) := by decide +kernel
theorem dX7_ahead_60 : decode cX7_ahead 60 = .ok (.ishl, 1) := by decide +kernel
theorem dX7_ahead_61 : decode cX7_ahead 61 = .ok (.ior, 1) := by decide +kernel
theorem dX7_ahead_62 : decode cX7_ahead 62 = .ok (.iastore, 1) := by decide +kernel
theorem dX7_ahead_63 : decode cX7_ahead 63 = .ok (.aload_n 0, 1) := by decide +kernel
theorem dX7_ahead_64 : decode cX7_ahead 64 = .ok (.invokevirtual 94, 3) := by decide +kernel
theorem dX7_ahead_67 : decode cX7_ahead 67 = .ok (.ifCond .eq 5, 3) := by decide +kernel
theorem dX7_ahead_70 : decode cX7_ahead 70 = .ok (.iconst 1, 1) := by decide +kernel
theorem dX7_ahead_71 : decode cX7_ahead 71 = .ok (.ireturn, 1) := by decide +kernel
theorem dX7_ahead_72 : decode cX7_ahead 72 = .ok (.aload_n 0, 1) := by decide +kernel
theorem dX7_ahead_73 : decode cX7_ahead 73 = .ok (.getfield 26, 3) := by decide +kernel
theorem dX7_ahead_76 : decode cX7_ahead 76 = .ok (.iload_n 2, 1) := by decide +kernel
theorem dX7_ahead_77 : decode cX7_ahead 77 = .ok (.dup2, 1) := by decide +kernel
theorem dX7_ahead_78 : decode cX7_ahead 78 = .ok (.iaload, 1) := by decide +kernel
theorem dX7_ahead_79 : decode cX7_ahead 79 = .ok (.iconst 1, 1) := by decide +kernel
theorem dX7_ahead_80 : decode cX7_ahead 80 = .ok (.iload_n 1, 1) := by decide +kernel
theorem dX7_ahead_81 : decode cX7_ahead 81 = .ok (.ishl, 1) := by decide +kernel
theorem dX7_ahead_82 : decode cX7_ahead 82 = .ok (.iconst (-1), 1) := by decide +kernel
theorem dX7_ahead_83 : decode cX7_ahead 83 = .ok (.ixor, 1) := by decide +kernel
theorem dX7_ahead_84 : decode cX7_ahead 84 = .ok (.iand, 1) := by decide +kernel
theorem dX7_ahead_85 : decode cX7_ahead 85 = .ok (.iastore, 1) := by decide +kernel
theorem dX7_ahead_86 : decode cX7_ahead 86 = .ok (.bipush (-3), 2) := by decide +kernel
theorem dX7_ahead_88 : decode cX7_ahead 88 = .ok (.ireturn, 1) := by decide +kernel
theorem dX7_day_0 : decode cX7_day 0 = .ok (.iload_n 1, 1) := by decide +kernel
theorem dX7_day_1 : decode cX7_day 1 = .ok (.bipush 60, 2) := by decide +kernel
theorem dX7_day_3 : decode cX7_day 3 = .ok (.sipush 900, 3) := by decide +kernel
theorem dX7_day_6 : decode cX7_day 6 = .ok (.invokestatic 87, 3) := by decide +kernel
theorem dX7_day_9 : decode cX7_day 9 = .ok (.ifCond .eq 14, 3) := by decide +kernel
theorem dX7_day_12 : decode cX7_day 12 = .ok (.iload_n 2, 1) := by decide +kernel
theorem dX7_day_13 : decode cX7_day 13 = .ok (.iconst 0, 1) := by decide +kernel
theorem dX7_day_14 : decode cX7_day 14 = .ok (.sipush 900, 3) := by decide +kernel
theorem dX7_day_17 : decode cX7_day 17 = .ok (.invokestatic 87, 3) := by decide +kernel
theorem dX7_day_20 : decode cX7_day 20 = .ok (.ifCond .ne 6, 3) := by decide +kernel
theorem dX7_day_23 : decode cX7_day 23 = .ok (.bipush (-2), 2) := by decide +kernel
theorem dX7_day_25 : decode cX7_day 25 = .ok (.ireturn, 1) := by decide +kernel
theorem dX7_day_26 : decode cX7_day 26 = .ok (.aload_n 0, 1) := by decide +kernel
theorem dX7_day_27 : decode cX7_day 27 = .ok (.getfield 91, 3) := by decide +kernel
theorem dX7_day_30 : decode cX7_day 30 = .ok (.bipush 8, 2) := by decide +kernel
theorem dX7_day_32 : decode cX7_day 32 = .ok (.if_icmp .ne 6, 3) := by decide +kernel
theorem dX7_day_35 : decode cX7_day 35 = .ok (.bipush (-4), 2) := by decide +kernel
theorem dX7_day_37 : decode cX7_day 37 = .ok (.ireturn, 1) := by decide +kernel
theorem dX7_day_38 : decode cX7_day 38 = .ok (.aload_n 0, 1) := by decide +kernel
theorem dX7_day_39 : decode cX7_day 39 = .ok (.getfield 44, 3) := by decide +kernel
theorem dX7_day_42 : decode cX7_day 42 = .ok (.aload_n 0, 1) := by decide +kernel
theorem dX7_day_43 : decode cX7_day 43 = .ok (.getfield 91, 3) := by decide +kernel
theorem dX7_day_46 : decode cX7_day 46 = .ok (.iload_n 1, 1) := by decide +kernel
theorem dX7_day_47 : decode cX7_day 47 = .ok (.iastore, 1) := by decide +kernel
theorem dX7_day_48 : decode cX7_day 48 = .ok (.aload_n 0, 1) := by decide +kernel
theorem dX7_day_49 : decode cX7_day 49 = .ok (.getfield 47, 3) := by decide +kernel
theorem dX7_day_52 : decode cX7_day 52 = .ok (.aload_n 0, 1) := by decide +kernel
theorem dX7_day_53 : decode cX7_day 53 = .ok (.getfield 91, 3) := by decide +kernel
theorem dX7_day_56 : decode cX7_day 56 = .ok (.iload_n 2, 1) := by decide +kernel
theorem dX7_day_57 : decode cX7_day 57 = .ok (.iastore, 1) := by decide +kernel
theorem dX7_day_58 : decode cX7_day 58 = .ok (.aload_n 0, 1) := by decide +kernel
theorem dX7_day_59 : decode cX7_day 59 = .ok (.getfield 50, 3) := by decide +kernel
theorem dX7_day_62 : decode cX7_day 62 = .ok (.aload_n 0, 1) := by decide +kernel
theorem dX7_day_63 : decode cX7_day 63 = .ok (.getfield 91, 3) := by decide +kernel
theorem dX7_day_66 : decode cX7_day 66 = .ok (.iconst 0, 1) := by decide +kernel
theorem dX7_day_67 : decode cX7_day 67 = .ok (.iastore, 1) := by decide +kernel
theorem dX7_day_68 : decode cX7_day 68 = .ok (.aload_n 0, 1) := by decide +kernel
theorem dX7_day_69 : decode cX7_day 69 = .ok (.dup, 1) := by decide +kernel
theorem dX7_day_70 : decode cX7_day 70 = .ok (.getfield 91, 3) := by decide +kernel
theorem dX7_day_73 : decode cX7_day 73 = .ok (.iconst 1, 1) := by decide +kernel
theorem dX7_day_74 : decode cX7_day 74 = .ok (.iadd, 1) := by decide +kernel
theorem dX7_day_75 : decode cX7_day 75 = .ok (.putfield 91, 3) := by decide +kernel
theorem dX7_day_78 : decode cX7_day 78 = .ok (.aload_n 0, 1) := by decide +kernel
theorem dX7_day_79 : decode cX7_day 79 = .ok (.getfield 91, 3) := by decide +kernel
theorem dX7_day_82 : decode cX7_day 82 = .ok (.iconst 1, 1) := by decide +kernel
theorem dX7_day_83 : decode cX7_day 83 = .ok (.isub, 1) := by decide +kernel
theorem dX7_day_84 : decode cX7_day 84 = .ok (.ireturn, 1) := by decide +kernel
theorem dX7_change_0 : decode cX7_change 0 = .ok (.aload_n 0, 1) := by decide +kernel
theorem dX7_change_1 : decode cX7_change 1 = .ok (.iload_n 1, 1) := by decide +kernel
theorem dX7_change_2 : decode cX7_change 2 = .ok (.invokevirtual 106, 3) := by decide +kernel
theorem dX7_change_5 : decode cX7_change 5 = .ok (.ifCond .ne 5, 3) := by decide +kernel
theorem dX7_change_8 : decode cX7_change 8 = .ok (.iconst (-1), 1) := by decide +kernel
theorem dX7_change_9 : decode cX7_change 9 = .ok (.ireturn, 1) := by decide +kernel
theorem dX7_change_10 : decode cX7_change 10 = .ok (.iload_n 2, 1) := by decide +kernel
theorem dX7_change_11 : decode cX7_change 11 = .ok (.bipush 60, 2) := by decide +kernel
theorem dX7_change_13 : decode cX7_change 13 = .ok (.sipush 900, 3) := by decide +kernel
theorem dX7_change_16 : decode cX7_change 16 = .ok (.invokestatic 87, 3) := by decide +kernel
theorem dX7_change_19 : decode cX7_change 19 = .ok (.ifCond .eq 14, 3) := by decide +kernel
theorem dX7_change_22 : decode cX7_change 22 = .ok (.iload_n 3, 1) := by decide +kernel
theorem dX7_change_23 : decode cX7_change 23 = .ok (.iconst 0, 1) := by decide +kernel
theorem dX7_change_24 : decode cX7_change 24 = .ok (.sipush 900, 3) := by decide +kernel
theorem dX7_change_27 : decode cX7_change 27 = .ok (.invokestatic 87, 3) := by decide +kernel
theorem dX7_change_30 : decode cX7_change 30 = .ok (.ifCond .ne 6, 3) := by decide +kernel
theorem dX7_change_33 : decode cX7_change 33 = .ok (.bipush (-2), 2) := by decide +kernel
theorem dX7_change_35 : decode cX7_change 35 = .ok (.ireturn, 1) := by decide +kernel
theorem dX7_change_36 : decode cX7_change 36 = .ok (.aload_n 0, 1) := by decide +kernel
theorem dX7_change_37 : decode cX7_change 37 = .ok (.getfield 44, 3) := by decide +kernel
theorem dX7_change_40 : decode cX7_change 40 = .ok (.iload_n 1, 1) := by decide +kernel
theorem dX7_change_41 : decode cX7_change 41 = .ok (.iaload, 1) := by decide +kernel
theorem dX7_change_42 : decode cX7_change 42 = .ok (.istore 4, 2) := by decide +kernel
theorem dX7_change_44 : decode cX7_change 44 = .ok (.aload_n 0, 1) := by decide +kernel
theorem dX7_change_45 : decode cX7_change 45 = .ok (.getfield 47, 3) := by decide +kernel
theorem dX7_change_48 : decode cX7_change 48 = .ok (.iload_n 1, 1) := by decide +kernel
theorem dX7_change_49 : decode cX7_change 49 = .ok (.iaload, 1) := by decide +kernel
theorem dX7_change_50 : decode cX7_change 50 = .ok (.istore 5, 2) := by decide +kernel
theorem dX7_change_52 : decode cX7_change 52 = .ok (.aload_n 0, 1) := by decide +kernel
theorem dX7_change_53 : decode cX7_change 53 = .ok (.getfield 44, 3) := by decide +kernel
theorem dX7_change_56 : decode cX7_change 56 = .ok (.iload_n 1, 1) := by decide +kernel
theorem dX7_change_57 : decode cX7_change 57 = .ok (.iload_n 2, 1) := by decide +kernel
theorem dX7_change_58 : decode cX7_change 58 = .ok (.iastore, 1) := by decide +kernel
theorem dX7_change_59 : decode cX7_change 59 = .ok (.aload_n 0, 1) := by decide +kernel
theorem dX7_change_60 : decode cX7_change 60 = .ok (.getfield 47, 3) := by decide +kernel
theorem dX7_change_63 : decode cX7_change 63 = .ok (.iload_n 1, 1) := by decide +kernel
theorem dX7_change_64 : decode cX7_change 64 = .ok (.iload_n 3, 1) := by decide +kernel
theorem dX7_change_65 : decode cX7_change 65 = .ok (.iastore, 1) := by decide +kernel
theorem dX7_change_66 : decode cX7_change 66 = .ok (.aload_n 0, 1) := by decide +kernel
theorem dX7_change_67 : decode cX7_change 67 = .ok (.invokevirtual 94, 3) := by decide +kernel
theorem dX7_change_70 : decode cX7_change 70 = .ok (.ifCond .eq 5, 3) := by decide +kernel
theorem dX7_change_73 : decode cX7_change 73 = .ok (.iconst 0, 1) := by decide +kernel
theorem dX7_change_74 : decode cX7_change 74 = .ok (.ireturn, 1) := by decide +kernel
theorem dX7_change_75 : decode cX7_change 75 = .ok (.aload_n 0, 1) := by decide +kernel
theorem dX7_change_76 : decode cX7_change 76 = .ok (.getfield 44, 3) := by decide +kernel
theorem dX7_change_79 : decode cX7_change 79 = .ok (.iload_n 1, 1) := by decide +kernel
theorem dX7_change_80 : decode cX7_change 80 = .ok (.iload 4, 2) := by decide +kernel
theorem dX7_change_82 : decode cX7_change 82 = .ok (.iastore, 1) := by decide +kernel
theorem dX7_change_83 : decode cX7_change 83 = .ok (.aload_n 0, 1) := by decide +kernel
theorem dX7_change_84 : decode cX7_change 84 = .ok (.getfield 47, 3) := by decide +kernel
theorem dX7_change_87 : decode cX7_change 87 = .ok (.iload_n 1, 1) := by decide +kernel
theorem dX7_change_88 : decode cX7_change 88 = .ok (.iload 5, 2) := by decide +kernel
theorem dX7_change_90 : decode cX7_change 90 = .ok (.iastore, 1) := by decide +kernel
theorem dX7_change_91 : decode cX7_change 91 = .ok (.bipush (-3), 2) := by decide +kernel
theorem dX7_change_93 : decode cX7_change 93 = .ok (.ireturn, 1) := by decide +kernel
theorem dX7_minutesOf_0 : decode cX7_minutesOf 0 = .ok (.iconst 0, 1) := by decide +kernel
theorem dX7_minutesOf_1 : decode cX7_minutesOf 1 = .ok (.istore_n 2, 1) := by decide +kernel
theorem dX7_minutesOf_2 : decode cX7_minutesOf 2 = .ok (.iconst 0, 1) := by decide +kernel
theorem dX7_minutesOf_3 : decode cX7_minutesOf 3 = .ok (.istore_n 3, 1) := by decide +kernel
theorem dX7_minutesOf_4 : decode cX7_minutesOf 4 = .ok (.iload_n 3, 1) := by decide +kernel
theorem dX7_minutesOf_5 : decode cX7_minutesOf 5 = .ok (.aload_n 0, 1) := by decide +kernel
theorem dX7_minutesOf_6 : decode cX7_minutesOf 6 = .ok (.getfield 50, 3) := by decide +kernel
theorem dX7_minutesOf_9 : decode cX7_minutesOf 9 = .ok (.iload_n 1, 1) := by decide +kernel
theorem dX7_minutesOf_10 : decode cX7_minutesOf 10 = .ok (.iaload, 1) := by decide +kernel
theorem dX7_minutesOf_11 : decode cX7_minutesOf 11 = .ok (.if_icmp .ge 77, 3) := by decide +kernel
theorem dX7_minutesOf_14 : decode cX7_minutesOf 14 = .ok (.aload_n 0, 1) := by decide +kernel
theorem dX7_minutesOf_15 : decode cX7_minutesOf 15 = .ok (.getfield 53, 3) := by decide +kernel
theorem dX7_minutesOf_18 : decode cX7_minutesOf 18 = .ok (.iconst 5, 1) := by decide +kernel
theorem dX7_minutesOf_19 : decode cX7_minutesOf 19 = .ok (.iload_n 1, 1) := by decide +kernel
theorem dX7_minutesOf_20 : decode cX7_minutesOf 20 = .ok (.imul, 1) := by decide +kernel
theorem dX7_minutesOf_21 : decode cX7_minutesOf 21 = .ok (.iload_n 3, 1) := by decide +kernel
theorem dX7_minutesOf_22 : decode cX7_minutesOf 22 = .ok (.iadd, 1) := by decide +kernel
theorem dX7_minutesOf_23 : decode cX7_minutesOf 23 = .ok (.iaload, 1) := by decide +kernel
theorem dX7_minutesOf_24 : decode cX7_minutesOf 24 = .ok (.istore 4, 2) := by decide +kernel
theorem dX7_minutesOf_26 : decode cX7_minutesOf 26 = .ok (.iload_n 2, 1) := by decide +kernel
theorem dX7_minutesOf_27 : decode cX7_minutesOf 27 = .ok (.aload_n 0, 1) := by decide +kernel
theorem dX7_minutesOf_28 : decode cX7_minutesOf 28 = .ok (.getfield 7, 3) := by decide +kernel
theorem dX7_minutesOf_31 : decode cX7_minutesOf 31 = .ok (.iload 4, 2) := by decide +kernel
theorem dX7_minutesOf_33 : decode cX7_minutesOf 33 = .ok (.iaload, 1) := by decide +kernel
theorem dX7_minutesOf_34 : decode cX7_minutesOf 34 = .ok (.iload_n 3, 1) := by decide +kernel
theorem dX7_minutesOf_35 : decode cX7_minutesOf 35 = .ok (.ifCond .le 43, 3) := by decide +kernel
theorem dX7_minutesOf_38 : decode cX7_minutesOf 38 = .ok (.aload_n 0, 1) := by decide +kernel
theorem dX7_minutesOf_39 : decode cX7_minutesOf 39 = .ok (.getfield 41, 3) := by decide +kernel
theorem dX7_minutesOf_42 : decode cX7_minutesOf 42 = .ok (.aload_n 0, 1) := by decide +kernel
theorem dX7_minutesOf_43 : decode cX7_minutesOf 43 = .ok (.getfield 13, 3) := by decide +kernel
theorem dX7_minutesOf_46 : decode cX7_minutesOf 46 = .ok (.iload 4, 2) := by decide +kernel
theorem dX7_minutesOf_48 : decode cX7_minutesOf 48 = .ok (.iaload, 1) := by decide +kernel
theorem dX7_minutesOf_49 : decode cX7_minutesOf 49 = .ok (.iaload, 1) := by decide +kernel
theorem dX7_minutesOf_50 : decode cX7_minutesOf 50 = .ok (.aload_n 0, 1) := by decide +kernel
theorem dX7_minutesOf_51 : decode cX7_minutesOf 51 = .ok (.getfield 41, 3) := by decide +kernel
theorem dX7_minutesOf_54 : decode cX7_minutesOf 54 = .ok (.aload_n 0, 1) := by decide +kernel
theorem dX7_minutesOf_55 : decode cX7_minutesOf 55 = .ok (.getfield 13, 3) := by decide +kernel
theorem dX7_minutesOf_58 : decode cX7_minutesOf 58 = .ok (.aload_n 0, 1) := by decide +kernel
theorem dX7_minutesOf_59 : decode cX7_minutesOf 59 = .ok (.getfield 53, 3) := by decide +kernel
theorem dX7_minutesOf_62 : decode cX7_minutesOf 62 = .ok (.iconst 5, 1) := by decide +kernel
theorem dX7_minutesOf_63 : decode cX7_minutesOf 63 = .ok (.iload_n 1, 1) := by decide +kernel
theorem dX7_minutesOf_64 : decode cX7_minutesOf 64 = .ok (.imul, 1) := by decide +kernel
theorem dX7_minutesOf_65 : decode cX7_minutesOf 65 = .ok (.iload_n 3, 1) := by decide +kernel
theorem dX7_minutesOf_66 : decode cX7_minutesOf 66 = .ok (.iadd, 1) := by decide +kernel
theorem dX7_minutesOf_67 : decode cX7_minutesOf 67 = .ok (.iconst 1, 1) := by decide +kernel
theorem dX7_minutesOf_68 : decode cX7_minutesOf 68 = .ok (.isub, 1) := by decide +kernel
theorem dX7_minutesOf_69 : decode cX7_minutesOf 69 = .ok (.iaload, 1) := by decide +kernel
theorem dX7_minutesOf_70 : decode cX7_minutesOf 70 = .ok (.iaload, 1) := by decide +kernel
theorem dX7_minutesOf_71 : decode cX7_minutesOf 71 = .ok (.iaload, 1) := by decide +kernel
theorem dX7_minutesOf_72 : decode cX7_minutesOf 72 = .ok (.invokestatic 109, 3) := by decide +kernel
theorem dX7_minutesOf_75 : decode cX7_minutesOf 75 = .ok (.goto 4, 3) := by decide +kernel
theorem dX7_minutesOf_78 : decode cX7_minutesOf 78 = .ok (.iconst 0, 1) := by decide +kernel
theorem dX7_minutesOf_79 : decode cX7_minutesOf 79 = .ok (.iadd, 1) := by decide +kernel
theorem dX7_minutesOf_80 : decode cX7_minutesOf 80 = .ok (.iadd, 1) := by decide +kernel
theorem dX7_minutesOf_81 : decode cX7_minutesOf 81 = .ok (.istore_n 2, 1) := by decide +kernel
theorem dX7_minutesOf_82 : decode cX7_minutesOf 82 = .ok (.iinc 3 1, 3) := by decide +kernel
theorem dX7_minutesOf_85 : decode cX7_minutesOf 85 = .ok (.goto (-81), 3) := by decide +kernel
theorem dX7_minutesOf_88 : decode cX7_minutesOf 88 = .ok (.iload_n 2, 1) := by decide +kernel
theorem dX7_minutesOf_89 : decode cX7_minutesOf 89 = .ok (.ireturn, 1) := by decide +kernel
theorem dX7_lightOf_0 : decode cX7_lightOf 0 = .ok (.iconst 0, 1) := by decide +kernel
theorem dX7_lightOf_1 : decode cX7_lightOf 1 = .ok (.istore_n 2, 1) := by decide +kernel
theorem dX7_lightOf_2 : decode cX7_lightOf 2 = .ok (.iconst 0, 1) := by decide +kernel
theorem dX7_lightOf_3 : decode cX7_lightOf 3 = .ok (.istore_n 3, 1) := by decide +kernel
theorem dX7_lightOf_4 : decode cX7_lightOf 4 = .ok (.iload_n 3, 1) := by decide +kernel
theorem dX7_lightOf_5 : decode cX7_lightOf 5 = .ok (.aload_n 0, 1) := by decide +kernel
theorem dX7_lightOf_6 : decode cX7_lightOf 6 = .ok (.getfield 50, 3) := by decide +kernel
theorem dX7_lightOf_9 : decode cX7_lightOf 9 = .ok (.iload_n 1, 1) := by decide +kernel
theorem dX7_lightOf_10 : decode cX7_lightOf 10 = .ok (.iaload, 1) := by decide +kernel
theorem dX7_lightOf_11 : decode cX7_lightOf 11 = .ok (.if_icmp .ge 50, 3) := by decide +kernel
theorem dX7_lightOf_14 : decode cX7_lightOf 14 = .ok (.iload_n 2, 1) := by decide +kernel
theorem dX7_lightOf_15 : decode cX7_lightOf 15 = .ok (.aload_n 0, 1) := by decide +kernel
theorem dX7_lightOf_16 : decode cX7_lightOf 16 = .ok (.getfield 16, 3) := by decide +kernel
theorem dX7_lightOf_19 : decode cX7_lightOf 19 = .ok (.aload_n 0, 1) := by decide +kernel
theorem dX7_lightOf_20 : decode cX7_lightOf 20 = .ok (.getfield 53, 3) := by decide +kernel
theorem dX7_lightOf_23 : decode cX7_lightOf 23 = .ok (.iconst 5, 1) := by decide +kernel
theorem dX7_lightOf_24 : decode cX7_lightOf 24 = .ok (.iload_n 1, 1) := by decide +kernel
theorem dX7_lightOf_25 : decode cX7_lightOf 25 = .ok (.imul, 1) := by decide +kernel
theorem dX7_lightOf_26 : decode cX7_lightOf 26 = .ok (.iload_n 3, 1) := by decide +kernel
theorem dX7_lightOf_27 : decode cX7_lightOf 27 = .ok (.iadd, 1) := by decide +kernel
theorem dX7_lightOf_28 : decode cX7_lightOf 28 = .ok (.iaload, 1) := by decide +kernel
theorem dX7_lightOf_29 : decode cX7_lightOf 29 = .ok (.iaload, 1) := by decide +kernel
theorem dX7_lightOf_30 : decode cX7_lightOf 30 = .ok (.iconst 1, 1) := by decide +kernel
theorem dX7_lightOf_31 : decode cX7_lightOf 31 = .ok (.if_icmp .ne 21, 3) := by decide +kernel
theorem dX7_lightOf_34 : decode cX7_lightOf 34 = .ok (.aload_n 0, 1) := by decide +kernel
theorem dX7_lightOf_35 : decode cX7_lightOf 35 = .ok (.getfield 7, 3) := by decide +kernel
theorem dX7_lightOf_38 : decode cX7_lightOf 38 = .ok (.aload_n 0, 1) := by decide +kernel
theorem dX7_lightOf_39 : decode cX7_lightOf 39 = .ok (.getfield 53, 3) := by decide +kernel
theorem dX7_lightOf_42 : decode cX7_lightOf 42 = .ok (.iconst 5, 1) := by decide +kernel
theorem dX7_lightOf_43 : decode cX7_lightOf 43 = .ok (.iload_n 1, 1) := by decide +kernel
theorem dX7_lightOf_44 : decode cX7_lightOf 44 = .ok (.imul, 1) := by decide +kernel
theorem dX7_lightOf_45 : decode cX7_lightOf 45 = .ok (.iload_n 3, 1) := by decide +kernel
theorem dX7_lightOf_46 : decode cX7_lightOf 46 = .ok (.iadd, 1) := by decide +kernel
theorem dX7_lightOf_47 : decode cX7_lightOf 47 = .ok (.iaload, 1) := by decide +kernel
theorem dX7_lightOf_48 : decode cX7_lightOf 48 = .ok (.iaload, 1) := by decide +kernel
theorem dX7_lightOf_49 : decode cX7_lightOf 49 = .ok (.goto 4, 3) := by decide +kernel
theorem dX7_lightOf_52 : decode cX7_lightOf 52 = .ok (.iconst 0, 1) := by decide +kernel
theorem dX7_lightOf_53 : decode cX7_lightOf 53 = .ok (.iadd, 1) := by decide +kernel
theorem dX7_lightOf_54 : decode cX7_lightOf 54 = .ok (.istore_n 2, 1) := by decide +kernel
theorem dX7_lightOf_55 : decode cX7_lightOf 55 = .ok (.iinc 3 1, 3) := by decide +kernel
theorem dX7_lightOf_58 : decode cX7_lightOf 58 = .ok (.goto (-54), 3) := by decide +kernel
theorem dX7_lightOf_61 : decode cX7_lightOf 61 = .ok (.iload_n 2, 1) := by decide +kernel
theorem dX7_lightOf_62 : decode cX7_lightOf 62 = .ok (.ireturn, 1) := by decide +kernel
theorem dX7_has_0 : decode cX7_has 0 = .ok (.iconst 0, 1) := by decide +kernel
theorem dX7_has_1 : decode cX7_has 1 = .ok (.istore_n 3, 1) := by decide +kernel
theorem dX7_has_2 : decode cX7_has 2 = .ok (.iload_n 3, 1) := by decide +kernel
theorem dX7_has_3 : decode cX7_has 3 = .ok (.aload_n 0, 1) := by decide +kernel
theorem dX7_has_4 : decode cX7_has 4 = .ok (.getfield 50, 3) := by decide +kernel
theorem dX7_has_7 : decode cX7_has 7 = .ok (.iload_n 1, 1) := by decide +kernel
theorem dX7_has_8 : decode cX7_has 8 = .ok (.iaload, 1) := by decide +kernel
theorem dX7_has_9 : decode cX7_has 9 = .ok (.if_icmp .ge 30, 3) := by decide +kernel
theorem dX7_has_12 : decode cX7_has 12 = .ok (.aload_n 0, 1) := by decide +kernel
theorem dX7_has_13 : decode cX7_has 13 = .ok (.getfield 16, 3) := by decide +kernel
theorem dX7_has_16 : decode cX7_has 16 = .ok (.aload_n 0, 1) := by decide +kernel
theorem dX7_has_17 : decode cX7_has 17 = .ok (.getfield 53, 3) := by decide +kernel
theorem dX7_has_20 : decode cX7_has 20 = .ok (.iconst 5, 1) := by decide +kernel
theorem dX7_has_21 : decode cX7_has 21 = .ok (.iload_n 1, 1) := by decide +kernel
theorem dX7_has_22 : decode cX7_has 22 = .ok (.imul, 1) := by decide +kernel
theorem dX7_has_23 : decode cX7_has 23 = .ok (.iload_n 3, 1) := by decide +kernel
theorem dX7_has_24 : decode cX7_has 24 = .ok (.iadd, 1) := by decide +kernel
theorem dX7_has_25 : decode cX7_has 25 = .ok (.iaload, 1) := by decide +kernel
theorem dX7_has_26 : decode cX7_has 26 = .ok (.iaload, 1) := by decide +kernel
theorem dX7_has_27 : decode cX7_has 27 = .ok (.iload_n 2, 1) := by decide +kernel
theorem dX7_has_28 : decode cX7_has 28 = .ok (.if_icmp .ne 5, 3) := by decide +kernel
theorem dX7_has_31 : decode cX7_has 31 = .ok (.iconst 1, 1) := by decide +kernel
theorem dX7_has_32 : decode cX7_has 32 = .ok (.ireturn, 1) := by decide +kernel
theorem dX7_has_33 : decode cX7_has 33 = .ok (.iinc 3 1, 3) := by decide +kernel
theorem dX7_has_36 : decode cX7_has 36 = .ok (.goto (-34), 3) := by decide +kernel
theorem dX7_has_39 : decode cX7_has 39 = .ok (.iconst 0, 1) := by decide +kernel
theorem dX7_has_40 : decode cX7_has 40 = .ok (.ireturn, 1) := by decide +kernel
theorem dX7_placeIn_0 : decode cX7_placeIn 0 = .ok (.aload_n 0, 1) := by decide +kernel
theorem dX7_placeIn_1 : decode cX7_placeIn 1 = .ok (.getfield 29, 3) := by decide +kernel
theorem dX7_placeIn_4 : decode cX7_placeIn 4 = .ok (.iload_n 1, 1) := by decide +kernel
theorem dX7_placeIn_5 : decode cX7_placeIn 5 = .ok (.iaload, 1) := by decide +kernel
theorem dX7_placeIn_6 : decode cX7_placeIn 6 = .ok (.istore_n 2, 1) := by decide +kernel
theorem dX7_placeIn_7 : decode cX7_placeIn 7 = .ok (.iconst 0, 1) := by decide +kernel
theorem dX7_placeIn_8 : decode cX7_placeIn 8 = .ok (.istore_n 3, 1) := by decide +kernel
theorem dX7_placeIn_9 : decode cX7_placeIn 9 = .ok (.iload_n 2, 1) := by decide +kernel
theorem dX7_placeIn_10 : decode cX7_placeIn 10 = .ok (.iconst (-1), 1) := by decide +kernel
theorem dX7_placeIn_11 : decode cX7_placeIn 11 = .ok (.if_icmp .eq 35, 3) := by decide +kernel
theorem dX7_placeIn_14 : decode cX7_placeIn 14 = .ok (.iload_n 3, 1) := by decide +kernel
theorem dX7_placeIn_15 : decode cX7_placeIn 15 = .ok (.aload_n 0, 1) := by decide +kernel
theorem dX7_placeIn_16 : decode cX7_placeIn 16 = .ok (.getfield 50, 3) := by decide +kernel
theorem dX7_placeIn_19 : decode cX7_placeIn 19 = .ok (.iload_n 2, 1) := by decide +kernel
theorem dX7_placeIn_20 : decode cX7_placeIn 20 = .ok (.iaload, 1) := by decide +kernel
theorem dX7_placeIn_21 : decode cX7_placeIn 21 = .ok (.if_icmp .ge 25, 3) := by decide +kernel
theorem dX7_placeIn_24 : decode cX7_placeIn 24 = .ok (.aload_n 0, 1) := by decide +kernel
theorem dX7_placeIn_25 : decode cX7_placeIn 25 = .ok (.getfield 53, 3) := by decide +kernel
theorem dX7_placeIn_28 : decode cX7_placeIn 28 = .ok (.iconst 5, 1) := by decide +kernel
theorem dX7_placeIn_29 : decode cX7_placeIn 29 = .ok (.iload_n 2, 1) := by decide +kernel
theorem dX7_placeIn_30 : decode cX7_placeIn 30 = .ok (.imul, 1) := by decide +kernel
theorem dX7_placeIn_31 : decode cX7_placeIn 31 = .ok (.iload_n 3, 1) := by decide +kernel
theorem dX7_placeIn_32 : decode cX7_placeIn 32 = .ok (.iadd, 1) := by decide +kernel
theorem dX7_placeIn_33 : decode cX7_placeIn 33 = .ok (.iaload, 1) := by decide +kernel
theorem dX7_placeIn_34 : decode cX7_placeIn 34 = .ok (.iload_n 1, 1) := by decide +kernel
theorem dX7_placeIn_35 : decode cX7_placeIn 35 = .ok (.if_icmp .ne 5, 3) := by decide +kernel
theorem dX7_placeIn_38 : decode cX7_placeIn 38 = .ok (.iload_n 3, 1) := by decide +kernel
theorem dX7_placeIn_39 : decode cX7_placeIn 39 = .ok (.ireturn, 1) := by decide +kernel
theorem dX7_placeIn_40 : decode cX7_placeIn 40 = .ok (.iinc 3 1, 3) := by decide +kernel
theorem dX7_placeIn_43 : decode cX7_placeIn 43 = .ok (.goto (-34), 3) := by decide +kernel
theorem dX7_placeIn_46 : decode cX7_placeIn 46 = .ok (.iconst (-1), 1) := by decide +kernel
theorem dX7_placeIn_47 : decode cX7_placeIn 47 = .ok (.ireturn, 1) := by decide +kernel
theorem dX7_isOrdered_0 : decode cX7_isOrdered 0 = .ok (.iconst 0, 1) := by decide +kernel
theorem dX7_isOrdered_1 : decode cX7_isOrdered 1 = .ok (.istore_n 2, 1) := by decide +kernel
theorem dX7_isOrdered_2 : decode cX7_isOrdered 2 = .ok (.iload_n 2, 1) := by decide +kernel
theorem dX7_isOrdered_3 : decode cX7_isOrdered 3 = .ok (.aload_n 0, 1) := by decide +kernel
theorem dX7_isOrdered_4 : decode cX7_isOrdered 4 = .ok (.getfield 84, 3) := by decide +kernel
theorem dX7_isOrdered_7 : decode cX7_isOrdered 7 = .ok (.if_icmp .ge 80, 3) := by decide +kernel
theorem dX7_isOrdered_10 : decode cX7_isOrdered 10 = .ok (.aload_n 0, 1) := by decide +kernel
theorem dX7_isOrdered_11 : decode cX7_isOrdered 11 = .ok (.getfield 26, 3) := by decide +kernel
theorem dX7_isOrdered_14 : decode cX7_isOrdered 14 = .ok (.iload_n 1, 1) := by decide +kernel
theorem dX7_isOrdered_15 : decode cX7_isOrdered 15 = .ok (.iaload, 1) := by decide +kernel
theorem dX7_isOrdered_16 : decode cX7_isOrdered 16 = .ok (.iload_n 2, 1) := by decide +kernel
theorem dX7_isOrdered_17 : decode cX7_isOrdered 17 = .ok (.ishr, 1) := by decide +kernel
theorem dX7_isOrdered_18 : decode cX7_isOrdered 18 = .ok (.iconst 1, 1) := by decide +kernel
theorem dX7_isOrdered_19 : decode cX7_isOrdered 19 = .ok (.iand, 1) := by decide +kernel
theorem dX7_isOrdered_20 : decode cX7_isOrdered 20 = .ok (.ifCond .eq 61, 3) := by decide +kernel
theorem dX7_isOrdered_23 : decode cX7_isOrdered 23 = .ok (.aload_n 0, 1) := by decide +kernel
theorem dX7_isOrdered_24 : decode cX7_isOrdered 24 = .ok (.getfield 29, 3) := by decide +kernel
theorem dX7_isOrdered_27 : decode cX7_isOrdered 27 = .ok (.iload_n 2, 1) := by decide +kernel
theorem dX7_isOrdered_28 : decode cX7_isOrdered 28 = .ok (.iaload, 1) := by decide +kernel
theorem dX7_isOrdered_29 : decode cX7_isOrdered 29 = .ok (.iconst (-1), 1) := by decide +kernel
theorem dX7_isOrdered_30 : decode cX7_isOrdered 30 = .ok (.if_icmp .ne 6, 3) := by decide +kernel
theorem dX7_isOrdered_33 : decode cX7_isOrdered 33 = .ok (.goto 48, 3) := by decide +kernel
theorem dX7_isOrdered_36 : decode cX7_isOrdered 36 = .ok (.aload_n 0, 1) := by decide +kernel
theorem dX7_isOrdered_37 : decode cX7_isOrdered 37 = .ok (.getfield 29, 3) := by decide +kernel
theorem dX7_isOrdered_40 : decode cX7_isOrdered 40 = .ok (.iload_n 2, 1) := by decide +kernel
theorem dX7_isOrdered_41 : decode cX7_isOrdered 41 = .ok (.iaload, 1) := by decide +kernel
theorem dX7_isOrdered_42 : decode cX7_isOrdered 42 = .ok (.aload_n 0, 1) := by decide +kernel
theorem dX7_isOrdered_43 : decode cX7_isOrdered 43 = .ok (.getfield 29, 3) := by decide +kernel
theorem dX7_isOrdered_46 : decode cX7_isOrdered 46 = .ok (.iload_n 1, 1) := by decide +kernel
theorem dX7_isOrdered_47 : decode cX7_isOrdered 47 = .ok (.iaload, 1) := by decide +kernel
theorem dX7_isOrdered_48 : decode cX7_isOrdered 48 = .ok (.if_icmp .gt 31, 3) := by decide +kernel
theorem dX7_isOrdered_51 : decode cX7_isOrdered 51 = .ok (.aload_n 0, 1) := by decide +kernel
theorem dX7_isOrdered_52 : decode cX7_isOrdered 52 = .ok (.getfield 29, 3) := by decide +kernel
theorem dX7_isOrdered_55 : decode cX7_isOrdered 55 = .ok (.iload_n 2, 1) := by decide +kernel
theorem dX7_isOrdered_56 : decode cX7_isOrdered 56 = .ok (.iaload, 1) := by decide +kernel
theorem dX7_isOrdered_57 : decode cX7_isOrdered 57 = .ok (.aload_n 0, 1) := by decide +kernel
theorem dX7_isOrdered_58 : decode cX7_isOrdered 58 = .ok (.getfield 29, 3) := by decide +kernel
theorem dX7_isOrdered_61 : decode cX7_isOrdered 61 = .ok (.iload_n 1, 1) := by decide +kernel
theorem dX7_isOrdered_62 : decode cX7_isOrdered 62 = .ok (.iaload, 1) := by decide +kernel
theorem dX7_isOrdered_63 : decode cX7_isOrdered 63 = .ok (.if_icmp .ne 18, 3) := by decide +kernel
theorem dX7_isOrdered_66 : decode cX7_isOrdered 66 = .ok (.aload_n 0, 1) := by decide +kernel
theorem dX7_isOrdered_67 : decode cX7_isOrdered 67 = .ok (.iload_n 2, 1) := by decide +kernel
theorem dX7_isOrdered_68 : decode cX7_isOrdered 68 = .ok (.invokevirtual 113, 3) := by decide +kernel
theorem dX7_isOrdered_71 : decode cX7_isOrdered 71 = .ok (.aload_n 0, 1) := by decide +kernel
theorem dX7_isOrdered_72 : decode cX7_isOrdered 72 = .ok (.iload_n 1, 1) := by decide +kernel
theorem dX7_isOrdered_73 : decode cX7_isOrdered 73 = .ok (.invokevirtual 113, 3) := by decide +kernel
theorem dX7_isOrdered_76 : decode cX7_isOrdered 76 = .ok (.if_icmp .le 5, 3) := by decide +kernel
theorem dX7_isOrdered_79 : decode cX7_isOrdered 79 = .ok (.iconst 0, 1) := by decide +kernel
theorem dX7_isOrdered_80 : decode cX7_isOrdered 80 = .ok (.ireturn, 1) := by decide +kernel
theorem dX7_isOrdered_81 : decode cX7_isOrdered 81 = .ok (.iinc 2 1, 3) := by decide +kernel
theorem dX7_isOrdered_84 : decode cX7_isOrdered 84 = .ok (.goto (-82), 3) := by decide +kernel
theorem dX7_isOrdered_87 : decode cX7_isOrdered 87 = .ok (.iconst 1, 1) := by decide +kernel
theorem dX7_isOrdered_88 : decode cX7_isOrdered 88 = .ok (.ireturn, 1) := by decide +kernel
theorem dX7_keeps_0 : decode cX7_keeps 0 = .ok (.iconst 0, 1) := by decide +kernel
theorem dX7_keeps_1 : decode cX7_keeps 1 = .ok (.istore_n 1, 1) := by decide +kernel
theorem dX7_keeps_2 : decode cX7_keeps 2 = .ok (.iload_n 1, 1) := by decide +kernel
theorem dX7_keeps_3 : decode cX7_keeps 3 = .ok (.aload_n 0, 1) := by decide +kernel
theorem dX7_keeps_4 : decode cX7_keeps 4 = .ok (.getfield 91, 3) := by decide +kernel
theorem dX7_keeps_7 : decode cX7_keeps 7 = .ok (.if_icmp .ge 71, 3) := by decide +kernel
theorem dX7_keeps_10 : decode cX7_keeps 10 = .ok (.aload_n 0, 1) := by decide +kernel
theorem dX7_keeps_11 : decode cX7_keeps 11 = .ok (.iload_n 1, 1) := by decide +kernel
theorem dX7_keeps_12 : decode cX7_keeps 12 = .ok (.invokevirtual 117, 3) := by decide +kernel
theorem dX7_keeps_15 : decode cX7_keeps 15 = .ok (.aload_n 0, 1) := by decide +kernel
theorem dX7_keeps_16 : decode cX7_keeps 16 = .ok (.getfield 44, 3) := by decide +kernel
theorem dX7_keeps_19 : decode cX7_keeps 19 = .ok (.iload_n 1, 1) := by decide +kernel
theorem dX7_keeps_20 : decode cX7_keeps 20 = .ok (.iaload, 1) := by decide +kernel
theorem dX7_keeps_21 : decode cX7_keeps 21 = .ok (.if_icmp .gt 17, 3) := by decide +kernel
theorem dX7_keeps_24 : decode cX7_keeps 24 = .ok (.aload_n 0, 1) := by decide +kernel
theorem dX7_keeps_25 : decode cX7_keeps 25 = .ok (.iload_n 1, 1) := by decide +kernel
theorem dX7_keeps_26 : decode cX7_keeps 26 = .ok (.invokevirtual 120, 3) := by decide +kernel
theorem dX7_keeps_29 : decode cX7_keeps 29 = .ok (.aload_n 0, 1) := by decide +kernel
theorem dX7_keeps_30 : decode cX7_keeps 30 = .ok (.getfield 47, 3) := by decide +kernel
theorem dX7_keeps_33 : decode cX7_keeps 33 = .ok (.iload_n 1, 1) := by decide +kernel
theorem dX7_keeps_34 : decode cX7_keeps 34 = .ok (.iaload, 1) := by decide +kernel
theorem dX7_keeps_35 : decode cX7_keeps 35 = .ok (.if_icmp .le 5, 3) := by decide +kernel
theorem dX7_keeps_38 : decode cX7_keeps 38 = .ok (.iconst 0, 1) := by decide +kernel
theorem dX7_keeps_39 : decode cX7_keeps 39 = .ok (.ireturn, 1) := by decide +kernel
theorem dX7_keeps_40 : decode cX7_keeps 40 = .ok (.iload_n 1, 1) := by decide +kernel
theorem dX7_keeps_41 : decode cX7_keeps 41 = .ok (.iconst 1, 1) := by decide +kernel
theorem dX7_keeps_42 : decode cX7_keeps 42 = .ok (.iadd, 1) := by decide +kernel
theorem dX7_keeps_43 : decode cX7_keeps 43 = .ok (.aload_n 0, 1) := by decide +kernel
theorem dX7_keeps_44 : decode cX7_keeps 44 = .ok (.getfield 91, 3) := by decide +kernel
theorem dX7_keeps_47 : decode cX7_keeps 47 = .ok (.if_icmp .ge 25, 3) := by decide +kernel
theorem dX7_keeps_50 : decode cX7_keeps 50 = .ok (.aload_n 0, 1) := by decide +kernel
theorem dX7_keeps_51 : decode cX7_keeps 51 = .ok (.iload_n 1, 1) := by decide +kernel
theorem dX7_keeps_52 : decode cX7_keeps 52 = .ok (.iconst 2, 1) := by decide +kernel
theorem dX7_keeps_53 : decode cX7_keeps 53 = .ok (.invokevirtual 123, 3) := by decide +kernel
theorem dX7_keeps_56 : decode cX7_keeps 56 = .ok (.ifCond .eq 16, 3) := by decide +kernel
theorem dX7_keeps_59 : decode cX7_keeps 59 = .ok (.aload_n 0, 1) := by decide +kernel
theorem dX7_keeps_60 : decode cX7_keeps 60 = .ok (.iload_n 1, 1) := by decide +kernel
theorem dX7_keeps_61 : decode cX7_keeps 61 = .ok (.iconst 1, 1) := by decide +kernel
theorem dX7_keeps_62 : decode cX7_keeps 62 = .ok (.iadd, 1) := by decide +kernel
theorem dX7_keeps_63 : decode cX7_keeps 63 = .ok (.iconst 1, 1) := by decide +kernel
theorem dX7_keeps_64 : decode cX7_keeps 64 = .ok (.invokevirtual 123, 3) := by decide +kernel
theorem dX7_keeps_67 : decode cX7_keeps 67 = .ok (.ifCond .eq 5, 3) := by decide +kernel
theorem dX7_keeps_70 : decode cX7_keeps 70 = .ok (.iconst 0, 1) := by decide +kernel
theorem dX7_keeps_71 : decode cX7_keeps 71 = .ok (.ireturn, 1) := by decide +kernel
theorem dX7_keeps_72 : decode cX7_keeps 72 = .ok (.iinc 1 1, 3) := by decide +kernel
theorem dX7_keeps_75 : decode cX7_keeps 75 = .ok (.goto (-73), 3) := by decide +kernel
theorem dX7_keeps_78 : decode cX7_keeps 78 = .ok (.iconst 0, 1) := by decide +kernel
theorem dX7_keeps_79 : decode cX7_keeps 79 = .ok (.istore_n 1, 1) := by decide +kernel
theorem dX7_keeps_80 : decode cX7_keeps 80 = .ok (.iload_n 1, 1) := by decide +kernel
theorem dX7_keeps_81 : decode cX7_keeps 81 = .ok (.aload_n 0, 1) := by decide +kernel
theorem dX7_keeps_82 : decode cX7_keeps 82 = .ok (.getfield 84, 3) := by decide +kernel
theorem dX7_keeps_85 : decode cX7_keeps 85 = .ok (.if_icmp .ge 29, 3) := by decide +kernel
theorem dX7_keeps_88 : decode cX7_keeps 88 = .ok (.aload_n 0, 1) := by decide +kernel
theorem dX7_keeps_89 : decode cX7_keeps 89 = .ok (.getfield 29, 3) := by decide +kernel
theorem dX7_keeps_92 : decode cX7_keeps 92 = .ok (.iload_n 1, 1) := by decide +kernel
theorem dX7_keeps_93 : decode cX7_keeps 93 = .ok (.iaload, 1) := by decide +kernel
theorem dX7_keeps_94 : decode cX7_keeps 94 = .ok (.iconst (-1), 1) := by decide +kernel
theorem dX7_keeps_95 : decode cX7_keeps 95 = .ok (.if_icmp .eq 13, 3) := by decide +kernel
theorem dX7_keeps_98 : decode cX7_keeps 98 = .ok (.aload_n 0, 1) := by decide +kernel
theorem dX7_keeps_99 : decode cX7_keeps 99 = .ok (.iload_n 1, 1) := by decide +kernel
theorem dX7_keeps_100 : decode cX7_keeps 100 = .ok (.invokevirtual 126, 3) := by decide +kernel
theorem dX7_keeps_103 : decode cX7_keeps 103 = .ok (.ifCond .ne 5, 3) := by decide +kernel
theorem dX7_keeps_106 : decode cX7_keeps 106 = .ok (.iconst 0, 1) := by decide +kernel
theorem dX7_keeps_107 : decode cX7_keeps 107 = .ok (.ireturn, 1) := by decide +kernel
theorem dX7_keeps_108 : decode cX7_keeps 108 = .ok (.iinc 1 1, 3) := by decide +kernel
theorem dX7_keeps_111 : decode cX7_keeps 111 = .ok (.goto (-31), 3) := by decide +kernel
theorem dX7_keeps_114 : decode cX7_keeps 114 = .ok (.iconst 1, 1) := by decide +kernel
theorem dX7_keeps_115 : decode cX7_keeps 115 = .ok (.ireturn, 1) := by decide +kernel
theorem dX7_tries_0 : decode cX7_tries 0 = .ok (.iload_n 2, 1) := by decide +kernel
theorem dX7_tries_1 : decode cX7_tries 1 = .ok (.aload_n 0, 1) := by decide +kernel
theorem dX7_tries_2 : decode cX7_tries 2 = .ok (.getfield 50, 3) := by decide +kernel
theorem dX7_tries_5 : decode cX7_tries 5 = .ok (.iload_n 1, 1) := by decide +kernel
theorem dX7_tries_6 : decode cX7_tries 6 = .ok (.iaload, 1) := by decide +kernel
theorem dX7_tries_7 : decode cX7_tries 7 = .ok (.if_icmp .ne 66, 3) := by decide +kernel
theorem dX7_tries_10 : decode cX7_tries 10 = .ok (.aload_n 0, 1) := by decide +kernel
theorem dX7_tries_11 : decode cX7_tries 11 = .ok (.iload_n 1, 1) := by decide +kernel
theorem dX7_tries_12 : decode cX7_tries 12 = .ok (.invokevirtual 117, 3) := by decide +kernel
theorem dX7_tries_15 : decode cX7_tries 15 = .ok (.istore 4, 2) := by decide +kernel
theorem dX7_tries_17 : decode cX7_tries 17 = .ok (.iload 4, 2) := by decide +kernel
theorem dX7_tries_19 : decode cX7_tries 19 = .ok (.aload_n 0, 1) := by decide +kernel
theorem dX7_tries_20 : decode cX7_tries 20 = .ok (.getfield 129, 3) := by decide +kernel
theorem dX7_tries_23 : decode cX7_tries 23 = .ok (.if_icmp .ge 49, 3) := by decide +kernel
theorem dX7_tries_26 : decode cX7_tries 26 = .ok (.aload_n 0, 1) := by decide +kernel
theorem dX7_tries_27 : decode cX7_tries 27 = .ok (.invokevirtual 94, 3) := by decide +kernel
theorem dX7_tries_30 : decode cX7_tries 30 = .ok (.ifCond .eq 42, 3) := by decide +kernel
theorem dX7_tries_33 : decode cX7_tries 33 = .ok (.aload_n 0, 1) := by decide +kernel
theorem dX7_tries_34 : decode cX7_tries 34 = .ok (.iload 4, 2) := by decide +kernel
theorem dX7_tries_36 : decode cX7_tries 36 = .ok (.putfield 129, 3) := by decide +kernel
theorem dX7_tries_39 : decode cX7_tries 39 = .ok (.iconst 0, 1) := by decide +kernel
theorem dX7_tries_40 : decode cX7_tries 40 = .ok (.istore 5, 2) := by decide +kernel
theorem dX7_tries_42 : decode cX7_tries 42 = .ok (.iload 5, 2) := by decide +kernel
theorem dX7_tries_44 : decode cX7_tries 44 = .ok (.iload_n 2, 1) := by decide +kernel
theorem dX7_tries_45 : decode cX7_tries 45 = .ok (.if_icmp .ge 27, 3) := by decide +kernel
theorem dX7_tries_48 : decode cX7_tries 48 = .ok (.aload_n 0, 1) := by decide +kernel
theorem dX7_tries_49 : decode cX7_tries 49 = .ok (.getfield 59, 3) := by decide +kernel
theorem dX7_tries_52 : decode cX7_tries 52 = .ok (.iload 5, 2) := by decide +kernel
theorem dX7_tries_54 : decode cX7_tries 54 = .ok (.aload_n 0, 1) := by decide +kernel
theorem dX7_tries_55 : decode cX7_tries 55 = .ok (.getfield 53, 3) := by decide +kernel
theorem dX7_tries_58 : decode cX7_tries 58 = .ok (.iconst 5, 1) := by decide +kernel
theorem dX7_tries_59 : decode cX7_tries 59 = .ok (.iload_n 1, 1) := by decide +kernel
theorem dX7_tries_60 : decode cX7_tries 60 = .ok (.imul, 1) := by decide +kernel
theorem dX7_tries_61 : decode cX7_tries 61 = .ok (.iload 5, 2) := by decide +kernel
theorem dX7_tries_63 : decode cX7_tries 63 = .ok (.iadd, 1) := by decide +kernel
theorem dX7_tries_64 : decode cX7_tries 64 = .ok (.iaload, 1) := by decide +kernel
theorem dX7_tries_65 : decode cX7_tries 65 = .ok (.iastore, 1) := by decide +kernel
theorem dX7_tries_66 : decode cX7_tries 66 = .ok (.iinc 5 1, 3) := by decide +kernel
theorem dX7_tries_69 : decode cX7_tries 69 = .ok (.goto (-27), 3) := by decide +kernel
theorem dX7_tries_72 : decode cX7_tries 72 = .ok (.return_, 1) := by decide +kernel
theorem dX7_tries_73 : decode cX7_tries 73 = .ok (.iconst 0, 1) := by decide +kernel
theorem dX7_tries_74 : decode cX7_tries 74 = .ok (.istore 4, 2) := by decide +kernel
theorem dX7_tries_76 : decode cX7_tries 76 = .ok (.iload 4, 2) := by decide +kernel
theorem dX7_tries_78 : decode cX7_tries 78 = .ok (.aload_n 0, 1) := by decide +kernel
theorem dX7_tries_79 : decode cX7_tries 79 = .ok (.getfield 50, 3) := by decide +kernel
theorem dX7_tries_82 : decode cX7_tries 82 = .ok (.iload_n 1, 1) := by decide +kernel
theorem dX7_tries_83 : decode cX7_tries 83 = .ok (.iaload, 1) := by decide +kernel
theorem dX7_tries_84 : decode cX7_tries 84 = .ok (.if_icmp .ge 53, 3) := by decide +kernel
theorem dX7_tries_87 : decode cX7_tries 87 = .ok (.iload_n 3, 1) := by decide +kernel
theorem dX7_tries_88 : decode cX7_tries 88 = .ok (.iload 4, 2) := by decide +kernel
theorem dX7_tries_90 : decode cX7_tries 90 = .ok (.ishr, 1) := by decide +kernel
theorem dX7_tries_91 : decode cX7_tries 91 = .ok (.iconst 1, 1) := by decide +kernel
theorem dX7_tries_92 : decode cX7_tries 92 = .ok (.iand, 1) := by decide +kernel
theorem dX7_tries_93 : decode cX7_tries 93 = .ok (.iconst 1, 1) := by decide +kernel
theorem dX7_tries_94 : decode cX7_tries 94 = .ok (.if_icmp .ne 6, 3) := by decide +kernel
theorem dX7_tries_97 : decode cX7_tries 97 = .ok (.goto 34, 3) := by decide +kernel
theorem dX7_tries_100 : decode cX7_tries 100 = .ok (.aload_n 0, 1) := by decide +kernel
theorem dX7_tries_101 : decode cX7_tries 101 = .ok (.getfield 53, 3) := by decide +kernel
theorem dX7_tries_104 : decode cX7_tries 104 = .ok (.iconst 5, 1) := by decide +kernel
theorem dX7_tries_105 : decode cX7_tries 105 = .ok (.iload_n 1, 1) := by decide +kernel
theorem dX7_tries_106 : decode cX7_tries 106 = .ok (.imul, 1) := by decide +kernel
theorem dX7_tries_107 : decode cX7_tries 107 = .ok (.iload_n 2, 1) := by decide +kernel
theorem dX7_tries_108 : decode cX7_tries 108 = .ok (.iadd, 1) := by decide +kernel
theorem dX7_tries_109 : decode cX7_tries 109 = .ok (.aload_n 0, 1) := by decide +kernel
theorem dX7_tries_110 : decode cX7_tries 110 = .ok (.getfield 56, 3) := by decide +kernel
theorem dX7_tries_113 : decode cX7_tries 113 = .ok (.iload 4, 2) := by decide +kernel
theorem dX7_tries_115 : decode cX7_tries 115 = .ok (.iaload, 1) := by decide +kernel
theorem dX7_tries_116 : decode cX7_tries 116 = .ok (.iastore, 1) := by decide +kernel
theorem dX7_tries_117 : decode cX7_tries 117 = .ok (.aload_n 0, 1) := by decide +kernel
theorem dX7_tries_118 : decode cX7_tries 118 = .ok (.iload_n 1, 1) := by decide +kernel
theorem dX7_tries_119 : decode cX7_tries 119 = .ok (.iload_n 2, 1) := by decide +kernel
theorem dX7_tries_120 : decode cX7_tries 120 = .ok (.iconst 1, 1) := by decide +kernel
theorem dX7_tries_121 : decode cX7_tries 121 = .ok (.iadd, 1) := by decide +kernel
theorem dX7_tries_122 : decode cX7_tries 122 = .ok (.iload_n 3, 1) := by decide +kernel
theorem dX7_tries_123 : decode cX7_tries 123 = .ok (.iconst 1, 1) := by decide +kernel
theorem dX7_tries_124 : decode cX7_tries 124 = .ok (.iload 4, 2) := by decide +kernel
theorem dX7_tries_126 : decode cX7_tries 126 = .ok (.ishl, 1) := by decide +kernel
theorem dX7_tries_127 : decode cX7_tries 127 = .ok (.ior, 1) := by decide +kernel
theorem dX7_tries_128 : decode cX7_tries 128 = .ok (.invokevirtual 132, 3) := by decide +kernel
theorem dX7_tries_131 : decode cX7_tries 131 = .ok (.iinc 4 1, 3) := by decide +kernel
theorem dX7_tries_134 : decode cX7_tries 134 = .ok (.goto (-58), 3) := by decide +kernel
theorem dX7_tries_137 : decode cX7_tries 137 = .ok (.return_, 1) := by decide +kernel
theorem dX7_arranges_0 : decode cX7_arranges 0 = .ok (.iconst 0, 1) := by decide +kernel
theorem dX7_arranges_1 : decode cX7_arranges 1 = .ok (.istore_n 2, 1) := by decide +kernel
theorem dX7_arranges_2 : decode cX7_arranges 2 = .ok (.iconst 0, 1) := by decide +kernel
theorem dX7_arranges_3 : decode cX7_arranges 3 = .ok (.istore_n 3, 1) := by decide +kernel
theorem dX7_arranges_4 : decode cX7_arranges 4 = .ok (.iload_n 3, 1) := by decide +kernel
theorem dX7_arranges_5 : decode cX7_arranges 5 = .ok (.aload_n 0, 1) := by decide +kernel
theorem dX7_arranges_6 : decode cX7_arranges 6 = .ok (.getfield 84, 3) := by decide +kernel
theorem dX7_arranges_9 : decode cX7_arranges 9 = .ok (.if_icmp .ge 29, 3) := by decide +kernel
theorem dX7_arranges_12 : decode cX7_arranges 12 = .ok (.aload_n 0, 1) := by decide +kernel
theorem dX7_arranges_13 : decode cX7_arranges 13 = .ok (.getfield 29, 3) := by decide +kernel
theorem dX7_arranges_16 : decode cX7_arranges 16 = .ok (.iload_n 3, 1) := by decide +kernel
theorem dX7_arranges_17 : decode cX7_arranges 17 = .ok (.iaload, 1) := by decide +kernel
theorem dX7_arranges_18 : decode cX7_arranges 18 = .ok (.iload_n 1, 1) := by decide +kernel
theorem dX7_arranges_19 : decode cX7_arranges 19 = .ok (.if_icmp .ne 13, 3) := by decide +kernel
theorem dX7_arranges_22 : decode cX7_arranges 22 = .ok (.aload_n 0, 1) := by decide +kernel
theorem dX7_arranges_23 : decode cX7_arranges 23 = .ok (.getfield 56, 3) := by decide +kernel
theorem dX7_arranges_26 : decode cX7_arranges 26 = .ok (.iload_n 2, 1) := by decide +kernel
theorem dX7_arranges_27 : decode cX7_arranges 27 = .ok (.iload_n 3, 1) := by decide +kernel
theorem dX7_arranges_28 : decode cX7_arranges 28 = .ok (.iastore, 1) := by decide +kernel
theorem dX7_arranges_29 : decode cX7_arranges 29 = .ok (.iinc 2 1, 3) := by decide +kernel
theorem dX7_arranges_32 : decode cX7_arranges 32 = .ok (.iinc 3 1, 3) := by decide +kernel
theorem dX7_arranges_35 : decode cX7_arranges 35 = .ok (.goto (-31), 3) := by decide +kernel
theorem dX7_arranges_38 : decode cX7_arranges 38 = .ok (.aload_n 0, 1) := by decide +kernel
theorem dX7_arranges_39 : decode cX7_arranges 39 = .ok (.ldc 136, 2) := by decide +kernel
theorem dX7_arranges_41 : decode cX7_arranges 41 = .ok (.putfield 129, 3) := by decide +kernel
theorem dX7_arranges_44 : decode cX7_arranges 44 = .ok (.aload_n 0, 1) := by decide +kernel
theorem dX7_arranges_45 : decode cX7_arranges 45 = .ok (.iload_n 1, 1) := by decide +kernel
theorem dX7_arranges_46 : decode cX7_arranges 46 = .ok (.iconst 0, 1) := by decide +kernel
theorem dX7_arranges_47 : decode cX7_arranges 47 = .ok (.iconst 0, 1) := by decide +kernel
theorem dX7_arranges_48 : decode cX7_arranges 48 = .ok (.invokevirtual 132, 3) := by decide +kernel
theorem dX7_arranges_51 : decode cX7_arranges 51 = .ok (.iconst 0, 1) := by decide +kernel
theorem dX7_arranges_52 : decode cX7_arranges 52 = .ok (.istore_n 3, 1) := by decide +kernel
theorem dX7_arranges_53 : decode cX7_arranges 53 = .ok (.iload_n 3, 1) := by decide +kernel
theorem dX7_arranges_54 : decode cX7_arranges 54 = .ok (.aload_n 0, 1) := by decide +kernel
theorem dX7_arranges_55 : decode cX7_arranges 55 = .ok (.getfield 50, 3) := by decide +kernel
theorem dX7_arranges_58 : decode cX7_arranges 58 = .ok (.iload_n 1, 1) := by decide +kernel
theorem dX7_arranges_59 : decode cX7_arranges 59 = .ok (.iaload, 1) := by decide +kernel
theorem dX7_arranges_60 : decode cX7_arranges 60 = .ok (.if_icmp .ge 34, 3) := by decide +kernel
theorem dX7_arranges_63 : decode cX7_arranges 63 = .ok (.aload_n 0, 1) := by decide +kernel
theorem dX7_arranges_64 : decode cX7_arranges 64 = .ok (.getfield 129, 3) := by decide +kernel
theorem dX7_arranges_67 : decode cX7_arranges 67 = .ok (.ldc 136, 2) := by decide +kernel
theorem dX7_arranges_69 : decode cX7_arranges 69 = .ok (.if_icmp .ge 25, 3) := by decide +kernel
theorem dX7_arranges_72 : decode cX7_arranges 72 = .ok (.aload_n 0, 1) := by decide +kernel
theorem dX7_arranges_73 : decode cX7_arranges 73 = .ok (.getfield 53, 3) := by decide +kernel
theorem dX7_arranges_76 : decode cX7_arranges 76 = .ok (.iconst 5, 1) := by decide +kernel
theorem dX7_arranges_77 : decode cX7_arranges 77 = .ok (.iload_n 1, 1) := by decide +kernel
theorem dX7_arranges_78 : decode cX7_arranges 78 = .ok (.imul, 1) := by decide +kernel
theorem dX7_arranges_79 : decode cX7_arranges 79 = .ok (.iload_n 3, 1) := by decide +kernel
theorem dX7_arranges_80 : decode cX7_arranges 80 = .ok (.iadd, 1) := by decide +kernel
theorem dX7_arranges_81 : decode cX7_arranges 81 = .ok (.aload_n 0, 1) := by decide +kernel
theorem dX7_arranges_82 : decode cX7_arranges 82 = .ok (.getfield 59, 3) := by decide +kernel
theorem dX7_arranges_85 : decode cX7_arranges 85 = .ok (.iload_n 3, 1) := by decide +kernel
theorem dX7_arranges_86 : decode cX7_arranges 86 = .ok (.iaload, 1) := by decide +kernel
theorem dX7_arranges_87 : decode cX7_arranges 87 = .ok (.iastore, 1) := by decide +kernel
theorem dX7_arranges_88 : decode cX7_arranges 88 = .ok (.iinc 3 1, 3) := by decide +kernel
theorem dX7_arranges_91 : decode cX7_arranges 91 = .ok (.goto (-38), 3) := by decide +kernel
theorem dX7_arranges_94 : decode cX7_arranges 94 = .ok (.aload_n 0, 1) := by decide +kernel
theorem dX7_arranges_95 : decode cX7_arranges 95 = .ok (.getfield 129, 3) := by decide +kernel
theorem dX7_arranges_98 : decode cX7_arranges 98 = .ok (.ldc 136, 2) := by decide +kernel
theorem dX7_arranges_100 : decode cX7_arranges 100 = .ok (.if_icmp .ge 7, 3) := by decide +kernel
theorem dX7_arranges_103 : decode cX7_arranges 103 = .ok (.iconst 1, 1) := by decide +kernel
theorem dX7_arranges_104 : decode cX7_arranges 104 = .ok (.goto 4, 3) := by decide +kernel
theorem dX7_arranges_107 : decode cX7_arranges 107 = .ok (.iconst 0, 1) := by decide +kernel
theorem dX7_arranges_108 : decode cX7_arranges 108 = .ok (.ireturn, 1) := by decide +kernel
theorem dX7_puts_0 : decode cX7_puts 0 = .ok (.aload_n 0, 1) := by decide +kernel
theorem dX7_puts_1 : decode cX7_puts 1 = .ok (.getfield 50, 3) := by decide +kernel
theorem dX7_puts_4 : decode cX7_puts 4 = .ok (.iload_n 2, 1) := by decide +kernel
theorem dX7_puts_5 : decode cX7_puts 5 = .ok (.iaload, 1) := by decide +kernel
theorem dX7_puts_6 : decode cX7_puts 6 = .ok (.iconst 5, 1) := by decide +kernel
theorem dX7_puts_7 : decode cX7_puts 7 = .ok (.if_icmp .ne 5, 3) := by decide +kernel
theorem dX7_puts_10 : decode cX7_puts 10 = .ok (.iconst 0, 1) := by decide +kernel
theorem dX7_puts_11 : decode cX7_puts 11 = .ok (.ireturn, 1) := by decide +kernel
theorem dX7_puts_12 : decode cX7_puts 12 = .ok (.iconst 0, 1) := by decide +kernel
theorem dX7_puts_13 : decode cX7_puts 13 = .ok (.istore_n 3, 1) := by decide +kernel
theorem dX7_puts_14 : decode cX7_puts 14 = .ok (.iload_n 3, 1) := by decide +kernel
theorem dX7_puts_15 : decode cX7_puts 15 = .ok (.iconst 5, 1) := by decide +kernel
theorem dX7_puts_16 : decode cX7_puts 16 = .ok (.if_icmp .ge 25, 3) := by decide +kernel
theorem dX7_puts_19 : decode cX7_puts 19 = .ok (.aload_n 0, 1) := by decide +kernel
theorem dX7_puts_20 : decode cX7_puts 20 = .ok (.getfield 62, 3) := by decide +kernel
theorem dX7_puts_23 : decode cX7_puts 23 = .ok (.iload_n 3, 1) := by decide +kernel
theorem dX7_puts_24 : decode cX7_puts 24 = .ok (.aload_n 0, 1) := by decide +kernel
theorem dX7_puts_25 : decode cX7_puts 25 = .ok (.getfield 53, 3) := by decide +kernel
theorem dX7_puts_28 : decode cX7_puts 28 = .ok (.iconst 5, 1) := by decide +kernel
theorem dX7_puts_29 : decode cX7_puts 29 = .ok (.iload_n 2, 1) := by decide +kernel
theorem dX7_puts_30 : decode cX7_puts 30 = .ok (.imul, 1) := by decide +kernel
theorem dX7_puts_31 : decode cX7_puts 31 = .ok (.iload_n 3, 1) := by decide +kernel
theorem dX7_puts_32 : decode cX7_puts 32 = .ok (.iadd, 1) := by decide +kernel
theorem dX7_puts_33 : decode cX7_puts 33 = .ok (.iaload, 1) := by decide +kernel
theorem dX7_puts_34 : decode cX7_puts 34 = .ok (.iastore, 1) := by decide +kernel
theorem dX7_puts_35 : decode cX7_puts 35 = .ok (.iinc 3 1, 3) := by decide +kernel
theorem dX7_puts_38 : decode cX7_puts 38 = .ok (.goto (-24), 3) := by decide +kernel
theorem dX7_puts_41 : decode cX7_puts 41 = .ok (.aload_n 0, 1) := by decide +kernel
theorem dX7_puts_42 : decode cX7_puts 42 = .ok (.getfield 29, 3) := by decide +kernel
theorem dX7_puts_45 : decode cX7_puts 45 = .ok (.iload_n 1, 1) := by decide +kernel
theorem dX7_puts_46 : decode cX7_puts 46 = .ok (.iload_n 2, 1) := by decide +kernel
theorem dX7_puts_47 : decode cX7_puts 47 = .ok (.iastore, 1) := by decide +kernel
theorem dX7_puts_48 : decode cX7_puts 48 = .ok (.aload_n 0, 1) := by decide +kernel
theorem dX7_puts_49 : decode cX7_puts 49 = .ok (.getfield 53, 3) := by decide +kernel
theorem dX7_puts_52 : decode cX7_puts 52 = .ok (.iconst 5, 1) := by decide +kernel
theorem dX7_puts_53 : decode cX7_puts 53 = .ok (.iload_n 2, 1) := by decide +kernel
theorem dX7_puts_54 : decode cX7_puts 54 = .ok (.imul, 1) := by decide +kernel
theorem dX7_puts_55 : decode cX7_puts 55 = .ok (.aload_n 0, 1) := by decide +kernel
theorem dX7_puts_56 : decode cX7_puts 56 = .ok (.getfield 50, 3) := by decide +kernel
theorem dX7_puts_59 : decode cX7_puts 59 = .ok (.iload_n 2, 1) := by decide +kernel
theorem dX7_puts_60 : decode cX7_puts 60 = .ok (.iaload, 1) := by decide +kernel
theorem dX7_puts_61 : decode cX7_puts 61 = .ok (.iadd, 1) := by decide +kernel
theorem dX7_puts_62 : decode cX7_puts 62 = .ok (.iload_n 1, 1) := by decide +kernel
theorem dX7_puts_63 : decode cX7_puts 63 = .ok (.iastore, 1) := by decide +kernel
theorem dX7_puts_64 : decode cX7_puts 64 = .ok (.aload_n 0, 1) := by decide +kernel
theorem dX7_puts_65 : decode cX7_puts 65 = .ok (.getfield 50, 3) := by decide +kernel
theorem dX7_puts_68 : decode cX7_puts 68 = .ok (.iload_n 2, 1) := by decide +kernel
theorem dX7_puts_69 : decode cX7_puts 69 = .ok (.dup2, 1) := by decide +kernel
theorem dX7_puts_70 : decode cX7_puts 70 = .ok (.iaload, 1) := by decide +kernel
theorem dX7_puts_71 : decode cX7_puts 71 = .ok (.iconst 1, 1) := by decide +kernel
theorem dX7_puts_72 : decode cX7_puts 72 = .ok (.iadd, 1) := by decide +kernel
theorem dX7_puts_73 : decode cX7_puts 73 = .ok (.iastore, 1) := by decide +kernel
theorem dX7_puts_74 : decode cX7_puts 74 = .ok (.aload_n 0, 1) := by decide +kernel
theorem dX7_puts_75 : decode cX7_puts 75 = .ok (.iload_n 2, 1) := by decide +kernel
theorem dX7_puts_76 : decode cX7_puts 76 = .ok (.invokevirtual 137, 3) := by decide +kernel
theorem dX7_puts_79 : decode cX7_puts 79 = .ok (.ifCond .eq 5, 3) := by decide +kernel
theorem dX7_puts_82 : decode cX7_puts 82 = .ok (.iconst 1, 1) := by decide +kernel
theorem dX7_puts_83 : decode cX7_puts 83 = .ok (.ireturn, 1) := by decide +kernel
theorem dX7_puts_84 : decode cX7_puts 84 = .ok (.aload_n 0, 1) := by decide +kernel
theorem dX7_puts_85 : decode cX7_puts 85 = .ok (.getfield 29, 3) := by decide +kernel
theorem dX7_puts_88 : decode cX7_puts 88 = .ok (.iload_n 1, 1) := by decide +kernel
theorem dX7_puts_89 : decode cX7_puts 89 = .ok (.iconst (-1), 1) := by decide +kernel
theorem dX7_puts_90 : decode cX7_puts 90 = .ok (.iastore, 1) := by decide +kernel
theorem dX7_puts_91 : decode cX7_puts 91 = .ok (.aload_n 0, 1) := by decide +kernel
theorem dX7_puts_92 : decode cX7_puts 92 = .ok (.getfield 50, 3) := by decide +kernel
theorem dX7_puts_95 : decode cX7_puts 95 = .ok (.iload_n 2, 1) := by decide +kernel
theorem dX7_puts_96 : decode cX7_puts 96 = .ok (.dup2, 1) := by decide +kernel
theorem dX7_puts_97 : decode cX7_puts 97 = .ok (.iaload, 1) := by decide +kernel
theorem dX7_puts_98 : decode cX7_puts 98 = .ok (.iconst 1, 1) := by decide +kernel
theorem dX7_puts_99 : decode cX7_puts 99 = .ok (.isub, 1) := by decide +kernel
theorem dX7_puts_100 : decode cX7_puts 100 = .ok (.iastore, 1) := by decide +kernel
theorem dX7_puts_101 : decode cX7_puts 101 = .ok (.iconst 0, 1) := by decide +kernel
theorem dX7_puts_102 : decode cX7_puts 102 = .ok (.istore_n 3, 1) := by decide +kernel
theorem dX7_puts_103 : decode cX7_puts 103 = .ok (.iload_n 3, 1) := by decide +kernel
theorem dX7_puts_104 : decode cX7_puts 104 = .ok (.iconst 5, 1) := by decide +kernel
theorem dX7_puts_105 : decode cX7_puts 105 = .ok (.if_icmp .ge 25, 3) := by decide +kernel
theorem dX7_puts_108 : decode cX7_puts 108 = .ok (.aload_n 0, 1) := by decide +kernel
theorem dX7_puts_109 : decode cX7_puts 109 = .ok (.getfield 53, 3) := by decide +kernel
theorem dX7_puts_112 : decode cX7_puts 112 = .ok (.iconst 5, 1) := by decide +kernel
theorem dX7_puts_113 : decode cX7_puts 113 = .ok (.iload_n 2, 1) := by decide +kernel
theorem dX7_puts_114 : decode cX7_puts 114 = .ok (.imul, 1) := by decide +kernel
theorem dX7_puts_115 : decode cX7_puts 115 = .ok (.iload_n 3, 1) := by decide +kernel
theorem dX7_puts_116 : decode cX7_puts 116 = .ok (.iadd, 1) := by decide +kernel
theorem dX7_puts_117 : decode cX7_puts 117 = .ok (.aload_n 0, 1) := by decide +kernel
theorem dX7_puts_118 : decode cX7_puts 118 = .ok (.getfield 62, 3) := by decide +kernel
theorem dX7_puts_121 : decode cX7_puts 121 = .ok (.iload_n 3, 1) := by decide +kernel
theorem dX7_puts_122 : decode cX7_puts 122 = .ok (.iaload, 1) := by decide +kernel
theorem dX7_puts_123 : decode cX7_puts 123 = .ok (.iastore, 1) := by decide +kernel
theorem dX7_puts_124 : decode cX7_puts 124 = .ok (.iinc 3 1, 3) := by decide +kernel
theorem dX7_puts_127 : decode cX7_puts 127 = .ok (.goto (-24), 3) := by decide +kernel
theorem dX7_puts_130 : decode cX7_puts 130 = .ok (.iconst 0, 1) := by decide +kernel
theorem dX7_puts_131 : decode cX7_puts 131 = .ok (.ireturn, 1) := by decide +kernel
theorem dX7_takes_0 : decode cX7_takes 0 = .ok (.aload_n 0, 1) := by decide +kernel
theorem dX7_takes_1 : decode cX7_takes 1 = .ok (.getfield 29, 3) := by decide +kernel
theorem dX7_takes_4 : decode cX7_takes 4 = .ok (.iload_n 1, 1) := by decide +kernel
theorem dX7_takes_5 : decode cX7_takes 5 = .ok (.iaload, 1) := by decide +kernel
theorem dX7_takes_6 : decode cX7_takes 6 = .ok (.istore_n 2, 1) := by decide +kernel
theorem dX7_takes_7 : decode cX7_takes 7 = .ok (.aload_n 0, 1) := by decide +kernel
theorem dX7_takes_8 : decode cX7_takes 8 = .ok (.iload_n 1, 1) := by decide +kernel
theorem dX7_takes_9 : decode cX7_takes 9 = .ok (.invokevirtual 113, 3) := by decide +kernel
theorem dX7_takes_12 : decode cX7_takes 12 = .ok (.istore_n 3, 1) := by decide +kernel
theorem dX7_takes_13 : decode cX7_takes 13 = .ok (.aload_n 0, 1) := by decide +kernel
theorem dX7_takes_14 : decode cX7_takes 14 = .ok (.getfield 50, 3) := by decide +kernel
theorem dX7_takes_17 : decode cX7_takes 17 = .ok (.iload_n 2, 1) := by decide +kernel
theorem dX7_takes_18 : decode cX7_takes 18 = .ok (.dup2, 1) := by decide +kernel
theorem dX7_takes_19 : decode cX7_takes 19 = .ok (.iaload, 1) := by decide +kernel
theorem dX7_takes_20 : decode cX7_takes 20 = .ok (.iconst 1, 1) := by decide +kernel
theorem dX7_takes_21 : decode cX7_takes 21 = .ok (.isub, 1) := by decide +kernel
theorem dX7_takes_22 : decode cX7_takes 22 = .ok (.iastore, 1) := by decide +kernel
theorem dX7_takes_23 : decode cX7_takes 23 = .ok (.iload_n 3, 1) := by decide +kernel
theorem dX7_takes_24 : decode cX7_takes 24 = .ok (.istore 4, 2) := by decide +kernel
theorem dX7_takes_26 : decode cX7_takes 26 = .ok (.iload 4, 2) := by decide +kernel
theorem dX7_takes_28 : decode cX7_takes 28 = .ok (.aload_n 0, 1) := by decide +kernel
theorem dX7_takes_29 : decode cX7_takes 29 = .ok (.getfield 50, 3) := by decide +kernel
theorem dX7_takes_32 : decode cX7_takes 32 = .ok (.iload_n 2, 1) := by decide +kernel
theorem dX7_takes_33 : decode cX7_takes 33 = .ok (.iaload, 1) := by decide +kernel
theorem dX7_takes_34 : decode cX7_takes 34 = .ok (.if_icmp .ge 33, 3) := by decide +kernel
theorem dX7_takes_37 : decode cX7_takes 37 = .ok (.aload_n 0, 1) := by decide +kernel
theorem dX7_takes_38 : decode cX7_takes 38 = .ok (.getfield 53, 3) := by decide +kernel
theorem dX7_takes_41 : decode cX7_takes 41 = .ok (.iconst 5, 1) := by decide +kernel
theorem dX7_takes_42 : decode cX7_takes 42 = .ok (.iload_n 2, 1) := by decide +kernel
theorem dX7_takes_43 : decode cX7_takes 43 = .ok (.imul, 1) := by decide +kernel
theorem dX7_takes_44 : decode cX7_takes 44 = .ok (.iload 4, 2) := by decide +kernel
theorem dX7_takes_46 : decode cX7_takes 46 = .ok (.iadd, 1) := by decide +kernel
theorem dX7_takes_47 : decode cX7_takes 47 = .ok (.aload_n 0, 1) := by decide +kernel
theorem dX7_takes_48 : decode cX7_takes 48 = .ok (.getfield 53, 3) := by decide +kernel
theorem dX7_takes_51 : decode cX7_takes 51 = .ok (.iconst 5, 1) := by decide +kernel
theorem dX7_takes_52 : decode cX7_takes 52 = .ok (.iload_n 2, 1) := by decide +kernel
theorem dX7_takes_53 : decode cX7_takes 53 = .ok (.imul, 1) := by decide +kernel
theorem dX7_takes_54 : decode cX7_takes 54 = .ok (.iload 4, 2) := by decide +kernel
theorem dX7_takes_56 : decode cX7_takes 56 = .ok (.iadd, 1) := by decide +kernel
theorem dX7_takes_57 : decode cX7_takes 57 = .ok (.iconst 1, 1) := by decide +kernel
theorem dX7_takes_58 : decode cX7_takes 58 = .ok (.iadd, 1) := by decide +kernel
theorem dX7_takes_59 : decode cX7_takes 59 = .ok (.iaload, 1) := by decide +kernel
theorem dX7_takes_60 : decode cX7_takes 60 = .ok (.iastore, 1) := by decide +kernel
theorem dX7_takes_61 : decode cX7_takes 61 = .ok (.iinc 4 1, 3) := by decide +kernel
theorem dX7_takes_64 : decode cX7_takes 64 = .ok (.goto (-38), 3) := by decide +kernel
theorem dX7_takes_67 : decode cX7_takes 67 = .ok (.aload_n 0, 1) := by decide +kernel
theorem dX7_takes_68 : decode cX7_takes 68 = .ok (.getfield 29, 3) := by decide +kernel
theorem dX7_takes_71 : decode cX7_takes 71 = .ok (.iload_n 1, 1) := by decide +kernel
theorem dX7_takes_72 : decode cX7_takes 72 = .ok (.iconst (-1), 1) := by decide +kernel
theorem dX7_takes_73 : decode cX7_takes 73 = .ok (.iastore, 1) := by decide +kernel
theorem dX7_takes_74 : decode cX7_takes 74 = .ok (.return_, 1) := by decide +kernel
theorem dX7_keepAll_0 : decode cX7_keepAll 0 = .ok (.iconst 0, 1) := by decide +kernel
theorem dX7_keepAll_1 : decode cX7_keepAll 1 = .ok (.istore_n 1, 1) := by decide +kernel
theorem dX7_keepAll_2 : decode cX7_keepAll 2 = .ok (.iload_n 1, 1) := by decide +kernel
theorem dX7_keepAll_3 : decode cX7_keepAll 3 = .ok (.bipush 40, 2) := by decide +kernel
theorem dX7_keepAll_5 : decode cX7_keepAll 5 = .ok (.if_icmp .ge 21, 3) := by decide +kernel
theorem dX7_keepAll_8 : decode cX7_keepAll 8 = .ok (.aload_n 0, 1) := by decide +kernel
theorem dX7_keepAll_9 : decode cX7_keepAll 9 = .ok (.getfield 65, 3) := by decide +kernel
theorem dX7_keepAll_12 : decode cX7_keepAll 12 = .ok (.iload_n 1, 1) := by decide +kernel
theorem dX7_keepAll_13 : decode cX7_keepAll 13 = .ok (.aload_n 0, 1) := by decide +kernel
theorem dX7_keepAll_14 : decode cX7_keepAll 14 = .ok (.getfield 53, 3) := by decide +kernel
theorem dX7_keepAll_17 : decode cX7_keepAll 17 = .ok (.iload_n 1, 1) := by decide +kernel
theorem dX7_keepAll_18 : decode cX7_keepAll 18 = .ok (.iaload, 1) := by decide +kernel
theorem dX7_keepAll_19 : decode cX7_keepAll 19 = .ok (.iastore, 1) := by decide +kernel
theorem dX7_keepAll_20 : decode cX7_keepAll 20 = .ok (.iinc 1 1, 3) := by decide +kernel
theorem dX7_keepAll_23 : decode cX7_keepAll 23 = .ok (.goto (-21), 3) := by decide +kernel
theorem dX7_keepAll_26 : decode cX7_keepAll 26 = .ok (.iconst 0, 1) := by decide +kernel
theorem dX7_keepAll_27 : decode cX7_keepAll 27 = .ok (.istore_n 1, 1) := by decide +kernel
theorem dX7_keepAll_28 : decode cX7_keepAll 28 = .ok (.iload_n 1, 1) := by decide +kernel
theorem dX7_keepAll_29 : decode cX7_keepAll 29 = .ok (.bipush 8, 2) := by decide +kernel
theorem dX7_keepAll_31 : decode cX7_keepAll 31 = .ok (.if_icmp .ge 21, 3) := by decide +kernel
theorem dX7_keepAll_34 : decode cX7_keepAll 34 = .ok (.aload_n 0, 1) := by decide +kernel
theorem dX7_keepAll_35 : decode cX7_keepAll 35 = .ok (.getfield 68, 3) := by decide +kernel
theorem dX7_keepAll_38 : decode cX7_keepAll 38 = .ok (.iload_n 1, 1) := by decide +kernel
theorem dX7_keepAll_39 : decode cX7_keepAll 39 = .ok (.aload_n 0, 1) := by decide +kernel
theorem dX7_keepAll_40 : decode cX7_keepAll 40 = .ok (.getfield 50, 3) := by decide +kernel
theorem dX7_keepAll_43 : decode cX7_keepAll 43 = .ok (.iload_n 1, 1) := by decide +kernel
theorem dX7_keepAll_44 : decode cX7_keepAll 44 = .ok (.iaload, 1) := by decide +kernel
theorem dX7_keepAll_45 : decode cX7_keepAll 45 = .ok (.iastore, 1) := by decide +kernel
theorem dX7_keepAll_46 : decode cX7_keepAll 46 = .ok (.iinc 1 1, 3) := by decide +kernel
theorem dX7_keepAll_49 : decode cX7_keepAll 49 = .ok (.goto (-21), 3) := by decide +kernel
theorem dX7_keepAll_52 : decode cX7_keepAll 52 = .ok (.iconst 0, 1) := by decide +kernel
theorem dX7_keepAll_53 : decode cX7_keepAll 53 = .ok (.istore_n 1, 1) := by decide +kernel
theorem dX7_keepAll_54 : decode cX7_keepAll 54 = .ok (.iload_n 1, 1) := by decide +kernel
theorem dX7_keepAll_55 : decode cX7_keepAll 55 = .ok (.bipush 20, 2) := by decide +kernel
theorem dX7_keepAll_57 : decode cX7_keepAll 57 = .ok (.if_icmp .ge 21, 3) := by decide +kernel
theorem dX7_keepAll_60 : decode cX7_keepAll 60 = .ok (.aload_n 0, 1) := by decide +kernel
theorem dX7_keepAll_61 : decode cX7_keepAll 61 = .ok (.getfield 71, 3) := by decide +kernel
theorem dX7_keepAll_64 : decode cX7_keepAll 64 = .ok (.iload_n 1, 1) := by decide +kernel
theorem dX7_keepAll_65 : decode cX7_keepAll 65 = .ok (.aload_n 0, 1) := by decide +kernel
theorem dX7_keepAll_66 : decode cX7_keepAll 66 = .ok (.getfield 29, 3) := by decide +kernel
theorem dX7_keepAll_69 : decode cX7_keepAll 69 = .ok (.iload_n 1, 1) := by decide +kernel
theorem dX7_keepAll_70 : decode cX7_keepAll 70 = .ok (.iaload, 1) := by decide +kernel
theorem dX7_keepAll_71 : decode cX7_keepAll 71 = .ok (.iastore, 1) := by decide +kernel
theorem dX7_keepAll_72 : decode cX7_keepAll 72 = .ok (.iinc 1 1, 3) := by decide +kernel
theorem dX7_keepAll_75 : decode cX7_keepAll 75 = .ok (.goto (-21), 3) := by decide +kernel
theorem dX7_keepAll_78 : decode cX7_keepAll 78 = .ok (.return_, 1) := by decide +kernel
theorem dX7_backAll_0 : decode cX7_backAll 0 = .ok (.iconst 0, 1) := by decide +kernel
theorem dX7_backAll_1 : decode cX7_backAll 1 = .ok (.istore_n 1, 1) := by decide +kernel
theorem dX7_backAll_2 : decode cX7_backAll 2 = .ok (.iload_n 1, 1) := by decide +kernel
theorem dX7_backAll_3 : decode cX7_backAll 3 = .ok (.bipush 40, 2) := by decide +kernel
theorem dX7_backAll_5 : decode cX7_backAll 5 = .ok (.if_icmp .ge 21, 3) := by decide +kernel
theorem dX7_backAll_8 : decode cX7_backAll 8 = .ok (.aload_n 0, 1) := by decide +kernel
theorem dX7_backAll_9 : decode cX7_backAll 9 = .ok (.getfield 53, 3) := by decide +kernel
theorem dX7_backAll_12 : decode cX7_backAll 12 = .ok (.iload_n 1, 1) := by decide +kernel
theorem dX7_backAll_13 : decode cX7_backAll 13 = .ok (.aload_n 0, 1) := by decide +kernel
theorem dX7_backAll_14 : decode cX7_backAll 14 = .ok (.getfield 65, 3) := by decide +kernel
theorem dX7_backAll_17 : decode cX7_backAll 17 = .ok (.iload_n 1, 1) := by decide +kernel
theorem dX7_backAll_18 : decode cX7_backAll 18 = .ok (.iaload, 1) := by decide +kernel
theorem dX7_backAll_19 : decode cX7_backAll 19 = .ok (.iastore, 1) := by decide +kernel
theorem dX7_backAll_20 : decode cX7_backAll 20 = .ok (.iinc 1 1, 3) := by decide +kernel
theorem dX7_backAll_23 : decode cX7_backAll 23 = .ok (.goto (-21), 3) := by decide +kernel
theorem dX7_backAll_26 : decode cX7_backAll 26 = .ok (.iconst 0, 1) := by decide +kernel
theorem dX7_backAll_27 : decode cX7_backAll 27 = .ok (.istore_n 1, 1) := by decide +kernel
theorem dX7_backAll_28 : decode cX7_backAll 28 = .ok (.iload_n 1, 1) := by decide +kernel
theorem dX7_backAll_29 : decode cX7_backAll 29 = .ok (.bipush 8, 2) := by decide +kernel
theorem dX7_backAll_31 : decode cX7_backAll 31 = .ok (.if_icmp .ge 21, 3) := by decide +kernel
theorem dX7_backAll_34 : decode cX7_backAll 34 = .ok (.aload_n 0, 1) := by decide +kernel
theorem dX7_backAll_35 : decode cX7_backAll 35 = .ok (.getfield 50, 3) := by decide +kernel
theorem dX7_backAll_38 : decode cX7_backAll 38 = .ok (.iload_n 1, 1) := by decide +kernel
theorem dX7_backAll_39 : decode cX7_backAll 39 = .ok (.aload_n 0, 1) := by decide +kernel
theorem dX7_backAll_40 : decode cX7_backAll 40 = .ok (.getfield 68, 3) := by decide +kernel
theorem dX7_backAll_43 : decode cX7_backAll 43 = .ok (.iload_n 1, 1) := by decide +kernel
theorem dX7_backAll_44 : decode cX7_backAll 44 = .ok (.iaload, 1) := by decide +kernel
theorem dX7_backAll_45 : decode cX7_backAll 45 = .ok (.iastore, 1) := by decide +kernel
theorem dX7_backAll_46 : decode cX7_backAll 46 = .ok (.iinc 1 1, 3) := by decide +kernel
theorem dX7_backAll_49 : decode cX7_backAll 49 = .ok (.goto (-21), 3) := by decide +kernel
theorem dX7_backAll_52 : decode cX7_backAll 52 = .ok (.iconst 0, 1) := by decide +kernel
theorem dX7_backAll_53 : decode cX7_backAll 53 = .ok (.istore_n 1, 1) := by decide +kernel
theorem dX7_backAll_54 : decode cX7_backAll 54 = .ok (.iload_n 1, 1) := by decide +kernel
theorem dX7_backAll_55 : decode cX7_backAll 55 = .ok (.bipush 20, 2) := by decide +kernel
theorem dX7_backAll_57 : decode cX7_backAll 57 = .ok (.if_icmp .ge 21, 3) := by decide +kernel
theorem dX7_backAll_60 : decode cX7_backAll 60 = .ok (.aload_n 0, 1) := by decide +kernel
theorem dX7_backAll_61 : decode cX7_backAll 61 = .ok (.getfield 29, 3) := by decide +kernel
theorem dX7_backAll_64 : decode cX7_backAll 64 = .ok (.iload_n 1, 1) := by decide +kernel
theorem dX7_backAll_65 : decode cX7_backAll 65 = .ok (.aload_n 0, 1) := by decide +kernel
theorem dX7_backAll_66 : decode cX7_backAll 66 = .ok (.getfield 71, 3) := by decide +kernel
theorem dX7_backAll_69 : decode cX7_backAll 69 = .ok (.iload_n 1, 1) := by decide +kernel
theorem dX7_backAll_70 : decode cX7_backAll 70 = .ok (.iaload, 1) := by decide +kernel
theorem dX7_backAll_71 : decode cX7_backAll 71 = .ok (.iastore, 1) := by decide +kernel
theorem dX7_backAll_72 : decode cX7_backAll 72 = .ok (.iinc 1 1, 3) := by decide +kernel
theorem dX7_backAll_75 : decode cX7_backAll 75 = .ok (.goto (-21), 3) := by decide +kernel
theorem dX7_backAll_78 : decode cX7_backAll 78 = .ok (.return_, 1) := by decide +kernel
theorem dX7_may_0 : decode cX7_may 0 = .ok (.aload_n 0, 1) := by decide +kernel
theorem dX7_may_1 : decode cX7_may 1 = .ok (.iload_n 1, 1) := by decide +kernel
theorem dX7_may_2 : decode cX7_may 2 = .ok (.invokevirtual 98, 3) := by decide +kernel
theorem dX7_may_5 : decode cX7_may 5 = .ok (.ifCond .eq 11, 3) := by decide +kernel
theorem dX7_may_8 : decode cX7_may 8 = .ok (.aload_n 0, 1) := by decide +kernel
theorem dX7_may_9 : decode cX7_may 9 = .ok (.iload_n 2, 1) := by decide +kernel
theorem dX7_may_10 : decode cX7_may 10 = .ok (.invokevirtual 106, 3) := by decide +kernel
theorem dX7_may_13 : decode cX7_may 13 = .ok (.ifCond .ne 5, 3) := by decide +kernel
theorem dX7_may_16 : decode cX7_may 16 = .ok (.iconst (-1), 1) := by decide +kernel
theorem dX7_may_17 : decode cX7_may 17 = .ok (.ireturn, 1) := by decide +kernel
theorem dX7_may_18 : decode cX7_may 18 = .ok (.aload_n 0, 1) := by decide +kernel
theorem dX7_may_19 : decode cX7_may 19 = .ok (.getfield 29, 3) := by decide +kernel
theorem dX7_may_22 : decode cX7_may 22 = .ok (.iload_n 1, 1) := by decide +kernel
theorem dX7_may_23 : decode cX7_may 23 = .ok (.iaload, 1) := by decide +kernel
theorem dX7_may_24 : decode cX7_may 24 = .ok (.iconst (-1), 1) := by decide +kernel
theorem dX7_may_25 : decode cX7_may 25 = .ok (.if_icmp .eq 6, 3) := by decide +kernel
theorem dX7_may_28 : decode cX7_may 28 = .ok (.bipush (-3), 2) := by decide +kernel
theorem dX7_may_30 : decode cX7_may 30 = .ok (.ireturn, 1) := by decide +kernel
theorem dX7_may_31 : decode cX7_may 31 = .ok (.aload_n 0, 1) := by decide +kernel
theorem dX7_may_32 : decode cX7_may 32 = .ok (.getfield 50, 3) := by decide +kernel
theorem dX7_may_35 : decode cX7_may 35 = .ok (.iload_n 2, 1) := by decide +kernel
theorem dX7_may_36 : decode cX7_may 36 = .ok (.iaload, 1) := by decide +kernel
theorem dX7_may_37 : decode cX7_may 37 = .ok (.iconst 5, 1) := by decide +kernel
theorem dX7_may_38 : decode cX7_may 38 = .ok (.if_icmp .ne 5, 3) := by decide +kernel
theorem dX7_may_41 : decode cX7_may 41 = .ok (.iconst 2, 1) := by decide +kernel
theorem dX7_may_42 : decode cX7_may 42 = .ok (.ireturn, 1) := by decide +kernel
theorem dX7_may_43 : decode cX7_may 43 = .ok (.aload_n 0, 1) := by decide +kernel
theorem dX7_may_44 : decode cX7_may 44 = .ok (.invokevirtual 140, 3) := by decide +kernel
theorem dX7_may_47 : decode cX7_may 47 = .ok (.aload_n 0, 1) := by decide +kernel
theorem dX7_may_48 : decode cX7_may 48 = .ok (.iload_n 1, 1) := by decide +kernel
theorem dX7_may_49 : decode cX7_may 49 = .ok (.iload_n 2, 1) := by decide +kernel
theorem dX7_may_50 : decode cX7_may 50 = .ok (.invokevirtual 143, 3) := by decide +kernel
theorem dX7_may_53 : decode cX7_may 53 = .ok (.istore_n 3, 1) := by decide +kernel
theorem dX7_may_54 : decode cX7_may 54 = .ok (.aload_n 0, 1) := by decide +kernel
theorem dX7_may_55 : decode cX7_may 55 = .ok (.invokevirtual 146, 3) := by decide +kernel
theorem dX7_may_58 : decode cX7_may 58 = .ok (.iload_n 3, 1) := by decide +kernel
theorem dX7_may_59 : decode cX7_may 59 = .ok (.ifCond .eq 7, 3) := by decide +kernel
theorem dX7_may_62 : decode cX7_may 62 = .ok (.iconst 0, 1) := by decide +kernel
theorem dX7_may_63 : decode cX7_may 63 = .ok (.goto 4, 3) := by decide +kernel
theorem dX7_may_66 : decode cX7_may 66 = .ok (.iconst 1, 1) := by decide +kernel
theorem dX7_may_67 : decode cX7_may 67 = .ok (.ireturn, 1) := by decide +kernel
theorem dX7_put_0 : decode cX7_put 0 = .ok (.aload_n 0, 1) := by decide +kernel
theorem dX7_put_1 : decode cX7_put 1 = .ok (.iload_n 1, 1) := by decide +kernel
theorem dX7_put_2 : decode cX7_put 2 = .ok (.iload_n 2, 1) := by decide +kernel
theorem dX7_put_3 : decode cX7_put 3 = .ok (.invokevirtual 149, 3) := by decide +kernel
theorem dX7_put_6 : decode cX7_put 6 = .ok (.istore_n 3, 1) := by decide +kernel
theorem dX7_put_7 : decode cX7_put 7 = .ok (.iload_n 3, 1) := by decide +kernel
theorem dX7_put_8 : decode cX7_put 8 = .ok (.ifCond .ne 16, 3) := by decide +kernel
theorem dX7_put_11 : decode cX7_put 11 = .ok (.aload_n 0, 1) := by decide +kernel
theorem dX7_put_12 : decode cX7_put 12 = .ok (.iload_n 1, 1) := by decide +kernel
theorem dX7_put_13 : decode cX7_put 13 = .ok (.iload_n 2, 1) := by decide +kernel
theorem dX7_put_14 : decode cX7_put 14 = .ok (.invokevirtual 143, 3) := by decide +kernel
theorem dX7_put_17 : decode cX7_put 17 = .ok (.ifCond .eq 7, 3) := by decide +kernel
theorem dX7_put_20 : decode cX7_put 20 = .ok (.iconst 1, 1) := by decide +kernel
theorem dX7_put_21 : decode cX7_put 21 = .ok (.goto 4, 3) := by decide +kernel
theorem dX7_put_24 : decode cX7_put 24 = .ok (.iconst 0, 1) := by decide +kernel
theorem dX7_put_25 : decode cX7_put 25 = .ok (.istore 4, 2) := by decide +kernel
theorem dX7_put_27 : decode cX7_put 27 = .ok (.iload_n 3, 1) := by decide +kernel
theorem dX7_put_28 : decode cX7_put 28 = .ok (.ireturn, 1) := by decide +kernel
theorem dX7_take_0 : decode cX7_take 0 = .ok (.aload_n 0, 1) := by decide +kernel
theorem dX7_take_1 : decode cX7_take 1 = .ok (.iload_n 1, 1) := by decide +kernel
theorem dX7_take_2 : decode cX7_take 2 = .ok (.invokevirtual 98, 3) := by decide +kernel
theorem dX7_take_5 : decode cX7_take 5 = .ok (.ifCond .ne 5, 3) := by decide +kernel
theorem dX7_take_8 : decode cX7_take 8 = .ok (.iconst (-1), 1) := by decide +kernel
theorem dX7_take_9 : decode cX7_take 9 = .ok (.ireturn, 1) := by decide +kernel
theorem dX7_take_10 : decode cX7_take 10 = .ok (.aload_n 0, 1) := by decide +kernel
theorem dX7_take_11 : decode cX7_take 11 = .ok (.getfield 29, 3) := by decide +kernel
theorem dX7_take_14 : decode cX7_take 14 = .ok (.iload_n 1, 1) := by decide +kernel
theorem dX7_take_15 : decode cX7_take 15 = .ok (.iaload, 1) := by decide +kernel
theorem dX7_take_16 : decode cX7_take 16 = .ok (.istore_n 2, 1) := by decide +kernel
theorem dX7_take_17 : decode cX7_take 17 = .ok (.iload_n 2, 1) := by decide +kernel
theorem dX7_take_18 : decode cX7_take 18 = .ok (.iconst (-1), 1) := by decide +kernel
theorem dX7_take_19 : decode cX7_take 19 = .ok (.if_icmp .ne 6, 3) := by decide +kernel
theorem dX7_take_22 : decode cX7_take 22 = .ok (.bipush (-3), 2) := by decide +kernel
theorem dX7_take_24 : decode cX7_take 24 = .ok (.ireturn, 1) := by decide +kernel
theorem dX7_take_25 : decode cX7_take 25 = .ok (.aload_n 0, 1) := by decide +kernel
theorem dX7_take_26 : decode cX7_take 26 = .ok (.iload_n 1, 1) := by decide +kernel
theorem dX7_take_27 : decode cX7_take 27 = .ok (.invokevirtual 152, 3) := by decide +kernel
theorem dX7_take_30 : decode cX7_take 30 = .ok (.iload_n 2, 1) := by decide +kernel
theorem dX7_take_31 : decode cX7_take 31 = .ok (.ireturn, 1) := by decide +kernel
theorem dX7_tidy_0 : decode cX7_tidy 0 = .ok (.aload_n 0, 1) := by decide +kernel
theorem dX7_tidy_1 : decode cX7_tidy 1 = .ok (.iload_n 1, 1) := by decide +kernel
theorem dX7_tidy_2 : decode cX7_tidy 2 = .ok (.invokevirtual 106, 3) := by decide +kernel
theorem dX7_tidy_5 : decode cX7_tidy 5 = .ok (.ifCond .ne 5, 3) := by decide +kernel
theorem dX7_tidy_8 : decode cX7_tidy 8 = .ok (.iconst (-1), 1) := by decide +kernel
theorem dX7_tidy_9 : decode cX7_tidy 9 = .ok (.ireturn, 1) := by decide +kernel
theorem dX7_tidy_10 : decode cX7_tidy 10 = .ok (.aload_n 0, 1) := by decide +kernel
theorem dX7_tidy_11 : decode cX7_tidy 11 = .ok (.iload_n 1, 1) := by decide +kernel
theorem dX7_tidy_12 : decode cX7_tidy 12 = .ok (.invokevirtual 137, 3) := by decide +kernel
theorem dX7_tidy_15 : decode cX7_tidy 15 = .ok (.istore_n 2, 1) := by decide +kernel
theorem dX7_tidy_16 : decode cX7_tidy 16 = .ok (.aload_n 0, 1) := by decide +kernel
theorem dX7_tidy_17 : decode cX7_tidy 17 = .ok (.iload_n 1, 1) := by decide +kernel
theorem dX7_tidy_18 : decode cX7_tidy 18 = .ok (.invokevirtual 117, 3) := by decide +kernel
theorem dX7_tidy_21 : decode cX7_tidy 21 = .ok (.ireturn, 1) := by decide +kernel
theorem dX7_trades_0 : decode cX7_trades 0 = .ok (.iconst 0, 1) := by decide +kernel
theorem dX7_trades_1 : decode cX7_trades 1 = .ok (.istore_n 3, 1) := by decide +kernel
theorem dX7_trades_2 : decode cX7_trades 2 = .ok (.iload_n 3, 1) := by decide +kernel
theorem dX7_trades_3 : decode cX7_trades 3 = .ok (.iconst 5, 1) := by decide +kernel
theorem dX7_trades_4 : decode cX7_trades 4 = .ok (.if_icmp .ge 53, 3) := by decide +kernel
theorem dX7_trades_7 : decode cX7_trades 7 = .ok (.aload_n 0, 1) := by decide +kernel
theorem dX7_trades_8 : decode cX7_trades 8 = .ok (.getfield 53, 3) := by decide +kernel
theorem dX7_trades_11 : decode cX7_trades 11 = .ok (.iconst 5, 1) := by decide +kernel
theorem dX7_trades_12 : decode cX7_trades 12 = .ok (.iload_n 1, 1) := by decide +kernel
theorem dX7_trades_13 : decode cX7_trades 13 = .ok (.imul, 1) := by decide +kernel
theorem dX7_trades_14 : decode cX7_trades 14 = .ok (.iload_n 3, 1) := by decide +kernel
theorem dX7_trades_15 : decode cX7_trades 15 = .ok (.iadd, 1) := by decide +kernel
theorem dX7_trades_16 : decode cX7_trades 16 = .ok (.iaload, 1) := by decide +kernel
theorem dX7_trades_17 : decode cX7_trades 17 = .ok (.istore 4, 2) := by decide +kernel
theorem dX7_trades_19 : decode cX7_trades 19 = .ok (.aload_n 0, 1) := by decide +kernel
theorem dX7_trades_20 : decode cX7_trades 20 = .ok (.getfield 53, 3) := by decide +kernel
theorem dX7_trades_23 : decode cX7_trades 23 = .ok (.iconst 5, 1) := by decide +kernel
theorem dX7_trades_24 : decode cX7_trades 24 = .ok (.iload_n 1, 1) := by decide +kernel
theorem dX7_trades_25 : decode cX7_trades 25 = .ok (.imul, 1) := by decide +kernel
theorem dX7_trades_26 : decode cX7_trades 26 = .ok (.iload_n 3, 1) := by decide +kernel
theorem dX7_trades_27 : decode cX7_trades 27 = .ok (.iadd, 1) := by decide +kernel
theorem dX7_trades_28 : decode cX7_trades 28 = .ok (.aload_n 0, 1) := by decide +kernel
theorem dX7_trades_29 : decode cX7_trades 29 = .ok (.getfield 53, 3) := by decide +kernel
theorem dX7_trades_32 : decode cX7_trades 32 = .ok (.iconst 5, 1) := by decide +kernel
theorem dX7_trades_33 : decode cX7_trades 33 = .ok (.iload_n 2, 1) := by decide +kernel
theorem dX7_trades_34 : decode cX7_trades 34 = .ok (.imul, 1) := by decide +kernel
theorem dX7_trades_35 : decode cX7_trades 35 = .ok (.iload_n 3, 1) := by decide +kernel
theorem dX7_trades_36 : decode cX7_trades 36 = .ok (.iadd, 1) := by decide +kernel
theorem dX7_trades_37 : decode cX7_trades 37 = .ok (.iaload, 1) := by decide +kernel
theorem dX7_trades_38 : decode cX7_trades 38 = .ok (.iastore, 1) := by decide +kernel
theorem dX7_trades_39 : decode cX7_trades 39 = .ok (.aload_n 0, 1) := by decide +kernel
theorem dX7_trades_40 : decode cX7_trades 40 = .ok (.getfield 53, 3) := by decide +kernel
theorem dX7_trades_43 : decode cX7_trades 43 = .ok (.iconst 5, 1) := by decide +kernel
theorem dX7_trades_44 : decode cX7_trades 44 = .ok (.iload_n 2, 1) := by decide +kernel
theorem dX7_trades_45 : decode cX7_trades 45 = .ok (.imul, 1) := by decide +kernel
theorem dX7_trades_46 : decode cX7_trades 46 = .ok (.iload_n 3, 1) := by decide +kernel
theorem dX7_trades_47 : decode cX7_trades 47 = .ok (.iadd, 1) := by decide +kernel
theorem dX7_trades_48 : decode cX7_trades 48 = .ok (.iload 4, 2) := by decide +kernel
theorem dX7_trades_50 : decode cX7_trades 50 = .ok (.iastore, 1) := by decide +kernel
theorem dX7_trades_51 : decode cX7_trades 51 = .ok (.iinc 3 1, 3) := by decide +kernel
theorem dX7_trades_54 : decode cX7_trades 54 = .ok (.goto (-52), 3) := by decide +kernel
theorem dX7_trades_57 : decode cX7_trades 57 = .ok (.aload_n 0, 1) := by decide +kernel
theorem dX7_trades_58 : decode cX7_trades 58 = .ok (.getfield 50, 3) := by decide +kernel
theorem dX7_trades_61 : decode cX7_trades 61 = .ok (.iload_n 1, 1) := by decide +kernel
theorem dX7_trades_62 : decode cX7_trades 62 = .ok (.iaload, 1) := by decide +kernel
theorem dX7_trades_63 : decode cX7_trades 63 = .ok (.istore_n 3, 1) := by decide +kernel
theorem dX7_trades_64 : decode cX7_trades 64 = .ok (.aload_n 0, 1) := by decide +kernel
theorem dX7_trades_65 : decode cX7_trades 65 = .ok (.getfield 50, 3) := by decide +kernel
theorem dX7_trades_68 : decode cX7_trades 68 = .ok (.iload_n 1, 1) := by decide +kernel
theorem dX7_trades_69 : decode cX7_trades 69 = .ok (.aload_n 0, 1) := by decide +kernel
theorem dX7_trades_70 : decode cX7_trades 70 = .ok (.getfield 50, 3) := by decide +kernel
theorem dX7_trades_73 : decode cX7_trades 73 = .ok (.iload_n 2, 1) := by decide +kernel
theorem dX7_trades_74 : decode cX7_trades 74 = .ok (.iaload, 1) := by decide +kernel
theorem dX7_trades_75 : decode cX7_trades 75 = .ok (.iastore, 1) := by decide +kernel
theorem dX7_trades_76 : decode cX7_trades 76 = .ok (.aload_n 0, 1) := by decide +kernel
theorem dX7_trades_77 : decode cX7_trades 77 = .ok (.getfield 50, 3) := by decide +kernel
theorem dX7_trades_80 : decode cX7_trades 80 = .ok (.iload_n 2, 1) := by decide +kernel
theorem dX7_trades_81 : decode cX7_trades 81 = .ok (.iload_n 3, 1) := by decide +kernel
theorem dX7_trades_82 : decode cX7_trades 82 = .ok (.iastore, 1) := by decide +kernel
theorem dX7_trades_83 : decode cX7_trades 83 = .ok (.iconst 0, 1) := by decide +kernel
theorem dX7_trades_84 : decode cX7_trades 84 = .ok (.istore 4, 2) := by decide +kernel
theorem dX7_trades_86 : decode cX7_trades 86 = .ok (.iload 4, 2) := by decide +kernel
theorem dX7_trades_88 : decode cX7_trades 88 = .ok (.aload_n 0, 1) := by decide +kernel
theorem dX7_trades_89 : decode cX7_trades 89 = .ok (.getfield 84, 3) := by decide +kernel
theorem dX7_trades_92 : decode cX7_trades 92 = .ok (.if_icmp .ge 53, 3) := by decide +kernel
theorem dX7_trades_95 : decode cX7_trades 95 = .ok (.aload_n 0, 1) := by decide +kernel
theorem dX7_trades_96 : decode cX7_trades 96 = .ok (.getfield 29, 3) := by decide +kernel
theorem dX7_trades_99 : decode cX7_trades 99 = .ok (.iload 4, 2) := by decide +kernel
theorem dX7_trades_101 : decode cX7_trades 101 = .ok (.aload_n 0, 1) := by decide +kernel
theorem dX7_trades_102 : decode cX7_trades 102 = .ok (.getfield 29, 3) := by decide +kernel
theorem dX7_trades_105 : decode cX7_trades 105 = .ok (.iload 4, 2) := by decide +kernel
theorem dX7_trades_107 : decode cX7_trades 107 = .ok (.iaload, 1) := by decide +kernel
theorem dX7_trades_108 : decode cX7_trades 108 = .ok (.iload_n 1, 1) := by decide +kernel
theorem dX7_trades_109 : decode cX7_trades 109 = .ok (.if_icmp .ne 7, 3) := by decide +kernel
theorem dX7_trades_112 : decode cX7_trades 112 = .ok (.iload_n 2, 1) := by decide +kernel
theorem dX7_trades_113 : decode cX7_trades 113 = .ok (.goto 25, 3) := by decide +kernel
theorem dX7_trades_116 : decode cX7_trades 116 = .ok (.aload_n 0, 1) := by decide +kernel
theorem dX7_trades_117 : decode cX7_trades 117 = .ok (.getfield 29, 3) := by decide +kernel
theorem dX7_trades_120 : decode cX7_trades 120 = .ok (.iload 4, 2) := by decide +kernel
theorem dX7_trades_122 : decode cX7_trades 122 = .ok (.iaload, 1) := by decide +kernel
theorem dX7_trades_123 : decode cX7_trades 123 = .ok (.iload_n 2, 1) := by decide +kernel
theorem dX7_trades_124 : decode cX7_trades 124 = .ok (.if_icmp .ne 7, 3) := by decide +kernel
theorem dX7_trades_127 : decode cX7_trades 127 = .ok (.iload_n 1, 1) := by decide +kernel
theorem dX7_trades_128 : decode cX7_trades 128 = .ok (.goto 10, 3) := by decide +kernel
theorem dX7_trades_131 : decode cX7_trades 131 = .ok (.aload_n 0, 1) := by decide +kernel
theorem dX7_trades_132 : decode cX7_trades 132 = .ok (.getfield 29, 3) := by decide +kernel
theorem dX7_trades_135 : decode cX7_trades 135 = .ok (.iload 4, 2) := by decide +kernel
theorem dX7_trades_137 : decode cX7_trades 137 = .ok (.iaload, 1) := by decide +kernel
theorem dX7_trades_138 : decode cX7_trades 138 = .ok (.iastore, 1) := by decide +kernel
theorem dX7_trades_139 : decode cX7_trades 139 = .ok (.iinc 4 1, 3) := by decide +kernel
theorem dX7_trades_142 : decode cX7_trades 142 = .ok (.goto (-56), 3) := by decide +kernel
theorem dX7_trades_145 : decode cX7_trades 145 = .ok (.return_, 1) := by decide +kernel
theorem dX7_trade_0 : decode cX7_trade 0 = .ok (.aload_n 0, 1) := by decide +kernel
theorem dX7_trade_1 : decode cX7_trade 1 = .ok (.iload_n 1, 1) := by decide +kernel
theorem dX7_trade_2 : decode cX7_trade 2 = .ok (.invokevirtual 106, 3) := by decide +kernel
theorem dX7_trade_5 : decode cX7_trade 5 = .ok (.ifCond .eq 11, 3) := by decide +kernel
theorem dX7_trade_8 : decode cX7_trade 8 = .ok (.aload_n 0, 1) := by decide +kernel
theorem dX7_trade_9 : decode cX7_trade 9 = .ok (.iload_n 2, 1) := by decide +kernel
theorem dX7_trade_10 : decode cX7_trade 10 = .ok (.invokevirtual 106, 3) := by decide +kernel
theorem dX7_trade_13 : decode cX7_trade 13 = .ok (.ifCond .ne 5, 3) := by decide +kernel
theorem dX7_trade_16 : decode cX7_trade 16 = .ok (.iconst (-1), 1) := by decide +kernel
theorem dX7_trade_17 : decode cX7_trade 17 = .ok (.ireturn, 1) := by decide +kernel
theorem dX7_trade_18 : decode cX7_trade 18 = .ok (.iload_n 1, 1) := by decide +kernel
theorem dX7_trade_19 : decode cX7_trade 19 = .ok (.iload_n 2, 1) := by decide +kernel
theorem dX7_trade_20 : decode cX7_trade 20 = .ok (.if_icmp .ne 6, 3) := by decide +kernel
theorem dX7_trade_23 : decode cX7_trade 23 = .ok (.bipush (-2), 2) := by decide +kernel
theorem dX7_trade_25 : decode cX7_trade 25 = .ok (.ireturn, 1) := by decide +kernel
theorem dX7_trade_26 : decode cX7_trade 26 = .ok (.aload_n 0, 1) := by decide +kernel
theorem dX7_trade_27 : decode cX7_trade 27 = .ok (.iload_n 1, 1) := by decide +kernel
theorem dX7_trade_28 : decode cX7_trade 28 = .ok (.iload_n 2, 1) := by decide +kernel
theorem dX7_trade_29 : decode cX7_trade 29 = .ok (.invokevirtual 156, 3) := by decide +kernel
theorem dX7_trade_32 : decode cX7_trade 32 = .ok (.aload_n 0, 1) := by decide +kernel
theorem dX7_trade_33 : decode cX7_trade 33 = .ok (.invokevirtual 94, 3) := by decide +kernel
theorem dX7_trade_36 : decode cX7_trade 36 = .ok (.ifCond .eq 8, 3) := by decide +kernel
theorem dX7_trade_39 : decode cX7_trade 39 = .ok (.aload_n 0, 1) := by decide +kernel
theorem dX7_trade_40 : decode cX7_trade 40 = .ok (.invokevirtual 160, 3) := by decide +kernel
theorem dX7_trade_43 : decode cX7_trade 43 = .ok (.ireturn, 1) := by decide +kernel
theorem dX7_trade_44 : decode cX7_trade 44 = .ok (.aload_n 0, 1) := by decide +kernel
theorem dX7_trade_45 : decode cX7_trade 45 = .ok (.iload_n 1, 1) := by decide +kernel
theorem dX7_trade_46 : decode cX7_trade 46 = .ok (.iload_n 2, 1) := by decide +kernel
theorem dX7_trade_47 : decode cX7_trade 47 = .ok (.invokevirtual 156, 3) := by decide +kernel
theorem dX7_trade_50 : decode cX7_trade 50 = .ok (.bipush (-3), 2) := by decide +kernel
theorem dX7_trade_52 : decode cX7_trade 52 = .ok (.ireturn, 1) := by decide +kernel
theorem dX7_plays_0 : decode cX7_plays 0 = .ok (.iconst 0, 1) := by decide +kernel
theorem dX7_plays_1 : decode cX7_plays 1 = .ok (.istore_n 3, 1) := by decide +kernel
theorem dX7_plays_2 : decode cX7_plays 2 = .ok (.iload_n 3, 1) := by decide +kernel
theorem dX7_plays_3 : decode cX7_plays 3 = .ok (.aload_n 0, 1) := by decide +kernel
theorem dX7_plays_4 : decode cX7_plays 4 = .ok (.getfield 50, 3) := by decide +kernel
theorem dX7_plays_7 : decode cX7_plays 7 = .ok (.iload_n 2, 1) := by decide +kernel
theorem dX7_plays_8 : decode cX7_plays 8 = .ok (.iaload, 1) := by decide +kernel
theorem dX7_plays_9 : decode cX7_plays 9 = .ok (.if_icmp .ge 34, 3) := by decide +kernel
theorem dX7_plays_12 : decode cX7_plays 12 = .ok (.aload_n 0, 1) := by decide +kernel
theorem dX7_plays_13 : decode cX7_plays 13 = .ok (.getfield 23, 3) := by decide +kernel
theorem dX7_plays_16 : decode cX7_plays 16 = .ok (.aload_n 0, 1) := by decide +kernel
theorem dX7_plays_17 : decode cX7_plays 17 = .ok (.getfield 53, 3) := by decide +kernel
theorem dX7_plays_20 : decode cX7_plays 20 = .ok (.iconst 5, 1) := by decide +kernel
theorem dX7_plays_21 : decode cX7_plays 21 = .ok (.iload_n 2, 1) := by decide +kernel
theorem dX7_plays_22 : decode cX7_plays 22 = .ok (.imul, 1) := by decide +kernel
theorem dX7_plays_23 : decode cX7_plays 23 = .ok (.iload_n 3, 1) := by decide +kernel
theorem dX7_plays_24 : decode cX7_plays 24 = .ok (.iadd, 1) := by decide +kernel
theorem dX7_plays_25 : decode cX7_plays 25 = .ok (.iaload, 1) := by decide +kernel
theorem dX7_plays_26 : decode cX7_plays 26 = .ok (.iaload, 1) := by decide +kernel
theorem dX7_plays_27 : decode cX7_plays 27 = .ok (.iload_n 1, 1) := by decide +kernel
theorem dX7_plays_28 : decode cX7_plays 28 = .ok (.ishr, 1) := by decide +kernel
theorem dX7_plays_29 : decode cX7_plays 29 = .ok (.iconst 1, 1) := by decide +kernel
theorem dX7_plays_30 : decode cX7_plays 30 = .ok (.iand, 1) := by decide +kernel
theorem dX7_plays_31 : decode cX7_plays 31 = .ok (.iconst 1, 1) := by decide +kernel
theorem dX7_plays_32 : decode cX7_plays 32 = .ok (.if_icmp .ne 5, 3) := by decide +kernel
theorem dX7_plays_35 : decode cX7_plays 35 = .ok (.iconst 1, 1) := by decide +kernel
theorem dX7_plays_36 : decode cX7_plays 36 = .ok (.ireturn, 1) := by decide +kernel
theorem dX7_plays_37 : decode cX7_plays 37 = .ok (.iinc 3 1, 3) := by decide +kernel
theorem dX7_plays_40 : decode cX7_plays 40 = .ok (.goto (-38), 3) := by decide +kernel
theorem dX7_plays_43 : decode cX7_plays 43 = .ok (.iconst 0, 1) := by decide +kernel
theorem dX7_plays_44 : decode cX7_plays 44 = .ok (.ireturn, 1) := by decide +kernel
theorem dX7_edge_0 : decode cX7_edge 0 = .ok (.iconst (-1), 1) := by decide +kernel
theorem dX7_edge_1 : decode cX7_edge 1 = .ok (.istore_n 3, 1) := by decide +kernel
theorem dX7_edge_2 : decode cX7_edge 2 = .ok (.iconst 0, 1) := by decide +kernel
theorem dX7_edge_3 : decode cX7_edge 3 = .ok (.istore 4, 2) := by decide +kernel
theorem dX7_edge_5 : decode cX7_edge 5 = .ok (.iload 4, 2) := by decide +kernel
theorem dX7_edge_7 : decode cX7_edge 7 = .ok (.aload_n 0, 1) := by decide +kernel
theorem dX7_edge_8 : decode cX7_edge 8 = .ok (.getfield 91, 3) := by decide +kernel
theorem dX7_edge_11 : decode cX7_edge 11 = .ok (.if_icmp .ge 31, 3) := by decide +kernel
theorem dX7_edge_14 : decode cX7_edge 14 = .ok (.aload_n 0, 1) := by decide +kernel
theorem dX7_edge_15 : decode cX7_edge 15 = .ok (.iload_n 1, 1) := by decide +kernel
theorem dX7_edge_16 : decode cX7_edge 16 = .ok (.iload 4, 2) := by decide +kernel
theorem dX7_edge_18 : decode cX7_edge 18 = .ok (.invokevirtual 164, 3) := by decide +kernel
theorem dX7_edge_21 : decode cX7_edge 21 = .ok (.ifCond .eq 15, 3) := by decide +kernel
theorem dX7_edge_24 : decode cX7_edge 24 = .ok (.iload_n 2, 1) := by decide +kernel
theorem dX7_edge_25 : decode cX7_edge 25 = .ok (.ifCond .ne 8, 3) := by decide +kernel
theorem dX7_edge_28 : decode cX7_edge 28 = .ok (.iload_n 3, 1) := by decide +kernel
theorem dX7_edge_29 : decode cX7_edge 29 = .ok (.iconst (-1), 1) := by decide +kernel
theorem dX7_edge_30 : decode cX7_edge 30 = .ok (.if_icmp .ne 6, 3) := by decide +kernel
theorem dX7_edge_33 : decode cX7_edge 33 = .ok (.iload 4, 2) := by decide +kernel
theorem dX7_edge_35 : decode cX7_edge 35 = .ok (.istore_n 3, 1) := by decide +kernel
theorem dX7_edge_36 : decode cX7_edge 36 = .ok (.iinc 4 1, 3) := by decide +kernel
theorem dX7_edge_39 : decode cX7_edge 39 = .ok (.goto (-34), 3) := by decide +kernel
theorem dX7_edge_42 : decode cX7_edge 42 = .ok (.iload_n 3, 1) := by decide +kernel
theorem dX7_edge_43 : decode cX7_edge 43 = .ok (.ireturn, 1) := by decide +kernel
theorem dX7_daysOf_0 : decode cX7_daysOf 0 = .ok (.iconst 0, 1) := by decide +kernel
theorem dX7_daysOf_1 : decode cX7_daysOf 1 = .ok (.istore_n 2, 1) := by decide +kernel
theorem dX7_daysOf_2 : decode cX7_daysOf 2 = .ok (.iconst 0, 1) := by decide +kernel
theorem dX7_daysOf_3 : decode cX7_daysOf 3 = .ok (.istore_n 3, 1) := by decide +kernel
theorem dX7_daysOf_4 : decode cX7_daysOf 4 = .ok (.iload_n 3, 1) := by decide +kernel
theorem dX7_daysOf_5 : decode cX7_daysOf 5 = .ok (.aload_n 0, 1) := by decide +kernel
theorem dX7_daysOf_6 : decode cX7_daysOf 6 = .ok (.getfield 91, 3) := by decide +kernel
theorem dX7_daysOf_9 : decode cX7_daysOf 9 = .ok (.if_icmp .ge 26, 3) := by decide +kernel
theorem dX7_daysOf_12 : decode cX7_daysOf 12 = .ok (.iload_n 2, 1) := by decide +kernel
theorem dX7_daysOf_13 : decode cX7_daysOf 13 = .ok (.aload_n 0, 1) := by decide +kernel
theorem dX7_daysOf_14 : decode cX7_daysOf 14 = .ok (.iload_n 1, 1) := by decide +kernel
theorem dX7_daysOf_15 : decode cX7_daysOf 15 = .ok (.iload_n 3, 1) := by decide +kernel
theorem dX7_daysOf_16 : decode cX7_daysOf 16 = .ok (.invokevirtual 164, 3) := by decide +kernel
theorem dX7_daysOf_19 : decode cX7_daysOf 19 = .ok (.ifCond .eq 7, 3) := by decide +kernel
theorem dX7_daysOf_22 : decode cX7_daysOf 22 = .ok (.iconst 1, 1) := by decide +kernel
theorem dX7_daysOf_23 : decode cX7_daysOf 23 = .ok (.goto 4, 3) := by decide +kernel
theorem dX7_daysOf_26 : decode cX7_daysOf 26 = .ok (.iconst 0, 1) := by decide +kernel
theorem dX7_daysOf_27 : decode cX7_daysOf 27 = .ok (.iadd, 1) := by decide +kernel
theorem dX7_daysOf_28 : decode cX7_daysOf 28 = .ok (.istore_n 2, 1) := by decide +kernel
theorem dX7_daysOf_29 : decode cX7_daysOf 29 = .ok (.iinc 3 1, 3) := by decide +kernel
theorem dX7_daysOf_32 : decode cX7_daysOf 32 = .ok (.goto (-28), 3) := by decide +kernel
theorem dX7_daysOf_35 : decode cX7_daysOf 35 = .ok (.iload_n 2, 1) := by decide +kernel
theorem dX7_daysOf_36 : decode cX7_daysOf 36 = .ok (.ireturn, 1) := by decide +kernel
theorem dX7_paid_0 : decode cX7_paid 0 = .ok (.iconst 0, 1) := by decide +kernel
theorem dX7_paid_1 : decode cX7_paid 1 = .ok (.istore_n 2, 1) := by decide +kernel
theorem dX7_paid_2 : decode cX7_paid 2 = .ok (.iconst 0, 1) := by decide +kernel
theorem dX7_paid_3 : decode cX7_paid 3 = .ok (.istore_n 3, 1) := by decide +kernel
theorem dX7_paid_4 : decode cX7_paid 4 = .ok (.aload_n 0, 1) := by decide +kernel
theorem dX7_paid_5 : decode cX7_paid 5 = .ok (.iload_n 1, 1) := by decide +kernel
theorem dX7_paid_6 : decode cX7_paid 6 = .ok (.iconst 0, 1) := by decide +kernel
theorem dX7_paid_7 : decode cX7_paid 7 = .ok (.invokevirtual 167, 3) := by decide +kernel
theorem dX7_paid_10 : decode cX7_paid 10 = .ok (.istore 4, 2) := by decide +kernel
theorem dX7_paid_12 : decode cX7_paid 12 = .ok (.iload 4, 2) := by decide +kernel
theorem dX7_paid_14 : decode cX7_paid 14 = .ok (.istore 5, 2) := by decide +kernel
theorem dX7_paid_16 : decode cX7_paid 16 = .ok (.iload 5, 2) := by decide +kernel
theorem dX7_paid_18 : decode cX7_paid 18 = .ok (.iconst (-1), 1) := by decide +kernel
theorem dX7_paid_19 : decode cX7_paid 19 = .ok (.if_icmp .eq 67, 3) := by decide +kernel
theorem dX7_paid_22 : decode cX7_paid 22 = .ok (.iload 5, 2) := by decide +kernel
theorem dX7_paid_24 : decode cX7_paid 24 = .ok (.aload_n 0, 1) := by decide +kernel
theorem dX7_paid_25 : decode cX7_paid 25 = .ok (.iload_n 1, 1) := by decide +kernel
theorem dX7_paid_26 : decode cX7_paid 26 = .ok (.iconst 1, 1) := by decide +kernel
theorem dX7_paid_27 : decode cX7_paid 27 = .ok (.invokevirtual 167, 3) := by decide +kernel
theorem dX7_paid_30 : decode cX7_paid 30 = .ok (.if_icmp .gt 56, 3) := by decide +kernel
theorem dX7_paid_33 : decode cX7_paid 33 = .ok (.aload_n 0, 1) := by decide +kernel
theorem dX7_paid_34 : decode cX7_paid 34 = .ok (.iload_n 1, 1) := by decide +kernel
theorem dX7_paid_35 : decode cX7_paid 35 = .ok (.iload 5, 2) := by decide +kernel
theorem dX7_paid_37 : decode cX7_paid 37 = .ok (.invokevirtual 164, 3) := by decide +kernel
theorem dX7_paid_40 : decode cX7_paid 40 = .ok (.ifCond .ne 9, 3) := by decide +kernel
theorem dX7_paid_43 : decode cX7_paid 43 = .ok (.iinc 3 1, 3) := by decide +kernel
theorem dX7_paid_46 : decode cX7_paid 46 = .ok (.goto 34, 3) := by decide +kernel
theorem dX7_paid_49 : decode cX7_paid 49 = .ok (.iload_n 2, 1) := by decide +kernel
theorem dX7_paid_50 : decode cX7_paid 50 = .ok (.iconst 1, 1) := by decide +kernel
theorem dX7_paid_51 : decode cX7_paid 51 = .ok (.aload_n 0, 1) := by decide +kernel
theorem dX7_paid_52 : decode cX7_paid 52 = .ok (.getfield 35, 3) := by decide +kernel
theorem dX7_paid_55 : decode cX7_paid 55 = .ok (.iload_n 1, 1) := by decide +kernel
theorem dX7_paid_56 : decode cX7_paid 56 = .ok (.iaload, 1) := by decide +kernel
theorem dX7_paid_57 : decode cX7_paid 57 = .ok (.ifCond .le 17, 3) := by decide +kernel
theorem dX7_paid_60 : decode cX7_paid 60 = .ok (.iload_n 3, 1) := by decide +kernel
theorem dX7_paid_61 : decode cX7_paid 61 = .ok (.aload_n 0, 1) := by decide +kernel
theorem dX7_paid_62 : decode cX7_paid 62 = .ok (.getfield 35, 3) := by decide +kernel
theorem dX7_paid_65 : decode cX7_paid 65 = .ok (.iload_n 1, 1) := by decide +kernel
theorem dX7_paid_66 : decode cX7_paid 66 = .ok (.iaload, 1) := by decide +kernel
theorem dX7_paid_67 : decode cX7_paid 67 = .ok (.if_icmp .lt 7, 3) := by decide +kernel
theorem dX7_paid_70 : decode cX7_paid 70 = .ok (.iconst 0, 1) := by decide +kernel
theorem dX7_paid_71 : decode cX7_paid 71 = .ok (.goto 4, 3) := by decide +kernel
theorem dX7_paid_74 : decode cX7_paid 74 = .ok (.iload_n 3, 1) := by decide +kernel
theorem dX7_paid_75 : decode cX7_paid 75 = .ok (.iadd, 1) := by decide +kernel
theorem dX7_paid_76 : decode cX7_paid 76 = .ok (.iadd, 1) := by decide +kernel
theorem dX7_paid_77 : decode cX7_paid 77 = .ok (.istore_n 2, 1) := by decide +kernel
theorem dX7_paid_78 : decode cX7_paid 78 = .ok (.iconst 0, 1) := by decide +kernel
theorem dX7_paid_79 : decode cX7_paid 79 = .ok (.istore_n 3, 1) := by decide +kernel
theorem dX7_paid_80 : decode cX7_paid 80 = .ok (.iinc 5 1, 3) := by decide +kernel
theorem dX7_paid_83 : decode cX7_paid 83 = .ok (.goto (-67), 3) := by decide +kernel
theorem dX7_paid_86 : decode cX7_paid 86 = .ok (.iload_n 2, 1) := by decide +kernel
theorem dX7_paid_87 : decode cX7_paid 87 = .ok (.ireturn, 1) := by decide +kernel
theorem dX7_payAll_0 : decode cX7_payAll 0 = .ok (.iconst 0, 1) := by decide +kernel
theorem dX7_payAll_1 : decode cX7_payAll 1 = .ok (.istore_n 1, 1) := by decide +kernel
theorem dX7_payAll_2 : decode cX7_payAll 2 = .ok (.iconst 0, 1) := by decide +kernel
theorem dX7_payAll_3 : decode cX7_payAll 3 = .ok (.istore_n 2, 1) := by decide +kernel
theorem dX7_payAll_4 : decode cX7_payAll 4 = .ok (.iload_n 2, 1) := by decide +kernel
theorem dX7_payAll_5 : decode cX7_payAll 5 = .ok (.bipush 8, 2) := by decide +kernel
theorem dX7_payAll_7 : decode cX7_payAll 7 = .ok (.if_icmp .ge 24, 3) := by decide +kernel
theorem dX7_payAll_10 : decode cX7_payAll 10 = .ok (.iload_n 1, 1) := by decide +kernel
theorem dX7_payAll_11 : decode cX7_payAll 11 = .ok (.aload_n 0, 1) := by decide +kernel
theorem dX7_payAll_12 : decode cX7_payAll 12 = .ok (.getfield 32, 3) := by decide +kernel
theorem dX7_payAll_15 : decode cX7_payAll 15 = .ok (.iload_n 2, 1) := by decide +kernel
theorem dX7_payAll_16 : decode cX7_payAll 16 = .ok (.iaload, 1) := by decide +kernel
theorem dX7_payAll_17 : decode cX7_payAll 17 = .ok (.aload_n 0, 1) := by decide +kernel
theorem dX7_payAll_18 : decode cX7_payAll 18 = .ok (.iload_n 2, 1) := by decide +kernel
theorem dX7_payAll_19 : decode cX7_payAll 19 = .ok (.invokevirtual 171, 3) := by decide +kernel
theorem dX7_payAll_22 : decode cX7_payAll 22 = .ok (.imul, 1) := by decide +kernel
theorem dX7_payAll_23 : decode cX7_payAll 23 = .ok (.iadd, 1) := by decide +kernel
theorem dX7_payAll_24 : decode cX7_payAll 24 = .ok (.istore_n 1, 1) := by decide +kernel
theorem dX7_payAll_25 : decode cX7_payAll 25 = .ok (.iinc 2 1, 3) := by decide +kernel
theorem dX7_payAll_28 : decode cX7_payAll 28 = .ok (.goto (-24), 3) := by decide +kernel
theorem dX7_payAll_31 : decode cX7_payAll 31 = .ok (.iload_n 1, 1) := by decide +kernel
theorem dX7_payAll_32 : decode cX7_payAll 32 = .ok (.ireturn, 1) := by decide +kernel
theorem dX7_uses_0 : decode cX7_uses 0 = .ok (.iconst 0, 1) := by decide +kernel
theorem dX7_uses_1 : decode cX7_uses 1 = .ok (.istore_n 3, 1) := by decide +kernel
theorem dX7_uses_2 : decode cX7_uses 2 = .ok (.iload_n 3, 1) := by decide +kernel
theorem dX7_uses_3 : decode cX7_uses 3 = .ok (.aload_n 0, 1) := by decide +kernel
theorem dX7_uses_4 : decode cX7_uses 4 = .ok (.getfield 50, 3) := by decide +kernel
theorem dX7_uses_7 : decode cX7_uses 7 = .ok (.iload_n 1, 1) := by decide +kernel
theorem dX7_uses_8 : decode cX7_uses 8 = .ok (.iaload, 1) := by decide +kernel
theorem dX7_uses_9 : decode cX7_uses 9 = .ok (.if_icmp .ge 30, 3) := by decide +kernel
theorem dX7_uses_12 : decode cX7_uses 12 = .ok (.aload_n 0, 1) := by decide +kernel
theorem dX7_uses_13 : decode cX7_uses 13 = .ok (.getfield 13, 3) := by decide +kernel
theorem dX7_uses_16 : decode cX7_uses 16 = .ok (.aload_n 0, 1) := by decide +kernel
theorem dX7_uses_17 : decode cX7_uses 17 = .ok (.getfield 53, 3) := by decide +kernel
theorem dX7_uses_20 : decode cX7_uses 20 = .ok (.iconst 5, 1) := by decide +kernel
theorem dX7_uses_21 : decode cX7_uses 21 = .ok (.iload_n 1, 1) := by decide +kernel
theorem dX7_uses_22 : decode cX7_uses 22 = .ok (.imul, 1) := by decide +kernel
theorem dX7_uses_23 : decode cX7_uses 23 = .ok (.iload_n 3, 1) := by decide +kernel
theorem dX7_uses_24 : decode cX7_uses 24 = .ok (.iadd, 1) := by decide +kernel
theorem dX7_uses_25 : decode cX7_uses 25 = .ok (.iaload, 1) := by decide +kernel
theorem dX7_uses_26 : decode cX7_uses 26 = .ok (.iaload, 1) := by decide +kernel
theorem dX7_uses_27 : decode cX7_uses 27 = .ok (.iload_n 2, 1) := by decide +kernel
theorem dX7_uses_28 : decode cX7_uses 28 = .ok (.if_icmp .ne 5, 3) := by decide +kernel
theorem dX7_uses_31 : decode cX7_uses 31 = .ok (.iconst 1, 1) := by decide +kernel
theorem dX7_uses_32 : decode cX7_uses 32 = .ok (.ireturn, 1) := by decide +kernel
theorem dX7_uses_33 : decode cX7_uses 33 = .ok (.iinc 3 1, 3) := by decide +kernel
theorem dX7_uses_36 : decode cX7_uses 36 = .ok (.goto (-34), 3) := by decide +kernel
theorem dX7_uses_39 : decode cX7_uses 39 = .ok (.iconst 0, 1) := by decide +kernel
theorem dX7_uses_40 : decode cX7_uses 40 = .ok (.ireturn, 1) := by decide +kernel
theorem dX7_rentAll_0 : decode cX7_rentAll 0 = .ok (.iconst 0, 1) := by decide +kernel
theorem dX7_rentAll_1 : decode cX7_rentAll 1 = .ok (.istore_n 1, 1) := by decide +kernel
theorem dX7_rentAll_2 : decode cX7_rentAll 2 = .ok (.iconst 0, 1) := by decide +kernel
theorem dX7_rentAll_3 : decode cX7_rentAll 3 = .ok (.istore_n 2, 1) := by decide +kernel
theorem dX7_rentAll_4 : decode cX7_rentAll 4 = .ok (.iload_n 2, 1) := by decide +kernel
theorem dX7_rentAll_5 : decode cX7_rentAll 5 = .ok (.aload_n 0, 1) := by decide +kernel
theorem dX7_rentAll_6 : decode cX7_rentAll 6 = .ok (.getfield 91, 3) := by decide +kernel
theorem dX7_rentAll_9 : decode cX7_rentAll 9 = .ok (.if_icmp .ge 45, 3) := by decide +kernel
theorem dX7_rentAll_12 : decode cX7_rentAll 12 = .ok (.iconst 0, 1) := by decide +kernel
theorem dX7_rentAll_13 : decode cX7_rentAll 13 = .ok (.istore_n 3, 1) := by decide +kernel
theorem dX7_rentAll_14 : decode cX7_rentAll 14 = .ok (.iload_n 3, 1) := by decide +kernel
theorem dX7_rentAll_15 : decode cX7_rentAll 15 = .ok (.bipush 8, 2) := by decide +kernel
theorem dX7_rentAll_17 : decode cX7_rentAll 17 = .ok (.if_icmp .ge 31, 3) := by decide +kernel
theorem dX7_rentAll_20 : decode cX7_rentAll 20 = .ok (.iload_n 1, 1) := by decide +kernel
theorem dX7_rentAll_21 : decode cX7_rentAll 21 = .ok (.aload_n 0, 1) := by decide +kernel
theorem dX7_rentAll_22 : decode cX7_rentAll 22 = .ok (.iload_n 2, 1) := by decide +kernel
theorem dX7_rentAll_23 : decode cX7_rentAll 23 = .ok (.iload_n 3, 1) := by decide +kernel
theorem dX7_rentAll_24 : decode cX7_rentAll 24 = .ok (.invokevirtual 174, 3) := by decide +kernel
theorem dX7_rentAll_27 : decode cX7_rentAll 27 = .ok (.ifCond .eq 12, 3) := by decide +kernel
theorem dX7_rentAll_30 : decode cX7_rentAll 30 = .ok (.aload_n 0, 1) := by decide +kernel
theorem dX7_rentAll_31 : decode cX7_rentAll 31 = .ok (.getfield 38, 3) := by decide +kernel
theorem dX7_rentAll_34 : decode cX7_rentAll 34 = .ok (.iload_n 3, 1) := by decide +kernel
theorem dX7_rentAll_35 : decode cX7_rentAll 35 = .ok (.iaload, 1) := by decide +kernel
theorem dX7_rentAll_36 : decode cX7_rentAll 36 = .ok (.goto 4, 3) := by decide +kernel
theorem dX7_rentAll_39 : decode cX7_rentAll 39 = .ok (.iconst 0, 1) := by decide +kernel
theorem dX7_rentAll_40 : decode cX7_rentAll 40 = .ok (.iadd, 1) := by decide +kernel
theorem dX7_rentAll_41 : decode cX7_rentAll 41 = .ok (.istore_n 1, 1) := by decide +kernel
theorem dX7_rentAll_42 : decode cX7_rentAll 42 = .ok (.iinc 3 1, 3) := by decide +kernel
theorem dX7_rentAll_45 : decode cX7_rentAll 45 = .ok (.goto (-31), 3) := by decide +kernel
theorem dX7_rentAll_48 : decode cX7_rentAll 48 = .ok (.iinc 2 1, 3) := by decide +kernel
theorem dX7_rentAll_51 : decode cX7_rentAll 51 = .ok (.goto (-47), 3) := by decide +kernel
theorem dX7_rentAll_54 : decode cX7_rentAll 54 = .ok (.iload_n 1, 1) := by decide +kernel
theorem dX7_rentAll_55 : decode cX7_rentAll 55 = .ok (.ireturn, 1) := by decide +kernel
theorem dX7_over_0 : decode cX7_over 0 = .ok (.aload_n 0, 1) := by decide +kernel
theorem dX7_over_1 : decode cX7_over 1 = .ok (.iload_n 1, 1) := by decide +kernel
theorem dX7_over_2 : decode cX7_over 2 = .ok (.invokevirtual 117, 3) := by decide +kernel
theorem dX7_over_5 : decode cX7_over 5 = .ok (.sipush 480, 3) := by decide +kernel
theorem dX7_over_8 : decode cX7_over 8 = .ok (.if_icmp .gt 7, 3) := by decide +kernel
theorem dX7_over_11 : decode cX7_over 11 = .ok (.iconst 0, 1) := by decide +kernel
theorem dX7_over_12 : decode cX7_over 12 = .ok (.goto 18, 3) := by decide +kernel
theorem dX7_over_15 : decode cX7_over 15 = .ok (.aload_n 0, 1) := by decide +kernel
theorem dX7_over_16 : decode cX7_over 16 = .ok (.iload_n 1, 1) := by decide +kernel
theorem dX7_over_17 : decode cX7_over 17 = .ok (.invokevirtual 117, 3) := by decide +kernel
theorem dX7_over_20 : decode cX7_over 20 = .ok (.sipush 480, 3) := by decide +kernel
theorem dX7_over_23 : decode cX7_over 23 = .ok (.isub, 1) := by decide +kernel
theorem dX7_over_24 : decode cX7_over 24 = .ok (.bipush 29, 2) := by decide +kernel
theorem dX7_over_26 : decode cX7_over 26 = .ok (.iadd, 1) := by decide +kernel
theorem dX7_over_27 : decode cX7_over 27 = .ok (.bipush 30, 2) := by decide +kernel
theorem dX7_over_29 : decode cX7_over 29 = .ok (.idiv, 1) := by decide +kernel
theorem dX7_over_30 : decode cX7_over 30 = .ok (.ireturn, 1) := by decide +kernel
theorem dX7_overAll_0 : decode cX7_overAll 0 = .ok (.iconst 0, 1) := by decide +kernel
theorem dX7_overAll_1 : decode cX7_overAll 1 = .ok (.istore_n 1, 1) := by decide +kernel
theorem dX7_overAll_2 : decode cX7_overAll 2 = .ok (.iconst 0, 1) := by decide +kernel
theorem dX7_overAll_3 : decode cX7_overAll 3 = .ok (.istore_n 2, 1) := by decide +kernel
theorem dX7_overAll_4 : decode cX7_overAll 4 = .ok (.iload_n 2, 1) := by decide +kernel
theorem dX7_overAll_5 : decode cX7_overAll 5 = .ok (.aload_n 0, 1) := by decide +kernel
theorem dX7_overAll_6 : decode cX7_overAll 6 = .ok (.getfield 91, 3) := by decide +kernel
theorem dX7_overAll_9 : decode cX7_overAll 9 = .ok (.if_icmp .ge 20, 3) := by decide +kernel
theorem dX7_overAll_12 : decode cX7_overAll 12 = .ok (.iload_n 1, 1) := by decide +kernel
theorem dX7_overAll_13 : decode cX7_overAll 13 = .ok (.bipush 50, 2) := by decide +kernel
theorem dX7_overAll_15 : decode cX7_overAll 15 = .ok (.aload_n 0, 1) := by decide +kernel
theorem dX7_overAll_16 : decode cX7_overAll 16 = .ok (.iload_n 2, 1) := by decide +kernel
theorem dX7_overAll_17 : decode cX7_overAll 17 = .ok (.invokevirtual 177, 3) := by decide +kernel
theorem dX7_overAll_20 : decode cX7_overAll 20 = .ok (.imul, 1) := by decide +kernel
theorem dX7_overAll_21 : decode cX7_overAll 21 = .ok (.iadd, 1) := by decide +kernel
theorem dX7_overAll_22 : decode cX7_overAll 22 = .ok (.istore_n 1, 1) := by decide +kernel
theorem dX7_overAll_23 : decode cX7_overAll 23 = .ok (.iinc 2 1, 3) := by decide +kernel
theorem dX7_overAll_26 : decode cX7_overAll 26 = .ok (.goto (-22), 3) := by decide +kernel
theorem dX7_overAll_29 : decode cX7_overAll 29 = .ok (.iload_n 1, 1) := by decide +kernel
theorem dX7_overAll_30 : decode cX7_overAll 30 = .ok (.ireturn, 1) := by decide +kernel
theorem dX7_costAll_0 : decode cX7_costAll 0 = .ok (.aload_n 0, 1) := by decide +kernel
theorem dX7_costAll_1 : decode cX7_costAll 1 = .ok (.invokevirtual 180, 3) := by decide +kernel
theorem dX7_costAll_4 : decode cX7_costAll 4 = .ok (.aload_n 0, 1) := by decide +kernel
theorem dX7_costAll_5 : decode cX7_costAll 5 = .ok (.invokevirtual 183, 3) := by decide +kernel
theorem dX7_costAll_8 : decode cX7_costAll 8 = .ok (.iadd, 1) := by decide +kernel
theorem dX7_costAll_9 : decode cX7_costAll 9 = .ok (.aload_n 0, 1) := by decide +kernel
theorem dX7_costAll_10 : decode cX7_costAll 10 = .ok (.invokevirtual 186, 3) := by decide +kernel
theorem dX7_costAll_13 : decode cX7_costAll 13 = .ok (.iadd, 1) := by decide +kernel
theorem dX7_costAll_14 : decode cX7_costAll 14 = .ok (.ireturn, 1) := by decide +kernel
theorem dX7_cost_0 : decode cX7_cost 0 = .ok (.iload_n 1, 1) := by decide +kernel
theorem dX7_cost_1 : decode cX7_cost 1 = .ok (.tableswitch 51 0 3 #[31, 36, 41, 46], 31) := by decide +kernel
theorem dX7_cost_32 : decode cX7_cost 32 = .ok (.aload_n 0, 1) := by decide +kernel
theorem dX7_cost_33 : decode cX7_cost 33 = .ok (.invokevirtual 160, 3) := by decide +kernel
theorem dX7_cost_36 : decode cX7_cost 36 = .ok (.ireturn, 1) := by decide +kernel
theorem dX7_cost_37 : decode cX7_cost 37 = .ok (.aload_n 0, 1) := by decide +kernel
theorem dX7_cost_38 : decode cX7_cost 38 = .ok (.invokevirtual 180, 3) := by decide +kernel
theorem dX7_cost_41 : decode cX7_cost 41 = .ok (.ireturn, 1) := by decide +kernel
theorem dX7_cost_42 : decode cX7_cost 42 = .ok (.aload_n 0, 1) := by decide +kernel
theorem dX7_cost_43 : decode cX7_cost 43 = .ok (.invokevirtual 183, 3) := by decide +kernel
theorem dX7_cost_46 : decode cX7_cost 46 = .ok (.ireturn, 1) := by decide +kernel
theorem dX7_cost_47 : decode cX7_cost 47 = .ok (.aload_n 0, 1) := by decide +kernel
theorem dX7_cost_48 : decode cX7_cost 48 = .ok (.invokevirtual 186, 3) := by decide +kernel
theorem dX7_cost_51 : decode cX7_cost 51 = .ok (.ireturn, 1) := by decide +kernel
theorem dX7_cost_52 : decode cX7_cost 52 = .ok (.iconst (-1), 1) := by decide +kernel
theorem dX7_cost_53 : decode cX7_cost 53 = .ok (.ireturn, 1) := by decide +kernel
theorem dX7_below_0 : decode cX7_below 0 = .ok (.iconst 0, 1) := by decide +kernel
theorem dX7_below_1 : decode cX7_below 1 = .ok (.istore_n 1, 1) := by decide +kernel
theorem dX7_below_2 : decode cX7_below 2 = .ok (.iconst 0, 1) := by decide +kernel
theorem dX7_below_3 : decode cX7_below 3 = .ok (.istore_n 2, 1) := by decide +kernel
theorem dX7_below_4 : decode cX7_below 4 = .ok (.iload_n 2, 1) := by decide +kernel
theorem dX7_below_5 : decode cX7_below 5 = .ok (.aload_n 0, 1) := by decide +kernel
theorem dX7_below_6 : decode cX7_below 6 = .ok (.getfield 91, 3) := by decide +kernel
theorem dX7_below_9 : decode cX7_below 9 = .ok (.if_icmp .ge 30, 3) := by decide +kernel
theorem dX7_below_12 : decode cX7_below 12 = .ok (.aload_n 0, 1) := by decide +kernel
theorem dX7_below_13 : decode cX7_below 13 = .ok (.getfield 44, 3) := by decide +kernel
theorem dX7_below_16 : decode cX7_below 16 = .ok (.iload_n 2, 1) := by decide +kernel
theorem dX7_below_17 : decode cX7_below 17 = .ok (.iaload, 1) := by decide +kernel
theorem dX7_below_18 : decode cX7_below 18 = .ok (.iload_n 1, 1) := by decide +kernel
theorem dX7_below_19 : decode cX7_below 19 = .ok (.if_icmp .le 12, 3) := by decide +kernel
theorem dX7_below_22 : decode cX7_below 22 = .ok (.aload_n 0, 1) := by decide +kernel
theorem dX7_below_23 : decode cX7_below 23 = .ok (.getfield 44, 3) := by decide +kernel
theorem dX7_below_26 : decode cX7_below 26 = .ok (.iload_n 2, 1) := by decide +kernel
theorem dX7_below_27 : decode cX7_below 27 = .ok (.iaload, 1) := by decide +kernel
theorem dX7_below_28 : decode cX7_below 28 = .ok (.goto 4, 3) := by decide +kernel
theorem dX7_below_31 : decode cX7_below 31 = .ok (.iload_n 1, 1) := by decide +kernel
theorem dX7_below_32 : decode cX7_below 32 = .ok (.istore_n 1, 1) := by decide +kernel
theorem dX7_below_33 : decode cX7_below 33 = .ok (.iinc 2 1, 3) := by decide +kernel
theorem dX7_below_36 : decode cX7_below 36 = .ok (.goto (-32), 3) := by decide +kernel
theorem dX7_below_39 : decode cX7_below 39 = .ok (.iconst 0, 1) := by decide +kernel
theorem dX7_below_40 : decode cX7_below 40 = .ok (.istore_n 2, 1) := by decide +kernel
theorem dX7_below_41 : decode cX7_below 41 = .ok (.iconst 0, 1) := by decide +kernel
theorem dX7_below_42 : decode cX7_below 42 = .ok (.istore_n 3, 1) := by decide +kernel
theorem dX7_below_43 : decode cX7_below 43 = .ok (.iload_n 3, 1) := by decide +kernel
theorem dX7_below_44 : decode cX7_below 44 = .ok (.bipush 8, 2) := by decide +kernel
theorem dX7_below_46 : decode cX7_below 46 = .ok (.if_icmp .ge 139, 3) := by decide +kernel
theorem dX7_below_49 : decode cX7_below 49 = .ok (.iload_n 1, 1) := by decide +kernel
theorem dX7_below_50 : decode cX7_below 50 = .ok (.ifCond .le 135, 3) := by decide +kernel
theorem dX7_below_53 : decode cX7_below 53 = .ok (.iconst 0, 1) := by decide +kernel
theorem dX7_below_54 : decode cX7_below 54 = .ok (.istore 4, 2) := by decide +kernel
theorem dX7_below_56 : decode cX7_below 56 = .ok (.iconst 0, 1) := by decide +kernel
theorem dX7_below_57 : decode cX7_below 57 = .ok (.istore 5, 2) := by decide +kernel
theorem dX7_below_59 : decode cX7_below 59 = .ok (.iconst 0, 1) := by decide +kernel
theorem dX7_below_60 : decode cX7_below 60 = .ok (.istore 6, 2) := by decide +kernel
theorem dX7_below_62 : decode cX7_below 62 = .ok (.iload 6, 2) := by decide +kernel
theorem dX7_below_64 : decode cX7_below 64 = .ok (.aload_n 0, 1) := by decide +kernel
theorem dX7_below_65 : decode cX7_below 65 = .ok (.getfield 84, 3) := by decide +kernel
theorem dX7_below_68 : decode cX7_below 68 = .ok (.if_icmp .ge 77, 3) := by decide +kernel
theorem dX7_below_71 : decode cX7_below 71 = .ok (.aload_n 0, 1) := by decide +kernel
theorem dX7_below_72 : decode cX7_below 72 = .ok (.getfield 29, 3) := by decide +kernel
theorem dX7_below_75 : decode cX7_below 75 = .ok (.iload 6, 2) := by decide +kernel
theorem dX7_below_77 : decode cX7_below 77 = .ok (.iaload, 1) := by decide +kernel
theorem dX7_below_78 : decode cX7_below 78 = .ok (.iconst (-1), 1) := by decide +kernel
theorem dX7_below_79 : decode cX7_below 79 = .ok (.if_icmp .ne 6, 3) := by decide +kernel
theorem dX7_below_82 : decode cX7_below 82 = .ok (.goto 57, 3) := by decide +kernel
theorem dX7_below_85 : decode cX7_below 85 = .ok (.iload 4, 2) := by decide +kernel
theorem dX7_below_87 : decode cX7_below 87 = .ok (.aload_n 0, 1) := by decide +kernel
theorem dX7_below_88 : decode cX7_below 88 = .ok (.getfield 23, 3) := by decide +kernel
theorem dX7_below_91 : decode cX7_below 91 = .ok (.iload 6, 2) := by decide +kernel
theorem dX7_below_93 : decode cX7_below 93 = .ok (.iaload, 1) := by decide +kernel
theorem dX7_below_94 : decode cX7_below 94 = .ok (.iload_n 3, 1) := by decide +kernel
theorem dX7_below_95 : decode cX7_below 95 = .ok (.ishr, 1) := by decide +kernel
theorem dX7_below_96 : decode cX7_below 96 = .ok (.iconst 1, 1) := by decide +kernel
theorem dX7_below_97 : decode cX7_below 97 = .ok (.iand, 1) := by decide +kernel
theorem dX7_below_98 : decode cX7_below 98 = .ok (.iconst 1, 1) := by decide +kernel
theorem dX7_below_99 : decode cX7_below 99 = .ok (.if_icmp .ne 13, 3) := by decide +kernel
theorem dX7_below_102 : decode cX7_below 102 = .ok (.aload_n 0, 1) := by decide +kernel
theorem dX7_below_103 : decode cX7_below 103 = .ok (.getfield 7, 3) := by decide +kernel
theorem dX7_below_106 : decode cX7_below 106 = .ok (.iload 6, 2) := by decide +kernel
theorem dX7_below_108 : decode cX7_below 108 = .ok (.iaload, 1) := by decide +kernel
theorem dX7_below_109 : decode cX7_below 109 = .ok (.goto 4, 3) := by decide +kernel
theorem dX7_below_112 : decode cX7_below 112 = .ok (.iconst 0, 1) := by decide +kernel
theorem dX7_below_113 : decode cX7_below 113 = .ok (.iadd, 1) := by decide +kernel
theorem dX7_below_114 : decode cX7_below 114 = .ok (.istore 4, 2) := by decide +kernel
theorem dX7_below_116 : decode cX7_below 116 = .ok (.iload 5, 2) := by decide +kernel
theorem dX7_below_118 : decode cX7_below 118 = .ok (.ifCond .ne 14, 3) := by decide +kernel
theorem dX7_below_121 : decode cX7_below 121 = .ok (.aload_n 0, 1) := by decide +kernel
theorem dX7_below_122 : decode cX7_below 122 = .ok (.getfield 13, 3) := by decide +kernel
theorem dX7_below_125 : decode cX7_below 125 = .ok (.iload 6, 2) := by decide +kernel
theorem dX7_below_127 : decode cX7_below 127 = .ok (.iaload, 1) := by decide +kernel
theorem dX7_below_128 : decode cX7_below 128 = .ok (.iload_n 3, 1) := by decide +kernel
theorem dX7_below_129 : decode cX7_below 129 = .ok (.if_icmp .ne 7, 3) := by decide +kernel
theorem dX7_below_132 : decode cX7_below 132 = .ok (.iconst 1, 1) := by decide +kernel
theorem dX7_below_133 : decode cX7_below 133 = .ok (.goto 4, 3) := by decide +kernel
theorem dX7_below_136 : decode cX7_below 136 = .ok (.iconst 0, 1) := by decide +kernel
theorem dX7_below_137 : decode cX7_below 137 = .ok (.istore 5, 2) := by decide +kernel
theorem dX7_below_139 : decode cX7_below 139 = .ok (.iinc 6 1, 3) := by decide +kernel
theorem dX7_below_142 : decode cX7_below 142 = .ok (.goto (-80), 3) := by decide +kernel
theorem dX7_below_145 : decode cX7_below 145 = .ok (.iload_n 2, 1) := by decide +kernel
theorem dX7_below_146 : decode cX7_below 146 = .ok (.aload_n 0, 1) := by decide +kernel
theorem dX7_below_147 : decode cX7_below 147 = .ok (.getfield 32, 3) := by decide +kernel
theorem dX7_below_150 : decode cX7_below 150 = .ok (.iload_n 3, 1) := by decide +kernel
theorem dX7_below_151 : decode cX7_below 151 = .ok (.iaload, 1) := by decide +kernel
theorem dX7_below_152 : decode cX7_below 152 = .ok (.iload 4, 2) := by decide +kernel
theorem dX7_below_154 : decode cX7_below 154 = .ok (.iload_n 1, 1) := by decide +kernel
theorem dX7_below_155 : decode cX7_below 155 = .ok (.iadd, 1) := by decide +kernel
theorem dX7_below_156 : decode cX7_below 156 = .ok (.iconst 1, 1) := by decide +kernel
theorem dX7_below_157 : decode cX7_below 157 = .ok (.isub, 1) := by decide +kernel
theorem dX7_below_158 : decode cX7_below 158 = .ok (.iload_n 1, 1) := by decide +kernel
theorem dX7_below_159 : decode cX7_below 159 = .ok (.idiv, 1) := by decide +kernel
theorem dX7_below_160 : decode cX7_below 160 = .ok (.imul, 1) := by decide +kernel
theorem dX7_below_161 : decode cX7_below 161 = .ok (.iload 5, 2) := by decide +kernel
theorem dX7_below_163 : decode cX7_below 163 = .ok (.ifCond .eq 12, 3) := by decide +kernel
theorem dX7_below_166 : decode cX7_below 166 = .ok (.aload_n 0, 1) := by decide +kernel
theorem dX7_below_167 : decode cX7_below 167 = .ok (.getfield 38, 3) := by decide +kernel
theorem dX7_below_170 : decode cX7_below 170 = .ok (.iload_n 3, 1) := by decide +kernel
theorem dX7_below_171 : decode cX7_below 171 = .ok (.iaload, 1) := by decide +kernel
theorem dX7_below_172 : decode cX7_below 172 = .ok (.goto 4, 3) := by decide +kernel
theorem dX7_below_175 : decode cX7_below 175 = .ok (.iconst 0, 1) := by decide +kernel
theorem dX7_below_176 : decode cX7_below 176 = .ok (.iadd, 1) := by decide +kernel
theorem dX7_below_177 : decode cX7_below 177 = .ok (.iadd, 1) := by decide +kernel
theorem dX7_below_178 : decode cX7_below 178 = .ok (.istore_n 2, 1) := by decide +kernel
theorem dX7_below_179 : decode cX7_below 179 = .ok (.iinc 3 1, 3) := by decide +kernel
theorem dX7_below_182 : decode cX7_below 182 = .ok (.goto (-139), 3) := by decide +kernel
theorem dX7_below_185 : decode cX7_below 185 = .ok (.iload_n 2, 1) := by decide +kernel
theorem dX7_below_186 : decode cX7_below 186 = .ok (.ireturn, 1) := by decide +kernel
theorem dX7_held_0 : decode cX7_held 0 = .ok (.iload_n 1, 1) := by decide +kernel
theorem dX7_held_1 : decode cX7_held 1 = .ok (.iconst 0, 1) := by decide +kernel
theorem dX7_held_2 : decode cX7_held 2 = .ok (.bipush 7, 2) := by decide +kernel
theorem dX7_held_4 : decode cX7_held 4 = .ok (.invokestatic 87, 3) := by decide +kernel
theorem dX7_held_7 : decode cX7_held 7 = .ok (.ifCond .ne 5, 3) := by decide +kernel
theorem dX7_held_10 : decode cX7_held 10 = .ok (.iconst (-1), 1) := by decide +kernel
theorem dX7_held_11 : decode cX7_held 11 = .ok (.ireturn, 1) := by decide +kernel
theorem dX7_held_12 : decode cX7_held 12 = .ok (.iload_n 2, 1) := by decide +kernel
theorem dX7_held_13 : decode cX7_held 13 = .ok (.tableswitch 57 0 3 #[31, 38, 45, 51], 31) := by decide +kernel
theorem dX7_held_44 : decode cX7_held 44 = .ok (.aload_n 0, 1) := by decide +kernel
theorem dX7_held_45 : decode cX7_held 45 = .ok (.iload_n 1, 1) := by decide +kernel
theorem dX7_held_46 : decode cX7_held 46 = .ok (.iconst 0, 1) := by decide +kernel
theorem dX7_held_47 : decode cX7_held 47 = .ok (.invokevirtual 167, 3) := by decide +kernel
theorem dX7_held_50 : decode cX7_held 50 = .ok (.ireturn, 1) := by decide +kernel
theorem dX7_held_51 : decode cX7_held 51 = .ok (.aload_n 0, 1) := by decide +kernel
theorem dX7_held_52 : decode cX7_held 52 = .ok (.iload_n 1, 1) := by decide +kernel
theorem dX7_held_53 : decode cX7_held 53 = .ok (.iconst 1, 1) := by decide +kernel
theorem dX7_held_54 : decode cX7_held 54 = .ok (.invokevirtual 167, 3) := by decide +kernel
theorem dX7_held_57 : decode cX7_held 57 = .ok (.ireturn, 1) := by decide +kernel
theorem dX7_held_58 : decode cX7_held 58 = .ok (.aload_n 0, 1) := by decide +kernel
theorem dX7_held_59 : decode cX7_held 59 = .ok (.iload_n 1, 1) := by decide +kernel
theorem dX7_held_60 : decode cX7_held 60 = .ok (.invokevirtual 189, 3) := by decide +kernel
theorem dX7_held_63 : decode cX7_held 63 = .ok (.ireturn, 1) := by decide +kernel
theorem dX7_held_64 : decode cX7_held 64 = .ok (.aload_n 0, 1) := by decide +kernel
theorem dX7_held_65 : decode cX7_held 65 = .ok (.iload_n 1, 1) := by decide +kernel
theorem dX7_held_66 : decode cX7_held 66 = .ok (.invokevirtual 171, 3) := by decide +kernel
theorem dX7_held_69 : decode cX7_held 69 = .ok (.ireturn, 1) := by decide +kernel
theorem dX7_held_70 : decode cX7_held 70 = .ok (.iconst (-1), 1) := by decide +kernel
theorem dX7_held_71 : decode cX7_held 71 = .ok (.ireturn, 1) := by decide +kernel
theorem dX7_movesWell_0 : decode cX7_movesWell 0 = .ok (.aload_n 0, 1) := by decide +kernel
theorem dX7_movesWell_1 : decode cX7_movesWell 1 = .ok (.invokevirtual 140, 3) := by decide +kernel
theorem dX7_movesWell_4 : decode cX7_movesWell 4 = .ok (.aload_n 0, 1) := by decide +kernel
theorem dX7_movesWell_5 : decode cX7_movesWell 5 = .ok (.iload_n 1, 1) := by decide +kernel
theorem dX7_movesWell_6 : decode cX7_movesWell 6 = .ok (.invokevirtual 152, 3) := by decide +kernel
theorem dX7_movesWell_9 : decode cX7_movesWell 9 = .ok (.aload_n 0, 1) := by decide +kernel
theorem dX7_movesWell_10 : decode cX7_movesWell 10 = .ok (.iload_n 1, 1) := by decide +kernel
theorem dX7_movesWell_11 : decode cX7_movesWell 11 = .ok (.iload_n 2, 1) := by decide +kernel
theorem dX7_movesWell_12 : decode cX7_movesWell 12 = .ok (.invokevirtual 143, 3) := by decide +kernel
theorem dX7_movesWell_15 : decode cX7_movesWell 15 = .ok (.ifCond .eq 20, 3) := by decide +kernel
theorem dX7_movesWell_18 : decode cX7_movesWell 18 = .ok (.aload_n 0, 1) := by decide +kernel
theorem dX7_movesWell_19 : decode cX7_movesWell 19 = .ok (.invokevirtual 94, 3) := by decide +kernel
theorem dX7_movesWell_22 : decode cX7_movesWell 22 = .ok (.ifCond .eq 13, 3) := by decide +kernel
theorem dX7_movesWell_25 : decode cX7_movesWell 25 = .ok (.aload_n 0, 1) := by decide +kernel
theorem dX7_movesWell_26 : decode cX7_movesWell 26 = .ok (.invokevirtual 160, 3) := by decide +kernel
theorem dX7_movesWell_29 : decode cX7_movesWell 29 = .ok (.iload_n 3, 1) := by decide +kernel
theorem dX7_movesWell_30 : decode cX7_movesWell 30 = .ok (.if_icmp .ge 5, 3) := by decide +kernel
theorem dX7_movesWell_33 : decode cX7_movesWell 33 = .ok (.iconst 1, 1) := by decide +kernel
theorem dX7_movesWell_34 : decode cX7_movesWell 34 = .ok (.ireturn, 1) := by decide +kernel
theorem dX7_movesWell_35 : decode cX7_movesWell 35 = .ok (.aload_n 0, 1) := by decide +kernel
theorem dX7_movesWell_36 : decode cX7_movesWell 36 = .ok (.invokevirtual 146, 3) := by decide +kernel
theorem dX7_movesWell_39 : decode cX7_movesWell 39 = .ok (.iconst 0, 1) := by decide +kernel
theorem dX7_movesWell_40 : decode cX7_movesWell 40 = .ok (.ireturn, 1) := by decide +kernel
theorem dX7_betters_0 : decode cX7_betters 0 = .ok (.aload_n 0, 1) := by decide +kernel
theorem dX7_betters_1 : decode cX7_betters 1 = .ok (.invokevirtual 160, 3) := by decide +kernel
theorem dX7_betters_4 : decode cX7_betters 4 = .ok (.istore_n 1, 1) := by decide +kernel
theorem dX7_betters_5 : decode cX7_betters 5 = .ok (.iconst 0, 1) := by decide +kernel
theorem dX7_betters_6 : decode cX7_betters 6 = .ok (.istore_n 2, 1) := by decide +kernel
theorem dX7_betters_7 : decode cX7_betters 7 = .ok (.iload_n 2, 1) := by decide +kernel
theorem dX7_betters_8 : decode cX7_betters 8 = .ok (.aload_n 0, 1) := by decide +kernel
theorem dX7_betters_9 : decode cX7_betters 9 = .ok (.getfield 84, 3) := by decide +kernel
theorem dX7_betters_12 : decode cX7_betters 12 = .ok (.if_icmp .ge 57, 3) := by decide +kernel
theorem dX7_betters_15 : decode cX7_betters 15 = .ok (.iconst 0, 1) := by decide +kernel
theorem dX7_betters_16 : decode cX7_betters 16 = .ok (.istore_n 3, 1) := by decide +kernel
theorem dX7_betters_17 : decode cX7_betters 17 = .ok (.iload_n 3, 1) := by decide +kernel
theorem dX7_betters_18 : decode cX7_betters 18 = .ok (.aload_n 0, 1) := by decide +kernel
theorem dX7_betters_19 : decode cX7_betters 19 = .ok (.getfield 91, 3) := by decide +kernel
theorem dX7_betters_22 : decode cX7_betters 22 = .ok (.if_icmp .ge 41, 3) := by decide +kernel
theorem dX7_betters_25 : decode cX7_betters 25 = .ok (.aload_n 0, 1) := by decide +kernel
theorem dX7_betters_26 : decode cX7_betters 26 = .ok (.getfield 29, 3) := by decide +kernel
theorem dX7_betters_29 : decode cX7_betters 29 = .ok (.iload_n 2, 1) := by decide +kernel
theorem dX7_betters_30 : decode cX7_betters 30 = .ok (.iaload, 1) := by decide +kernel
theorem dX7_betters_31 : decode cX7_betters 31 = .ok (.iconst (-1), 1) := by decide +kernel
theorem dX7_betters_32 : decode cX7_betters 32 = .ok (.if_icmp .eq 25, 3) := by decide +kernel
theorem dX7_betters_35 : decode cX7_betters 35 = .ok (.iload_n 3, 1) := by decide +kernel
theorem dX7_betters_36 : decode cX7_betters 36 = .ok (.aload_n 0, 1) := by decide +kernel
theorem dX7_betters_37 : decode cX7_betters 37 = .ok (.getfield 29, 3) := by decide +kernel
theorem dX7_betters_40 : decode cX7_betters 40 = .ok (.iload_n 2, 1) := by decide +kernel
theorem dX7_betters_41 : decode cX7_betters 41 = .ok (.iaload, 1) := by decide +kernel
theorem dX7_betters_42 : decode cX7_betters 42 = .ok (.if_icmp .eq 15, 3) := by decide +kernel
theorem dX7_betters_45 : decode cX7_betters 45 = .ok (.aload_n 0, 1) := by decide +kernel
theorem dX7_betters_46 : decode cX7_betters 46 = .ok (.iload_n 2, 1) := by decide +kernel
theorem dX7_betters_47 : decode cX7_betters 47 = .ok (.iload_n 3, 1) := by decide +kernel
theorem dX7_betters_48 : decode cX7_betters 48 = .ok (.iload_n 1, 1) := by decide +kernel
theorem dX7_betters_49 : decode cX7_betters 49 = .ok (.invokevirtual 192, 3) := by decide +kernel
theorem dX7_betters_52 : decode cX7_betters 52 = .ok (.ifCond .eq 5, 3) := by decide +kernel
theorem dX7_betters_55 : decode cX7_betters 55 = .ok (.iconst 1, 1) := by decide +kernel
theorem dX7_betters_56 : decode cX7_betters 56 = .ok (.ireturn, 1) := by decide +kernel
theorem dX7_betters_57 : decode cX7_betters 57 = .ok (.iinc 3 1, 3) := by decide +kernel
theorem dX7_betters_60 : decode cX7_betters 60 = .ok (.goto (-43), 3) := by decide +kernel
theorem dX7_betters_63 : decode cX7_betters 63 = .ok (.iinc 2 1, 3) := by decide +kernel
theorem dX7_betters_66 : decode cX7_betters 66 = .ok (.goto (-59), 3) := by decide +kernel
theorem dX7_betters_69 : decode cX7_betters 69 = .ok (.iconst 0, 1) := by decide +kernel
theorem dX7_betters_70 : decode cX7_betters 70 = .ok (.istore_n 2, 1) := by decide +kernel
theorem dX7_betters_71 : decode cX7_betters 71 = .ok (.iload_n 2, 1) := by decide +kernel
theorem dX7_betters_72 : decode cX7_betters 72 = .ok (.aload_n 0, 1) := by decide +kernel
theorem dX7_betters_73 : decode cX7_betters 73 = .ok (.getfield 91, 3) := by decide +kernel
theorem dX7_betters_76 : decode cX7_betters 76 = .ok (.if_icmp .ge 56, 3) := by decide +kernel
theorem dX7_betters_79 : decode cX7_betters 79 = .ok (.iload_n 2, 1) := by decide +kernel
theorem dX7_betters_80 : decode cX7_betters 80 = .ok (.iconst 1, 1) := by decide +kernel
theorem dX7_betters_81 : decode cX7_betters 81 = .ok (.iadd, 1) := by decide +kernel
theorem dX7_betters_82 : decode cX7_betters 82 = .ok (.istore_n 3, 1) := by decide +kernel
theorem dX7_betters_83 : decode cX7_betters 83 = .ok (.iload_n 3, 1) := by decide +kernel
theorem dX7_betters_84 : decode cX7_betters 84 = .ok (.aload_n 0, 1) := by decide +kernel
theorem dX7_betters_85 : decode cX7_betters 85 = .ok (.getfield 91, 3) := by decide +kernel
theorem dX7_betters_88 : decode cX7_betters 88 = .ok (.if_icmp .ge 38, 3) := by decide +kernel
theorem dX7_betters_91 : decode cX7_betters 91 = .ok (.aload_n 0, 1) := by decide +kernel
theorem dX7_betters_92 : decode cX7_betters 92 = .ok (.iload_n 2, 1) := by decide +kernel
theorem dX7_betters_93 : decode cX7_betters 93 = .ok (.iload_n 3, 1) := by decide +kernel
theorem dX7_betters_94 : decode cX7_betters 94 = .ok (.invokevirtual 156, 3) := by decide +kernel
theorem dX7_betters_97 : decode cX7_betters 97 = .ok (.aload_n 0, 1) := by decide +kernel
theorem dX7_betters_98 : decode cX7_betters 98 = .ok (.invokevirtual 94, 3) := by decide +kernel
theorem dX7_betters_101 : decode cX7_betters 101 = .ok (.ifCond .eq 13, 3) := by decide +kernel
theorem dX7_betters_104 : decode cX7_betters 104 = .ok (.aload_n 0, 1) := by decide +kernel
theorem dX7_betters_105 : decode cX7_betters 105 = .ok (.invokevirtual 160, 3) := by decide +kernel
theorem dX7_betters_108 : decode cX7_betters 108 = .ok (.iload_n 1, 1) := by decide +kernel
theorem dX7_betters_109 : decode cX7_betters 109 = .ok (.if_icmp .ge 5, 3) := by decide +kernel
theorem dX7_betters_112 : decode cX7_betters 112 = .ok (.iconst 1, 1) := by decide +kernel
theorem dX7_betters_113 : decode cX7_betters 113 = .ok (.ireturn, 1) := by decide +kernel
theorem dX7_betters_114 : decode cX7_betters 114 = .ok (.aload_n 0, 1) := by decide +kernel
theorem dX7_betters_115 : decode cX7_betters 115 = .ok (.iload_n 2, 1) := by decide +kernel
theorem dX7_betters_116 : decode cX7_betters 116 = .ok (.iload_n 3, 1) := by decide +kernel
theorem dX7_betters_117 : decode cX7_betters 117 = .ok (.invokevirtual 156, 3) := by decide +kernel
theorem dX7_betters_120 : decode cX7_betters 120 = .ok (.iinc 3 1, 3) := by decide +kernel
theorem dX7_betters_123 : decode cX7_betters 123 = .ok (.goto (-40), 3) := by decide +kernel
theorem dX7_betters_126 : decode cX7_betters 126 = .ok (.iinc 2 1, 3) := by decide +kernel
theorem dX7_betters_129 : decode cX7_betters 129 = .ok (.goto (-58), 3) := by decide +kernel
theorem dX7_betters_132 : decode cX7_betters 132 = .ok (.iconst 0, 1) := by decide +kernel
theorem dX7_betters_133 : decode cX7_betters 133 = .ok (.ireturn, 1) := by decide +kernel
theorem dX7_better_0 : decode cX7_better 0 = .ok (.iconst 0, 1) := by decide +kernel
theorem dX7_better_1 : decode cX7_better 1 = .ok (.istore_n 1, 1) := by decide +kernel
theorem dX7_better_2 : decode cX7_better 2 = .ok (.iload_n 1, 1) := by decide +kernel
theorem dX7_better_3 : decode cX7_better 3 = .ok (.bipush 20, 2) := by decide +kernel
theorem dX7_better_5 : decode cX7_better 5 = .ok (.if_icmp .ge 16, 3) := by decide +kernel
theorem dX7_better_8 : decode cX7_better 8 = .ok (.aload_n 0, 1) := by decide +kernel
theorem dX7_better_9 : decode cX7_better 9 = .ok (.invokevirtual 195, 3) := by decide +kernel
theorem dX7_better_12 : decode cX7_better 12 = .ok (.ifCond .eq 9, 3) := by decide +kernel
theorem dX7_better_15 : decode cX7_better 15 = .ok (.iinc 1 1, 3) := by decide +kernel
theorem dX7_better_18 : decode cX7_better 18 = .ok (.goto (-16), 3) := by decide +kernel
theorem dX7_better_21 : decode cX7_better 21 = .ok (.iload_n 1, 1) := by decide +kernel
theorem dX7_better_22 : decode cX7_better 22 = .ok (.ireturn, 1) := by decide +kernel
theorem dX7_lays_0 : decode cX7_lays 0 = .ok (.iconst 0, 1) := by decide +kernel
theorem dX7_lays_1 : decode cX7_lays 1 = .ok (.istore_n 1, 1) := by decide +kernel
theorem dX7_lays_2 : decode cX7_lays 2 = .ok (.iload_n 1, 1) := by decide +kernel
theorem dX7_lays_3 : decode cX7_lays 3 = .ok (.aload_n 0, 1) := by decide +kernel
theorem dX7_lays_4 : decode cX7_lays 4 = .ok (.getfield 91, 3) := by decide +kernel
theorem dX7_lays_7 : decode cX7_lays 7 = .ok (.if_icmp .ge 64, 3) := by decide +kernel
theorem dX7_lays_10 : decode cX7_lays 10 = .ok (.aload_n 0, 1) := by decide +kernel
theorem dX7_lays_11 : decode cX7_lays 11 = .ok (.getfield 50, 3) := by decide +kernel
theorem dX7_lays_14 : decode cX7_lays 14 = .ok (.iload_n 1, 1) := by decide +kernel
theorem dX7_lays_15 : decode cX7_lays 15 = .ok (.aload_n 0, 1) := by decide +kernel
theorem dX7_lays_16 : decode cX7_lays 16 = .ok (.getfield 68, 3) := by decide +kernel
theorem dX7_lays_19 : decode cX7_lays 19 = .ok (.aload_n 0, 1) := by decide +kernel
theorem dX7_lays_20 : decode cX7_lays 20 = .ok (.getfield 74, 3) := by decide +kernel
theorem dX7_lays_23 : decode cX7_lays 23 = .ok (.iload_n 1, 1) := by decide +kernel
theorem dX7_lays_24 : decode cX7_lays 24 = .ok (.iaload, 1) := by decide +kernel
theorem dX7_lays_25 : decode cX7_lays 25 = .ok (.iaload, 1) := by decide +kernel
theorem dX7_lays_26 : decode cX7_lays 26 = .ok (.iastore, 1) := by decide +kernel
theorem dX7_lays_27 : decode cX7_lays 27 = .ok (.iconst 0, 1) := by decide +kernel
theorem dX7_lays_28 : decode cX7_lays 28 = .ok (.istore_n 2, 1) := by decide +kernel
theorem dX7_lays_29 : decode cX7_lays 29 = .ok (.iload_n 2, 1) := by decide +kernel
theorem dX7_lays_30 : decode cX7_lays 30 = .ok (.iconst 5, 1) := by decide +kernel
theorem dX7_lays_31 : decode cX7_lays 31 = .ok (.if_icmp .ge 34, 3) := by decide +kernel
theorem dX7_lays_34 : decode cX7_lays 34 = .ok (.aload_n 0, 1) := by decide +kernel
theorem dX7_lays_35 : decode cX7_lays 35 = .ok (.getfield 53, 3) := by decide +kernel
theorem dX7_lays_38 : decode cX7_lays 38 = .ok (.iconst 5, 1) := by decide +kernel
theorem dX7_lays_39 : decode cX7_lays 39 = .ok (.iload_n 1, 1) := by decide +kernel
theorem dX7_lays_40 : decode cX7_lays 40 = .ok (.imul, 1) := by decide +kernel
theorem dX7_lays_41 : decode cX7_lays 41 = .ok (.iload_n 2, 1) := by decide +kernel
theorem dX7_lays_42 : decode cX7_lays 42 = .ok (.iadd, 1) := by decide +kernel
theorem dX7_lays_43 : decode cX7_lays 43 = .ok (.aload_n 0, 1) := by decide +kernel
theorem dX7_lays_44 : decode cX7_lays 44 = .ok (.getfield 65, 3) := by decide +kernel
theorem dX7_lays_47 : decode cX7_lays 47 = .ok (.iconst 5, 1) := by decide +kernel
theorem dX7_lays_48 : decode cX7_lays 48 = .ok (.aload_n 0, 1) := by decide +kernel
theorem dX7_lays_49 : decode cX7_lays 49 = .ok (.getfield 74, 3) := by decide +kernel
theorem dX7_lays_52 : decode cX7_lays 52 = .ok (.iload_n 1, 1) := by decide +kernel
theorem dX7_lays_53 : decode cX7_lays 53 = .ok (.iaload, 1) := by decide +kernel
theorem dX7_lays_54 : decode cX7_lays 54 = .ok (.imul, 1) := by decide +kernel
theorem dX7_lays_55 : decode cX7_lays 55 = .ok (.iload_n 2, 1) := by decide +kernel
theorem dX7_lays_56 : decode cX7_lays 56 = .ok (.iadd, 1) := by decide +kernel
theorem dX7_lays_57 : decode cX7_lays 57 = .ok (.iaload, 1) := by decide +kernel
theorem dX7_lays_58 : decode cX7_lays 58 = .ok (.iastore, 1) := by decide +kernel
theorem dX7_lays_59 : decode cX7_lays 59 = .ok (.iinc 2 1, 3) := by decide +kernel
theorem dX7_lays_62 : decode cX7_lays 62 = .ok (.goto (-33), 3) := by decide +kernel
theorem dX7_lays_65 : decode cX7_lays 65 = .ok (.iinc 1 1, 3) := by decide +kernel
theorem dX7_lays_68 : decode cX7_lays 68 = .ok (.goto (-66), 3) := by decide +kernel
theorem dX7_lays_71 : decode cX7_lays 71 = .ok (.iconst 0, 1) := by decide +kernel
theorem dX7_lays_72 : decode cX7_lays 72 = .ok (.istore_n 1, 1) := by decide +kernel
theorem dX7_lays_73 : decode cX7_lays 73 = .ok (.iload_n 1, 1) := by decide +kernel
theorem dX7_lays_74 : decode cX7_lays 74 = .ok (.aload_n 0, 1) := by decide +kernel
theorem dX7_lays_75 : decode cX7_lays 75 = .ok (.getfield 84, 3) := by decide +kernel
theorem dX7_lays_78 : decode cX7_lays 78 = .ok (.if_icmp .ge 47, 3) := by decide +kernel
theorem dX7_lays_81 : decode cX7_lays 81 = .ok (.iconst 0, 1) := by decide +kernel
theorem dX7_lays_82 : decode cX7_lays 82 = .ok (.istore_n 2, 1) := by decide +kernel
theorem dX7_lays_83 : decode cX7_lays 83 = .ok (.iload_n 2, 1) := by decide +kernel
theorem dX7_lays_84 : decode cX7_lays 84 = .ok (.aload_n 0, 1) := by decide +kernel
theorem dX7_lays_85 : decode cX7_lays 85 = .ok (.getfield 91, 3) := by decide +kernel
theorem dX7_lays_88 : decode cX7_lays 88 = .ok (.if_icmp .ge 31, 3) := by decide +kernel
theorem dX7_lays_91 : decode cX7_lays 91 = .ok (.aload_n 0, 1) := by decide +kernel
theorem dX7_lays_92 : decode cX7_lays 92 = .ok (.getfield 71, 3) := by decide +kernel
theorem dX7_lays_95 : decode cX7_lays 95 = .ok (.iload_n 1, 1) := by decide +kernel
theorem dX7_lays_96 : decode cX7_lays 96 = .ok (.iaload, 1) := by decide +kernel
theorem dX7_lays_97 : decode cX7_lays 97 = .ok (.aload_n 0, 1) := by decide +kernel
theorem dX7_lays_98 : decode cX7_lays 98 = .ok (.getfield 74, 3) := by decide +kernel
theorem dX7_lays_101 : decode cX7_lays 101 = .ok (.iload_n 2, 1) := by decide +kernel
theorem dX7_lays_102 : decode cX7_lays 102 = .ok (.iaload, 1) := by decide +kernel
theorem dX7_lays_103 : decode cX7_lays 103 = .ok (.if_icmp .ne 10, 3) := by decide +kernel
theorem dX7_lays_106 : decode cX7_lays 106 = .ok (.aload_n 0, 1) := by decide +kernel
theorem dX7_lays_107 : decode cX7_lays 107 = .ok (.getfield 29, 3) := by decide +kernel
theorem dX7_lays_110 : decode cX7_lays 110 = .ok (.iload_n 1, 1) := by decide +kernel
theorem dX7_lays_111 : decode cX7_lays 111 = .ok (.iload_n 2, 1) := by decide +kernel
theorem dX7_lays_112 : decode cX7_lays 112 = .ok (.iastore, 1) := by decide +kernel
theorem dX7_lays_113 : decode cX7_lays 113 = .ok (.iinc 2 1, 3) := by decide +kernel
theorem dX7_lays_116 : decode cX7_lays 116 = .ok (.goto (-33), 3) := by decide +kernel
theorem dX7_lays_119 : decode cX7_lays 119 = .ok (.iinc 1 1, 3) := by decide +kernel
theorem dX7_lays_122 : decode cX7_lays 122 = .ok (.goto (-49), 3) := by decide +kernel
theorem dX7_lays_125 : decode cX7_lays 125 = .ok (.return_, 1) := by decide +kernel
theorem dX7_gives_0 : decode cX7_gives 0 = .ok (.iload_n 1, 1) := by decide +kernel
theorem dX7_gives_1 : decode cX7_gives 1 = .ok (.aload_n 0, 1) := by decide +kernel
theorem dX7_gives_2 : decode cX7_gives 2 = .ok (.getfield 91, 3) := by decide +kernel
theorem dX7_gives_5 : decode cX7_gives 5 = .ok (.if_icmp .ne 71, 3) := by decide +kernel
theorem dX7_gives_8 : decode cX7_gives 8 = .ok (.aload_n 0, 1) := by decide +kernel
theorem dX7_gives_9 : decode cX7_gives 9 = .ok (.invokevirtual 198, 3) := by decide +kernel
theorem dX7_gives_12 : decode cX7_gives 12 = .ok (.aload_n 0, 1) := by decide +kernel
theorem dX7_gives_13 : decode cX7_gives 13 = .ok (.invokevirtual 94, 3) := by decide +kernel
theorem dX7_gives_16 : decode cX7_gives 16 = .ok (.ifCond .eq 22, 3) := by decide +kernel
theorem dX7_gives_19 : decode cX7_gives 19 = .ok (.aload_n 0, 1) := by decide +kernel
theorem dX7_gives_20 : decode cX7_gives 20 = .ok (.getfield 201, 3) := by decide +kernel
theorem dX7_gives_23 : decode cX7_gives 23 = .ok (.iconst (-1), 1) := by decide +kernel
theorem dX7_gives_24 : decode cX7_gives 24 = .ok (.if_icmp .eq 15, 3) := by decide +kernel
theorem dX7_gives_27 : decode cX7_gives 27 = .ok (.aload_n 0, 1) := by decide +kernel
theorem dX7_gives_28 : decode cX7_gives 28 = .ok (.invokevirtual 160, 3) := by decide +kernel
theorem dX7_gives_31 : decode cX7_gives 31 = .ok (.aload_n 0, 1) := by decide +kernel
theorem dX7_gives_32 : decode cX7_gives 32 = .ok (.getfield 201, 3) := by decide +kernel
theorem dX7_gives_35 : decode cX7_gives 35 = .ok (.if_icmp .lt 4, 3) := by decide +kernel
theorem dX7_gives_38 : decode cX7_gives 38 = .ok (.return_, 1) := by decide +kernel
theorem dX7_gives_39 : decode cX7_gives 39 = .ok (.aload_n 0, 1) := by decide +kernel
theorem dX7_gives_40 : decode cX7_gives 40 = .ok (.aload_n 0, 1) := by decide +kernel
theorem dX7_gives_41 : decode cX7_gives 41 = .ok (.invokevirtual 160, 3) := by decide +kernel
theorem dX7_gives_44 : decode cX7_gives 44 = .ok (.putfield 201, 3) := by decide +kernel
theorem dX7_gives_47 : decode cX7_gives 47 = .ok (.iconst 0, 1) := by decide +kernel
theorem dX7_gives_48 : decode cX7_gives 48 = .ok (.istore_n 3, 1) := by decide +kernel
theorem dX7_gives_49 : decode cX7_gives 49 = .ok (.iload_n 3, 1) := by decide +kernel
theorem dX7_gives_50 : decode cX7_gives 50 = .ok (.aload_n 0, 1) := by decide +kernel
theorem dX7_gives_51 : decode cX7_gives 51 = .ok (.getfield 91, 3) := by decide +kernel
theorem dX7_gives_54 : decode cX7_gives 54 = .ok (.if_icmp .ge 21, 3) := by decide +kernel
theorem dX7_gives_57 : decode cX7_gives 57 = .ok (.aload_n 0, 1) := by decide +kernel
theorem dX7_gives_58 : decode cX7_gives 58 = .ok (.getfield 77, 3) := by decide +kernel
theorem dX7_gives_61 : decode cX7_gives 61 = .ok (.iload_n 3, 1) := by decide +kernel
theorem dX7_gives_62 : decode cX7_gives 62 = .ok (.aload_n 0, 1) := by decide +kernel
theorem dX7_gives_63 : decode cX7_gives 63 = .ok (.getfield 74, 3) := by decide +kernel
theorem dX7_gives_66 : decode cX7_gives 66 = .ok (.iload_n 3, 1) := by decide +kernel
theorem dX7_gives_67 : decode cX7_gives 67 = .ok (.iaload, 1) := by decide +kernel
theorem dX7_gives_68 : decode cX7_gives 68 = .ok (.iastore, 1) := by decide +kernel
theorem dX7_gives_69 : decode cX7_gives 69 = .ok (.iinc 3 1, 3) := by decide +kernel
theorem dX7_gives_72 : decode cX7_gives 72 = .ok (.goto (-23), 3) := by decide +kernel
theorem dX7_gives_75 : decode cX7_gives 75 = .ok (.return_, 1) := by decide +kernel
theorem dX7_gives_76 : decode cX7_gives 76 = .ok (.iconst 0, 1) := by decide +kernel
theorem dX7_gives_77 : decode cX7_gives 77 = .ok (.istore_n 3, 1) := by decide +kernel
theorem dX7_gives_78 : decode cX7_gives 78 = .ok (.iload_n 3, 1) := by decide +kernel
theorem dX7_gives_79 : decode cX7_gives 79 = .ok (.aload_n 0, 1) := by decide +kernel
theorem dX7_gives_80 : decode cX7_gives 80 = .ok (.getfield 91, 3) := by decide +kernel
theorem dX7_gives_83 : decode cX7_gives 83 = .ok (.if_icmp .ge 40, 3) := by decide +kernel
theorem dX7_gives_86 : decode cX7_gives 86 = .ok (.iload_n 2, 1) := by decide +kernel
theorem dX7_gives_87 : decode cX7_gives 87 = .ok (.iload_n 3, 1) := by decide +kernel
theorem dX7_gives_88 : decode cX7_gives 88 = .ok (.ishr, 1) := by decide +kernel
theorem dX7_gives_89 : decode cX7_gives 89 = .ok (.iconst 1, 1) := by decide +kernel
theorem dX7_gives_90 : decode cX7_gives 90 = .ok (.iand, 1) := by decide +kernel
theorem dX7_gives_91 : decode cX7_gives 91 = .ok (.iconst 1, 1) := by decide +kernel
theorem dX7_gives_92 : decode cX7_gives 92 = .ok (.if_icmp .ne 6, 3) := by decide +kernel
theorem dX7_gives_95 : decode cX7_gives 95 = .ok (.goto 22, 3) := by decide +kernel
theorem dX7_gives_98 : decode cX7_gives 98 = .ok (.aload_n 0, 1) := by decide +kernel
theorem dX7_gives_99 : decode cX7_gives 99 = .ok (.getfield 74, 3) := by decide +kernel
theorem dX7_gives_102 : decode cX7_gives 102 = .ok (.iload_n 1, 1) := by decide +kernel
theorem dX7_gives_103 : decode cX7_gives 103 = .ok (.iload_n 3, 1) := by decide +kernel
theorem dX7_gives_104 : decode cX7_gives 104 = .ok (.iastore, 1) := by decide +kernel
theorem dX7_gives_105 : decode cX7_gives 105 = .ok (.aload_n 0, 1) := by decide +kernel
theorem dX7_gives_106 : decode cX7_gives 106 = .ok (.iload_n 1, 1) := by decide +kernel
theorem dX7_gives_107 : decode cX7_gives 107 = .ok (.iconst 1, 1) := by decide +kernel
theorem dX7_gives_108 : decode cX7_gives 108 = .ok (.iadd, 1) := by decide +kernel
theorem dX7_gives_109 : decode cX7_gives 109 = .ok (.iload_n 2, 1) := by decide +kernel
theorem dX7_gives_110 : decode cX7_gives 110 = .ok (.iconst 1, 1) := by decide +kernel
theorem dX7_gives_111 : decode cX7_gives 111 = .ok (.iload_n 3, 1) := by decide +kernel
theorem dX7_gives_112 : decode cX7_gives 112 = .ok (.ishl, 1) := by decide +kernel
theorem dX7_gives_113 : decode cX7_gives 113 = .ok (.ior, 1) := by decide +kernel
theorem dX7_gives_114 : decode cX7_gives 114 = .ok (.invokevirtual 204, 3) := by decide +kernel
theorem dX7_gives_117 : decode cX7_gives 117 = .ok (.iinc 3 1, 3) := by decide +kernel
theorem dX7_gives_120 : decode cX7_gives 120 = .ok (.goto (-42), 3) := by decide +kernel
theorem dX7_gives_123 : decode cX7_gives 123 = .ok (.return_, 1) := by decide +kernel
theorem dX7_order_0 : decode cX7_order 0 = .ok (.aload_n 0, 1) := by decide +kernel
theorem dX7_order_1 : decode cX7_order 1 = .ok (.getfield 91, 3) := by decide +kernel
theorem dX7_order_4 : decode cX7_order 4 = .ok (.iconst 1, 1) := by decide +kernel
theorem dX7_order_5 : decode cX7_order 5 = .ok (.bipush 6, 2) := by decide +kernel
theorem dX7_order_7 : decode cX7_order 7 = .ok (.invokestatic 87, 3) := by decide +kernel
theorem dX7_order_10 : decode cX7_order 10 = .ok (.ifCond .ne 6, 3) := by decide +kernel
theorem dX7_order_13 : decode cX7_order 13 = .ok (.bipush (-3), 2) := by decide +kernel
theorem dX7_order_15 : decode cX7_order 15 = .ok (.ireturn, 1) := by decide +kernel
theorem dX7_order_16 : decode cX7_order 16 = .ok (.aload_n 0, 1) := by decide +kernel
theorem dX7_order_17 : decode cX7_order 17 = .ok (.invokevirtual 140, 3) := by decide +kernel
theorem dX7_order_20 : decode cX7_order 20 = .ok (.aload_n 0, 1) := by decide +kernel
theorem dX7_order_21 : decode cX7_order 21 = .ok (.iconst (-1), 1) := by decide +kernel
theorem dX7_order_22 : decode cX7_order 22 = .ok (.putfield 201, 3) := by decide +kernel
theorem dX7_order_25 : decode cX7_order 25 = .ok (.aload_n 0, 1) := by decide +kernel
theorem dX7_order_26 : decode cX7_order 26 = .ok (.iconst 0, 1) := by decide +kernel
theorem dX7_order_27 : decode cX7_order 27 = .ok (.iconst 0, 1) := by decide +kernel
theorem dX7_order_28 : decode cX7_order 28 = .ok (.invokevirtual 204, 3) := by decide +kernel
theorem dX7_order_31 : decode cX7_order 31 = .ok (.iconst 0, 1) := by decide +kernel
theorem dX7_order_32 : decode cX7_order 32 = .ok (.istore_n 1, 1) := by decide +kernel
theorem dX7_order_33 : decode cX7_order 33 = .ok (.iload_n 1, 1) := by decide +kernel
theorem dX7_order_34 : decode cX7_order 34 = .ok (.aload_n 0, 1) := by decide +kernel
theorem dX7_order_35 : decode cX7_order 35 = .ok (.getfield 91, 3) := by decide +kernel
theorem dX7_order_38 : decode cX7_order 38 = .ok (.if_icmp .ge 21, 3) := by decide +kernel
theorem dX7_order_41 : decode cX7_order 41 = .ok (.aload_n 0, 1) := by decide +kernel
theorem dX7_order_42 : decode cX7_order 42 = .ok (.getfield 74, 3) := by decide +kernel
theorem dX7_order_45 : decode cX7_order 45 = .ok (.iload_n 1, 1) := by decide +kernel
theorem dX7_order_46 : decode cX7_order 46 = .ok (.aload_n 0, 1) := by decide +kernel
theorem dX7_order_47 : decode cX7_order 47 = .ok (.getfield 77, 3) := by decide +kernel
theorem dX7_order_50 : decode cX7_order 50 = .ok (.iload_n 1, 1) := by decide +kernel
theorem dX7_order_51 : decode cX7_order 51 = .ok (.iaload, 1) := by decide +kernel
theorem dX7_order_52 : decode cX7_order 52 = .ok (.iastore, 1) := by decide +kernel
theorem dX7_order_53 : decode cX7_order 53 = .ok (.iinc 1 1, 3) := by decide +kernel
theorem dX7_order_56 : decode cX7_order 56 = .ok (.goto (-23), 3) := by decide +kernel
theorem dX7_order_59 : decode cX7_order 59 = .ok (.aload_n 0, 1) := by decide +kernel
theorem dX7_order_60 : decode cX7_order 60 = .ok (.invokevirtual 198, 3) := by decide +kernel
theorem dX7_order_63 : decode cX7_order 63 = .ok (.aload_n 0, 1) := by decide +kernel
theorem dX7_order_64 : decode cX7_order 64 = .ok (.getfield 201, 3) := by decide +kernel
theorem dX7_order_67 : decode cX7_order 67 = .ok (.ireturn, 1) := by decide +kernel
theorem dX7_rain_0 : decode cX7_rain 0 = .ok (.aload_n 0, 1) := by decide +kernel
theorem dX7_rain_1 : decode cX7_rain 1 = .ok (.iload_n 1, 1) := by decide +kernel
theorem dX7_rain_2 : decode cX7_rain 2 = .ok (.invokevirtual 106, 3) := by decide +kernel
theorem dX7_rain_5 : decode cX7_rain 5 = .ok (.ifCond .ne 5, 3) := by decide +kernel
theorem dX7_rain_8 : decode cX7_rain 8 = .ok (.iconst (-1), 1) := by decide +kernel
theorem dX7_rain_9 : decode cX7_rain 9 = .ok (.ireturn, 1) := by decide +kernel
theorem dX7_rain_10 : decode cX7_rain 10 = .ok (.iconst 0, 1) := by decide +kernel
theorem dX7_rain_11 : decode cX7_rain 11 = .ok (.istore_n 2, 1) := by decide +kernel
theorem dX7_rain_12 : decode cX7_rain 12 = .ok (.iconst 0, 1) := by decide +kernel
theorem dX7_rain_13 : decode cX7_rain 13 = .ok (.istore_n 3, 1) := by decide +kernel
theorem dX7_rain_14 : decode cX7_rain 14 = .ok (.iconst 0, 1) := by decide +kernel
theorem dX7_rain_15 : decode cX7_rain 15 = .ok (.istore 4, 2) := by decide +kernel
theorem dX7_rain_17 : decode cX7_rain 17 = .ok (.iload 4, 2) := by decide +kernel
theorem dX7_rain_19 : decode cX7_rain 19 = .ok (.aload_n 0, 1) := by decide +kernel
theorem dX7_rain_20 : decode cX7_rain 20 = .ok (.getfield 84, 3) := by decide +kernel
theorem dX7_rain_23 : decode cX7_rain 23 = .ok (.if_icmp .ge 42, 3) := by decide +kernel
theorem dX7_rain_26 : decode cX7_rain 26 = .ok (.aload_n 0, 1) := by decide +kernel
theorem dX7_rain_27 : decode cX7_rain 27 = .ok (.getfield 29, 3) := by decide +kernel
theorem dX7_rain_30 : decode cX7_rain 30 = .ok (.iload 4, 2) := by decide +kernel
theorem dX7_rain_32 : decode cX7_rain 32 = .ok (.iaload, 1) := by decide +kernel
theorem dX7_rain_33 : decode cX7_rain 33 = .ok (.iload_n 1, 1) := by decide +kernel
theorem dX7_rain_34 : decode cX7_rain 34 = .ok (.if_icmp .ne 25, 3) := by decide +kernel
theorem dX7_rain_37 : decode cX7_rain 37 = .ok (.aload_n 0, 1) := by decide +kernel
theorem dX7_rain_38 : decode cX7_rain 38 = .ok (.getfield 19, 3) := by decide +kernel
theorem dX7_rain_41 : decode cX7_rain 41 = .ok (.iload 4, 2) := by decide +kernel
theorem dX7_rain_43 : decode cX7_rain 43 = .ok (.baload, 1) := by decide +kernel
theorem dX7_rain_44 : decode cX7_rain 44 = .ok (.ifCond .ne 6, 3) := by decide +kernel
theorem dX7_rain_47 : decode cX7_rain 47 = .ok (.goto 12, 3) := by decide +kernel
theorem dX7_rain_50 : decode cX7_rain 50 = .ok (.aload_n 0, 1) := by decide +kernel
theorem dX7_rain_51 : decode cX7_rain 51 = .ok (.iload 4, 2) := by decide +kernel
theorem dX7_rain_53 : decode cX7_rain 53 = .ok (.invokevirtual 152, 3) := by decide +kernel
theorem dX7_rain_56 : decode cX7_rain 56 = .ok (.iinc 2 1, 3) := by decide +kernel
theorem dX7_rain_59 : decode cX7_rain 59 = .ok (.iinc 4 1, 3) := by decide +kernel
theorem dX7_rain_62 : decode cX7_rain 62 = .ok (.goto (-45), 3) := by decide +kernel
theorem dX7_rain_65 : decode cX7_rain 65 = .ok (.iconst 0, 1) := by decide +kernel
theorem dX7_rain_66 : decode cX7_rain 66 = .ok (.istore 4, 2) := by decide +kernel
theorem dX7_rain_68 : decode cX7_rain 68 = .ok (.iload 4, 2) := by decide +kernel
theorem dX7_rain_70 : decode cX7_rain 70 = .ok (.aload_n 0, 1) := by decide +kernel
theorem dX7_rain_71 : decode cX7_rain 71 = .ok (.getfield 84, 3) := by decide +kernel
theorem dX7_rain_74 : decode cX7_rain 74 = .ok (.if_icmp .ge 43, 3) := by decide +kernel
theorem dX7_rain_77 : decode cX7_rain 77 = .ok (.aload_n 0, 1) := by decide +kernel
theorem dX7_rain_78 : decode cX7_rain 78 = .ok (.getfield 29, 3) := by decide +kernel
theorem dX7_rain_81 : decode cX7_rain 81 = .ok (.iload 4, 2) := by decide +kernel
theorem dX7_rain_83 : decode cX7_rain 83 = .ok (.iaload, 1) := by decide +kernel
theorem dX7_rain_84 : decode cX7_rain 84 = .ok (.iconst (-1), 1) := by decide +kernel
theorem dX7_rain_85 : decode cX7_rain 85 = .ok (.if_icmp .ne 26, 3) := by decide +kernel
theorem dX7_rain_88 : decode cX7_rain 88 = .ok (.aload_n 0, 1) := by decide +kernel
theorem dX7_rain_89 : decode cX7_rain 89 = .ok (.getfield 19, 3) := by decide +kernel
theorem dX7_rain_92 : decode cX7_rain 92 = .ok (.iload 4, 2) := by decide +kernel
theorem dX7_rain_94 : decode cX7_rain 94 = .ok (.baload, 1) := by decide +kernel
theorem dX7_rain_95 : decode cX7_rain 95 = .ok (.ifCond .ne 16, 3) := by decide +kernel
theorem dX7_rain_98 : decode cX7_rain 98 = .ok (.aload_n 0, 1) := by decide +kernel
theorem dX7_rain_99 : decode cX7_rain 99 = .ok (.iload 4, 2) := by decide +kernel
theorem dX7_rain_101 : decode cX7_rain 101 = .ok (.iload_n 1, 1) := by decide +kernel
theorem dX7_rain_102 : decode cX7_rain 102 = .ok (.invokevirtual 143, 3) := by decide +kernel
theorem dX7_rain_105 : decode cX7_rain 105 = .ok (.ifCond .eq 6, 3) := by decide +kernel
theorem dX7_rain_108 : decode cX7_rain 108 = .ok (.iinc 3 1, 3) := by decide +kernel
theorem dX7_rain_111 : decode cX7_rain 111 = .ok (.iinc 4 1, 3) := by decide +kernel
theorem dX7_rain_114 : decode cX7_rain 114 = .ok (.goto (-46), 3) := by decide +kernel
theorem dX7_rain_117 : decode cX7_rain 117 = .ok (.bipush 16, 2) := by decide +kernel
theorem dX7_rain_119 : decode cX7_rain 119 = .ok (.iload_n 2, 1) := by decide +kernel
theorem dX7_rain_120 : decode cX7_rain 120 = .ok (.imul, 1) := by decide +kernel
theorem dX7_rain_121 : decode cX7_rain 121 = .ok (.iload_n 3, 1) := by decide +kernel
theorem dX7_rain_122 : decode cX7_rain 122 = .ok (.iadd, 1) := by decide +kernel
theorem dX7_rain_123 : decode cX7_rain 123 = .ok (.ireturn, 1) := by decide +kernel
theorem dX7_about_0 : decode cX7_about 0 = .ok (.aload_n 0, 1) := by decide +kernel
theorem dX7_about_1 : decode cX7_about 1 = .ok (.iload_n 1, 1) := by decide +kernel
theorem dX7_about_2 : decode cX7_about 2 = .ok (.invokevirtual 98, 3) := by decide +kernel
theorem dX7_about_5 : decode cX7_about 5 = .ok (.ifCond .ne 5, 3) := by decide +kernel
theorem dX7_about_8 : decode cX7_about 8 = .ok (.iconst (-1), 1) := by decide +kernel
theorem dX7_about_9 : decode cX7_about 9 = .ok (.ireturn, 1) := by decide +kernel
theorem dX7_about_10 : decode cX7_about 10 = .ok (.iload_n 2, 1) := by decide +kernel
theorem dX7_about_11 : decode cX7_about 11 = .ok (.tableswitch 108 0 7 #[45, 52, 59, 66, 81, 88, 95, 101], 45) := by decide +kernel
theorem dX7_about_56 : decode cX7_about 56 = .ok (.aload_n 0, 1) := by decide +kernel
theorem dX7_about_57 : decode cX7_about 57 = .ok (.getfield 7, 3) := by decide +kernel
theorem dX7_about_60 : decode cX7_about 60 = .ok (.iload_n 1, 1) := by decide +kernel
theorem dX7_about_61 : decode cX7_about 61 = .ok (.iaload, 1) := by decide +kernel
theorem dX7_about_62 : decode cX7_about 62 = .ok (.ireturn, 1) := by decide +kernel
theorem dX7_about_63 : decode cX7_about 63 = .ok (.aload_n 0, 1) := by decide +kernel
theorem dX7_about_64 : decode cX7_about 64 = .ok (.getfield 13, 3) := by decide +kernel
theorem dX7_about_67 : decode cX7_about 67 = .ok (.iload_n 1, 1) := by decide +kernel
theorem dX7_about_68 : decode cX7_about 68 = .ok (.iaload, 1) := by decide +kernel
theorem dX7_about_69 : decode cX7_about 69 = .ok (.ireturn, 1) := by decide +kernel
theorem dX7_about_70 : decode cX7_about 70 = .ok (.aload_n 0, 1) := by decide +kernel
theorem dX7_about_71 : decode cX7_about 71 = .ok (.getfield 16, 3) := by decide +kernel
theorem dX7_about_74 : decode cX7_about 74 = .ok (.iload_n 1, 1) := by decide +kernel
theorem dX7_about_75 : decode cX7_about 75 = .ok (.iaload, 1) := by decide +kernel
theorem dX7_about_76 : decode cX7_about 76 = .ok (.ireturn, 1) := by decide +kernel
theorem dX7_about_77 : decode cX7_about 77 = .ok (.aload_n 0, 1) := by decide +kernel
theorem dX7_about_78 : decode cX7_about 78 = .ok (.getfield 19, 3) := by decide +kernel
theorem dX7_about_81 : decode cX7_about 81 = .ok (.iload_n 1, 1) := by decide +kernel
theorem dX7_about_82 : decode cX7_about 82 = .ok (.baload, 1) := by decide +kernel
theorem dX7_about_83 : decode cX7_about 83 = .ok (.ifCond .eq 7, 3) := by decide +kernel
theorem dX7_about_86 : decode cX7_about 86 = .ok (.iconst 1, 1) := by decide +kernel
theorem dX7_about_87 : decode cX7_about 87 = .ok (.goto 4, 3) := by decide +kernel
theorem dX7_about_90 : decode cX7_about 90 = .ok (.iconst 0, 1) := by decide +kernel
theorem dX7_about_91 : decode cX7_about 91 = .ok (.ireturn, 1) := by decide +kernel
theorem dX7_about_92 : decode cX7_about 92 = .ok (.aload_n 0, 1) := by decide +kernel
theorem dX7_about_93 : decode cX7_about 93 = .ok (.getfield 23, 3) := by decide +kernel
theorem dX7_about_96 : decode cX7_about 96 = .ok (.iload_n 1, 1) := by decide +kernel
theorem dX7_about_97 : decode cX7_about 97 = .ok (.iaload, 1) := by decide +kernel
theorem dX7_about_98 : decode cX7_about 98 = .ok (.ireturn, 1) := by decide +kernel
theorem dX7_about_99 : decode cX7_about 99 = .ok (.aload_n 0, 1) := by decide +kernel
theorem dX7_about_100 : decode cX7_about 100 = .ok (.getfield 29, 3) := by decide +kernel
theorem dX7_about_103 : decode cX7_about 103 = .ok (.iload_n 1, 1) := by decide +kernel
theorem dX7_about_104 : decode cX7_about 104 = .ok (.iaload, 1) := by decide +kernel
theorem dX7_about_105 : decode cX7_about 105 = .ok (.ireturn, 1) := by decide +kernel
theorem dX7_about_106 : decode cX7_about 106 = .ok (.aload_n 0, 1) := by decide +kernel
theorem dX7_about_107 : decode cX7_about 107 = .ok (.iload_n 1, 1) := by decide +kernel
theorem dX7_about_108 : decode cX7_about 108 = .ok (.invokevirtual 113, 3) := by decide +kernel
theorem dX7_about_111 : decode cX7_about 111 = .ok (.ireturn, 1) := by decide +kernel
theorem dX7_about_112 : decode cX7_about 112 = .ok (.aload_n 0, 1) := by decide +kernel
theorem dX7_about_113 : decode cX7_about 113 = .ok (.getfield 26, 3) := by decide +kernel
theorem dX7_about_116 : decode cX7_about 116 = .ok (.iload_n 1, 1) := by decide +kernel
theorem dX7_about_117 : decode cX7_about 117 = .ok (.iaload, 1) := by decide +kernel
theorem dX7_about_118 : decode cX7_about 118 = .ok (.ireturn, 1) := by decide +kernel
theorem dX7_about_119 : decode cX7_about 119 = .ok (.iconst (-1), 1) := by decide +kernel
theorem dX7_about_120 : decode cX7_about 120 = .ok (.ireturn, 1) := by decide +kernel
theorem dX7_row_0 : decode cX7_row 0 = .ok (.aload_n 0, 1) := by decide +kernel
theorem dX7_row_1 : decode cX7_row 1 = .ok (.iload_n 1, 1) := by decide +kernel
theorem dX7_row_2 : decode cX7_row 2 = .ok (.invokevirtual 106, 3) := by decide +kernel
theorem dX7_row_5 : decode cX7_row 5 = .ok (.ifCond .eq 32, 3) := by decide +kernel
theorem dX7_row_8 : decode cX7_row 8 = .ok (.iload_n 2, 1) := by decide +kernel
theorem dX7_row_9 : decode cX7_row 9 = .ok (.iconst 0, 1) := by decide +kernel
theorem dX7_row_10 : decode cX7_row 10 = .ok (.aload_n 0, 1) := by decide +kernel
theorem dX7_row_11 : decode cX7_row 11 = .ok (.getfield 50, 3) := by decide +kernel
theorem dX7_row_14 : decode cX7_row 14 = .ok (.iload_n 1, 1) := by decide +kernel
theorem dX7_row_15 : decode cX7_row 15 = .ok (.iaload, 1) := by decide +kernel
theorem dX7_row_16 : decode cX7_row 16 = .ok (.iconst 1, 1) := by decide +kernel
theorem dX7_row_17 : decode cX7_row 17 = .ok (.isub, 1) := by decide +kernel
theorem dX7_row_18 : decode cX7_row 18 = .ok (.invokestatic 87, 3) := by decide +kernel
theorem dX7_row_21 : decode cX7_row 21 = .ok (.ifCond .eq 16, 3) := by decide +kernel
theorem dX7_row_24 : decode cX7_row 24 = .ok (.aload_n 0, 1) := by decide +kernel
theorem dX7_row_25 : decode cX7_row 25 = .ok (.getfield 53, 3) := by decide +kernel
theorem dX7_row_28 : decode cX7_row 28 = .ok (.iconst 5, 1) := by decide +kernel
theorem dX7_row_29 : decode cX7_row 29 = .ok (.iload_n 1, 1) := by decide +kernel
theorem dX7_row_30 : decode cX7_row 30 = .ok (.imul, 1) := by decide +kernel
theorem dX7_row_31 : decode cX7_row 31 = .ok (.iload_n 2, 1) := by decide +kernel
theorem dX7_row_32 : decode cX7_row 32 = .ok (.iadd, 1) := by decide +kernel
theorem dX7_row_33 : decode cX7_row 33 = .ok (.iaload, 1) := by decide +kernel
theorem dX7_row_34 : decode cX7_row 34 = .ok (.goto 4, 3) := by decide +kernel
theorem dX7_row_37 : decode cX7_row 37 = .ok (.iconst (-1), 1) := by decide +kernel
theorem dX7_row_38 : decode cX7_row 38 = .ok (.ireturn, 1) := by decide +kernel
theorem dX7_of_0 : decode cX7_of 0 = .ok (.aload_n 0, 1) := by decide +kernel
theorem dX7_of_1 : decode cX7_of 1 = .ok (.iload_n 1, 1) := by decide +kernel
theorem dX7_of_2 : decode cX7_of 2 = .ok (.invokevirtual 106, 3) := by decide +kernel
theorem dX7_of_5 : decode cX7_of 5 = .ok (.ifCond .ne 5, 3) := by decide +kernel
theorem dX7_of_8 : decode cX7_of 8 = .ok (.iconst (-1), 1) := by decide +kernel
theorem dX7_of_9 : decode cX7_of 9 = .ok (.ireturn, 1) := by decide +kernel
theorem dX7_of_10 : decode cX7_of 10 = .ok (.iconst 0, 1) := by decide +kernel
theorem dX7_of_11 : decode cX7_of 11 = .ok (.istore_n 3, 1) := by decide +kernel
theorem dX7_of_12 : decode cX7_of 12 = .ok (.iload_n 2, 1) := by decide +kernel
theorem dX7_of_13 : decode cX7_of 13 = .ok (.tableswitch 120 0 5 #[39, 46, 52, 58, 99, 105], 39) := by decide +kernel
theorem dX7_of_52 : decode cX7_of 52 = .ok (.aload_n 0, 1) := by decide +kernel
theorem dX7_of_53 : decode cX7_of 53 = .ok (.getfield 50, 3) := by decide +kernel
theorem dX7_of_56 : decode cX7_of 56 = .ok (.iload_n 1, 1) := by decide +kernel
theorem dX7_of_57 : decode cX7_of 57 = .ok (.iaload, 1) := by decide +kernel
theorem dX7_of_58 : decode cX7_of 58 = .ok (.ireturn, 1) := by decide +kernel
theorem dX7_of_59 : decode cX7_of 59 = .ok (.aload_n 0, 1) := by decide +kernel
theorem dX7_of_60 : decode cX7_of 60 = .ok (.iload_n 1, 1) := by decide +kernel
theorem dX7_of_61 : decode cX7_of 61 = .ok (.invokevirtual 117, 3) := by decide +kernel
theorem dX7_of_64 : decode cX7_of 64 = .ok (.ireturn, 1) := by decide +kernel
theorem dX7_of_65 : decode cX7_of 65 = .ok (.aload_n 0, 1) := by decide +kernel
theorem dX7_of_66 : decode cX7_of 66 = .ok (.iload_n 1, 1) := by decide +kernel
theorem dX7_of_67 : decode cX7_of 67 = .ok (.invokevirtual 177, 3) := by decide +kernel
theorem dX7_of_70 : decode cX7_of 70 = .ok (.ireturn, 1) := by decide +kernel
theorem dX7_of_71 : decode cX7_of 71 = .ok (.iconst 0, 1) := by decide +kernel
theorem dX7_of_72 : decode cX7_of 72 = .ok (.istore 4, 2) := by decide +kernel
theorem dX7_of_74 : decode cX7_of 74 = .ok (.iload 4, 2) := by decide +kernel
theorem dX7_of_76 : decode cX7_of 76 = .ok (.aload_n 0, 1) := by decide +kernel
theorem dX7_of_77 : decode cX7_of 77 = .ok (.getfield 50, 3) := by decide +kernel
theorem dX7_of_80 : decode cX7_of 80 = .ok (.iload_n 1, 1) := by decide +kernel
theorem dX7_of_81 : decode cX7_of 81 = .ok (.iaload, 1) := by decide +kernel
theorem dX7_of_82 : decode cX7_of 82 = .ok (.if_icmp .ge 28, 3) := by decide +kernel
theorem dX7_of_85 : decode cX7_of 85 = .ok (.iload_n 3, 1) := by decide +kernel
theorem dX7_of_86 : decode cX7_of 86 = .ok (.aload_n 0, 1) := by decide +kernel
theorem dX7_of_87 : decode cX7_of 87 = .ok (.getfield 23, 3) := by decide +kernel
theorem dX7_of_90 : decode cX7_of 90 = .ok (.aload_n 0, 1) := by decide +kernel
theorem dX7_of_91 : decode cX7_of 91 = .ok (.getfield 53, 3) := by decide +kernel
theorem dX7_of_94 : decode cX7_of 94 = .ok (.iconst 5, 1) := by decide +kernel
theorem dX7_of_95 : decode cX7_of 95 = .ok (.iload_n 1, 1) := by decide +kernel
theorem dX7_of_96 : decode cX7_of 96 = .ok (.imul, 1) := by decide +kernel
theorem dX7_of_97 : decode cX7_of 97 = .ok (.iload 4, 2) := by decide +kernel
theorem dX7_of_99 : decode cX7_of 99 = .ok (.iadd, 1) := by decide +kernel
theorem dX7_of_100 : decode cX7_of 100 = .ok (.iaload, 1) := by decide +kernel
theorem dX7_of_101 : decode cX7_of 101 = .ok (.iaload, 1) := by decide +kernel
theorem dX7_of_102 : decode cX7_of 102 = .ok (.ior, 1) := by decide +kernel
theorem dX7_of_103 : decode cX7_of 103 = .ok (.istore_n 3, 1) := by decide +kernel
theorem dX7_of_104 : decode cX7_of 104 = .ok (.iinc 4 1, 3) := by decide +kernel
theorem dX7_of_107 : decode cX7_of 107 = .ok (.goto (-33), 3) := by decide +kernel
theorem dX7_of_110 : decode cX7_of 110 = .ok (.iload_n 3, 1) := by decide +kernel
theorem dX7_of_111 : decode cX7_of 111 = .ok (.ireturn, 1) := by decide +kernel
theorem dX7_of_112 : decode cX7_of 112 = .ok (.aload_n 0, 1) := by decide +kernel
theorem dX7_of_113 : decode cX7_of 113 = .ok (.iload_n 1, 1) := by decide +kernel
theorem dX7_of_114 : decode cX7_of 114 = .ok (.invokevirtual 120, 3) := by decide +kernel
theorem dX7_of_117 : decode cX7_of 117 = .ok (.ireturn, 1) := by decide +kernel
theorem dX7_of_118 : decode cX7_of 118 = .ok (.aload_n 0, 1) := by decide +kernel
theorem dX7_of_119 : decode cX7_of 119 = .ok (.iload_n 1, 1) := by decide +kernel
theorem dX7_of_120 : decode cX7_of 120 = .ok (.iconst 2, 1) := by decide +kernel
theorem dX7_of_121 : decode cX7_of 121 = .ok (.invokevirtual 123, 3) := by decide +kernel
theorem dX7_of_124 : decode cX7_of 124 = .ok (.ifCond .eq 7, 3) := by decide +kernel
theorem dX7_of_127 : decode cX7_of 127 = .ok (.iconst 1, 1) := by decide +kernel
theorem dX7_of_128 : decode cX7_of 128 = .ok (.goto 4, 3) := by decide +kernel
theorem dX7_of_131 : decode cX7_of 131 = .ok (.iconst 0, 1) := by decide +kernel
theorem dX7_of_132 : decode cX7_of 132 = .ok (.ireturn, 1) := by decide +kernel
theorem dX7_of_133 : decode cX7_of 133 = .ok (.iconst (-1), 1) := by decide +kernel
theorem dX7_of_134 : decode cX7_of 134 = .ok (.ireturn, 1) := by decide +kernel
theorem dX7_count_0 : decode cX7_count 0 = .ok (.iconst 0, 1) := by decide +kernel
theorem dX7_count_1 : decode cX7_count 1 = .ok (.istore_n 2, 1) := by decide +kernel
theorem dX7_count_2 : decode cX7_count 2 = .ok (.iload_n 1, 1) := by decide +kernel
theorem dX7_count_3 : decode cX7_count 3 = .ok (.tableswitch 134 0 3 #[29, 34, 39, 75], 29) := by decide +kernel
theorem dX7_count_32 : decode cX7_count 32 = .ok (.aload_n 0, 1) := by decide +kernel
theorem dX7_count_33 : decode cX7_count 33 = .ok (.getfield 84, 3) := by decide +kernel
theorem dX7_count_36 : decode cX7_count 36 = .ok (.ireturn, 1) := by decide +kernel
theorem dX7_count_37 : decode cX7_count 37 = .ok (.aload_n 0, 1) := by decide +kernel
theorem dX7_count_38 : decode cX7_count 38 = .ok (.getfield 91, 3) := by decide +kernel
theorem dX7_count_41 : decode cX7_count 41 = .ok (.ireturn, 1) := by decide +kernel
theorem dX7_count_42 : decode cX7_count 42 = .ok (.iconst 0, 1) := by decide +kernel
theorem dX7_count_43 : decode cX7_count 43 = .ok (.istore_n 3, 1) := by decide +kernel
theorem dX7_count_44 : decode cX7_count 44 = .ok (.iload_n 3, 1) := by decide +kernel
theorem dX7_count_45 : decode cX7_count 45 = .ok (.aload_n 0, 1) := by decide +kernel
theorem dX7_count_46 : decode cX7_count 46 = .ok (.getfield 84, 3) := by decide +kernel
theorem dX7_count_49 : decode cX7_count 49 = .ok (.if_icmp .ge 27, 3) := by decide +kernel
theorem dX7_count_52 : decode cX7_count 52 = .ok (.iload_n 2, 1) := by decide +kernel
theorem dX7_count_53 : decode cX7_count 53 = .ok (.aload_n 0, 1) := by decide +kernel
theorem dX7_count_54 : decode cX7_count 54 = .ok (.getfield 29, 3) := by decide +kernel
theorem dX7_count_57 : decode cX7_count 57 = .ok (.iload_n 3, 1) := by decide +kernel
theorem dX7_count_58 : decode cX7_count 58 = .ok (.iaload, 1) := by decide +kernel
theorem dX7_count_59 : decode cX7_count 59 = .ok (.iconst (-1), 1) := by decide +kernel
theorem dX7_count_60 : decode cX7_count 60 = .ok (.if_icmp .ne 7, 3) := by decide +kernel
theorem dX7_count_63 : decode cX7_count 63 = .ok (.iconst 0, 1) := by decide +kernel
theorem dX7_count_64 : decode cX7_count 64 = .ok (.goto 4, 3) := by decide +kernel
theorem dX7_count_67 : decode cX7_count 67 = .ok (.iconst 1, 1) := by decide +kernel
theorem dX7_count_68 : decode cX7_count 68 = .ok (.iadd, 1) := by decide +kernel
theorem dX7_count_69 : decode cX7_count 69 = .ok (.istore_n 2, 1) := by decide +kernel
theorem dX7_count_70 : decode cX7_count 70 = .ok (.iinc 3 1, 3) := by decide +kernel
theorem dX7_count_73 : decode cX7_count 73 = .ok (.goto (-29), 3) := by decide +kernel
theorem dX7_count_76 : decode cX7_count 76 = .ok (.iload_n 2, 1) := by decide +kernel
theorem dX7_count_77 : decode cX7_count 77 = .ok (.ireturn, 1) := by decide +kernel
theorem dX7_count_78 : decode cX7_count 78 = .ok (.iconst 0, 1) := by decide +kernel
theorem dX7_count_79 : decode cX7_count 79 = .ok (.istore_n 3, 1) := by decide +kernel
theorem dX7_count_80 : decode cX7_count 80 = .ok (.iconst 0, 1) := by decide +kernel
theorem dX7_count_81 : decode cX7_count 81 = .ok (.istore 4, 2) := by decide +kernel
theorem dX7_count_83 : decode cX7_count 83 = .ok (.iload 4, 2) := by decide +kernel
theorem dX7_count_85 : decode cX7_count 85 = .ok (.aload_n 0, 1) := by decide +kernel
theorem dX7_count_86 : decode cX7_count 86 = .ok (.getfield 84, 3) := by decide +kernel
theorem dX7_count_89 : decode cX7_count 89 = .ok (.if_icmp .ge 19, 3) := by decide +kernel
theorem dX7_count_92 : decode cX7_count 92 = .ok (.iload_n 3, 1) := by decide +kernel
theorem dX7_count_93 : decode cX7_count 93 = .ok (.aload_n 0, 1) := by decide +kernel
theorem dX7_count_94 : decode cX7_count 94 = .ok (.getfield 26, 3) := by decide +kernel
theorem dX7_count_97 : decode cX7_count 97 = .ok (.iload 4, 2) := by decide +kernel
theorem dX7_count_99 : decode cX7_count 99 = .ok (.iaload, 1) := by decide +kernel
theorem dX7_count_100 : decode cX7_count 100 = .ok (.ior, 1) := by decide +kernel
theorem dX7_count_101 : decode cX7_count 101 = .ok (.istore_n 3, 1) := by decide +kernel
theorem dX7_count_102 : decode cX7_count 102 = .ok (.iinc 4 1, 3) := by decide +kernel
theorem dX7_count_105 : decode cX7_count 105 = .ok (.goto (-22), 3) := by decide +kernel
theorem dX7_count_108 : decode cX7_count 108 = .ok (.iconst 0, 1) := by decide +kernel
theorem dX7_count_109 : decode cX7_count 109 = .ok (.istore 4, 2) := by decide +kernel
theorem dX7_count_111 : decode cX7_count 111 = .ok (.iload 4, 2) := by decide +kernel
theorem dX7_count_113 : decode cX7_count 113 = .ok (.aload_n 0, 1) := by decide +kernel
theorem dX7_count_114 : decode cX7_count 114 = .ok (.getfield 84, 3) := by decide +kernel
theorem dX7_count_117 : decode cX7_count 117 = .ok (.if_icmp .ge 18, 3) := by decide +kernel
theorem dX7_count_120 : decode cX7_count 120 = .ok (.iload_n 2, 1) := by decide +kernel
theorem dX7_count_121 : decode cX7_count 121 = .ok (.iload_n 3, 1) := by decide +kernel
theorem dX7_count_122 : decode cX7_count 122 = .ok (.iload 4, 2) := by decide +kernel
theorem dX7_count_124 : decode cX7_count 124 = .ok (.ishr, 1) := by decide +kernel
theorem dX7_count_125 : decode cX7_count 125 = .ok (.iconst 1, 1) := by decide +kernel
theorem dX7_count_126 : decode cX7_count 126 = .ok (.iand, 1) := by decide +kernel
theorem dX7_count_127 : decode cX7_count 127 = .ok (.iadd, 1) := by decide +kernel
theorem dX7_count_128 : decode cX7_count 128 = .ok (.istore_n 2, 1) := by decide +kernel
theorem dX7_count_129 : decode cX7_count 129 = .ok (.iinc 4 1, 3) := by decide +kernel
theorem dX7_count_132 : decode cX7_count 132 = .ok (.goto (-21), 3) := by decide +kernel
theorem dX7_count_135 : decode cX7_count 135 = .ok (.iload_n 2, 1) := by decide +kernel
theorem dX7_count_136 : decode cX7_count 136 = .ok (.ireturn, 1) := by decide +kernel
theorem dX7_count_137 : decode cX7_count 137 = .ok (.iconst (-1), 1) := by decide +kernel
theorem dX7_count_138 : decode cX7_count 138 = .ok (.ireturn, 1) := by decide +kernel
end
section
theorem dL_law_0 : decode cL_law 0 = .ok (.new 7, 3) := by decide +kernel
theorem dL_law_3 : decode cL_law 3 = .ok (.dup, 1) := by decide +kernel
theorem dL_law_4 : decode cL_law 4 = .ok (.invokespecial 9, 3) := by decide +kernel
theorem dL_law_7 : decode cL_law 7 = .ok (.astore_n 1, 1) := by decide +kernel
theorem dL_law_8 : decode cL_law 8 = .ok (.new 10, 3) := by decide +kernel
theorem dL_law_11 : decode cL_law 11 = .ok (.dup, 1) := by decide +kernel
theorem dL_law_12 : decode cL_law 12 = .ok (.invokespecial 12, 3) := by decide +kernel
theorem dL_law_15 : decode cL_law 15 = .ok (.astore_n 2, 1) := by decide +kernel
theorem dL_law_16 : decode cL_law 16 = .ok (.iconst 0, 1) := by decide +kernel
theorem dL_law_17 : decode cL_law 17 = .ok (.istore_n 3, 1) := by decide +kernel
theorem dL_law_18 : decode cL_law 18 = .ok (.iload_n 3, 1) := by decide +kernel
theorem dL_law_19 : decode cL_law 19 = .ok (.aload_n 0, 1) := by decide +kernel
theorem dL_law_20 : decode cL_law 20 = .ok (.arraylength, 1) := by decide +kernel
theorem dL_law_21 : decode cL_law 21 = .ok (.bipush 6, 2) := by decide +kernel
theorem dL_law_23 : decode cL_law 23 = .ok (.isub, 1) := by decide +kernel
theorem dL_law_24 : decode cL_law 24 = .ok (.if_icmp .gt 784, 3) := by decide +kernel
theorem dL_law_27 : decode cL_law 27 = .ok (.aload_n 0, 1) := by decide +kernel
theorem dL_law_28 : decode cL_law 28 = .ok (.iload_n 3, 1) := by decide +kernel
theorem dL_law_29 : decode cL_law 29 = .ok (.iaload, 1) := by decide +kernel
theorem dL_law_30 : decode cL_law 30 = .ok (.bipush 31, 2) := by decide +kernel
theorem dL_law_32 : decode cL_law 32 = .ok (.iand, 1) := by decide +kernel
theorem dL_law_33 : decode cL_law 33 = .ok (.tableswitch 769 0 21 #[103, 166, 209, 242, 275, 308, 341, 374, 407, 440, 473, 496, 509, 542, 575, 598, 621, 654, 667, 680, 703, 746], 103) := by decide +kernel
theorem dL_law_136 : decode cL_law 136 = .ok (.aload_n 1, 1) := by decide +kernel
theorem dL_law_137 : decode cL_law 137 = .ok (.aload_n 0, 1) := by decide +kernel
theorem dL_law_138 : decode cL_law 138 = .ok (.iload_n 3, 1) := by decide +kernel
theorem dL_law_139 : decode cL_law 139 = .ok (.iconst 1, 1) := by decide +kernel
theorem dL_law_140 : decode cL_law 140 = .ok (.iadd, 1) := by decide +kernel
theorem dL_law_141 : decode cL_law 141 = .ok (.iaload, 1) := by decide +kernel
theorem dL_law_142 : decode cL_law 142 = .ok (.aload_n 0, 1) := by decide +kernel
theorem dL_law_143 : decode cL_law 143 = .ok (.iload_n 3, 1) := by decide +kernel
theorem dL_law_144 : decode cL_law 144 = .ok (.iconst 2, 1) := by decide +kernel
theorem dL_law_145 : decode cL_law 145 = .ok (.iadd, 1) := by decide +kernel
theorem dL_law_146 : decode cL_law 146 = .ok (.iaload, 1) := by decide +kernel
theorem dL_law_147 : decode cL_law 147 = .ok (.aload_n 0, 1) := by decide +kernel
theorem dL_law_148 : decode cL_law 148 = .ok (.iload_n 3, 1) := by decide +kernel
theorem dL_law_149 : decode cL_law 149 = .ok (.iconst 3, 1) := by decide +kernel
theorem dL_law_150 : decode cL_law 150 = .ok (.iadd, 1) := by decide +kernel
theorem dL_law_151 : decode cL_law 151 = .ok (.iaload, 1) := by decide +kernel
theorem dL_law_152 : decode cL_law 152 = .ok (.aload_n 0, 1) := by decide +kernel
theorem dL_law_153 : decode cL_law 153 = .ok (.iload_n 3, 1) := by decide +kernel
theorem dL_law_154 : decode cL_law 154 = .ok (.iconst 4, 1) := by decide +kernel
theorem dL_law_155 : decode cL_law 155 = .ok (.iadd, 1) := by decide +kernel
theorem dL_law_156 : decode cL_law 156 = .ok (.iaload, 1) := by decide +kernel
theorem dL_law_157 : decode cL_law 157 = .ok (.aload_n 0, 1) := by decide +kernel
theorem dL_law_158 : decode cL_law 158 = .ok (.iload_n 3, 1) := by decide +kernel
theorem dL_law_159 : decode cL_law 159 = .ok (.iconst 5, 1) := by decide +kernel
theorem dL_law_160 : decode cL_law 160 = .ok (.iadd, 1) := by decide +kernel
theorem dL_law_161 : decode cL_law 161 = .ok (.iaload, 1) := by decide +kernel
theorem dL_law_162 : decode cL_law 162 = .ok (.invokevirtual 13, 3) := by decide +kernel
theorem dL_law_165 : decode cL_law 165 = .ok (.aload_n 2, 1) := by decide +kernel
theorem dL_law_166 : decode cL_law 166 = .ok (.aload_n 0, 1) := by decide +kernel
theorem dL_law_167 : decode cL_law 167 = .ok (.iload_n 3, 1) := by decide +kernel
theorem dL_law_168 : decode cL_law 168 = .ok (.iconst 1, 1) := by decide +kernel
theorem dL_law_169 : decode cL_law 169 = .ok (.iadd, 1) := by decide +kernel
theorem dL_law_170 : decode cL_law 170 = .ok (.iaload, 1) := by decide +kernel
theorem dL_law_171 : decode cL_law 171 = .ok (.aload_n 0, 1) := by decide +kernel
theorem dL_law_172 : decode cL_law 172 = .ok (.iload_n 3, 1) := by decide +kernel
theorem dL_law_173 : decode cL_law 173 = .ok (.iconst 2, 1) := by decide +kernel
theorem dL_law_174 : decode cL_law 174 = .ok (.iadd, 1) := by decide +kernel
theorem dL_law_175 : decode cL_law 175 = .ok (.iaload, 1) := by decide +kernel
theorem dL_law_176 : decode cL_law 176 = .ok (.aload_n 0, 1) := by decide +kernel
theorem dL_law_177 : decode cL_law 177 = .ok (.iload_n 3, 1) := by decide +kernel
theorem dL_law_178 : decode cL_law 178 = .ok (.iconst 3, 1) := by decide +kernel
theorem dL_law_179 : decode cL_law 179 = .ok (.iadd, 1) := by decide +kernel
theorem dL_law_180 : decode cL_law 180 = .ok (.iaload, 1) := by decide +kernel
theorem dL_law_181 : decode cL_law 181 = .ok (.aload_n 0, 1) := by decide +kernel
theorem dL_law_182 : decode cL_law 182 = .ok (.iload_n 3, 1) := by decide +kernel
theorem dL_law_183 : decode cL_law 183 = .ok (.iconst 4, 1) := by decide +kernel
theorem dL_law_184 : decode cL_law 184 = .ok (.iadd, 1) := by decide +kernel
theorem dL_law_185 : decode cL_law 185 = .ok (.iaload, 1) := by decide +kernel
theorem dL_law_186 : decode cL_law 186 = .ok (.aload_n 0, 1) := by decide +kernel
theorem dL_law_187 : decode cL_law 187 = .ok (.iload_n 3, 1) := by decide +kernel
theorem dL_law_188 : decode cL_law 188 = .ok (.iconst 5, 1) := by decide +kernel
theorem dL_law_189 : decode cL_law 189 = .ok (.iadd, 1) := by decide +kernel
theorem dL_law_190 : decode cL_law 190 = .ok (.iaload, 1) := by decide +kernel
theorem dL_law_191 : decode cL_law 191 = .ok (.invokevirtual 17, 3) := by decide +kernel
theorem dL_law_194 : decode cL_law 194 = .ok (.if_icmp .eq 608, 3) := by decide +kernel
theorem dL_law_197 : decode cL_law 197 = .ok (.iconst 0, 1) := by decide +kernel
theorem dL_law_198 : decode cL_law 198 = .ok (.ireturn, 1) := by decide +kernel
theorem dL_law_199 : decode cL_law 199 = .ok (.aload_n 1, 1) := by decide +kernel
theorem dL_law_200 : decode cL_law 200 = .ok (.aload_n 0, 1) := by decide +kernel
theorem dL_law_201 : decode cL_law 201 = .ok (.iload_n 3, 1) := by decide +kernel
theorem dL_law_202 : decode cL_law 202 = .ok (.iconst 1, 1) := by decide +kernel
theorem dL_law_203 : decode cL_law 203 = .ok (.iadd, 1) := by decide +kernel
theorem dL_law_204 : decode cL_law 204 = .ok (.iaload, 1) := by decide +kernel
theorem dL_law_205 : decode cL_law 205 = .ok (.aload_n 0, 1) := by decide +kernel
theorem dL_law_206 : decode cL_law 206 = .ok (.iload_n 3, 1) := by decide +kernel
theorem dL_law_207 : decode cL_law 207 = .ok (.iconst 2, 1) := by decide +kernel
theorem dL_law_208 : decode cL_law 208 = .ok (.iadd, 1) := by decide +kernel
theorem dL_law_209 : decode cL_law 209 = .ok (.iaload, 1) := by decide +kernel
theorem dL_law_210 : decode cL_law 210 = .ok (.aload_n 0, 1) := by decide +kernel
theorem dL_law_211 : decode cL_law 211 = .ok (.iload_n 3, 1) := by decide +kernel
theorem dL_law_212 : decode cL_law 212 = .ok (.iconst 3, 1) := by decide +kernel
theorem dL_law_213 : decode cL_law 213 = .ok (.iadd, 1) := by decide +kernel
theorem dL_law_214 : decode cL_law 214 = .ok (.iaload, 1) := by decide +kernel
theorem dL_law_215 : decode cL_law 215 = .ok (.invokevirtual 18, 3) := by decide +kernel
theorem dL_law_218 : decode cL_law 218 = .ok (.aload_n 2, 1) := by decide +kernel
theorem dL_law_219 : decode cL_law 219 = .ok (.aload_n 0, 1) := by decide +kernel
theorem dL_law_220 : decode cL_law 220 = .ok (.iload_n 3, 1) := by decide +kernel
theorem dL_law_221 : decode cL_law 221 = .ok (.iconst 1, 1) := by decide +kernel
theorem dL_law_222 : decode cL_law 222 = .ok (.iadd, 1) := by decide +kernel
theorem dL_law_223 : decode cL_law 223 = .ok (.iaload, 1) := by decide +kernel
theorem dL_law_224 : decode cL_law 224 = .ok (.aload_n 0, 1) := by decide +kernel
theorem dL_law_225 : decode cL_law 225 = .ok (.iload_n 3, 1) := by decide +kernel
theorem dL_law_226 : decode cL_law 226 = .ok (.iconst 2, 1) := by decide +kernel
theorem dL_law_227 : decode cL_law 227 = .ok (.iadd, 1) := by decide +kernel
theorem dL_law_228 : decode cL_law 228 = .ok (.iaload, 1) := by decide +kernel
theorem dL_law_229 : decode cL_law 229 = .ok (.aload_n 0, 1) := by decide +kernel
theorem dL_law_230 : decode cL_law 230 = .ok (.iload_n 3, 1) := by decide +kernel
theorem dL_law_231 : decode cL_law 231 = .ok (.iconst 3, 1) := by decide +kernel
theorem dL_law_232 : decode cL_law 232 = .ok (.iadd, 1) := by decide +kernel
theorem dL_law_233 : decode cL_law 233 = .ok (.iaload, 1) := by decide +kernel
theorem dL_law_234 : decode cL_law 234 = .ok (.invokevirtual 22, 3) := by decide +kernel
theorem dL_law_237 : decode cL_law 237 = .ok (.if_icmp .eq 565, 3) := by decide +kernel
theorem dL_law_240 : decode cL_law 240 = .ok (.iconst 0, 1) := by decide +kernel
theorem dL_law_241 : decode cL_law 241 = .ok (.ireturn, 1) := by decide +kernel
theorem dL_law_242 : decode cL_law 242 = .ok (.aload_n 1, 1) := by decide +kernel
theorem dL_law_243 : decode cL_law 243 = .ok (.aload_n 0, 1) := by decide +kernel
theorem dL_law_244 : decode cL_law 244 = .ok (.iload_n 3, 1) := by decide +kernel
theorem dL_law_245 : decode cL_law 245 = .ok (.iconst 1, 1) := by decide +kernel
theorem dL_law_246 : decode cL_law 246 = .ok (.iadd, 1) := by decide +kernel
theorem dL_law_247 : decode cL_law 247 = .ok (.iaload, 1) := by decide +kernel
theorem dL_law_248 : decode cL_law 248 = .ok (.aload_n 0, 1) := by decide +kernel
theorem dL_law_249 : decode cL_law 249 = .ok (.iload_n 3, 1) := by decide +kernel
theorem dL_law_250 : decode cL_law 250 = .ok (.iconst 2, 1) := by decide +kernel
theorem dL_law_251 : decode cL_law 251 = .ok (.iadd, 1) := by decide +kernel
theorem dL_law_252 : decode cL_law 252 = .ok (.iaload, 1) := by decide +kernel
theorem dL_law_253 : decode cL_law 253 = .ok (.invokevirtual 23, 3) := by decide +kernel
theorem dL_law_256 : decode cL_law 256 = .ok (.aload_n 2, 1) := by decide +kernel
theorem dL_law_257 : decode cL_law 257 = .ok (.aload_n 0, 1) := by decide +kernel
theorem dL_law_258 : decode cL_law 258 = .ok (.iload_n 3, 1) := by decide +kernel
theorem dL_law_259 : decode cL_law 259 = .ok (.iconst 1, 1) := by decide +kernel
theorem dL_law_260 : decode cL_law 260 = .ok (.iadd, 1) := by decide +kernel
theorem dL_law_261 : decode cL_law 261 = .ok (.iaload, 1) := by decide +kernel
theorem dL_law_262 : decode cL_law 262 = .ok (.aload_n 0, 1) := by decide +kernel
theorem dL_law_263 : decode cL_law 263 = .ok (.iload_n 3, 1) := by decide +kernel
theorem dL_law_264 : decode cL_law 264 = .ok (.iconst 2, 1) := by decide +kernel
theorem dL_law_265 : decode cL_law 265 = .ok (.iadd, 1) := by decide +kernel
theorem dL_law_266 : decode cL_law 266 = .ok (.iaload, 1) := by decide +kernel
theorem dL_law_267 : decode cL_law 267 = .ok (.invokevirtual 27, 3) := by decide +kernel
theorem dL_law_270 : decode cL_law 270 = .ok (.if_icmp .eq 532, 3) := by decide +kernel
theorem dL_law_273 : decode cL_law 273 = .ok (.iconst 0, 1) := by decide +kernel
theorem dL_law_274 : decode cL_law 274 = .ok (.ireturn, 1) := by decide +kernel
theorem dL_law_275 : decode cL_law 275 = .ok (.aload_n 1, 1) := by decide +kernel
theorem dL_law_276 : decode cL_law 276 = .ok (.aload_n 0, 1) := by decide +kernel
theorem dL_law_277 : decode cL_law 277 = .ok (.iload_n 3, 1) := by decide +kernel
theorem dL_law_278 : decode cL_law 278 = .ok (.iconst 1, 1) := by decide +kernel
theorem dL_law_279 : decode cL_law 279 = .ok (.iadd, 1) := by decide +kernel
theorem dL_law_280 : decode cL_law 280 = .ok (.iaload, 1) := by decide +kernel
theorem dL_law_281 : decode cL_law 281 = .ok (.aload_n 0, 1) := by decide +kernel
theorem dL_law_282 : decode cL_law 282 = .ok (.iload_n 3, 1) := by decide +kernel
theorem dL_law_283 : decode cL_law 283 = .ok (.iconst 2, 1) := by decide +kernel
theorem dL_law_284 : decode cL_law 284 = .ok (.iadd, 1) := by decide +kernel
theorem dL_law_285 : decode cL_law 285 = .ok (.iaload, 1) := by decide +kernel
theorem dL_law_286 : decode cL_law 286 = .ok (.invokevirtual 28, 3) := by decide +kernel
theorem dL_law_289 : decode cL_law 289 = .ok (.aload_n 2, 1) := by decide +kernel
theorem dL_law_290 : decode cL_law 290 = .ok (.aload_n 0, 1) := by decide +kernel
theorem dL_law_291 : decode cL_law 291 = .ok (.iload_n 3, 1) := by decide +kernel
theorem dL_law_292 : decode cL_law 292 = .ok (.iconst 1, 1) := by decide +kernel
theorem dL_law_293 : decode cL_law 293 = .ok (.iadd, 1) := by decide +kernel
theorem dL_law_294 : decode cL_law 294 = .ok (.iaload, 1) := by decide +kernel
theorem dL_law_295 : decode cL_law 295 = .ok (.aload_n 0, 1) := by decide +kernel
theorem dL_law_296 : decode cL_law 296 = .ok (.iload_n 3, 1) := by decide +kernel
theorem dL_law_297 : decode cL_law 297 = .ok (.iconst 2, 1) := by decide +kernel
theorem dL_law_298 : decode cL_law 298 = .ok (.iadd, 1) := by decide +kernel
theorem dL_law_299 : decode cL_law 299 = .ok (.iaload, 1) := by decide +kernel
theorem dL_law_300 : decode cL_law 300 = .ok (.invokevirtual 31, 3) := by decide +kernel
theorem dL_law_303 : decode cL_law 303 = .ok (.if_icmp .eq 499, 3) := by decide +kernel
theorem dL_law_306 : decode cL_law 306 = .ok (.iconst 0, 1) := by decide +kernel
theorem dL_law_307 : decode cL_law 307 = .ok (.ireturn, 1) := by decide +kernel
theorem dL_law_308 : decode cL_law 308 = .ok (.aload_n 1, 1) := by decide +kernel
theorem dL_law_309 : decode cL_law 309 = .ok (.aload_n 0, 1) := by decide +kernel
theorem dL_law_310 : decode cL_law 310 = .ok (.iload_n 3, 1) := by decide +kernel
theorem dL_law_311 : decode cL_law 311 = .ok (.iconst 1, 1) := by decide +kernel
theorem dL_law_312 : decode cL_law 312 = .ok (.iadd, 1) := by decide +kernel
theorem dL_law_313 : decode cL_law 313 = .ok (.iaload, 1) := by decide +kernel
theorem dL_law_314 : decode cL_law 314 = .ok (.aload_n 0, 1) := by decide +kernel
theorem dL_law_315 : decode cL_law 315 = .ok (.iload_n 3, 1) := by decide +kernel
theorem dL_law_316 : decode cL_law 316 = .ok (.iconst 2, 1) := by decide +kernel
theorem dL_law_317 : decode cL_law 317 = .ok (.iadd, 1) := by decide +kernel
theorem dL_law_318 : decode cL_law 318 = .ok (.iaload, 1) := by decide +kernel
theorem dL_law_319 : decode cL_law 319 = .ok (.invokevirtual 32, 3) := by decide +kernel
theorem dL_law_322 : decode cL_law 322 = .ok (.aload_n 2, 1) := by decide +kernel
theorem dL_law_323 : decode cL_law 323 = .ok (.aload_n 0, 1) := by decide +kernel
theorem dL_law_324 : decode cL_law 324 = .ok (.iload_n 3, 1) := by decide +kernel
theorem dL_law_325 : decode cL_law 325 = .ok (.iconst 1, 1) := by decide +kernel
theorem dL_law_326 : decode cL_law 326 = .ok (.iadd, 1) := by decide +kernel
theorem dL_law_327 : decode cL_law 327 = .ok (.iaload, 1) := by decide +kernel
theorem dL_law_328 : decode cL_law 328 = .ok (.aload_n 0, 1) := by decide +kernel
theorem dL_law_329 : decode cL_law 329 = .ok (.iload_n 3, 1) := by decide +kernel
theorem dL_law_330 : decode cL_law 330 = .ok (.iconst 2, 1) := by decide +kernel
theorem dL_law_331 : decode cL_law 331 = .ok (.iadd, 1) := by decide +kernel
theorem dL_law_332 : decode cL_law 332 = .ok (.iaload, 1) := by decide +kernel
theorem dL_law_333 : decode cL_law 333 = .ok (.invokevirtual 35, 3) := by decide +kernel
theorem dL_law_336 : decode cL_law 336 = .ok (.if_icmp .eq 466, 3) := by decide +kernel
theorem dL_law_339 : decode cL_law 339 = .ok (.iconst 0, 1) := by decide +kernel
theorem dL_law_340 : decode cL_law 340 = .ok (.ireturn, 1) := by decide +kernel
theorem dL_law_341 : decode cL_law 341 = .ok (.aload_n 1, 1) := by decide +kernel
theorem dL_law_342 : decode cL_law 342 = .ok (.aload_n 0, 1) := by decide +kernel
theorem dL_law_343 : decode cL_law 343 = .ok (.iload_n 3, 1) := by decide +kernel
theorem dL_law_344 : decode cL_law 344 = .ok (.iconst 1, 1) := by decide +kernel
theorem dL_law_345 : decode cL_law 345 = .ok (.iadd, 1) := by decide +kernel
theorem dL_law_346 : decode cL_law 346 = .ok (.iaload, 1) := by decide +kernel
theorem dL_law_347 : decode cL_law 347 = .ok (.aload_n 0, 1) := by decide +kernel
theorem dL_law_348 : decode cL_law 348 = .ok (.iload_n 3, 1) := by decide +kernel
theorem dL_law_349 : decode cL_law 349 = .ok (.iconst 2, 1) := by decide +kernel
theorem dL_law_350 : decode cL_law 350 = .ok (.iadd, 1) := by decide +kernel
theorem dL_law_351 : decode cL_law 351 = .ok (.iaload, 1) := by decide +kernel
theorem dL_law_352 : decode cL_law 352 = .ok (.invokevirtual 36, 3) := by decide +kernel
theorem dL_law_355 : decode cL_law 355 = .ok (.aload_n 2, 1) := by decide +kernel
theorem dL_law_356 : decode cL_law 356 = .ok (.aload_n 0, 1) := by decide +kernel
theorem dL_law_357 : decode cL_law 357 = .ok (.iload_n 3, 1) := by decide +kernel
theorem dL_law_358 : decode cL_law 358 = .ok (.iconst 1, 1) := by decide +kernel
theorem dL_law_359 : decode cL_law 359 = .ok (.iadd, 1) := by decide +kernel
theorem dL_law_360 : decode cL_law 360 = .ok (.iaload, 1) := by decide +kernel
theorem dL_law_361 : decode cL_law 361 = .ok (.aload_n 0, 1) := by decide +kernel
theorem dL_law_362 : decode cL_law 362 = .ok (.iload_n 3, 1) := by decide +kernel
theorem dL_law_363 : decode cL_law 363 = .ok (.iconst 2, 1) := by decide +kernel
theorem dL_law_364 : decode cL_law 364 = .ok (.iadd, 1) := by decide +kernel
theorem dL_law_365 : decode cL_law 365 = .ok (.iaload, 1) := by decide +kernel
theorem dL_law_366 : decode cL_law 366 = .ok (.invokevirtual 39, 3) := by decide +kernel
theorem dL_law_369 : decode cL_law 369 = .ok (.if_icmp .eq 433, 3) := by decide +kernel
theorem dL_law_372 : decode cL_law 372 = .ok (.iconst 0, 1) := by decide +kernel
theorem dL_law_373 : decode cL_law 373 = .ok (.ireturn, 1) := by decide +kernel
theorem dL_law_374 : decode cL_law 374 = .ok (.aload_n 1, 1) := by decide +kernel
theorem dL_law_375 : decode cL_law 375 = .ok (.aload_n 0, 1) := by decide +kernel
theorem dL_law_376 : decode cL_law 376 = .ok (.iload_n 3, 1) := by decide +kernel
theorem dL_law_377 : decode cL_law 377 = .ok (.iconst 1, 1) := by decide +kernel
theorem dL_law_378 : decode cL_law 378 = .ok (.iadd, 1) := by decide +kernel
theorem dL_law_379 : decode cL_law 379 = .ok (.iaload, 1) := by decide +kernel
theorem dL_law_380 : decode cL_law 380 = .ok (.aload_n 0, 1) := by decide +kernel
theorem dL_law_381 : decode cL_law 381 = .ok (.iload_n 3, 1) := by decide +kernel
theorem dL_law_382 : decode cL_law 382 = .ok (.iconst 2, 1) := by decide +kernel
theorem dL_law_383 : decode cL_law 383 = .ok (.iadd, 1) := by decide +kernel
theorem dL_law_384 : decode cL_law 384 = .ok (.iaload, 1) := by decide +kernel
theorem dL_law_385 : decode cL_law 385 = .ok (.invokevirtual 40, 3) := by decide +kernel
theorem dL_law_388 : decode cL_law 388 = .ok (.aload_n 2, 1) := by decide +kernel
theorem dL_law_389 : decode cL_law 389 = .ok (.aload_n 0, 1) := by decide +kernel
theorem dL_law_390 : decode cL_law 390 = .ok (.iload_n 3, 1) := by decide +kernel
theorem dL_law_391 : decode cL_law 391 = .ok (.iconst 1, 1) := by decide +kernel
theorem dL_law_392 : decode cL_law 392 = .ok (.iadd, 1) := by decide +kernel
theorem dL_law_393 : decode cL_law 393 = .ok (.iaload, 1) := by decide +kernel
theorem dL_law_394 : decode cL_law 394 = .ok (.aload_n 0, 1) := by decide +kernel
theorem dL_law_395 : decode cL_law 395 = .ok (.iload_n 3, 1) := by decide +kernel
theorem dL_law_396 : decode cL_law 396 = .ok (.iconst 2, 1) := by decide +kernel
theorem dL_law_397 : decode cL_law 397 = .ok (.iadd, 1) := by decide +kernel
theorem dL_law_398 : decode cL_law 398 = .ok (.iaload, 1) := by decide +kernel
theorem dL_law_399 : decode cL_law 399 = .ok (.invokevirtual 43, 3) := by decide +kernel
theorem dL_law_402 : decode cL_law 402 = .ok (.if_icmp .eq 400, 3) := by decide +kernel
theorem dL_law_405 : decode cL_law 405 = .ok (.iconst 0, 1) := by decide +kernel
theorem dL_law_406 : decode cL_law 406 = .ok (.ireturn, 1) := by decide +kernel
theorem dL_law_407 : decode cL_law 407 = .ok (.aload_n 1, 1) := by decide +kernel
theorem dL_law_408 : decode cL_law 408 = .ok (.aload_n 0, 1) := by decide +kernel
theorem dL_law_409 : decode cL_law 409 = .ok (.iload_n 3, 1) := by decide +kernel
theorem dL_law_410 : decode cL_law 410 = .ok (.iconst 1, 1) := by decide +kernel
theorem dL_law_411 : decode cL_law 411 = .ok (.iadd, 1) := by decide +kernel
theorem dL_law_412 : decode cL_law 412 = .ok (.iaload, 1) := by decide +kernel
theorem dL_law_413 : decode cL_law 413 = .ok (.aload_n 0, 1) := by decide +kernel
theorem dL_law_414 : decode cL_law 414 = .ok (.iload_n 3, 1) := by decide +kernel
theorem dL_law_415 : decode cL_law 415 = .ok (.iconst 2, 1) := by decide +kernel
theorem dL_law_416 : decode cL_law 416 = .ok (.iadd, 1) := by decide +kernel
theorem dL_law_417 : decode cL_law 417 = .ok (.iaload, 1) := by decide +kernel
theorem dL_law_418 : decode cL_law 418 = .ok (.invokevirtual 44, 3) := by decide +kernel
theorem dL_law_421 : decode cL_law 421 = .ok (.aload_n 2, 1) := by decide +kernel
theorem dL_law_422 : decode cL_law 422 = .ok (.aload_n 0, 1) := by decide +kernel
theorem dL_law_423 : decode cL_law 423 = .ok (.iload_n 3, 1) := by decide +kernel
theorem dL_law_424 : decode cL_law 424 = .ok (.iconst 1, 1) := by decide +kernel
theorem dL_law_425 : decode cL_law 425 = .ok (.iadd, 1) := by decide +kernel
theorem dL_law_426 : decode cL_law 426 = .ok (.iaload, 1) := by decide +kernel
theorem dL_law_427 : decode cL_law 427 = .ok (.aload_n 0, 1) := by decide +kernel
theorem dL_law_428 : decode cL_law 428 = .ok (.iload_n 3, 1) := by decide +kernel
theorem dL_law_429 : decode cL_law 429 = .ok (.iconst 2, 1) := by decide +kernel
theorem dL_law_430 : decode cL_law 430 = .ok (.iadd, 1) := by decide +kernel
theorem dL_law_431 : decode cL_law 431 = .ok (.iaload, 1) := by decide +kernel
theorem dL_law_432 : decode cL_law 432 = .ok (.invokevirtual 47, 3) := by decide +kernel
theorem dL_law_435 : decode cL_law 435 = .ok (.if_icmp .eq 367, 3) := by decide +kernel
theorem dL_law_438 : decode cL_law 438 = .ok (.iconst 0, 1) := by decide +kernel
theorem dL_law_439 : decode cL_law 439 = .ok (.ireturn, 1) := by decide +kernel
theorem dL_law_440 : decode cL_law 440 = .ok (.aload_n 1, 1) := by decide +kernel
theorem dL_law_441 : decode cL_law 441 = .ok (.aload_n 0, 1) := by decide +kernel
theorem dL_law_442 : decode cL_law 442 = .ok (.iload_n 3, 1) := by decide +kernel
theorem dL_law_443 : decode cL_law 443 = .ok (.iconst 1, 1) := by decide +kernel
theorem dL_law_444 : decode cL_law 444 = .ok (.iadd, 1) := by decide +kernel
theorem dL_law_445 : decode cL_law 445 = .ok (.iaload, 1) := by decide +kernel
theorem dL_law_446 : decode cL_law 446 = .ok (.aload_n 0, 1) := by decide +kernel
theorem dL_law_447 : decode cL_law 447 = .ok (.iload_n 3, 1) := by decide +kernel
theorem dL_law_448 : decode cL_law 448 = .ok (.iconst 2, 1) := by decide +kernel
theorem dL_law_449 : decode cL_law 449 = .ok (.iadd, 1) := by decide +kernel
theorem dL_law_450 : decode cL_law 450 = .ok (.iaload, 1) := by decide +kernel
theorem dL_law_451 : decode cL_law 451 = .ok (.invokevirtual 48, 3) := by decide +kernel
theorem dL_law_454 : decode cL_law 454 = .ok (.aload_n 2, 1) := by decide +kernel
theorem dL_law_455 : decode cL_law 455 = .ok (.aload_n 0, 1) := by decide +kernel
theorem dL_law_456 : decode cL_law 456 = .ok (.iload_n 3, 1) := by decide +kernel
theorem dL_law_457 : decode cL_law 457 = .ok (.iconst 1, 1) := by decide +kernel
theorem dL_law_458 : decode cL_law 458 = .ok (.iadd, 1) := by decide +kernel
theorem dL_law_459 : decode cL_law 459 = .ok (.iaload, 1) := by decide +kernel
theorem dL_law_460 : decode cL_law 460 = .ok (.aload_n 0, 1) := by decide +kernel
theorem dL_law_461 : decode cL_law 461 = .ok (.iload_n 3, 1) := by decide +kernel
theorem dL_law_462 : decode cL_law 462 = .ok (.iconst 2, 1) := by decide +kernel
theorem dL_law_463 : decode cL_law 463 = .ok (.iadd, 1) := by decide +kernel
theorem dL_law_464 : decode cL_law 464 = .ok (.iaload, 1) := by decide +kernel
theorem dL_law_465 : decode cL_law 465 = .ok (.invokevirtual 51, 3) := by decide +kernel
theorem dL_law_468 : decode cL_law 468 = .ok (.if_icmp .eq 334, 3) := by decide +kernel
theorem dL_law_471 : decode cL_law 471 = .ok (.iconst 0, 1) := by decide +kernel
theorem dL_law_472 : decode cL_law 472 = .ok (.ireturn, 1) := by decide +kernel
theorem dL_law_473 : decode cL_law 473 = .ok (.aload_n 1, 1) := by decide +kernel
theorem dL_law_474 : decode cL_law 474 = .ok (.aload_n 0, 1) := by decide +kernel
theorem dL_law_475 : decode cL_law 475 = .ok (.iload_n 3, 1) := by decide +kernel
theorem dL_law_476 : decode cL_law 476 = .ok (.iconst 1, 1) := by decide +kernel
theorem dL_law_477 : decode cL_law 477 = .ok (.iadd, 1) := by decide +kernel
theorem dL_law_478 : decode cL_law 478 = .ok (.iaload, 1) := by decide +kernel
theorem dL_law_479 : decode cL_law 479 = .ok (.aload_n 0, 1) := by decide +kernel
theorem dL_law_480 : decode cL_law 480 = .ok (.iload_n 3, 1) := by decide +kernel
theorem dL_law_481 : decode cL_law 481 = .ok (.iconst 2, 1) := by decide +kernel
theorem dL_law_482 : decode cL_law 482 = .ok (.iadd, 1) := by decide +kernel
theorem dL_law_483 : decode cL_law 483 = .ok (.iaload, 1) := by decide +kernel
theorem dL_law_484 : decode cL_law 484 = .ok (.invokevirtual 52, 3) := by decide +kernel
theorem dL_law_487 : decode cL_law 487 = .ok (.aload_n 2, 1) := by decide +kernel
theorem dL_law_488 : decode cL_law 488 = .ok (.aload_n 0, 1) := by decide +kernel
theorem dL_law_489 : decode cL_law 489 = .ok (.iload_n 3, 1) := by decide +kernel
theorem dL_law_490 : decode cL_law 490 = .ok (.iconst 1, 1) := by decide +kernel
theorem dL_law_491 : decode cL_law 491 = .ok (.iadd, 1) := by decide +kernel
theorem dL_law_492 : decode cL_law 492 = .ok (.iaload, 1) := by decide +kernel
theorem dL_law_493 : decode cL_law 493 = .ok (.aload_n 0, 1) := by decide +kernel
theorem dL_law_494 : decode cL_law 494 = .ok (.iload_n 3, 1) := by decide +kernel
theorem dL_law_495 : decode cL_law 495 = .ok (.iconst 2, 1) := by decide +kernel
theorem dL_law_496 : decode cL_law 496 = .ok (.iadd, 1) := by decide +kernel
theorem dL_law_497 : decode cL_law 497 = .ok (.iaload, 1) := by decide +kernel
theorem dL_law_498 : decode cL_law 498 = .ok (.invokevirtual 55, 3) := by decide +kernel
theorem dL_law_501 : decode cL_law 501 = .ok (.if_icmp .eq 301, 3) := by decide +kernel
theorem dL_law_504 : decode cL_law 504 = .ok (.iconst 0, 1) := by decide +kernel
theorem dL_law_505 : decode cL_law 505 = .ok (.ireturn, 1) := by decide +kernel
theorem dL_law_506 : decode cL_law 506 = .ok (.aload_n 1, 1) := by decide +kernel
theorem dL_law_507 : decode cL_law 507 = .ok (.aload_n 0, 1) := by decide +kernel
theorem dL_law_508 : decode cL_law 508 = .ok (.iload_n 3, 1) := by decide +kernel
theorem dL_law_509 : decode cL_law 509 = .ok (.iconst 1, 1) := by decide +kernel
theorem dL_law_510 : decode cL_law 510 = .ok (.iadd, 1) := by decide +kernel
theorem dL_law_511 : decode cL_law 511 = .ok (.iaload, 1) := by decide +kernel
theorem dL_law_512 : decode cL_law 512 = .ok (.invokevirtual 56, 3) := by decide +kernel
theorem dL_law_515 : decode cL_law 515 = .ok (.aload_n 2, 1) := by decide +kernel
theorem dL_law_516 : decode cL_law 516 = .ok (.aload_n 0, 1) := by decide +kernel
theorem dL_law_517 : decode cL_law 517 = .ok (.iload_n 3, 1) := by decide +kernel
theorem dL_law_518 : decode cL_law 518 = .ok (.iconst 1, 1) := by decide +kernel
theorem dL_law_519 : decode cL_law 519 = .ok (.iadd, 1) := by decide +kernel
theorem dL_law_520 : decode cL_law 520 = .ok (.iaload, 1) := by decide +kernel
theorem dL_law_521 : decode cL_law 521 = .ok (.invokevirtual 60, 3) := by decide +kernel
theorem dL_law_524 : decode cL_law 524 = .ok (.if_icmp .eq 278, 3) := by decide +kernel
theorem dL_law_527 : decode cL_law 527 = .ok (.iconst 0, 1) := by decide +kernel
theorem dL_law_528 : decode cL_law 528 = .ok (.ireturn, 1) := by decide +kernel
theorem dL_law_529 : decode cL_law 529 = .ok (.aload_n 1, 1) := by decide +kernel
theorem dL_law_530 : decode cL_law 530 = .ok (.invokevirtual 61, 3) := by decide +kernel
theorem dL_law_533 : decode cL_law 533 = .ok (.aload_n 2, 1) := by decide +kernel
theorem dL_law_534 : decode cL_law 534 = .ok (.invokevirtual 65, 3) := by decide +kernel
theorem dL_law_537 : decode cL_law 537 = .ok (.if_icmp .eq 265, 3) := by decide +kernel
theorem dL_law_540 : decode cL_law 540 = .ok (.iconst 0, 1) := by decide +kernel
theorem dL_law_541 : decode cL_law 541 = .ok (.ireturn, 1) := by decide +kernel
theorem dL_law_542 : decode cL_law 542 = .ok (.aload_n 1, 1) := by decide +kernel
theorem dL_law_543 : decode cL_law 543 = .ok (.aload_n 0, 1) := by decide +kernel
theorem dL_law_544 : decode cL_law 544 = .ok (.iload_n 3, 1) := by decide +kernel
theorem dL_law_545 : decode cL_law 545 = .ok (.iconst 1, 1) := by decide +kernel
theorem dL_law_546 : decode cL_law 546 = .ok (.iadd, 1) := by decide +kernel
theorem dL_law_547 : decode cL_law 547 = .ok (.iaload, 1) := by decide +kernel
theorem dL_law_548 : decode cL_law 548 = .ok (.aload_n 0, 1) := by decide +kernel
theorem dL_law_549 : decode cL_law 549 = .ok (.iload_n 3, 1) := by decide +kernel
theorem dL_law_550 : decode cL_law 550 = .ok (.iconst 2, 1) := by decide +kernel
theorem dL_law_551 : decode cL_law 551 = .ok (.iadd, 1) := by decide +kernel
theorem dL_law_552 : decode cL_law 552 = .ok (.iaload, 1) := by decide +kernel
theorem dL_law_553 : decode cL_law 553 = .ok (.invokevirtual 66, 3) := by decide +kernel
theorem dL_law_556 : decode cL_law 556 = .ok (.aload_n 2, 1) := by decide +kernel
theorem dL_law_557 : decode cL_law 557 = .ok (.aload_n 0, 1) := by decide +kernel
theorem dL_law_558 : decode cL_law 558 = .ok (.iload_n 3, 1) := by decide +kernel
theorem dL_law_559 : decode cL_law 559 = .ok (.iconst 1, 1) := by decide +kernel
theorem dL_law_560 : decode cL_law 560 = .ok (.iadd, 1) := by decide +kernel
theorem dL_law_561 : decode cL_law 561 = .ok (.iaload, 1) := by decide +kernel
theorem dL_law_562 : decode cL_law 562 = .ok (.aload_n 0, 1) := by decide +kernel
theorem dL_law_563 : decode cL_law 563 = .ok (.iload_n 3, 1) := by decide +kernel
theorem dL_law_564 : decode cL_law 564 = .ok (.iconst 2, 1) := by decide +kernel
theorem dL_law_565 : decode cL_law 565 = .ok (.iadd, 1) := by decide +kernel
theorem dL_law_566 : decode cL_law 566 = .ok (.iaload, 1) := by decide +kernel
theorem dL_law_567 : decode cL_law 567 = .ok (.invokevirtual 69, 3) := by decide +kernel
theorem dL_law_570 : decode cL_law 570 = .ok (.if_icmp .eq 232, 3) := by decide +kernel
theorem dL_law_573 : decode cL_law 573 = .ok (.iconst 0, 1) := by decide +kernel
theorem dL_law_574 : decode cL_law 574 = .ok (.ireturn, 1) := by decide +kernel
theorem dL_law_575 : decode cL_law 575 = .ok (.aload_n 1, 1) := by decide +kernel
theorem dL_law_576 : decode cL_law 576 = .ok (.aload_n 0, 1) := by decide +kernel
theorem dL_law_577 : decode cL_law 577 = .ok (.iload_n 3, 1) := by decide +kernel
theorem dL_law_578 : decode cL_law 578 = .ok (.iconst 1, 1) := by decide +kernel
theorem dL_law_579 : decode cL_law 579 = .ok (.iadd, 1) := by decide +kernel
theorem dL_law_580 : decode cL_law 580 = .ok (.iaload, 1) := by decide +kernel
theorem dL_law_581 : decode cL_law 581 = .ok (.aload_n 0, 1) := by decide +kernel
theorem dL_law_582 : decode cL_law 582 = .ok (.iload_n 3, 1) := by decide +kernel
theorem dL_law_583 : decode cL_law 583 = .ok (.iconst 2, 1) := by decide +kernel
theorem dL_law_584 : decode cL_law 584 = .ok (.iadd, 1) := by decide +kernel
theorem dL_law_585 : decode cL_law 585 = .ok (.iaload, 1) := by decide +kernel
theorem dL_law_586 : decode cL_law 586 = .ok (.invokevirtual 70, 3) := by decide +kernel
theorem dL_law_589 : decode cL_law 589 = .ok (.aload_n 2, 1) := by decide +kernel
theorem dL_law_590 : decode cL_law 590 = .ok (.aload_n 0, 1) := by decide +kernel
theorem dL_law_591 : decode cL_law 591 = .ok (.iload_n 3, 1) := by decide +kernel
theorem dL_law_592 : decode cL_law 592 = .ok (.iconst 1, 1) := by decide +kernel
theorem dL_law_593 : decode cL_law 593 = .ok (.iadd, 1) := by decide +kernel
theorem dL_law_594 : decode cL_law 594 = .ok (.iaload, 1) := by decide +kernel
theorem dL_law_595 : decode cL_law 595 = .ok (.aload_n 0, 1) := by decide +kernel
theorem dL_law_596 : decode cL_law 596 = .ok (.iload_n 3, 1) := by decide +kernel
theorem dL_law_597 : decode cL_law 597 = .ok (.iconst 2, 1) := by decide +kernel
theorem dL_law_598 : decode cL_law 598 = .ok (.iadd, 1) := by decide +kernel
theorem dL_law_599 : decode cL_law 599 = .ok (.iaload, 1) := by decide +kernel
theorem dL_law_600 : decode cL_law 600 = .ok (.invokevirtual 73, 3) := by decide +kernel
theorem dL_law_603 : decode cL_law 603 = .ok (.if_icmp .eq 199, 3) := by decide +kernel
theorem dL_law_606 : decode cL_law 606 = .ok (.iconst 0, 1) := by decide +kernel
theorem dL_law_607 : decode cL_law 607 = .ok (.ireturn, 1) := by decide +kernel
theorem dL_law_608 : decode cL_law 608 = .ok (.aload_n 1, 1) := by decide +kernel
theorem dL_law_609 : decode cL_law 609 = .ok (.aload_n 0, 1) := by decide +kernel
theorem dL_law_610 : decode cL_law 610 = .ok (.iload_n 3, 1) := by decide +kernel
theorem dL_law_611 : decode cL_law 611 = .ok (.iconst 1, 1) := by decide +kernel
theorem dL_law_612 : decode cL_law 612 = .ok (.iadd, 1) := by decide +kernel
theorem dL_law_613 : decode cL_law 613 = .ok (.iaload, 1) := by decide +kernel
theorem dL_law_614 : decode cL_law 614 = .ok (.invokevirtual 74, 3) := by decide +kernel
theorem dL_law_617 : decode cL_law 617 = .ok (.aload_n 2, 1) := by decide +kernel
theorem dL_law_618 : decode cL_law 618 = .ok (.aload_n 0, 1) := by decide +kernel
theorem dL_law_619 : decode cL_law 619 = .ok (.iload_n 3, 1) := by decide +kernel
theorem dL_law_620 : decode cL_law 620 = .ok (.iconst 1, 1) := by decide +kernel
theorem dL_law_621 : decode cL_law 621 = .ok (.iadd, 1) := by decide +kernel
theorem dL_law_622 : decode cL_law 622 = .ok (.iaload, 1) := by decide +kernel
theorem dL_law_623 : decode cL_law 623 = .ok (.invokevirtual 77, 3) := by decide +kernel
theorem dL_law_626 : decode cL_law 626 = .ok (.if_icmp .eq 176, 3) := by decide +kernel
theorem dL_law_629 : decode cL_law 629 = .ok (.iconst 0, 1) := by decide +kernel
theorem dL_law_630 : decode cL_law 630 = .ok (.ireturn, 1) := by decide +kernel
theorem dL_law_631 : decode cL_law 631 = .ok (.aload_n 1, 1) := by decide +kernel
theorem dL_law_632 : decode cL_law 632 = .ok (.aload_n 0, 1) := by decide +kernel
theorem dL_law_633 : decode cL_law 633 = .ok (.iload_n 3, 1) := by decide +kernel
theorem dL_law_634 : decode cL_law 634 = .ok (.iconst 1, 1) := by decide +kernel
theorem dL_law_635 : decode cL_law 635 = .ok (.iadd, 1) := by decide +kernel
theorem dL_law_636 : decode cL_law 636 = .ok (.iaload, 1) := by decide +kernel
theorem dL_law_637 : decode cL_law 637 = .ok (.invokevirtual 78, 3) := by decide +kernel
theorem dL_law_640 : decode cL_law 640 = .ok (.aload_n 2, 1) := by decide +kernel
theorem dL_law_641 : decode cL_law 641 = .ok (.aload_n 0, 1) := by decide +kernel
theorem dL_law_642 : decode cL_law 642 = .ok (.iload_n 3, 1) := by decide +kernel
theorem dL_law_643 : decode cL_law 643 = .ok (.iconst 1, 1) := by decide +kernel
theorem dL_law_644 : decode cL_law 644 = .ok (.iadd, 1) := by decide +kernel
theorem dL_law_645 : decode cL_law 645 = .ok (.iaload, 1) := by decide +kernel
theorem dL_law_646 : decode cL_law 646 = .ok (.invokevirtual 81, 3) := by decide +kernel
theorem dL_law_649 : decode cL_law 649 = .ok (.if_icmp .eq 153, 3) := by decide +kernel
theorem dL_law_652 : decode cL_law 652 = .ok (.iconst 0, 1) := by decide +kernel
theorem dL_law_653 : decode cL_law 653 = .ok (.ireturn, 1) := by decide +kernel
theorem dL_law_654 : decode cL_law 654 = .ok (.aload_n 1, 1) := by decide +kernel
theorem dL_law_655 : decode cL_law 655 = .ok (.aload_n 0, 1) := by decide +kernel
theorem dL_law_656 : decode cL_law 656 = .ok (.iload_n 3, 1) := by decide +kernel
theorem dL_law_657 : decode cL_law 657 = .ok (.iconst 1, 1) := by decide +kernel
theorem dL_law_658 : decode cL_law 658 = .ok (.iadd, 1) := by decide +kernel
theorem dL_law_659 : decode cL_law 659 = .ok (.iaload, 1) := by decide +kernel
theorem dL_law_660 : decode cL_law 660 = .ok (.aload_n 0, 1) := by decide +kernel
theorem dL_law_661 : decode cL_law 661 = .ok (.iload_n 3, 1) := by decide +kernel
theorem dL_law_662 : decode cL_law 662 = .ok (.iconst 2, 1) := by decide +kernel
theorem dL_law_663 : decode cL_law 663 = .ok (.iadd, 1) := by decide +kernel
theorem dL_law_664 : decode cL_law 664 = .ok (.iaload, 1) := by decide +kernel
theorem dL_law_665 : decode cL_law 665 = .ok (.invokevirtual 82, 3) := by decide +kernel
theorem dL_law_668 : decode cL_law 668 = .ok (.aload_n 2, 1) := by decide +kernel
theorem dL_law_669 : decode cL_law 669 = .ok (.aload_n 0, 1) := by decide +kernel
theorem dL_law_670 : decode cL_law 670 = .ok (.iload_n 3, 1) := by decide +kernel
theorem dL_law_671 : decode cL_law 671 = .ok (.iconst 1, 1) := by decide +kernel
theorem dL_law_672 : decode cL_law 672 = .ok (.iadd, 1) := by decide +kernel
theorem dL_law_673 : decode cL_law 673 = .ok (.iaload, 1) := by decide +kernel
theorem dL_law_674 : decode cL_law 674 = .ok (.aload_n 0, 1) := by decide +kernel
theorem dL_law_675 : decode cL_law 675 = .ok (.iload_n 3, 1) := by decide +kernel
theorem dL_law_676 : decode cL_law 676 = .ok (.iconst 2, 1) := by decide +kernel
theorem dL_law_677 : decode cL_law 677 = .ok (.iadd, 1) := by decide +kernel
theorem dL_law_678 : decode cL_law 678 = .ok (.iaload, 1) := by decide +kernel
theorem dL_law_679 : decode cL_law 679 = .ok (.invokevirtual 85, 3) := by decide +kernel
theorem dL_law_682 : decode cL_law 682 = .ok (.if_icmp .eq 120, 3) := by decide +kernel
theorem dL_law_685 : decode cL_law 685 = .ok (.iconst 0, 1) := by decide +kernel
theorem dL_law_686 : decode cL_law 686 = .ok (.ireturn, 1) := by decide +kernel
theorem dL_law_687 : decode cL_law 687 = .ok (.aload_n 1, 1) := by decide +kernel
theorem dL_law_688 : decode cL_law 688 = .ok (.invokevirtual 86, 3) := by decide +kernel
theorem dL_law_691 : decode cL_law 691 = .ok (.aload_n 2, 1) := by decide +kernel
theorem dL_law_692 : decode cL_law 692 = .ok (.invokevirtual 89, 3) := by decide +kernel
theorem dL_law_695 : decode cL_law 695 = .ok (.if_icmp .eq 107, 3) := by decide +kernel
theorem dL_law_698 : decode cL_law 698 = .ok (.iconst 0, 1) := by decide +kernel
theorem dL_law_699 : decode cL_law 699 = .ok (.ireturn, 1) := by decide +kernel
theorem dL_law_700 : decode cL_law 700 = .ok (.aload_n 1, 1) := by decide +kernel
theorem dL_law_701 : decode cL_law 701 = .ok (.invokevirtual 90, 3) := by decide +kernel
theorem dL_law_704 : decode cL_law 704 = .ok (.aload_n 2, 1) := by decide +kernel
theorem dL_law_705 : decode cL_law 705 = .ok (.invokevirtual 93, 3) := by decide +kernel
theorem dL_law_708 : decode cL_law 708 = .ok (.if_icmp .eq 94, 3) := by decide +kernel
theorem dL_law_711 : decode cL_law 711 = .ok (.iconst 0, 1) := by decide +kernel
theorem dL_law_712 : decode cL_law 712 = .ok (.ireturn, 1) := by decide +kernel
theorem dL_law_713 : decode cL_law 713 = .ok (.aload_n 1, 1) := by decide +kernel
theorem dL_law_714 : decode cL_law 714 = .ok (.aload_n 0, 1) := by decide +kernel
theorem dL_law_715 : decode cL_law 715 = .ok (.iload_n 3, 1) := by decide +kernel
theorem dL_law_716 : decode cL_law 716 = .ok (.iconst 1, 1) := by decide +kernel
theorem dL_law_717 : decode cL_law 717 = .ok (.iadd, 1) := by decide +kernel
theorem dL_law_718 : decode cL_law 718 = .ok (.iaload, 1) := by decide +kernel
theorem dL_law_719 : decode cL_law 719 = .ok (.invokevirtual 94, 3) := by decide +kernel
theorem dL_law_722 : decode cL_law 722 = .ok (.aload_n 2, 1) := by decide +kernel
theorem dL_law_723 : decode cL_law 723 = .ok (.aload_n 0, 1) := by decide +kernel
theorem dL_law_724 : decode cL_law 724 = .ok (.iload_n 3, 1) := by decide +kernel
theorem dL_law_725 : decode cL_law 725 = .ok (.iconst 1, 1) := by decide +kernel
theorem dL_law_726 : decode cL_law 726 = .ok (.iadd, 1) := by decide +kernel
theorem dL_law_727 : decode cL_law 727 = .ok (.iaload, 1) := by decide +kernel
theorem dL_law_728 : decode cL_law 728 = .ok (.invokevirtual 97, 3) := by decide +kernel
theorem dL_law_731 : decode cL_law 731 = .ok (.if_icmp .eq 71, 3) := by decide +kernel
theorem dL_law_734 : decode cL_law 734 = .ok (.iconst 0, 1) := by decide +kernel
theorem dL_law_735 : decode cL_law 735 = .ok (.ireturn, 1) := by decide +kernel
theorem dL_law_736 : decode cL_law 736 = .ok (.aload_n 1, 1) := by decide +kernel
theorem dL_law_737 : decode cL_law 737 = .ok (.aload_n 0, 1) := by decide +kernel
theorem dL_law_738 : decode cL_law 738 = .ok (.iload_n 3, 1) := by decide +kernel
theorem dL_law_739 : decode cL_law 739 = .ok (.iconst 1, 1) := by decide +kernel
theorem dL_law_740 : decode cL_law 740 = .ok (.iadd, 1) := by decide +kernel
theorem dL_law_741 : decode cL_law 741 = .ok (.iaload, 1) := by decide +kernel
theorem dL_law_742 : decode cL_law 742 = .ok (.aload_n 0, 1) := by decide +kernel
theorem dL_law_743 : decode cL_law 743 = .ok (.iload_n 3, 1) := by decide +kernel
theorem dL_law_744 : decode cL_law 744 = .ok (.iconst 2, 1) := by decide +kernel
theorem dL_law_745 : decode cL_law 745 = .ok (.iadd, 1) := by decide +kernel
theorem dL_law_746 : decode cL_law 746 = .ok (.iaload, 1) := by decide +kernel
theorem dL_law_747 : decode cL_law 747 = .ok (.aload_n 0, 1) := by decide +kernel
theorem dL_law_748 : decode cL_law 748 = .ok (.iload_n 3, 1) := by decide +kernel
theorem dL_law_749 : decode cL_law 749 = .ok (.iconst 3, 1) := by decide +kernel
theorem dL_law_750 : decode cL_law 750 = .ok (.iadd, 1) := by decide +kernel
theorem dL_law_751 : decode cL_law 751 = .ok (.iaload, 1) := by decide +kernel
theorem dL_law_752 : decode cL_law 752 = .ok (.invokevirtual 98, 3) := by decide +kernel
theorem dL_law_755 : decode cL_law 755 = .ok (.aload_n 2, 1) := by decide +kernel
theorem dL_law_756 : decode cL_law 756 = .ok (.aload_n 0, 1) := by decide +kernel
theorem dL_law_757 : decode cL_law 757 = .ok (.iload_n 3, 1) := by decide +kernel
theorem dL_law_758 : decode cL_law 758 = .ok (.iconst 1, 1) := by decide +kernel
theorem dL_law_759 : decode cL_law 759 = .ok (.iadd, 1) := by decide +kernel
theorem dL_law_760 : decode cL_law 760 = .ok (.iaload, 1) := by decide +kernel
theorem dL_law_761 : decode cL_law 761 = .ok (.aload_n 0, 1) := by decide +kernel
theorem dL_law_762 : decode cL_law 762 = .ok (.iload_n 3, 1) := by decide +kernel
theorem dL_law_763 : decode cL_law 763 = .ok (.iconst 2, 1) := by decide +kernel
theorem dL_law_764 : decode cL_law 764 = .ok (.iadd, 1) := by decide +kernel
theorem dL_law_765 : decode cL_law 765 = .ok (.iaload, 1) := by decide +kernel
theorem dL_law_766 : decode cL_law 766 = .ok (.aload_n 0, 1) := by decide +kernel
theorem dL_law_767 : decode cL_law 767 = .ok (.iload_n 3, 1) := by decide +kernel
theorem dL_law_768 : decode cL_law 768 = .ok (.iconst 3, 1) := by decide +kernel
theorem dL_law_769 : decode cL_law 769 = .ok (.iadd, 1) := by decide +kernel
theorem dL_law_770 : decode cL_law 770 = .ok (.iaload, 1) := by decide +kernel
theorem dL_law_771 : decode cL_law 771 = .ok (.invokevirtual 101, 3) := by decide +kernel
theorem dL_law_774 : decode cL_law 774 = .ok (.if_icmp .eq 28, 3) := by decide +kernel
theorem dL_law_777 : decode cL_law 777 = .ok (.iconst 0, 1) := by decide +kernel
theorem dL_law_778 : decode cL_law 778 = .ok (.ireturn, 1) := by decide +kernel
theorem dL_law_779 : decode cL_law 779 = .ok (.aload_n 1, 1) := by decide +kernel
theorem dL_law_780 : decode cL_law 780 = .ok (.aload_n 0, 1) := by decide +kernel
theorem dL_law_781 : decode cL_law 781 = .ok (.iload_n 3, 1) := by decide +kernel
theorem dL_law_782 : decode cL_law 782 = .ok (.iconst 1, 1) := by decide +kernel
theorem dL_law_783 : decode cL_law 783 = .ok (.iadd, 1) := by decide +kernel
theorem dL_law_784 : decode cL_law 784 = .ok (.iaload, 1) := by decide +kernel
theorem dL_law_785 : decode cL_law 785 = .ok (.invokevirtual 102, 3) := by decide +kernel
theorem dL_law_788 : decode cL_law 788 = .ok (.aload_n 2, 1) := by decide +kernel
theorem dL_law_789 : decode cL_law 789 = .ok (.aload_n 0, 1) := by decide +kernel
theorem dL_law_790 : decode cL_law 790 = .ok (.iload_n 3, 1) := by decide +kernel
theorem dL_law_791 : decode cL_law 791 = .ok (.iconst 1, 1) := by decide +kernel
theorem dL_law_792 : decode cL_law 792 = .ok (.iadd, 1) := by decide +kernel
theorem dL_law_793 : decode cL_law 793 = .ok (.iaload, 1) := by decide +kernel
theorem dL_law_794 : decode cL_law 794 = .ok (.invokevirtual 105, 3) := by decide +kernel
theorem dL_law_797 : decode cL_law 797 = .ok (.if_icmp .eq 5, 3) := by decide +kernel
theorem dL_law_800 : decode cL_law 800 = .ok (.iconst 0, 1) := by decide +kernel
theorem dL_law_801 : decode cL_law 801 = .ok (.ireturn, 1) := by decide +kernel
theorem dL_law_802 : decode cL_law 802 = .ok (.iinc 3 6, 3) := by decide +kernel
theorem dL_law_805 : decode cL_law 805 = .ok (.goto (-787), 3) := by decide +kernel
theorem dL_law_808 : decode cL_law 808 = .ok (.iconst 1, 1) := by decide +kernel
theorem dL_law_809 : decode cL_law 809 = .ok (.ireturn, 1) := by decide +kernel
end
section
/-! THE FRAME LOGIC: a run of a method over an abstract heap (a list of cells; a reference is a place in it), with its proof that the machine does the same. -/
abbrev AC : Type := (Nat × List Value) ⊕ (Nat × Nat × ((Nat → Int32) ⊕ (Nat → Option Nat)))
abbrev GG : Type := va_G × (Nat → ClassId)
abbrev MD : Type := MethodName × ByteArray × Nat × Option FieldType × String
/-- an abstract value at the machine: a reference is counted from the base -/
def cv (b : Nat) (v : Value) : Value := match v with
  | .ref i => .ref (b + i)
  | .int x => .int x
  | v => v
theorem cv_int (b : Nat) (x : Int32) : cv b (.int x) = .int x := rfl
theorem cv_ref (b i : Nat) : cv b (.ref i) = .ref (b + i) := rfl
theorem cv_cat (b : Nat) (v : Value) : (cv b v).category = v.category := by cases v <;> rfl
theorem cv_sum (b : Nat) (st : List Value) : ((st.map (cv b)).map fun v => v.category).sum = (st.map fun v => v.category).sum := by
  induction st with
  | nil => rfl
  | cons v st ih => simp only [List.map_cons, List.sum_cons, cv_cat, ih]
def ce (b : Nat) (G : GG) (a : AC) : va_E := match a with
  | .inl (c, fs) => .inr (c, fs.map (cv b))
  | .inr (k, n, .inl f) => .inl (G.2 k, n, .inl f)
  | .inr (k, n, .inr f) => .inl (G.2 k, n, .inr (.inr (.inr (.inr (fun j => (f j).map (fun i => b + i))))))
def wl (b : Nat) (G : GG) (h : List AC) : va_W := (List.range h.length).zipWith (fun i c => (b + i, ce b G c)) h
theorem wl_get {b : Nat} {G : GG} {h : List AC} {i : Nat} {c : AC} (hc : h[i]? = some c) : (wl b G h)[i]? = some (b + i, ce b G c) := by
  have hi : i < h.length := (List.getElem?_eq_some_iff.mp hc).1
  simp [wl, List.getElem?_zipWith, List.getElem?_range hi, hc]
theorem wl_inv {b : Nat} {G : GG} {h : List AC} {i : Nat} {q : Nat × va_E} (hq : (wl b G h)[i]? = some q) : ∃ c, h[i]? = some c ∧ q = (b + i, ce b G c) := by
  have hi : i < h.length := by
    have h1 := (List.getElem?_eq_some_iff.mp hq).1
    simp [wl] at h1
    exact h1
  cases hc : h[i]? with
  | none => simp at hc; omega
  | some c =>
    rw [wl_get hc] at hq
    exact ⟨c, rfl, (Option.some.inj hq).symm⟩
theorem wl_len (b : Nat) (G : GG) (h : List AC) : (wl b G h).length = h.length := by simp [wl]
theorem wl_set {b : Nat} {G : GG} {h : List AC} {i : Nat} {c : AC} : (wl b G h).set i (b + i, ce b G c) = wl b G (h.set i c) := by
  apply List.ext_getElem?
  intro j
  by_cases hj : j < h.length
  · by_cases e : j = i
    · subst e
      rw [wl_get (c := c) (by simp [hj]), List.getElem?_set_self (by rw [wl_len]; exact hj)]
    · rw [List.getElem?_set_ne (fun q => e q.symm)]
      have h1 : h[j]? = some h[j] := by simp [hj]
      rw [wl_get h1, wl_get (c := h[j]) (by rw [List.getElem?_set_ne (fun q => e q.symm)]; exact h1)]
  · rw [List.getElem?_eq_none (by rw [List.length_set, wl_len]; omega), List.getElem?_eq_none (by rw [wl_len, List.length_set]; omega)]
theorem wl_D (b : Nat) (G : GG) (h : List AC) : va_D (fun q => b ≤ q) (wl b G h) := by
  refine ⟨fun i j p q hp hq hpq => ?_, fun k q hk => ?_⟩
  · obtain ⟨c, -, rfl⟩ := wl_inv hp
    obtain ⟨c', -, rfl⟩ := wl_inv hq
    simp at hpq
    exact hpq
  · obtain ⟨c, -, rfl⟩ := wl_inv hk
    simp
/-- the words that a callee may take over -/
def lwg : List Cond := lw_tbl.filter goodWord
def isNestW (c : Cond) : Bool := match c with
  | .methodLinkNest .. => true
  | _ => false
def lwn : List Cond := lw_tbl.filter isNestW
theorem in_lwg {w : Cond} (i : Nat) (h : lw_tbl[i]? = some w) (hg : goodWord w = true) : w ∈ lwg := List.mem_filter.mpr ⟨List.mem_of_getElem? h, hg⟩
theorem in_lwn {w : Cond} (i : Nat) (h : lw_tbl[i]? = some w) (hg : isNestW w = true) : w ∈ lwn := List.mem_filter.mpr ⟨List.mem_of_getElem? h, hg⟩
def pmW (M : MD) : List Cond := .code M.1 M.2.1 M.2.2.1 M.2.2.2.1 :: lwg
theorem pmW_good {M M' : MD} (h : Cond.code M'.1 M'.2.1 M'.2.2.1 M'.2.2.2.1 ∈ lwg) : GoodIn (pmW M) (pmW M') := by
  intro w hw
  have hw : w ∈ lwg := by
    rcases List.mem_cons.mp hw with rfl | hw
    · exact h
    · exact hw
  exact ⟨List.mem_cons_of_mem _ hw, good_of_word (List.mem_filter.mp hw).2⟩
def tysG (G : GG) : List (ClassId × FieldType) := [(G.2 0, .int), (G.2 1, .boolean), (G.2 2, .object RX5)]
def Kn (G : GG) (U : State) : Prop := va_K G.1 vwCl (tysG G) U ∧ (∀ w ∈ lwn, va_Nw w U) ∧ va_AO RX5 U
theorem Kn.warm {G : GG} {s U : State} (hW : s.WarmedH U.vm) (h : Kn G s) : Kn G U := by
  refine ⟨va_K.moved hW.alike h.1, fun w hw => ?_, va_AO.moved hW.alike h.2.2⟩
  have h1 := h.2.1 w hw
  have h2 := (List.mem_filter.mp hw).2
  cases w with
  | methodLinkNest a i x k => exact va_Nw.warmM hW h1
  | _ => simp [isNestW] at h2
theorem Kn.calling {G : GG} {U : State} (g : JFrame) (mk : MethodId) (a : Array Value) (h : Kn G U) : Kn G (U.calling g mk a) := by
  refine ⟨va_K.moved (u := U) (U := U.calling g mk a) (Vm.Alike.refl U.vm) h.1, fun w hw => ?_, va_AO.moved (u := U) (U := U.calling g mk a) (Vm.Alike.refl U.vm) h.2.2⟩
  have h1 := h.2.1 w hw
  have h2 := (List.mem_filter.mp hw).2
  cases w with
  | methodLinkNest a i x k => exact va_Nw.same (u := U) rfl rfl h1
  | _ => simp [isNestW] at h2
def PcA (b : Nat) (G : GG) (av : List Value) (h : List AC) : Array Value → State → Prop := va_Pc (av.map (cv b)) (fun U => U.heap.size = b + h.length ∧ va_P G.1 vwCl (wl b G h) U.heap ∧ Kn G U)
def QcA (b : Nat) (G : GG) (Q : Option Value → List AC → Prop) : Array Value → State → Outcome → State → Prop := fun _ st oc t => (∃ (r : Option Value) (h' : List AC), oc = .returned (r.map (cv b)) ∧ Q r h' ∧ t.heap.size = b + h'.length ∧ va_P G.1 vwCl (wl b G h') t.heap) ∧ va_F (fun q => b ≤ q) st t
theorem PcA.blind (b : Nat) (G : GG) (av : List Value) (h : List AC) : FrameBlind (PcA b G av h) := by
  intro a U g mk q
  obtain ⟨q0, q1, q2, q3⟩ := q
  exact ⟨q0, q1, q2, q3.calling g mk a⟩
/-- a method's contract over the abstract heap -/
def Mt (d nc ns : Nat) (M : MD) (av : List Value) (h : List AC) (Q : Option Value → List AC → Prop) : Prop :=
  ∀ (l : Launch) (b : Nat) (G : GG), Met l M.1 (pmW M) { frames := d, cells := nc, slots := ns, locals := 40 * d } (PcA b G av h) (QcA b G Q) nc ns (fun q => b ≤ q)
def Cx (M : MD) (d : Nat) (p : Program) (R : Room) (s : State) (m : MethodId) (args : Array Value) (meth : Method) (c : Code) (b : Nat) (G : GG) : Prop :=
  p.tables.exec = Jvm.exec ∧ c.code = M.2.1 ∧ meth.sig.returnType = M.2.2.2.1 ∧ c.maxLocals = M.2.2.1 ∧ s.vm.findClass M.2.2.2.2 = some m.cls ∧ (∀ w ∈ pmW M, w.before args s = true) ∧ meth.locks = false ∧ meth.name = M.1.name ∧ b ≤ s.heap.size ∧ Kn G s ∧ d ≤ R.frames ∧ 40 * d ≤ R.locals
def Wd (b : Nat) (G : GG) (h : List AC) (s : State) (H : Heap) (locs : List Loc) : Prop :=
  H.size = b + h.length ∧ va_P G.1 vwCl (wl b G h) H ∧ va_S (fun q => b ≤ q) s.heap H locs
def Lc (b : Nat) (arr : Array Slot) (nL : Nat) (ls : List (Option Value)) : Prop :=
  arr.size = nL ∧ lv_wf arr ∧ ls.length = nL ∧ ∀ (i : Nat) (v : Value), ls[i]? = some (some v) → v.category = 1 ∧ arr[i]? = some (.val (cv b v))
/-- a frame of method M at pc: it comes to its end, with Q of the answer and the heap -/
def V (M : MD) (d rc rs pc : Nat) (ls : List (Option Value)) (st : List Value) (h : List AC) (Q : Option Value → List AC → Prop) : Prop :=
  ∀ (p : Program) (l : Launch) (e : Env) (R : Room) (s : State) (m : MethodId) (args : Array Value) (below : List Frame) (meth : Method) (c : Code) (b : Nat) (G : GG) (H : Heap) (locs : List Loc) (cells slots : Nat) (arr : Array Slot),
    Cx M d p R s m args meth c b G → Wd b G h s H locs → Lc b arr M.2.2.1 ls → cells + rc ≤ R.cells → slots + rs ≤ R.slots →
    W p l e R s m args below meth c H locs cells slots (MQ below (QcA b G Q) args s R.cells R.slots (fun q => b ≤ q)) (F0 m pc arr (st.map (cv b)))
def lcl (b : Nat) (ls : List (Option Value)) : List (Nat × Value) := (List.range ls.length).filterMap (fun i => (ls.getD i none).map (fun v => (i, cv b v)))
theorem lcl_mem {b : Nat} {ls : List (Option Value)} {q : Nat × Value} : q ∈ lcl b ls ↔ ∃ v, ls[q.1]? = some (some v) ∧ q.2 = cv b v := by
  obtain ⟨i, x⟩ := q
  simp only [lcl, List.mem_filterMap, List.mem_range]
  constructor
  · rintro ⟨j, hj, hq⟩
    rw [List.getD_eq_getElem?_getD] at hq
    cases hl : ls[j]? with
    | none => rw [hl] at hq; cases hq
    | some o =>
      rw [hl] at hq
      cases o with
      | none => cases hq
      | some v =>
        have hq : some (j, cv b v) = some (i, x) := hq
        cases hq
        exact ⟨v, hl, rfl⟩
  · rintro ⟨v, h1, h2⟩
    refine ⟨i, (List.getElem?_eq_some_iff.mp h1).1, ?_⟩
    rw [List.getD_eq_getElem?_getD, h1, h2]
    rfl
theorem Lc.has {b : Nat} {arr : Array Slot} {nL : Nat} {ls : List (Option Value)} (h : Lc b arr nL ls) : lv_has arr nL (lcl b ls) := by
  refine ⟨h.1, h.2.1, fun q hq => ?_⟩
  obtain ⟨v, h1, h2⟩ := lcl_mem.mp hq
  rw [h2]
  exact (h.2.2.2 q.1 v h1).2
theorem Lc.at {b : Nat} {arr : Array Slot} {nL : Nat} {ls : List (Option Value)} (h : Lc b arr nL ls) {i : Nat} {v : Value} (hi : ls[i]? = some (some v)) : arr[i]? = some (.val (cv b v)) := (h.2.2.2 i v hi).2
theorem Lc.set {b : Nat} {arr arr' : Array Slot} {nL i : Nat} {ls : List (Option Value)} {v : Value} (h : Lc b arr nL ls) (hc : v.category = 1) (h' : lv_has arr' nL ((i, cv b v) :: (lcl b ls).filter (fun q => !(q.1 == i) && !(q.1 + 1 == i && q.2.category == 2)))) : Lc b arr' nL (ls.set i (some v)) := by
  refine ⟨h'.1, h'.2.1, by rw [List.length_set]; exact h.2.2.1, fun j w hj => ?_⟩
  by_cases e : j = i
  · subst e
    have hl : j < ls.length := by
      have := (List.getElem?_eq_some_iff.mp hj).1
      rw [List.length_set] at this
      exact this
    rw [List.getElem?_set_self hl] at hj
    cases hj
    exact ⟨hc, h'.2.2 (j, cv b v) List.mem_cons_self⟩
  · rw [List.getElem?_set_ne (fun q => e q.symm)] at hj
    refine ⟨(h.2.2.2 j w hj).1, h'.2.2 (j, cv b w) (List.mem_cons_of_mem _ (List.mem_filter.mpr ⟨lcl_mem.mpr ⟨w, hj, rfl⟩, ?_⟩))⟩
    have h1 := (h.2.2.2 j w hj).1
    simp [e, cv_cat, h1]
theorem lv_args_one (b : Nat) : ∀ (av : List Value) (i : Nat), (∀ v ∈ av, v.category = 1) → ∀ (j : Nat) (v : Value), av[j]? = some v → (i + j, cv b v) ∈ lv_args i (av.map (cv b))
  | [], _, _, j, v, hj => by simp at hj
  | a :: av, i, hc, j, v, hj => by
    have ha : ¬ (cv b a).category = 2 := by rw [cv_cat, hc a List.mem_cons_self]; decide
    simp only [List.map_cons, lv_args, if_neg ha]
    cases j with
    | zero =>
      simp at hj
      subst hj
      exact List.mem_cons_self
    | succ j =>
      rw [List.getElem?_cons_succ] at hj
      have := lv_args_one b av (i + 1) (fun v hv => hc v (List.mem_cons_of_mem _ hv)) j v hj
      rw [show i + (j + 1) = i + 1 + j by omega]
      exact List.mem_cons_of_mem _ this
theorem lg_sl_one (b : Nat) : ∀ (av : List Value), (∀ v ∈ av, v.category = 1) → (lg_sl (av.map (cv b))).length = av.length
  | [], _ => rfl
  | a :: av, hc => by
    have ha : ¬ (cv b a).category = 2 := by rw [cv_cat, hc a List.mem_cons_self]; decide
    have := lg_sl_one b av (fun v hv => hc v (List.mem_cons_of_mem _ hv))
    simp only [lg_sl, List.map_cons, List.flatMap_cons, if_neg ha, List.length_append, List.length_cons, List.length_nil] at this ⊢
    omega
theorem Mt.of {M : MD} {d nc ns : Nat} {av : List Value} {h : List AC} {Q : Option Value → List AC → Prop} (hy : plainName M.1.cls = true) (ho : M.1.cls = M.2.2.2.2) (hn : av.length ≤ M.2.2.1) (hc : av.all (fun v => v.category == 1) = true)
    (hV : V M d nc ns 0 (av.map some ++ List.replicate (M.2.2.1 - av.length) none) [] h Q) : Mt d nc ns M av h Q := by
  intro l b G
  have hc : ∀ v ∈ av, v.category = 1 := fun v hv => by simpa using List.all_eq_true.mp hc v hv
  refine Met.ofW (cc := M.2.1) (maxL := M.2.2.1) (ret := M.2.2.2.1) hy rfl ?_
  intro p e s m args below meth c s₁ B hml hv
  obtain ⟨rfl, hsz, hP, hK⟩ := hv
  have hts := atoms_spec (ws := pmW M) B.pre
  have hown : s.vm.findClass M.2.2.2.2 = some m.cls := by rw [← ho]; exact findClass_of_methodNamed B.named
  have hl := lv_entry (av.map (cv b)) (n := M.2.2.1) (by rw [lg_sl_one b av hc]; exact hn)
  rw [lg_entry_eq]
  generalize (lg_sl (av.map (cv b)) ++ List.replicate (M.2.2.1 - (lg_sl (av.map (cv b))).length) Slot.unset).toArray = arr at hl ⊢
  have hL : Lc b arr M.2.2.1 (av.map some ++ List.replicate (M.2.2.1 - av.length) none) := by
    refine ⟨hl.1, hl.2.1, by simp; omega, fun i v hi => ?_⟩
    have h1 : av[i]? = some v := by
      by_cases h2 : i < av.length
      · rw [List.getElem?_append_left (by simpa using h2), List.getElem?_map] at hi
        cases h3 : av[i]? with
        | none => rw [h3] at hi; cases hi
        | some w => rw [h3] at hi; cases hi; rfl
      · rw [List.getElem?_append_right (by simp; omega), List.getElem?_replicate] at hi
        split at hi <;> cases hi
    refine ⟨hc v (List.mem_of_getElem? h1), ?_⟩
    have := hl.2.2 (i, cv b v) (by have := lv_args_one b av 0 hc i v h1; rw [Nat.zero_add] at this; exact this)
    exact this
  exact hV p l e _ s m _ below meth c b G s.heap [] 0 0 arr ⟨B.exec, B.bytes, B.returns, hml, hown, hts, B.notSynchronized, (name_of_methodNamed B.named B.method).1, by rw [hsz]; exact Nat.le_add_right _ _, hK, Nat.le_refl _, Nat.le_refl _⟩ ⟨hsz, hP, va_S.rf⟩ hL (by show 0 + nc ≤ nc; omega) (by show 0 + ns ≤ ns; omega)
section RULES
variable {M : MD} {d rc rs pc : Nat} {ls : List (Option Value)} {st : List Value} {h : List AC} {Q : Option Value → List AC → Prop}
theorem V.lift {pc' : Nat} {st' : List Value} (hs : ∀ (p : Program) (l : Launch) (e : Env) (R : Room) (s : State) (m : MethodId) (args : Array Value) (below : List Frame) (meth : Method) (c : Code) (H : Heap) (locs : List Loc) (cells slots : Nat) (Qf : State → Prop) (arr : Array Slot) (b : Nat), p.tables.exec = Jvm.exec → c.code = M.2.1 → W p l e R s m args below meth c H locs cells slots Qf (F0 m pc' arr (st'.map (cv b))) → W p l e R s m args below meth c H locs cells slots Qf (F0 m pc arr (st.map (cv b))))
    (k : V M d rc rs pc' ls st' h Q) : V M d rc rs pc ls st h Q := by
  intro p l e R s m args below meth c b G H locs cells slots arr hC hW hL h1 h2
  exact hs p l e R s m args below meth c H locs cells slots _ arr b hC.1 hC.2.1 (k p l e R s m args below meth c b G H locs cells slots arr hC hW hL h1 h2)
theorem V.iconst {n : Int} (v : Int32) (hd : decode M.2.1 pc = .ok (.iconst n, 1)) (hv : Int32.ofInt n = v) (k : V M d rc rs (pc + 1) ls (.int v :: st) h Q) : V M d rc rs pc ls st h Q := V.lift (fun _ _ _ _ _ _ _ _ _ _ _ _ _ _ _ _ _ hx hb w => lv_iconst hx hb hd hv w) k
theorem V.bipush {n : Int} (v : Int32) (hd : decode M.2.1 pc = .ok (.bipush n, 2)) (hv : (Int8.ofInt n).toInt32 = v) (k : V M d rc rs (pc + 2) ls (.int v :: st) h Q) : V M d rc rs pc ls st h Q := V.lift (fun _ _ _ _ _ _ _ _ _ _ _ _ _ _ _ _ _ hx hb w => lv_bipush hx hb hd hv w) k
theorem V.sipush {n : Int} (v : Int32) (hd : decode M.2.1 pc = .ok (.sipush n, 3)) (hv : (Int16.ofInt n).toInt32 = v) (k : V M d rc rs (pc + 3) ls (.int v :: st) h Q) : V M d rc rs pc ls st h Q := V.lift (fun _ _ _ _ _ _ _ _ _ _ _ _ _ _ _ _ _ hx hb w => lv_sipush hx hb hd hv w) k
theorem V.iadd {x y : Int32} (hd : decode M.2.1 pc = .ok (.iadd, 1)) (k : V M d rc rs (pc + 1) ls (.int (x + y) :: st) h Q) : V M d rc rs pc ls (.int y :: .int x :: st) h Q := V.lift (fun _ _ _ _ _ _ _ _ _ _ _ _ _ _ _ _ _ hx hb w => lv_iadd hx hb hd w) k
theorem V.isub {x y : Int32} (hd : decode M.2.1 pc = .ok (.isub, 1)) (k : V M d rc rs (pc + 1) ls (.int (x - y) :: st) h Q) : V M d rc rs pc ls (.int y :: .int x :: st) h Q := V.lift (fun _ _ _ _ _ _ _ _ _ _ _ _ _ _ _ _ _ hx hb w => lv_isub hx hb hd w) k
theorem V.imul {x y : Int32} (hd : decode M.2.1 pc = .ok (.imul, 1)) (k : V M d rc rs (pc + 1) ls (.int (x * y) :: st) h Q) : V M d rc rs pc ls (.int y :: .int x :: st) h Q := V.lift (fun _ _ _ _ _ _ _ _ _ _ _ _ _ _ _ _ _ hx hb w => lv_imul hx hb hd w) k
theorem V.iand {x y : Int32} (hd : decode M.2.1 pc = .ok (.iand, 1)) (k : V M d rc rs (pc + 1) ls (.int (x &&& y) :: st) h Q) : V M d rc rs pc ls (.int y :: .int x :: st) h Q := V.lift (fun _ _ _ _ _ _ _ _ _ _ _ _ _ _ _ _ _ hx hb w => lv_iand hx hb hd w) k
theorem V.ior {x y : Int32} (hd : decode M.2.1 pc = .ok (.ior, 1)) (k : V M d rc rs (pc + 1) ls (.int (x ||| y) :: st) h Q) : V M d rc rs pc ls (.int y :: .int x :: st) h Q := V.lift (fun _ _ _ _ _ _ _ _ _ _ _ _ _ _ _ _ _ hx hb w => lv_ior hx hb hd w) k
theorem V.ixor {x y : Int32} (hd : decode M.2.1 pc = .ok (.ixor, 1)) (k : V M d rc rs (pc + 1) ls (.int (x ^^^ y) :: st) h Q) : V M d rc rs pc ls (.int y :: .int x :: st) h Q := V.lift (fun _ _ _ _ _ _ _ _ _ _ _ _ _ _ _ _ _ hx hb w => lv_ixor hx hb hd w) k
theorem V.idiv {x y : Int32} (hd : decode M.2.1 pc = .ok (.idiv, 1)) (hne : ¬ y = 0) (k : V M d rc rs (pc + 1) ls (.int (x / y) :: st) h Q) : V M d rc rs pc ls (.int y :: .int x :: st) h Q := V.lift (fun _ _ _ _ _ _ _ _ _ _ _ _ _ _ _ _ _ hx hb w => lv_idiv hx hb hd hne w) k
theorem V.ineg {x : Int32} (hd : decode M.2.1 pc = .ok (.ineg, 1)) (k : V M d rc rs (pc + 1) ls (.int (-x) :: st) h Q) : V M d rc rs pc ls (.int x :: st) h Q := V.lift (fun _ _ _ _ _ _ _ _ _ _ _ _ _ _ _ _ _ hx hb w => lv_ineg hx hb hd w) k
theorem V.ishl {x y : Int32} (hd : decode M.2.1 pc = .ok (.ishl, 1)) (k : V M d rc rs (pc + 1) ls (.int (x <<< (y &&& 31)) :: st) h Q) : V M d rc rs pc ls (.int y :: .int x :: st) h Q := V.lift (fun _ _ _ _ _ _ _ _ _ _ _ _ _ _ _ _ _ hx hb w => lv_ishl hx hb hd w) k
theorem V.ishr {x y : Int32} (hd : decode M.2.1 pc = .ok (.ishr, 1)) (k : V M d rc rs (pc + 1) ls (.int (x >>> (y &&& 31)) :: st) h Q) : V M d rc rs pc ls (.int y :: .int x :: st) h Q := V.lift (fun _ _ _ _ _ _ _ _ _ _ _ _ _ _ _ _ _ hx hb w => lv_ishr hx hb hd w) k
theorem V.iushr {x y : Int32} (v : Int32) (hd : decode M.2.1 pc = .ok (.iushr, 1)) (hv : (x.toUInt32 >>> (y.toUInt32 &&& Int32.toUInt32 31)).toInt32 = v) (k : V M d rc rs (pc + 1) ls (.int v :: st) h Q) : V M d rc rs pc ls (.int y :: .int x :: st) h Q := V.lift (fun _ _ _ _ _ _ _ _ _ _ _ _ _ _ _ _ _ hx hb w => lv_iushr hx hb hd hv w) k
theorem V.dupr {i : Nat} (hd : decode M.2.1 pc = .ok (.dup, 1)) (k : V M d rc rs (pc + 1) ls (.ref i :: .ref i :: st) h Q) : V M d rc rs pc ls (.ref i :: st) h Q := V.lift (fun _ _ _ _ _ _ _ _ _ _ _ _ _ _ _ _ _ hx hb w => lv_dup hx hb hd rfl w) k
theorem V.dupi {x : Int32} (hd : decode M.2.1 pc = .ok (.dup, 1)) (k : V M d rc rs (pc + 1) ls (.int x :: .int x :: st) h Q) : V M d rc rs pc ls (.int x :: st) h Q := V.lift (fun _ _ _ _ _ _ _ _ _ _ _ _ _ _ _ _ _ hx hb w => lv_dup hx hb hd rfl w) k
theorem V.dup2 {x : Int32} {i : Nat} (hd : decode M.2.1 pc = .ok (.dup2, 1)) (k : V M d rc rs (pc + 1) ls (.int x :: .ref i :: .int x :: .ref i :: st) h Q) : V M d rc rs pc ls (.int x :: .ref i :: st) h Q := V.lift (fun _ _ _ _ _ _ _ _ _ _ _ _ _ _ _ _ _ hx hb w => lv_dup2_11 hx hb hd rfl rfl w) k
theorem V.goto {off : Int} (tgt : Nat) (hd : decode M.2.1 pc = .ok (.goto off, 3)) (ht : (pc : Int) + off = (tgt : Int)) (k : V M d rc rs tgt ls st h Q) : V M d rc rs pc ls st h Q := V.lift (fun _ _ _ _ _ _ _ _ _ _ _ _ _ _ _ _ _ hx hb w => lv_goto hx hb hd ht w) k
theorem V.tabOut {dflt lo hi : Int} {offs : Array Int} {len : Nat} {x : Int32} (tgt : Nat) (hd : decode M.2.1 pc = .ok (.tableswitch dflt lo hi offs, len)) (hh : x.toInt < lo ∨ hi < x.toInt) (ht : (pc : Int) + dflt = (tgt : Int)) (k : V M d rc rs tgt ls st h Q) : V M d rc rs pc ls (.int x :: st) h Q := V.lift (fun _ _ _ _ _ _ _ _ _ _ _ _ _ _ _ _ _ hx hb w => lv_tableOut hx hb hd hh ht w) k
theorem V.tabIn {dflt lo hi : Int} {offs : Array Int} {len : Nat} {x : Int32} {off : Int} (tgt : Nat) (hd : decode M.2.1 pc = .ok (.tableswitch dflt lo hi offs, len)) (h1 : ¬ x.toInt < lo) (h2 : ¬ hi < x.toInt) (ho : offs[(x.toInt - lo).toNat]? = some off) (ht : (pc : Int) + off = (tgt : Int)) (k : V M d rc rs tgt ls st h Q) : V M d rc rs pc ls (.int x :: st) h Q := V.lift (fun _ _ _ _ _ _ _ _ _ _ _ _ _ _ _ _ _ hx hb w => lv_tableIn hx hb hd h1 h2 ho ht w) k
theorem V.br {P : Prop} {pa pb : Nat} {st' : List Value} (hs : ∀ (p : Program) (l : Launch) (e : Env) (R : Room) (s : State) (m : MethodId) (args : Array Value) (below : List Frame) (meth : Method) (c : Code) (H : Heap) (locs : List Loc) (cells slots : Nat) (Qf : State → Prop) (arr : Array Slot) (b : Nat), p.tables.exec = Jvm.exec → c.code = M.2.1 → (P → W p l e R s m args below meth c H locs cells slots Qf (F0 m pa arr (st'.map (cv b)))) → (¬ P → W p l e R s m args below meth c H locs cells slots Qf (F0 m pb arr (st'.map (cv b)))) → W p l e R s m args below meth c H locs cells slots Qf (F0 m pc arr (st.map (cv b))))
    (kt : P → V M d rc rs pa ls st' h Q) (kf : ¬ P → V M d rc rs pb ls st' h Q) : V M d rc rs pc ls st h Q := by
  intro p l e R s m args below meth c b G H locs cells slots arr hC hW hL h1 h2
  exact hs p l e R s m args below meth c H locs cells slots _ arr b hC.1 hC.2.1 (fun q => kt q p l e R s m args below meth c b G H locs cells slots arr hC hW hL h1 h2) (fun q => kf q p l e R s m args below meth c b G H locs cells slots arr hC hW hL h1 h2)
theorem V.if_eq {x : Int32} {off : Int} (tgt : Nat) (hd : decode M.2.1 pc = .ok (.ifCond .eq off, 3)) (ht : (pc : Int) + off = (tgt : Int)) (kt : x = 0 → V M d rc rs tgt ls st h Q) (kf : ¬ (x = 0) → V M d rc rs (pc + 3) ls st h Q) : V M d rc rs pc ls (.int x :: st) h Q := V.br (fun _ _ _ _ _ _ _ _ _ _ _ _ _ _ _ _ _ hx hb a b => lv_if_eq hx hb hd ht a b) kt kf
theorem V.if_ne {x : Int32} {off : Int} (tgt : Nat) (hd : decode M.2.1 pc = .ok (.ifCond .ne off, 3)) (ht : (pc : Int) + off = (tgt : Int)) (kt : ¬ x = 0 → V M d rc rs tgt ls st h Q) (kf : x = 0 → V M d rc rs (pc + 3) ls st h Q) : V M d rc rs pc ls (.int x :: st) h Q := V.br (P := x = 0) (fun _ _ _ _ _ _ _ _ _ _ _ _ _ _ _ _ _ hx hb a b => lv_if_ne hx hb hd ht b a) kf kt
theorem V.if_lt {x : Int32} {off : Int} (tgt : Nat) (hd : decode M.2.1 pc = .ok (.ifCond .lt off, 3)) (ht : (pc : Int) + off = (tgt : Int)) (kt : x < 0 → V M d rc rs tgt ls st h Q) (kf : ¬ (x < 0) → V M d rc rs (pc + 3) ls st h Q) : V M d rc rs pc ls (.int x :: st) h Q := V.br (fun _ _ _ _ _ _ _ _ _ _ _ _ _ _ _ _ _ hx hb a b => lv_if_lt hx hb hd ht a b) kt kf
theorem V.if_ge {x : Int32} {off : Int} (tgt : Nat) (hd : decode M.2.1 pc = .ok (.ifCond .ge off, 3)) (ht : (pc : Int) + off = (tgt : Int)) (kt : 0 ≤ x → V M d rc rs tgt ls st h Q) (kf : ¬ (0 ≤ x) → V M d rc rs (pc + 3) ls st h Q) : V M d rc rs pc ls (.int x :: st) h Q := V.br (fun _ _ _ _ _ _ _ _ _ _ _ _ _ _ _ _ _ hx hb a b => lv_if_ge hx hb hd ht a b) kt kf
theorem V.if_gt {x : Int32} {off : Int} (tgt : Nat) (hd : decode M.2.1 pc = .ok (.ifCond .gt off, 3)) (ht : (pc : Int) + off = (tgt : Int)) (kt : 0 < x → V M d rc rs tgt ls st h Q) (kf : ¬ (0 < x) → V M d rc rs (pc + 3) ls st h Q) : V M d rc rs pc ls (.int x :: st) h Q := V.br (fun _ _ _ _ _ _ _ _ _ _ _ _ _ _ _ _ _ hx hb a b => lv_if_gt hx hb hd ht a b) kt kf
theorem V.if_le {x : Int32} {off : Int} (tgt : Nat) (hd : decode M.2.1 pc = .ok (.ifCond .le off, 3)) (ht : (pc : Int) + off = (tgt : Int)) (kt : x ≤ 0 → V M d rc rs tgt ls st h Q) (kf : ¬ (x ≤ 0) → V M d rc rs (pc + 3) ls st h Q) : V M d rc rs pc ls (.int x :: st) h Q := V.br (fun _ _ _ _ _ _ _ _ _ _ _ _ _ _ _ _ _ hx hb a b => lv_if_le hx hb hd ht a b) kt kf
theorem V.icmp_eq {x y : Int32} {off : Int} (tgt : Nat) (hd : decode M.2.1 pc = .ok (.if_icmp .eq off, 3)) (ht : (pc : Int) + off = (tgt : Int)) (kt : x = y → V M d rc rs tgt ls st h Q) (kf : ¬ (x = y) → V M d rc rs (pc + 3) ls st h Q) : V M d rc rs pc ls (.int y :: .int x :: st) h Q := V.br (fun _ _ _ _ _ _ _ _ _ _ _ _ _ _ _ _ _ hx hb a b => lv_icmp_eq hx hb hd ht a b) kt kf
theorem V.icmp_ne {x y : Int32} {off : Int} (tgt : Nat) (hd : decode M.2.1 pc = .ok (.if_icmp .ne off, 3)) (ht : (pc : Int) + off = (tgt : Int)) (kt : ¬ x = y → V M d rc rs tgt ls st h Q) (kf : x = y → V M d rc rs (pc + 3) ls st h Q) : V M d rc rs pc ls (.int y :: .int x :: st) h Q := V.br (P := x = y) (fun _ _ _ _ _ _ _ _ _ _ _ _ _ _ _ _ _ hx hb a b => lv_icmp_ne hx hb hd ht b a) kf kt
theorem V.icmp_lt {x y : Int32} {off : Int} (tgt : Nat) (hd : decode M.2.1 pc = .ok (.if_icmp .lt off, 3)) (ht : (pc : Int) + off = (tgt : Int)) (kt : x < y → V M d rc rs tgt ls st h Q) (kf : ¬ (x < y) → V M d rc rs (pc + 3) ls st h Q) : V M d rc rs pc ls (.int y :: .int x :: st) h Q := V.br (fun _ _ _ _ _ _ _ _ _ _ _ _ _ _ _ _ _ hx hb a b => lv_icmp_lt hx hb hd ht a b) kt kf
theorem V.icmp_ge {x y : Int32} {off : Int} (tgt : Nat) (hd : decode M.2.1 pc = .ok (.if_icmp .ge off, 3)) (ht : (pc : Int) + off = (tgt : Int)) (kt : y ≤ x → V M d rc rs tgt ls st h Q) (kf : ¬ (y ≤ x) → V M d rc rs (pc + 3) ls st h Q) : V M d rc rs pc ls (.int y :: .int x :: st) h Q := V.br (fun _ _ _ _ _ _ _ _ _ _ _ _ _ _ _ _ _ hx hb a b => lv_icmp_ge hx hb hd ht a b) kt kf
theorem V.icmp_gt {x y : Int32} {off : Int} (tgt : Nat) (hd : decode M.2.1 pc = .ok (.if_icmp .gt off, 3)) (ht : (pc : Int) + off = (tgt : Int)) (kt : y < x → V M d rc rs tgt ls st h Q) (kf : ¬ (y < x) → V M d rc rs (pc + 3) ls st h Q) : V M d rc rs pc ls (.int y :: .int x :: st) h Q := V.br (fun _ _ _ _ _ _ _ _ _ _ _ _ _ _ _ _ _ hx hb a b => lv_icmp_gt hx hb hd ht a b) kt kf
theorem V.icmp_le {x y : Int32} {off : Int} (tgt : Nat) (hd : decode M.2.1 pc = .ok (.if_icmp .le off, 3)) (ht : (pc : Int) + off = (tgt : Int)) (kt : x ≤ y → V M d rc rs tgt ls st h Q) (kf : ¬ (x ≤ y) → V M d rc rs (pc + 3) ls st h Q) : V M d rc rs pc ls (.int y :: .int x :: st) h Q := V.br (fun _ _ _ _ _ _ _ _ _ _ _ _ _ _ _ _ _ hx hb a b => lv_icmp_le hx hb hd ht a b) kt kf
end RULES
end
section
/-! THE FRAME LOGIC'S ROWS: locals, fields, arrays, new cells, calls, ends -/
def CLok (ci : Nat) (C : String) (T : u_T) (N : Nat) (ty0 : Nat → FieldType) : Prop := vwCl[ci]? = some (C, T, N) ∧ (∀ w ∈ u_ws C T N, w ∈ lwg) ∧ (∀ k, k < N → parseFieldDescriptor (T k).2.2.1 = some (ty0 k)) ∧ (∀ a, a < N → ∀ b, b < N → a ≠ b → (T a).2.1 ≠ (T b).2.1)
def FL (own : String) (idx ci k : Nat) : Prop := ∃ (C : String) (T : u_T) (N : Nat) (ty0 : Nat → FieldType), CLok ci C T N ty0 ∧ k < N ∧ Cond.fieldLink own idx (T k).1 (T k).2.1 (T k).2.2.1 ∈ lwg
def FP (M : MD) (idx ci k : Nat) (ty : FieldType) : Prop := ∃ (C : String) (T : u_T) (N : Nat) (ty0 : Nat → FieldType), CLok ci C T N ty0 ∧ k < N ∧ Cond.fieldLink M.2.2.2.2 idx (T k).1 (T k).2.1 (T k).2.2.1 ∈ lwg ∧ ty0 k = ty ∧ ((T k).2.2.2 = false ∨ ((T k).2.2.2 = true ∧ M.1.name = "<init>" ∧ (T k).1 = M.2.2.2.2))
/-- x is the number j, a place of a row of n -/
def ix (x : Int32) (j n : Nat) : Prop := vp_in x n ∧ x.toNatClampNeg = j
theorem ix_nI {j n : Nat} (h : j < n) (hn : n < 2 ^ 31) : ix (nI j) j n := ⟨vp_in_nI h hn, nI_clamp (by omega)⟩
theorem ix_of {x : Int32} {j n : Nat} (e : x = nI j) (h : j < n) (hn : n < 2 ^ 31) : ix x j n := by rw [e]; exact ix_nI h hn
theorem Wd.put {b : Nat} {G : GG} {h : List AC} {s : State} {H H1 : Heap} {locs : List Loc} {i k : Nat} {c0 c : AC} (hw : Wd b G h s H locs) (hc : h[i]? = some c0) (hat : va_at G.1 vwCl (b + i, ce b G c) H1) (z : H1.size = H.size) (oq : ∀ q : Nat, q ≠ b + i → H1[q]? = H[q]?) : Wd b G (h.set i c) s H1 (locs ++ [⟨b + i, k⟩]) := by
  refine ⟨by rw [z, hw.1, List.length_set], ?_, hw.2.2.put z oq (Nat.le_add_right _ _)⟩
  rw [← wl_set]
  exact hw.2.1.set (wl_D b G h) (wl_get hc) hat oq
theorem Wd.push {b : Nat} {G : GG} {h : List AC} {s : State} {H H1 : Heap} {locs : List Loc} {c : AC} (hw : Wd b G h s H locs) (hat : va_at G.1 vwCl (b + h.length, ce b G c) H1) (z : H1.size = H.size + 1) (oq : ∀ q : Nat, q < H.size → H1[q]? = H[q]?) : Wd b G (h ++ [c]) s H1 locs := by
  refine ⟨by rw [z, hw.1, List.length_append]; rfl, fun k q hk => ?_, ⟨by have := hw.2.2.1; omega, fun q h1 h2 => by rw [oq q (Nat.lt_of_lt_of_le h1 hw.2.2.1)]; exact hw.2.2.2.1 q h1 h2, hw.2.2.2.2⟩⟩
  obtain ⟨c', hc', rfl⟩ := wl_inv hk
  by_cases hl : k < h.length
  · rw [List.getElem?_append_left hl] at hc'
    exact (hw.2.1 k _ (wl_get hc')).kept (oq _ (by rw [hw.1]; show b + k < _; omega))
  · have h1 := (List.getElem?_eq_some_iff.mp hc').1
    rw [List.length_append] at h1
    have h2 : k = h.length := by simp at h1; omega
    subst h2
    rw [List.getElem?_append_right (Nat.le_refl _), Nat.sub_self] at hc'
    cases hc'
    exact hat
section RULES
variable {M : MD} {d rc rs pc : Nat} {ls : List (Option Value)} {st : List Value} {h : List AC} {Q : Option Value → List AC → Prop}
theorem V.iload_n {k : Fin 4} {x : Int32} (hd : decode M.2.1 pc = .ok (.iload_n k, 1)) (hl : ls[(k : Nat)]? = some (some (.int x))) (kk : V M d rc rs (pc + 1) ls (.int x :: st) h Q) : V M d rc rs pc ls st h Q :=
  fun p l e R s m args below meth c b G H locs cells slots arr hC hW hL h1 h2 => lv_iload_n hC.1 hC.2.1 hd rfl (hL.at hl) (kk p l e R s m args below meth c b G H locs cells slots arr hC hW hL h1 h2)
theorem V.iload {i : Nat} {x : Int32} (hd : decode M.2.1 pc = .ok (.iload i, 2)) (hl : ls[i]? = some (some (.int x))) (kk : V M d rc rs (pc + 2) ls (.int x :: st) h Q) : V M d rc rs pc ls st h Q :=
  fun p l e R s m args below meth c b G H locs cells slots arr hC hW hL h1 h2 => lv_iload hC.1 hC.2.1 hd (hL.at hl) (kk p l e R s m args below meth c b G H locs cells slots arr hC hW hL h1 h2)
theorem V.aload_n {k : Fin 4} {x : Nat} (hd : decode M.2.1 pc = .ok (.aload_n k, 1)) (hl : ls[(k : Nat)]? = some (some (.ref x))) (kk : V M d rc rs (pc + 1) ls (.ref x :: st) h Q) : V M d rc rs pc ls st h Q :=
  fun p l e R s m args below meth c b G H locs cells slots arr hC hW hL h1 h2 => lv_aload_n hC.1 hC.2.1 hd rfl (hL.at hl) (kk p l e R s m args below meth c b G H locs cells slots arr hC hW hL h1 h2)
theorem V.aload {i : Nat} {x : Nat} (hd : decode M.2.1 pc = .ok (.aload i, 2)) (hl : ls[i]? = some (some (.ref x))) (kk : V M d rc rs (pc + 2) ls (.ref x :: st) h Q) : V M d rc rs pc ls st h Q :=
  fun p l e R s m args below meth c b G H locs cells slots arr hC hW hL h1 h2 => lv_aload hC.1 hC.2.1 hd (hL.at hl) (kk p l e R s m args below meth c b G H locs cells slots arr hC hW hL h1 h2)
theorem V.istore_n {k : Fin 4} {x : Int32} (hd : decode M.2.1 pc = .ok (.istore_n k, 1)) (hk : (k : Nat) < ls.length) (kk : V M d rc rs (pc + 1) (ls.set k (some (.int x))) st h Q) : V M d rc rs pc ls (.int x :: st) h Q :=
  fun p l e R s m args below meth c b G H locs cells slots arr hC hW hL h1 h2 => lv_istore_n hC.1 hC.2.1 hd rfl hL.has (by rw [← hL.2.2.1]; exact hk) rfl (fun arr' h' => kk p l e R s m args below meth c b G H locs cells slots arr' hC hW (hL.set (v := .int x) rfl h') h1 h2)
theorem V.istore {i : Nat} {x : Int32} (hd : decode M.2.1 pc = .ok (.istore i, 2)) (hk : i < ls.length) (kk : V M d rc rs (pc + 2) (ls.set i (some (.int x))) st h Q) : V M d rc rs pc ls (.int x :: st) h Q :=
  fun p l e R s m args below meth c b G H locs cells slots arr hC hW hL h1 h2 => lv_istore hC.1 hC.2.1 hd hL.has (by rw [← hL.2.2.1]; exact hk) rfl (fun arr' h' => kk p l e R s m args below meth c b G H locs cells slots arr' hC hW (hL.set (v := .int x) rfl h') h1 h2)
theorem V.astore_n {k : Fin 4} {x : Nat} (hd : decode M.2.1 pc = .ok (.astore_n k, 1)) (hk : (k : Nat) < ls.length) (kk : V M d rc rs (pc + 1) (ls.set k (some (.ref x))) st h Q) : V M d rc rs pc ls (.ref x :: st) h Q :=
  fun p l e R s m args below meth c b G H locs cells slots arr hC hW hL h1 h2 => lv_astore_n hC.1 hC.2.1 hd rfl hL.has (by rw [← hL.2.2.1]; exact hk) rfl (fun arr' h' => kk p l e R s m args below meth c b G H locs cells slots arr' hC hW (hL.set (v := .ref x) rfl h') h1 h2)
theorem V.astore {i : Nat} {x : Nat} (hd : decode M.2.1 pc = .ok (.astore i, 2)) (hk : i < ls.length) (kk : V M d rc rs (pc + 2) (ls.set i (some (.ref x))) st h Q) : V M d rc rs pc ls (.ref x :: st) h Q :=
  fun p l e R s m args below meth c b G H locs cells slots arr hC hW hL h1 h2 => lv_astore hC.1 hC.2.1 hd hL.has (by rw [← hL.2.2.1]; exact hk) rfl (fun arr' h' => kk p l e R s m args below meth c b G H locs cells slots arr' hC hW (hL.set (v := .ref x) rfl h') h1 h2)
theorem V.iinc {i : Nat} {n : Int} {x v : Int32} (hd : decode M.2.1 pc = .ok (.iinc i n, 3)) (hl : ls[i]? = some (some (.int x))) (hv : x + Int32.ofInt n = v) (kk : V M d rc rs (pc + 3) (ls.set i (some (.int v))) st h Q) : V M d rc rs pc ls st h Q := by
  intro p l e R s m args below meth c b G H locs cells slots arr hC hW hL h1 h2
  obtain ⟨k, hk⟩ := List.getElem?_of_mem ((lcl_mem (b := b) (ls := ls) (q := (i, Value.int x))).mpr ⟨.int x, hl, rfl⟩)
  exact lv_iinc hC.1 hC.2.1 hd hL.has hk hv (by rw [← hL.2.2.1]; exact (List.getElem?_eq_some_iff.mp hl).1) rfl (fun arr' h' => kk p l e R s m args below meth c b G H locs cells slots arr' hC hW (hL.set (v := .int v) rfl h') h1 h2)
theorem V.ldc {idx : Nat} {v : Int32} (hd : decode M.2.1 pc = .ok (.ldc idx, 2)) (hw : Cond.constant M.2.2.2.2 idx v ∈ lwg) (kk : V M d rc rs (pc + 2) ls (.int v :: st) h Q) : V M d rc rs pc ls st h Q :=
  fun p l e R s m args below meth c b G H locs cells slots arr hC hW hL h1 h2 => lv_ldc hC.1 hC.2.1 hC.2.2.2.2.1 (hC.2.2.2.2.2.1 _ (List.mem_cons_of_mem _ hw)) hd (kk p l e R s m args below meth c b G H locs cells slots arr hC hW hL h1 h2)
theorem V.getf {idx ci k i : Nat} {fs : List Value} {v : Value} (hd : decode M.2.1 pc = .ok (.getfield idx, 3)) (hf : FL M.2.2.2.2 idx ci k) (hr : h[i]? = some (.inl (ci, fs))) (hv : fs[k]? = some v) (kk : V M d rc rs (pc + 3) ls (v :: st) h Q) : V M d rc rs pc ls (.ref i :: st) h Q := by
  intro p l e R s m args below meth c b G H locs cells slots arr hC hW hL h1 h2
  obtain ⟨C, T, N, ty0, hcl, hk, hlw⟩ := hf
  have he : (wl b G h)[i]? = some (b + i, .inr (ci, fs.map (cv b))) := wl_get hr
  have hts := hC.2.2.2.2.2.1
  exact va_get (v := cv b v) hC.1 hC.2.1 (Ts := pmW M) hts (fun w hw => List.mem_cons_of_mem _ (hcl.2.1 w hw)) hC.2.2.2.2.1 hC.2.2.2.2.2.2.2.2.2.1.1 hW.2.1 i he hcl.1 k hk (hts _ (List.mem_cons_of_mem _ hlw)) (fun _ h9 => h9) (by rw [List.getElem?_map, hv]; rfl) hd (kk p l e R s m args below meth c b G H locs cells slots arr hC hW hL h1 h2)
theorem V.putf {idx ci k i : Nat} {ty : FieldType} {fs : List Value} {v : Value} (hd : decode M.2.1 pc = .ok (.putfield idx, 3)) (hf : FP M idx ci k ty) (hr : h[i]? = some (.inl (ci, fs))) (hl : k < fs.length) (hn : ∀ b, narrow ty (cv b v) = cv b v ∧ fits ty (cv b v) = true) (kk : V M d rc rs (pc + 3) ls st (h.set i (.inl (ci, fs.set k v))) Q) : V M d rc rs pc ls (v :: .ref i :: st) h Q := by
  intro p l e R s m args below meth c b G H locs cells slots arr hC hW hL h1 h2
  obtain ⟨C, T, N, ty0, hcl, hk, hlw, hty, hfin⟩ := hf
  have he : (wl b G h)[i]? = some (b + i, .inr (ci, fs.map (cv b))) := wl_get hr
  have hts := hC.2.2.2.2.2.1
  have hown := hC.2.2.2.2.1
  have hin : ∀ w ∈ u_ws C T N, w ∈ pmW M := fun w hw => List.mem_cons_of_mem _ (hcl.2.1 w hw)
  have hK := hC.2.2.2.2.2.2.2.2.2.1.1
  have hdty : parseFieldDescriptor (T k).2.2.1 = some ty := by rw [← hty]; exact hcl.2.2.1 k hk
  have hap := va_apart (own := M.2.2.2.2) hts hin ty0 hcl.2.2.1 hcl.2.2.2 hK hcl.1
  obtain ⟨r, g1, cell, q1, q2, q3, q4⟩ := hW.2.1 i _ he
  have hr' : r = (C, T, N) := Option.some.inj (g1.symm.trans hcl.1)
  subst hr'
  obtain ⟨hS, hfc, kC, hkC, hkind⟩ := hK.1 ci _ hcl.1
  obtain ⟨cf, kf, fi, f, hi, hsl⟩ := hS k hk
  have hst := (u_facts hfc hkC (u_lays hts hin hk) hi).1
  have hlink := hts _ (List.mem_cons_of_mem _ hlw)
  have hend : ∀ H' : Heap, H'[b + i]? = some (cell.setSlot f.slot (cv b v)) → H'.size = H.size → (∀ q, q ≠ b + i → H'[q]? = H[q]?) → W p l e R s m args below meth c H' (locs ++ [⟨b + i, f.slot⟩]) cells slots (MQ below (QcA b G Q) args s R.cells R.slots (fun q => b ≤ q)) (F0 m (pc + 3) arr (st.map (cv b))) := by
    intro H' e1 e2 e3
    refine kk p l e R s m args below meth c b G H' _ cells slots arr hC (hW.put hr ?_ e2 e3) hL h1 h2
    rw [hsl] at e1
    refine ⟨_, hcl.1, ?_⟩
    have := t_OB.to (V := updV (vp_V (fs.map (cv b))) k (cv b v)) (V' := vp_V ((fs.map (cv b)).set k (cv b v))) ⟨_, e1, q2, q3, t_set q4 hap hk (cv b v)⟩ (fun j _ => vp_updV_set (by simpa using hl) (cv b v) j)
    show t_OB (b + i) _ _ _ H' (vp_V ((fs.set k v).map (cv b)))
    rw [List.map_set]
    exact this
  rcases hfin with hfin | ⟨hfin, hnm, hdecl⟩
  · have hlay := hts _ (hin _ (u_in_lay hk))
    unfold u_lay at hlay
    rw [if_neg (by rw [hfin]; decide)] at hlay
    have h6 := u_store hfc hkC hkind hlay hi hdty (hn b).1 (hn b).2
    exact W.putK hC.1 hC.2.1 (f := f) ⟨hown, hlink, ⟨_, _, _, hi⟩, hst⟩ (by rw [q2]; exact h6) q1 q3 (by rw [hsl]; exact k2_hasslot (q4 k hk)) rfl rfl hd hend
  · have hlay := hts _ (hin _ (u_in_lay hk))
    unfold u_lay at hlay
    rw [if_pos hfin] at hlay
    have hcf : m.cls = cf := by
      obtain ⟨_, _, c', _, _, _, -, -, hf', -, -, -, hown2, -⟩ := Cond.laysFinal_spec hlay
      have e1 : c' = cf := by have := hi.symm.trans hf'; simp at this; exact this.1.symm
      rw [hdecl] at hown2
      rw [← e1]; exact Option.some.inj (hown.symm.trans hown2)
    have h6 := u_fits hfc hkC hkind (Or.inr hlay) hi hdty (hn b).1 (hn b).2
    exact W.putFinK hC.1 hC.2.1 hown hlink hi hst hcf (by rw [hC.2.2.2.2.2.2.2.1]; exact hnm) (by rw [q2]; exact h6) q1 q3 (by rw [hsl]; exact k2_hasslot (q4 k hk)) rfl rfl hd hend
theorem V.iald {i j n : Nat} {f : Nat → Int32} {x : Int32} (hd : decode M.2.1 pc = .ok (.iaload, 1)) (ha : h[i]? = some (.inr (0, n, .inl f))) (hj : ix x j n) (kk : V M d rc rs (pc + 1) ls (.int (f j) :: st) h Q) : V M d rc rs pc ls (.int x :: .ref i :: st) h Q := by
  intro p l e R s m args below meth c b G H locs cells slots arr hC hW hL h1 h2
  obtain ⟨hj1, rfl⟩ := hj
  exact va_iald (tys := tysG G) hC.1 hC.2.1 hC.2.2.2.2.2.2.2.2.2.1.1 hW.2.1 i 0 (wl_get ha) rfl hj1 hd (kk p l e R s m args below meth c b G H locs cells slots arr hC hW hL h1 h2)
theorem V.zald {i j n : Nat} {f : Nat → Int32} {x : Int32} (hd : decode M.2.1 pc = .ok (.baload, 1)) (ha : h[i]? = some (.inr (1, n, .inl f))) (hj : ix x j n) (kk : V M d rc rs (pc + 1) ls (.int (f j) :: st) h Q) : V M d rc rs pc ls (.int x :: .ref i :: st) h Q := by
  intro p l e R s m args below meth c b G H locs cells slots arr hC hW hL h1 h2
  obtain ⟨hj1, rfl⟩ := hj
  exact va_zald (tys := tysG G) hC.1 hC.2.1 hC.2.2.2.2.2.2.2.2.2.1.1 hW.2.1 i 1 (wl_get ha) rfl hj1 hd (kk p l e R s m args below meth c b G H locs cells slots arr hC hW hL h1 h2)
theorem V.aald {i j n r : Nat} {f : Nat → Option Nat} {x : Int32} (hd : decode M.2.1 pc = .ok (.aaload, 1)) (ha : h[i]? = some (.inr (2, n, .inr f))) (hj : ix x j n) (hr : f j = some r) (kk : V M d rc rs (pc + 1) ls (.ref r :: st) h Q) : V M d rc rs pc ls (.int x :: .ref i :: st) h Q := by
  intro p l e R s m args below meth c b G H locs cells slots arr hC hW hL h1 h2
  obtain ⟨hj1, rfl⟩ := hj
  refine va_aldq (tys := tysG G) hC.1 hC.2.1 hC.2.2.2.2.2.2.2.2.2.1.1 hW.2.1 i 2 (wl_get ha) rfl hj1 hd ?_
  have e9 : va_rf (Option.map (fun i => b + i) (f x.toNatClampNeg)) = .ref (b + r) := by rw [hr]; rfl
  rw [e9]
  exact kk p l e R s m args below meth c b G H locs cells slots arr hC hW hL h1 h2
theorem V.alen {i k n : Nat} {f : (Nat → Int32) ⊕ (Nat → Option Nat)} {v : Int32} (hd : decode M.2.1 pc = .ok (.arraylength, 1)) (hk : k < 3) (ha : h[i]? = some (.inr (k, n, f))) (hv : Int32.ofNat n = v) (kk : V M d rc rs (pc + 1) ls (.int v :: st) h Q) : V M d rc rs pc ls (.ref i :: st) h Q := by
  intro p l e R s m args below meth c b G H locs cells slots arr hC hW hL h1 h2
  have hK := hC.2.2.2.2.2.2.2.2.2.1.1
  have ht : ∃ ty, (tysG G)[k]? = some (G.2 k, ty) := by
    rcases (show k = 0 ∨ k = 1 ∨ k = 2 by omega) with rfl | rfl | rfl <;> exact ⟨_, rfl⟩
  obtain ⟨ty, ht⟩ := ht
  cases f with
  | inl f => exact va_alen (tys := tysG G) hC.1 hC.2.1 hK hW.2.1 i k (wl_get ha) ht hv hd (kk p l e R s m args below meth c b G H locs cells slots arr hC hW hL h1 h2)
  | inr f => exact va_alen (tys := tysG G) hC.1 hC.2.1 hK hW.2.1 i k (wl_get ha) ht hv hd (kk p l e R s m args below meth c b G H locs cells slots arr hC hW hL h1 h2)
theorem V.iast {i j n : Nat} {f : Nat → Int32} {x v : Int32} (hd : decode M.2.1 pc = .ok (.iastore, 1)) (ha : h[i]? = some (.inr (0, n, .inl f))) (hj : ix x j n) (kk : V M d rc rs (pc + 1) ls st (h.set i (.inr (0, n, .inl (upd f j v)))) Q) : V M d rc rs pc ls (.int v :: .int x :: .ref i :: st) h Q := by
  intro p l e R s m args below meth c b G H locs cells slots arr hC hW hL h1 h2
  obtain ⟨hj1, rfl⟩ := hj
  have hK := hC.2.2.2.2.2.2.2.2.2.1.1
  refine W.iast hC.1 hC.2.1 (hW.2.1 i _ (wl_get ha)) ((hK.2 0 _ rfl).1 n (fun j => .int (f j))) (fun q => by cases q) (by show ¬ (x < 0 ∨ (arrV _ _ _).slots.size ≤ _); rw [arrV_size]; exact hj1) rfl rfl hd fun H1 e1 z oq => ?_
  refine kk p l e R s m args below meth c b G H1 _ cells slots arr hC (hW.put ha ?_ z oq) hL h1 h2
  show H1[b + i]? = some (vp_cell _ _)
  rw [e1]
  show some (Cell.setSlot (vp_cell _ (n, .inl f)) _ _) = _
  rw [vp_cell_i, vp_cell_i, arrV_store]
  congr 2
  funext q
  by_cases hq : q = x.toNatClampNeg
  · subst hq
    simp [updV, upd]
  · simp [updV, upd, hq]
theorem V.zast {i j n : Nat} {f : Nat → Int32} {x v : Int32} (hd : decode M.2.1 pc = .ok (.bastore, 1)) (ha : h[i]? = some (.inr (1, n, .inl f))) (hj : ix x j n) (hv : vp_nar .boolean v = v) (kk : V M d rc rs (pc + 1) ls st (h.set i (.inr (1, n, .inl (upd f j v)))) Q) : V M d rc rs pc ls (.int v :: .int x :: .ref i :: st) h Q := by
  intro p l e R s m args below meth c b G H locs cells slots arr hC hW hL h1 h2
  obtain ⟨hj1, rfl⟩ := hj
  have hK := hC.2.2.2.2.2.2.2.2.2.1.1
  refine W.zast hC.1 hC.2.1 (hW.2.1 i _ (wl_get ha)) ((hK.2 1 _ rfl).1 n (fun j => .int (f j))) (fun q => by cases q) (by show ¬ (x < 0 ∨ (arrV _ _ _).slots.size ≤ _); rw [arrV_size]; exact hj1) rfl rfl hd fun H1 e1 z oq => ?_
  refine kk p l e R s m args below meth c b G H1 _ cells slots arr hC (hW.put ha ?_ z oq) hL h1 h2
  show H1[b + i]? = some (vp_cell _ _)
  rw [e1]
  have hnv : narrow .boolean (.int v) = .int v := by
    have h9 : narrow .boolean (.int v) = .int (vp_nar .boolean v) := rfl
    rw [h9, hv]
  rw [hnv]
  show some (Cell.setSlot (vp_cell _ (n, .inl f)) _ _) = _
  rw [vp_cell_i, vp_cell_i, arrV_store]
  congr 2
  funext q
  by_cases hq : q = x.toNatClampNeg
  · subst hq
    simp [updV, upd]
  · simp [updV, upd, hq]
theorem V.aast {i j n v : Nat} {f : Nat → Option Nat} {fs : List Value} {x : Int32} (hd : decode M.2.1 pc = .ok (.aastore, 1)) (ha : h[i]? = some (.inr (2, n, .inr f))) (hv : h[v]? = some (.inl (5, fs))) (hj : ix x j n) (kk : V M d rc rs (pc + 1) ls st (h.set i (.inr (2, n, .inr (va_up f j (some v))))) Q) : V M d rc rs pc ls (.ref v :: .int x :: .ref i :: st) h Q := by
  intro p l e R s m args below meth c b G H locs cells slots arr hC hW hL h1 h2
  obtain ⟨hj1, rfl⟩ := hj
  have hK := hC.2.2.2.2.2.2.2.2.2.1.1
  have hlt : x.toNatClampNeg < n := Nat.not_le.mp fun q => hj1 (Or.inr q)
  have h0 : ¬ x < 0 := fun q => hj1 (Or.inl q)
  obtain ⟨r', hr', cellV, g1, g2, g3, -⟩ := hW.2.1 v _ (wl_get hv)
  have hcls := (hK.1 5 _ (rfl : vwCl[5]? = some (RX5, TX5, 10))).2
  obtain ⟨kA, comp, k1, k2, k3, -⟩ := (hK.2 2 _ (rfl : (tysG G)[2]? = some (G.2 2, .object RX5))).2
  have hcomp : comp = G.1.1 5 := Option.some.inj (k3.symm.trans hcls.1)
  subst hcomp
  obtain ⟨kC, hkC, -⟩ := hcls.2
  refine W.aast hC.1 hC.2.1 (hW.2.1 i _ (wl_get ha)) (fun q h => by cases h) (fun h => by cases h) k1 k2 rfl hkC ⟨h0, by show _ < (arrV _ _ _).slots.size; rw [arrV_size]; exact hlt⟩ g1 (fun q h => by rw [g3] at h; cases h) (by rw [g2]; exact hkC) (by rw [g2]; exact va_assign hcls) rfl rfl hd fun H1 e1 z oq => ?_
  refine kk p l e R s m args below meth c b G H1 _ cells slots arr hC (hW.put ha ?_ z oq) hL h1 h2
  show H1[b + i]? = some (vp_cell _ _)
  rw [e1]
  show some (Cell.setSlot (vp_cell _ (n, .inr (.inr (.inr (.inr (fun j => (f j).map (fun i => b + i))))))) _ _) = _
  rw [vp_cell_q, vp_cell_q, arrV_store]
  congr 2
  funext q
  by_cases hq : q = x.toNatClampNeg
  · subst hq
    simp [updV, va_up, va_rf]
  · simp [updV, va_up, hq]
end RULES
end
section
/-! THE FRAME LOGIC'S ROWS: new cells, calls, ends, a copy of a row -/
def NWok (own : String) (idx ci N : Nat) (fs : List Value) : Prop := ∃ (C : String) (T : u_T) (ty0 : Nat → FieldType), CLok ci C T N ty0 ∧ Cond.classLink own idx C ∈ lwg ∧ Cond.instantiable C N ∈ lwg ∧ Cond.initialized C ∈ lwg ∧ (∀ j, j < N → defaultValue (ty0 j) = vp_V fs j) ∧ (∀ b, fs.map (cv b) = fs)
/-- what a call's words say: the callee M' with n arguments -/
def CWok (M' : MD) (n : Nat) : Prop := Cond.code M'.1 M'.2.1 M'.2.2.1 M'.2.2.2.1 ∈ lwg ∧ Cond.initialized M'.1.cls ∈ lwg ∧ (M'.1.cls ≠ "java/lang/invoke/MethodHandle" ∧ M'.1.cls ≠ "java/lang/invoke/VarHandle" ∧ (parseMethodDescriptor M'.1.desc).map (fun d => d.parameters.length) = some n) ∧ M'.2.2.1 ≤ 21
def CVok (own : String) (idx : Nat) (M' : MD) (ci n : Nat) : Prop := CWok M' n ∧ Cond.methodLink own idx M'.1 ∈ lwg ∧ Cond.instanceMethod M'.1 ∈ lwg ∧ Cond.selects M'.1.cls M'.1 M'.1 ∈ lwg ∧ ∃ (T : u_T) (N : Nat), vwCl[ci]? = some (M'.1.cls, T, N)
def CSok (own : String) (idx : Nat) (M' : MD) (n : Nat) : Prop := CWok M' n ∧ Cond.static M'.1 ∈ lwg ∧ (Cond.methodLink own idx M'.1 ∈ lwg ∨ ∃ host, Cond.methodLinkNest own idx M'.1 host ∈ lwn)
def CIok (own : String) (idx : Nat) (M' : MD) (n : Nat) : Prop := CWok M' n ∧ M'.2.2.2.1 = none ∧ M'.1.name = "<init>" ∧ Cond.instanceMethod M'.1 ∈ lwg ∧ (Cond.methodLink own idx M'.1 ∈ lwg ∨ ∃ host, Cond.methodLinkNest own idx M'.1 host ∈ lwn)
theorem map_toList (b : Nat) (r : Option Value) (st : List Value) : (r.map (cv b)).toList ++ st.map (cv b) = (r.toList ++ st).map (cv b) := by cases r <;> rfl
section RULES
variable {M : MD} {d rc rs pc : Nat} {ls : List (Option Value)} {st : List Value} {h : List AC} {Q : Option Value → List AC → Prop}
theorem V.new {idx ci N : Nat} {fs : List Value} (hd : decode M.2.1 pc = .ok (.new idx, 3)) (hn : NWok M.2.2.2.2 idx ci N fs) (kk : V M d rc rs (pc + 3) ls (.ref h.length :: st) (h ++ [.inl (ci, fs)]) Q) : V M d (rc + 1) (rs + N) pc ls st h Q := by
  intro p l e R s m args below meth c b G H locs cells slots arr hC hW hL h1 h2
  obtain ⟨C, T, ty0, hcl, w1, w2, w3, hdf, hfs⟩ := hn
  have hts := hC.2.2.2.2.2.1
  have hK := hC.2.2.2.2.2.2.2.2.2.1.1
  have hKn := hK.1 ci _ hcl.1
  refine W.newcK hC.1 hC.2.1 hC.2.2.2.2.1 (hts _ (List.mem_cons_of_mem _ w1)) (hts _ (List.mem_cons_of_mem _ w2)) (hts _ (List.mem_cons_of_mem _ w3)) rfl hd (by omega) (by omega) hKn.2.1 hW.1 fun H1 kC hkC e1 z1 o1 => ?_
  refine kk p l e R s m args below meth c b G H1 locs (cells + 1) (slots + N) arr hC (hW.push ⟨_, hcl.1, ?_⟩ (by rw [z1, hW.1]) (fun q hq => o1 q (by rw [← hW.1]; exact hq))) hL (by omega) (by omega)
  have := (u_born ty0 hts (fun w hw => List.mem_cons_of_mem _ (hcl.2.1 w hw)) hKn hkC e1 hcl.2.2.1).to hdf
  show t_OB (b + h.length) _ _ _ H1 (vp_V (fs.map (cv b)))
  rw [hfs b]
  exact this
theorem V.newi {n : Int32} {N : Nat} (hd : decode M.2.1 pc = .ok (.newarray .int, 2)) (hw : Cond.arrayClass .int ∈ lwg) (hn : ¬ n < 0) (hN : n.toNatClampNeg = N) (hb : N ≤ 1000) (kk : V M d rc rs (pc + 2) ls (.ref h.length :: st) (h ++ [.inr (0, N, .inl (fun _ => 0))]) Q) : V M d (rc + 1) (rs + N) pc ls (.int n :: st) h Q := by
  intro p l e R s m args below meth c b G H locs cells slots arr hC hW hL h1 h2
  have hts := hC.2.2.2.2.2.1
  have hK := hC.2.2.2.2.2.2.2.2.2.1.1
  refine va_newaK (atype := .int) hC.1 hC.2.1 (hts _ (List.mem_cons_of_mem _ hw)) rfl hd rfl hn hN (by show N * 4 ≤ _; omega) (by omega) (by omega) hW.1 fun H1 cA e1 z1 o1 hAr hNm => ?_
  have hc : cA = G.2 0 := Option.some.inj (hNm.symm.trans (hK.2 0 _ rfl).2)
  subst hc
  refine kk p l e R s m args below meth c b G H1 locs (cells + 1) (slots + N) arr hC (hW.push ?_ (by rw [z1, hW.1]) (fun q hq => o1 q (by rw [← hW.1]; exact hq))) hL (by omega) (by omega)
  show H1[b + h.length]? = some (vp_cell _ _)
  rw [e1]
  rfl
theorem V.newz {n : Int32} {N : Nat} (hd : decode M.2.1 pc = .ok (.newarray .boolean, 2)) (hw : Cond.arrayClass .boolean ∈ lwg) (hn : ¬ n < 0) (hN : n.toNatClampNeg = N) (hb : N ≤ 1000) (kk : V M d rc rs (pc + 2) ls (.ref h.length :: st) (h ++ [.inr (1, N, .inl (fun _ => 0))]) Q) : V M d (rc + 1) (rs + N) pc ls (.int n :: st) h Q := by
  intro p l e R s m args below meth c b G H locs cells slots arr hC hW hL h1 h2
  have hts := hC.2.2.2.2.2.1
  have hK := hC.2.2.2.2.2.2.2.2.2.1.1
  refine va_newaK (atype := .boolean) hC.1 hC.2.1 (hts _ (List.mem_cons_of_mem _ hw)) rfl hd rfl hn hN (by show N * 1 ≤ _; omega) (by omega) (by omega) hW.1 fun H1 cA e1 z1 o1 hAr hNm => ?_
  have hc : cA = G.2 1 := Option.some.inj (hNm.symm.trans (hK.2 1 _ rfl).2)
  subst hc
  refine kk p l e R s m args below meth c b G H1 locs (cells + 1) (slots + N) arr hC (hW.push ?_ (by rw [z1, hW.1]) (fun q hq => o1 q (by rw [← hW.1]; exact hq))) hL (by omega) (by omega)
  show H1[b + h.length]? = some (vp_cell _ _)
  rw [e1]
  rfl
theorem V.newq {n : Int32} {N idx : Nat} (hd : decode M.2.1 pc = .ok (.anewarray idx, 3)) (hw : Cond.classLink M.2.2.2.2 idx RX5 ∈ lwg) (hn : ¬ n < 0) (hN : n.toNatClampNeg = N) (hb : N ≤ 1000) (kk : V M d rc rs (pc + 3) ls (.ref h.length :: st) (h ++ [.inr (2, N, .inr (fun _ => none))]) Q) : V M d (rc + 1) (rs + N) pc ls (.int n :: st) h Q := by
  intro p l e R s m args below meth c b G H locs cells slots arr hC hW hL h1 h2
  subst hN
  have hts := hC.2.2.2.2.2.1
  have hK := hC.2.2.2.2.2.2.2.2.2.1.1
  have hO := hC.2.2.2.2.2.2.2.2.2.1.2.2
  refine W.anew hC.1 hC.2.1 hC.2.2.2.2.1 (hts _ (List.mem_cons_of_mem _ hw)) (va_AO.use hO) rfl hd rfl hn (by omega) (by omega) (by omega) fun cA kA comp f1 f2 f3 f4 => ?_
  obtain ⟨kA', comp', -, -, -, k4⟩ := (hK.2 2 _ (rfl : (tysG G)[2]? = some (G.2 2, .object RX5))).2
  have hc : cA = G.2 2 := Option.some.inj (f1.symm.trans k4)
  subst hc
  generalize hH1 : H.push ({ cls := G.2 2, slots := Array.replicate n.toNatClampNeg .null, vm := .none } : Cell) = H1
  have z1 : H1.size = H.size + 1 := by rw [← hH1, Array.size_push]
  have e1 : H1[H.size]? = some (arrV (G.2 2) n.toNatClampNeg (fun _ => .null)) := by rw [← hH1, Array.getElem?_push_size, ← arrV_new]
  have o1 : ∀ q : Nat, q < H.size → H1[q]? = H[q]? := fun q hq => by rw [← hH1, Array.getElem?_push, if_neg (Nat.ne_of_lt hq)]
  have hk := kk p l e R s m args below meth c b G H1 locs (cells + 1) (slots + n.toNatClampNeg) arr hC (hW.push ?_ z1 o1) hL (by omega) (by omega)
  · rw [hW.1]
    exact hk
  · show H1[b + h.length]? = some (vp_cell _ _)
    rw [← hW.1, e1]
    rfl
theorem V.objInit {idx i : Nat} (hd : decode M.2.1 pc = .ok (.invokespecial idx, 3)) (hw : Cond.methodLink M.2.2.2.2 idx Lib.objectInit ∈ lwg) (hw2 : Cond.instanceMethod Lib.objectInit ∈ lwg) (hw3 : Cond.code Lib.objectInit ⟨#[0xb1]⟩ 1 none ∈ lwg) (hdp : 1 ≤ d) (hs : (st.map fun v => v.category).sum ≤ 8) (kk : V M d rc rs (pc + 3) ls st h Q) : V M d rc rs pc ls (.ref i :: st) h Q := by
  intro p l e R s m args below meth c b G H locs cells slots arr hC hW hL h1 h2
  have hts := hC.2.2.2.2.2.1
  obtain ⟨hfr, hlo⟩ := hC.2.2.2.2.2.2.2.2.2.2
  refine W.objInit hC.1 hC.2.1 hC.2.2.2.2.1 (hts _ (List.mem_cons_of_mem _ hw)) (hts _ (List.mem_cons_of_mem _ hw2)) (hts _ (List.mem_cons_of_mem _ hw3)) rfl (by rw [hC.2.2.2.1]; exact hL.1) rfl hd (by omega) (by show 2 * 0 + ((st.map (cv b)).map fun v => v.category).sum + 12 ≤ R.locals; rw [cv_sum]; omega) ?_
  exact kk p l e R s m args below meth c b G H locs cells slots arr hC hW hL h1 h2
/-- behind a call -/
theorem V.after {p : Program} {l : Launch} {e : Env} {R : Room} {s : State} {m : MethodId} {args : Array Value} {below : List Frame} {meth : Method} {c : Code} {b : Nat} {G : GG} {H : Heap} {locs : List Loc} {cells slots nc ns : Nat} {arr : Array Slot} {st0 : List Value} {Q' : Option Value → List AC → Prop} {a : Array Value}
    (hr : va_Run p l e R s m args below meth c H locs cells slots nc ns (F0 m pc arr st0) (st.map (cv b)) (QcA b G Q' a) (fun q => b ≤ q)) (hC : Cx M d p R s m args meth c b G) (hW : Wd b G h s H locs) (hL : Lc b arr M.2.2.1 ls) (h1 : cells + (rc + nc) ≤ R.cells) (h2 : slots + (rs + ns) ≤ R.slots)
    (kk : ∀ (r : Option Value) (h' : List AC), Q' r h' → V M d rc rs (pc + 3) ls (r.toList ++ st) h' Q) : W p l e R s m args below meth c H locs cells slots (MQ below (QcA b G Q) args s R.cells R.slots (fun q => b ≤ q)) (F0 m pc arr st0) := by
  intro T hT X
  obtain ⟨v, st₀, t, T', L, h0, X', hL', e1, e2, ⟨⟨r, h', hv, hq, hz, hP⟩, hF⟩, hst⟩ := hr T hT X
  have hv : v = r.map (cv b) := by cases hv; rfl
  subst hv
  have hS : va_S (fun q => b ≤ q) s.heap T'.heap (locs ++ L) := by
    refine ⟨Nat.le_trans hW.2.2.1 (by rw [e1, ← h0]; exact hF.1), fun q g1 g2 => ?_, fun q hq => ?_⟩
    · have g3 : q < H.size := Nat.lt_of_lt_of_le g1 hW.2.2.1
      rw [e1, hF.2 q (by rw [h0]; exact g3) g2, h0]
      exact hW.2.2.2.1 q g1 g2
    · rcases List.mem_append.mp hq with h | h
      · exact hW.2.2.2.2 q h
      · exact hL' q h
  obtain ⟨t2, a1, b1⟩ := kk r h' hq p l e R s m args below meth c b G T'.heap (locs ++ L) (cells + nc) (slots + ns) arr hC ⟨by rw [e1]; exact hz, by rw [e1]; exact hP, hS⟩ hL (by omega) (by omega) T' rfl X'
  refine ⟨t2, hst t2 ?_, b1⟩
  rw [← map_toList] at a1
  exact a1
theorem V.callV {idx ci n i d' nc ns : Nat} {M' : MD} {As : List Value} {st0 : List Value} {fs : List Value} {Q' : Option Value → List AC → Prop} (hd : decode M.2.1 pc = .ok (.invokevirtual idx, 3)) (hw : CVok M.2.2.2.2 idx M' ci n) (hr : h[i]? = some (.inl (ci, fs))) (hn : As.length = n) (hst : st0 = As.reverse ++ .ref i :: st) (hs : (st.map fun v => v.category).sum ≤ 8) (hdp : d' < d)
    (hM : Mt d' nc ns M' (.ref i :: As) h Q') (kk : ∀ (r : Option Value) (h' : List AC), Q' r h' → V M d rc rs (pc + 3) ls (r.toList ++ st) h' Q) : V M d (rc + nc) (rs + ns) pc ls st0 h Q := by
  intro p l e R s m args below meth c b G H locs cells slots arr hC hW hL h1 h2
  subst hst
  have hts := hC.2.2.2.2.2.1
  obtain ⟨hfr, hlo⟩ := hC.2.2.2.2.2.2.2.2.2.2
  have hKn := hC.2.2.2.2.2.2.2.2.2.1
  obtain ⟨⟨w1, w2, w3, w4⟩, w5, w6, w7, T, N, w8⟩ := hw
  have he : (wl b G h)[i]? = some (b + i, .inr (ci, fs.map (cv b))) := wl_get hr
  refine V.after (h := h) (va_runV (As := As.map (cv b)) (rest := st.map (cv b)) (b := b + i) (C := M'.1.cls) (bytes := M'.2.1) (maxL := M'.2.2.1) (ret := M'.2.2.2.1) ⟨hC.1, hC.2.1, hC.2.2.2.1, hC.2.2.2.2.1, hts⟩ (hM l b G) ?_ ?_ rfl (n := n) (by rw [List.length_map]; exact hn) hL.1 ?_ ?_ hd ?_) hC hW hL h1 h2 kk
  · exact ⟨callB_of n hts (pmW_good w1) rfl rfl rfl (hts _ (List.mem_cons_of_mem _ w2)) (hts _ (List.mem_cons_of_mem _ w5)) w3 ⟨by show d' + 1 ≤ R.frames; omega, by show 8 + (M'.2.2.1 + 11) + 40 * d' ≤ R.locals; omega⟩, hts _ (List.mem_cons_of_mem _ w6), hts _ (List.mem_cons_of_mem _ w7)⟩
  · exact ⟨PcA.blind b G _ h, va_recv hKn.1 hW.2.1 w8 he, fun U hU hWm => ⟨rfl, by rw [hU]; exact hW.1, by rw [hU]; exact hW.2.1, hKn.warm hWm⟩⟩
  · simp [cv_ref]
  · exact lv_room (by rw [cv_sum]; exact hs)
  · exact ⟨by omega, by omega⟩
theorem V.callS {idx n d' nc ns : Nat} {M' : MD} {As : List Value} {st0 : List Value} {Q' : Option Value → List AC → Prop} (hd : decode M.2.1 pc = .ok (.invokestatic idx, 3)) (hw : CSok M.2.2.2.2 idx M' n) (hn : As.length = n) (hst : st0 = As.reverse ++ st) (hs : (st.map fun v => v.category).sum ≤ 8) (hdp : d' < d)
    (hM : Mt d' nc ns M' As h Q') (kk : ∀ (r : Option Value) (h' : List AC), Q' r h' → V M d rc rs (pc + 3) ls (r.toList ++ st) h' Q) : V M d (rc + nc) (rs + ns) pc ls st0 h Q := by
  intro p l e R s m args below meth c b G H locs cells slots arr hC hW hL h1 h2
  subst hst
  have hts := hC.2.2.2.2.2.1
  obtain ⟨hfr, hlo⟩ := hC.2.2.2.2.2.2.2.2.2.2
  have hKn := hC.2.2.2.2.2.2.2.2.2.1
  obtain ⟨⟨w1, w2, w3, w4⟩, w6, w7⟩ := hw
  have hpre : PreS s H (PcA b G As h) (As.map (cv b)) := ⟨PcA.blind b G _ h, fun U hU hWm => ⟨rfl, by rw [hU]; exact hW.1, by rw [hU]; exact hW.2.1, hKn.warm hWm⟩⟩
  have hroom : (Room.frames { frames := d', cells := nc, slots := ns, locals := 40 * d' }) + 1 ≤ R.frames ∧ 8 + (M'.2.2.1 + 11) + 40 * d' ≤ R.locals := ⟨by show d' + 1 ≤ R.frames; omega, by omega⟩
  rcases w7 with w7 | ⟨host, w7⟩
  · refine V.after (h := h) (va_runS (As := As.map (cv b)) (rest := st.map (cv b)) (bytes := M'.2.1) (maxL := M'.2.2.1) (ret := M'.2.2.2.1) ⟨hC.1, hC.2.1, hC.2.2.2.1, hC.2.2.2.2.1, hts⟩ (hM l b G) ?_ hpre rfl (n := n) (by rw [List.length_map]; exact hn) hL.1 ?_ ?_ hd ?_) hC hW hL h1 h2 kk
    · exact ⟨callB_of n hts (pmW_good w1) rfl rfl rfl (hts _ (List.mem_cons_of_mem _ w2)) (hts _ (List.mem_cons_of_mem _ w7)) w3 hroom, hts _ (List.mem_cons_of_mem _ w6)⟩
    · simp
    · exact lv_room (by rw [cv_sum]; exact hs)
    · exact ⟨by omega, by omega⟩
  · refine V.after (h := h) (va_runSN (host := host) (As := As.map (cv b)) (rest := st.map (cv b)) (bytes := M'.2.1) (maxL := M'.2.2.1) (ret := M'.2.2.2.1) ⟨hC.1, hC.2.1, hC.2.2.2.1, hC.2.2.2.2.1, hts⟩ (hM l b G) ?_ hpre rfl (n := n) (by rw [List.length_map]; exact hn) hL.1 ?_ ?_ hd ?_) hC hW hL h1 h2 kk
    · exact ⟨va_cnB n hts (pmW_good w1) rfl rfl rfl (hKn.2.1 _ w7) (hts _ (List.mem_cons_of_mem _ w2)) w3 hroom, hts _ (List.mem_cons_of_mem _ w6), trivial⟩
    · simp
    · exact lv_room (by rw [cv_sum]; exact hs)
    · exact ⟨by omega, by omega⟩
theorem V.callI {idx n i d' nc ns : Nat} {M' : MD} {As : List Value} {st0 : List Value} {Q' : Option Value → List AC → Prop} (hd : decode M.2.1 pc = .ok (.invokespecial idx, 3)) (hw : CIok M.2.2.2.2 idx M' n) (hn : As.length = n) (hst : st0 = As.reverse ++ .ref i :: st) (hs : (st.map fun v => v.category).sum ≤ 8) (hdp : d' < d)
    (hM : Mt d' nc ns M' (.ref i :: As) h Q') (kk : ∀ (r : Option Value) (h' : List AC), Q' r h' → V M d rc rs (pc + 3) ls (r.toList ++ st) h' Q) : V M d (rc + nc) (rs + ns) pc ls st0 h Q := by
  intro p l e R s m args below meth c b G H locs cells slots arr hC hW hL h1 h2
  subst hst
  have hts := hC.2.2.2.2.2.1
  obtain ⟨hfr, hlo⟩ := hC.2.2.2.2.2.2.2.2.2.2
  have hKn := hC.2.2.2.2.2.2.2.2.2.1
  obtain ⟨⟨w1, w2, w3, w4⟩, wr, wi, w6, w7⟩ := hw
  have hpre : PreS s H (PcA b G (.ref i :: As) h) (.ref (b + i) :: As.map (cv b)) := ⟨PcA.blind b G _ h, fun U hU hWm => ⟨rfl, by rw [hU]; exact hW.1, by rw [hU]; exact hW.2.1, hKn.warm hWm⟩⟩
  have hroom : (Room.frames { frames := d', cells := nc, slots := ns, locals := 40 * d' }) + 1 ≤ R.frames ∧ 8 + (M'.2.2.1 + 11) + 40 * d' ≤ R.locals := ⟨by show d' + 1 ≤ R.frames; omega, by omega⟩
  have hpw : pmW M' = Cond.code M'.1 M'.2.1 M'.2.2.1 none :: lwg := by rw [← wr]; rfl
  rcases w7 with w7 | ⟨host, w7⟩
  · refine V.after (h := h) (va_runI (As := As.map (cv b)) (rest := st.map (cv b)) (b := b + i) (bytes := M'.2.1) (maxL := M'.2.2.1) ⟨hC.1, hC.2.1, hC.2.2.2.1, hC.2.2.2.2.1, hts⟩ (hM l b G) ?_ hpre rfl (n := n) (by rw [List.length_map]; exact hn) hL.1 ?_ ?_ hd ?_) hC hW hL h1 h2 kk
    · exact ⟨callB_of n hts (pmW_good w1) hpw rfl rfl (hts _ (List.mem_cons_of_mem _ w2)) (hts _ (List.mem_cons_of_mem _ w7)) w3 hroom, wi, hts _ (List.mem_cons_of_mem _ w6)⟩
    · simp [cv_ref]
    · exact lv_room (by rw [cv_sum]; exact hs)
    · exact ⟨by omega, by omega⟩
  · refine V.after (h := h) (va_runIN (host := host) (As := As.map (cv b)) (rest := st.map (cv b)) (b := b + i) (bytes := M'.2.1) (maxL := M'.2.2.1) ⟨hC.1, hC.2.1, hC.2.2.2.1, hC.2.2.2.2.1, hts⟩ (hM l b G) ?_ hpre rfl (n := n) (by rw [List.length_map]; exact hn) hL.1 ?_ ?_ hd ?_) hC hW hL h1 h2 kk
    · exact ⟨va_cnB n hts (pmW_good w1) hpw rfl rfl (hKn.2.1 _ w7) (hts _ (List.mem_cons_of_mem _ w2)) w3 hroom, wi, hts _ (List.mem_cons_of_mem _ w6)⟩
    · simp [cv_ref]
    · exact lv_room (by rw [cv_sum]; exact hs)
    · exact ⟨by omega, by omega⟩
theorem V.ireturn {x : Int32} {ty : FieldType} (hd : decode M.2.1 pc = .ok (.ireturn, 1)) (hr : M.2.2.2.1 = some ty) (hn : narrow ty (.int x) = .int x) (hq : Q (some (.int x)) h) : V M d rc rs pc ls [.int x] h Q := by
  intro p l e R s m args below meth c b G H locs cells slots arr hC hW hL h1 h2
  refine W.widen (k := R.cells) (n := R.slots) (by omega) (by omega) ?_
  exact W.zret (ty := ty) hC.1 hC.2.1 (by rw [hC.2.2.1]; exact hr) hn (fun t ht hWm => ⟨⟨some (.int x), h, rfl, hq, by rw [ht]; exact hW.1, by rw [ht]; exact hW.2.1⟩, hW.2.2.F ht⟩) hW.2.2.2.2 hd hC.2.2.2.2.2.2.1
theorem V.vreturn (hd : decode M.2.1 pc = .ok (.return_, 1)) (hr : M.2.2.2.1 = none) (hq : Q none h) : V M d rc rs pc ls [] h Q := by
  intro p l e R s m args below meth c b G H locs cells slots arr hC hW hL h1 h2
  refine W.widen (k := R.cells) (n := R.slots) (by omega) (by omega) ?_
  exact W.vret hC.1 hC.2.1 (by rw [hC.2.2.1]; exact hr) (fun t ht hWm => ⟨⟨none, h, rfl, hq, by rw [ht]; exact hW.1, by rw [ht]; exact hW.2.1⟩, hW.2.2.F ht⟩) hW.2.2.2.2 hd hC.2.2.2.2.2.2.1
theorem V.eqh {h' : List AC} (e : h = h') (k : V M d rc rs pc ls st h' Q) : V M d rc rs pc ls st h Q := by rw [e]; exact k
theorem V.eqs {st' : List Value} (e : st = st') (k : V M d rc rs pc ls st' h Q) : V M d rc rs pc ls st h Q := by rw [e]; exact k
theorem V.eql {ls' : List (Option Value)} (e : ls = ls') (k : V M d rc rs pc ls' st h Q) : V M d rc rs pc ls st h Q := by rw [e]; exact k
theorem V.acopy {idx i0 i1 n0 n1 : Nat} {f g : Nat → Int32} {sp dp n : Int32} {sp' dp' n' : Nat} (hd : decode M.2.1 pc = .ok (.invokestatic idx, 3)) (w1 : Cond.methodLink M.2.2.2.2 idx arraycopyName ∈ lwg) (w2 : Cond.native arraycopyName ∈ lwg) (w3 : Cond.static arraycopyName ∈ lwg) (w4 : Cond.initialized "java/lang/System" ∈ lwg)
    (ha0 : h[i0]? = some (.inr (0, n0, .inl f))) (ha1 : h[i1]? = some (.inr (0, n1, .inl g))) (h1 : ¬ sp < 0) (h2 : ¬ dp < 0) (h3 : ¬ n < 0) (e1 : sp.toNatClampNeg = sp') (e2 : dp.toNatClampNeg = dp') (e3 : n.toNatClampNeg = n') (h4 : sp' + n' ≤ n0) (h5 : dp' + n' ≤ n1) (hdp : 1 ≤ d) (hs : (st.map fun v => v.category).sum ≤ 8)
    (kk : V M d rc rs (pc + 3) ls st (h.set i1 (.inr (0, n1, .inl (va_cpy f g sp' dp' n')))) Q) : V M d rc rs pc ls (.int n :: .int dp :: .ref i1 :: .int sp :: .ref i0 :: st) h Q := by
  intro p l e R s m args below meth c b G H locs cells slots arr hC hW hL g1 g2
  subst e1; subst e2; subst e3
  have hts := hC.2.2.2.2.2.1
  have hK := hC.2.2.2.2.2.2.2.2.2.1.1
  obtain ⟨hfr, hlo⟩ := hC.2.2.2.2.2.2.2.2.2.2
  have nn : ∀ z : Int32, ¬ z < 0 → z.toInt = (z.toNatClampNeg : Int) := by
    intro z hz
    have hz0 : (0 : Int) ≤ z.toInt := by
      have := Int32.not_lt.mp hz
      simpa using Int32.le_iff_toInt_le.mp this
    show z.toInt = ((z.toInt.toNat : Nat) : Int)
    omega
  have hnf : nativeFrameWords "java/lang/System" "arraycopy" 5 ≤ 21 := by decide +kernel
  intro T hT X
  have hc0 : H[b + i0]? = some (vp_cell (G.2 0) (n0, .inl f)) := hW.2.1 i0 _ (wl_get ha0)
  have hc1 : H[b + i1]? = some (vp_cell (G.2 0) (n1, .inl g)) := hW.2.1 i1 _ (wl_get ha1)
  obtain ⟨-, k0, hk0, cm0, hkk0⟩ := (hK.2 0 _ (rfl : (tysG G)[0]? = some (G.2 0, .int))).1 n0 (fun j => .int (f j))
  obtain ⟨vm', X', step⟩ := X.arraycopy hC.1 hC.2.2.2.2.1 (hts _ (List.mem_cons_of_mem _ w1)) (hts _ (List.mem_cons_of_mem _ w2)) (hts _ (List.mem_cons_of_mem _ w3)) (hts _ (List.mem_cons_of_mem _ w4)) (src := b + i0) (dst := b + i1) (cs := vp_cell (G.2 0) (n0, .inl f)) (cd := vp_cell (G.2 0) (n1, .inl g)) (srcPos := sp) (destPos := dp) (n := n) (by rw [hT]; exact hc0) (by rw [hT]; exact hc1)
    (fun _ h => by cases h) (fun _ h => by cases h) (fun h => by cases h) (fun h => by cases h) hk0 hk0 hkk0 hkk0 (by simp [refKind]) h1 h2 h3
    (by rw [nn sp h1, nn n h3]; show ¬ _ > ((arrV (G.2 0) n0 (fun j => .int (f j))).slots.size : Int); rw [arrV_size]; omega)
    (by rw [nn dp h2, nn n h3]; show ¬ _ > ((arrV (G.2 0) n1 (fun j => .int (g j))).slots.size : Int); rw [arrV_size]; omega)
    (fun vm₁ _ i hi => by
      have e : (vp_cell (G.2 0) (n0, .inl f)).slots.getD (sp.toNatClampNeg + i) .null = .int (f (sp.toNatClampNeg + i)) := by
        show (arrV (G.2 0) n0 (fun j => .int (f j))).slots.getD _ _ = _
        rw [Array.getD_eq_getD_getElem?, arrV_read _ _ (by omega)]
        rfl
      refine ⟨?_, ?_⟩
      · rw [e]
        rfl
      · rw [e]
        exact trivial)
    (g := F0 m pc arr (.int n :: .int dp :: .ref (b + i1) :: .int sp :: .ref (b + i0) :: st.map (cv b))) rfl (by rw [hC.2.2.2.1]; exact hL.1) (rest := st.map (cv b)) rfl (by rw [hC.2.1]; exact hd) (by omega) (by show 2 * 0 + ((st.map (cv b)).map fun v => v.category).sum + (nativeFrameWords "java/lang/System" "arraycopy" 5 + 11) ≤ R.locals; rw [cv_sum]; omega)
  have e1 : copied (vp_cell (G.2 0) (n0, .inl f)) (vp_cell (G.2 0) (n1, .inl g)) sp dp n = vp_cell (G.2 0) (n1, .inl (va_cpy f g sp.toNatClampNeg dp.toNatClampNeg n.toNatClampNeg)) := va_copied (fun z => .int z) (G.2 0) (G.2 0) f g h4
  rw [e1] at X' step
  have hl : b + i1 < H.size := (Array.getElem?_eq_some_iff.mp hc1).1
  have hheap : ((T.setVm vm').setCell (b + i1) (vp_cell (G.2 0) (n1, .inl (va_cpy f g sp.toNatClampNeg dp.toNatClampNeg n.toNatClampNeg)))).heap = H.setIfInBounds (b + i1) (vp_cell (G.2 0) (n1, .inl (va_cpy f g sp.toNatClampNeg dp.toNatClampNeg n.toNatClampNeg))) := by rw [← hT]; rfl
  have oq : ∀ q : Nat, q ≠ b + i1 → (H.setIfInBounds (b + i1) (vp_cell (G.2 0) (n1, .inl (va_cpy f g sp.toNatClampNeg dp.toNatClampNeg n.toNatClampNeg))))[q]? = H[q]? := fun q hq => by simp [Array.getElem?_setIfInBounds, Ne.symm hq]
  have hW' := hW.put (k := 0) (c := .inr (0, n1, .inl (va_cpy f g sp.toNatClampNeg dp.toNatClampNeg n.toNatClampNeg))) ha1 (show (H.setIfInBounds (b + i1) _)[b + i1]? = some _ by simp [Array.getElem?_setIfInBounds, hl]) (by simp) oq
  obtain ⟨t, a1, b1⟩ := kk p l e R s m args below meth c b G _ _ cells slots arr hC ⟨hW'.1, hW'.2.1, hW'.2.2.1, hW'.2.2.2.1, fun q hq => by
      rcases List.mem_append.mp hq with h | h
      · exact hW.2.2.2.2 q h
      · obtain ⟨z, -, hz⟩ := List.mem_map.mp h
        rw [← hz]
        exact Nat.le_add_right _ _⟩ hL g1 g2 _ hheap X'
  exact ⟨t, step t a1, b1⟩
end RULES
theorem Mt.weaken {d nc ns : Nat} {M : MD} {av : List Value} {h : List AC} {Q Q' : Option Value → List AC → Prop} (hM : Mt d nc ns M av h Q) (hq : ∀ r h', Q r h' → Q' r h') : Mt d nc ns M av h Q' := by
  intro l b G p e ha hc hk s m args below hf happ hP hK
  obtain ⟨t, o, a1, a2, a3, ⟨⟨r, h', b1, b2, b3⟩, b4⟩, a5⟩ := hM l b G p e ha hc hk s m args below hf happ hP hK
  exact ⟨t, o, a1, a2, a3, ⟨⟨r, h', b1, hq r h' b2, b3⟩, b4⟩, a5⟩
end
section
def yJ_max : MethodName := ⟨"java/lang/Math", "max", "(II)I"⟩
def yJ_bitCount : MethodName := ⟨"java/lang/Integer", "bitCount", "(I)I"⟩
abbrev mX6_init : MD := (yX6_init, cX6_init, 1, none, RX6)
abbrev mX2_init : MD := (yX2_init, cX2_init, 1, none, RX2)
abbrev mX3_init : MD := (yX3_init, cX3_init, 3, none, RX3)
abbrev mX5_init : MD := (yX5_init, cX5_init, 1, none, RX5)
abbrev mX1_init : MD := (yX1_init, cX1_init, 3, none, RX1)
abbrev mX4_init : MD := (yX4_init, cX4_init, 5, none, RX4)
abbrev mX0_init : MD := (yX0_init, cX0_init, 2, none, RX0)
abbrev mX6_scene : MD := (yX6_scene, cX6_scene, 6, (some .int), RX6)
abbrev mX6_within : MD := (yX6_within, cX6_within, 3, (some .boolean), RX6)
abbrev mX6_isPlace : MD := (yX6_isPlace, cX6_isPlace, 1, (some .boolean), RX6)
abbrev mX2_addScene : MD := (yX2_addScene, cX2_addScene, 7, (some .int), RX2)
abbrev mX6_player : MD := (yX6_player, cX6_player, 4, (some .int), RX6)
abbrev mX6_isPlayer : MD := (yX6_isPlayer, cX6_isPlayer, 1, (some .boolean), RX6)
abbrev mX6_rent : MD := (yX6_rent, cX6_rent, 4, (some .int), RX6)
abbrev mX6_spot : MD := (yX6_spot, cX6_spot, 4, (some .int), RX6)
abbrev mX3_measureRows : MD := (yX3_measureRows, cX3_measureRows, 2, none, RX3)
abbrev mX5_measure : MD := (yX5_measure, cX5_measure, 3, none, RX5)
abbrev mX5_forget : MD := (yX5_forget, cX5_forget, 1, none, RX5)
abbrev mX5_measureScene : MD := (yX5_measureScene, cX5_measureScene, 3, none, RX5)
abbrev mX2_way : MD := (yX2_way, cX2_way, 4, (some .int), RX2)
abbrev mX5_isInTurn : MD := (yX5_isInTurn, cX5_isInTurn, 4, (some .boolean), RX5)
abbrev mX3_keeps : MD := (yX3_keeps, cX3_keeps, 5, (some .boolean), RX3)
abbrev mX5_fitsInto : MD := (yX5_fitsInto, cX5_fitsInto, 3, (some .boolean), RX5)
abbrev mX5_hasDayLight : MD := (yX5_hasDayLight, cX5_hasDayLight, 1, (some .boolean), RX5)
abbrev mX6_ahead : MD := (yX6_ahead, cX6_ahead, 4, (some .int), RX6)
abbrev mX2_hasScene : MD := (yX2_hasScene, cX2_hasScene, 2, (some .boolean), RX2)
abbrev mX2_needsByOthersToo : MD := (yX2_needsByOthersToo, cX2_needsByOthersToo, 4, (some .int), RX2)
abbrev mX2_needsOfAll : MD := (yX2_needsOfAll, cX2_needsOfAll, 4, (some .int), RX2)
abbrev mX6_hasBit : MD := (yX6_hasBit, cX6_hasBit, 2, (some .boolean), RX6)
abbrev mX6_day : MD := (yX6_day, cX6_day, 3, (some .int), RX6)
abbrev mX6_isDayLength : MD := (yX6_isDayLength, cX6_isDayLength, 2, (some .boolean), RX6)
abbrev mX3_addDay : MD := (yX3_addDay, cX3_addDay, 4, (some .int), RX3)
abbrev mX6_about : MD := (yX6_about, cX6_about, 3, (some .int), RX6)
abbrev mX3_dayWith : MD := (yX3_dayWith, cX3_dayWith, 3, (some .int), RX3)
abbrev mX3_placeInRow : MD := (yX3_placeInRow, cX3_placeInRow, 5, (some .int), RX3)
abbrev mX6_row : MD := (yX6_row, cX6_row, 3, (some .int), RX6)
abbrev mX3_hasDay : MD := (yX3_hasDay, cX3_hasDay, 2, (some .boolean), RX3)
abbrev mX5_sceneAt : MD := (yX5_sceneAt, cX5_sceneAt, 2, (some .int), RX5)
abbrev mX6_of : MD := (yX6_of, cX6_of, 4, (some .int), RX6)
abbrev mX5_halfHoursOver : MD := (yX5_halfHoursOver, cX5_halfHoursOver, 2, (some .int), RX5)
abbrev mX6_held : MD := (yX6_held, cX6_held, 3, (some .int), RX6)
abbrev mX3_firstDayOf : MD := (yX3_firstDayOf, cX3_firstDayOf, 3, (some .int), RX3)
abbrev mX3_plays : MD := (yX3_plays, cX3_plays, 3, (some .boolean), RX3)
abbrev mX3_lastDayOf : MD := (yX3_lastDayOf, cX3_lastDayOf, 3, (some .int), RX3)
abbrev mX3_daysWith : MD := (yX3_daysWith, cX3_daysWith, 4, (some .int), RX3)
abbrev mX1_paidDays : MD := (yX1_paidDays, cX1_paidDays, 5, (some .int), RX1)
abbrev mX1_isLetGo : MD := (yX1_isLetGo, cX1_isLetGo, 3, (some .boolean), RX1)
abbrev mX6_cost : MD := (yX6_cost, cX6_cost, 2, (some .int), RX6)
abbrev mX1_total : MD := (yX1_total, cX1_total, 1, (some .int), RX1)
abbrev mX1_wages : MD := (yX1_wages, cX1_wages, 3, (some .int), RX1)
abbrev mX1_rents : MD := (yX1_rents, cX1_rents, 3, (some .int), RX1)
abbrev mX1_rentOf : MD := (yX1_rentOf, cX1_rentOf, 4, (some .int), RX1)
abbrev mX1_overtime : MD := (yX1_overtime, cX1_overtime, 3, (some .int), RX1)
abbrev mX6_below : MD := (yX6_below, cX6_below, 1, (some .int), RX6)
abbrev mX1_leastPossible : MD := (yX1_leastPossible, cX1_leastPossible, 5, (some .int), RX1)
abbrev mX3_greatestMost : MD := (yX3_greatestMost, cX3_greatestMost, 3, (some .int), RX3)
abbrev cJ_max : ByteArray := prog_11_method_65_code
abbrev mJ_max : MD := (yJ_max, cJ_max, 2, (some .int), "java/lang/Math")
abbrev mX1_minutesInRows : MD := (yX1_minutesInRows, cX1_minutesInRows, 5, (some .int), RX1)
abbrev mX3_scenesInRows : MD := (yX3_scenesInRows, cX3_scenesInRows, 3, (some .int), RX3)
abbrev mX1_placesInRows : MD := (yX1_placesInRows, cX1_placesInRows, 3, (some .int), RX1)
abbrev mX6_may : MD := (yX6_may, cX6_may, 4, (some .int), RX6)
abbrev mX6_refusalToJoin : MD := (yX6_refusalToJoin, cX6_refusalToJoin, 3, (some .int), RX6)
abbrev mX4_couldJoin : MD := (yX4_couldJoin, cX4_couldJoin, 4, (some .int), RX4)
abbrev mX4_join : MD := (yX4_join, cX4_join, 3, (some .int), RX4)
abbrev mX5_isFull : MD := (yX5_isFull, cX5_isFull, 1, (some .boolean), RX5)
abbrev mX0_arrange : MD := (yX0_arrange, cX0_arrange, 4, none, RX0)
abbrev mX0_fillPool : MD := (yX0_fillPool, cX0_fillPool, 3, none, RX0)
abbrev mX0_tryEach : MD := (yX0_tryEach, cX0_tryEach, 6, none, RX0)
abbrev mX0_tryNext : MD := (yX0_tryNext, cX0_tryNext, 6, none, RX0)
abbrev mX5_clear : MD := (yX5_clear, cX5_clear, 1, none, RX5)
abbrev mX5_append : MD := (yX5_append, cX5_append, 2, none, RX5)
abbrev mX3_exchange : MD := (yX3_exchange, cX3_exchange, 4, none, RX3)
abbrev mX6_put : MD := (yX6_put, cX6_put, 4, (some .int), RX6)
abbrev mX6_take : MD := (yX6_take, cX6_take, 3, (some .int), RX6)
abbrev mX4_leave : MD := (yX4_leave, cX4_leave, 6, none, RX4)
abbrev mX6_tidy : MD := (yX6_tidy, cX6_tidy, 2, (some .int), RX6)
abbrev mX4_arrangeDay : MD := (yX4_arrangeDay, cX4_arrangeDay, 2, none, RX4)
abbrev mX6_trade : MD := (yX6_trade, cX6_trade, 3, (some .int), RX6)
abbrev mX6_better : MD := (yX6_better, cX6_better, 2, (some .int), RX6)
abbrev mX4_makeFirstGoodMove : MD := (yX4_makeFirstGoodMove, cX4_makeFirstGoodMove, 5, (some .boolean), RX4)
abbrev mX4_moveIfGood : MD := (yX4_moveIfGood, cX4_moveIfGood, 5, (some .boolean), RX4)
abbrev mX4_makeFirstGoodTrade : MD := (yX4_makeFirstGoodTrade, cX4_makeFirstGoodTrade, 4, (some .boolean), RX4)
abbrev mX6_order : MD := (yX6_order, cX6_order, 1, (some .int), RX6)
abbrev mX4_takeBestOrder : MD := (yX4_takeBestOrder, cX4_takeBestOrder, 3, (some .int), RX4)
abbrev mX4_toNextTurns : MD := (yX4_toNextTurns, cX4_toNextTurns, 6, (some .boolean), RX4)
abbrev mX4_swapTurns : MD := (yX4_swapTurns, cX4_swapTurns, 4, none, RX4)
abbrev mX4_giveRows : MD := (yX4_giveRows, cX4_giveRows, 3, none, RX4)
abbrev mX6_rain : MD := (yX6_rain, cX6_rain, 3, (some .int), RX6)
abbrev mX4_clearOutScenes : MD := (yX4_clearOutScenes, cX4_clearOutScenes, 5, (some .int), RX4)
abbrev mX4_fillWithIndoorScenes : MD := (yX4_fillWithIndoorScenes, cX4_fillWithIndoorScenes, 5, (some .int), RX4)
abbrev mX6_change : MD := (yX6_change, cX6_change, 4, (some .int), RX6)
abbrev mX6_count : MD := (yX6_count, cX6_count, 2, (some .int), RX6)
abbrev cJ_bitCount : ByteArray := prog_10_method_49_code
abbrev mJ_bitCount : MD := (yJ_bitCount, cJ_bitCount, 1, (some .int), "java/lang/Integer")
abbrev mX2_scenesAheadOfSome : MD := (yX2_scenesAheadOfSome, cX2_scenesAheadOfSome, 3, (some .int), RX2)
abbrev mX7_init : MD := (yX7_init, cX7_init, 1, none, RX7)
abbrev mX7_scene : MD := (yX7_scene, cX7_scene, 6, (some .int), RX7)
abbrev mX7_in : MD := (yX7_in, cX7_in, 3, (some .boolean), RX7)
abbrev mX7_player : MD := (yX7_player, cX7_player, 4, (some .int), RX7)
abbrev mX7_rent : MD := (yX7_rent, cX7_rent, 4, (some .int), RX7)
abbrev mX7_spot : MD := (yX7_spot, cX7_spot, 4, (some .int), RX7)
abbrev mX7_keeps : MD := (yX7_keeps, cX7_keeps, 2, (some .boolean), RX7)
abbrev mX7_minutesOf : MD := (yX7_minutesOf, cX7_minutesOf, 5, (some .int), RX7)
abbrev mX7_distance : MD := (yX7_distance, cX7_distance, 2, (some .int), RX7)
abbrev mX7_lightOf : MD := (yX7_lightOf, cX7_lightOf, 4, (some .int), RX7)
abbrev mX7_has : MD := (yX7_has, cX7_has, 4, (some .boolean), RX7)
abbrev mX7_isOrdered : MD := (yX7_isOrdered, cX7_isOrdered, 3, (some .boolean), RX7)
abbrev mX7_placeIn : MD := (yX7_placeIn, cX7_placeIn, 4, (some .int), RX7)
abbrev mX7_ahead : MD := (yX7_ahead, cX7_ahead, 3, (some .int), RX7)
abbrev mX7_isScene : MD := (yX7_isScene, cX7_isScene, 2, (some .boolean), RX7)
abbrev mX7_mustBe : MD := (yX7_mustBe, cX7_mustBe, 6, (some .boolean), RX7)
abbrev mX7_day : MD := (yX7_day, cX7_day, 3, (some .int), RX7)
abbrev mX7_change : MD := (yX7_change, cX7_change, 6, (some .int), RX7)
abbrev mX7_isDay : MD := (yX7_isDay, cX7_isDay, 2, (some .boolean), RX7)
abbrev mX7_may : MD := (yX7_may, cX7_may, 4, (some .int), RX7)
abbrev mX7_keepAll : MD := (yX7_keepAll, cX7_keepAll, 2, none, RX7)
abbrev mX7_puts : MD := (yX7_puts, cX7_puts, 4, (some .boolean), RX7)
abbrev mX7_arranges : MD := (yX7_arranges, cX7_arranges, 4, (some .boolean), RX7)
abbrev mX7_tries : MD := (yX7_tries, cX7_tries, 6, none, RX7)
abbrev mX7_backAll : MD := (yX7_backAll, cX7_backAll, 2, none, RX7)
abbrev mX7_put : MD := (yX7_put, cX7_put, 5, (some .int), RX7)
abbrev mX7_take : MD := (yX7_take, cX7_take, 3, (some .int), RX7)
abbrev mX7_takes : MD := (yX7_takes, cX7_takes, 5, none, RX7)
abbrev mX7_tidy : MD := (yX7_tidy, cX7_tidy, 3, (some .int), RX7)
abbrev mX7_trade : MD := (yX7_trade, cX7_trade, 3, (some .int), RX7)
abbrev mX7_trades : MD := (yX7_trades, cX7_trades, 5, none, RX7)
abbrev mX7_costAll : MD := (yX7_costAll, cX7_costAll, 1, (some .int), RX7)
abbrev mX7_payAll : MD := (yX7_payAll, cX7_payAll, 3, (some .int), RX7)
abbrev mX7_paid : MD := (yX7_paid, cX7_paid, 6, (some .int), RX7)
abbrev mX7_edge : MD := (yX7_edge, cX7_edge, 5, (some .int), RX7)
abbrev mX7_plays : MD := (yX7_plays, cX7_plays, 4, (some .boolean), RX7)
abbrev mX7_rentAll : MD := (yX7_rentAll, cX7_rentAll, 4, (some .int), RX7)
abbrev mX7_uses : MD := (yX7_uses, cX7_uses, 4, (some .boolean), RX7)
abbrev mX7_overAll : MD := (yX7_overAll, cX7_overAll, 3, (some .int), RX7)
abbrev mX7_over : MD := (yX7_over, cX7_over, 2, (some .int), RX7)
abbrev mX7_cost : MD := (yX7_cost, cX7_cost, 2, (some .int), RX7)
abbrev mX7_below : MD := (yX7_below, cX7_below, 7, (some .int), RX7)
abbrev mX7_held : MD := (yX7_held, cX7_held, 3, (some .int), RX7)
abbrev mX7_daysOf : MD := (yX7_daysOf, cX7_daysOf, 4, (some .int), RX7)
abbrev mX7_better : MD := (yX7_better, cX7_better, 2, (some .int), RX7)
abbrev mX7_betters : MD := (yX7_betters, cX7_betters, 4, (some .boolean), RX7)
abbrev mX7_movesWell : MD := (yX7_movesWell, cX7_movesWell, 4, (some .boolean), RX7)
abbrev mX7_order : MD := (yX7_order, cX7_order, 2, (some .int), RX7)
abbrev mX7_gives : MD := (yX7_gives, cX7_gives, 4, none, RX7)
abbrev mX7_lays : MD := (yX7_lays, cX7_lays, 3, none, RX7)
abbrev mX7_rain : MD := (yX7_rain, cX7_rain, 5, (some .int), RX7)
abbrev mX7_about : MD := (yX7_about, cX7_about, 3, (some .int), RX7)
abbrev mX7_row : MD := (yX7_row, cX7_row, 3, (some .int), RX7)
abbrev mX7_of : MD := (yX7_of, cX7_of, 5, (some .int), RX7)
abbrev mX7_count : MD := (yX7_count, cX7_count, 5, (some .int), RX7)
set_option maxRecDepth 20000 in
theorem cl_0 : CLok 0 RX0 TX0 7 tyX0 := ⟨rfl, (List.forall_mem_cons.mpr ⟨in_lwg 250 rfl rfl, List.forall_mem_cons.mpr ⟨in_lwg 252 rfl rfl, List.forall_mem_cons.mpr ⟨in_lwg 254 rfl rfl, List.forall_mem_cons.mpr ⟨in_lwg 256 rfl rfl, List.forall_mem_cons.mpr ⟨in_lwg 258 rfl rfl, List.forall_mem_cons.mpr ⟨in_lwg 260 rfl rfl, List.forall_mem_cons.mpr ⟨in_lwg 262 rfl rfl, fun _ h => absurd h List.not_mem_nil⟩⟩⟩⟩⟩⟩⟩ : ∀ w ∈ [u_lay RX0 TX0 0, u_lay RX0 TX0 1, u_lay RX0 TX0 2, u_lay RX0 TX0 3, u_lay RX0 TX0 4, u_lay RX0 TX0 5, u_lay RX0 TX0 6], w ∈ lwg), tyX0_ok, nmX0⟩
set_option maxRecDepth 20000 in
theorem cl_1 : CLok 1 RX1 TX1 2 tyX1 := ⟨rfl, (List.forall_mem_cons.mpr ⟨in_lwg 225 rfl rfl, List.forall_mem_cons.mpr ⟨in_lwg 227 rfl rfl, fun _ h => absurd h List.not_mem_nil⟩⟩ : ∀ w ∈ [u_lay RX1 TX1 0, u_lay RX1 TX1 1], w ∈ lwg), tyX1_ok, nmX1⟩
set_option maxRecDepth 20000 in
theorem cl_2 : CLok 2 RX2 TX2 11 tyX2 := ⟨rfl, (List.forall_mem_cons.mpr ⟨in_lwg 109 rfl rfl, List.forall_mem_cons.mpr ⟨in_lwg 111 rfl rfl, List.forall_mem_cons.mpr ⟨in_lwg 113 rfl rfl, List.forall_mem_cons.mpr ⟨in_lwg 115 rfl rfl, List.forall_mem_cons.mpr ⟨in_lwg 117 rfl rfl, List.forall_mem_cons.mpr ⟨in_lwg 119 rfl rfl, List.forall_mem_cons.mpr ⟨in_lwg 121 rfl rfl, List.forall_mem_cons.mpr ⟨in_lwg 123 rfl rfl, List.forall_mem_cons.mpr ⟨in_lwg 125 rfl rfl, List.forall_mem_cons.mpr ⟨in_lwg 127 rfl rfl, List.forall_mem_cons.mpr ⟨in_lwg 129 rfl rfl, fun _ h => absurd h List.not_mem_nil⟩⟩⟩⟩⟩⟩⟩⟩⟩⟩⟩ : ∀ w ∈ [u_lay RX2 TX2 0, u_lay RX2 TX2 1, u_lay RX2 TX2 2, u_lay RX2 TX2 3, u_lay RX2 TX2 4, u_lay RX2 TX2 5, u_lay RX2 TX2 6, u_lay RX2 TX2 7, u_lay RX2 TX2 8, u_lay RX2 TX2 9, u_lay RX2 TX2 10], w ∈ lwg), tyX2_ok, nmX2⟩
set_option maxRecDepth 20000 in
theorem cl_3 : CLok 3 RX3 TX3 5 tyX3 := ⟨rfl, (List.forall_mem_cons.mpr ⟨in_lwg 206 rfl rfl, List.forall_mem_cons.mpr ⟨in_lwg 208 rfl rfl, List.forall_mem_cons.mpr ⟨in_lwg 210 rfl rfl, List.forall_mem_cons.mpr ⟨in_lwg 212 rfl rfl, List.forall_mem_cons.mpr ⟨in_lwg 214 rfl rfl, fun _ h => absurd h List.not_mem_nil⟩⟩⟩⟩⟩ : ∀ w ∈ [u_lay RX3 TX3 0, u_lay RX3 TX3 1, u_lay RX3 TX3 2, u_lay RX3 TX3 3, u_lay RX3 TX3 4], w ∈ lwg), tyX3_ok, nmX3⟩
set_option maxRecDepth 20000 in
theorem cl_4 : CLok 4 RX4 TX4 7 tyX4 := ⟨rfl, (List.forall_mem_cons.mpr ⟨in_lwg 272 rfl rfl, List.forall_mem_cons.mpr ⟨in_lwg 274 rfl rfl, List.forall_mem_cons.mpr ⟨in_lwg 276 rfl rfl, List.forall_mem_cons.mpr ⟨in_lwg 278 rfl rfl, List.forall_mem_cons.mpr ⟨in_lwg 280 rfl rfl, List.forall_mem_cons.mpr ⟨in_lwg 282 rfl rfl, List.forall_mem_cons.mpr ⟨in_lwg 284 rfl rfl, fun _ h => absurd h List.not_mem_nil⟩⟩⟩⟩⟩⟩⟩ : ∀ w ∈ [u_lay RX4 TX4 0, u_lay RX4 TX4 1, u_lay RX4 TX4 2, u_lay RX4 TX4 3, u_lay RX4 TX4 4, u_lay RX4 TX4 5, u_lay RX4 TX4 6], w ∈ lwg), tyX4_ok, nmX4⟩
set_option maxRecDepth 20000 in
theorem cl_5 : CLok 5 RX5 TX5 10 tyX5 := ⟨rfl, (List.forall_mem_cons.mpr ⟨in_lwg 172 rfl rfl, List.forall_mem_cons.mpr ⟨in_lwg 174 rfl rfl, List.forall_mem_cons.mpr ⟨in_lwg 176 rfl rfl, List.forall_mem_cons.mpr ⟨in_lwg 178 rfl rfl, List.forall_mem_cons.mpr ⟨in_lwg 180 rfl rfl, List.forall_mem_cons.mpr ⟨in_lwg 182 rfl rfl, List.forall_mem_cons.mpr ⟨in_lwg 184 rfl rfl, List.forall_mem_cons.mpr ⟨in_lwg 186 rfl rfl, List.forall_mem_cons.mpr ⟨in_lwg 188 rfl rfl, List.forall_mem_cons.mpr ⟨in_lwg 190 rfl rfl, fun _ h => absurd h List.not_mem_nil⟩⟩⟩⟩⟩⟩⟩⟩⟩⟩ : ∀ w ∈ [u_lay RX5 TX5 0, u_lay RX5 TX5 1, u_lay RX5 TX5 2, u_lay RX5 TX5 3, u_lay RX5 TX5 4, u_lay RX5 TX5 5, u_lay RX5 TX5 6, u_lay RX5 TX5 7, u_lay RX5 TX5 8, u_lay RX5 TX5 9], w ∈ lwg), tyX5_ok, nmX5⟩
set_option maxRecDepth 20000 in
theorem cl_6 : CLok 6 RX6 TX6 4 tyX6 := ⟨rfl, (List.forall_mem_cons.mpr ⟨in_lwg 291 rfl rfl, List.forall_mem_cons.mpr ⟨in_lwg 293 rfl rfl, List.forall_mem_cons.mpr ⟨in_lwg 295 rfl rfl, List.forall_mem_cons.mpr ⟨in_lwg 297 rfl rfl, fun _ h => absurd h List.not_mem_nil⟩⟩⟩⟩ : ∀ w ∈ [u_lay RX6 TX6 0, u_lay RX6 TX6 1, u_lay RX6 TX6 2, u_lay RX6 TX6 3], w ∈ lwg), tyX6_ok, nmX6⟩
set_option maxRecDepth 20000 in
theorem cl_7 : CLok 7 RX7 TX7 28 tyX7 := ⟨rfl, (List.forall_mem_cons.mpr ⟨in_lwg 707 rfl rfl, List.forall_mem_cons.mpr ⟨in_lwg 709 rfl rfl, List.forall_mem_cons.mpr ⟨in_lwg 711 rfl rfl, List.forall_mem_cons.mpr ⟨in_lwg 713 rfl rfl, List.forall_mem_cons.mpr ⟨in_lwg 715 rfl rfl, List.forall_mem_cons.mpr ⟨in_lwg 717 rfl rfl, List.forall_mem_cons.mpr ⟨in_lwg 719 rfl rfl, List.forall_mem_cons.mpr ⟨in_lwg 721 rfl rfl, List.forall_mem_cons.mpr ⟨in_lwg 723 rfl rfl, List.forall_mem_cons.mpr ⟨in_lwg 725 rfl rfl, List.forall_mem_cons.mpr ⟨in_lwg 727 rfl rfl, List.forall_mem_cons.mpr ⟨in_lwg 729 rfl rfl, List.forall_mem_cons.mpr ⟨in_lwg 731 rfl rfl, List.forall_mem_cons.mpr ⟨in_lwg 733 rfl rfl, List.forall_mem_cons.mpr ⟨in_lwg 735 rfl rfl, List.forall_mem_cons.mpr ⟨in_lwg 737 rfl rfl, List.forall_mem_cons.mpr ⟨in_lwg 739 rfl rfl, List.forall_mem_cons.mpr ⟨in_lwg 741 rfl rfl, List.forall_mem_cons.mpr ⟨in_lwg 743 rfl rfl, List.forall_mem_cons.mpr ⟨in_lwg 745 rfl rfl, List.forall_mem_cons.mpr ⟨in_lwg 747 rfl rfl, List.forall_mem_cons.mpr ⟨in_lwg 749 rfl rfl, List.forall_mem_cons.mpr ⟨in_lwg 751 rfl rfl, List.forall_mem_cons.mpr ⟨in_lwg 753 rfl rfl, List.forall_mem_cons.mpr ⟨in_lwg 755 rfl rfl, List.forall_mem_cons.mpr ⟨in_lwg 757 rfl rfl, List.forall_mem_cons.mpr ⟨in_lwg 759 rfl rfl, List.forall_mem_cons.mpr ⟨in_lwg 761 rfl rfl, fun _ h => absurd h List.not_mem_nil⟩⟩⟩⟩⟩⟩⟩⟩⟩⟩⟩⟩⟩⟩⟩⟩⟩⟩⟩⟩⟩⟩⟩⟩⟩⟩⟩⟩ : ∀ w ∈ [u_lay RX7 TX7 0, u_lay RX7 TX7 1, u_lay RX7 TX7 2, u_lay RX7 TX7 3, u_lay RX7 TX7 4, u_lay RX7 TX7 5, u_lay RX7 TX7 6, u_lay RX7 TX7 7, u_lay RX7 TX7 8, u_lay RX7 TX7 9, u_lay RX7 TX7 10, u_lay RX7 TX7 11, u_lay RX7 TX7 12, u_lay RX7 TX7 13, u_lay RX7 TX7 14, u_lay RX7 TX7 15, u_lay RX7 TX7 16, u_lay RX7 TX7 17, u_lay RX7 TX7 18, u_lay RX7 TX7 19, u_lay RX7 TX7 20, u_lay RX7 TX7 21, u_lay RX7 TX7 22, u_lay RX7 TX7 23, u_lay RX7 TX7 24, u_lay RX7 TX7 25, u_lay RX7 TX7 26, u_lay RX7 TX7 27], w ∈ lwg), tyX7_ok, nmX7⟩
set_option maxRecDepth 20000 in
theorem cw_X6_init : CWok mX6_init 0 := ⟨in_lwg 62 rfl rfl, in_lwg 47 rfl rfl, ⟨by decide, by decide, by decide +kernel⟩, by decide⟩
set_option maxRecDepth 20000 in
theorem cw_X2_init : CWok mX2_init 0 := ⟨in_lwg 70 rfl rfl, in_lwg 48 rfl rfl, ⟨by decide, by decide, by decide +kernel⟩, by decide⟩
set_option maxRecDepth 20000 in
theorem cw_X3_init : CWok mX3_init 1 := ⟨in_lwg 137 rfl rfl, in_lwg 49 rfl rfl, ⟨by decide, by decide, by decide +kernel⟩, by decide⟩
set_option maxRecDepth 20000 in
theorem cw_X5_init : CWok mX5_init 0 := ⟨in_lwg 144 rfl rfl, in_lwg 50 rfl rfl, ⟨by decide, by decide, by decide +kernel⟩, by decide⟩
set_option maxRecDepth 20000 in
theorem cw_X1_init : CWok mX1_init 2 := ⟨in_lwg 221 rfl rfl, in_lwg 51 rfl rfl, ⟨by decide, by decide, by decide +kernel⟩, by decide⟩
set_option maxRecDepth 20000 in
theorem cw_X4_init : CWok mX4_init 3 := ⟨in_lwg 234 rfl rfl, in_lwg 52 rfl rfl, ⟨by decide, by decide, by decide +kernel⟩, by decide⟩
set_option maxRecDepth 20000 in
theorem cw_X0_init : CWok mX0_init 1 := ⟨in_lwg 241 rfl rfl, in_lwg 53 rfl rfl, ⟨by decide, by decide, by decide +kernel⟩, by decide⟩
set_option maxRecDepth 20000 in
theorem cw_X6_scene : CWok mX6_scene 5 := ⟨in_lwg 303 rfl rfl, in_lwg 47 rfl rfl, ⟨by decide, by decide, by decide +kernel⟩, by decide⟩
set_option maxRecDepth 20000 in
theorem cw_X6_within : CWok mX6_within 3 := ⟨in_lwg 306 rfl rfl, in_lwg 47 rfl rfl, ⟨by decide, by decide, by decide +kernel⟩, by decide⟩
set_option maxRecDepth 20000 in
theorem cw_X6_isPlace : CWok mX6_isPlace 1 := ⟨in_lwg 309 rfl rfl, in_lwg 47 rfl rfl, ⟨by decide, by decide, by decide +kernel⟩, by decide⟩
set_option maxRecDepth 20000 in
theorem cw_X2_addScene : CWok mX2_addScene 5 := ⟨in_lwg 313 rfl rfl, in_lwg 48 rfl rfl, ⟨by decide, by decide, by decide +kernel⟩, by decide⟩
set_option maxRecDepth 20000 in
theorem cw_X6_player : CWok mX6_player 3 := ⟨in_lwg 317 rfl rfl, in_lwg 47 rfl rfl, ⟨by decide, by decide, by decide +kernel⟩, by decide⟩
set_option maxRecDepth 20000 in
theorem cw_X6_isPlayer : CWok mX6_isPlayer 1 := ⟨in_lwg 320 rfl rfl, in_lwg 47 rfl rfl, ⟨by decide, by decide, by decide +kernel⟩, by decide⟩
set_option maxRecDepth 20000 in
theorem cw_X6_rent : CWok mX6_rent 2 := ⟨in_lwg 324 rfl rfl, in_lwg 47 rfl rfl, ⟨by decide, by decide, by decide +kernel⟩, by decide⟩
set_option maxRecDepth 20000 in
theorem cw_X6_spot : CWok mX6_spot 2 := ⟨in_lwg 328 rfl rfl, in_lwg 47 rfl rfl, ⟨by decide, by decide, by decide +kernel⟩, by decide⟩
set_option maxRecDepth 20000 in
theorem cw_X3_measureRows : CWok mX3_measureRows 0 := ⟨in_lwg 332 rfl rfl, in_lwg 49 rfl rfl, ⟨by decide, by decide, by decide +kernel⟩, by decide⟩
set_option maxRecDepth 20000 in
theorem cw_X5_measure : CWok mX5_measure 1 := ⟨in_lwg 336 rfl rfl, in_lwg 50 rfl rfl, ⟨by decide, by decide, by decide +kernel⟩, by decide⟩
set_option maxRecDepth 20000 in
theorem cw_X5_forget : CWok mX5_forget 0 := ⟨in_lwg 340 rfl rfl, in_lwg 50 rfl rfl, ⟨by decide, by decide, by decide +kernel⟩, by decide⟩
set_option maxRecDepth 20000 in
theorem cw_X5_measureScene : CWok mX5_measureScene 2 := ⟨in_lwg 344 rfl rfl, in_lwg 50 rfl rfl, ⟨by decide, by decide, by decide +kernel⟩, by decide⟩
set_option maxRecDepth 20000 in
theorem cw_X2_way : CWok mX2_way 2 := ⟨in_lwg 348 rfl rfl, in_lwg 48 rfl rfl, ⟨by decide, by decide, by decide +kernel⟩, by decide⟩
set_option maxRecDepth 20000 in
theorem cw_X5_isInTurn : CWok mX5_isInTurn 1 := ⟨in_lwg 352 rfl rfl, in_lwg 50 rfl rfl, ⟨by decide, by decide, by decide +kernel⟩, by decide⟩
set_option maxRecDepth 20000 in
theorem cw_X3_keeps : CWok mX3_keeps 0 := ⟨in_lwg 356 rfl rfl, in_lwg 49 rfl rfl, ⟨by decide, by decide, by decide +kernel⟩, by decide⟩
set_option maxRecDepth 20000 in
theorem cw_X5_fitsInto : CWok mX5_fitsInto 2 := ⟨in_lwg 360 rfl rfl, in_lwg 50 rfl rfl, ⟨by decide, by decide, by decide +kernel⟩, by decide⟩
set_option maxRecDepth 20000 in
theorem cw_X5_hasDayLight : CWok mX5_hasDayLight 0 := ⟨in_lwg 364 rfl rfl, in_lwg 50 rfl rfl, ⟨by decide, by decide, by decide +kernel⟩, by decide⟩
set_option maxRecDepth 20000 in
theorem cw_X6_ahead : CWok mX6_ahead 2 := ⟨in_lwg 368 rfl rfl, in_lwg 47 rfl rfl, ⟨by decide, by decide, by decide +kernel⟩, by decide⟩
set_option maxRecDepth 20000 in
theorem cw_X2_hasScene : CWok mX2_hasScene 1 := ⟨in_lwg 372 rfl rfl, in_lwg 48 rfl rfl, ⟨by decide, by decide, by decide +kernel⟩, by decide⟩
set_option maxRecDepth 20000 in
theorem cw_X2_needsByOthersToo : CWok mX2_needsByOthersToo 1 := ⟨in_lwg 376 rfl rfl, in_lwg 48 rfl rfl, ⟨by decide, by decide, by decide +kernel⟩, by decide⟩
set_option maxRecDepth 20000 in
theorem cw_X2_needsOfAll : CWok mX2_needsOfAll 1 := ⟨in_lwg 380 rfl rfl, in_lwg 48 rfl rfl, ⟨by decide, by decide, by decide +kernel⟩, by decide⟩
set_option maxRecDepth 20000 in
theorem cw_X6_hasBit : CWok mX6_hasBit 2 := ⟨in_lwg 383 rfl rfl, in_lwg 47 rfl rfl, ⟨by decide, by decide, by decide +kernel⟩, by decide⟩
set_option maxRecDepth 20000 in
theorem cw_X6_day : CWok mX6_day 2 := ⟨in_lwg 388 rfl rfl, in_lwg 47 rfl rfl, ⟨by decide, by decide, by decide +kernel⟩, by decide⟩
set_option maxRecDepth 20000 in
theorem cw_X6_isDayLength : CWok mX6_isDayLength 2 := ⟨in_lwg 391 rfl rfl, in_lwg 47 rfl rfl, ⟨by decide, by decide, by decide +kernel⟩, by decide⟩
set_option maxRecDepth 20000 in
theorem cw_X3_addDay : CWok mX3_addDay 2 := ⟨in_lwg 395 rfl rfl, in_lwg 49 rfl rfl, ⟨by decide, by decide, by decide +kernel⟩, by decide⟩
set_option maxRecDepth 20000 in
theorem cw_X6_about : CWok mX6_about 2 := ⟨in_lwg 399 rfl rfl, in_lwg 47 rfl rfl, ⟨by decide, by decide, by decide +kernel⟩, by decide⟩
set_option maxRecDepth 20000 in
theorem cw_X3_dayWith : CWok mX3_dayWith 1 := ⟨in_lwg 403 rfl rfl, in_lwg 49 rfl rfl, ⟨by decide, by decide, by decide +kernel⟩, by decide⟩
set_option maxRecDepth 20000 in
theorem cw_X3_placeInRow : CWok mX3_placeInRow 1 := ⟨in_lwg 408 rfl rfl, in_lwg 49 rfl rfl, ⟨by decide, by decide, by decide +kernel⟩, by decide⟩
set_option maxRecDepth 20000 in
theorem cw_X6_row : CWok mX6_row 2 := ⟨in_lwg 413 rfl rfl, in_lwg 47 rfl rfl, ⟨by decide, by decide, by decide +kernel⟩, by decide⟩
set_option maxRecDepth 20000 in
theorem cw_X3_hasDay : CWok mX3_hasDay 1 := ⟨in_lwg 417 rfl rfl, in_lwg 49 rfl rfl, ⟨by decide, by decide, by decide +kernel⟩, by decide⟩
set_option maxRecDepth 20000 in
theorem cw_X5_sceneAt : CWok mX5_sceneAt 1 := ⟨in_lwg 421 rfl rfl, in_lwg 50 rfl rfl, ⟨by decide, by decide, by decide +kernel⟩, by decide⟩
set_option maxRecDepth 20000 in
theorem cw_X6_of : CWok mX6_of 2 := ⟨in_lwg 425 rfl rfl, in_lwg 47 rfl rfl, ⟨by decide, by decide, by decide +kernel⟩, by decide⟩
set_option maxRecDepth 20000 in
theorem cw_X5_halfHoursOver : CWok mX5_halfHoursOver 0 := ⟨in_lwg 429 rfl rfl, in_lwg 50 rfl rfl, ⟨by decide, by decide, by decide +kernel⟩, by decide⟩
set_option maxRecDepth 20000 in
theorem cw_X6_held : CWok mX6_held 2 := ⟨in_lwg 433 rfl rfl, in_lwg 47 rfl rfl, ⟨by decide, by decide, by decide +kernel⟩, by decide⟩
set_option maxRecDepth 20000 in
theorem cw_X3_firstDayOf : CWok mX3_firstDayOf 1 := ⟨in_lwg 437 rfl rfl, in_lwg 49 rfl rfl, ⟨by decide, by decide, by decide +kernel⟩, by decide⟩
set_option maxRecDepth 20000 in
theorem cw_X3_plays : CWok mX3_plays 2 := ⟨in_lwg 441 rfl rfl, in_lwg 49 rfl rfl, ⟨by decide, by decide, by decide +kernel⟩, by decide⟩
set_option maxRecDepth 20000 in
theorem cw_X3_lastDayOf : CWok mX3_lastDayOf 1 := ⟨in_lwg 445 rfl rfl, in_lwg 49 rfl rfl, ⟨by decide, by decide, by decide +kernel⟩, by decide⟩
set_option maxRecDepth 20000 in
theorem cw_X3_daysWith : CWok mX3_daysWith 1 := ⟨in_lwg 449 rfl rfl, in_lwg 49 rfl rfl, ⟨by decide, by decide, by decide +kernel⟩, by decide⟩
set_option maxRecDepth 20000 in
theorem cw_X1_paidDays : CWok mX1_paidDays 1 := ⟨in_lwg 453 rfl rfl, in_lwg 51 rfl rfl, ⟨by decide, by decide, by decide +kernel⟩, by decide⟩
set_option maxRecDepth 20000 in
theorem cw_X1_isLetGo : CWok mX1_isLetGo 2 := ⟨in_lwg 458 rfl rfl, in_lwg 51 rfl rfl, ⟨by decide, by decide, by decide +kernel⟩, by decide⟩
set_option maxRecDepth 20000 in
theorem cw_X6_cost : CWok mX6_cost 1 := ⟨in_lwg 462 rfl rfl, in_lwg 47 rfl rfl, ⟨by decide, by decide, by decide +kernel⟩, by decide⟩
set_option maxRecDepth 20000 in
theorem cw_X1_total : CWok mX1_total 0 := ⟨in_lwg 466 rfl rfl, in_lwg 51 rfl rfl, ⟨by decide, by decide, by decide +kernel⟩, by decide⟩
set_option maxRecDepth 20000 in
theorem cw_X1_wages : CWok mX1_wages 0 := ⟨in_lwg 470 rfl rfl, in_lwg 51 rfl rfl, ⟨by decide, by decide, by decide +kernel⟩, by decide⟩
set_option maxRecDepth 20000 in
theorem cw_X1_rents : CWok mX1_rents 0 := ⟨in_lwg 475 rfl rfl, in_lwg 51 rfl rfl, ⟨by decide, by decide, by decide +kernel⟩, by decide⟩
set_option maxRecDepth 20000 in
theorem cw_X1_rentOf : CWok mX1_rentOf 1 := ⟨in_lwg 479 rfl rfl, in_lwg 51 rfl rfl, ⟨by decide, by decide, by decide +kernel⟩, by decide⟩
set_option maxRecDepth 20000 in
theorem cw_X1_overtime : CWok mX1_overtime 0 := ⟨in_lwg 484 rfl rfl, in_lwg 51 rfl rfl, ⟨by decide, by decide, by decide +kernel⟩, by decide⟩
set_option maxRecDepth 20000 in
theorem cw_X6_below : CWok mX6_below 0 := ⟨in_lwg 492 rfl rfl, in_lwg 47 rfl rfl, ⟨by decide, by decide, by decide +kernel⟩, by decide⟩
set_option maxRecDepth 20000 in
theorem cw_X1_leastPossible : CWok mX1_leastPossible 0 := ⟨in_lwg 496 rfl rfl, in_lwg 51 rfl rfl, ⟨by decide, by decide, by decide +kernel⟩, by decide⟩
set_option maxRecDepth 20000 in
theorem cw_X3_greatestMost : CWok mX3_greatestMost 0 := ⟨in_lwg 500 rfl rfl, in_lwg 49 rfl rfl, ⟨by decide, by decide, by decide +kernel⟩, by decide⟩
set_option maxRecDepth 20000 in
theorem cw_J_max : CWok mJ_max 2 := ⟨in_lwg 503 rfl rfl, in_lwg 55 rfl rfl, ⟨by decide, by decide, by decide +kernel⟩, by decide⟩
set_option maxRecDepth 20000 in
theorem cw_X1_minutesInRows : CWok mX1_minutesInRows 1 := ⟨in_lwg 507 rfl rfl, in_lwg 51 rfl rfl, ⟨by decide, by decide, by decide +kernel⟩, by decide⟩
set_option maxRecDepth 20000 in
theorem cw_X3_scenesInRows : CWok mX3_scenesInRows 0 := ⟨in_lwg 511 rfl rfl, in_lwg 49 rfl rfl, ⟨by decide, by decide, by decide +kernel⟩, by decide⟩
set_option maxRecDepth 20000 in
theorem cw_X1_placesInRows : CWok mX1_placesInRows 0 := ⟨in_lwg 515 rfl rfl, in_lwg 51 rfl rfl, ⟨by decide, by decide, by decide +kernel⟩, by decide⟩
set_option maxRecDepth 20000 in
theorem cw_X6_may : CWok mX6_may 2 := ⟨in_lwg 519 rfl rfl, in_lwg 47 rfl rfl, ⟨by decide, by decide, by decide +kernel⟩, by decide⟩
set_option maxRecDepth 20000 in
theorem cw_X6_refusalToJoin : CWok mX6_refusalToJoin 2 := ⟨in_lwg 523 rfl rfl, in_lwg 47 rfl rfl, ⟨by decide, by decide, by decide +kernel⟩, by decide⟩
set_option maxRecDepth 20000 in
theorem cw_X4_couldJoin : CWok mX4_couldJoin 2 := ⟨in_lwg 527 rfl rfl, in_lwg 52 rfl rfl, ⟨by decide, by decide, by decide +kernel⟩, by decide⟩
set_option maxRecDepth 20000 in
theorem cw_X4_join : CWok mX4_join 2 := ⟨in_lwg 531 rfl rfl, in_lwg 52 rfl rfl, ⟨by decide, by decide, by decide +kernel⟩, by decide⟩
set_option maxRecDepth 20000 in
theorem cw_X5_isFull : CWok mX5_isFull 0 := ⟨in_lwg 535 rfl rfl, in_lwg 50 rfl rfl, ⟨by decide, by decide, by decide +kernel⟩, by decide⟩
set_option maxRecDepth 20000 in
theorem cw_X0_arrange : CWok mX0_arrange 2 := ⟨in_lwg 539 rfl rfl, in_lwg 53 rfl rfl, ⟨by decide, by decide, by decide +kernel⟩, by decide⟩
set_option maxRecDepth 20000 in
theorem cw_X0_fillPool : CWok mX0_fillPool 1 := ⟨in_lwg 543 rfl rfl, in_lwg 53 rfl rfl, ⟨by decide, by decide, by decide +kernel⟩, by decide⟩
set_option maxRecDepth 20000 in
theorem cw_X0_tryEach : CWok mX0_tryEach 3 := ⟨in_lwg 549 rfl rfl, in_lwg 53 rfl rfl, ⟨by decide, by decide, by decide +kernel⟩, by decide⟩
set_option maxRecDepth 20000 in
theorem cw_X0_tryNext : CWok mX0_tryNext 4 := ⟨in_lwg 556 rfl rfl, in_lwg 53 rfl rfl, ⟨by decide, by decide, by decide +kernel⟩, by decide⟩
set_option maxRecDepth 20000 in
theorem cw_X5_clear : CWok mX5_clear 0 := ⟨in_lwg 561 rfl rfl, in_lwg 50 rfl rfl, ⟨by decide, by decide, by decide +kernel⟩, by decide⟩
set_option maxRecDepth 20000 in
theorem cw_X5_append : CWok mX5_append 1 := ⟨in_lwg 565 rfl rfl, in_lwg 50 rfl rfl, ⟨by decide, by decide, by decide +kernel⟩, by decide⟩
set_option maxRecDepth 20000 in
theorem cw_X3_exchange : CWok mX3_exchange 2 := ⟨in_lwg 570 rfl rfl, in_lwg 49 rfl rfl, ⟨by decide, by decide, by decide +kernel⟩, by decide⟩
set_option maxRecDepth 20000 in
theorem cw_X6_put : CWok mX6_put 2 := ⟨in_lwg 575 rfl rfl, in_lwg 47 rfl rfl, ⟨by decide, by decide, by decide +kernel⟩, by decide⟩
set_option maxRecDepth 20000 in
theorem cw_X6_take : CWok mX6_take 1 := ⟨in_lwg 580 rfl rfl, in_lwg 47 rfl rfl, ⟨by decide, by decide, by decide +kernel⟩, by decide⟩
set_option maxRecDepth 20000 in
theorem cw_X4_leave : CWok mX4_leave 2 := ⟨in_lwg 584 rfl rfl, in_lwg 52 rfl rfl, ⟨by decide, by decide, by decide +kernel⟩, by decide⟩
set_option maxRecDepth 20000 in
theorem cw_X6_tidy : CWok mX6_tidy 1 := ⟨in_lwg 591 rfl rfl, in_lwg 47 rfl rfl, ⟨by decide, by decide, by decide +kernel⟩, by decide⟩
set_option maxRecDepth 20000 in
theorem cw_X4_arrangeDay : CWok mX4_arrangeDay 1 := ⟨in_lwg 595 rfl rfl, in_lwg 52 rfl rfl, ⟨by decide, by decide, by decide +kernel⟩, by decide⟩
set_option maxRecDepth 20000 in
theorem cw_X6_trade : CWok mX6_trade 2 := ⟨in_lwg 599 rfl rfl, in_lwg 47 rfl rfl, ⟨by decide, by decide, by decide +kernel⟩, by decide⟩
set_option maxRecDepth 20000 in
theorem cw_X6_better : CWok mX6_better 0 := ⟨in_lwg 604 rfl rfl, in_lwg 47 rfl rfl, ⟨by decide, by decide, by decide +kernel⟩, by decide⟩
set_option maxRecDepth 20000 in
theorem cw_X4_makeFirstGoodMove : CWok mX4_makeFirstGoodMove 0 := ⟨in_lwg 608 rfl rfl, in_lwg 52 rfl rfl, ⟨by decide, by decide, by decide +kernel⟩, by decide⟩
set_option maxRecDepth 20000 in
theorem cw_X4_moveIfGood : CWok mX4_moveIfGood 4 := ⟨in_lwg 614 rfl rfl, in_lwg 52 rfl rfl, ⟨by decide, by decide, by decide +kernel⟩, by decide⟩
set_option maxRecDepth 20000 in
theorem cw_X4_makeFirstGoodTrade : CWok mX4_makeFirstGoodTrade 0 := ⟨in_lwg 619 rfl rfl, in_lwg 52 rfl rfl, ⟨by decide, by decide, by decide +kernel⟩, by decide⟩
set_option maxRecDepth 20000 in
theorem cw_X6_order : CWok mX6_order 0 := ⟨in_lwg 623 rfl rfl, in_lwg 47 rfl rfl, ⟨by decide, by decide, by decide +kernel⟩, by decide⟩
set_option maxRecDepth 20000 in
theorem cw_X4_takeBestOrder : CWok mX4_takeBestOrder 0 := ⟨in_lwg 627 rfl rfl, in_lwg 52 rfl rfl, ⟨by decide, by decide, by decide +kernel⟩, by decide⟩
set_option maxRecDepth 20000 in
theorem cw_X4_toNextTurns : CWok mX4_toNextTurns 1 := ⟨in_lwg 631 rfl rfl, in_lwg 52 rfl rfl, ⟨by decide, by decide, by decide +kernel⟩, by decide⟩
set_option maxRecDepth 20000 in
theorem cw_X4_swapTurns : CWok mX4_swapTurns 2 := ⟨in_lwg 635 rfl rfl, in_lwg 52 rfl rfl, ⟨by decide, by decide, by decide +kernel⟩, by decide⟩
set_option maxRecDepth 20000 in
theorem cw_X4_giveRows : CWok mX4_giveRows 1 := ⟨in_lwg 639 rfl rfl, in_lwg 52 rfl rfl, ⟨by decide, by decide, by decide +kernel⟩, by decide⟩
set_option maxRecDepth 20000 in
theorem cw_X6_rain : CWok mX6_rain 1 := ⟨in_lwg 644 rfl rfl, in_lwg 47 rfl rfl, ⟨by decide, by decide, by decide +kernel⟩, by decide⟩
set_option maxRecDepth 20000 in
theorem cw_X4_clearOutScenes : CWok mX4_clearOutScenes 1 := ⟨in_lwg 648 rfl rfl, in_lwg 52 rfl rfl, ⟨by decide, by decide, by decide +kernel⟩, by decide⟩
set_option maxRecDepth 20000 in
theorem cw_X4_fillWithIndoorScenes : CWok mX4_fillWithIndoorScenes 1 := ⟨in_lwg 653 rfl rfl, in_lwg 52 rfl rfl, ⟨by decide, by decide, by decide +kernel⟩, by decide⟩
set_option maxRecDepth 20000 in
theorem cw_X6_change : CWok mX6_change 3 := ⟨in_lwg 657 rfl rfl, in_lwg 47 rfl rfl, ⟨by decide, by decide, by decide +kernel⟩, by decide⟩
set_option maxRecDepth 20000 in
theorem cw_X6_count : CWok mX6_count 1 := ⟨in_lwg 662 rfl rfl, in_lwg 47 rfl rfl, ⟨by decide, by decide, by decide +kernel⟩, by decide⟩
set_option maxRecDepth 20000 in
theorem cw_J_bitCount : CWok mJ_bitCount 1 := ⟨in_lwg 666 rfl rfl, in_lwg 57 rfl rfl, ⟨by decide, by decide, by decide +kernel⟩, by decide⟩
set_option maxRecDepth 20000 in
theorem cw_X2_scenesAheadOfSome : CWok mX2_scenesAheadOfSome 0 := ⟨in_lwg 673 rfl rfl, in_lwg 48 rfl rfl, ⟨by decide, by decide, by decide +kernel⟩, by decide⟩
set_option maxRecDepth 20000 in
theorem cw_X7_init : CWok mX7_init 0 := ⟨in_lwg 678 rfl rfl, in_lwg 54 rfl rfl, ⟨by decide, by decide, by decide +kernel⟩, by decide⟩
set_option maxRecDepth 20000 in
theorem cw_X7_scene : CWok mX7_scene 5 := ⟨in_lwg 768 rfl rfl, in_lwg 54 rfl rfl, ⟨by decide, by decide, by decide +kernel⟩, by decide⟩
set_option maxRecDepth 20000 in
theorem cw_X7_in : CWok mX7_in 3 := ⟨in_lwg 771 rfl rfl, in_lwg 54 rfl rfl, ⟨by decide, by decide, by decide +kernel⟩, by decide⟩
set_option maxRecDepth 20000 in
theorem cw_X7_player : CWok mX7_player 3 := ⟨in_lwg 775 rfl rfl, in_lwg 54 rfl rfl, ⟨by decide, by decide, by decide +kernel⟩, by decide⟩
set_option maxRecDepth 20000 in
theorem cw_X7_rent : CWok mX7_rent 2 := ⟨in_lwg 779 rfl rfl, in_lwg 54 rfl rfl, ⟨by decide, by decide, by decide +kernel⟩, by decide⟩
set_option maxRecDepth 20000 in
theorem cw_X7_spot : CWok mX7_spot 2 := ⟨in_lwg 783 rfl rfl, in_lwg 54 rfl rfl, ⟨by decide, by decide, by decide +kernel⟩, by decide⟩
set_option maxRecDepth 20000 in
theorem cw_X7_keeps : CWok mX7_keeps 0 := ⟨in_lwg 787 rfl rfl, in_lwg 54 rfl rfl, ⟨by decide, by decide, by decide +kernel⟩, by decide⟩
set_option maxRecDepth 20000 in
theorem cw_X7_minutesOf : CWok mX7_minutesOf 1 := ⟨in_lwg 791 rfl rfl, in_lwg 54 rfl rfl, ⟨by decide, by decide, by decide +kernel⟩, by decide⟩
set_option maxRecDepth 20000 in
theorem cw_X7_distance : CWok mX7_distance 2 := ⟨in_lwg 794 rfl rfl, in_lwg 54 rfl rfl, ⟨by decide, by decide, by decide +kernel⟩, by decide⟩
set_option maxRecDepth 20000 in
theorem cw_X7_lightOf : CWok mX7_lightOf 1 := ⟨in_lwg 798 rfl rfl, in_lwg 54 rfl rfl, ⟨by decide, by decide, by decide +kernel⟩, by decide⟩
set_option maxRecDepth 20000 in
theorem cw_X7_has : CWok mX7_has 2 := ⟨in_lwg 802 rfl rfl, in_lwg 54 rfl rfl, ⟨by decide, by decide, by decide +kernel⟩, by decide⟩
set_option maxRecDepth 20000 in
theorem cw_X7_isOrdered : CWok mX7_isOrdered 1 := ⟨in_lwg 806 rfl rfl, in_lwg 54 rfl rfl, ⟨by decide, by decide, by decide +kernel⟩, by decide⟩
set_option maxRecDepth 20000 in
theorem cw_X7_placeIn : CWok mX7_placeIn 1 := ⟨in_lwg 810 rfl rfl, in_lwg 54 rfl rfl, ⟨by decide, by decide, by decide +kernel⟩, by decide⟩
set_option maxRecDepth 20000 in
theorem cw_X7_ahead : CWok mX7_ahead 2 := ⟨in_lwg 814 rfl rfl, in_lwg 54 rfl rfl, ⟨by decide, by decide, by decide +kernel⟩, by decide⟩
set_option maxRecDepth 20000 in
theorem cw_X7_isScene : CWok mX7_isScene 1 := ⟨in_lwg 818 rfl rfl, in_lwg 54 rfl rfl, ⟨by decide, by decide, by decide +kernel⟩, by decide⟩
set_option maxRecDepth 20000 in
theorem cw_X7_mustBe : CWok mX7_mustBe 2 := ⟨in_lwg 822 rfl rfl, in_lwg 54 rfl rfl, ⟨by decide, by decide, by decide +kernel⟩, by decide⟩
set_option maxRecDepth 20000 in
theorem cw_X7_day : CWok mX7_day 2 := ⟨in_lwg 826 rfl rfl, in_lwg 54 rfl rfl, ⟨by decide, by decide, by decide +kernel⟩, by decide⟩
set_option maxRecDepth 20000 in
theorem cw_X7_change : CWok mX7_change 3 := ⟨in_lwg 830 rfl rfl, in_lwg 54 rfl rfl, ⟨by decide, by decide, by decide +kernel⟩, by decide⟩
set_option maxRecDepth 20000 in
theorem cw_X7_isDay : CWok mX7_isDay 1 := ⟨in_lwg 834 rfl rfl, in_lwg 54 rfl rfl, ⟨by decide, by decide, by decide +kernel⟩, by decide⟩
set_option maxRecDepth 20000 in
theorem cw_X7_may : CWok mX7_may 2 := ⟨in_lwg 838 rfl rfl, in_lwg 54 rfl rfl, ⟨by decide, by decide, by decide +kernel⟩, by decide⟩
set_option maxRecDepth 20000 in
theorem cw_X7_keepAll : CWok mX7_keepAll 0 := ⟨in_lwg 842 rfl rfl, in_lwg 54 rfl rfl, ⟨by decide, by decide, by decide +kernel⟩, by decide⟩
set_option maxRecDepth 20000 in
theorem cw_X7_puts : CWok mX7_puts 2 := ⟨in_lwg 846 rfl rfl, in_lwg 54 rfl rfl, ⟨by decide, by decide, by decide +kernel⟩, by decide⟩
set_option maxRecDepth 20000 in
theorem cw_X7_arranges : CWok mX7_arranges 1 := ⟨in_lwg 850 rfl rfl, in_lwg 54 rfl rfl, ⟨by decide, by decide, by decide +kernel⟩, by decide⟩
set_option maxRecDepth 20000 in
theorem cw_X7_tries : CWok mX7_tries 3 := ⟨in_lwg 855 rfl rfl, in_lwg 54 rfl rfl, ⟨by decide, by decide, by decide +kernel⟩, by decide⟩
set_option maxRecDepth 20000 in
theorem cw_X7_backAll : CWok mX7_backAll 0 := ⟨in_lwg 859 rfl rfl, in_lwg 54 rfl rfl, ⟨by decide, by decide, by decide +kernel⟩, by decide⟩
set_option maxRecDepth 20000 in
theorem cw_X7_put : CWok mX7_put 2 := ⟨in_lwg 863 rfl rfl, in_lwg 54 rfl rfl, ⟨by decide, by decide, by decide +kernel⟩, by decide⟩
set_option maxRecDepth 20000 in
theorem cw_X7_take : CWok mX7_take 1 := ⟨in_lwg 868 rfl rfl, in_lwg 54 rfl rfl, ⟨by decide, by decide, by decide +kernel⟩, by decide⟩
set_option maxRecDepth 20000 in
theorem cw_X7_takes : CWok mX7_takes 1 := ⟨in_lwg 872 rfl rfl, in_lwg 54 rfl rfl, ⟨by decide, by decide, by decide +kernel⟩, by decide⟩
set_option maxRecDepth 20000 in
theorem cw_X7_tidy : CWok mX7_tidy 1 := ⟨in_lwg 876 rfl rfl, in_lwg 54 rfl rfl, ⟨by decide, by decide, by decide +kernel⟩, by decide⟩
set_option maxRecDepth 20000 in
theorem cw_X7_trade : CWok mX7_trade 2 := ⟨in_lwg 880 rfl rfl, in_lwg 54 rfl rfl, ⟨by decide, by decide, by decide +kernel⟩, by decide⟩
set_option maxRecDepth 20000 in
theorem cw_X7_trades : CWok mX7_trades 2 := ⟨in_lwg 884 rfl rfl, in_lwg 54 rfl rfl, ⟨by decide, by decide, by decide +kernel⟩, by decide⟩
set_option maxRecDepth 20000 in
theorem cw_X7_costAll : CWok mX7_costAll 0 := ⟨in_lwg 888 rfl rfl, in_lwg 54 rfl rfl, ⟨by decide, by decide, by decide +kernel⟩, by decide⟩
set_option maxRecDepth 20000 in
theorem cw_X7_payAll : CWok mX7_payAll 0 := ⟨in_lwg 892 rfl rfl, in_lwg 54 rfl rfl, ⟨by decide, by decide, by decide +kernel⟩, by decide⟩
set_option maxRecDepth 20000 in
theorem cw_X7_paid : CWok mX7_paid 1 := ⟨in_lwg 896 rfl rfl, in_lwg 54 rfl rfl, ⟨by decide, by decide, by decide +kernel⟩, by decide⟩
set_option maxRecDepth 20000 in
theorem cw_X7_edge : CWok mX7_edge 2 := ⟨in_lwg 900 rfl rfl, in_lwg 54 rfl rfl, ⟨by decide, by decide, by decide +kernel⟩, by decide⟩
set_option maxRecDepth 20000 in
theorem cw_X7_plays : CWok mX7_plays 2 := ⟨in_lwg 904 rfl rfl, in_lwg 54 rfl rfl, ⟨by decide, by decide, by decide +kernel⟩, by decide⟩
set_option maxRecDepth 20000 in
theorem cw_X7_rentAll : CWok mX7_rentAll 0 := ⟨in_lwg 908 rfl rfl, in_lwg 54 rfl rfl, ⟨by decide, by decide, by decide +kernel⟩, by decide⟩
set_option maxRecDepth 20000 in
theorem cw_X7_uses : CWok mX7_uses 2 := ⟨in_lwg 912 rfl rfl, in_lwg 54 rfl rfl, ⟨by decide, by decide, by decide +kernel⟩, by decide⟩
set_option maxRecDepth 20000 in
theorem cw_X7_overAll : CWok mX7_overAll 0 := ⟨in_lwg 916 rfl rfl, in_lwg 54 rfl rfl, ⟨by decide, by decide, by decide +kernel⟩, by decide⟩
set_option maxRecDepth 20000 in
theorem cw_X7_over : CWok mX7_over 1 := ⟨in_lwg 920 rfl rfl, in_lwg 54 rfl rfl, ⟨by decide, by decide, by decide +kernel⟩, by decide⟩
set_option maxRecDepth 20000 in
theorem cw_X7_cost : CWok mX7_cost 1 := ⟨in_lwg 924 rfl rfl, in_lwg 54 rfl rfl, ⟨by decide, by decide, by decide +kernel⟩, by decide⟩
set_option maxRecDepth 20000 in
theorem cw_X7_below : CWok mX7_below 0 := ⟨in_lwg 928 rfl rfl, in_lwg 54 rfl rfl, ⟨by decide, by decide, by decide +kernel⟩, by decide⟩
set_option maxRecDepth 20000 in
theorem cw_X7_held : CWok mX7_held 2 := ⟨in_lwg 932 rfl rfl, in_lwg 54 rfl rfl, ⟨by decide, by decide, by decide +kernel⟩, by decide⟩
set_option maxRecDepth 20000 in
theorem cw_X7_daysOf : CWok mX7_daysOf 1 := ⟨in_lwg 936 rfl rfl, in_lwg 54 rfl rfl, ⟨by decide, by decide, by decide +kernel⟩, by decide⟩
set_option maxRecDepth 20000 in
theorem cw_X7_better : CWok mX7_better 0 := ⟨in_lwg 940 rfl rfl, in_lwg 54 rfl rfl, ⟨by decide, by decide, by decide +kernel⟩, by decide⟩
set_option maxRecDepth 20000 in
theorem cw_X7_betters : CWok mX7_betters 0 := ⟨in_lwg 944 rfl rfl, in_lwg 54 rfl rfl, ⟨by decide, by decide, by decide +kernel⟩, by decide⟩
set_option maxRecDepth 20000 in
theorem cw_X7_movesWell : CWok mX7_movesWell 3 := ⟨in_lwg 948 rfl rfl, in_lwg 54 rfl rfl, ⟨by decide, by decide, by decide +kernel⟩, by decide⟩
set_option maxRecDepth 20000 in
theorem cw_X7_order : CWok mX7_order 0 := ⟨in_lwg 952 rfl rfl, in_lwg 54 rfl rfl, ⟨by decide, by decide, by decide +kernel⟩, by decide⟩
set_option maxRecDepth 20000 in
theorem cw_X7_gives : CWok mX7_gives 2 := ⟨in_lwg 956 rfl rfl, in_lwg 54 rfl rfl, ⟨by decide, by decide, by decide +kernel⟩, by decide⟩
set_option maxRecDepth 20000 in
theorem cw_X7_lays : CWok mX7_lays 0 := ⟨in_lwg 960 rfl rfl, in_lwg 54 rfl rfl, ⟨by decide, by decide, by decide +kernel⟩, by decide⟩
set_option maxRecDepth 20000 in
theorem cw_X7_rain : CWok mX7_rain 1 := ⟨in_lwg 964 rfl rfl, in_lwg 54 rfl rfl, ⟨by decide, by decide, by decide +kernel⟩, by decide⟩
set_option maxRecDepth 20000 in
theorem cw_X7_about : CWok mX7_about 2 := ⟨in_lwg 968 rfl rfl, in_lwg 54 rfl rfl, ⟨by decide, by decide, by decide +kernel⟩, by decide⟩
set_option maxRecDepth 20000 in
theorem cw_X7_row : CWok mX7_row 2 := ⟨in_lwg 972 rfl rfl, in_lwg 54 rfl rfl, ⟨by decide, by decide, by decide +kernel⟩, by decide⟩
set_option maxRecDepth 20000 in
theorem cw_X7_of : CWok mX7_of 2 := ⟨in_lwg 976 rfl rfl, in_lwg 54 rfl rfl, ⟨by decide, by decide, by decide +kernel⟩, by decide⟩
set_option maxRecDepth 20000 in
theorem cw_X7_count : CWok mX7_count 1 := ⟨in_lwg 980 rfl rfl, in_lwg 54 rfl rfl, ⟨by decide, by decide, by decide +kernel⟩, by decide⟩
set_option maxRecDepth 20000 in
theorem k_L_9 : CIok RL 9 mX6_init 0 := ⟨cw_X6_init, rfl, rfl, in_lwg 61 rfl rfl, Or.inl (in_lwg 60 rfl rfl)⟩
set_option maxRecDepth 20000 in
theorem k_X6_9 : CIok RX6 9 mX2_init 0 := ⟨cw_X2_init, rfl, rfl, in_lwg 69 rfl rfl, Or.inr ⟨_, in_lwn 68 rfl rfl⟩⟩
set_option maxRecDepth 20000 in
theorem f_X2_9 : FL RX2 9 2 0 := ⟨_, _, _, _, cl_2, by decide, in_lwg 72 rfl rfl⟩
set_option maxRecDepth 20000 in
theorem f_X5_63 : FL RX5 63 2 0 := ⟨_, _, _, _, cl_2, by decide, in_lwg 73 rfl rfl⟩
set_option maxRecDepth 20000 in
theorem f_X6_99 : FL RX6 99 2 0 := ⟨_, _, _, _, cl_2, by decide, in_lwg 74 rfl rfl⟩
set_option maxRecDepth 20000 in
theorem f_X1_94 : FL RX1 94 2 0 := ⟨_, _, _, _, cl_2, by decide, in_lwg 75 rfl rfl⟩
set_option maxRecDepth 20000 in
theorem f_X2_15 : FL RX2 15 2 1 := ⟨_, _, _, _, cl_2, by decide, in_lwg 76 rfl rfl⟩
set_option maxRecDepth 20000 in
theorem f_X5_67 : FL RX5 67 2 1 := ⟨_, _, _, _, cl_2, by decide, in_lwg 77 rfl rfl⟩
set_option maxRecDepth 20000 in
theorem f_X6_102 : FL RX6 102 2 1 := ⟨_, _, _, _, cl_2, by decide, in_lwg 78 rfl rfl⟩
set_option maxRecDepth 20000 in
theorem f_X2_18 : FL RX2 18 2 2 := ⟨_, _, _, _, cl_2, by decide, in_lwg 79 rfl rfl⟩
set_option maxRecDepth 20000 in
theorem f_X5_70 : FL RX5 70 2 2 := ⟨_, _, _, _, cl_2, by decide, in_lwg 80 rfl rfl⟩
set_option maxRecDepth 20000 in
theorem f_X6_105 : FL RX6 105 2 2 := ⟨_, _, _, _, cl_2, by decide, in_lwg 81 rfl rfl⟩
set_option maxRecDepth 20000 in
theorem f_X2_21 : FL RX2 21 2 3 := ⟨_, _, _, _, cl_2, by decide, in_lwg 82 rfl rfl⟩
set_option maxRecDepth 20000 in
theorem f_X6_108 : FL RX6 108 2 3 := ⟨_, _, _, _, cl_2, by decide, in_lwg 83 rfl rfl⟩
set_option maxRecDepth 20000 in
theorem f_X4_134 : FL RX4 134 2 3 := ⟨_, _, _, _, cl_2, by decide, in_lwg 84 rfl rfl⟩
set_option maxRecDepth 20000 in
theorem f_X2_24 : FL RX2 24 2 4 := ⟨_, _, _, _, cl_2, by decide, in_lwg 85 rfl rfl⟩
set_option maxRecDepth 20000 in
theorem f_X5_65 : FL RX5 65 2 4 := ⟨_, _, _, _, cl_2, by decide, in_lwg 86 rfl rfl⟩
set_option maxRecDepth 20000 in
theorem f_X6_111 : FL RX6 111 2 4 := ⟨_, _, _, _, cl_2, by decide, in_lwg 87 rfl rfl⟩
set_option maxRecDepth 20000 in
theorem f_X1_91 : FL RX1 91 2 4 := ⟨_, _, _, _, cl_2, by decide, in_lwg 88 rfl rfl⟩
set_option maxRecDepth 20000 in
theorem f_X2_27 : FL RX2 27 2 5 := ⟨_, _, _, _, cl_2, by decide, in_lwg 89 rfl rfl⟩
set_option maxRecDepth 20000 in
theorem f_X0_73 : FL RX0 73 2 5 := ⟨_, _, _, _, cl_2, by decide, in_lwg 90 rfl rfl⟩
set_option maxRecDepth 20000 in
theorem f_X6_89 : FL RX6 89 2 5 := ⟨_, _, _, _, cl_2, by decide, in_lwg 91 rfl rfl⟩
set_option maxRecDepth 20000 in
theorem f_X5_61 : FL RX5 61 2 5 := ⟨_, _, _, _, cl_2, by decide, in_lwg 92 rfl rfl⟩
set_option maxRecDepth 20000 in
theorem f_X2_30 : FL RX2 30 2 6 := ⟨_, _, _, _, cl_2, by decide, in_lwg 93 rfl rfl⟩
set_option maxRecDepth 20000 in
theorem f_X1_29 : FL RX1 29 2 6 := ⟨_, _, _, _, cl_2, by decide, in_lwg 94 rfl rfl⟩
set_option maxRecDepth 20000 in
theorem f_X6_58 : FL RX6 58 2 6 := ⟨_, _, _, _, cl_2, by decide, in_lwg 95 rfl rfl⟩
set_option maxRecDepth 20000 in
theorem f_X2_33 : FL RX2 33 2 7 := ⟨_, _, _, _, cl_2, by decide, in_lwg 96 rfl rfl⟩
set_option maxRecDepth 20000 in
theorem f_X6_62 : FL RX6 62 2 7 := ⟨_, _, _, _, cl_2, by decide, in_lwg 97 rfl rfl⟩
set_option maxRecDepth 20000 in
theorem f_X1_52 : FL RX1 52 2 7 := ⟨_, _, _, _, cl_2, by decide, in_lwg 98 rfl rfl⟩
set_option maxRecDepth 20000 in
theorem f_X2_36 : FL RX2 36 2 8 := ⟨_, _, _, _, cl_2, by decide, in_lwg 99 rfl rfl⟩
set_option maxRecDepth 20000 in
theorem f_X6_65 : FL RX6 65 2 8 := ⟨_, _, _, _, cl_2, by decide, in_lwg 100 rfl rfl⟩
set_option maxRecDepth 20000 in
theorem f_X1_70 : FL RX1 70 2 8 := ⟨_, _, _, _, cl_2, by decide, in_lwg 101 rfl rfl⟩
set_option maxRecDepth 20000 in
theorem f_X2_39 : FL RX2 39 2 9 := ⟨_, _, _, _, cl_2, by decide, in_lwg 102 rfl rfl⟩
set_option maxRecDepth 20000 in
theorem f_X6_68 : FL RX6 68 2 9 := ⟨_, _, _, _, cl_2, by decide, in_lwg 103 rfl rfl⟩
set_option maxRecDepth 20000 in
theorem f_X2_42 : FL RX2 42 2 10 := ⟨_, _, _, _, cl_2, by decide, in_lwg 104 rfl rfl⟩
set_option maxRecDepth 20000 in
theorem f_X0_58 : FL RX0 58 2 10 := ⟨_, _, _, _, cl_2, by decide, in_lwg 105 rfl rfl⟩
set_option maxRecDepth 20000 in
theorem f_X4_95 : FL RX4 95 2 10 := ⟨_, _, _, _, cl_2, by decide, in_lwg 106 rfl rfl⟩
set_option maxRecDepth 20000 in
theorem f_X1_88 : FL RX1 88 2 10 := ⟨_, _, _, _, cl_2, by decide, in_lwg 107 rfl rfl⟩
set_option maxRecDepth 20000 in
theorem f_X6_225 : FL RX6 225 2 10 := ⟨_, _, _, _, cl_2, by decide, in_lwg 108 rfl rfl⟩
set_option maxRecDepth 20000 in
theorem k_X6_18 : CIok RX6 18 mX3_init 1 := ⟨cw_X3_init, rfl, rfl, in_lwg 136 rfl rfl, Or.inl (in_lwg 135 rfl rfl)⟩
set_option maxRecDepth 20000 in
theorem k_X3_28 : CIok RX3 28 mX5_init 0 := ⟨cw_X5_init, rfl, rfl, in_lwg 143 rfl rfl, Or.inr ⟨_, in_lwn 142 rfl rfl⟩⟩
set_option maxRecDepth 20000 in
theorem f_X5_9 : FL RX5 9 5 0 := ⟨_, _, _, _, cl_5, by decide, in_lwg 146 rfl rfl⟩
set_option maxRecDepth 20000 in
theorem f_X4_79 : FL RX4 79 5 0 := ⟨_, _, _, _, cl_5, by decide, in_lwg 147 rfl rfl⟩
set_option maxRecDepth 20000 in
theorem f_X3_68 : FL RX3 68 5 0 := ⟨_, _, _, _, cl_5, by decide, in_lwg 148 rfl rfl⟩
set_option maxRecDepth 20000 in
theorem f_X5_19 : FL RX5 19 5 1 := ⟨_, _, _, _, cl_5, by decide, in_lwg 149 rfl rfl⟩
set_option maxRecDepth 20000 in
theorem f_X4_76 : FL RX4 76 5 1 := ⟨_, _, _, _, cl_5, by decide, in_lwg 150 rfl rfl⟩
set_option maxRecDepth 20000 in
theorem f_X3_65 : FL RX3 65 5 1 := ⟨_, _, _, _, cl_5, by decide, in_lwg 151 rfl rfl⟩
set_option maxRecDepth 20000 in
theorem f_X6_132 : FL RX6 132 5 1 := ⟨_, _, _, _, cl_5, by decide, in_lwg 152 rfl rfl⟩
set_option maxRecDepth 20000 in
theorem f_X4_54 : FL RX4 54 5 2 := ⟨_, _, _, _, cl_5, by decide, in_lwg 153 rfl rfl⟩
set_option maxRecDepth 20000 in
theorem f_X3_51 : FL RX3 51 5 2 := ⟨_, _, _, _, cl_5, by decide, in_lwg 154 rfl rfl⟩
set_option maxRecDepth 20000 in
theorem f_X5_43 : FL RX5 43 5 2 := ⟨_, _, _, _, cl_5, by decide, in_lwg 155 rfl rfl⟩
set_option maxRecDepth 20000 in
theorem f_X3_48 : FL RX3 48 5 3 := ⟨_, _, _, _, cl_5, by decide, in_lwg 156 rfl rfl⟩
set_option maxRecDepth 20000 in
theorem f_X5_46 : FL RX5 46 5 3 := ⟨_, _, _, _, cl_5, by decide, in_lwg 157 rfl rfl⟩
set_option maxRecDepth 20000 in
theorem f_X5_30 : FL RX5 30 5 4 := ⟨_, _, _, _, cl_5, by decide, in_lwg 158 rfl rfl⟩
set_option maxRecDepth 20000 in
theorem f_X6_136 : FL RX6 136 5 4 := ⟨_, _, _, _, cl_5, by decide, in_lwg 159 rfl rfl⟩
set_option maxRecDepth 20000 in
theorem f_X5_49 : FL RX5 49 5 5 := ⟨_, _, _, _, cl_5, by decide, in_lwg 160 rfl rfl⟩
set_option maxRecDepth 20000 in
theorem f_X6_144 : FL RX6 144 5 5 := ⟨_, _, _, _, cl_5, by decide, in_lwg 161 rfl rfl⟩
set_option maxRecDepth 20000 in
theorem f_X5_52 : FL RX5 52 5 6 := ⟨_, _, _, _, cl_5, by decide, in_lwg 162 rfl rfl⟩
set_option maxRecDepth 20000 in
theorem f_X3_71 : FL RX3 71 5 6 := ⟨_, _, _, _, cl_5, by decide, in_lwg 163 rfl rfl⟩
set_option maxRecDepth 20000 in
theorem f_X6_142 : FL RX6 142 5 6 := ⟨_, _, _, _, cl_5, by decide, in_lwg 164 rfl rfl⟩
set_option maxRecDepth 20000 in
theorem f_X1_59 : FL RX1 59 5 7 := ⟨_, _, _, _, cl_5, by decide, in_lwg 165 rfl rfl⟩
set_option maxRecDepth 20000 in
theorem f_X5_55 : FL RX5 55 5 7 := ⟨_, _, _, _, cl_5, by decide, in_lwg 166 rfl rfl⟩
set_option maxRecDepth 20000 in
theorem f_X3_45 : FL RX3 45 5 8 := ⟨_, _, _, _, cl_5, by decide, in_lwg 167 rfl rfl⟩
set_option maxRecDepth 20000 in
theorem f_X5_58 : FL RX5 58 5 8 := ⟨_, _, _, _, cl_5, by decide, in_lwg 168 rfl rfl⟩
set_option maxRecDepth 20000 in
theorem f_X6_147 : FL RX6 147 5 8 := ⟨_, _, _, _, cl_5, by decide, in_lwg 169 rfl rfl⟩
set_option maxRecDepth 20000 in
theorem f_X5_15 : FL RX5 15 5 9 := ⟨_, _, _, _, cl_5, by decide, in_lwg 170 rfl rfl⟩
set_option maxRecDepth 20000 in
theorem f_X3_41 : FL RX3 41 5 9 := ⟨_, _, _, _, cl_5, by decide, in_lwg 171 rfl rfl⟩
set_option maxRecDepth 20000 in
theorem f_X3_24 : FL RX3 24 3 0 := ⟨_, _, _, _, cl_3, by decide, in_lwg 193 rfl rfl⟩
set_option maxRecDepth 20000 in
theorem f_X3_11 : FL RX3 11 3 1 := ⟨_, _, _, _, cl_3, by decide, in_lwg 194 rfl rfl⟩
set_option maxRecDepth 20000 in
theorem f_X4_45 : FL RX4 45 3 1 := ⟨_, _, _, _, cl_3, by decide, in_lwg 195 rfl rfl⟩
set_option maxRecDepth 20000 in
theorem f_X1_55 : FL RX1 55 3 1 := ⟨_, _, _, _, cl_3, by decide, in_lwg 196 rfl rfl⟩
set_option maxRecDepth 20000 in
theorem f_X6_123 : FL RX6 123 3 1 := ⟨_, _, _, _, cl_3, by decide, in_lwg 197 rfl rfl⟩
set_option maxRecDepth 20000 in
theorem f_X3_17 : FL RX3 17 3 2 := ⟨_, _, _, _, cl_3, by decide, in_lwg 198 rfl rfl⟩
set_option maxRecDepth 20000 in
theorem f_X6_219 : FL RX6 219 3 2 := ⟨_, _, _, _, cl_3, by decide, in_lwg 199 rfl rfl⟩
set_option maxRecDepth 20000 in
theorem f_X3_21 : FL RX3 21 3 3 := ⟨_, _, _, _, cl_3, by decide, in_lwg 200 rfl rfl⟩
set_option maxRecDepth 20000 in
theorem f_X6_222 : FL RX6 222 3 3 := ⟨_, _, _, _, cl_3, by decide, in_lwg 201 rfl rfl⟩
set_option maxRecDepth 20000 in
theorem f_X3_29 : FL RX3 29 3 4 := ⟨_, _, _, _, cl_3, by decide, in_lwg 202 rfl rfl⟩
set_option maxRecDepth 20000 in
theorem f_X1_39 : FL RX1 39 3 4 := ⟨_, _, _, _, cl_3, by decide, in_lwg 203 rfl rfl⟩
set_option maxRecDepth 20000 in
theorem f_X4_103 : FL RX4 103 3 4 := ⟨_, _, _, _, cl_3, by decide, in_lwg 204 rfl rfl⟩
set_option maxRecDepth 20000 in
theorem f_X6_204 : FL RX6 204 3 4 := ⟨_, _, _, _, cl_3, by decide, in_lwg 205 rfl rfl⟩
set_option maxRecDepth 20000 in
theorem k_X6_27 : CIok RX6 27 mX1_init 2 := ⟨cw_X1_init, rfl, rfl, in_lwg 220 rfl rfl, Or.inl (in_lwg 219 rfl rfl)⟩
set_option maxRecDepth 20000 in
theorem f_X1_9 : FL RX1 9 1 0 := ⟨_, _, _, _, cl_1, by decide, in_lwg 223 rfl rfl⟩
set_option maxRecDepth 20000 in
theorem f_X1_15 : FL RX1 15 1 1 := ⟨_, _, _, _, cl_1, by decide, in_lwg 224 rfl rfl⟩
set_option maxRecDepth 20000 in
theorem k_X6_36 : CIok RX6 36 mX4_init 3 := ⟨cw_X4_init, rfl, rfl, in_lwg 233 rfl rfl, Or.inl (in_lwg 232 rfl rfl)⟩
set_option maxRecDepth 20000 in
theorem k_X4_38 : CIok RX4 38 mX0_init 1 := ⟨cw_X0_init, rfl, rfl, in_lwg 240 rfl rfl, Or.inl (in_lwg 239 rfl rfl)⟩
set_option maxRecDepth 20000 in
theorem f_X0_21 : FL RX0 21 0 0 := ⟨_, _, _, _, cl_0, by decide, in_lwg 243 rfl rfl⟩
set_option maxRecDepth 20000 in
theorem f_X0_9 : FL RX0 9 0 1 := ⟨_, _, _, _, cl_0, by decide, in_lwg 244 rfl rfl⟩
set_option maxRecDepth 20000 in
theorem f_X0_15 : FL RX0 15 0 2 := ⟨_, _, _, _, cl_0, by decide, in_lwg 245 rfl rfl⟩
set_option maxRecDepth 20000 in
theorem f_X0_18 : FL RX0 18 0 3 := ⟨_, _, _, _, cl_0, by decide, in_lwg 246 rfl rfl⟩
set_option maxRecDepth 20000 in
theorem f_X0_45 : FL RX0 45 0 4 := ⟨_, _, _, _, cl_0, by decide, in_lwg 247 rfl rfl⟩
set_option maxRecDepth 20000 in
theorem f_X0_55 : FL RX0 55 0 5 := ⟨_, _, _, _, cl_0, by decide, in_lwg 248 rfl rfl⟩
set_option maxRecDepth 20000 in
theorem f_X0_32 : FL RX0 32 0 6 := ⟨_, _, _, _, cl_0, by decide, in_lwg 249 rfl rfl⟩
set_option maxRecDepth 20000 in
theorem f_X4_24 : FL RX4 24 4 0 := ⟨_, _, _, _, cl_4, by decide, in_lwg 265 rfl rfl⟩
set_option maxRecDepth 20000 in
theorem f_X4_28 : FL RX4 28 4 1 := ⟨_, _, _, _, cl_4, by decide, in_lwg 266 rfl rfl⟩
set_option maxRecDepth 20000 in
theorem f_X4_32 : FL RX4 32 4 2 := ⟨_, _, _, _, cl_4, by decide, in_lwg 267 rfl rfl⟩
set_option maxRecDepth 20000 in
theorem f_X4_41 : FL RX4 41 4 3 := ⟨_, _, _, _, cl_4, by decide, in_lwg 268 rfl rfl⟩
set_option maxRecDepth 20000 in
theorem f_X4_11 : FL RX4 11 4 4 := ⟨_, _, _, _, cl_4, by decide, in_lwg 269 rfl rfl⟩
set_option maxRecDepth 20000 in
theorem f_X4_17 : FL RX4 17 4 5 := ⟨_, _, _, _, cl_4, by decide, in_lwg 270 rfl rfl⟩
set_option maxRecDepth 20000 in
theorem f_X4_21 : FL RX4 21 4 6 := ⟨_, _, _, _, cl_4, by decide, in_lwg 271 rfl rfl⟩
set_option maxRecDepth 20000 in
theorem f_X6_10 : FL RX6 10 6 0 := ⟨_, _, _, _, cl_6, by decide, in_lwg 287 rfl rfl⟩
set_option maxRecDepth 20000 in
theorem f_X6_21 : FL RX6 21 6 1 := ⟨_, _, _, _, cl_6, by decide, in_lwg 288 rfl rfl⟩
set_option maxRecDepth 20000 in
theorem f_X6_30 : FL RX6 30 6 2 := ⟨_, _, _, _, cl_6, by decide, in_lwg 289 rfl rfl⟩
set_option maxRecDepth 20000 in
theorem f_X6_39 : FL RX6 39 6 3 := ⟨_, _, _, _, cl_6, by decide, in_lwg 290 rfl rfl⟩
set_option maxRecDepth 20000 in
theorem k_L_13 : CVok RL 13 mX6_scene 6 5 := ⟨cw_X6_scene, in_lwg 300 rfl rfl, in_lwg 301 rfl rfl, in_lwg 302 rfl rfl, _, _, rfl⟩
set_option maxRecDepth 20000 in
theorem k_X6_43 : CSok RX6 43 mX6_within 3 := ⟨cw_X6_within, in_lwg 305 rfl rfl, Or.inl (in_lwg 304 rfl rfl)⟩
set_option maxRecDepth 20000 in
theorem k_X6_47 : CSok RX6 47 mX6_isPlace 1 := ⟨cw_X6_isPlace, in_lwg 308 rfl rfl, Or.inl (in_lwg 307 rfl rfl)⟩
set_option maxRecDepth 20000 in
theorem k_X6_51 : CVok RX6 51 mX2_addScene 2 5 := ⟨cw_X2_addScene, in_lwg 310 rfl rfl, in_lwg 311 rfl rfl, in_lwg 312 rfl rfl, _, _, rfl⟩
set_option maxRecDepth 20000 in
theorem k_L_18 : CVok RL 18 mX6_player 6 3 := ⟨cw_X6_player, in_lwg 314 rfl rfl, in_lwg 315 rfl rfl, in_lwg 316 rfl rfl, _, _, rfl⟩
set_option maxRecDepth 20000 in
theorem k_X6_55 : CSok RX6 55 mX6_isPlayer 1 := ⟨cw_X6_isPlayer, in_lwg 319 rfl rfl, Or.inl (in_lwg 318 rfl rfl)⟩
set_option maxRecDepth 20000 in
theorem k_L_23 : CVok RL 23 mX6_rent 6 2 := ⟨cw_X6_rent, in_lwg 321 rfl rfl, in_lwg 322 rfl rfl, in_lwg 323 rfl rfl, _, _, rfl⟩
set_option maxRecDepth 20000 in
theorem k_L_28 : CVok RL 28 mX6_spot 6 2 := ⟨cw_X6_spot, in_lwg 325 rfl rfl, in_lwg 326 rfl rfl, in_lwg 327 rfl rfl, _, _, rfl⟩
set_option maxRecDepth 20000 in
theorem k_X6_71 : CVok RX6 71 mX3_measureRows 3 0 := ⟨cw_X3_measureRows, in_lwg 329 rfl rfl, in_lwg 330 rfl rfl, in_lwg 331 rfl rfl, _, _, rfl⟩
set_option maxRecDepth 20000 in
theorem k_X3_33 : CVok RX3 33 mX5_measure 5 1 := ⟨cw_X5_measure, in_lwg 333 rfl rfl, in_lwg 334 rfl rfl, in_lwg 335 rfl rfl, _, _, rfl⟩
set_option maxRecDepth 20000 in
theorem k_X5_23 : CVok RX5 23 mX5_forget 5 0 := ⟨cw_X5_forget, in_lwg 337 rfl rfl, in_lwg 339 rfl rfl, in_lwg 0 rfl rfl, _, _, rfl⟩
set_option maxRecDepth 20000 in
theorem k_X5_26 : CVok RX5 26 mX5_measureScene 5 2 := ⟨cw_X5_measureScene, in_lwg 341 rfl rfl, in_lwg 343 rfl rfl, in_lwg 1 rfl rfl, _, _, rfl⟩
set_option maxRecDepth 20000 in
theorem k_X5_33 : CVok RX5 33 mX2_way 2 2 := ⟨cw_X2_way, in_lwg 345 rfl rfl, in_lwg 346 rfl rfl, in_lwg 347 rfl rfl, _, _, rfl⟩
set_option maxRecDepth 20000 in
theorem k_X5_39 : CVok RX5 39 mX5_isInTurn 5 1 := ⟨cw_X5_isInTurn, in_lwg 349 rfl rfl, in_lwg 351 rfl rfl, in_lwg 2 rfl rfl, _, _, rfl⟩
set_option maxRecDepth 20000 in
theorem k_X6_74 : CVok RX6 74 mX3_keeps 3 0 := ⟨cw_X3_keeps, in_lwg 353 rfl rfl, in_lwg 354 rfl rfl, in_lwg 355 rfl rfl, _, _, rfl⟩
set_option maxRecDepth 20000 in
theorem k_X3_37 : CVok RX3 37 mX5_fitsInto 5 2 := ⟨cw_X5_fitsInto, in_lwg 357 rfl rfl, in_lwg 358 rfl rfl, in_lwg 359 rfl rfl, _, _, rfl⟩
set_option maxRecDepth 20000 in
theorem k_X3_54 : CVok RX3 54 mX5_hasDayLight 5 0 := ⟨cw_X5_hasDayLight, in_lwg 361 rfl rfl, in_lwg 362 rfl rfl, in_lwg 363 rfl rfl, _, _, rfl⟩
set_option maxRecDepth 20000 in
theorem k_L_32 : CVok RL 32 mX6_ahead 6 2 := ⟨cw_X6_ahead, in_lwg 365 rfl rfl, in_lwg 366 rfl rfl, in_lwg 367 rfl rfl, _, _, rfl⟩
set_option maxRecDepth 20000 in
theorem k_X6_78 : CVok RX6 78 mX2_hasScene 2 1 := ⟨cw_X2_hasScene, in_lwg 369 rfl rfl, in_lwg 370 rfl rfl, in_lwg 371 rfl rfl, _, _, rfl⟩
set_option maxRecDepth 20000 in
theorem k_X6_81 : CVok RX6 81 mX2_needsByOthersToo 2 1 := ⟨cw_X2_needsByOthersToo, in_lwg 373 rfl rfl, in_lwg 374 rfl rfl, in_lwg 375 rfl rfl, _, _, rfl⟩
set_option maxRecDepth 20000 in
theorem k_X2_46 : CVok RX2 46 mX2_needsOfAll 2 1 := ⟨cw_X2_needsOfAll, in_lwg 377 rfl rfl, in_lwg 379 rfl rfl, in_lwg 3 rfl rfl, _, _, rfl⟩
set_option maxRecDepth 20000 in
theorem k_X2_50 : CSok RX2 50 mX6_hasBit 2 := ⟨cw_X6_hasBit, in_lwg 382 rfl rfl, Or.inr ⟨_, in_lwn 381 rfl rfl⟩⟩
set_option maxRecDepth 20000 in
theorem k_X6_85 : CSok RX6 85 mX6_hasBit 2 := ⟨cw_X6_hasBit, in_lwg 382 rfl rfl, Or.inl (in_lwg 384 rfl rfl)⟩
set_option maxRecDepth 20000 in
theorem k_L_36 : CVok RL 36 mX6_day 6 2 := ⟨cw_X6_day, in_lwg 385 rfl rfl, in_lwg 386 rfl rfl, in_lwg 387 rfl rfl, _, _, rfl⟩
set_option maxRecDepth 20000 in
theorem k_X6_92 : CSok RX6 92 mX6_isDayLength 2 := ⟨cw_X6_isDayLength, in_lwg 390 rfl rfl, Or.inl (in_lwg 389 rfl rfl)⟩
set_option maxRecDepth 20000 in
theorem k_X6_95 : CVok RX6 95 mX3_addDay 3 2 := ⟨cw_X3_addDay, in_lwg 392 rfl rfl, in_lwg 393 rfl rfl, in_lwg 394 rfl rfl, _, _, rfl⟩
set_option maxRecDepth 20000 in
theorem k_L_40 : CVok RL 40 mX6_about 6 2 := ⟨cw_X6_about, in_lwg 396 rfl rfl, in_lwg 397 rfl rfl, in_lwg 398 rfl rfl, _, _, rfl⟩
set_option maxRecDepth 20000 in
theorem k_X6_114 : CVok RX6 114 mX3_dayWith 3 1 := ⟨cw_X3_dayWith, in_lwg 400 rfl rfl, in_lwg 401 rfl rfl, in_lwg 402 rfl rfl, _, _, rfl⟩
set_option maxRecDepth 20000 in
theorem k_X3_58 : CSok RX3 58 mX6_hasBit 2 := ⟨cw_X6_hasBit, in_lwg 382 rfl rfl, Or.inr ⟨_, in_lwn 404 rfl rfl⟩⟩
set_option maxRecDepth 20000 in
theorem k_X6_117 : CVok RX6 117 mX3_placeInRow 3 1 := ⟨cw_X3_placeInRow, in_lwg 405 rfl rfl, in_lwg 406 rfl rfl, in_lwg 407 rfl rfl, _, _, rfl⟩
set_option maxRecDepth 20000 in
theorem k_X3_61 : CVok RX3 61 mX3_dayWith 3 1 := ⟨cw_X3_dayWith, in_lwg 409 rfl rfl, in_lwg 401 rfl rfl, in_lwg 402 rfl rfl, _, _, rfl⟩
set_option maxRecDepth 20000 in
theorem k_L_44 : CVok RL 44 mX6_row 6 2 := ⟨cw_X6_row, in_lwg 410 rfl rfl, in_lwg 411 rfl rfl, in_lwg 412 rfl rfl, _, _, rfl⟩
set_option maxRecDepth 20000 in
theorem k_X6_120 : CVok RX6 120 mX3_hasDay 3 1 := ⟨cw_X3_hasDay, in_lwg 414 rfl rfl, in_lwg 415 rfl rfl, in_lwg 416 rfl rfl, _, _, rfl⟩
set_option maxRecDepth 20000 in
theorem k_X6_127 : CVok RX6 127 mX5_sceneAt 5 1 := ⟨cw_X5_sceneAt, in_lwg 418 rfl rfl, in_lwg 419 rfl rfl, in_lwg 420 rfl rfl, _, _, rfl⟩
set_option maxRecDepth 20000 in
theorem k_L_48 : CVok RL 48 mX6_of 6 2 := ⟨cw_X6_of, in_lwg 422 rfl rfl, in_lwg 423 rfl rfl, in_lwg 424 rfl rfl, _, _, rfl⟩
set_option maxRecDepth 20000 in
theorem k_X6_138 : CVok RX6 138 mX5_halfHoursOver 5 0 := ⟨cw_X5_halfHoursOver, in_lwg 426 rfl rfl, in_lwg 427 rfl rfl, in_lwg 428 rfl rfl, _, _, rfl⟩
set_option maxRecDepth 20000 in
theorem k_L_52 : CVok RL 52 mX6_held 6 2 := ⟨cw_X6_held, in_lwg 430 rfl rfl, in_lwg 431 rfl rfl, in_lwg 432 rfl rfl, _, _, rfl⟩
set_option maxRecDepth 20000 in
theorem k_X6_151 : CVok RX6 151 mX3_firstDayOf 3 1 := ⟨cw_X3_firstDayOf, in_lwg 434 rfl rfl, in_lwg 435 rfl rfl, in_lwg 436 rfl rfl, _, _, rfl⟩
set_option maxRecDepth 20000 in
theorem k_X3_74 : CVok RX3 74 mX3_plays 3 2 := ⟨cw_X3_plays, in_lwg 438 rfl rfl, in_lwg 439 rfl rfl, in_lwg 440 rfl rfl, _, _, rfl⟩
set_option maxRecDepth 20000 in
theorem k_X6_154 : CVok RX6 154 mX3_lastDayOf 3 1 := ⟨cw_X3_lastDayOf, in_lwg 442 rfl rfl, in_lwg 443 rfl rfl, in_lwg 444 rfl rfl, _, _, rfl⟩
set_option maxRecDepth 20000 in
theorem k_X6_157 : CVok RX6 157 mX3_daysWith 3 1 := ⟨cw_X3_daysWith, in_lwg 446 rfl rfl, in_lwg 447 rfl rfl, in_lwg 448 rfl rfl, _, _, rfl⟩
set_option maxRecDepth 20000 in
theorem k_X6_160 : CVok RX6 160 mX1_paidDays 1 1 := ⟨cw_X1_paidDays, in_lwg 450 rfl rfl, in_lwg 451 rfl rfl, in_lwg 452 rfl rfl, _, _, rfl⟩
set_option maxRecDepth 20000 in
theorem k_X1_45 : CVok RX1 45 mX3_plays 3 2 := ⟨cw_X3_plays, in_lwg 454 rfl rfl, in_lwg 439 rfl rfl, in_lwg 440 rfl rfl, _, _, rfl⟩
set_option maxRecDepth 20000 in
theorem k_X1_49 : CVok RX1 49 mX1_isLetGo 1 2 := ⟨cw_X1_isLetGo, in_lwg 455 rfl rfl, in_lwg 457 rfl rfl, in_lwg 4 rfl rfl, _, _, rfl⟩
set_option maxRecDepth 20000 in
theorem k_L_56 : CVok RL 56 mX6_cost 6 1 := ⟨cw_X6_cost, in_lwg 459 rfl rfl, in_lwg 460 rfl rfl, in_lwg 461 rfl rfl, _, _, rfl⟩
set_option maxRecDepth 20000 in
theorem k_X6_163 : CVok RX6 163 mX1_total 1 0 := ⟨cw_X1_total, in_lwg 463 rfl rfl, in_lwg 464 rfl rfl, in_lwg 465 rfl rfl, _, _, rfl⟩
set_option maxRecDepth 20000 in
theorem k_X1_19 : CVok RX1 19 mX1_wages 1 0 := ⟨cw_X1_wages, in_lwg 467 rfl rfl, in_lwg 468 rfl rfl, in_lwg 469 rfl rfl, _, _, rfl⟩
set_option maxRecDepth 20000 in
theorem k_X1_35 : CVok RX1 35 mX1_paidDays 1 1 := ⟨cw_X1_paidDays, in_lwg 471 rfl rfl, in_lwg 451 rfl rfl, in_lwg 452 rfl rfl, _, _, rfl⟩
set_option maxRecDepth 20000 in
theorem k_X1_23 : CVok RX1 23 mX1_rents 1 0 := ⟨cw_X1_rents, in_lwg 472 rfl rfl, in_lwg 473 rfl rfl, in_lwg 474 rfl rfl, _, _, rfl⟩
set_option maxRecDepth 20000 in
theorem k_X1_64 : CVok RX1 64 mX1_rentOf 1 1 := ⟨cw_X1_rentOf, in_lwg 476 rfl rfl, in_lwg 478 rfl rfl, in_lwg 5 rfl rfl, _, _, rfl⟩
set_option maxRecDepth 20000 in
theorem k_X1_67 : CSok RX1 67 mX6_hasBit 2 := ⟨cw_X6_hasBit, in_lwg 382 rfl rfl, Or.inr ⟨_, in_lwn 480 rfl rfl⟩⟩
set_option maxRecDepth 20000 in
theorem k_X1_26 : CVok RX1 26 mX1_overtime 1 0 := ⟨cw_X1_overtime, in_lwg 481 rfl rfl, in_lwg 482 rfl rfl, in_lwg 483 rfl rfl, _, _, rfl⟩
set_option maxRecDepth 20000 in
theorem k_X1_73 : CVok RX1 73 mX5_halfHoursOver 5 0 := ⟨cw_X5_halfHoursOver, in_lwg 485 rfl rfl, in_lwg 427 rfl rfl, in_lwg 428 rfl rfl, _, _, rfl⟩
set_option maxRecDepth 20000 in
theorem k_X6_166 : CVok RX6 166 mX1_wages 1 0 := ⟨cw_X1_wages, in_lwg 486 rfl rfl, in_lwg 468 rfl rfl, in_lwg 469 rfl rfl, _, _, rfl⟩
set_option maxRecDepth 20000 in
theorem k_X6_169 : CVok RX6 169 mX1_rents 1 0 := ⟨cw_X1_rents, in_lwg 487 rfl rfl, in_lwg 473 rfl rfl, in_lwg 474 rfl rfl, _, _, rfl⟩
set_option maxRecDepth 20000 in
theorem k_X6_172 : CVok RX6 172 mX1_overtime 1 0 := ⟨cw_X1_overtime, in_lwg 488 rfl rfl, in_lwg 482 rfl rfl, in_lwg 483 rfl rfl, _, _, rfl⟩
set_option maxRecDepth 20000 in
theorem k_L_61 : CVok RL 61 mX6_below 6 0 := ⟨cw_X6_below, in_lwg 489 rfl rfl, in_lwg 490 rfl rfl, in_lwg 491 rfl rfl, _, _, rfl⟩
set_option maxRecDepth 20000 in
theorem k_X6_175 : CVok RX6 175 mX1_leastPossible 1 0 := ⟨cw_X1_leastPossible, in_lwg 493 rfl rfl, in_lwg 494 rfl rfl, in_lwg 495 rfl rfl, _, _, rfl⟩
set_option maxRecDepth 20000 in
theorem k_X1_76 : CVok RX1 76 mX3_greatestMost 3 0 := ⟨cw_X3_greatestMost, in_lwg 497 rfl rfl, in_lwg 498 rfl rfl, in_lwg 499 rfl rfl, _, _, rfl⟩
set_option maxRecDepth 20000 in
theorem k_X3_77 : CSok RX3 77 mJ_max 2 := ⟨cw_J_max, in_lwg 502 rfl rfl, Or.inl (in_lwg 501 rfl rfl)⟩
set_option maxRecDepth 20000 in
theorem k_X1_79 : CVok RX1 79 mX1_minutesInRows 1 1 := ⟨cw_X1_minutesInRows, in_lwg 504 rfl rfl, in_lwg 506 rfl rfl, in_lwg 6 rfl rfl, _, _, rfl⟩
set_option maxRecDepth 20000 in
theorem k_X1_85 : CVok RX1 85 mX3_scenesInRows 3 0 := ⟨cw_X3_scenesInRows, in_lwg 508 rfl rfl, in_lwg 509 rfl rfl, in_lwg 510 rfl rfl, _, _, rfl⟩
set_option maxRecDepth 20000 in
theorem k_X1_82 : CVok RX1 82 mX1_placesInRows 1 0 := ⟨cw_X1_placesInRows, in_lwg 512 rfl rfl, in_lwg 514 rfl rfl, in_lwg 7 rfl rfl, _, _, rfl⟩
set_option maxRecDepth 20000 in
theorem k_L_66 : CVok RL 66 mX6_may 6 2 := ⟨cw_X6_may, in_lwg 516 rfl rfl, in_lwg 517 rfl rfl, in_lwg 518 rfl rfl, _, _, rfl⟩
set_option maxRecDepth 20000 in
theorem k_X6_178 : CVok RX6 178 mX6_refusalToJoin 6 2 := ⟨cw_X6_refusalToJoin, in_lwg 520 rfl rfl, in_lwg 522 rfl rfl, in_lwg 8 rfl rfl, _, _, rfl⟩
set_option maxRecDepth 20000 in
theorem k_X6_181 : CVok RX6 181 mX4_couldJoin 4 2 := ⟨cw_X4_couldJoin, in_lwg 524 rfl rfl, in_lwg 525 rfl rfl, in_lwg 526 rfl rfl, _, _, rfl⟩
set_option maxRecDepth 20000 in
theorem k_X4_69 : CVok RX4 69 mX4_join 4 2 := ⟨cw_X4_join, in_lwg 528 rfl rfl, in_lwg 529 rfl rfl, in_lwg 530 rfl rfl, _, _, rfl⟩
set_option maxRecDepth 20000 in
theorem k_X4_50 : CVok RX4 50 mX5_isFull 5 0 := ⟨cw_X5_isFull, in_lwg 532 rfl rfl, in_lwg 533 rfl rfl, in_lwg 534 rfl rfl, _, _, rfl⟩
set_option maxRecDepth 20000 in
theorem k_X4_58 : CVok RX4 58 mX0_arrange 0 2 := ⟨cw_X0_arrange, in_lwg 536 rfl rfl, in_lwg 537 rfl rfl, in_lwg 538 rfl rfl, _, _, rfl⟩
set_option maxRecDepth 20000 in
theorem k_X0_25 : CVok RX0 25 mX0_fillPool 0 1 := ⟨cw_X0_fillPool, in_lwg 540 rfl rfl, in_lwg 542 rfl rfl, in_lwg 9 rfl rfl, _, _, rfl⟩
set_option maxRecDepth 20000 in
theorem k_X0_63 : CSok RX0 63 mX6_hasBit 2 := ⟨cw_X6_hasBit, in_lwg 382 rfl rfl, Or.inr ⟨_, in_lwn 544 rfl rfl⟩⟩
set_option maxRecDepth 20000 in
theorem c_X0_31 : Cond.constant RX0 31 2147483647 ∈ lwg := in_lwg 545 rfl rfl
set_option maxRecDepth 20000 in
theorem k_X0_36 : CVok RX0 36 mX0_tryEach 0 3 := ⟨cw_X0_tryEach, in_lwg 546 rfl rfl, in_lwg 548 rfl rfl, in_lwg 10 rfl rfl, _, _, rfl⟩
set_option maxRecDepth 20000 in
theorem k_X0_76 : CVok RX0 76 mX0_tryNext 0 4 := ⟨cw_X0_tryNext, in_lwg 553 rfl rfl, in_lwg 555 rfl rfl, in_lwg 11 rfl rfl, _, _, rfl⟩
set_option maxRecDepth 20000 in
theorem k_X0_80 : CVok RX0 80 mX2_way 2 2 := ⟨cw_X2_way, in_lwg 557 rfl rfl, in_lwg 346 rfl rfl, in_lwg 347 rfl rfl, _, _, rfl⟩
set_option maxRecDepth 20000 in
theorem k_X0_40 : CVok RX0 40 mX5_clear 5 0 := ⟨cw_X5_clear, in_lwg 558 rfl rfl, in_lwg 559 rfl rfl, in_lwg 560 rfl rfl, _, _, rfl⟩
set_option maxRecDepth 20000 in
theorem k_X0_48 : CVok RX0 48 mX5_append 5 1 := ⟨cw_X5_append, in_lwg 562 rfl rfl, in_lwg 563 rfl rfl, in_lwg 564 rfl rfl, _, _, rfl⟩
set_option maxRecDepth 20000 in
theorem k_X0_51 : CVok RX0 51 mX5_measure 5 1 := ⟨cw_X5_measure, in_lwg 566 rfl rfl, in_lwg 334 rfl rfl, in_lwg 335 rfl rfl, _, _, rfl⟩
set_option maxRecDepth 20000 in
theorem k_X4_62 : CVok RX4 62 mX3_exchange 3 2 := ⟨cw_X3_exchange, in_lwg 567 rfl rfl, in_lwg 568 rfl rfl, in_lwg 569 rfl rfl, _, _, rfl⟩
set_option maxRecDepth 20000 in
theorem k_X4_66 : CVok RX4 66 mX3_keeps 3 0 := ⟨cw_X3_keeps, in_lwg 571 rfl rfl, in_lwg 354 rfl rfl, in_lwg 355 rfl rfl, _, _, rfl⟩
set_option maxRecDepth 20000 in
theorem k_L_70 : CVok RL 70 mX6_put 6 2 := ⟨cw_X6_put, in_lwg 572 rfl rfl, in_lwg 573 rfl rfl, in_lwg 574 rfl rfl, _, _, rfl⟩
set_option maxRecDepth 20000 in
theorem k_X6_184 : CVok RX6 184 mX4_join 4 2 := ⟨cw_X4_join, in_lwg 576 rfl rfl, in_lwg 529 rfl rfl, in_lwg 530 rfl rfl, _, _, rfl⟩
set_option maxRecDepth 20000 in
theorem k_L_74 : CVok RL 74 mX6_take 6 1 := ⟨cw_X6_take, in_lwg 577 rfl rfl, in_lwg 578 rfl rfl, in_lwg 579 rfl rfl, _, _, rfl⟩
set_option maxRecDepth 20000 in
theorem k_X6_187 : CVok RX6 187 mX4_leave 4 2 := ⟨cw_X4_leave, in_lwg 581 rfl rfl, in_lwg 582 rfl rfl, in_lwg 583 rfl rfl, _, _, rfl⟩
set_option maxRecDepth 20000 in
theorem k_X4_73 : CVok RX4 73 mX5_clear 5 0 := ⟨cw_X5_clear, in_lwg 585 rfl rfl, in_lwg 559 rfl rfl, in_lwg 560 rfl rfl, _, _, rfl⟩
set_option maxRecDepth 20000 in
theorem k_X4_82 : CVok RX4 82 mX5_append 5 1 := ⟨cw_X5_append, in_lwg 586 rfl rfl, in_lwg 563 rfl rfl, in_lwg 564 rfl rfl, _, _, rfl⟩
set_option maxRecDepth 20000 in
theorem k_X4_86 : CVok RX4 86 mX5_measure 5 1 := ⟨cw_X5_measure, in_lwg 587 rfl rfl, in_lwg 334 rfl rfl, in_lwg 335 rfl rfl, _, _, rfl⟩
set_option maxRecDepth 20000 in
theorem k_L_78 : CVok RL 78 mX6_tidy 6 1 := ⟨cw_X6_tidy, in_lwg 588 rfl rfl, in_lwg 589 rfl rfl, in_lwg 590 rfl rfl, _, _, rfl⟩
set_option maxRecDepth 20000 in
theorem k_X6_191 : CVok RX6 191 mX4_arrangeDay 4 1 := ⟨cw_X4_arrangeDay, in_lwg 592 rfl rfl, in_lwg 593 rfl rfl, in_lwg 594 rfl rfl, _, _, rfl⟩
set_option maxRecDepth 20000 in
theorem k_L_82 : CVok RL 82 mX6_trade 6 2 := ⟨cw_X6_trade, in_lwg 596 rfl rfl, in_lwg 597 rfl rfl, in_lwg 598 rfl rfl, _, _, rfl⟩
set_option maxRecDepth 20000 in
theorem k_X6_195 : CVok RX6 195 mX3_exchange 3 2 := ⟨cw_X3_exchange, in_lwg 600 rfl rfl, in_lwg 568 rfl rfl, in_lwg 569 rfl rfl, _, _, rfl⟩
set_option maxRecDepth 20000 in
theorem k_L_86 : CVok RL 86 mX6_better 6 0 := ⟨cw_X6_better, in_lwg 601 rfl rfl, in_lwg 602 rfl rfl, in_lwg 603 rfl rfl, _, _, rfl⟩
set_option maxRecDepth 20000 in
theorem k_X6_198 : CVok RX6 198 mX4_makeFirstGoodMove 4 0 := ⟨cw_X4_makeFirstGoodMove, in_lwg 605 rfl rfl, in_lwg 606 rfl rfl, in_lwg 607 rfl rfl, _, _, rfl⟩
set_option maxRecDepth 20000 in
theorem k_X4_89 : CVok RX4 89 mX1_total 1 0 := ⟨cw_X1_total, in_lwg 609 rfl rfl, in_lwg 464 rfl rfl, in_lwg 465 rfl rfl, _, _, rfl⟩
set_option maxRecDepth 20000 in
theorem k_X4_99 : CVok RX4 99 mX3_dayWith 3 1 := ⟨cw_X3_dayWith, in_lwg 610 rfl rfl, in_lwg 401 rfl rfl, in_lwg 402 rfl rfl, _, _, rfl⟩
set_option maxRecDepth 20000 in
theorem k_X4_106 : CVok RX4 106 mX4_moveIfGood 4 4 := ⟨cw_X4_moveIfGood, in_lwg 611 rfl rfl, in_lwg 613 rfl rfl, in_lwg 12 rfl rfl, _, _, rfl⟩
set_option maxRecDepth 20000 in
theorem k_X4_110 : CVok RX4 110 mX4_leave 4 2 := ⟨cw_X4_leave, in_lwg 615 rfl rfl, in_lwg 582 rfl rfl, in_lwg 583 rfl rfl, _, _, rfl⟩
set_option maxRecDepth 20000 in
theorem k_X6_201 : CVok RX6 201 mX4_makeFirstGoodTrade 4 0 := ⟨cw_X4_makeFirstGoodTrade, in_lwg 616 rfl rfl, in_lwg 617 rfl rfl, in_lwg 618 rfl rfl, _, _, rfl⟩
set_option maxRecDepth 20000 in
theorem k_L_90 : CVok RL 90 mX6_order 6 0 := ⟨cw_X6_order, in_lwg 620 rfl rfl, in_lwg 621 rfl rfl, in_lwg 622 rfl rfl, _, _, rfl⟩
set_option maxRecDepth 20000 in
theorem k_X6_207 : CVok RX6 207 mX4_takeBestOrder 4 0 := ⟨cw_X4_takeBestOrder, in_lwg 624 rfl rfl, in_lwg 625 rfl rfl, in_lwg 626 rfl rfl, _, _, rfl⟩
set_option maxRecDepth 20000 in
theorem k_X4_113 : CVok RX4 113 mX4_toNextTurns 4 1 := ⟨cw_X4_toNextTurns, in_lwg 628 rfl rfl, in_lwg 630 rfl rfl, in_lwg 13 rfl rfl, _, _, rfl⟩
set_option maxRecDepth 20000 in
theorem k_X4_127 : CVok RX4 127 mX4_swapTurns 4 2 := ⟨cw_X4_swapTurns, in_lwg 632 rfl rfl, in_lwg 634 rfl rfl, in_lwg 14 rfl rfl, _, _, rfl⟩
set_option maxRecDepth 20000 in
theorem k_X4_117 : CVok RX4 117 mX4_giveRows 4 1 := ⟨cw_X4_giveRows, in_lwg 636 rfl rfl, in_lwg 638 rfl rfl, in_lwg 15 rfl rfl, _, _, rfl⟩
set_option maxRecDepth 20000 in
theorem k_L_94 : CVok RL 94 mX6_rain 6 1 := ⟨cw_X6_rain, in_lwg 641 rfl rfl, in_lwg 642 rfl rfl, in_lwg 643 rfl rfl, _, _, rfl⟩
set_option maxRecDepth 20000 in
theorem k_X6_210 : CVok RX6 210 mX4_clearOutScenes 4 1 := ⟨cw_X4_clearOutScenes, in_lwg 645 rfl rfl, in_lwg 646 rfl rfl, in_lwg 647 rfl rfl, _, _, rfl⟩
set_option maxRecDepth 20000 in
theorem k_X4_130 : CSok RX4 130 mX6_hasBit 2 := ⟨cw_X6_hasBit, in_lwg 382 rfl rfl, Or.inr ⟨_, in_lwn 649 rfl rfl⟩⟩
set_option maxRecDepth 20000 in
theorem k_X6_213 : CVok RX6 213 mX4_fillWithIndoorScenes 4 1 := ⟨cw_X4_fillWithIndoorScenes, in_lwg 650 rfl rfl, in_lwg 651 rfl rfl, in_lwg 652 rfl rfl, _, _, rfl⟩
set_option maxRecDepth 20000 in
theorem k_L_98 : CVok RL 98 mX6_change 6 3 := ⟨cw_X6_change, in_lwg 654 rfl rfl, in_lwg 655 rfl rfl, in_lwg 656 rfl rfl, _, _, rfl⟩
set_option maxRecDepth 20000 in
theorem k_X6_216 : CVok RX6 216 mX5_fitsInto 5 2 := ⟨cw_X5_fitsInto, in_lwg 658 rfl rfl, in_lwg 358 rfl rfl, in_lwg 359 rfl rfl, _, _, rfl⟩
set_option maxRecDepth 20000 in
theorem k_L_102 : CVok RL 102 mX6_count 6 1 := ⟨cw_X6_count, in_lwg 659 rfl rfl, in_lwg 660 rfl rfl, in_lwg 661 rfl rfl, _, _, rfl⟩
set_option maxRecDepth 20000 in
theorem k_X6_228 : CVok RX6 228 mX3_scenesInRows 3 0 := ⟨cw_X3_scenesInRows, in_lwg 663 rfl rfl, in_lwg 509 rfl rfl, in_lwg 510 rfl rfl, _, _, rfl⟩
set_option maxRecDepth 20000 in
theorem k_X6_231 : CSok RX6 231 mJ_bitCount 1 := ⟨cw_J_bitCount, in_lwg 665 rfl rfl, Or.inl (in_lwg 664 rfl rfl)⟩
set_option maxRecDepth 20000 in
theorem c_J_265 : Cond.constant "java/lang/Integer" 265 1431655765 ∈ lwg := in_lwg 667 rfl rfl
set_option maxRecDepth 20000 in
theorem c_J_266 : Cond.constant "java/lang/Integer" 266 858993459 ∈ lwg := in_lwg 668 rfl rfl
set_option maxRecDepth 20000 in
theorem c_J_267 : Cond.constant "java/lang/Integer" 267 252645135 ∈ lwg := in_lwg 669 rfl rfl
set_option maxRecDepth 20000 in
theorem k_X6_236 : CVok RX6 236 mX2_scenesAheadOfSome 2 0 := ⟨cw_X2_scenesAheadOfSome, in_lwg 670 rfl rfl, in_lwg 671 rfl rfl, in_lwg 672 rfl rfl, _, _, rfl⟩
set_option maxRecDepth 20000 in
theorem k_L_12 : CIok RL 12 mX7_init 0 := ⟨cw_X7_init, rfl, rfl, in_lwg 677 rfl rfl, Or.inl (in_lwg 676 rfl rfl)⟩
set_option maxRecDepth 20000 in
theorem f_X7_84 : FL RX7 84 7 1 := ⟨_, _, _, _, cl_7, by decide, in_lwg 680 rfl rfl⟩
set_option maxRecDepth 20000 in
theorem f_X7_7 : FL RX7 7 7 2 := ⟨_, _, _, _, cl_7, by decide, in_lwg 681 rfl rfl⟩
set_option maxRecDepth 20000 in
theorem f_X7_13 : FL RX7 13 7 3 := ⟨_, _, _, _, cl_7, by decide, in_lwg 682 rfl rfl⟩
set_option maxRecDepth 20000 in
theorem f_X7_16 : FL RX7 16 7 4 := ⟨_, _, _, _, cl_7, by decide, in_lwg 683 rfl rfl⟩
set_option maxRecDepth 20000 in
theorem f_X7_19 : FL RX7 19 7 5 := ⟨_, _, _, _, cl_7, by decide, in_lwg 684 rfl rfl⟩
set_option maxRecDepth 20000 in
theorem f_X7_23 : FL RX7 23 7 6 := ⟨_, _, _, _, cl_7, by decide, in_lwg 685 rfl rfl⟩
set_option maxRecDepth 20000 in
theorem f_X7_26 : FL RX7 26 7 7 := ⟨_, _, _, _, cl_7, by decide, in_lwg 686 rfl rfl⟩
set_option maxRecDepth 20000 in
theorem f_X7_29 : FL RX7 29 7 8 := ⟨_, _, _, _, cl_7, by decide, in_lwg 687 rfl rfl⟩
set_option maxRecDepth 20000 in
theorem f_X7_32 : FL RX7 32 7 9 := ⟨_, _, _, _, cl_7, by decide, in_lwg 688 rfl rfl⟩
set_option maxRecDepth 20000 in
theorem f_X7_35 : FL RX7 35 7 10 := ⟨_, _, _, _, cl_7, by decide, in_lwg 689 rfl rfl⟩
set_option maxRecDepth 20000 in
theorem f_X7_38 : FL RX7 38 7 11 := ⟨_, _, _, _, cl_7, by decide, in_lwg 690 rfl rfl⟩
set_option maxRecDepth 20000 in
theorem f_X7_41 : FL RX7 41 7 12 := ⟨_, _, _, _, cl_7, by decide, in_lwg 691 rfl rfl⟩
set_option maxRecDepth 20000 in
theorem f_X7_91 : FL RX7 91 7 13 := ⟨_, _, _, _, cl_7, by decide, in_lwg 692 rfl rfl⟩
set_option maxRecDepth 20000 in
theorem f_X7_44 : FL RX7 44 7 14 := ⟨_, _, _, _, cl_7, by decide, in_lwg 693 rfl rfl⟩
set_option maxRecDepth 20000 in
theorem f_X7_47 : FL RX7 47 7 15 := ⟨_, _, _, _, cl_7, by decide, in_lwg 694 rfl rfl⟩
set_option maxRecDepth 20000 in
theorem f_X7_50 : FL RX7 50 7 16 := ⟨_, _, _, _, cl_7, by decide, in_lwg 695 rfl rfl⟩
set_option maxRecDepth 20000 in
theorem f_X7_53 : FL RX7 53 7 17 := ⟨_, _, _, _, cl_7, by decide, in_lwg 696 rfl rfl⟩
set_option maxRecDepth 20000 in
theorem f_X7_56 : FL RX7 56 7 18 := ⟨_, _, _, _, cl_7, by decide, in_lwg 697 rfl rfl⟩
set_option maxRecDepth 20000 in
theorem f_X7_59 : FL RX7 59 7 19 := ⟨_, _, _, _, cl_7, by decide, in_lwg 698 rfl rfl⟩
set_option maxRecDepth 20000 in
theorem f_X7_129 : FL RX7 129 7 20 := ⟨_, _, _, _, cl_7, by decide, in_lwg 699 rfl rfl⟩
set_option maxRecDepth 20000 in
theorem f_X7_62 : FL RX7 62 7 21 := ⟨_, _, _, _, cl_7, by decide, in_lwg 700 rfl rfl⟩
set_option maxRecDepth 20000 in
theorem f_X7_65 : FL RX7 65 7 22 := ⟨_, _, _, _, cl_7, by decide, in_lwg 701 rfl rfl⟩
set_option maxRecDepth 20000 in
theorem f_X7_68 : FL RX7 68 7 23 := ⟨_, _, _, _, cl_7, by decide, in_lwg 702 rfl rfl⟩
set_option maxRecDepth 20000 in
theorem f_X7_71 : FL RX7 71 7 24 := ⟨_, _, _, _, cl_7, by decide, in_lwg 703 rfl rfl⟩
set_option maxRecDepth 20000 in
theorem f_X7_74 : FL RX7 74 7 25 := ⟨_, _, _, _, cl_7, by decide, in_lwg 704 rfl rfl⟩
set_option maxRecDepth 20000 in
theorem f_X7_77 : FL RX7 77 7 26 := ⟨_, _, _, _, cl_7, by decide, in_lwg 705 rfl rfl⟩
set_option maxRecDepth 20000 in
theorem f_X7_201 : FL RX7 201 7 27 := ⟨_, _, _, _, cl_7, by decide, in_lwg 706 rfl rfl⟩
set_option maxRecDepth 20000 in
theorem k_L_17 : CVok RL 17 mX7_scene 7 5 := ⟨cw_X7_scene, in_lwg 765 rfl rfl, in_lwg 766 rfl rfl, in_lwg 767 rfl rfl, _, _, rfl⟩
set_option maxRecDepth 20000 in
theorem k_X7_87 : CSok RX7 87 mX7_in 3 := ⟨cw_X7_in, in_lwg 770 rfl rfl, Or.inl (in_lwg 769 rfl rfl)⟩
set_option maxRecDepth 20000 in
theorem k_L_22 : CVok RL 22 mX7_player 7 3 := ⟨cw_X7_player, in_lwg 772 rfl rfl, in_lwg 773 rfl rfl, in_lwg 774 rfl rfl, _, _, rfl⟩
set_option maxRecDepth 20000 in
theorem k_L_27 : CVok RL 27 mX7_rent 7 2 := ⟨cw_X7_rent, in_lwg 776 rfl rfl, in_lwg 777 rfl rfl, in_lwg 778 rfl rfl, _, _, rfl⟩
set_option maxRecDepth 20000 in
theorem k_L_31 : CVok RL 31 mX7_spot 7 2 := ⟨cw_X7_spot, in_lwg 780 rfl rfl, in_lwg 781 rfl rfl, in_lwg 782 rfl rfl, _, _, rfl⟩
set_option maxRecDepth 20000 in
theorem k_X7_94 : CVok RX7 94 mX7_keeps 7 0 := ⟨cw_X7_keeps, in_lwg 784 rfl rfl, in_lwg 786 rfl rfl, in_lwg 16 rfl rfl, _, _, rfl⟩
set_option maxRecDepth 20000 in
theorem k_X7_117 : CVok RX7 117 mX7_minutesOf 7 1 := ⟨cw_X7_minutesOf, in_lwg 788 rfl rfl, in_lwg 790 rfl rfl, in_lwg 17 rfl rfl, _, _, rfl⟩
set_option maxRecDepth 20000 in
theorem k_X7_109 : CSok RX7 109 mX7_distance 2 := ⟨cw_X7_distance, in_lwg 793 rfl rfl, Or.inl (in_lwg 792 rfl rfl)⟩
set_option maxRecDepth 20000 in
theorem k_X7_120 : CVok RX7 120 mX7_lightOf 7 1 := ⟨cw_X7_lightOf, in_lwg 795 rfl rfl, in_lwg 797 rfl rfl, in_lwg 18 rfl rfl, _, _, rfl⟩
set_option maxRecDepth 20000 in
theorem k_X7_123 : CVok RX7 123 mX7_has 7 2 := ⟨cw_X7_has, in_lwg 799 rfl rfl, in_lwg 801 rfl rfl, in_lwg 19 rfl rfl, _, _, rfl⟩
set_option maxRecDepth 20000 in
theorem k_X7_126 : CVok RX7 126 mX7_isOrdered 7 1 := ⟨cw_X7_isOrdered, in_lwg 803 rfl rfl, in_lwg 805 rfl rfl, in_lwg 20 rfl rfl, _, _, rfl⟩
set_option maxRecDepth 20000 in
theorem k_X7_113 : CVok RX7 113 mX7_placeIn 7 1 := ⟨cw_X7_placeIn, in_lwg 807 rfl rfl, in_lwg 809 rfl rfl, in_lwg 21 rfl rfl, _, _, rfl⟩
set_option maxRecDepth 20000 in
theorem k_L_35 : CVok RL 35 mX7_ahead 7 2 := ⟨cw_X7_ahead, in_lwg 811 rfl rfl, in_lwg 812 rfl rfl, in_lwg 813 rfl rfl, _, _, rfl⟩
set_option maxRecDepth 20000 in
theorem k_X7_98 : CVok RX7 98 mX7_isScene 7 1 := ⟨cw_X7_isScene, in_lwg 815 rfl rfl, in_lwg 817 rfl rfl, in_lwg 22 rfl rfl, _, _, rfl⟩
set_option maxRecDepth 20000 in
theorem k_X7_102 : CVok RX7 102 mX7_mustBe 7 2 := ⟨cw_X7_mustBe, in_lwg 819 rfl rfl, in_lwg 821 rfl rfl, in_lwg 23 rfl rfl, _, _, rfl⟩
set_option maxRecDepth 20000 in
theorem k_L_39 : CVok RL 39 mX7_day 7 2 := ⟨cw_X7_day, in_lwg 823 rfl rfl, in_lwg 824 rfl rfl, in_lwg 825 rfl rfl, _, _, rfl⟩
set_option maxRecDepth 20000 in
theorem k_L_101 : CVok RL 101 mX7_change 7 3 := ⟨cw_X7_change, in_lwg 827 rfl rfl, in_lwg 828 rfl rfl, in_lwg 829 rfl rfl, _, _, rfl⟩
set_option maxRecDepth 20000 in
theorem k_X7_106 : CVok RX7 106 mX7_isDay 7 1 := ⟨cw_X7_isDay, in_lwg 831 rfl rfl, in_lwg 833 rfl rfl, in_lwg 24 rfl rfl, _, _, rfl⟩
set_option maxRecDepth 20000 in
theorem k_L_69 : CVok RL 69 mX7_may 7 2 := ⟨cw_X7_may, in_lwg 835 rfl rfl, in_lwg 836 rfl rfl, in_lwg 837 rfl rfl, _, _, rfl⟩
set_option maxRecDepth 20000 in
theorem k_X7_140 : CVok RX7 140 mX7_keepAll 7 0 := ⟨cw_X7_keepAll, in_lwg 839 rfl rfl, in_lwg 841 rfl rfl, in_lwg 25 rfl rfl, _, _, rfl⟩
set_option maxRecDepth 20000 in
theorem k_X7_143 : CVok RX7 143 mX7_puts 7 2 := ⟨cw_X7_puts, in_lwg 843 rfl rfl, in_lwg 845 rfl rfl, in_lwg 26 rfl rfl, _, _, rfl⟩
set_option maxRecDepth 20000 in
theorem k_X7_137 : CVok RX7 137 mX7_arranges 7 1 := ⟨cw_X7_arranges, in_lwg 847 rfl rfl, in_lwg 849 rfl rfl, in_lwg 27 rfl rfl, _, _, rfl⟩
set_option maxRecDepth 20000 in
theorem c_X7_136 : Cond.constant RX7 136 100000 ∈ lwg := in_lwg 851 rfl rfl
set_option maxRecDepth 20000 in
theorem k_X7_132 : CVok RX7 132 mX7_tries 7 3 := ⟨cw_X7_tries, in_lwg 852 rfl rfl, in_lwg 854 rfl rfl, in_lwg 28 rfl rfl, _, _, rfl⟩
set_option maxRecDepth 20000 in
theorem k_X7_146 : CVok RX7 146 mX7_backAll 7 0 := ⟨cw_X7_backAll, in_lwg 856 rfl rfl, in_lwg 858 rfl rfl, in_lwg 29 rfl rfl, _, _, rfl⟩
set_option maxRecDepth 20000 in
theorem k_L_73 : CVok RL 73 mX7_put 7 2 := ⟨cw_X7_put, in_lwg 860 rfl rfl, in_lwg 861 rfl rfl, in_lwg 862 rfl rfl, _, _, rfl⟩
set_option maxRecDepth 20000 in
theorem k_X7_149 : CVok RX7 149 mX7_may 7 2 := ⟨cw_X7_may, in_lwg 864 rfl rfl, in_lwg 836 rfl rfl, in_lwg 837 rfl rfl, _, _, rfl⟩
set_option maxRecDepth 20000 in
theorem k_L_77 : CVok RL 77 mX7_take 7 1 := ⟨cw_X7_take, in_lwg 865 rfl rfl, in_lwg 866 rfl rfl, in_lwg 867 rfl rfl, _, _, rfl⟩
set_option maxRecDepth 20000 in
theorem k_X7_152 : CVok RX7 152 mX7_takes 7 1 := ⟨cw_X7_takes, in_lwg 869 rfl rfl, in_lwg 871 rfl rfl, in_lwg 30 rfl rfl, _, _, rfl⟩
set_option maxRecDepth 20000 in
theorem k_L_81 : CVok RL 81 mX7_tidy 7 1 := ⟨cw_X7_tidy, in_lwg 873 rfl rfl, in_lwg 874 rfl rfl, in_lwg 875 rfl rfl, _, _, rfl⟩
set_option maxRecDepth 20000 in
theorem k_L_85 : CVok RL 85 mX7_trade 7 2 := ⟨cw_X7_trade, in_lwg 877 rfl rfl, in_lwg 878 rfl rfl, in_lwg 879 rfl rfl, _, _, rfl⟩
set_option maxRecDepth 20000 in
theorem k_X7_156 : CVok RX7 156 mX7_trades 7 2 := ⟨cw_X7_trades, in_lwg 881 rfl rfl, in_lwg 883 rfl rfl, in_lwg 31 rfl rfl, _, _, rfl⟩
set_option maxRecDepth 20000 in
theorem k_X7_160 : CVok RX7 160 mX7_costAll 7 0 := ⟨cw_X7_costAll, in_lwg 885 rfl rfl, in_lwg 887 rfl rfl, in_lwg 32 rfl rfl, _, _, rfl⟩
set_option maxRecDepth 20000 in
theorem k_X7_180 : CVok RX7 180 mX7_payAll 7 0 := ⟨cw_X7_payAll, in_lwg 889 rfl rfl, in_lwg 891 rfl rfl, in_lwg 33 rfl rfl, _, _, rfl⟩
set_option maxRecDepth 20000 in
theorem k_X7_171 : CVok RX7 171 mX7_paid 7 1 := ⟨cw_X7_paid, in_lwg 893 rfl rfl, in_lwg 895 rfl rfl, in_lwg 34 rfl rfl, _, _, rfl⟩
set_option maxRecDepth 20000 in
theorem k_X7_167 : CVok RX7 167 mX7_edge 7 2 := ⟨cw_X7_edge, in_lwg 897 rfl rfl, in_lwg 899 rfl rfl, in_lwg 35 rfl rfl, _, _, rfl⟩
set_option maxRecDepth 20000 in
theorem k_X7_164 : CVok RX7 164 mX7_plays 7 2 := ⟨cw_X7_plays, in_lwg 901 rfl rfl, in_lwg 903 rfl rfl, in_lwg 36 rfl rfl, _, _, rfl⟩
set_option maxRecDepth 20000 in
theorem k_X7_183 : CVok RX7 183 mX7_rentAll 7 0 := ⟨cw_X7_rentAll, in_lwg 905 rfl rfl, in_lwg 907 rfl rfl, in_lwg 37 rfl rfl, _, _, rfl⟩
set_option maxRecDepth 20000 in
theorem k_X7_174 : CVok RX7 174 mX7_uses 7 2 := ⟨cw_X7_uses, in_lwg 909 rfl rfl, in_lwg 911 rfl rfl, in_lwg 38 rfl rfl, _, _, rfl⟩
set_option maxRecDepth 20000 in
theorem k_X7_186 : CVok RX7 186 mX7_overAll 7 0 := ⟨cw_X7_overAll, in_lwg 913 rfl rfl, in_lwg 915 rfl rfl, in_lwg 39 rfl rfl, _, _, rfl⟩
set_option maxRecDepth 20000 in
theorem k_X7_177 : CVok RX7 177 mX7_over 7 1 := ⟨cw_X7_over, in_lwg 917 rfl rfl, in_lwg 919 rfl rfl, in_lwg 40 rfl rfl, _, _, rfl⟩
set_option maxRecDepth 20000 in
theorem k_L_60 : CVok RL 60 mX7_cost 7 1 := ⟨cw_X7_cost, in_lwg 921 rfl rfl, in_lwg 922 rfl rfl, in_lwg 923 rfl rfl, _, _, rfl⟩
set_option maxRecDepth 20000 in
theorem k_L_65 : CVok RL 65 mX7_below 7 0 := ⟨cw_X7_below, in_lwg 925 rfl rfl, in_lwg 926 rfl rfl, in_lwg 927 rfl rfl, _, _, rfl⟩
set_option maxRecDepth 20000 in
theorem k_L_55 : CVok RL 55 mX7_held 7 2 := ⟨cw_X7_held, in_lwg 929 rfl rfl, in_lwg 930 rfl rfl, in_lwg 931 rfl rfl, _, _, rfl⟩
set_option maxRecDepth 20000 in
theorem k_X7_189 : CVok RX7 189 mX7_daysOf 7 1 := ⟨cw_X7_daysOf, in_lwg 933 rfl rfl, in_lwg 935 rfl rfl, in_lwg 41 rfl rfl, _, _, rfl⟩
set_option maxRecDepth 20000 in
theorem k_L_89 : CVok RL 89 mX7_better 7 0 := ⟨cw_X7_better, in_lwg 937 rfl rfl, in_lwg 938 rfl rfl, in_lwg 939 rfl rfl, _, _, rfl⟩
set_option maxRecDepth 20000 in
theorem k_X7_195 : CVok RX7 195 mX7_betters 7 0 := ⟨cw_X7_betters, in_lwg 941 rfl rfl, in_lwg 943 rfl rfl, in_lwg 42 rfl rfl, _, _, rfl⟩
set_option maxRecDepth 20000 in
theorem k_X7_192 : CVok RX7 192 mX7_movesWell 7 3 := ⟨cw_X7_movesWell, in_lwg 945 rfl rfl, in_lwg 947 rfl rfl, in_lwg 43 rfl rfl, _, _, rfl⟩
set_option maxRecDepth 20000 in
theorem k_L_93 : CVok RL 93 mX7_order 7 0 := ⟨cw_X7_order, in_lwg 949 rfl rfl, in_lwg 950 rfl rfl, in_lwg 951 rfl rfl, _, _, rfl⟩
set_option maxRecDepth 20000 in
theorem k_X7_204 : CVok RX7 204 mX7_gives 7 2 := ⟨cw_X7_gives, in_lwg 953 rfl rfl, in_lwg 955 rfl rfl, in_lwg 44 rfl rfl, _, _, rfl⟩
set_option maxRecDepth 20000 in
theorem k_X7_198 : CVok RX7 198 mX7_lays 7 0 := ⟨cw_X7_lays, in_lwg 957 rfl rfl, in_lwg 959 rfl rfl, in_lwg 45 rfl rfl, _, _, rfl⟩
set_option maxRecDepth 20000 in
theorem k_L_97 : CVok RL 97 mX7_rain 7 1 := ⟨cw_X7_rain, in_lwg 961 rfl rfl, in_lwg 962 rfl rfl, in_lwg 963 rfl rfl, _, _, rfl⟩
set_option maxRecDepth 20000 in
theorem k_L_43 : CVok RL 43 mX7_about 7 2 := ⟨cw_X7_about, in_lwg 965 rfl rfl, in_lwg 966 rfl rfl, in_lwg 967 rfl rfl, _, _, rfl⟩
set_option maxRecDepth 20000 in
theorem k_L_47 : CVok RL 47 mX7_row 7 2 := ⟨cw_X7_row, in_lwg 969 rfl rfl, in_lwg 970 rfl rfl, in_lwg 971 rfl rfl, _, _, rfl⟩
set_option maxRecDepth 20000 in
theorem k_L_51 : CVok RL 51 mX7_of 7 2 := ⟨cw_X7_of, in_lwg 973 rfl rfl, in_lwg 974 rfl rfl, in_lwg 975 rfl rfl, _, _, rfl⟩
set_option maxRecDepth 20000 in
theorem k_L_105 : CVok RL 105 mX7_count 7 1 := ⟨cw_X7_count, in_lwg 977 rfl rfl, in_lwg 978 rfl rfl, in_lwg 979 rfl rfl, _, _, rfl⟩
set_option maxRecDepth 20000 in
theorem l_L_7 : Cond.classLink RL 7 RX6 ∈ lwg := in_lwg 58 rfl rfl
set_option maxRecDepth 20000 in
theorem n_L_7 : NWok RL 7 6 4 [.null, .null, .null, .null] := ⟨_, _, _, cl_6, l_L_7, in_lwg 59 rfl rfl, in_lwg 47 rfl rfl, fun j hj => (match j, hj with | 0, _ => rfl | 1, _ => rfl | 2, _ => rfl | 3, _ => rfl | k + 4, h => absurd h (by omega)), fun _ => rfl⟩
set_option maxRecDepth 20000 in
theorem l_X6_7 : Cond.classLink RX6 7 RX2 ∈ lwg := in_lwg 66 rfl rfl
set_option maxRecDepth 20000 in
theorem n_X6_7 : NWok RX6 7 2 11 [.null, .null, .null, .null, .null, .null, .null, .null, .null, .null, .int 0] := ⟨_, _, _, cl_2, l_X6_7, in_lwg 67 rfl rfl, in_lwg 48 rfl rfl, fun j hj => (match j, hj with | 0, _ => rfl | 1, _ => rfl | 2, _ => rfl | 3, _ => rfl | 4, _ => rfl | 5, _ => rfl | 6, _ => rfl | 7, _ => rfl | 8, _ => rfl | 9, _ => rfl | 10, _ => rfl | k + 11, h => absurd h (by omega)), fun _ => rfl⟩
set_option maxRecDepth 20000 in
theorem l_X6_16 : Cond.classLink RX6 16 RX3 ∈ lwg := in_lwg 133 rfl rfl
set_option maxRecDepth 20000 in
theorem n_X6_16 : NWok RX6 16 3 5 [.null, .null, .null, .null, .int 0] := ⟨_, _, _, cl_3, l_X6_16, in_lwg 134 rfl rfl, in_lwg 49 rfl rfl, fun j hj => (match j, hj with | 0, _ => rfl | 1, _ => rfl | 2, _ => rfl | 3, _ => rfl | 4, _ => rfl | k + 5, h => absurd h (by omega)), fun _ => rfl⟩
set_option maxRecDepth 20000 in
theorem l_X3_9 : Cond.classLink RX3 9 RX5 ∈ lwg := in_lwg 139 rfl rfl
set_option maxRecDepth 20000 in
theorem n_X3_9 : NWok RX3 9 5 10 [.null, .int 0, .int 0, .int 0, .int 0, .int 0, .int 0, .int 0, .int 0, .int 0] := ⟨_, _, _, cl_5, l_X3_9, in_lwg 141 rfl rfl, in_lwg 50 rfl rfl, fun j hj => (match j, hj with | 0, _ => rfl | 1, _ => rfl | 2, _ => rfl | 3, _ => rfl | 4, _ => rfl | 5, _ => rfl | 6, _ => rfl | 7, _ => rfl | 8, _ => rfl | 9, _ => rfl | k + 10, h => absurd h (by omega)), fun _ => rfl⟩
set_option maxRecDepth 20000 in
theorem l_X6_25 : Cond.classLink RX6 25 RX1 ∈ lwg := in_lwg 217 rfl rfl
set_option maxRecDepth 20000 in
theorem n_X6_25 : NWok RX6 25 1 2 [.null, .null] := ⟨_, _, _, cl_1, l_X6_25, in_lwg 218 rfl rfl, in_lwg 51 rfl rfl, fun j hj => (match j, hj with | 0, _ => rfl | 1, _ => rfl | k + 2, h => absurd h (by omega)), fun _ => rfl⟩
set_option maxRecDepth 20000 in
theorem l_X6_34 : Cond.classLink RX6 34 RX4 ∈ lwg := in_lwg 230 rfl rfl
set_option maxRecDepth 20000 in
theorem n_X6_34 : NWok RX6 34 4 7 [.null, .null, .null, .null, .null, .null, .null] := ⟨_, _, _, cl_4, l_X6_34, in_lwg 231 rfl rfl, in_lwg 52 rfl rfl, fun j hj => (match j, hj with | 0, _ => rfl | 1, _ => rfl | 2, _ => rfl | 3, _ => rfl | 4, _ => rfl | 5, _ => rfl | 6, _ => rfl | k + 7, h => absurd h (by omega)), fun _ => rfl⟩
set_option maxRecDepth 20000 in
theorem l_X4_9 : Cond.classLink RX4 9 RX5 ∈ lwg := in_lwg 236 rfl rfl
set_option maxRecDepth 20000 in
theorem n_X4_9 : NWok RX4 9 5 10 [.null, .int 0, .int 0, .int 0, .int 0, .int 0, .int 0, .int 0, .int 0, .int 0] := ⟨_, _, _, cl_5, l_X4_9, in_lwg 141 rfl rfl, in_lwg 50 rfl rfl, fun j hj => (match j, hj with | 0, _ => rfl | 1, _ => rfl | 2, _ => rfl | 3, _ => rfl | 4, _ => rfl | 5, _ => rfl | 6, _ => rfl | 7, _ => rfl | 8, _ => rfl | 9, _ => rfl | k + 10, h => absurd h (by omega)), fun _ => rfl⟩
set_option maxRecDepth 20000 in
theorem l_X4_36 : Cond.classLink RX4 36 RX0 ∈ lwg := in_lwg 237 rfl rfl
set_option maxRecDepth 20000 in
theorem n_X4_36 : NWok RX4 36 0 7 [.null, .null, .null, .null, .int 0, .int 0, .int 0] := ⟨_, _, _, cl_0, l_X4_36, in_lwg 238 rfl rfl, in_lwg 53 rfl rfl, fun j hj => (match j, hj with | 0, _ => rfl | 1, _ => rfl | 2, _ => rfl | 3, _ => rfl | 4, _ => rfl | 5, _ => rfl | 6, _ => rfl | k + 7, h => absurd h (by omega)), fun _ => rfl⟩
set_option maxRecDepth 20000 in
theorem l_L_10 : Cond.classLink RL 10 RX7 ∈ lwg := in_lwg 674 rfl rfl
set_option maxRecDepth 20000 in
theorem n_L_10 : NWok RL 10 7 28 [.int 0, .int 0, .null, .null, .null, .null, .null, .null, .null, .null, .null, .null, .null, .int 0, .null, .null, .null, .null, .null, .null, .int 0, .null, .null, .null, .null, .null, .null, .int 0] := ⟨_, _, _, cl_7, l_L_10, in_lwg 675 rfl rfl, in_lwg 54 rfl rfl, fun j hj => (match j, hj with | 0, _ => rfl | 1, _ => rfl | 2, _ => rfl | 3, _ => rfl | 4, _ => rfl | 5, _ => rfl | 6, _ => rfl | 7, _ => rfl | 8, _ => rfl | 9, _ => rfl | 10, _ => rfl | 11, _ => rfl | 12, _ => rfl | 13, _ => rfl | 14, _ => rfl | 15, _ => rfl | 16, _ => rfl | 17, _ => rfl | 18, _ => rfl | 19, _ => rfl | 20, _ => rfl | 21, _ => rfl | 22, _ => rfl | 23, _ => rfl | 24, _ => rfl | 25, _ => rfl | 26, _ => rfl | 27, _ => rfl | k + 28, h => absurd h (by omega)), fun _ => rfl⟩
set_option maxRecDepth 20000 in
theorem w_ai : Cond.arrayClass .int ∈ lwg := in_lwg 132 rfl rfl
set_option maxRecDepth 20000 in
theorem w_az : Cond.arrayClass .boolean ∈ lwg := in_lwg 764 rfl rfl
set_option maxRecDepth 20000 in
theorem o_X6_1 : Cond.methodLink RX6 1 Lib.objectInit ∈ lwg := in_lwg 63 rfl rfl
set_option maxRecDepth 20000 in
theorem o_inst : Cond.instanceMethod Lib.objectInit ∈ lwg := in_lwg 64 rfl rfl
set_option maxRecDepth 20000 in
theorem o_code : Cond.code Lib.objectInit ⟨#[0xb1]⟩ 1 none ∈ lwg := in_lwg 65 rfl rfl
set_option maxRecDepth 20000 in
theorem o_X2_3 : Cond.methodLink RX2 3 Lib.objectInit ∈ lwg := in_lwg 71 rfl rfl
set_option maxRecDepth 20000 in
theorem o_X3_3 : Cond.methodLink RX3 3 Lib.objectInit ∈ lwg := in_lwg 138 rfl rfl
set_option maxRecDepth 20000 in
theorem o_X5_3 : Cond.methodLink RX5 3 Lib.objectInit ∈ lwg := in_lwg 145 rfl rfl
set_option maxRecDepth 20000 in
theorem o_X1_3 : Cond.methodLink RX1 3 Lib.objectInit ∈ lwg := in_lwg 222 rfl rfl
set_option maxRecDepth 20000 in
theorem o_X4_3 : Cond.methodLink RX4 3 Lib.objectInit ∈ lwg := in_lwg 235 rfl rfl
set_option maxRecDepth 20000 in
theorem o_X0_3 : Cond.methodLink RX0 3 Lib.objectInit ∈ lwg := in_lwg 242 rfl rfl
set_option maxRecDepth 20000 in
theorem a_X0_67 : Cond.methodLink RX0 67 arraycopyName ∈ lwg := in_lwg 550 rfl rfl
set_option maxRecDepth 20000 in
theorem a_static : Cond.static arraycopyName ∈ lwg := in_lwg 551 rfl rfl
set_option maxRecDepth 20000 in
theorem a_native : Cond.native arraycopyName ∈ lwg := in_lwg 552 rfl rfl
set_option maxRecDepth 20000 in
theorem a_X4_121 : Cond.methodLink RX4 121 arraycopyName ∈ lwg := in_lwg 640 rfl rfl
set_option maxRecDepth 20000 in
theorem o_X7_1 : Cond.methodLink RX7 1 Lib.objectInit ∈ lwg := in_lwg 679 rfl rfl
set_option maxRecDepth 20000 in
theorem a_init : Cond.initialized "java/lang/System" ∈ lwg := in_lwg 56 rfl rfl
end
section
/-! THE PICTURE: the heap of the law, as a list of 69 cells: the class (0 to 44), the reference (45 to 68) -/
def upN (g : Nat → Nat) (i v : Nat) : Nat → Nat := fun a => if a = i then v else g a
theorem upN_same (g : Nat → Nat) (i v : Nat) : upN g i v i = v := if_pos rfl
theorem upN_ne {g : Nat → Nat} {i v a : Nat} (h : a ≠ i) : upN g i v a = g a := if_neg h
theorem upN_row (g : Nat → Nat) (j k : Nat) : va_up (fun j => some (16 + 2 * g j)) j (some (16 + 2 * k)) = fun q => some (16 + 2 * upN g j k q) := by
  funext q
  by_cases h : q = j
  · simp [va_up, upN, h]
  · simp [va_up, upN, h]
theorem bool_fit {v : Int32} (h : v = 0 ∨ v = 1) : narrow .boolean (.int v) = .int v ∧ fits .boolean (.int v) = true := by
  rcases h with rfl | rfl <;> exact ⟨by decide +kernel, by decide +kernel⟩
def up2 (g : Nat → Nat → Int32) (i j : Nat) (v : Int32) : Nat → Nat → Int32 := fun a => if a = i then upd (g i) j v else g a
theorem up2_same (g : Nat → Nat → Int32) (i j : Nat) (v : Int32) : up2 g i j v i = upd (g i) j v := if_pos rfl
theorem up2_ne {g : Nat → Nat → Int32} {i j a : Nat} {v : Int32} (h : a ≠ i) : up2 g i j v a = g a := if_neg h
theorem upd_same (f : Nat → Int32) (k : Nat) (v : Int32) : upd f k v k = v := if_pos rfl
theorem upd_ne {f : Nat → Int32} {k j : Nat} {v : Int32} (h : j ≠ k) : upd f k v j = f j := if_neg h
def HH (f ro rs : Nat → Nat → Int32) (rw rb : Nat → Nat) (m : Nat → Nat → Int32) : List AC := [
  .inl (6, [.ref 1, .ref 12, .ref 36, .ref 37]),
  .inl (2, [.ref 2, .ref 3, .ref 4, .ref 5, .ref 6, .ref 7, .ref 8, .ref 9, .ref 10, .ref 11, .int (f 1 10)]),
  .inr (0, 20, .inl (f 2)),
  .inr (0, 20, .inl (f 3)),
  .inr (0, 20, .inl (f 4)),
  .inr (0, 20, .inl (f 5)),
  .inr (0, 20, .inl (f 6)),
  .inr (0, 20, .inl (f 7)),
  .inr (0, 8, .inl (f 8)),
  .inr (0, 8, .inl (f 9)),
  .inr (0, 8, .inl (f 10)),
  .inr (0, 8, .inl (f 11)),
  .inl (3, [.ref 1, .ref 13, .ref 14, .ref 15, .int (f 12 4)]),
  .inr (2, 10, .inr (fun j => some (16 + 2 * rw j))),
  .inr (0, 8, .inl (f 14)),
  .inr (0, 8, .inl (f 15)),
  .inl (5, [.ref 17, .int (ro 0 1), .int (ro 0 2), .int (ro 0 3), .int (ro 0 4), .int (ro 0 5), .int (ro 0 6), .int (ro 0 7), .int (ro 0 8), .int (ro 0 9)]),
  .inr (0, 5, .inl (rs 0)),
  .inl (5, [.ref 19, .int (ro 1 1), .int (ro 1 2), .int (ro 1 3), .int (ro 1 4), .int (ro 1 5), .int (ro 1 6), .int (ro 1 7), .int (ro 1 8), .int (ro 1 9)]),
  .inr (0, 5, .inl (rs 1)),
  .inl (5, [.ref 21, .int (ro 2 1), .int (ro 2 2), .int (ro 2 3), .int (ro 2 4), .int (ro 2 5), .int (ro 2 6), .int (ro 2 7), .int (ro 2 8), .int (ro 2 9)]),
  .inr (0, 5, .inl (rs 2)),
  .inl (5, [.ref 23, .int (ro 3 1), .int (ro 3 2), .int (ro 3 3), .int (ro 3 4), .int (ro 3 5), .int (ro 3 6), .int (ro 3 7), .int (ro 3 8), .int (ro 3 9)]),
  .inr (0, 5, .inl (rs 3)),
  .inl (5, [.ref 25, .int (ro 4 1), .int (ro 4 2), .int (ro 4 3), .int (ro 4 4), .int (ro 4 5), .int (ro 4 6), .int (ro 4 7), .int (ro 4 8), .int (ro 4 9)]),
  .inr (0, 5, .inl (rs 4)),
  .inl (5, [.ref 27, .int (ro 5 1), .int (ro 5 2), .int (ro 5 3), .int (ro 5 4), .int (ro 5 5), .int (ro 5 6), .int (ro 5 7), .int (ro 5 8), .int (ro 5 9)]),
  .inr (0, 5, .inl (rs 5)),
  .inl (5, [.ref 29, .int (ro 6 1), .int (ro 6 2), .int (ro 6 3), .int (ro 6 4), .int (ro 6 5), .int (ro 6 6), .int (ro 6 7), .int (ro 6 8), .int (ro 6 9)]),
  .inr (0, 5, .inl (rs 6)),
  .inl (5, [.ref 31, .int (ro 7 1), .int (ro 7 2), .int (ro 7 3), .int (ro 7 4), .int (ro 7 5), .int (ro 7 6), .int (ro 7 7), .int (ro 7 8), .int (ro 7 9)]),
  .inr (0, 5, .inl (rs 7)),
  .inl (5, [.ref 33, .int (ro 8 1), .int (ro 8 2), .int (ro 8 3), .int (ro 8 4), .int (ro 8 5), .int (ro 8 6), .int (ro 8 7), .int (ro 8 8), .int (ro 8 9)]),
  .inr (0, 5, .inl (rs 8)),
  .inl (5, [.ref 35, .int (ro 9 1), .int (ro 9 2), .int (ro 9 3), .int (ro 9 4), .int (ro 9 5), .int (ro 9 6), .int (ro 9 7), .int (ro 9 8), .int (ro 9 9)]),
  .inr (0, 5, .inl (rs 9)),
  .inl (1, [.ref 1, .ref 12]),
  .inl (4, [.ref 1, .ref 12, .ref 36, .ref 41, .ref 38, .ref 39, .ref 40]),
  .inr (2, 8, .inr (fun j => some (16 + 2 * rb j))),
  .inr (0, 8, .inl (f 39)),
  .inr (0, 8, .inl (f 40)),
  .inl (0, [.ref 1, .ref 42, .ref 43, .ref 44, .int (f 41 4), .int (f 41 5), .int (f 41 6)]),
  .inr (0, 5, .inl (f 42)),
  .inr (0, 5, .inl (f 43)),
  .inr (0, 5, .inl (f 44)),
  .inl (7, [.int (m 0 0), .int (m 1 0), .ref 46, .ref 47, .ref 48, .ref 49, .ref 50, .ref 51, .ref 52, .ref 53, .ref 54, .ref 55, .ref 56, .int (m 13 0), .ref 57, .ref 58, .ref 59, .ref 60, .ref 61, .ref 62, .int (m 20 0), .ref 63, .ref 64, .ref 65, .ref 66, .ref 67, .ref 68, .int (m 27 0)]),
  .inr (0, 20, .inl (m 2)),
  .inr (0, 20, .inl (m 3)),
  .inr (0, 20, .inl (m 4)),
  .inr (1, 20, .inl (m 5)),
  .inr (0, 20, .inl (m 6)),
  .inr (0, 20, .inl (m 7)),
  .inr (0, 20, .inl (m 8)),
  .inr (0, 8, .inl (m 9)),
  .inr (0, 8, .inl (m 10)),
  .inr (0, 8, .inl (m 11)),
  .inr (0, 8, .inl (m 12)),
  .inr (0, 8, .inl (m 14)),
  .inr (0, 8, .inl (m 15)),
  .inr (0, 8, .inl (m 16)),
  .inr (0, 40, .inl (m 17)),
  .inr (0, 6, .inl (m 18)),
  .inr (0, 5, .inl (m 19)),
  .inr (0, 5, .inl (m 21)),
  .inr (0, 40, .inl (m 22)),
  .inr (0, 8, .inl (m 23)),
  .inr (0, 20, .inl (m 24)),
  .inr (0, 6, .inl (m 25)),
  .inr (0, 6, .inl (m 26))]
theorem HH_row {f ro rs : Nat → Nat → Int32} {rw rb : Nat → Nat} {m : Nat → Nat → Int32} : ∀ {k : Nat}, k < 10 → (HH f ro rs rw rb m)[16 + 2 * k]? = some (.inl (5, [.ref (17 + 2 * k), .int (ro k 1), .int (ro k 2), .int (ro k 3), .int (ro k 4), .int (ro k 5), .int (ro k 6), .int (ro k 7), .int (ro k 8), .int (ro k 9)]))
  | 0, _ => rfl
  | 1, _ => rfl
  | 2, _ => rfl
  | 3, _ => rfl
  | 4, _ => rfl
  | 5, _ => rfl
  | 6, _ => rfl
  | 7, _ => rfl
  | 8, _ => rfl
  | 9, _ => rfl
  | k + 10, h => absurd h (by omega)
theorem HH_rs {f ro rs : Nat → Nat → Int32} {rw rb : Nat → Nat} {m : Nat → Nat → Int32} : ∀ {k : Nat}, k < 10 → (HH f ro rs rw rb m)[17 + 2 * k]? = some (.inr (0, 5, .inl (rs k)))
  | 0, _ => rfl
  | 1, _ => rfl
  | 2, _ => rfl
  | 3, _ => rfl
  | 4, _ => rfl
  | 5, _ => rfl
  | 6, _ => rfl
  | 7, _ => rfl
  | 8, _ => rfl
  | 9, _ => rfl
  | k + 10, h => absurd h (by omega)
theorem HH_rs_set {f ro rs : Nat → Nat → Int32} {rw rb : Nat → Nat} {m : Nat → Nat → Int32} {j : Nat} {v : Int32} : ∀ {k : Nat}, k < 10 → (HH f ro rs rw rb m).set (17 + 2 * k) (.inr (0, 5, .inl (upd (rs k) j v))) = HH f ro (up2 rs k j v) rw rb m
  | 0, _ => rfl
  | 1, _ => rfl
  | 2, _ => rfl
  | 3, _ => rfl
  | 4, _ => rfl
  | 5, _ => rfl
  | 6, _ => rfl
  | 7, _ => rfl
  | 8, _ => rfl
  | 9, _ => rfl
  | k + 10, h => absurd h (by omega)
theorem HH_row_set1 {f ro rs : Nat → Nat → Int32} {rw rb : Nat → Nat} {m : Nat → Nat → Int32} {v : Int32} : ∀ {k : Nat}, k < 10 → (HH f ro rs rw rb m).set (16 + 2 * k) (.inl (5, [.ref (17 + 2 * k), .int v, .int (ro k 2), .int (ro k 3), .int (ro k 4), .int (ro k 5), .int (ro k 6), .int (ro k 7), .int (ro k 8), .int (ro k 9)])) = HH f (up2 ro k 1 v) rs rw rb m
  | 0, _ => rfl
  | 1, _ => rfl
  | 2, _ => rfl
  | 3, _ => rfl
  | 4, _ => rfl
  | 5, _ => rfl
  | 6, _ => rfl
  | 7, _ => rfl
  | 8, _ => rfl
  | 9, _ => rfl
  | k + 10, h => absurd h (by omega)
theorem HH_row_set2 {f ro rs : Nat → Nat → Int32} {rw rb : Nat → Nat} {m : Nat → Nat → Int32} {v : Int32} : ∀ {k : Nat}, k < 10 → (HH f ro rs rw rb m).set (16 + 2 * k) (.inl (5, [.ref (17 + 2 * k), .int (ro k 1), .int v, .int (ro k 3), .int (ro k 4), .int (ro k 5), .int (ro k 6), .int (ro k 7), .int (ro k 8), .int (ro k 9)])) = HH f (up2 ro k 2 v) rs rw rb m
  | 0, _ => rfl
  | 1, _ => rfl
  | 2, _ => rfl
  | 3, _ => rfl
  | 4, _ => rfl
  | 5, _ => rfl
  | 6, _ => rfl
  | 7, _ => rfl
  | 8, _ => rfl
  | 9, _ => rfl
  | k + 10, h => absurd h (by omega)
theorem HH_row_set3 {f ro rs : Nat → Nat → Int32} {rw rb : Nat → Nat} {m : Nat → Nat → Int32} {v : Int32} : ∀ {k : Nat}, k < 10 → (HH f ro rs rw rb m).set (16 + 2 * k) (.inl (5, [.ref (17 + 2 * k), .int (ro k 1), .int (ro k 2), .int v, .int (ro k 4), .int (ro k 5), .int (ro k 6), .int (ro k 7), .int (ro k 8), .int (ro k 9)])) = HH f (up2 ro k 3 v) rs rw rb m
  | 0, _ => rfl
  | 1, _ => rfl
  | 2, _ => rfl
  | 3, _ => rfl
  | 4, _ => rfl
  | 5, _ => rfl
  | 6, _ => rfl
  | 7, _ => rfl
  | 8, _ => rfl
  | 9, _ => rfl
  | k + 10, h => absurd h (by omega)
theorem HH_row_set4 {f ro rs : Nat → Nat → Int32} {rw rb : Nat → Nat} {m : Nat → Nat → Int32} {v : Int32} : ∀ {k : Nat}, k < 10 → (HH f ro rs rw rb m).set (16 + 2 * k) (.inl (5, [.ref (17 + 2 * k), .int (ro k 1), .int (ro k 2), .int (ro k 3), .int v, .int (ro k 5), .int (ro k 6), .int (ro k 7), .int (ro k 8), .int (ro k 9)])) = HH f (up2 ro k 4 v) rs rw rb m
  | 0, _ => rfl
  | 1, _ => rfl
  | 2, _ => rfl
  | 3, _ => rfl
  | 4, _ => rfl
  | 5, _ => rfl
  | 6, _ => rfl
  | 7, _ => rfl
  | 8, _ => rfl
  | 9, _ => rfl
  | k + 10, h => absurd h (by omega)
theorem HH_row_set5 {f ro rs : Nat → Nat → Int32} {rw rb : Nat → Nat} {m : Nat → Nat → Int32} {v : Int32} : ∀ {k : Nat}, k < 10 → (HH f ro rs rw rb m).set (16 + 2 * k) (.inl (5, [.ref (17 + 2 * k), .int (ro k 1), .int (ro k 2), .int (ro k 3), .int (ro k 4), .int v, .int (ro k 6), .int (ro k 7), .int (ro k 8), .int (ro k 9)])) = HH f (up2 ro k 5 v) rs rw rb m
  | 0, _ => rfl
  | 1, _ => rfl
  | 2, _ => rfl
  | 3, _ => rfl
  | 4, _ => rfl
  | 5, _ => rfl
  | 6, _ => rfl
  | 7, _ => rfl
  | 8, _ => rfl
  | 9, _ => rfl
  | k + 10, h => absurd h (by omega)
theorem HH_row_set6 {f ro rs : Nat → Nat → Int32} {rw rb : Nat → Nat} {m : Nat → Nat → Int32} {v : Int32} : ∀ {k : Nat}, k < 10 → (HH f ro rs rw rb m).set (16 + 2 * k) (.inl (5, [.ref (17 + 2 * k), .int (ro k 1), .int (ro k 2), .int (ro k 3), .int (ro k 4), .int (ro k 5), .int v, .int (ro k 7), .int (ro k 8), .int (ro k 9)])) = HH f (up2 ro k 6 v) rs rw rb m
  | 0, _ => rfl
  | 1, _ => rfl
  | 2, _ => rfl
  | 3, _ => rfl
  | 4, _ => rfl
  | 5, _ => rfl
  | 6, _ => rfl
  | 7, _ => rfl
  | 8, _ => rfl
  | 9, _ => rfl
  | k + 10, h => absurd h (by omega)
theorem HH_row_set7 {f ro rs : Nat → Nat → Int32} {rw rb : Nat → Nat} {m : Nat → Nat → Int32} {v : Int32} : ∀ {k : Nat}, k < 10 → (HH f ro rs rw rb m).set (16 + 2 * k) (.inl (5, [.ref (17 + 2 * k), .int (ro k 1), .int (ro k 2), .int (ro k 3), .int (ro k 4), .int (ro k 5), .int (ro k 6), .int v, .int (ro k 8), .int (ro k 9)])) = HH f (up2 ro k 7 v) rs rw rb m
  | 0, _ => rfl
  | 1, _ => rfl
  | 2, _ => rfl
  | 3, _ => rfl
  | 4, _ => rfl
  | 5, _ => rfl
  | 6, _ => rfl
  | 7, _ => rfl
  | 8, _ => rfl
  | 9, _ => rfl
  | k + 10, h => absurd h (by omega)
theorem HH_row_set8 {f ro rs : Nat → Nat → Int32} {rw rb : Nat → Nat} {m : Nat → Nat → Int32} {v : Int32} : ∀ {k : Nat}, k < 10 → (HH f ro rs rw rb m).set (16 + 2 * k) (.inl (5, [.ref (17 + 2 * k), .int (ro k 1), .int (ro k 2), .int (ro k 3), .int (ro k 4), .int (ro k 5), .int (ro k 6), .int (ro k 7), .int v, .int (ro k 9)])) = HH f (up2 ro k 8 v) rs rw rb m
  | 0, _ => rfl
  | 1, _ => rfl
  | 2, _ => rfl
  | 3, _ => rfl
  | 4, _ => rfl
  | 5, _ => rfl
  | 6, _ => rfl
  | 7, _ => rfl
  | 8, _ => rfl
  | 9, _ => rfl
  | k + 10, h => absurd h (by omega)
theorem HH_row_set9 {f ro rs : Nat → Nat → Int32} {rw rb : Nat → Nat} {m : Nat → Nat → Int32} {v : Int32} : ∀ {k : Nat}, k < 10 → (HH f ro rs rw rb m).set (16 + 2 * k) (.inl (5, [.ref (17 + 2 * k), .int (ro k 1), .int (ro k 2), .int (ro k 3), .int (ro k 4), .int (ro k 5), .int (ro k 6), .int (ro k 7), .int (ro k 8), .int v])) = HH f (up2 ro k 9 v) rs rw rb m
  | 0, _ => rfl
  | 1, _ => rfl
  | 2, _ => rfl
  | 3, _ => rfl
  | 4, _ => rfl
  | 5, _ => rfl
  | 6, _ => rfl
  | 7, _ => rfl
  | 8, _ => rfl
  | 9, _ => rfl
  | k + 10, h => absurd h (by omega)
section PICT
variable {M : MD} {d rc rs0 pc : Nat} {ls : List (Option Value)} {st : List Value} {Q : Option Value → List AC → Prop} {f ro rs : Nat → Nat → Int32} {rw rb : Nat → Nat} {m : Nat → Nat → Int32}
theorem V.gf0_0 {idx : Nat} (hd : decode M.2.1 pc = .ok (.getfield idx, 3)) (hf : FL M.2.2.2.2 idx 0 0) (kk : V M d rc rs0 (pc + 3) ls (.ref 1 :: st) (HH f ro rs rw rb m) Q) : V M d rc rs0 pc ls (.ref 41 :: st) (HH f ro rs rw rb m) Q := V.getf hd hf rfl rfl kk
theorem V.gf0_1 {idx : Nat} (hd : decode M.2.1 pc = .ok (.getfield idx, 3)) (hf : FL M.2.2.2.2 idx 0 1) (kk : V M d rc rs0 (pc + 3) ls (.ref 42 :: st) (HH f ro rs rw rb m) Q) : V M d rc rs0 pc ls (.ref 41 :: st) (HH f ro rs rw rb m) Q := V.getf hd hf rfl rfl kk
theorem V.gf0_2 {idx : Nat} (hd : decode M.2.1 pc = .ok (.getfield idx, 3)) (hf : FL M.2.2.2.2 idx 0 2) (kk : V M d rc rs0 (pc + 3) ls (.ref 43 :: st) (HH f ro rs rw rb m) Q) : V M d rc rs0 pc ls (.ref 41 :: st) (HH f ro rs rw rb m) Q := V.getf hd hf rfl rfl kk
theorem V.gf0_3 {idx : Nat} (hd : decode M.2.1 pc = .ok (.getfield idx, 3)) (hf : FL M.2.2.2.2 idx 0 3) (kk : V M d rc rs0 (pc + 3) ls (.ref 44 :: st) (HH f ro rs rw rb m) Q) : V M d rc rs0 pc ls (.ref 41 :: st) (HH f ro rs rw rb m) Q := V.getf hd hf rfl rfl kk
theorem V.gf0_4 {idx : Nat} (hd : decode M.2.1 pc = .ok (.getfield idx, 3)) (hf : FL M.2.2.2.2 idx 0 4) (kk : V M d rc rs0 (pc + 3) ls (.int (f 41 4) :: st) (HH f ro rs rw rb m) Q) : V M d rc rs0 pc ls (.ref 41 :: st) (HH f ro rs rw rb m) Q := V.getf hd hf rfl rfl kk
theorem V.pf0_4 {idx : Nat} {v : Int32} (hd : decode M.2.1 pc = .ok (.putfield idx, 3)) (hf : FP M idx 0 4 .int) (kk : V M d rc rs0 (pc + 3) ls st (HH (up2 f 41 4 v) ro rs rw rb m) Q) : V M d rc rs0 pc ls (.int v :: .ref 41 :: st) (HH f ro rs rw rb m) Q := V.putf hd hf rfl (Nat.le_of_ble_eq_true rfl) (fun _ => ⟨rfl, rfl⟩) kk
theorem V.gf0_5 {idx : Nat} (hd : decode M.2.1 pc = .ok (.getfield idx, 3)) (hf : FL M.2.2.2.2 idx 0 5) (kk : V M d rc rs0 (pc + 3) ls (.int (f 41 5) :: st) (HH f ro rs rw rb m) Q) : V M d rc rs0 pc ls (.ref 41 :: st) (HH f ro rs rw rb m) Q := V.getf hd hf rfl rfl kk
theorem V.pf0_5 {idx : Nat} {v : Int32} (hd : decode M.2.1 pc = .ok (.putfield idx, 3)) (hf : FP M idx 0 5 .int) (kk : V M d rc rs0 (pc + 3) ls st (HH (up2 f 41 5 v) ro rs rw rb m) Q) : V M d rc rs0 pc ls (.int v :: .ref 41 :: st) (HH f ro rs rw rb m) Q := V.putf hd hf rfl (Nat.le_of_ble_eq_true rfl) (fun _ => ⟨rfl, rfl⟩) kk
theorem V.gf0_6 {idx : Nat} (hd : decode M.2.1 pc = .ok (.getfield idx, 3)) (hf : FL M.2.2.2.2 idx 0 6) (kk : V M d rc rs0 (pc + 3) ls (.int (f 41 6) :: st) (HH f ro rs rw rb m) Q) : V M d rc rs0 pc ls (.ref 41 :: st) (HH f ro rs rw rb m) Q := V.getf hd hf rfl rfl kk
theorem V.pf0_6 {idx : Nat} {v : Int32} (hd : decode M.2.1 pc = .ok (.putfield idx, 3)) (hf : FP M idx 0 6 .int) (kk : V M d rc rs0 (pc + 3) ls st (HH (up2 f 41 6 v) ro rs rw rb m) Q) : V M d rc rs0 pc ls (.int v :: .ref 41 :: st) (HH f ro rs rw rb m) Q := V.putf hd hf rfl (Nat.le_of_ble_eq_true rfl) (fun _ => ⟨rfl, rfl⟩) kk
theorem V.gf1_0 {idx : Nat} (hd : decode M.2.1 pc = .ok (.getfield idx, 3)) (hf : FL M.2.2.2.2 idx 1 0) (kk : V M d rc rs0 (pc + 3) ls (.ref 1 :: st) (HH f ro rs rw rb m) Q) : V M d rc rs0 pc ls (.ref 36 :: st) (HH f ro rs rw rb m) Q := V.getf hd hf rfl rfl kk
theorem V.gf1_1 {idx : Nat} (hd : decode M.2.1 pc = .ok (.getfield idx, 3)) (hf : FL M.2.2.2.2 idx 1 1) (kk : V M d rc rs0 (pc + 3) ls (.ref 12 :: st) (HH f ro rs rw rb m) Q) : V M d rc rs0 pc ls (.ref 36 :: st) (HH f ro rs rw rb m) Q := V.getf hd hf rfl rfl kk
theorem V.gf2_0 {idx : Nat} (hd : decode M.2.1 pc = .ok (.getfield idx, 3)) (hf : FL M.2.2.2.2 idx 2 0) (kk : V M d rc rs0 (pc + 3) ls (.ref 2 :: st) (HH f ro rs rw rb m) Q) : V M d rc rs0 pc ls (.ref 1 :: st) (HH f ro rs rw rb m) Q := V.getf hd hf rfl rfl kk
theorem V.gf2_1 {idx : Nat} (hd : decode M.2.1 pc = .ok (.getfield idx, 3)) (hf : FL M.2.2.2.2 idx 2 1) (kk : V M d rc rs0 (pc + 3) ls (.ref 3 :: st) (HH f ro rs rw rb m) Q) : V M d rc rs0 pc ls (.ref 1 :: st) (HH f ro rs rw rb m) Q := V.getf hd hf rfl rfl kk
theorem V.gf2_2 {idx : Nat} (hd : decode M.2.1 pc = .ok (.getfield idx, 3)) (hf : FL M.2.2.2.2 idx 2 2) (kk : V M d rc rs0 (pc + 3) ls (.ref 4 :: st) (HH f ro rs rw rb m) Q) : V M d rc rs0 pc ls (.ref 1 :: st) (HH f ro rs rw rb m) Q := V.getf hd hf rfl rfl kk
theorem V.gf2_3 {idx : Nat} (hd : decode M.2.1 pc = .ok (.getfield idx, 3)) (hf : FL M.2.2.2.2 idx 2 3) (kk : V M d rc rs0 (pc + 3) ls (.ref 5 :: st) (HH f ro rs rw rb m) Q) : V M d rc rs0 pc ls (.ref 1 :: st) (HH f ro rs rw rb m) Q := V.getf hd hf rfl rfl kk
theorem V.gf2_4 {idx : Nat} (hd : decode M.2.1 pc = .ok (.getfield idx, 3)) (hf : FL M.2.2.2.2 idx 2 4) (kk : V M d rc rs0 (pc + 3) ls (.ref 6 :: st) (HH f ro rs rw rb m) Q) : V M d rc rs0 pc ls (.ref 1 :: st) (HH f ro rs rw rb m) Q := V.getf hd hf rfl rfl kk
theorem V.gf2_5 {idx : Nat} (hd : decode M.2.1 pc = .ok (.getfield idx, 3)) (hf : FL M.2.2.2.2 idx 2 5) (kk : V M d rc rs0 (pc + 3) ls (.ref 7 :: st) (HH f ro rs rw rb m) Q) : V M d rc rs0 pc ls (.ref 1 :: st) (HH f ro rs rw rb m) Q := V.getf hd hf rfl rfl kk
theorem V.gf2_6 {idx : Nat} (hd : decode M.2.1 pc = .ok (.getfield idx, 3)) (hf : FL M.2.2.2.2 idx 2 6) (kk : V M d rc rs0 (pc + 3) ls (.ref 8 :: st) (HH f ro rs rw rb m) Q) : V M d rc rs0 pc ls (.ref 1 :: st) (HH f ro rs rw rb m) Q := V.getf hd hf rfl rfl kk
theorem V.gf2_7 {idx : Nat} (hd : decode M.2.1 pc = .ok (.getfield idx, 3)) (hf : FL M.2.2.2.2 idx 2 7) (kk : V M d rc rs0 (pc + 3) ls (.ref 9 :: st) (HH f ro rs rw rb m) Q) : V M d rc rs0 pc ls (.ref 1 :: st) (HH f ro rs rw rb m) Q := V.getf hd hf rfl rfl kk
theorem V.gf2_8 {idx : Nat} (hd : decode M.2.1 pc = .ok (.getfield idx, 3)) (hf : FL M.2.2.2.2 idx 2 8) (kk : V M d rc rs0 (pc + 3) ls (.ref 10 :: st) (HH f ro rs rw rb m) Q) : V M d rc rs0 pc ls (.ref 1 :: st) (HH f ro rs rw rb m) Q := V.getf hd hf rfl rfl kk
theorem V.gf2_9 {idx : Nat} (hd : decode M.2.1 pc = .ok (.getfield idx, 3)) (hf : FL M.2.2.2.2 idx 2 9) (kk : V M d rc rs0 (pc + 3) ls (.ref 11 :: st) (HH f ro rs rw rb m) Q) : V M d rc rs0 pc ls (.ref 1 :: st) (HH f ro rs rw rb m) Q := V.getf hd hf rfl rfl kk
theorem V.gf2_10 {idx : Nat} (hd : decode M.2.1 pc = .ok (.getfield idx, 3)) (hf : FL M.2.2.2.2 idx 2 10) (kk : V M d rc rs0 (pc + 3) ls (.int (f 1 10) :: st) (HH f ro rs rw rb m) Q) : V M d rc rs0 pc ls (.ref 1 :: st) (HH f ro rs rw rb m) Q := V.getf hd hf rfl rfl kk
theorem V.pf2_10 {idx : Nat} {v : Int32} (hd : decode M.2.1 pc = .ok (.putfield idx, 3)) (hf : FP M idx 2 10 .int) (kk : V M d rc rs0 (pc + 3) ls st (HH (up2 f 1 10 v) ro rs rw rb m) Q) : V M d rc rs0 pc ls (.int v :: .ref 1 :: st) (HH f ro rs rw rb m) Q := V.putf hd hf rfl (Nat.le_of_ble_eq_true rfl) (fun _ => ⟨rfl, rfl⟩) kk
theorem V.gf3_0 {idx : Nat} (hd : decode M.2.1 pc = .ok (.getfield idx, 3)) (hf : FL M.2.2.2.2 idx 3 0) (kk : V M d rc rs0 (pc + 3) ls (.ref 1 :: st) (HH f ro rs rw rb m) Q) : V M d rc rs0 pc ls (.ref 12 :: st) (HH f ro rs rw rb m) Q := V.getf hd hf rfl rfl kk
theorem V.gf3_1 {idx : Nat} (hd : decode M.2.1 pc = .ok (.getfield idx, 3)) (hf : FL M.2.2.2.2 idx 3 1) (kk : V M d rc rs0 (pc + 3) ls (.ref 13 :: st) (HH f ro rs rw rb m) Q) : V M d rc rs0 pc ls (.ref 12 :: st) (HH f ro rs rw rb m) Q := V.getf hd hf rfl rfl kk
theorem V.gf3_2 {idx : Nat} (hd : decode M.2.1 pc = .ok (.getfield idx, 3)) (hf : FL M.2.2.2.2 idx 3 2) (kk : V M d rc rs0 (pc + 3) ls (.ref 14 :: st) (HH f ro rs rw rb m) Q) : V M d rc rs0 pc ls (.ref 12 :: st) (HH f ro rs rw rb m) Q := V.getf hd hf rfl rfl kk
theorem V.gf3_3 {idx : Nat} (hd : decode M.2.1 pc = .ok (.getfield idx, 3)) (hf : FL M.2.2.2.2 idx 3 3) (kk : V M d rc rs0 (pc + 3) ls (.ref 15 :: st) (HH f ro rs rw rb m) Q) : V M d rc rs0 pc ls (.ref 12 :: st) (HH f ro rs rw rb m) Q := V.getf hd hf rfl rfl kk
theorem V.gf3_4 {idx : Nat} (hd : decode M.2.1 pc = .ok (.getfield idx, 3)) (hf : FL M.2.2.2.2 idx 3 4) (kk : V M d rc rs0 (pc + 3) ls (.int (f 12 4) :: st) (HH f ro rs rw rb m) Q) : V M d rc rs0 pc ls (.ref 12 :: st) (HH f ro rs rw rb m) Q := V.getf hd hf rfl rfl kk
theorem V.pf3_4 {idx : Nat} {v : Int32} (hd : decode M.2.1 pc = .ok (.putfield idx, 3)) (hf : FP M idx 3 4 .int) (kk : V M d rc rs0 (pc + 3) ls st (HH (up2 f 12 4 v) ro rs rw rb m) Q) : V M d rc rs0 pc ls (.int v :: .ref 12 :: st) (HH f ro rs rw rb m) Q := V.putf hd hf rfl (Nat.le_of_ble_eq_true rfl) (fun _ => ⟨rfl, rfl⟩) kk
theorem V.gf4_0 {idx : Nat} (hd : decode M.2.1 pc = .ok (.getfield idx, 3)) (hf : FL M.2.2.2.2 idx 4 0) (kk : V M d rc rs0 (pc + 3) ls (.ref 1 :: st) (HH f ro rs rw rb m) Q) : V M d rc rs0 pc ls (.ref 37 :: st) (HH f ro rs rw rb m) Q := V.getf hd hf rfl rfl kk
theorem V.gf4_1 {idx : Nat} (hd : decode M.2.1 pc = .ok (.getfield idx, 3)) (hf : FL M.2.2.2.2 idx 4 1) (kk : V M d rc rs0 (pc + 3) ls (.ref 12 :: st) (HH f ro rs rw rb m) Q) : V M d rc rs0 pc ls (.ref 37 :: st) (HH f ro rs rw rb m) Q := V.getf hd hf rfl rfl kk
theorem V.gf4_2 {idx : Nat} (hd : decode M.2.1 pc = .ok (.getfield idx, 3)) (hf : FL M.2.2.2.2 idx 4 2) (kk : V M d rc rs0 (pc + 3) ls (.ref 36 :: st) (HH f ro rs rw rb m) Q) : V M d rc rs0 pc ls (.ref 37 :: st) (HH f ro rs rw rb m) Q := V.getf hd hf rfl rfl kk
theorem V.gf4_3 {idx : Nat} (hd : decode M.2.1 pc = .ok (.getfield idx, 3)) (hf : FL M.2.2.2.2 idx 4 3) (kk : V M d rc rs0 (pc + 3) ls (.ref 41 :: st) (HH f ro rs rw rb m) Q) : V M d rc rs0 pc ls (.ref 37 :: st) (HH f ro rs rw rb m) Q := V.getf hd hf rfl rfl kk
theorem V.gf4_4 {idx : Nat} (hd : decode M.2.1 pc = .ok (.getfield idx, 3)) (hf : FL M.2.2.2.2 idx 4 4) (kk : V M d rc rs0 (pc + 3) ls (.ref 38 :: st) (HH f ro rs rw rb m) Q) : V M d rc rs0 pc ls (.ref 37 :: st) (HH f ro rs rw rb m) Q := V.getf hd hf rfl rfl kk
theorem V.gf4_5 {idx : Nat} (hd : decode M.2.1 pc = .ok (.getfield idx, 3)) (hf : FL M.2.2.2.2 idx 4 5) (kk : V M d rc rs0 (pc + 3) ls (.ref 39 :: st) (HH f ro rs rw rb m) Q) : V M d rc rs0 pc ls (.ref 37 :: st) (HH f ro rs rw rb m) Q := V.getf hd hf rfl rfl kk
theorem V.gf4_6 {idx : Nat} (hd : decode M.2.1 pc = .ok (.getfield idx, 3)) (hf : FL M.2.2.2.2 idx 4 6) (kk : V M d rc rs0 (pc + 3) ls (.ref 40 :: st) (HH f ro rs rw rb m) Q) : V M d rc rs0 pc ls (.ref 37 :: st) (HH f ro rs rw rb m) Q := V.getf hd hf rfl rfl kk
theorem V.gf6_0 {idx : Nat} (hd : decode M.2.1 pc = .ok (.getfield idx, 3)) (hf : FL M.2.2.2.2 idx 6 0) (kk : V M d rc rs0 (pc + 3) ls (.ref 1 :: st) (HH f ro rs rw rb m) Q) : V M d rc rs0 pc ls (.ref 0 :: st) (HH f ro rs rw rb m) Q := V.getf hd hf rfl rfl kk
theorem V.gf6_1 {idx : Nat} (hd : decode M.2.1 pc = .ok (.getfield idx, 3)) (hf : FL M.2.2.2.2 idx 6 1) (kk : V M d rc rs0 (pc + 3) ls (.ref 12 :: st) (HH f ro rs rw rb m) Q) : V M d rc rs0 pc ls (.ref 0 :: st) (HH f ro rs rw rb m) Q := V.getf hd hf rfl rfl kk
theorem V.gf6_2 {idx : Nat} (hd : decode M.2.1 pc = .ok (.getfield idx, 3)) (hf : FL M.2.2.2.2 idx 6 2) (kk : V M d rc rs0 (pc + 3) ls (.ref 36 :: st) (HH f ro rs rw rb m) Q) : V M d rc rs0 pc ls (.ref 0 :: st) (HH f ro rs rw rb m) Q := V.getf hd hf rfl rfl kk
theorem V.gf6_3 {idx : Nat} (hd : decode M.2.1 pc = .ok (.getfield idx, 3)) (hf : FL M.2.2.2.2 idx 6 3) (kk : V M d rc rs0 (pc + 3) ls (.ref 37 :: st) (HH f ro rs rw rb m) Q) : V M d rc rs0 pc ls (.ref 0 :: st) (HH f ro rs rw rb m) Q := V.getf hd hf rfl rfl kk
theorem V.gf7_0 {idx : Nat} (hd : decode M.2.1 pc = .ok (.getfield idx, 3)) (hf : FL M.2.2.2.2 idx 7 0) (kk : V M d rc rs0 (pc + 3) ls (.int (m 0 0) :: st) (HH f ro rs rw rb m) Q) : V M d rc rs0 pc ls (.ref 45 :: st) (HH f ro rs rw rb m) Q := V.getf hd hf rfl rfl kk
theorem V.pf7_0 {idx : Nat} {v : Int32} (hd : decode M.2.1 pc = .ok (.putfield idx, 3)) (hf : FP M idx 7 0 .int) (kk : V M d rc rs0 (pc + 3) ls st (HH f ro rs rw rb (up2 m 0 0 v)) Q) : V M d rc rs0 pc ls (.int v :: .ref 45 :: st) (HH f ro rs rw rb m) Q := V.putf hd hf rfl (Nat.le_of_ble_eq_true rfl) (fun _ => ⟨rfl, rfl⟩) kk
theorem V.gf7_1 {idx : Nat} (hd : decode M.2.1 pc = .ok (.getfield idx, 3)) (hf : FL M.2.2.2.2 idx 7 1) (kk : V M d rc rs0 (pc + 3) ls (.int (m 1 0) :: st) (HH f ro rs rw rb m) Q) : V M d rc rs0 pc ls (.ref 45 :: st) (HH f ro rs rw rb m) Q := V.getf hd hf rfl rfl kk
theorem V.pf7_1 {idx : Nat} {v : Int32} (hd : decode M.2.1 pc = .ok (.putfield idx, 3)) (hf : FP M idx 7 1 .int) (kk : V M d rc rs0 (pc + 3) ls st (HH f ro rs rw rb (up2 m 1 0 v)) Q) : V M d rc rs0 pc ls (.int v :: .ref 45 :: st) (HH f ro rs rw rb m) Q := V.putf hd hf rfl (Nat.le_of_ble_eq_true rfl) (fun _ => ⟨rfl, rfl⟩) kk
theorem V.gf7_2 {idx : Nat} (hd : decode M.2.1 pc = .ok (.getfield idx, 3)) (hf : FL M.2.2.2.2 idx 7 2) (kk : V M d rc rs0 (pc + 3) ls (.ref 46 :: st) (HH f ro rs rw rb m) Q) : V M d rc rs0 pc ls (.ref 45 :: st) (HH f ro rs rw rb m) Q := V.getf hd hf rfl rfl kk
theorem V.gf7_3 {idx : Nat} (hd : decode M.2.1 pc = .ok (.getfield idx, 3)) (hf : FL M.2.2.2.2 idx 7 3) (kk : V M d rc rs0 (pc + 3) ls (.ref 47 :: st) (HH f ro rs rw rb m) Q) : V M d rc rs0 pc ls (.ref 45 :: st) (HH f ro rs rw rb m) Q := V.getf hd hf rfl rfl kk
theorem V.gf7_4 {idx : Nat} (hd : decode M.2.1 pc = .ok (.getfield idx, 3)) (hf : FL M.2.2.2.2 idx 7 4) (kk : V M d rc rs0 (pc + 3) ls (.ref 48 :: st) (HH f ro rs rw rb m) Q) : V M d rc rs0 pc ls (.ref 45 :: st) (HH f ro rs rw rb m) Q := V.getf hd hf rfl rfl kk
theorem V.gf7_5 {idx : Nat} (hd : decode M.2.1 pc = .ok (.getfield idx, 3)) (hf : FL M.2.2.2.2 idx 7 5) (kk : V M d rc rs0 (pc + 3) ls (.ref 49 :: st) (HH f ro rs rw rb m) Q) : V M d rc rs0 pc ls (.ref 45 :: st) (HH f ro rs rw rb m) Q := V.getf hd hf rfl rfl kk
theorem V.gf7_6 {idx : Nat} (hd : decode M.2.1 pc = .ok (.getfield idx, 3)) (hf : FL M.2.2.2.2 idx 7 6) (kk : V M d rc rs0 (pc + 3) ls (.ref 50 :: st) (HH f ro rs rw rb m) Q) : V M d rc rs0 pc ls (.ref 45 :: st) (HH f ro rs rw rb m) Q := V.getf hd hf rfl rfl kk
theorem V.gf7_7 {idx : Nat} (hd : decode M.2.1 pc = .ok (.getfield idx, 3)) (hf : FL M.2.2.2.2 idx 7 7) (kk : V M d rc rs0 (pc + 3) ls (.ref 51 :: st) (HH f ro rs rw rb m) Q) : V M d rc rs0 pc ls (.ref 45 :: st) (HH f ro rs rw rb m) Q := V.getf hd hf rfl rfl kk
theorem V.gf7_8 {idx : Nat} (hd : decode M.2.1 pc = .ok (.getfield idx, 3)) (hf : FL M.2.2.2.2 idx 7 8) (kk : V M d rc rs0 (pc + 3) ls (.ref 52 :: st) (HH f ro rs rw rb m) Q) : V M d rc rs0 pc ls (.ref 45 :: st) (HH f ro rs rw rb m) Q := V.getf hd hf rfl rfl kk
theorem V.gf7_9 {idx : Nat} (hd : decode M.2.1 pc = .ok (.getfield idx, 3)) (hf : FL M.2.2.2.2 idx 7 9) (kk : V M d rc rs0 (pc + 3) ls (.ref 53 :: st) (HH f ro rs rw rb m) Q) : V M d rc rs0 pc ls (.ref 45 :: st) (HH f ro rs rw rb m) Q := V.getf hd hf rfl rfl kk
theorem V.gf7_10 {idx : Nat} (hd : decode M.2.1 pc = .ok (.getfield idx, 3)) (hf : FL M.2.2.2.2 idx 7 10) (kk : V M d rc rs0 (pc + 3) ls (.ref 54 :: st) (HH f ro rs rw rb m) Q) : V M d rc rs0 pc ls (.ref 45 :: st) (HH f ro rs rw rb m) Q := V.getf hd hf rfl rfl kk
theorem V.gf7_11 {idx : Nat} (hd : decode M.2.1 pc = .ok (.getfield idx, 3)) (hf : FL M.2.2.2.2 idx 7 11) (kk : V M d rc rs0 (pc + 3) ls (.ref 55 :: st) (HH f ro rs rw rb m) Q) : V M d rc rs0 pc ls (.ref 45 :: st) (HH f ro rs rw rb m) Q := V.getf hd hf rfl rfl kk
theorem V.gf7_12 {idx : Nat} (hd : decode M.2.1 pc = .ok (.getfield idx, 3)) (hf : FL M.2.2.2.2 idx 7 12) (kk : V M d rc rs0 (pc + 3) ls (.ref 56 :: st) (HH f ro rs rw rb m) Q) : V M d rc rs0 pc ls (.ref 45 :: st) (HH f ro rs rw rb m) Q := V.getf hd hf rfl rfl kk
theorem V.gf7_13 {idx : Nat} (hd : decode M.2.1 pc = .ok (.getfield idx, 3)) (hf : FL M.2.2.2.2 idx 7 13) (kk : V M d rc rs0 (pc + 3) ls (.int (m 13 0) :: st) (HH f ro rs rw rb m) Q) : V M d rc rs0 pc ls (.ref 45 :: st) (HH f ro rs rw rb m) Q := V.getf hd hf rfl rfl kk
theorem V.pf7_13 {idx : Nat} {v : Int32} (hd : decode M.2.1 pc = .ok (.putfield idx, 3)) (hf : FP M idx 7 13 .int) (kk : V M d rc rs0 (pc + 3) ls st (HH f ro rs rw rb (up2 m 13 0 v)) Q) : V M d rc rs0 pc ls (.int v :: .ref 45 :: st) (HH f ro rs rw rb m) Q := V.putf hd hf rfl (Nat.le_of_ble_eq_true rfl) (fun _ => ⟨rfl, rfl⟩) kk
theorem V.gf7_14 {idx : Nat} (hd : decode M.2.1 pc = .ok (.getfield idx, 3)) (hf : FL M.2.2.2.2 idx 7 14) (kk : V M d rc rs0 (pc + 3) ls (.ref 57 :: st) (HH f ro rs rw rb m) Q) : V M d rc rs0 pc ls (.ref 45 :: st) (HH f ro rs rw rb m) Q := V.getf hd hf rfl rfl kk
theorem V.gf7_15 {idx : Nat} (hd : decode M.2.1 pc = .ok (.getfield idx, 3)) (hf : FL M.2.2.2.2 idx 7 15) (kk : V M d rc rs0 (pc + 3) ls (.ref 58 :: st) (HH f ro rs rw rb m) Q) : V M d rc rs0 pc ls (.ref 45 :: st) (HH f ro rs rw rb m) Q := V.getf hd hf rfl rfl kk
theorem V.gf7_16 {idx : Nat} (hd : decode M.2.1 pc = .ok (.getfield idx, 3)) (hf : FL M.2.2.2.2 idx 7 16) (kk : V M d rc rs0 (pc + 3) ls (.ref 59 :: st) (HH f ro rs rw rb m) Q) : V M d rc rs0 pc ls (.ref 45 :: st) (HH f ro rs rw rb m) Q := V.getf hd hf rfl rfl kk
theorem V.gf7_17 {idx : Nat} (hd : decode M.2.1 pc = .ok (.getfield idx, 3)) (hf : FL M.2.2.2.2 idx 7 17) (kk : V M d rc rs0 (pc + 3) ls (.ref 60 :: st) (HH f ro rs rw rb m) Q) : V M d rc rs0 pc ls (.ref 45 :: st) (HH f ro rs rw rb m) Q := V.getf hd hf rfl rfl kk
theorem V.gf7_18 {idx : Nat} (hd : decode M.2.1 pc = .ok (.getfield idx, 3)) (hf : FL M.2.2.2.2 idx 7 18) (kk : V M d rc rs0 (pc + 3) ls (.ref 61 :: st) (HH f ro rs rw rb m) Q) : V M d rc rs0 pc ls (.ref 45 :: st) (HH f ro rs rw rb m) Q := V.getf hd hf rfl rfl kk
theorem V.gf7_19 {idx : Nat} (hd : decode M.2.1 pc = .ok (.getfield idx, 3)) (hf : FL M.2.2.2.2 idx 7 19) (kk : V M d rc rs0 (pc + 3) ls (.ref 62 :: st) (HH f ro rs rw rb m) Q) : V M d rc rs0 pc ls (.ref 45 :: st) (HH f ro rs rw rb m) Q := V.getf hd hf rfl rfl kk
theorem V.gf7_20 {idx : Nat} (hd : decode M.2.1 pc = .ok (.getfield idx, 3)) (hf : FL M.2.2.2.2 idx 7 20) (kk : V M d rc rs0 (pc + 3) ls (.int (m 20 0) :: st) (HH f ro rs rw rb m) Q) : V M d rc rs0 pc ls (.ref 45 :: st) (HH f ro rs rw rb m) Q := V.getf hd hf rfl rfl kk
theorem V.pf7_20 {idx : Nat} {v : Int32} (hd : decode M.2.1 pc = .ok (.putfield idx, 3)) (hf : FP M idx 7 20 .int) (kk : V M d rc rs0 (pc + 3) ls st (HH f ro rs rw rb (up2 m 20 0 v)) Q) : V M d rc rs0 pc ls (.int v :: .ref 45 :: st) (HH f ro rs rw rb m) Q := V.putf hd hf rfl (Nat.le_of_ble_eq_true rfl) (fun _ => ⟨rfl, rfl⟩) kk
theorem V.gf7_21 {idx : Nat} (hd : decode M.2.1 pc = .ok (.getfield idx, 3)) (hf : FL M.2.2.2.2 idx 7 21) (kk : V M d rc rs0 (pc + 3) ls (.ref 63 :: st) (HH f ro rs rw rb m) Q) : V M d rc rs0 pc ls (.ref 45 :: st) (HH f ro rs rw rb m) Q := V.getf hd hf rfl rfl kk
theorem V.gf7_22 {idx : Nat} (hd : decode M.2.1 pc = .ok (.getfield idx, 3)) (hf : FL M.2.2.2.2 idx 7 22) (kk : V M d rc rs0 (pc + 3) ls (.ref 64 :: st) (HH f ro rs rw rb m) Q) : V M d rc rs0 pc ls (.ref 45 :: st) (HH f ro rs rw rb m) Q := V.getf hd hf rfl rfl kk
theorem V.gf7_23 {idx : Nat} (hd : decode M.2.1 pc = .ok (.getfield idx, 3)) (hf : FL M.2.2.2.2 idx 7 23) (kk : V M d rc rs0 (pc + 3) ls (.ref 65 :: st) (HH f ro rs rw rb m) Q) : V M d rc rs0 pc ls (.ref 45 :: st) (HH f ro rs rw rb m) Q := V.getf hd hf rfl rfl kk
theorem V.gf7_24 {idx : Nat} (hd : decode M.2.1 pc = .ok (.getfield idx, 3)) (hf : FL M.2.2.2.2 idx 7 24) (kk : V M d rc rs0 (pc + 3) ls (.ref 66 :: st) (HH f ro rs rw rb m) Q) : V M d rc rs0 pc ls (.ref 45 :: st) (HH f ro rs rw rb m) Q := V.getf hd hf rfl rfl kk
theorem V.gf7_25 {idx : Nat} (hd : decode M.2.1 pc = .ok (.getfield idx, 3)) (hf : FL M.2.2.2.2 idx 7 25) (kk : V M d rc rs0 (pc + 3) ls (.ref 67 :: st) (HH f ro rs rw rb m) Q) : V M d rc rs0 pc ls (.ref 45 :: st) (HH f ro rs rw rb m) Q := V.getf hd hf rfl rfl kk
theorem V.gf7_26 {idx : Nat} (hd : decode M.2.1 pc = .ok (.getfield idx, 3)) (hf : FL M.2.2.2.2 idx 7 26) (kk : V M d rc rs0 (pc + 3) ls (.ref 68 :: st) (HH f ro rs rw rb m) Q) : V M d rc rs0 pc ls (.ref 45 :: st) (HH f ro rs rw rb m) Q := V.getf hd hf rfl rfl kk
theorem V.gf7_27 {idx : Nat} (hd : decode M.2.1 pc = .ok (.getfield idx, 3)) (hf : FL M.2.2.2.2 idx 7 27) (kk : V M d rc rs0 (pc + 3) ls (.int (m 27 0) :: st) (HH f ro rs rw rb m) Q) : V M d rc rs0 pc ls (.ref 45 :: st) (HH f ro rs rw rb m) Q := V.getf hd hf rfl rfl kk
theorem V.pf7_27 {idx : Nat} {v : Int32} (hd : decode M.2.1 pc = .ok (.putfield idx, 3)) (hf : FP M idx 7 27 .int) (kk : V M d rc rs0 (pc + 3) ls st (HH f ro rs rw rb (up2 m 27 0 v)) Q) : V M d rc rs0 pc ls (.int v :: .ref 45 :: st) (HH f ro rs rw rb m) Q := V.putf hd hf rfl (Nat.le_of_ble_eq_true rfl) (fun _ => ⟨rfl, rfl⟩) kk
theorem V.gf5_0 {idx k : Nat} (hd : decode M.2.1 pc = .ok (.getfield idx, 3)) (hf : FL M.2.2.2.2 idx 5 0) (hk : k < 10) (kk : V M d rc rs0 (pc + 3) ls (.ref (17 + 2 * k) :: st) (HH f ro rs rw rb m) Q) : V M d rc rs0 pc ls (.ref (16 + 2 * k) :: st) (HH f ro rs rw rb m) Q := V.getf hd hf (HH_row hk) rfl kk
theorem V.gf5_1 {idx k : Nat} (hd : decode M.2.1 pc = .ok (.getfield idx, 3)) (hf : FL M.2.2.2.2 idx 5 1) (hk : k < 10) (kk : V M d rc rs0 (pc + 3) ls (.int (ro k 1) :: st) (HH f ro rs rw rb m) Q) : V M d rc rs0 pc ls (.ref (16 + 2 * k) :: st) (HH f ro rs rw rb m) Q := V.getf hd hf (HH_row hk) rfl kk
theorem V.pf5_1 {idx k : Nat} {v : Int32} (hd : decode M.2.1 pc = .ok (.putfield idx, 3)) (hf : FP M idx 5 1 .int) (hk : k < 10) (kk : V M d rc rs0 (pc + 3) ls st (HH f (up2 ro k 1 v) rs rw rb m) Q) : V M d rc rs0 pc ls (.int v :: .ref (16 + 2 * k) :: st) (HH f ro rs rw rb m) Q := V.putf hd hf (HH_row hk) (Nat.le_of_ble_eq_true rfl) (fun _ => ⟨rfl, rfl⟩) (V.eqh (HH_row_set1 hk) kk)
theorem V.gf5_2 {idx k : Nat} (hd : decode M.2.1 pc = .ok (.getfield idx, 3)) (hf : FL M.2.2.2.2 idx 5 2) (hk : k < 10) (kk : V M d rc rs0 (pc + 3) ls (.int (ro k 2) :: st) (HH f ro rs rw rb m) Q) : V M d rc rs0 pc ls (.ref (16 + 2 * k) :: st) (HH f ro rs rw rb m) Q := V.getf hd hf (HH_row hk) rfl kk
theorem V.pf5_2 {idx k : Nat} {v : Int32} (hd : decode M.2.1 pc = .ok (.putfield idx, 3)) (hf : FP M idx 5 2 .int) (hk : k < 10) (kk : V M d rc rs0 (pc + 3) ls st (HH f (up2 ro k 2 v) rs rw rb m) Q) : V M d rc rs0 pc ls (.int v :: .ref (16 + 2 * k) :: st) (HH f ro rs rw rb m) Q := V.putf hd hf (HH_row hk) (Nat.le_of_ble_eq_true rfl) (fun _ => ⟨rfl, rfl⟩) (V.eqh (HH_row_set2 hk) kk)
theorem V.gf5_3 {idx k : Nat} (hd : decode M.2.1 pc = .ok (.getfield idx, 3)) (hf : FL M.2.2.2.2 idx 5 3) (hk : k < 10) (kk : V M d rc rs0 (pc + 3) ls (.int (ro k 3) :: st) (HH f ro rs rw rb m) Q) : V M d rc rs0 pc ls (.ref (16 + 2 * k) :: st) (HH f ro rs rw rb m) Q := V.getf hd hf (HH_row hk) rfl kk
theorem V.pf5_3 {idx k : Nat} {v : Int32} (hd : decode M.2.1 pc = .ok (.putfield idx, 3)) (hf : FP M idx 5 3 .int) (hk : k < 10) (kk : V M d rc rs0 (pc + 3) ls st (HH f (up2 ro k 3 v) rs rw rb m) Q) : V M d rc rs0 pc ls (.int v :: .ref (16 + 2 * k) :: st) (HH f ro rs rw rb m) Q := V.putf hd hf (HH_row hk) (Nat.le_of_ble_eq_true rfl) (fun _ => ⟨rfl, rfl⟩) (V.eqh (HH_row_set3 hk) kk)
theorem V.gf5_4 {idx k : Nat} (hd : decode M.2.1 pc = .ok (.getfield idx, 3)) (hf : FL M.2.2.2.2 idx 5 4) (hk : k < 10) (kk : V M d rc rs0 (pc + 3) ls (.int (ro k 4) :: st) (HH f ro rs rw rb m) Q) : V M d rc rs0 pc ls (.ref (16 + 2 * k) :: st) (HH f ro rs rw rb m) Q := V.getf hd hf (HH_row hk) rfl kk
theorem V.pf5_4 {idx k : Nat} {v : Int32} (hd : decode M.2.1 pc = .ok (.putfield idx, 3)) (hf : FP M idx 5 4 .int) (hk : k < 10) (kk : V M d rc rs0 (pc + 3) ls st (HH f (up2 ro k 4 v) rs rw rb m) Q) : V M d rc rs0 pc ls (.int v :: .ref (16 + 2 * k) :: st) (HH f ro rs rw rb m) Q := V.putf hd hf (HH_row hk) (Nat.le_of_ble_eq_true rfl) (fun _ => ⟨rfl, rfl⟩) (V.eqh (HH_row_set4 hk) kk)
theorem V.gf5_5 {idx k : Nat} (hd : decode M.2.1 pc = .ok (.getfield idx, 3)) (hf : FL M.2.2.2.2 idx 5 5) (hk : k < 10) (kk : V M d rc rs0 (pc + 3) ls (.int (ro k 5) :: st) (HH f ro rs rw rb m) Q) : V M d rc rs0 pc ls (.ref (16 + 2 * k) :: st) (HH f ro rs rw rb m) Q := V.getf hd hf (HH_row hk) rfl kk
theorem V.pf5_5 {idx k : Nat} {v : Int32} (hd : decode M.2.1 pc = .ok (.putfield idx, 3)) (hf : FP M idx 5 5 .int) (hk : k < 10) (kk : V M d rc rs0 (pc + 3) ls st (HH f (up2 ro k 5 v) rs rw rb m) Q) : V M d rc rs0 pc ls (.int v :: .ref (16 + 2 * k) :: st) (HH f ro rs rw rb m) Q := V.putf hd hf (HH_row hk) (Nat.le_of_ble_eq_true rfl) (fun _ => ⟨rfl, rfl⟩) (V.eqh (HH_row_set5 hk) kk)
theorem V.gf5_6 {idx k : Nat} (hd : decode M.2.1 pc = .ok (.getfield idx, 3)) (hf : FL M.2.2.2.2 idx 5 6) (hk : k < 10) (kk : V M d rc rs0 (pc + 3) ls (.int (ro k 6) :: st) (HH f ro rs rw rb m) Q) : V M d rc rs0 pc ls (.ref (16 + 2 * k) :: st) (HH f ro rs rw rb m) Q := V.getf hd hf (HH_row hk) rfl kk
theorem V.pf5_6 {idx k : Nat} {v : Int32} (hd : decode M.2.1 pc = .ok (.putfield idx, 3)) (hf : FP M idx 5 6 .int) (hk : k < 10) (kk : V M d rc rs0 (pc + 3) ls st (HH f (up2 ro k 6 v) rs rw rb m) Q) : V M d rc rs0 pc ls (.int v :: .ref (16 + 2 * k) :: st) (HH f ro rs rw rb m) Q := V.putf hd hf (HH_row hk) (Nat.le_of_ble_eq_true rfl) (fun _ => ⟨rfl, rfl⟩) (V.eqh (HH_row_set6 hk) kk)
theorem V.gf5_7 {idx k : Nat} (hd : decode M.2.1 pc = .ok (.getfield idx, 3)) (hf : FL M.2.2.2.2 idx 5 7) (hk : k < 10) (kk : V M d rc rs0 (pc + 3) ls (.int (ro k 7) :: st) (HH f ro rs rw rb m) Q) : V M d rc rs0 pc ls (.ref (16 + 2 * k) :: st) (HH f ro rs rw rb m) Q := V.getf hd hf (HH_row hk) rfl kk
theorem V.pf5_7 {idx k : Nat} {v : Int32} (hd : decode M.2.1 pc = .ok (.putfield idx, 3)) (hf : FP M idx 5 7 .int) (hk : k < 10) (kk : V M d rc rs0 (pc + 3) ls st (HH f (up2 ro k 7 v) rs rw rb m) Q) : V M d rc rs0 pc ls (.int v :: .ref (16 + 2 * k) :: st) (HH f ro rs rw rb m) Q := V.putf hd hf (HH_row hk) (Nat.le_of_ble_eq_true rfl) (fun _ => ⟨rfl, rfl⟩) (V.eqh (HH_row_set7 hk) kk)
theorem V.gf5_8 {idx k : Nat} (hd : decode M.2.1 pc = .ok (.getfield idx, 3)) (hf : FL M.2.2.2.2 idx 5 8) (hk : k < 10) (kk : V M d rc rs0 (pc + 3) ls (.int (ro k 8) :: st) (HH f ro rs rw rb m) Q) : V M d rc rs0 pc ls (.ref (16 + 2 * k) :: st) (HH f ro rs rw rb m) Q := V.getf hd hf (HH_row hk) rfl kk
theorem V.pf5_8 {idx k : Nat} {v : Int32} (hd : decode M.2.1 pc = .ok (.putfield idx, 3)) (hf : FP M idx 5 8 .boolean) (hk : k < 10) (hv : v = 0 ∨ v = 1) (kk : V M d rc rs0 (pc + 3) ls st (HH f (up2 ro k 8 v) rs rw rb m) Q) : V M d rc rs0 pc ls (.int v :: .ref (16 + 2 * k) :: st) (HH f ro rs rw rb m) Q := V.putf hd hf (HH_row hk) (Nat.le_of_ble_eq_true rfl) (fun _ => bool_fit hv) (V.eqh (HH_row_set8 hk) kk)
theorem V.gf5_9 {idx k : Nat} (hd : decode M.2.1 pc = .ok (.getfield idx, 3)) (hf : FL M.2.2.2.2 idx 5 9) (hk : k < 10) (kk : V M d rc rs0 (pc + 3) ls (.int (ro k 9) :: st) (HH f ro rs rw rb m) Q) : V M d rc rs0 pc ls (.ref (16 + 2 * k) :: st) (HH f ro rs rw rb m) Q := V.getf hd hf (HH_row hk) rfl kk
theorem V.pf5_9 {idx k : Nat} {v : Int32} (hd : decode M.2.1 pc = .ok (.putfield idx, 3)) (hf : FP M idx 5 9 .boolean) (hk : k < 10) (hv : v = 0 ∨ v = 1) (kk : V M d rc rs0 (pc + 3) ls st (HH f (up2 ro k 9 v) rs rw rb m) Q) : V M d rc rs0 pc ls (.int v :: .ref (16 + 2 * k) :: st) (HH f ro rs rw rb m) Q := V.putf hd hf (HH_row hk) (Nat.le_of_ble_eq_true rfl) (fun _ => bool_fit hv) (V.eqh (HH_row_set9 hk) kk)
theorem V.ald_2 {x : Int32} {j : Nat} (hd : decode M.2.1 pc = .ok (.iaload, 1)) (hj : ix x j 20) (kk : V M d rc rs0 (pc + 1) ls (.int (f 2 j) :: st) (HH f ro rs rw rb m) Q) : V M d rc rs0 pc ls (.int x :: .ref 2 :: st) (HH f ro rs rw rb m) Q := V.iald hd rfl hj kk
theorem V.ast_2 {x v : Int32} {j : Nat} (hd : decode M.2.1 pc = .ok (.iastore, 1)) (hj : ix x j 20) (kk : V M d rc rs0 (pc + 1) ls st (HH (up2 f 2 j v) ro rs rw rb m) Q) : V M d rc rs0 pc ls (.int v :: .int x :: .ref 2 :: st) (HH f ro rs rw rb m) Q := V.iast hd rfl hj kk
theorem V.ald_3 {x : Int32} {j : Nat} (hd : decode M.2.1 pc = .ok (.iaload, 1)) (hj : ix x j 20) (kk : V M d rc rs0 (pc + 1) ls (.int (f 3 j) :: st) (HH f ro rs rw rb m) Q) : V M d rc rs0 pc ls (.int x :: .ref 3 :: st) (HH f ro rs rw rb m) Q := V.iald hd rfl hj kk
theorem V.ast_3 {x v : Int32} {j : Nat} (hd : decode M.2.1 pc = .ok (.iastore, 1)) (hj : ix x j 20) (kk : V M d rc rs0 (pc + 1) ls st (HH (up2 f 3 j v) ro rs rw rb m) Q) : V M d rc rs0 pc ls (.int v :: .int x :: .ref 3 :: st) (HH f ro rs rw rb m) Q := V.iast hd rfl hj kk
theorem V.ald_4 {x : Int32} {j : Nat} (hd : decode M.2.1 pc = .ok (.iaload, 1)) (hj : ix x j 20) (kk : V M d rc rs0 (pc + 1) ls (.int (f 4 j) :: st) (HH f ro rs rw rb m) Q) : V M d rc rs0 pc ls (.int x :: .ref 4 :: st) (HH f ro rs rw rb m) Q := V.iald hd rfl hj kk
theorem V.ast_4 {x v : Int32} {j : Nat} (hd : decode M.2.1 pc = .ok (.iastore, 1)) (hj : ix x j 20) (kk : V M d rc rs0 (pc + 1) ls st (HH (up2 f 4 j v) ro rs rw rb m) Q) : V M d rc rs0 pc ls (.int v :: .int x :: .ref 4 :: st) (HH f ro rs rw rb m) Q := V.iast hd rfl hj kk
theorem V.ald_5 {x : Int32} {j : Nat} (hd : decode M.2.1 pc = .ok (.iaload, 1)) (hj : ix x j 20) (kk : V M d rc rs0 (pc + 1) ls (.int (f 5 j) :: st) (HH f ro rs rw rb m) Q) : V M d rc rs0 pc ls (.int x :: .ref 5 :: st) (HH f ro rs rw rb m) Q := V.iald hd rfl hj kk
theorem V.ast_5 {x v : Int32} {j : Nat} (hd : decode M.2.1 pc = .ok (.iastore, 1)) (hj : ix x j 20) (kk : V M d rc rs0 (pc + 1) ls st (HH (up2 f 5 j v) ro rs rw rb m) Q) : V M d rc rs0 pc ls (.int v :: .int x :: .ref 5 :: st) (HH f ro rs rw rb m) Q := V.iast hd rfl hj kk
theorem V.ald_6 {x : Int32} {j : Nat} (hd : decode M.2.1 pc = .ok (.iaload, 1)) (hj : ix x j 20) (kk : V M d rc rs0 (pc + 1) ls (.int (f 6 j) :: st) (HH f ro rs rw rb m) Q) : V M d rc rs0 pc ls (.int x :: .ref 6 :: st) (HH f ro rs rw rb m) Q := V.iald hd rfl hj kk
theorem V.ast_6 {x v : Int32} {j : Nat} (hd : decode M.2.1 pc = .ok (.iastore, 1)) (hj : ix x j 20) (kk : V M d rc rs0 (pc + 1) ls st (HH (up2 f 6 j v) ro rs rw rb m) Q) : V M d rc rs0 pc ls (.int v :: .int x :: .ref 6 :: st) (HH f ro rs rw rb m) Q := V.iast hd rfl hj kk
theorem V.ald_7 {x : Int32} {j : Nat} (hd : decode M.2.1 pc = .ok (.iaload, 1)) (hj : ix x j 20) (kk : V M d rc rs0 (pc + 1) ls (.int (f 7 j) :: st) (HH f ro rs rw rb m) Q) : V M d rc rs0 pc ls (.int x :: .ref 7 :: st) (HH f ro rs rw rb m) Q := V.iald hd rfl hj kk
theorem V.ast_7 {x v : Int32} {j : Nat} (hd : decode M.2.1 pc = .ok (.iastore, 1)) (hj : ix x j 20) (kk : V M d rc rs0 (pc + 1) ls st (HH (up2 f 7 j v) ro rs rw rb m) Q) : V M d rc rs0 pc ls (.int v :: .int x :: .ref 7 :: st) (HH f ro rs rw rb m) Q := V.iast hd rfl hj kk
theorem V.ald_8 {x : Int32} {j : Nat} (hd : decode M.2.1 pc = .ok (.iaload, 1)) (hj : ix x j 8) (kk : V M d rc rs0 (pc + 1) ls (.int (f 8 j) :: st) (HH f ro rs rw rb m) Q) : V M d rc rs0 pc ls (.int x :: .ref 8 :: st) (HH f ro rs rw rb m) Q := V.iald hd rfl hj kk
theorem V.ast_8 {x v : Int32} {j : Nat} (hd : decode M.2.1 pc = .ok (.iastore, 1)) (hj : ix x j 8) (kk : V M d rc rs0 (pc + 1) ls st (HH (up2 f 8 j v) ro rs rw rb m) Q) : V M d rc rs0 pc ls (.int v :: .int x :: .ref 8 :: st) (HH f ro rs rw rb m) Q := V.iast hd rfl hj kk
theorem V.ald_9 {x : Int32} {j : Nat} (hd : decode M.2.1 pc = .ok (.iaload, 1)) (hj : ix x j 8) (kk : V M d rc rs0 (pc + 1) ls (.int (f 9 j) :: st) (HH f ro rs rw rb m) Q) : V M d rc rs0 pc ls (.int x :: .ref 9 :: st) (HH f ro rs rw rb m) Q := V.iald hd rfl hj kk
theorem V.ast_9 {x v : Int32} {j : Nat} (hd : decode M.2.1 pc = .ok (.iastore, 1)) (hj : ix x j 8) (kk : V M d rc rs0 (pc + 1) ls st (HH (up2 f 9 j v) ro rs rw rb m) Q) : V M d rc rs0 pc ls (.int v :: .int x :: .ref 9 :: st) (HH f ro rs rw rb m) Q := V.iast hd rfl hj kk
theorem V.ald_10 {x : Int32} {j : Nat} (hd : decode M.2.1 pc = .ok (.iaload, 1)) (hj : ix x j 8) (kk : V M d rc rs0 (pc + 1) ls (.int (f 10 j) :: st) (HH f ro rs rw rb m) Q) : V M d rc rs0 pc ls (.int x :: .ref 10 :: st) (HH f ro rs rw rb m) Q := V.iald hd rfl hj kk
theorem V.ast_10 {x v : Int32} {j : Nat} (hd : decode M.2.1 pc = .ok (.iastore, 1)) (hj : ix x j 8) (kk : V M d rc rs0 (pc + 1) ls st (HH (up2 f 10 j v) ro rs rw rb m) Q) : V M d rc rs0 pc ls (.int v :: .int x :: .ref 10 :: st) (HH f ro rs rw rb m) Q := V.iast hd rfl hj kk
theorem V.ald_11 {x : Int32} {j : Nat} (hd : decode M.2.1 pc = .ok (.iaload, 1)) (hj : ix x j 8) (kk : V M d rc rs0 (pc + 1) ls (.int (f 11 j) :: st) (HH f ro rs rw rb m) Q) : V M d rc rs0 pc ls (.int x :: .ref 11 :: st) (HH f ro rs rw rb m) Q := V.iald hd rfl hj kk
theorem V.ast_11 {x v : Int32} {j : Nat} (hd : decode M.2.1 pc = .ok (.iastore, 1)) (hj : ix x j 8) (kk : V M d rc rs0 (pc + 1) ls st (HH (up2 f 11 j v) ro rs rw rb m) Q) : V M d rc rs0 pc ls (.int v :: .int x :: .ref 11 :: st) (HH f ro rs rw rb m) Q := V.iast hd rfl hj kk
theorem V.ald_14 {x : Int32} {j : Nat} (hd : decode M.2.1 pc = .ok (.iaload, 1)) (hj : ix x j 8) (kk : V M d rc rs0 (pc + 1) ls (.int (f 14 j) :: st) (HH f ro rs rw rb m) Q) : V M d rc rs0 pc ls (.int x :: .ref 14 :: st) (HH f ro rs rw rb m) Q := V.iald hd rfl hj kk
theorem V.ast_14 {x v : Int32} {j : Nat} (hd : decode M.2.1 pc = .ok (.iastore, 1)) (hj : ix x j 8) (kk : V M d rc rs0 (pc + 1) ls st (HH (up2 f 14 j v) ro rs rw rb m) Q) : V M d rc rs0 pc ls (.int v :: .int x :: .ref 14 :: st) (HH f ro rs rw rb m) Q := V.iast hd rfl hj kk
theorem V.ald_15 {x : Int32} {j : Nat} (hd : decode M.2.1 pc = .ok (.iaload, 1)) (hj : ix x j 8) (kk : V M d rc rs0 (pc + 1) ls (.int (f 15 j) :: st) (HH f ro rs rw rb m) Q) : V M d rc rs0 pc ls (.int x :: .ref 15 :: st) (HH f ro rs rw rb m) Q := V.iald hd rfl hj kk
theorem V.ast_15 {x v : Int32} {j : Nat} (hd : decode M.2.1 pc = .ok (.iastore, 1)) (hj : ix x j 8) (kk : V M d rc rs0 (pc + 1) ls st (HH (up2 f 15 j v) ro rs rw rb m) Q) : V M d rc rs0 pc ls (.int v :: .int x :: .ref 15 :: st) (HH f ro rs rw rb m) Q := V.iast hd rfl hj kk
theorem V.ald_39 {x : Int32} {j : Nat} (hd : decode M.2.1 pc = .ok (.iaload, 1)) (hj : ix x j 8) (kk : V M d rc rs0 (pc + 1) ls (.int (f 39 j) :: st) (HH f ro rs rw rb m) Q) : V M d rc rs0 pc ls (.int x :: .ref 39 :: st) (HH f ro rs rw rb m) Q := V.iald hd rfl hj kk
theorem V.ast_39 {x v : Int32} {j : Nat} (hd : decode M.2.1 pc = .ok (.iastore, 1)) (hj : ix x j 8) (kk : V M d rc rs0 (pc + 1) ls st (HH (up2 f 39 j v) ro rs rw rb m) Q) : V M d rc rs0 pc ls (.int v :: .int x :: .ref 39 :: st) (HH f ro rs rw rb m) Q := V.iast hd rfl hj kk
theorem V.ald_40 {x : Int32} {j : Nat} (hd : decode M.2.1 pc = .ok (.iaload, 1)) (hj : ix x j 8) (kk : V M d rc rs0 (pc + 1) ls (.int (f 40 j) :: st) (HH f ro rs rw rb m) Q) : V M d rc rs0 pc ls (.int x :: .ref 40 :: st) (HH f ro rs rw rb m) Q := V.iald hd rfl hj kk
theorem V.ast_40 {x v : Int32} {j : Nat} (hd : decode M.2.1 pc = .ok (.iastore, 1)) (hj : ix x j 8) (kk : V M d rc rs0 (pc + 1) ls st (HH (up2 f 40 j v) ro rs rw rb m) Q) : V M d rc rs0 pc ls (.int v :: .int x :: .ref 40 :: st) (HH f ro rs rw rb m) Q := V.iast hd rfl hj kk
theorem V.ald_42 {x : Int32} {j : Nat} (hd : decode M.2.1 pc = .ok (.iaload, 1)) (hj : ix x j 5) (kk : V M d rc rs0 (pc + 1) ls (.int (f 42 j) :: st) (HH f ro rs rw rb m) Q) : V M d rc rs0 pc ls (.int x :: .ref 42 :: st) (HH f ro rs rw rb m) Q := V.iald hd rfl hj kk
theorem V.ast_42 {x v : Int32} {j : Nat} (hd : decode M.2.1 pc = .ok (.iastore, 1)) (hj : ix x j 5) (kk : V M d rc rs0 (pc + 1) ls st (HH (up2 f 42 j v) ro rs rw rb m) Q) : V M d rc rs0 pc ls (.int v :: .int x :: .ref 42 :: st) (HH f ro rs rw rb m) Q := V.iast hd rfl hj kk
theorem V.ald_43 {x : Int32} {j : Nat} (hd : decode M.2.1 pc = .ok (.iaload, 1)) (hj : ix x j 5) (kk : V M d rc rs0 (pc + 1) ls (.int (f 43 j) :: st) (HH f ro rs rw rb m) Q) : V M d rc rs0 pc ls (.int x :: .ref 43 :: st) (HH f ro rs rw rb m) Q := V.iald hd rfl hj kk
theorem V.ast_43 {x v : Int32} {j : Nat} (hd : decode M.2.1 pc = .ok (.iastore, 1)) (hj : ix x j 5) (kk : V M d rc rs0 (pc + 1) ls st (HH (up2 f 43 j v) ro rs rw rb m) Q) : V M d rc rs0 pc ls (.int v :: .int x :: .ref 43 :: st) (HH f ro rs rw rb m) Q := V.iast hd rfl hj kk
theorem V.ald_44 {x : Int32} {j : Nat} (hd : decode M.2.1 pc = .ok (.iaload, 1)) (hj : ix x j 5) (kk : V M d rc rs0 (pc + 1) ls (.int (f 44 j) :: st) (HH f ro rs rw rb m) Q) : V M d rc rs0 pc ls (.int x :: .ref 44 :: st) (HH f ro rs rw rb m) Q := V.iald hd rfl hj kk
theorem V.ast_44 {x v : Int32} {j : Nat} (hd : decode M.2.1 pc = .ok (.iastore, 1)) (hj : ix x j 5) (kk : V M d rc rs0 (pc + 1) ls st (HH (up2 f 44 j v) ro rs rw rb m) Q) : V M d rc rs0 pc ls (.int v :: .int x :: .ref 44 :: st) (HH f ro rs rw rb m) Q := V.iast hd rfl hj kk
theorem V.ald_46 {x : Int32} {j : Nat} (hd : decode M.2.1 pc = .ok (.iaload, 1)) (hj : ix x j 20) (kk : V M d rc rs0 (pc + 1) ls (.int (m 2 j) :: st) (HH f ro rs rw rb m) Q) : V M d rc rs0 pc ls (.int x :: .ref 46 :: st) (HH f ro rs rw rb m) Q := V.iald hd rfl hj kk
theorem V.ast_46 {x v : Int32} {j : Nat} (hd : decode M.2.1 pc = .ok (.iastore, 1)) (hj : ix x j 20) (kk : V M d rc rs0 (pc + 1) ls st (HH f ro rs rw rb (up2 m 2 j v)) Q) : V M d rc rs0 pc ls (.int v :: .int x :: .ref 46 :: st) (HH f ro rs rw rb m) Q := V.iast hd rfl hj kk
theorem V.ald_47 {x : Int32} {j : Nat} (hd : decode M.2.1 pc = .ok (.iaload, 1)) (hj : ix x j 20) (kk : V M d rc rs0 (pc + 1) ls (.int (m 3 j) :: st) (HH f ro rs rw rb m) Q) : V M d rc rs0 pc ls (.int x :: .ref 47 :: st) (HH f ro rs rw rb m) Q := V.iald hd rfl hj kk
theorem V.ast_47 {x v : Int32} {j : Nat} (hd : decode M.2.1 pc = .ok (.iastore, 1)) (hj : ix x j 20) (kk : V M d rc rs0 (pc + 1) ls st (HH f ro rs rw rb (up2 m 3 j v)) Q) : V M d rc rs0 pc ls (.int v :: .int x :: .ref 47 :: st) (HH f ro rs rw rb m) Q := V.iast hd rfl hj kk
theorem V.ald_48 {x : Int32} {j : Nat} (hd : decode M.2.1 pc = .ok (.iaload, 1)) (hj : ix x j 20) (kk : V M d rc rs0 (pc + 1) ls (.int (m 4 j) :: st) (HH f ro rs rw rb m) Q) : V M d rc rs0 pc ls (.int x :: .ref 48 :: st) (HH f ro rs rw rb m) Q := V.iald hd rfl hj kk
theorem V.ast_48 {x v : Int32} {j : Nat} (hd : decode M.2.1 pc = .ok (.iastore, 1)) (hj : ix x j 20) (kk : V M d rc rs0 (pc + 1) ls st (HH f ro rs rw rb (up2 m 4 j v)) Q) : V M d rc rs0 pc ls (.int v :: .int x :: .ref 48 :: st) (HH f ro rs rw rb m) Q := V.iast hd rfl hj kk
theorem V.ald_49 {x : Int32} {j : Nat} (hd : decode M.2.1 pc = .ok (.baload, 1)) (hj : ix x j 20) (kk : V M d rc rs0 (pc + 1) ls (.int (m 5 j) :: st) (HH f ro rs rw rb m) Q) : V M d rc rs0 pc ls (.int x :: .ref 49 :: st) (HH f ro rs rw rb m) Q := V.zald hd rfl hj kk
theorem V.ast_49 {x v : Int32} {j : Nat} (hd : decode M.2.1 pc = .ok (.bastore, 1)) (hj : ix x j 20) (hv : vp_nar .boolean v = v) (kk : V M d rc rs0 (pc + 1) ls st (HH f ro rs rw rb (up2 m 5 j v)) Q) : V M d rc rs0 pc ls (.int v :: .int x :: .ref 49 :: st) (HH f ro rs rw rb m) Q := V.zast hd rfl hj hv kk
theorem V.ald_50 {x : Int32} {j : Nat} (hd : decode M.2.1 pc = .ok (.iaload, 1)) (hj : ix x j 20) (kk : V M d rc rs0 (pc + 1) ls (.int (m 6 j) :: st) (HH f ro rs rw rb m) Q) : V M d rc rs0 pc ls (.int x :: .ref 50 :: st) (HH f ro rs rw rb m) Q := V.iald hd rfl hj kk
theorem V.ast_50 {x v : Int32} {j : Nat} (hd : decode M.2.1 pc = .ok (.iastore, 1)) (hj : ix x j 20) (kk : V M d rc rs0 (pc + 1) ls st (HH f ro rs rw rb (up2 m 6 j v)) Q) : V M d rc rs0 pc ls (.int v :: .int x :: .ref 50 :: st) (HH f ro rs rw rb m) Q := V.iast hd rfl hj kk
theorem V.ald_51 {x : Int32} {j : Nat} (hd : decode M.2.1 pc = .ok (.iaload, 1)) (hj : ix x j 20) (kk : V M d rc rs0 (pc + 1) ls (.int (m 7 j) :: st) (HH f ro rs rw rb m) Q) : V M d rc rs0 pc ls (.int x :: .ref 51 :: st) (HH f ro rs rw rb m) Q := V.iald hd rfl hj kk
theorem V.ast_51 {x v : Int32} {j : Nat} (hd : decode M.2.1 pc = .ok (.iastore, 1)) (hj : ix x j 20) (kk : V M d rc rs0 (pc + 1) ls st (HH f ro rs rw rb (up2 m 7 j v)) Q) : V M d rc rs0 pc ls (.int v :: .int x :: .ref 51 :: st) (HH f ro rs rw rb m) Q := V.iast hd rfl hj kk
theorem V.ald_52 {x : Int32} {j : Nat} (hd : decode M.2.1 pc = .ok (.iaload, 1)) (hj : ix x j 20) (kk : V M d rc rs0 (pc + 1) ls (.int (m 8 j) :: st) (HH f ro rs rw rb m) Q) : V M d rc rs0 pc ls (.int x :: .ref 52 :: st) (HH f ro rs rw rb m) Q := V.iald hd rfl hj kk
theorem V.ast_52 {x v : Int32} {j : Nat} (hd : decode M.2.1 pc = .ok (.iastore, 1)) (hj : ix x j 20) (kk : V M d rc rs0 (pc + 1) ls st (HH f ro rs rw rb (up2 m 8 j v)) Q) : V M d rc rs0 pc ls (.int v :: .int x :: .ref 52 :: st) (HH f ro rs rw rb m) Q := V.iast hd rfl hj kk
theorem V.ald_53 {x : Int32} {j : Nat} (hd : decode M.2.1 pc = .ok (.iaload, 1)) (hj : ix x j 8) (kk : V M d rc rs0 (pc + 1) ls (.int (m 9 j) :: st) (HH f ro rs rw rb m) Q) : V M d rc rs0 pc ls (.int x :: .ref 53 :: st) (HH f ro rs rw rb m) Q := V.iald hd rfl hj kk
theorem V.ast_53 {x v : Int32} {j : Nat} (hd : decode M.2.1 pc = .ok (.iastore, 1)) (hj : ix x j 8) (kk : V M d rc rs0 (pc + 1) ls st (HH f ro rs rw rb (up2 m 9 j v)) Q) : V M d rc rs0 pc ls (.int v :: .int x :: .ref 53 :: st) (HH f ro rs rw rb m) Q := V.iast hd rfl hj kk
theorem V.ald_54 {x : Int32} {j : Nat} (hd : decode M.2.1 pc = .ok (.iaload, 1)) (hj : ix x j 8) (kk : V M d rc rs0 (pc + 1) ls (.int (m 10 j) :: st) (HH f ro rs rw rb m) Q) : V M d rc rs0 pc ls (.int x :: .ref 54 :: st) (HH f ro rs rw rb m) Q := V.iald hd rfl hj kk
theorem V.ast_54 {x v : Int32} {j : Nat} (hd : decode M.2.1 pc = .ok (.iastore, 1)) (hj : ix x j 8) (kk : V M d rc rs0 (pc + 1) ls st (HH f ro rs rw rb (up2 m 10 j v)) Q) : V M d rc rs0 pc ls (.int v :: .int x :: .ref 54 :: st) (HH f ro rs rw rb m) Q := V.iast hd rfl hj kk
theorem V.ald_55 {x : Int32} {j : Nat} (hd : decode M.2.1 pc = .ok (.iaload, 1)) (hj : ix x j 8) (kk : V M d rc rs0 (pc + 1) ls (.int (m 11 j) :: st) (HH f ro rs rw rb m) Q) : V M d rc rs0 pc ls (.int x :: .ref 55 :: st) (HH f ro rs rw rb m) Q := V.iald hd rfl hj kk
theorem V.ast_55 {x v : Int32} {j : Nat} (hd : decode M.2.1 pc = .ok (.iastore, 1)) (hj : ix x j 8) (kk : V M d rc rs0 (pc + 1) ls st (HH f ro rs rw rb (up2 m 11 j v)) Q) : V M d rc rs0 pc ls (.int v :: .int x :: .ref 55 :: st) (HH f ro rs rw rb m) Q := V.iast hd rfl hj kk
theorem V.ald_56 {x : Int32} {j : Nat} (hd : decode M.2.1 pc = .ok (.iaload, 1)) (hj : ix x j 8) (kk : V M d rc rs0 (pc + 1) ls (.int (m 12 j) :: st) (HH f ro rs rw rb m) Q) : V M d rc rs0 pc ls (.int x :: .ref 56 :: st) (HH f ro rs rw rb m) Q := V.iald hd rfl hj kk
theorem V.ast_56 {x v : Int32} {j : Nat} (hd : decode M.2.1 pc = .ok (.iastore, 1)) (hj : ix x j 8) (kk : V M d rc rs0 (pc + 1) ls st (HH f ro rs rw rb (up2 m 12 j v)) Q) : V M d rc rs0 pc ls (.int v :: .int x :: .ref 56 :: st) (HH f ro rs rw rb m) Q := V.iast hd rfl hj kk
theorem V.ald_57 {x : Int32} {j : Nat} (hd : decode M.2.1 pc = .ok (.iaload, 1)) (hj : ix x j 8) (kk : V M d rc rs0 (pc + 1) ls (.int (m 14 j) :: st) (HH f ro rs rw rb m) Q) : V M d rc rs0 pc ls (.int x :: .ref 57 :: st) (HH f ro rs rw rb m) Q := V.iald hd rfl hj kk
theorem V.ast_57 {x v : Int32} {j : Nat} (hd : decode M.2.1 pc = .ok (.iastore, 1)) (hj : ix x j 8) (kk : V M d rc rs0 (pc + 1) ls st (HH f ro rs rw rb (up2 m 14 j v)) Q) : V M d rc rs0 pc ls (.int v :: .int x :: .ref 57 :: st) (HH f ro rs rw rb m) Q := V.iast hd rfl hj kk
theorem V.ald_58 {x : Int32} {j : Nat} (hd : decode M.2.1 pc = .ok (.iaload, 1)) (hj : ix x j 8) (kk : V M d rc rs0 (pc + 1) ls (.int (m 15 j) :: st) (HH f ro rs rw rb m) Q) : V M d rc rs0 pc ls (.int x :: .ref 58 :: st) (HH f ro rs rw rb m) Q := V.iald hd rfl hj kk
theorem V.ast_58 {x v : Int32} {j : Nat} (hd : decode M.2.1 pc = .ok (.iastore, 1)) (hj : ix x j 8) (kk : V M d rc rs0 (pc + 1) ls st (HH f ro rs rw rb (up2 m 15 j v)) Q) : V M d rc rs0 pc ls (.int v :: .int x :: .ref 58 :: st) (HH f ro rs rw rb m) Q := V.iast hd rfl hj kk
theorem V.ald_59 {x : Int32} {j : Nat} (hd : decode M.2.1 pc = .ok (.iaload, 1)) (hj : ix x j 8) (kk : V M d rc rs0 (pc + 1) ls (.int (m 16 j) :: st) (HH f ro rs rw rb m) Q) : V M d rc rs0 pc ls (.int x :: .ref 59 :: st) (HH f ro rs rw rb m) Q := V.iald hd rfl hj kk
theorem V.ast_59 {x v : Int32} {j : Nat} (hd : decode M.2.1 pc = .ok (.iastore, 1)) (hj : ix x j 8) (kk : V M d rc rs0 (pc + 1) ls st (HH f ro rs rw rb (up2 m 16 j v)) Q) : V M d rc rs0 pc ls (.int v :: .int x :: .ref 59 :: st) (HH f ro rs rw rb m) Q := V.iast hd rfl hj kk
theorem V.ald_60 {x : Int32} {j : Nat} (hd : decode M.2.1 pc = .ok (.iaload, 1)) (hj : ix x j 40) (kk : V M d rc rs0 (pc + 1) ls (.int (m 17 j) :: st) (HH f ro rs rw rb m) Q) : V M d rc rs0 pc ls (.int x :: .ref 60 :: st) (HH f ro rs rw rb m) Q := V.iald hd rfl hj kk
theorem V.ast_60 {x v : Int32} {j : Nat} (hd : decode M.2.1 pc = .ok (.iastore, 1)) (hj : ix x j 40) (kk : V M d rc rs0 (pc + 1) ls st (HH f ro rs rw rb (up2 m 17 j v)) Q) : V M d rc rs0 pc ls (.int v :: .int x :: .ref 60 :: st) (HH f ro rs rw rb m) Q := V.iast hd rfl hj kk
theorem V.ald_61 {x : Int32} {j : Nat} (hd : decode M.2.1 pc = .ok (.iaload, 1)) (hj : ix x j 6) (kk : V M d rc rs0 (pc + 1) ls (.int (m 18 j) :: st) (HH f ro rs rw rb m) Q) : V M d rc rs0 pc ls (.int x :: .ref 61 :: st) (HH f ro rs rw rb m) Q := V.iald hd rfl hj kk
theorem V.ast_61 {x v : Int32} {j : Nat} (hd : decode M.2.1 pc = .ok (.iastore, 1)) (hj : ix x j 6) (kk : V M d rc rs0 (pc + 1) ls st (HH f ro rs rw rb (up2 m 18 j v)) Q) : V M d rc rs0 pc ls (.int v :: .int x :: .ref 61 :: st) (HH f ro rs rw rb m) Q := V.iast hd rfl hj kk
theorem V.ald_62 {x : Int32} {j : Nat} (hd : decode M.2.1 pc = .ok (.iaload, 1)) (hj : ix x j 5) (kk : V M d rc rs0 (pc + 1) ls (.int (m 19 j) :: st) (HH f ro rs rw rb m) Q) : V M d rc rs0 pc ls (.int x :: .ref 62 :: st) (HH f ro rs rw rb m) Q := V.iald hd rfl hj kk
theorem V.ast_62 {x v : Int32} {j : Nat} (hd : decode M.2.1 pc = .ok (.iastore, 1)) (hj : ix x j 5) (kk : V M d rc rs0 (pc + 1) ls st (HH f ro rs rw rb (up2 m 19 j v)) Q) : V M d rc rs0 pc ls (.int v :: .int x :: .ref 62 :: st) (HH f ro rs rw rb m) Q := V.iast hd rfl hj kk
theorem V.ald_63 {x : Int32} {j : Nat} (hd : decode M.2.1 pc = .ok (.iaload, 1)) (hj : ix x j 5) (kk : V M d rc rs0 (pc + 1) ls (.int (m 21 j) :: st) (HH f ro rs rw rb m) Q) : V M d rc rs0 pc ls (.int x :: .ref 63 :: st) (HH f ro rs rw rb m) Q := V.iald hd rfl hj kk
theorem V.ast_63 {x v : Int32} {j : Nat} (hd : decode M.2.1 pc = .ok (.iastore, 1)) (hj : ix x j 5) (kk : V M d rc rs0 (pc + 1) ls st (HH f ro rs rw rb (up2 m 21 j v)) Q) : V M d rc rs0 pc ls (.int v :: .int x :: .ref 63 :: st) (HH f ro rs rw rb m) Q := V.iast hd rfl hj kk
theorem V.ald_64 {x : Int32} {j : Nat} (hd : decode M.2.1 pc = .ok (.iaload, 1)) (hj : ix x j 40) (kk : V M d rc rs0 (pc + 1) ls (.int (m 22 j) :: st) (HH f ro rs rw rb m) Q) : V M d rc rs0 pc ls (.int x :: .ref 64 :: st) (HH f ro rs rw rb m) Q := V.iald hd rfl hj kk
theorem V.ast_64 {x v : Int32} {j : Nat} (hd : decode M.2.1 pc = .ok (.iastore, 1)) (hj : ix x j 40) (kk : V M d rc rs0 (pc + 1) ls st (HH f ro rs rw rb (up2 m 22 j v)) Q) : V M d rc rs0 pc ls (.int v :: .int x :: .ref 64 :: st) (HH f ro rs rw rb m) Q := V.iast hd rfl hj kk
theorem V.ald_65 {x : Int32} {j : Nat} (hd : decode M.2.1 pc = .ok (.iaload, 1)) (hj : ix x j 8) (kk : V M d rc rs0 (pc + 1) ls (.int (m 23 j) :: st) (HH f ro rs rw rb m) Q) : V M d rc rs0 pc ls (.int x :: .ref 65 :: st) (HH f ro rs rw rb m) Q := V.iald hd rfl hj kk
theorem V.ast_65 {x v : Int32} {j : Nat} (hd : decode M.2.1 pc = .ok (.iastore, 1)) (hj : ix x j 8) (kk : V M d rc rs0 (pc + 1) ls st (HH f ro rs rw rb (up2 m 23 j v)) Q) : V M d rc rs0 pc ls (.int v :: .int x :: .ref 65 :: st) (HH f ro rs rw rb m) Q := V.iast hd rfl hj kk
theorem V.ald_66 {x : Int32} {j : Nat} (hd : decode M.2.1 pc = .ok (.iaload, 1)) (hj : ix x j 20) (kk : V M d rc rs0 (pc + 1) ls (.int (m 24 j) :: st) (HH f ro rs rw rb m) Q) : V M d rc rs0 pc ls (.int x :: .ref 66 :: st) (HH f ro rs rw rb m) Q := V.iald hd rfl hj kk
theorem V.ast_66 {x v : Int32} {j : Nat} (hd : decode M.2.1 pc = .ok (.iastore, 1)) (hj : ix x j 20) (kk : V M d rc rs0 (pc + 1) ls st (HH f ro rs rw rb (up2 m 24 j v)) Q) : V M d rc rs0 pc ls (.int v :: .int x :: .ref 66 :: st) (HH f ro rs rw rb m) Q := V.iast hd rfl hj kk
theorem V.ald_67 {x : Int32} {j : Nat} (hd : decode M.2.1 pc = .ok (.iaload, 1)) (hj : ix x j 6) (kk : V M d rc rs0 (pc + 1) ls (.int (m 25 j) :: st) (HH f ro rs rw rb m) Q) : V M d rc rs0 pc ls (.int x :: .ref 67 :: st) (HH f ro rs rw rb m) Q := V.iald hd rfl hj kk
theorem V.ast_67 {x v : Int32} {j : Nat} (hd : decode M.2.1 pc = .ok (.iastore, 1)) (hj : ix x j 6) (kk : V M d rc rs0 (pc + 1) ls st (HH f ro rs rw rb (up2 m 25 j v)) Q) : V M d rc rs0 pc ls (.int v :: .int x :: .ref 67 :: st) (HH f ro rs rw rb m) Q := V.iast hd rfl hj kk
theorem V.ald_68 {x : Int32} {j : Nat} (hd : decode M.2.1 pc = .ok (.iaload, 1)) (hj : ix x j 6) (kk : V M d rc rs0 (pc + 1) ls (.int (m 26 j) :: st) (HH f ro rs rw rb m) Q) : V M d rc rs0 pc ls (.int x :: .ref 68 :: st) (HH f ro rs rw rb m) Q := V.iald hd rfl hj kk
theorem V.ast_68 {x v : Int32} {j : Nat} (hd : decode M.2.1 pc = .ok (.iastore, 1)) (hj : ix x j 6) (kk : V M d rc rs0 (pc + 1) ls st (HH f ro rs rw rb (up2 m 26 j v)) Q) : V M d rc rs0 pc ls (.int v :: .int x :: .ref 68 :: st) (HH f ro rs rw rb m) Q := V.iast hd rfl hj kk
theorem V.ald_rs {x : Int32} {j k : Nat} (hd : decode M.2.1 pc = .ok (.iaload, 1)) (hk : k < 10) (hj : ix x j 5) (kk : V M d rc rs0 (pc + 1) ls (.int (rs k j) :: st) (HH f ro rs rw rb m) Q) : V M d rc rs0 pc ls (.int x :: .ref (17 + 2 * k) :: st) (HH f ro rs rw rb m) Q := V.iald hd (HH_rs hk) hj kk
theorem V.ast_rs {x v : Int32} {j k : Nat} (hd : decode M.2.1 pc = .ok (.iastore, 1)) (hk : k < 10) (hj : ix x j 5) (kk : V M d rc rs0 (pc + 1) ls st (HH f ro (up2 rs k j v) rw rb m) Q) : V M d rc rs0 pc ls (.int v :: .int x :: .ref (17 + 2 * k) :: st) (HH f ro rs rw rb m) Q := V.iast hd (HH_rs hk) hj (V.eqh (HH_rs_set hk) kk)
theorem V.ald_13 {x : Int32} {j : Nat} (hd : decode M.2.1 pc = .ok (.aaload, 1)) (hj : ix x j 10) (kk : V M d rc rs0 (pc + 1) ls (.ref (16 + 2 * rw j) :: st) (HH f ro rs rw rb m) Q) : V M d rc rs0 pc ls (.int x :: .ref 13 :: st) (HH f ro rs rw rb m) Q := V.aald hd rfl hj rfl kk
theorem V.ast_13 {x : Int32} {j k : Nat} (hd : decode M.2.1 pc = .ok (.aastore, 1)) (hk : k < 10) (hj : ix x j 10) (kk : V M d rc rs0 (pc + 1) ls st (HH f ro rs (upN rw j k) rb m) Q) : V M d rc rs0 pc ls (.ref (16 + 2 * k) :: .int x :: .ref 13 :: st) (HH f ro rs rw rb m) Q := V.aast hd rfl (HH_row hk) hj (V.eqh (by rw [upN_row]; rfl) kk)
theorem V.ald_38 {x : Int32} {j : Nat} (hd : decode M.2.1 pc = .ok (.aaload, 1)) (hj : ix x j 8) (kk : V M d rc rs0 (pc + 1) ls (.ref (16 + 2 * rb j) :: st) (HH f ro rs rw rb m) Q) : V M d rc rs0 pc ls (.int x :: .ref 38 :: st) (HH f ro rs rw rb m) Q := V.aald hd rfl hj rfl kk
theorem V.ast_38 {x : Int32} {j k : Nat} (hd : decode M.2.1 pc = .ok (.aastore, 1)) (hk : k < 10) (hj : ix x j 8) (kk : V M d rc rs0 (pc + 1) ls st (HH f ro rs rw (upN rb j k) m) Q) : V M d rc rs0 pc ls (.ref (16 + 2 * k) :: .int x :: .ref 38 :: st) (HH f ro rs rw rb m) Q := V.aast hd rfl (HH_row hk) hj (V.eqh (by rw [upN_row]; rfl) kk)
end PICT
end
section
/-! Rows over numbers n as nI n, calls with a known end, folds -/
def RI (x : Int32) (h : List AC) : Option Value → List AC → Prop := fun r h' => r = some (.int x) ∧ h' = h
def RV (h : List AC) : Option Value → List AC → Prop := fun r h' => r = none ∧ h' = h
def fo {α : Type} (f : Nat → α → α) (z : α) : Nat → α
  | 0 => z
  | k + 1 => f k (fo f z k)
theorem fo_congr {α : Type} {f g : Nat → α → α} {z : α} : ∀ {n : Nat}, (∀ k, k < n → ∀ a, f k a = g k a) → fo f z n = fo g z n
  | 0, _ => rfl
  | n + 1, h => by
    show f n (fo f z n) = g n (fo g z n)
    rw [fo_congr (fun k hk a => h k (Nat.lt_succ_of_lt hk) a), h n (Nat.lt_succ_self n)]
theorem nI_0' : nI 0 = 0 := nI_0
section RULES
variable {M : MD} {d rc rs pc : Nat} {ls : List (Option Value)} {st : List Value} {h : List AC} {Q : Option Value → List AC → Prop}
theorem V.istn {k : Fin 4} (i : Nat) {x : Int32} (hd : decode M.2.1 pc = .ok (.istore_n k, 1)) (hi : (k : Nat) = i) (hk : i < ls.length) (kk : V M d rc rs (pc + 1) (ls.set i (some (.int x))) st h Q) : V M d rc rs pc ls (.int x :: st) h Q := by
  subst hi; exact V.istore_n hd hk kk
theorem V.astn {k : Fin 4} (i : Nat) {x : Nat} (hd : decode M.2.1 pc = .ok (.astore_n k, 1)) (hi : (k : Nat) = i) (hk : i < ls.length) (kk : V M d rc rs (pc + 1) (ls.set i (some (.ref x))) st h Q) : V M d rc rs pc ls (.ref x :: st) h Q := by
  subst hi; exact V.astore_n hd hk kk
theorem V.ildn {k : Fin 4} (i : Nat) {x : Int32} (hd : decode M.2.1 pc = .ok (.iload_n k, 1)) (hi : (k : Nat) = i) (hl : ls[i]? = some (some (.int x))) (kk : V M d rc rs (pc + 1) ls (.int x :: st) h Q) : V M d rc rs pc ls st h Q := by
  subst hi; exact V.iload_n hd hl kk
theorem V.aldn {k : Fin 4} (i : Nat) {x : Nat} (hd : decode M.2.1 pc = .ok (.aload_n k, 1)) (hi : (k : Nat) = i) (hl : ls[i]? = some (some (.ref x))) (kk : V M d rc rs (pc + 1) ls (.ref x :: st) h Q) : V M d rc rs pc ls st h Q := by
  subst hi; exact V.aload_n hd hl kk
theorem V.ldcw {idx : Nat} {v : Int32} (hd : decode M.2.1 pc = .ok (.ldc_w idx, 3)) (hw : Cond.constant M.2.2.2.2 idx v ∈ lwg) (kk : V M d rc rs (pc + 3) ls (.int v :: st) h Q) : V M d rc rs pc ls st h Q :=
  fun p l e R s m args below meth c b G H locs cells slots arr hC hW hL h1 h2 => lv_ldcw hC.1 hC.2.1 hC.2.2.2.2.1 (hC.2.2.2.2.2.1 _ (List.mem_cons_of_mem _ hw)) hd (kk p l e R s m args below meth c b G H locs cells slots arr hC hW hL h1 h2)
theorem V.top {x y : Int32} (e : x = y) (kk : V M d rc rs pc ls (.int y :: st) h Q) : V M d rc rs pc ls (.int x :: st) h Q := by rw [e]; exact kk
theorem V.topr {x y : Nat} (e : x = y) (kk : V M d rc rs pc ls (.ref y :: st) h Q) : V M d rc rs pc ls (.ref x :: st) h Q := by rw [e]; exact kk
theorem V.iaddN {a b : Nat} (hd : decode M.2.1 pc = .ok (.iadd, 1)) (k : V M d rc rs (pc + 1) ls (.int (nI (a + b)) :: st) h Q) : V M d rc rs pc ls (.int (nI b) :: .int (nI a) :: st) h Q := V.iadd hd (V.top (nI_add a b) k)
theorem V.imulN {a b : Nat} (hd : decode M.2.1 pc = .ok (.imul, 1)) (k : V M d rc rs (pc + 1) ls (.int (nI (a * b)) :: st) h Q) : V M d rc rs pc ls (.int (nI b) :: .int (nI a) :: st) h Q := V.imul hd (V.top (pk_mul a b) k)
theorem V.isubN {a b : Nat} (hd : decode M.2.1 pc = .ok (.isub, 1)) (hle : b ≤ a) (k : V M d rc rs (pc + 1) ls (.int (nI (a - b)) :: st) h Q) : V M d rc rs pc ls (.int (nI b) :: .int (nI a) :: st) h Q := V.isub hd (V.top (pk_sub hle) k)
theorem V.iincN {i a : Nat} (hd : decode M.2.1 pc = .ok (.iinc i 1, 3)) (hl : ls[i]? = some (some (.int (nI a)))) (kk : V M d rc rs (pc + 3) (ls.set i (some (.int (nI (a + 1))))) st h Q) : V M d rc rs pc ls st h Q := V.iinc hd hl (v := nI (a + 1)) (by rw [← nI_1]; rfl) kk
theorem V.idecN {i a : Nat} (hd : decode M.2.1 pc = .ok (.iinc i (-1), 3)) (hl : ls[i]? = some (some (.int (nI (a + 1))))) (kk : V M d rc rs (pc + 3) (ls.set i (some (.int (nI a)))) st h Q) : V M d rc rs pc ls st h Q := V.iinc hd hl (v := nI a) (by rw [show Int32.ofInt (-1) = (-1 : Int32) by decide +kernel]; exact pk_m1 a) kk
theorem V.icmp_eqN {a b : Nat} {off : Int} (tgt : Nat) (hd : decode M.2.1 pc = .ok (.if_icmp .eq off, 3)) (ht : (pc : Int) + off = (tgt : Int)) (ha : a < 2 ^ 31) (hb : b < 2 ^ 31) (kt : a = b → V M d rc rs tgt ls st h Q) (kf : ¬ a = b → V M d rc rs (pc + 3) ls st h Q) : V M d rc rs pc ls (.int (nI b) :: .int (nI a) :: st) h Q := V.icmp_eq tgt hd ht (fun c => kt ((nI_eq ha hb).mp c)) (fun c => kf (fun q => c ((nI_eq ha hb).mpr q)))
theorem V.icmp_neN {a b : Nat} {off : Int} (tgt : Nat) (hd : decode M.2.1 pc = .ok (.if_icmp .ne off, 3)) (ht : (pc : Int) + off = (tgt : Int)) (ha : a < 2 ^ 31) (hb : b < 2 ^ 31) (kt : ¬ a = b → V M d rc rs tgt ls st h Q) (kf : a = b → V M d rc rs (pc + 3) ls st h Q) : V M d rc rs pc ls (.int (nI b) :: .int (nI a) :: st) h Q := V.icmp_ne tgt hd ht (fun c => kt (fun q => c ((nI_eq ha hb).mpr q))) (fun c => kf ((nI_eq ha hb).mp c))
theorem V.icmp_ltN {a b : Nat} {off : Int} (tgt : Nat) (hd : decode M.2.1 pc = .ok (.if_icmp .lt off, 3)) (ht : (pc : Int) + off = (tgt : Int)) (ha : a < 2 ^ 31) (hb : b < 2 ^ 31) (kt : a < b → V M d rc rs tgt ls st h Q) (kf : b ≤ a → V M d rc rs (pc + 3) ls st h Q) : V M d rc rs pc ls (.int (nI b) :: .int (nI a) :: st) h Q := V.icmp_lt tgt hd ht (fun c => kt ((nI_ltI ha hb).mp c)) (fun c => kf (Nat.not_lt.mp (fun q => c ((nI_ltI ha hb).mpr q))))
theorem V.icmp_geN {a b : Nat} {off : Int} (tgt : Nat) (hd : decode M.2.1 pc = .ok (.if_icmp .ge off, 3)) (ht : (pc : Int) + off = (tgt : Int)) (ha : a < 2 ^ 31) (hb : b < 2 ^ 31) (kt : b ≤ a → V M d rc rs tgt ls st h Q) (kf : a < b → V M d rc rs (pc + 3) ls st h Q) : V M d rc rs pc ls (.int (nI b) :: .int (nI a) :: st) h Q := V.icmp_ge tgt hd ht (fun c => kt ((nI_leI hb ha).mp c)) (fun c => kf (Nat.not_le.mp (fun q => c ((nI_leI hb ha).mpr q))))
theorem V.icmp_gtN {a b : Nat} {off : Int} (tgt : Nat) (hd : decode M.2.1 pc = .ok (.if_icmp .gt off, 3)) (ht : (pc : Int) + off = (tgt : Int)) (ha : a < 2 ^ 31) (hb : b < 2 ^ 31) (kt : b < a → V M d rc rs tgt ls st h Q) (kf : a ≤ b → V M d rc rs (pc + 3) ls st h Q) : V M d rc rs pc ls (.int (nI b) :: .int (nI a) :: st) h Q := V.icmp_gt tgt hd ht (fun c => kt ((nI_ltI hb ha).mp c)) (fun c => kf (Nat.not_lt.mp (fun q => c ((nI_ltI hb ha).mpr q))))
theorem V.icmp_leN {a b : Nat} {off : Int} (tgt : Nat) (hd : decode M.2.1 pc = .ok (.if_icmp .le off, 3)) (ht : (pc : Int) + off = (tgt : Int)) (ha : a < 2 ^ 31) (hb : b < 2 ^ 31) (kt : a ≤ b → V M d rc rs tgt ls st h Q) (kf : b < a → V M d rc rs (pc + 3) ls st h Q) : V M d rc rs pc ls (.int (nI b) :: .int (nI a) :: st) h Q := V.icmp_le tgt hd ht (fun c => kt ((nI_leI ha hb).mp c)) (fun c => kf (Nat.not_le.mp (fun q => c ((nI_leI ha hb).mpr q))))
theorem V.if_eqN {a : Nat} {off : Int} (tgt : Nat) (hd : decode M.2.1 pc = .ok (.ifCond .eq off, 3)) (ht : (pc : Int) + off = (tgt : Int)) (ha : a < 2 ^ 31) (kt : a = 0 → V M d rc rs tgt ls st h Q) (kf : ¬ a = 0 → V M d rc rs (pc + 3) ls st h Q) : V M d rc rs pc ls (.int (nI a) :: st) h Q := V.if_eq tgt hd ht (fun c => kt ((nI_eq ha (by decide)).mp (by rw [c]; exact nI_0.symm))) (fun c => kf (fun q => c (by rw [q]; exact nI_0)))
theorem V.if_neN {a : Nat} {off : Int} (tgt : Nat) (hd : decode M.2.1 pc = .ok (.ifCond .ne off, 3)) (ht : (pc : Int) + off = (tgt : Int)) (ha : a < 2 ^ 31) (kt : ¬ a = 0 → V M d rc rs tgt ls st h Q) (kf : a = 0 → V M d rc rs (pc + 3) ls st h Q) : V M d rc rs pc ls (.int (nI a) :: st) h Q := V.if_ne tgt hd ht (fun c => kt (fun q => c (by rw [q]; exact nI_0))) (fun c => kf ((nI_eq ha (by decide)).mp (by rw [c]; exact nI_0.symm)))
theorem V.if_leN {a : Nat} {off : Int} (tgt : Nat) (hd : decode M.2.1 pc = .ok (.ifCond .le off, 3)) (ht : (pc : Int) + off = (tgt : Int)) (ha : a < 2 ^ 31) (kt : a = 0 → V M d rc rs tgt ls st h Q) (kf : 0 < a → V M d rc rs (pc + 3) ls st h Q) : V M d rc rs pc ls (.int (nI a) :: st) h Q := V.if_le tgt hd ht (fun c => kt (by rw [← nI_0] at c; have := (nI_leI ha (by decide)).mp c; omega)) (fun c => kf (by rcases Nat.eq_zero_or_pos a with q | q; exact absurd (by rw [q, nI_0]; exact Int32.le_refl _) c; exact q))
theorem V.if_gtN {a : Nat} {off : Int} (tgt : Nat) (hd : decode M.2.1 pc = .ok (.ifCond .gt off, 3)) (ht : (pc : Int) + off = (tgt : Int)) (ha : a < 2 ^ 31) (kt : 0 < a → V M d rc rs tgt ls st h Q) (kf : a = 0 → V M d rc rs (pc + 3) ls st h Q) : V M d rc rs pc ls (.int (nI a) :: st) h Q := V.if_gt tgt hd ht (fun c => kt (by rw [← nI_0] at c; exact (nI_ltI (by decide) ha).mp c)) (fun c => kf (by rcases Nat.eq_zero_or_pos a with q | q; exact q; exact absurd (by rw [← nI_0]; exact (nI_ltI (by decide) ha).mpr q) c))
theorem V.if_ltN {a : Nat} {off : Int} (tgt : Nat) (hd : decode M.2.1 pc = .ok (.ifCond .lt off, 3)) (ht : (pc : Int) + off = (tgt : Int)) (ha : a < 2 ^ 31) (k : V M d rc rs (pc + 3) ls st h Q) : V M d rc rs pc ls (.int (nI a) :: st) h Q := V.if_lt tgt hd ht (fun c => absurd c (nI_pos ha)) (fun _ => k)
theorem V.if_geN {a : Nat} {off : Int} (tgt : Nat) (hd : decode M.2.1 pc = .ok (.ifCond .ge off, 3)) (ht : (pc : Int) + off = (tgt : Int)) (ha : a < 2 ^ 31) (k : V M d rc rs tgt ls st h Q) : V M d rc rs pc ls (.int (nI a) :: st) h Q := V.if_ge tgt hd ht (fun _ => k) (fun c => absurd (nI_pos' ha) c)
theorem V.cVi {idx ci n i d' : Nat} {M' : MD} {As st0 fs : List Value} {x : Int32} {h' : List AC} (hM : Mt d' 0 0 M' (.ref i :: As) h (RI x h')) (hd : decode M.2.1 pc = .ok (.invokevirtual idx, 3)) (hw : CVok M.2.2.2.2 idx M' ci n) (hn : As.length = n) (hst : st0 = As.reverse ++ .ref i :: st) (hr : h[i]? = some (.inl (ci, fs))) (hs : (st.map fun v => v.category).sum ≤ 8) (hdp : d = d' + 1)
    (kk : V M d rc rs (pc + 3) ls (.int x :: st) h' Q) : V M d rc rs pc ls st0 h Q :=
  V.callV (nc := 0) (ns := 0) hd hw hr hn hst hs (by omega) hM (fun r h2 q => by obtain ⟨rfl, rfl⟩ := q; exact kk)
theorem V.cVv {idx ci n i d' : Nat} {M' : MD} {As st0 fs : List Value} {h' : List AC} (hM : Mt d' 0 0 M' (.ref i :: As) h (RV h')) (hd : decode M.2.1 pc = .ok (.invokevirtual idx, 3)) (hw : CVok M.2.2.2.2 idx M' ci n) (hn : As.length = n) (hst : st0 = As.reverse ++ .ref i :: st) (hr : h[i]? = some (.inl (ci, fs))) (hs : (st.map fun v => v.category).sum ≤ 8) (hdp : d = d' + 1)
    (kk : V M d rc rs (pc + 3) ls st h' Q) : V M d rc rs pc ls st0 h Q :=
  V.callV (nc := 0) (ns := 0) hd hw hr hn hst hs (by omega) hM (fun r h2 q => by obtain ⟨rfl, rfl⟩ := q; exact kk)
theorem V.cVe {idx ci n i d' : Nat} {M' : MD} {As st0 fs : List Value} {Q' : Option Value → List AC → Prop} (hM : Mt d' 0 0 M' (.ref i :: As) h Q') (hd : decode M.2.1 pc = .ok (.invokevirtual idx, 3)) (hw : CVok M.2.2.2.2 idx M' ci n) (hn : As.length = n) (hst : st0 = As.reverse ++ .ref i :: st) (hr : h[i]? = some (.inl (ci, fs))) (hs : (st.map fun v => v.category).sum ≤ 8) (hdp : d = d' + 1)
    (kk : ∀ (r : Option Value) (h' : List AC), Q' r h' → V M d rc rs (pc + 3) ls (r.toList ++ st) h' Q) : V M d rc rs pc ls st0 h Q :=
  V.callV (nc := 0) (ns := 0) hd hw hr hn hst hs (by omega) hM kk
theorem V.cSi {idx n d' : Nat} {M' : MD} {As st0 : List Value} {x : Int32} {h' : List AC} (hM : Mt d' 0 0 M' As h (RI x h')) (hd : decode M.2.1 pc = .ok (.invokestatic idx, 3)) (hw : CSok M.2.2.2.2 idx M' n) (hn : As.length = n) (hst : st0 = As.reverse ++ st) (hs : (st.map fun v => v.category).sum ≤ 8) (hdp : d = d' + 1)
    (kk : V M d rc rs (pc + 3) ls (.int x :: st) h' Q) : V M d rc rs pc ls st0 h Q :=
  V.callS (nc := 0) (ns := 0) hd hw hn hst hs (by omega) hM (fun r h2 q => by obtain ⟨rfl, rfl⟩ := q; exact kk)
end RULES
theorem Mt.dep {d d' nc ns : Nat} {M : MD} {av : List Value} {h : List AC} {Q : Option Value → List AC → Prop} (hM : Mt d nc ns M av h Q) (e : d = d') : Mt d' nc ns M av h Q := by rw [← e]; exact hM
end
section
set_option maxRecDepth 20000 in
theorem fp_X2_9 {M : MD} (h : M.2.2.2.2 = RX2) (hn : M.1.name = "<init>") : FP M 9 2 0 (.array .int) := ⟨_, _, _, _, cl_2, by decide, by rw [h]; exact in_lwg 72 rfl rfl, rfl, Or.inr ⟨rfl, hn, h.symm⟩⟩
set_option maxRecDepth 20000 in
theorem fp_X2_15 {M : MD} (h : M.2.2.2.2 = RX2) (hn : M.1.name = "<init>") : FP M 15 2 1 (.array .int) := ⟨_, _, _, _, cl_2, by decide, by rw [h]; exact in_lwg 76 rfl rfl, rfl, Or.inr ⟨rfl, hn, h.symm⟩⟩
set_option maxRecDepth 20000 in
theorem fp_X2_18 {M : MD} (h : M.2.2.2.2 = RX2) (hn : M.1.name = "<init>") : FP M 18 2 2 (.array .int) := ⟨_, _, _, _, cl_2, by decide, by rw [h]; exact in_lwg 79 rfl rfl, rfl, Or.inr ⟨rfl, hn, h.symm⟩⟩
set_option maxRecDepth 20000 in
theorem fp_X2_21 {M : MD} (h : M.2.2.2.2 = RX2) (hn : M.1.name = "<init>") : FP M 21 2 3 (.array .int) := ⟨_, _, _, _, cl_2, by decide, by rw [h]; exact in_lwg 82 rfl rfl, rfl, Or.inr ⟨rfl, hn, h.symm⟩⟩
set_option maxRecDepth 20000 in
theorem fp_X2_24 {M : MD} (h : M.2.2.2.2 = RX2) (hn : M.1.name = "<init>") : FP M 24 2 4 (.array .int) := ⟨_, _, _, _, cl_2, by decide, by rw [h]; exact in_lwg 85 rfl rfl, rfl, Or.inr ⟨rfl, hn, h.symm⟩⟩
set_option maxRecDepth 20000 in
theorem fp_X2_27 {M : MD} (h : M.2.2.2.2 = RX2) (hn : M.1.name = "<init>") : FP M 27 2 5 (.array .int) := ⟨_, _, _, _, cl_2, by decide, by rw [h]; exact in_lwg 89 rfl rfl, rfl, Or.inr ⟨rfl, hn, h.symm⟩⟩
set_option maxRecDepth 20000 in
theorem fp_X2_30 {M : MD} (h : M.2.2.2.2 = RX2) (hn : M.1.name = "<init>") : FP M 30 2 6 (.array .int) := ⟨_, _, _, _, cl_2, by decide, by rw [h]; exact in_lwg 93 rfl rfl, rfl, Or.inr ⟨rfl, hn, h.symm⟩⟩
set_option maxRecDepth 20000 in
theorem fp_X2_33 {M : MD} (h : M.2.2.2.2 = RX2) (hn : M.1.name = "<init>") : FP M 33 2 7 (.array .int) := ⟨_, _, _, _, cl_2, by decide, by rw [h]; exact in_lwg 96 rfl rfl, rfl, Or.inr ⟨rfl, hn, h.symm⟩⟩
set_option maxRecDepth 20000 in
theorem fp_X2_36 {M : MD} (h : M.2.2.2.2 = RX2) (hn : M.1.name = "<init>") : FP M 36 2 8 (.array .int) := ⟨_, _, _, _, cl_2, by decide, by rw [h]; exact in_lwg 99 rfl rfl, rfl, Or.inr ⟨rfl, hn, h.symm⟩⟩
set_option maxRecDepth 20000 in
theorem fp_X2_39 {M : MD} (h : M.2.2.2.2 = RX2) (hn : M.1.name = "<init>") : FP M 39 2 9 (.array .int) := ⟨_, _, _, _, cl_2, by decide, by rw [h]; exact in_lwg 102 rfl rfl, rfl, Or.inr ⟨rfl, hn, h.symm⟩⟩
set_option maxRecDepth 20000 in
theorem fp_X2_42 {M : MD} (h : M.2.2.2.2 = RX2) : FP M 42 2 10 .int := ⟨_, _, _, _, cl_2, by decide, by rw [h]; exact in_lwg 104 rfl rfl, rfl, Or.inl rfl⟩
set_option maxRecDepth 20000 in
theorem fp_X0_58 {M : MD} (h : M.2.2.2.2 = RX0) : FP M 58 2 10 .int := ⟨_, _, _, _, cl_2, by decide, by rw [h]; exact in_lwg 105 rfl rfl, rfl, Or.inl rfl⟩
set_option maxRecDepth 20000 in
theorem fp_X4_95 {M : MD} (h : M.2.2.2.2 = RX4) : FP M 95 2 10 .int := ⟨_, _, _, _, cl_2, by decide, by rw [h]; exact in_lwg 106 rfl rfl, rfl, Or.inl rfl⟩
set_option maxRecDepth 20000 in
theorem fp_X1_88 {M : MD} (h : M.2.2.2.2 = RX1) : FP M 88 2 10 .int := ⟨_, _, _, _, cl_2, by decide, by rw [h]; exact in_lwg 107 rfl rfl, rfl, Or.inl rfl⟩
set_option maxRecDepth 20000 in
theorem fp_X6_225 {M : MD} (h : M.2.2.2.2 = RX6) : FP M 225 2 10 .int := ⟨_, _, _, _, cl_2, by decide, by rw [h]; exact in_lwg 108 rfl rfl, rfl, Or.inl rfl⟩
set_option maxRecDepth 20000 in
theorem fp_X5_9 {M : MD} (h : M.2.2.2.2 = RX5) (hn : M.1.name = "<init>") : FP M 9 5 0 (.array .int) := ⟨_, _, _, _, cl_5, by decide, by rw [h]; exact in_lwg 146 rfl rfl, rfl, Or.inr ⟨rfl, hn, h.symm⟩⟩
set_option maxRecDepth 20000 in
theorem fp_X5_19 {M : MD} (h : M.2.2.2.2 = RX5) : FP M 19 5 1 .int := ⟨_, _, _, _, cl_5, by decide, by rw [h]; exact in_lwg 149 rfl rfl, rfl, Or.inl rfl⟩
set_option maxRecDepth 20000 in
theorem fp_X4_76 {M : MD} (h : M.2.2.2.2 = RX4) : FP M 76 5 1 .int := ⟨_, _, _, _, cl_5, by decide, by rw [h]; exact in_lwg 150 rfl rfl, rfl, Or.inl rfl⟩
set_option maxRecDepth 20000 in
theorem fp_X3_65 {M : MD} (h : M.2.2.2.2 = RX3) : FP M 65 5 1 .int := ⟨_, _, _, _, cl_5, by decide, by rw [h]; exact in_lwg 151 rfl rfl, rfl, Or.inl rfl⟩
set_option maxRecDepth 20000 in
theorem fp_X6_132 {M : MD} (h : M.2.2.2.2 = RX6) : FP M 132 5 1 .int := ⟨_, _, _, _, cl_5, by decide, by rw [h]; exact in_lwg 152 rfl rfl, rfl, Or.inl rfl⟩
set_option maxRecDepth 20000 in
theorem fp_X4_54 {M : MD} (h : M.2.2.2.2 = RX4) : FP M 54 5 2 .int := ⟨_, _, _, _, cl_5, by decide, by rw [h]; exact in_lwg 153 rfl rfl, rfl, Or.inl rfl⟩
set_option maxRecDepth 20000 in
theorem fp_X3_51 {M : MD} (h : M.2.2.2.2 = RX3) : FP M 51 5 2 .int := ⟨_, _, _, _, cl_5, by decide, by rw [h]; exact in_lwg 154 rfl rfl, rfl, Or.inl rfl⟩
set_option maxRecDepth 20000 in
theorem fp_X5_43 {M : MD} (h : M.2.2.2.2 = RX5) : FP M 43 5 2 .int := ⟨_, _, _, _, cl_5, by decide, by rw [h]; exact in_lwg 155 rfl rfl, rfl, Or.inl rfl⟩
set_option maxRecDepth 20000 in
theorem fp_X3_48 {M : MD} (h : M.2.2.2.2 = RX3) : FP M 48 5 3 .int := ⟨_, _, _, _, cl_5, by decide, by rw [h]; exact in_lwg 156 rfl rfl, rfl, Or.inl rfl⟩
set_option maxRecDepth 20000 in
theorem fp_X5_46 {M : MD} (h : M.2.2.2.2 = RX5) : FP M 46 5 3 .int := ⟨_, _, _, _, cl_5, by decide, by rw [h]; exact in_lwg 157 rfl rfl, rfl, Or.inl rfl⟩
set_option maxRecDepth 20000 in
theorem fp_X5_30 {M : MD} (h : M.2.2.2.2 = RX5) : FP M 30 5 4 .int := ⟨_, _, _, _, cl_5, by decide, by rw [h]; exact in_lwg 158 rfl rfl, rfl, Or.inl rfl⟩
set_option maxRecDepth 20000 in
theorem fp_X6_136 {M : MD} (h : M.2.2.2.2 = RX6) : FP M 136 5 4 .int := ⟨_, _, _, _, cl_5, by decide, by rw [h]; exact in_lwg 159 rfl rfl, rfl, Or.inl rfl⟩
set_option maxRecDepth 20000 in
theorem fp_X5_49 {M : MD} (h : M.2.2.2.2 = RX5) : FP M 49 5 5 .int := ⟨_, _, _, _, cl_5, by decide, by rw [h]; exact in_lwg 160 rfl rfl, rfl, Or.inl rfl⟩
set_option maxRecDepth 20000 in
theorem fp_X6_144 {M : MD} (h : M.2.2.2.2 = RX6) : FP M 144 5 5 .int := ⟨_, _, _, _, cl_5, by decide, by rw [h]; exact in_lwg 161 rfl rfl, rfl, Or.inl rfl⟩
set_option maxRecDepth 20000 in
theorem fp_X5_52 {M : MD} (h : M.2.2.2.2 = RX5) : FP M 52 5 6 .int := ⟨_, _, _, _, cl_5, by decide, by rw [h]; exact in_lwg 162 rfl rfl, rfl, Or.inl rfl⟩
set_option maxRecDepth 20000 in
theorem fp_X3_71 {M : MD} (h : M.2.2.2.2 = RX3) : FP M 71 5 6 .int := ⟨_, _, _, _, cl_5, by decide, by rw [h]; exact in_lwg 163 rfl rfl, rfl, Or.inl rfl⟩
set_option maxRecDepth 20000 in
theorem fp_X6_142 {M : MD} (h : M.2.2.2.2 = RX6) : FP M 142 5 6 .int := ⟨_, _, _, _, cl_5, by decide, by rw [h]; exact in_lwg 164 rfl rfl, rfl, Or.inl rfl⟩
set_option maxRecDepth 20000 in
theorem fp_X1_59 {M : MD} (h : M.2.2.2.2 = RX1) : FP M 59 5 7 .int := ⟨_, _, _, _, cl_5, by decide, by rw [h]; exact in_lwg 165 rfl rfl, rfl, Or.inl rfl⟩
set_option maxRecDepth 20000 in
theorem fp_X5_55 {M : MD} (h : M.2.2.2.2 = RX5) : FP M 55 5 7 .int := ⟨_, _, _, _, cl_5, by decide, by rw [h]; exact in_lwg 166 rfl rfl, rfl, Or.inl rfl⟩
set_option maxRecDepth 20000 in
theorem fp_X3_45 {M : MD} (h : M.2.2.2.2 = RX3) : FP M 45 5 8 .boolean := ⟨_, _, _, _, cl_5, by decide, by rw [h]; exact in_lwg 167 rfl rfl, rfl, Or.inl rfl⟩
set_option maxRecDepth 20000 in
theorem fp_X5_58 {M : MD} (h : M.2.2.2.2 = RX5) : FP M 58 5 8 .boolean := ⟨_, _, _, _, cl_5, by decide, by rw [h]; exact in_lwg 168 rfl rfl, rfl, Or.inl rfl⟩
set_option maxRecDepth 20000 in
theorem fp_X6_147 {M : MD} (h : M.2.2.2.2 = RX6) : FP M 147 5 8 .boolean := ⟨_, _, _, _, cl_5, by decide, by rw [h]; exact in_lwg 169 rfl rfl, rfl, Or.inl rfl⟩
set_option maxRecDepth 20000 in
theorem fp_X5_15 {M : MD} (h : M.2.2.2.2 = RX5) : FP M 15 5 9 .boolean := ⟨_, _, _, _, cl_5, by decide, by rw [h]; exact in_lwg 170 rfl rfl, rfl, Or.inl rfl⟩
set_option maxRecDepth 20000 in
theorem fp_X3_41 {M : MD} (h : M.2.2.2.2 = RX3) : FP M 41 5 9 .boolean := ⟨_, _, _, _, cl_5, by decide, by rw [h]; exact in_lwg 171 rfl rfl, rfl, Or.inl rfl⟩
set_option maxRecDepth 20000 in
theorem fp_X3_24 {M : MD} (h : M.2.2.2.2 = RX3) (hn : M.1.name = "<init>") : FP M 24 3 0 (.object "ShootingDays$Film") := ⟨_, _, _, _, cl_3, by decide, by rw [h]; exact in_lwg 193 rfl rfl, rfl, Or.inr ⟨rfl, hn, h.symm⟩⟩
set_option maxRecDepth 20000 in
theorem fp_X3_11 {M : MD} (h : M.2.2.2.2 = RX3) (hn : M.1.name = "<init>") : FP M 11 3 1 (.array (.object "ShootingDays$Row")) := ⟨_, _, _, _, cl_3, by decide, by rw [h]; exact in_lwg 194 rfl rfl, rfl, Or.inr ⟨rfl, hn, h.symm⟩⟩
set_option maxRecDepth 20000 in
theorem fp_X3_17 {M : MD} (h : M.2.2.2.2 = RX3) (hn : M.1.name = "<init>") : FP M 17 3 2 (.array .int) := ⟨_, _, _, _, cl_3, by decide, by rw [h]; exact in_lwg 198 rfl rfl, rfl, Or.inr ⟨rfl, hn, h.symm⟩⟩
set_option maxRecDepth 20000 in
theorem fp_X3_21 {M : MD} (h : M.2.2.2.2 = RX3) (hn : M.1.name = "<init>") : FP M 21 3 3 (.array .int) := ⟨_, _, _, _, cl_3, by decide, by rw [h]; exact in_lwg 200 rfl rfl, rfl, Or.inr ⟨rfl, hn, h.symm⟩⟩
set_option maxRecDepth 20000 in
theorem fp_X3_29 {M : MD} (h : M.2.2.2.2 = RX3) : FP M 29 3 4 .int := ⟨_, _, _, _, cl_3, by decide, by rw [h]; exact in_lwg 202 rfl rfl, rfl, Or.inl rfl⟩
set_option maxRecDepth 20000 in
theorem fp_X1_39 {M : MD} (h : M.2.2.2.2 = RX1) : FP M 39 3 4 .int := ⟨_, _, _, _, cl_3, by decide, by rw [h]; exact in_lwg 203 rfl rfl, rfl, Or.inl rfl⟩
set_option maxRecDepth 20000 in
theorem fp_X4_103 {M : MD} (h : M.2.2.2.2 = RX4) : FP M 103 3 4 .int := ⟨_, _, _, _, cl_3, by decide, by rw [h]; exact in_lwg 204 rfl rfl, rfl, Or.inl rfl⟩
set_option maxRecDepth 20000 in
theorem fp_X6_204 {M : MD} (h : M.2.2.2.2 = RX6) : FP M 204 3 4 .int := ⟨_, _, _, _, cl_3, by decide, by rw [h]; exact in_lwg 205 rfl rfl, rfl, Or.inl rfl⟩
set_option maxRecDepth 20000 in
theorem fp_X1_9 {M : MD} (h : M.2.2.2.2 = RX1) (hn : M.1.name = "<init>") : FP M 9 1 0 (.object "ShootingDays$Film") := ⟨_, _, _, _, cl_1, by decide, by rw [h]; exact in_lwg 223 rfl rfl, rfl, Or.inr ⟨rfl, hn, h.symm⟩⟩
set_option maxRecDepth 20000 in
theorem fp_X1_15 {M : MD} (h : M.2.2.2.2 = RX1) (hn : M.1.name = "<init>") : FP M 15 1 1 (.object "ShootingDays$Plan") := ⟨_, _, _, _, cl_1, by decide, by rw [h]; exact in_lwg 224 rfl rfl, rfl, Or.inr ⟨rfl, hn, h.symm⟩⟩
set_option maxRecDepth 20000 in
theorem fp_X0_21 {M : MD} (h : M.2.2.2.2 = RX0) (hn : M.1.name = "<init>") : FP M 21 0 0 (.object "ShootingDays$Film") := ⟨_, _, _, _, cl_0, by decide, by rw [h]; exact in_lwg 243 rfl rfl, rfl, Or.inr ⟨rfl, hn, h.symm⟩⟩
set_option maxRecDepth 20000 in
theorem fp_X0_9 {M : MD} (h : M.2.2.2.2 = RX0) (hn : M.1.name = "<init>") : FP M 9 0 1 (.array .int) := ⟨_, _, _, _, cl_0, by decide, by rw [h]; exact in_lwg 244 rfl rfl, rfl, Or.inr ⟨rfl, hn, h.symm⟩⟩
set_option maxRecDepth 20000 in
theorem fp_X0_15 {M : MD} (h : M.2.2.2.2 = RX0) (hn : M.1.name = "<init>") : FP M 15 0 2 (.array .int) := ⟨_, _, _, _, cl_0, by decide, by rw [h]; exact in_lwg 245 rfl rfl, rfl, Or.inr ⟨rfl, hn, h.symm⟩⟩
set_option maxRecDepth 20000 in
theorem fp_X0_18 {M : MD} (h : M.2.2.2.2 = RX0) (hn : M.1.name = "<init>") : FP M 18 0 3 (.array .int) := ⟨_, _, _, _, cl_0, by decide, by rw [h]; exact in_lwg 246 rfl rfl, rfl, Or.inr ⟨rfl, hn, h.symm⟩⟩
set_option maxRecDepth 20000 in
theorem fp_X0_45 {M : MD} (h : M.2.2.2.2 = RX0) : FP M 45 0 4 .int := ⟨_, _, _, _, cl_0, by decide, by rw [h]; exact in_lwg 247 rfl rfl, rfl, Or.inl rfl⟩
set_option maxRecDepth 20000 in
theorem fp_X0_55 {M : MD} (h : M.2.2.2.2 = RX0) : FP M 55 0 5 .int := ⟨_, _, _, _, cl_0, by decide, by rw [h]; exact in_lwg 248 rfl rfl, rfl, Or.inl rfl⟩
set_option maxRecDepth 20000 in
theorem fp_X0_32 {M : MD} (h : M.2.2.2.2 = RX0) : FP M 32 0 6 .int := ⟨_, _, _, _, cl_0, by decide, by rw [h]; exact in_lwg 249 rfl rfl, rfl, Or.inl rfl⟩
set_option maxRecDepth 20000 in
theorem fp_X4_24 {M : MD} (h : M.2.2.2.2 = RX4) (hn : M.1.name = "<init>") : FP M 24 4 0 (.object "ShootingDays$Film") := ⟨_, _, _, _, cl_4, by decide, by rw [h]; exact in_lwg 265 rfl rfl, rfl, Or.inr ⟨rfl, hn, h.symm⟩⟩
set_option maxRecDepth 20000 in
theorem fp_X4_28 {M : MD} (h : M.2.2.2.2 = RX4) (hn : M.1.name = "<init>") : FP M 28 4 1 (.object "ShootingDays$Plan") := ⟨_, _, _, _, cl_4, by decide, by rw [h]; exact in_lwg 266 rfl rfl, rfl, Or.inr ⟨rfl, hn, h.symm⟩⟩
set_option maxRecDepth 20000 in
theorem fp_X4_32 {M : MD} (h : M.2.2.2.2 = RX4) (hn : M.1.name = "<init>") : FP M 32 4 2 (.object "ShootingDays$Bill") := ⟨_, _, _, _, cl_4, by decide, by rw [h]; exact in_lwg 267 rfl rfl, rfl, Or.inr ⟨rfl, hn, h.symm⟩⟩
set_option maxRecDepth 20000 in
theorem fp_X4_41 {M : MD} (h : M.2.2.2.2 = RX4) (hn : M.1.name = "<init>") : FP M 41 4 3 (.object "ShootingDays$Arranger") := ⟨_, _, _, _, cl_4, by decide, by rw [h]; exact in_lwg 268 rfl rfl, rfl, Or.inr ⟨rfl, hn, h.symm⟩⟩
set_option maxRecDepth 20000 in
theorem fp_X4_11 {M : MD} (h : M.2.2.2.2 = RX4) (hn : M.1.name = "<init>") : FP M 11 4 4 (.array (.object "ShootingDays$Row")) := ⟨_, _, _, _, cl_4, by decide, by rw [h]; exact in_lwg 269 rfl rfl, rfl, Or.inr ⟨rfl, hn, h.symm⟩⟩
set_option maxRecDepth 20000 in
theorem fp_X4_17 {M : MD} (h : M.2.2.2.2 = RX4) (hn : M.1.name = "<init>") : FP M 17 4 5 (.array .int) := ⟨_, _, _, _, cl_4, by decide, by rw [h]; exact in_lwg 270 rfl rfl, rfl, Or.inr ⟨rfl, hn, h.symm⟩⟩
set_option maxRecDepth 20000 in
theorem fp_X4_21 {M : MD} (h : M.2.2.2.2 = RX4) (hn : M.1.name = "<init>") : FP M 21 4 6 (.array .int) := ⟨_, _, _, _, cl_4, by decide, by rw [h]; exact in_lwg 271 rfl rfl, rfl, Or.inr ⟨rfl, hn, h.symm⟩⟩
set_option maxRecDepth 20000 in
theorem fp_X6_10 {M : MD} (h : M.2.2.2.2 = RX6) (hn : M.1.name = "<init>") : FP M 10 6 0 (.object "ShootingDays$Film") := ⟨_, _, _, _, cl_6, by decide, by rw [h]; exact in_lwg 287 rfl rfl, rfl, Or.inr ⟨rfl, hn, h.symm⟩⟩
set_option maxRecDepth 20000 in
theorem fp_X6_21 {M : MD} (h : M.2.2.2.2 = RX6) (hn : M.1.name = "<init>") : FP M 21 6 1 (.object "ShootingDays$Plan") := ⟨_, _, _, _, cl_6, by decide, by rw [h]; exact in_lwg 288 rfl rfl, rfl, Or.inr ⟨rfl, hn, h.symm⟩⟩
set_option maxRecDepth 20000 in
theorem fp_X6_30 {M : MD} (h : M.2.2.2.2 = RX6) (hn : M.1.name = "<init>") : FP M 30 6 2 (.object "ShootingDays$Bill") := ⟨_, _, _, _, cl_6, by decide, by rw [h]; exact in_lwg 289 rfl rfl, rfl, Or.inr ⟨rfl, hn, h.symm⟩⟩
set_option maxRecDepth 20000 in
theorem fp_X6_39 {M : MD} (h : M.2.2.2.2 = RX6) (hn : M.1.name = "<init>") : FP M 39 6 3 (.object "ShootingDays$Planner") := ⟨_, _, _, _, cl_6, by decide, by rw [h]; exact in_lwg 290 rfl rfl, rfl, Or.inr ⟨rfl, hn, h.symm⟩⟩
set_option maxRecDepth 20000 in
theorem fp_X7_84 {M : MD} (h : M.2.2.2.2 = RX7) : FP M 84 7 1 .int := ⟨_, _, _, _, cl_7, by decide, by rw [h]; exact in_lwg 680 rfl rfl, rfl, Or.inl rfl⟩
set_option maxRecDepth 20000 in
theorem fp_X7_7 {M : MD} (h : M.2.2.2.2 = RX7) (hn : M.1.name = "<init>") : FP M 7 7 2 (.array .int) := ⟨_, _, _, _, cl_7, by decide, by rw [h]; exact in_lwg 681 rfl rfl, rfl, Or.inr ⟨rfl, hn, h.symm⟩⟩
set_option maxRecDepth 20000 in
theorem fp_X7_13 {M : MD} (h : M.2.2.2.2 = RX7) (hn : M.1.name = "<init>") : FP M 13 7 3 (.array .int) := ⟨_, _, _, _, cl_7, by decide, by rw [h]; exact in_lwg 682 rfl rfl, rfl, Or.inr ⟨rfl, hn, h.symm⟩⟩
set_option maxRecDepth 20000 in
theorem fp_X7_16 {M : MD} (h : M.2.2.2.2 = RX7) (hn : M.1.name = "<init>") : FP M 16 7 4 (.array .int) := ⟨_, _, _, _, cl_7, by decide, by rw [h]; exact in_lwg 683 rfl rfl, rfl, Or.inr ⟨rfl, hn, h.symm⟩⟩
set_option maxRecDepth 20000 in
theorem fp_X7_19 {M : MD} (h : M.2.2.2.2 = RX7) (hn : M.1.name = "<init>") : FP M 19 7 5 (.array .boolean) := ⟨_, _, _, _, cl_7, by decide, by rw [h]; exact in_lwg 684 rfl rfl, rfl, Or.inr ⟨rfl, hn, h.symm⟩⟩
set_option maxRecDepth 20000 in
theorem fp_X7_23 {M : MD} (h : M.2.2.2.2 = RX7) (hn : M.1.name = "<init>") : FP M 23 7 6 (.array .int) := ⟨_, _, _, _, cl_7, by decide, by rw [h]; exact in_lwg 685 rfl rfl, rfl, Or.inr ⟨rfl, hn, h.symm⟩⟩
set_option maxRecDepth 20000 in
theorem fp_X7_26 {M : MD} (h : M.2.2.2.2 = RX7) (hn : M.1.name = "<init>") : FP M 26 7 7 (.array .int) := ⟨_, _, _, _, cl_7, by decide, by rw [h]; exact in_lwg 686 rfl rfl, rfl, Or.inr ⟨rfl, hn, h.symm⟩⟩
set_option maxRecDepth 20000 in
theorem fp_X7_29 {M : MD} (h : M.2.2.2.2 = RX7) (hn : M.1.name = "<init>") : FP M 29 7 8 (.array .int) := ⟨_, _, _, _, cl_7, by decide, by rw [h]; exact in_lwg 687 rfl rfl, rfl, Or.inr ⟨rfl, hn, h.symm⟩⟩
set_option maxRecDepth 20000 in
theorem fp_X7_32 {M : MD} (h : M.2.2.2.2 = RX7) (hn : M.1.name = "<init>") : FP M 32 7 9 (.array .int) := ⟨_, _, _, _, cl_7, by decide, by rw [h]; exact in_lwg 688 rfl rfl, rfl, Or.inr ⟨rfl, hn, h.symm⟩⟩
set_option maxRecDepth 20000 in
theorem fp_X7_35 {M : MD} (h : M.2.2.2.2 = RX7) (hn : M.1.name = "<init>") : FP M 35 7 10 (.array .int) := ⟨_, _, _, _, cl_7, by decide, by rw [h]; exact in_lwg 689 rfl rfl, rfl, Or.inr ⟨rfl, hn, h.symm⟩⟩
set_option maxRecDepth 20000 in
theorem fp_X7_38 {M : MD} (h : M.2.2.2.2 = RX7) (hn : M.1.name = "<init>") : FP M 38 7 11 (.array .int) := ⟨_, _, _, _, cl_7, by decide, by rw [h]; exact in_lwg 690 rfl rfl, rfl, Or.inr ⟨rfl, hn, h.symm⟩⟩
set_option maxRecDepth 20000 in
theorem fp_X7_41 {M : MD} (h : M.2.2.2.2 = RX7) (hn : M.1.name = "<init>") : FP M 41 7 12 (.array .int) := ⟨_, _, _, _, cl_7, by decide, by rw [h]; exact in_lwg 691 rfl rfl, rfl, Or.inr ⟨rfl, hn, h.symm⟩⟩
set_option maxRecDepth 20000 in
theorem fp_X7_91 {M : MD} (h : M.2.2.2.2 = RX7) : FP M 91 7 13 .int := ⟨_, _, _, _, cl_7, by decide, by rw [h]; exact in_lwg 692 rfl rfl, rfl, Or.inl rfl⟩
set_option maxRecDepth 20000 in
theorem fp_X7_44 {M : MD} (h : M.2.2.2.2 = RX7) (hn : M.1.name = "<init>") : FP M 44 7 14 (.array .int) := ⟨_, _, _, _, cl_7, by decide, by rw [h]; exact in_lwg 693 rfl rfl, rfl, Or.inr ⟨rfl, hn, h.symm⟩⟩
set_option maxRecDepth 20000 in
theorem fp_X7_47 {M : MD} (h : M.2.2.2.2 = RX7) (hn : M.1.name = "<init>") : FP M 47 7 15 (.array .int) := ⟨_, _, _, _, cl_7, by decide, by rw [h]; exact in_lwg 694 rfl rfl, rfl, Or.inr ⟨rfl, hn, h.symm⟩⟩
set_option maxRecDepth 20000 in
theorem fp_X7_50 {M : MD} (h : M.2.2.2.2 = RX7) (hn : M.1.name = "<init>") : FP M 50 7 16 (.array .int) := ⟨_, _, _, _, cl_7, by decide, by rw [h]; exact in_lwg 695 rfl rfl, rfl, Or.inr ⟨rfl, hn, h.symm⟩⟩
set_option maxRecDepth 20000 in
theorem fp_X7_53 {M : MD} (h : M.2.2.2.2 = RX7) (hn : M.1.name = "<init>") : FP M 53 7 17 (.array .int) := ⟨_, _, _, _, cl_7, by decide, by rw [h]; exact in_lwg 696 rfl rfl, rfl, Or.inr ⟨rfl, hn, h.symm⟩⟩
set_option maxRecDepth 20000 in
theorem fp_X7_56 {M : MD} (h : M.2.2.2.2 = RX7) (hn : M.1.name = "<init>") : FP M 56 7 18 (.array .int) := ⟨_, _, _, _, cl_7, by decide, by rw [h]; exact in_lwg 697 rfl rfl, rfl, Or.inr ⟨rfl, hn, h.symm⟩⟩
set_option maxRecDepth 20000 in
theorem fp_X7_59 {M : MD} (h : M.2.2.2.2 = RX7) (hn : M.1.name = "<init>") : FP M 59 7 19 (.array .int) := ⟨_, _, _, _, cl_7, by decide, by rw [h]; exact in_lwg 698 rfl rfl, rfl, Or.inr ⟨rfl, hn, h.symm⟩⟩
set_option maxRecDepth 20000 in
theorem fp_X7_129 {M : MD} (h : M.2.2.2.2 = RX7) : FP M 129 7 20 .int := ⟨_, _, _, _, cl_7, by decide, by rw [h]; exact in_lwg 699 rfl rfl, rfl, Or.inl rfl⟩
set_option maxRecDepth 20000 in
theorem fp_X7_62 {M : MD} (h : M.2.2.2.2 = RX7) (hn : M.1.name = "<init>") : FP M 62 7 21 (.array .int) := ⟨_, _, _, _, cl_7, by decide, by rw [h]; exact in_lwg 700 rfl rfl, rfl, Or.inr ⟨rfl, hn, h.symm⟩⟩
set_option maxRecDepth 20000 in
theorem fp_X7_65 {M : MD} (h : M.2.2.2.2 = RX7) (hn : M.1.name = "<init>") : FP M 65 7 22 (.array .int) := ⟨_, _, _, _, cl_7, by decide, by rw [h]; exact in_lwg 701 rfl rfl, rfl, Or.inr ⟨rfl, hn, h.symm⟩⟩
set_option maxRecDepth 20000 in
theorem fp_X7_68 {M : MD} (h : M.2.2.2.2 = RX7) (hn : M.1.name = "<init>") : FP M 68 7 23 (.array .int) := ⟨_, _, _, _, cl_7, by decide, by rw [h]; exact in_lwg 702 rfl rfl, rfl, Or.inr ⟨rfl, hn, h.symm⟩⟩
set_option maxRecDepth 20000 in
theorem fp_X7_71 {M : MD} (h : M.2.2.2.2 = RX7) (hn : M.1.name = "<init>") : FP M 71 7 24 (.array .int) := ⟨_, _, _, _, cl_7, by decide, by rw [h]; exact in_lwg 703 rfl rfl, rfl, Or.inr ⟨rfl, hn, h.symm⟩⟩
set_option maxRecDepth 20000 in
theorem fp_X7_74 {M : MD} (h : M.2.2.2.2 = RX7) (hn : M.1.name = "<init>") : FP M 74 7 25 (.array .int) := ⟨_, _, _, _, cl_7, by decide, by rw [h]; exact in_lwg 704 rfl rfl, rfl, Or.inr ⟨rfl, hn, h.symm⟩⟩
set_option maxRecDepth 20000 in
theorem fp_X7_77 {M : MD} (h : M.2.2.2.2 = RX7) (hn : M.1.name = "<init>") : FP M 77 7 26 (.array .int) := ⟨_, _, _, _, cl_7, by decide, by rw [h]; exact in_lwg 705 rfl rfl, rfl, Or.inr ⟨rfl, hn, h.symm⟩⟩
set_option maxRecDepth 20000 in
theorem fp_X7_201 {M : MD} (h : M.2.2.2.2 = RX7) : FP M 201 7 27 .int := ⟨_, _, _, _, cl_7, by decide, by rw [h]; exact in_lwg 706 rfl rfl, rfl, Or.inl rfl⟩
theorem dJ_max_0 : decode cJ_max 0 = .ok (.iload_n 0, 1) := by decide +kernel
theorem dJ_max_1 : decode cJ_max 1 = .ok (.iload_n 1, 1) := by decide +kernel
theorem dJ_max_2 : decode cJ_max 2 = .ok (.if_icmp .lt 7, 3) := by decide +kernel
theorem dJ_max_5 : decode cJ_max 5 = .ok (.iload_n 0, 1) := by decide +kernel
theorem dJ_max_6 : decode cJ_max 6 = .ok (.goto 4, 3) := by decide +kernel
theorem dJ_max_9 : decode cJ_max 9 = .ok (.iload_n 1, 1) := by decide +kernel
theorem dJ_max_10 : decode cJ_max 10 = .ok (.ireturn, 1) := by decide +kernel
theorem dJ_bitCount_0 : decode cJ_bitCount 0 = .ok (.iload_n 0, 1) := by decide +kernel
theorem dJ_bitCount_1 : decode cJ_bitCount 1 = .ok (.iload_n 0, 1) := by decide +kernel
theorem dJ_bitCount_2 : decode cJ_bitCount 2 = .ok (.iconst 1, 1) := by decide +kernel
theorem dJ_bitCount_3 : decode cJ_bitCount 3 = .ok (.iushr, 1) := by decide +kernel
theorem dJ_bitCount_4 : decode cJ_bitCount 4 = .ok (.ldc_w 265, 3) := by decide +kernel
theorem dJ_bitCount_7 : decode cJ_bitCount 7 = .ok (.iand, 1) := by decide +kernel
theorem dJ_bitCount_8 : decode cJ_bitCount 8 = .ok (.isub, 1) := by decide +kernel
theorem dJ_bitCount_9 : decode cJ_bitCount 9 = .ok (.istore_n 0, 1) := by decide +kernel
theorem dJ_bitCount_10 : decode cJ_bitCount 10 = .ok (.iload_n 0, 1) := by decide +kernel
theorem dJ_bitCount_11 : decode cJ_bitCount 11 = .ok (.ldc_w 266, 3) := by decide +kernel
theorem dJ_bitCount_14 : decode cJ_bitCount 14 = .ok (.iand, 1) := by decide +kernel
theorem dJ_bitCount_15 : decode cJ_bitCount 15 = .ok (.iload_n 0, 1) := by decide +kernel
theorem dJ_bitCount_16 : decode cJ_bitCount 16 = .ok (.iconst 2, 1) := by decide +kernel
theorem dJ_bitCount_17 : decode cJ_bitCount 17 = .ok (.iushr, 1) := by decide +kernel
theorem dJ_bitCount_18 : decode cJ_bitCount 18 = .ok (.ldc_w 266, 3) := by decide +kernel
theorem dJ_bitCount_21 : decode cJ_bitCount 21 = .ok (.iand, 1) := by decide +kernel
theorem dJ_bitCount_22 : decode cJ_bitCount 22 = .ok (.iadd, 1) := by decide +kernel
theorem dJ_bitCount_23 : decode cJ_bitCount 23 = .ok (.istore_n 0, 1) := by decide +kernel
theorem dJ_bitCount_24 : decode cJ_bitCount 24 = .ok (.iload_n 0, 1) := by decide +kernel
theorem dJ_bitCount_25 : decode cJ_bitCount 25 = .ok (.iload_n 0, 1) := by decide +kernel
theorem dJ_bitCount_26 : decode cJ_bitCount 26 = .ok (.iconst 4, 1) := by decide +kernel
theorem dJ_bitCount_27 : decode cJ_bitCount 27 = .ok (.iushr, 1) := by decide +kernel
theorem dJ_bitCount_28 : decode cJ_bitCount 28 = .ok (.iadd, 1) := by decide +kernel
theorem dJ_bitCount_29 : decode cJ_bitCount 29 = .ok (.ldc_w 267, 3) := by decide +kernel
theorem dJ_bitCount_32 : decode cJ_bitCount 32 = .ok (.iand, 1) := by decide +kernel
theorem dJ_bitCount_33 : decode cJ_bitCount 33 = .ok (.istore_n 0, 1) := by decide +kernel
theorem dJ_bitCount_34 : decode cJ_bitCount 34 = .ok (.iload_n 0, 1) := by decide +kernel
theorem dJ_bitCount_35 : decode cJ_bitCount 35 = .ok (.iload_n 0, 1) := by decide +kernel
theorem dJ_bitCount_36 : decode cJ_bitCount 36 = .ok (.bipush 8, 2) := by decide +kernel
theorem dJ_bitCount_38 : decode cJ_bitCount 38 = .ok (.iushr, 1) := by decide +kernel
theorem dJ_bitCount_39 : decode cJ_bitCount 39 = .ok (.iadd, 1) := by decide +kernel
theorem dJ_bitCount_40 : decode cJ_bitCount 40 = .ok (.istore_n 0, 1) := by decide +kernel
theorem dJ_bitCount_41 : decode cJ_bitCount 41 = .ok (.iload_n 0, 1) := by decide +kernel
theorem dJ_bitCount_42 : decode cJ_bitCount 42 = .ok (.iload_n 0, 1) := by decide +kernel
theorem dJ_bitCount_43 : decode cJ_bitCount 43 = .ok (.bipush 16, 2) := by decide +kernel
theorem dJ_bitCount_45 : decode cJ_bitCount 45 = .ok (.iushr, 1) := by decide +kernel
theorem dJ_bitCount_46 : decode cJ_bitCount 46 = .ok (.iadd, 1) := by decide +kernel
theorem dJ_bitCount_47 : decode cJ_bitCount 47 = .ok (.istore_n 0, 1) := by decide +kernel
theorem dJ_bitCount_48 : decode cJ_bitCount 48 = .ok (.iload_n 0, 1) := by decide +kernel
theorem dJ_bitCount_49 : decode cJ_bitCount 49 = .ok (.bipush 63, 2) := by decide +kernel
theorem dJ_bitCount_51 : decode cJ_bitCount 51 = .ok (.iand, 1) := by decide +kernel
theorem dJ_bitCount_52 : decode cJ_bitCount 52 = .ok (.ireturn, 1) := by decide +kernel
end
section
/-! the reference: its looks at rows, and the words that they are said in -/
def bI (b : Bool) : Int32 := match b with
  | true => nI 1
  | false => nI 0
theorem bI_t {b : Bool} (h : b = true) : nI 1 = bI b := by rw [h]; rfl
theorem bI_f {b : Bool} (h : b = false) : nI 0 = bI b := by rw [h]; rfl
theorem bI_01 (b : Bool) : bI b = 0 ∨ bI b = 1 := by cases b <;> simp [bI, nI_0]; right; decide +kernel
theorem nI_m1 {d : Nat} (h : d < 2 ^ 31) : ¬ nI d = -1 := by
  intro e
  have h1 := nI_toInt h
  rw [e] at h1
  have : (-1 : Int32).toInt = -1 := by decide +kernel
  omega
section RULES
variable {M : MD} {d rc rs pc : Nat} {ls : List (Option Value)} {st : List Value} {h : List AC} {Q : Option Value → List AC → Prop}
theorem V.if_eqB {b : Bool} {off : Int} (tgt : Nat) (hd : decode M.2.1 pc = .ok (.ifCond .eq off, 3)) (ht : (pc : Int) + off = (tgt : Int)) (kt : b = false → V M d rc rs tgt ls st h Q) (kf : b = true → V M d rc rs (pc + 3) ls st h Q) : V M d rc rs pc ls (.int (bI b) :: st) h Q := by
  cases b with
  | true => exact V.if_eqN (a := 1) tgt hd ht (by decide) (fun q => absurd q (by decide)) (fun _ => kf rfl)
  | false => exact V.if_eqN (a := 0) tgt hd ht (by decide) (fun _ => kt rfl) (fun q => absurd rfl q)
theorem V.if_neB {b : Bool} {off : Int} (tgt : Nat) (hd : decode M.2.1 pc = .ok (.ifCond .ne off, 3)) (ht : (pc : Int) + off = (tgt : Int)) (kt : b = true → V M d rc rs tgt ls st h Q) (kf : b = false → V M d rc rs (pc + 3) ls st h Q) : V M d rc rs pc ls (.int (bI b) :: st) h Q := by
  cases b with
  | true => exact V.if_neN (a := 1) tgt hd ht (by decide) (fun _ => kt rfl) (fun q => absurd q (by decide))
  | false => exact V.if_neN (a := 0) tgt hd ht (by decide) (fun q => absurd rfl q) (fun _ => kf rfl)
theorem V.retB {b : Bool} (hd : decode M.2.1 pc = .ok (.ireturn, 1)) (hr : M.2.2.2.1 = some .boolean) (hq : Q (some (.int (bI b))) h) : V M d rc rs pc ls [.int (bI b)] h Q := by
  cases b with
  | true => exact V.ireturn hd hr (by decide +kernel) hq
  | false => exact V.ireturn hd hr (by decide +kernel) hq
end RULES
def inB (v lo hi : Int32) : Bool := decide (lo ≤ v) && decide (v ≤ hi)
/-- x is one of the numbers 0 .. n-1 -/
def isIn (x : Int32) (n : Nat) : Bool := decide (0 ≤ x) && decide (x < nI n)
theorem isIn_iff {x : Int32} {n : Nat} (hn : n < 2 ^ 31) : isIn x n = true ↔ ∃ j, j < n ∧ x = nI j := by
  simp only [isIn, Bool.and_eq_true, decide_eq_true_eq]
  constructor
  · rintro ⟨h1, h2⟩
    obtain ⟨j, hj, rfl⟩ := nI_of (x := x) (by rw [Int32.not_lt]; exact h1)
    exact ⟨j, (nI_ltI hj hn).mp h2, rfl⟩
  · rintro ⟨j, hj, rfl⟩
    exact ⟨nI_pos' (by omega), nI_lt hj hn⟩
theorem inB_isIn {x : Int32} {n : Nat} (hn : n < 2 ^ 30) : inB x (nI 0) (nI n - nI 1) = isIn x n := by
  have e : (nI n - nI 1).toInt = (n : Int) - 1 := pk_sub_toInt (by omega) (by decide)
  simp only [inB, isIn, nI_0]
  congr 1
  simp only [decide_eq_decide, Int32.le_iff_toInt_le, Int32.lt_iff_toInt_lt, e, nI_toInt (show n < 2 ^ 31 by omega)]
  omega
/-- the way between two spots, and the place of a scene -/
def dst (x y : Int32) : Int32 := if y ≤ x then x - y else y - x
def pl (F : Nat → Nat → Int32) (s : Nat) : Nat := (F 3 s).toNatClampNeg
def PlV (F : Nat → Nat → Int32) : Prop := ∀ s, s < 20 → F 3 s = nI (pl F s) ∧ pl F s < 8
def wy (F : Nat → Nat → Int32) (a b : Nat) : Int32 := dst (F 12 (pl F b)) (F 12 (pl F a))
def mn (F : Nat → Nat → Int32) (l : List Nat) : Nat → Int32
  | 0 => nI 0
  | i + 1 => mn F l i + (F 2 (l.getD i 0) + (if i = 0 then nI 0 else wy F (l.getD (i - 1) 0) (l.getD i 0)))
def mins (F : Nat → Nat → Int32) (l : List Nat) : Int32 := mn F l l.length
/-- row d of the reference holds the list l -/
def rowM (m : Nat → Nat → Int32) (d : Nat) (l : List Nat) : Prop := m 16 d = nI l.length ∧ l.length ≤ 5 ∧ ∀ k, k < l.length → m 17 (5 * d + k) = nI (l.getD k 0) ∧ l.getD k 0 < 20
section MODEL
variable {f ro rs : Nat → Nat → Int32} {rw rb : Nat → Nat} {m : Nat → Nat → Int32} {dp : Nat}
theorem t_in {h : List AC} (v lo hi : Int32) : Mt (dp + 1) 0 0 mX7_in [.int v, .int lo, .int hi] h (RI (bI (inB v lo hi)) h) := by
  refine Mt.of rfl rfl (Nat.le_of_ble_eq_true rfl) rfl ?_
  refine V.ildn 0 dX7_in_0 rfl rfl ?_
  refine V.ildn 1 dX7_in_1 rfl rfl ?_
  refine V.icmp_lt 14 dX7_in_2 (by decide) (fun c2 => ?_) (fun c2 => ?_)
  · refine V.iconst (nI 0) dX7_in_14 (by decide +kernel) ?_
    exact V.ireturn dX7_in_15 rfl (by first | rfl | decide +kernel) (⟨congrArg (fun x => some (Value.int x)) (bI_f (by simp [inB, Int32.not_le.mpr c2])), rfl⟩)
  · refine V.ildn 0 dX7_in_5 rfl rfl ?_
    refine V.ildn 2 dX7_in_6 rfl rfl ?_
    refine V.icmp_gt 14 dX7_in_7 (by decide) (fun c7 => ?_) (fun c7 => ?_)
    · refine V.iconst (nI 0) dX7_in_14 (by decide +kernel) ?_
      exact V.ireturn dX7_in_15 rfl (by first | rfl | decide +kernel) (⟨congrArg (fun x => some (Value.int x)) (bI_f (by simp [inB, Int32.not_le.mpr c7])), rfl⟩)
    · refine V.iconst (nI 1) dX7_in_10 (by decide +kernel) ?_
      refine V.goto 15 dX7_in_11 (by decide) ?_
      exact V.ireturn dX7_in_15 rfl (by first | rfl | decide +kernel) (⟨congrArg (fun x => some (Value.int x)) (bI_t (by simp [inB, Int32.not_lt.mp c2, Int32.not_lt.mp c7])), rfl⟩)
theorem t_isScene {n : Nat} (hn : n ≤ 20) (h1 : m 1 0 = nI n) (s : Int32) : Mt (dp + 2) 0 0 mX7_isScene [.ref 45, .int s] (HH f ro rs rw rb m) (RI (bI (isIn s n)) (HH f ro rs rw rb m)) := by
  refine Mt.of rfl rfl (Nat.le_of_ble_eq_true rfl) rfl ?_
  refine V.ildn 1 dX7_isScene_0 rfl rfl ?_
  refine V.iconst (nI 0) dX7_isScene_1 (by decide +kernel) ?_
  refine V.aldn 0 dX7_isScene_2 rfl rfl ?_
  refine V.gf7_1 dX7_isScene_3 f_X7_84 ?_
  refine V.top h1 ?_
  refine V.iconst (nI 1) dX7_isScene_6 (by decide +kernel) ?_
  refine V.isub dX7_isScene_7 ?_
  refine V.cSi (t_in s (nI 0) (nI n - nI 1)) dX7_isScene_8 k_X7_87 rfl rfl (Nat.le_of_ble_eq_true rfl) rfl ?_
  exact V.retB dX7_isScene_11 rfl ⟨by rw [inB_isIn (by omega)], rfl⟩
theorem t_isDay {n : Nat} (hn : n ≤ 20) (h1 : m 13 0 = nI n) (s : Int32) : Mt (dp + 2) 0 0 mX7_isDay [.ref 45, .int s] (HH f ro rs rw rb m) (RI (bI (isIn s n)) (HH f ro rs rw rb m)) := by
  refine Mt.of rfl rfl (Nat.le_of_ble_eq_true rfl) rfl ?_
  refine V.ildn 1 dX7_isDay_0 rfl rfl ?_
  refine V.iconst (nI 0) dX7_isDay_1 (by decide +kernel) ?_
  refine V.aldn 0 dX7_isDay_2 rfl rfl ?_
  refine V.gf7_13 dX7_isDay_3 f_X7_91 ?_
  refine V.top h1 ?_
  refine V.iconst (nI 1) dX7_isDay_6 (by decide +kernel) ?_
  refine V.isub dX7_isDay_7 ?_
  refine V.cSi (t_in s (nI 0) (nI n - nI 1)) dX7_isDay_8 k_X7_87 rfl rfl (Nat.le_of_ble_eq_true rfl) rfl ?_
  exact V.retB dX7_isDay_11 rfl ⟨by rw [inB_isIn (by omega)], rfl⟩
theorem t_distance {h : List AC} (x y : Int32) : Mt (dp + 1) 0 0 mX7_distance [.int x, .int y] h (RI (dst x y) h) := by
  refine Mt.of rfl rfl (Nat.le_of_ble_eq_true rfl) rfl ?_
  refine V.ildn 0 dX7_distance_0 rfl rfl ?_
  refine V.ildn 1 dX7_distance_1 rfl rfl ?_
  refine V.icmp_ge 11 dX7_distance_2 (by decide) (fun c2 => ?_) (fun c2 => ?_)
  · refine V.ildn 0 dX7_distance_11 rfl rfl ?_
    refine V.ildn 1 dX7_distance_12 rfl rfl ?_
    refine V.isub dX7_distance_13 ?_
    exact V.ireturn dX7_distance_14 rfl (by first | rfl | decide +kernel) (⟨by rw [dst, if_pos c2], rfl⟩)
  · refine V.ildn 1 dX7_distance_5 rfl rfl ?_
    refine V.ildn 0 dX7_distance_6 rfl rfl ?_
    refine V.isub dX7_distance_7 ?_
    refine V.goto 14 dX7_distance_8 (by decide) ?_
    exact V.ireturn dX7_distance_14 rfl (by first | rfl | decide +kernel) (⟨by rw [dst, if_neg c2], rfl⟩)
theorem t_minutesOf {F : Nat → Nat → Int32} (hF : m 2 = F 2 ∧ m 3 = F 3 ∧ m 12 = F 12) (hp : PlV F) {l : List Nat} {d : Nat} (hd : d < 8) (hl : rowM m d l) : Mt (dp + 2) 0 0 mX7_minutesOf [.ref 45, .int (nI d)] (HH f ro rs rw rb m) (RI (mins F l) (HH f ro rs rw rb m)) := by
  refine Mt.of rfl rfl (Nat.le_of_ble_eq_true rfl) rfl ?_
  obtain ⟨hz, hz5, hr⟩ := hl
  obtain ⟨f2, f3, f12⟩ := hF
  have loop : ∀ (j k : Nat), l.length - k = j → k ≤ l.length → ∀ (o4 : Option Value), V mX7_minutesOf (dp + 2) 0 0 4 [some (.ref 45), some (.int (nI d)), some (.int (mn F l k)), some (.int (nI k)), o4] [] (HH f ro rs rw rb m) (RI (mins F l) (HH f ro rs rw rb m)) := by
    intro j
    induction j using Nat.strongRecOn with
    | _ j ih =>
      intro k hj hk o4
      refine V.ildn 3 dX7_minutesOf_4 rfl rfl ?_
      refine V.aldn 0 dX7_minutesOf_5 rfl rfl ?_
      refine V.gf7_16 dX7_minutesOf_6 f_X7_50 ?_
      refine V.ildn 1 dX7_minutesOf_9 rfl rfl ?_
      refine V.ald_59 dX7_minutesOf_10 (ix_nI (by omega) (by decide)) ?_
      refine V.top hz ?_
      first | refine V.icmp_geN 88 dX7_minutesOf_11 (by decide) (by omega) (by omega) (fun c11 => ?_) (fun c11 => ?_) | refine V.icmp_ge 88 dX7_minutesOf_11 (by decide) (fun c11 => ?_) (fun c11 => ?_)
      · obtain rfl : k = l.length := by omega
        refine V.ildn 2 dX7_minutesOf_88 rfl rfl ?_
        exact V.ireturn dX7_minutesOf_89 rfl (by first | rfl | decide +kernel) (⟨rfl, rfl⟩)
      · have hs := (hr k c11).2
        have hp1 := hp _ hs
        refine V.aldn 0 dX7_minutesOf_14 rfl rfl ?_
        refine V.gf7_17 dX7_minutesOf_15 f_X7_53 ?_
        refine V.iconst (nI 5) dX7_minutesOf_18 (by decide +kernel) ?_
        refine V.ildn 1 dX7_minutesOf_19 rfl rfl ?_
        first | refine V.imulN dX7_minutesOf_20 ?_ | refine V.imul dX7_minutesOf_20 ?_
        refine V.ildn 3 dX7_minutesOf_21 rfl rfl ?_
        first | refine V.iaddN dX7_minutesOf_22 ?_ | refine V.iadd dX7_minutesOf_22 ?_
        refine V.ald_60 dX7_minutesOf_23 (ix_nI (by omega) (by decide)) ?_
        refine V.top (hr k c11).1 ?_
        refine V.istore dX7_minutesOf_24 (Nat.le_of_ble_eq_true rfl) ?_
        refine V.ildn 2 dX7_minutesOf_26 rfl rfl ?_
        refine V.aldn 0 dX7_minutesOf_27 rfl rfl ?_
        refine V.gf7_2 dX7_minutesOf_28 f_X7_7 ?_
        refine V.iload dX7_minutesOf_31 rfl ?_
        refine V.ald_46 dX7_minutesOf_33 (ix_nI (by omega) (by decide)) ?_
        refine V.top (congrFun f2 _) ?_
        refine V.ildn 3 dX7_minutesOf_34 rfl rfl ?_
        first | refine V.if_leN 78 dX7_minutesOf_35 (by decide) (by omega) (fun c35 => ?_) (fun c35 => ?_) | refine V.if_le 78 dX7_minutesOf_35 (by decide) (fun c35 => ?_) (fun c35 => ?_)
        · refine V.iconst (nI 0) dX7_minutesOf_78 (by decide +kernel) ?_
          refine V.iadd dX7_minutesOf_79 ?_
          refine V.iadd dX7_minutesOf_80 ?_
          refine V.top (y := mn F l (k + 1)) (by rw [mn, if_pos c35]) ?_
          refine V.istn 2 dX7_minutesOf_81 rfl (Nat.le_of_ble_eq_true rfl) ?_
          first | refine V.iincN dX7_minutesOf_82 rfl ?_ | refine V.iinc dX7_minutesOf_82 rfl rfl ?_
          refine V.goto 4 dX7_minutesOf_85 (by decide) ?_
          exact ih _ (by omega) (k + 1) rfl (by omega) _
        · have hs2 := (hr (k - 1) (by omega)).2
          have hp2 := hp _ hs2
          refine V.aldn 0 dX7_minutesOf_38 rfl rfl ?_
          refine V.gf7_12 dX7_minutesOf_39 f_X7_41 ?_
          refine V.aldn 0 dX7_minutesOf_42 rfl rfl ?_
          refine V.gf7_3 dX7_minutesOf_43 f_X7_13 ?_
          refine V.iload dX7_minutesOf_46 rfl ?_
          refine V.ald_47 dX7_minutesOf_48 (ix_nI (by omega) (by decide)) ?_
          refine V.top ((congrFun f3 _).trans hp1.1) ?_
          refine V.ald_56 dX7_minutesOf_49 (ix_nI (by omega) (by decide)) ?_
          refine V.top (congrFun f12 _) ?_
          refine V.aldn 0 dX7_minutesOf_50 rfl rfl ?_
          refine V.gf7_12 dX7_minutesOf_51 f_X7_41 ?_
          refine V.aldn 0 dX7_minutesOf_54 rfl rfl ?_
          refine V.gf7_3 dX7_minutesOf_55 f_X7_13 ?_
          refine V.aldn 0 dX7_minutesOf_58 rfl rfl ?_
          refine V.gf7_17 dX7_minutesOf_59 f_X7_53 ?_
          refine V.iconst (nI 5) dX7_minutesOf_62 (by decide +kernel) ?_
          refine V.ildn 1 dX7_minutesOf_63 rfl rfl ?_
          first | refine V.imulN dX7_minutesOf_64 ?_ | refine V.imul dX7_minutesOf_64 ?_
          refine V.ildn 3 dX7_minutesOf_65 rfl rfl ?_
          first | refine V.iaddN dX7_minutesOf_66 ?_ | refine V.iadd dX7_minutesOf_66 ?_
          refine V.iconst (nI 1) dX7_minutesOf_67 (by decide +kernel) ?_
          first | refine V.isubN dX7_minutesOf_68 (by omega) ?_ | refine V.isub dX7_minutesOf_68 ?_
          refine V.ald_60 dX7_minutesOf_69 (ix_nI (by omega) (by decide)) ?_
          refine V.top (y := nI (l.getD (k - 1) 0)) (by rw [show 5 * d + k - 1 = 5 * d + (k - 1) by omega]; exact (hr (k - 1) (by omega)).1) ?_
          refine V.ald_47 dX7_minutesOf_70 (ix_nI (by omega) (by decide)) ?_
          refine V.top ((congrFun f3 _).trans hp2.1) ?_
          refine V.ald_56 dX7_minutesOf_71 (ix_nI (by omega) (by decide)) ?_
          refine V.top (congrFun f12 _) ?_
          refine V.cSi (t_distance (F 12 (pl F (l.getD k 0))) (F 12 (pl F (l.getD (k - 1) 0)))) dX7_minutesOf_72 k_X7_109 rfl rfl (Nat.le_of_ble_eq_true rfl) rfl ?_
          refine V.goto 79 dX7_minutesOf_75 (by decide) ?_
          refine V.iadd dX7_minutesOf_79 ?_
          refine V.iadd dX7_minutesOf_80 ?_
          refine V.top (y := mn F l (k + 1)) (by rw [mn, if_neg (by omega)]; rfl) ?_
          refine V.istn 2 dX7_minutesOf_81 rfl (Nat.le_of_ble_eq_true rfl) ?_
          first | refine V.iincN dX7_minutesOf_82 rfl ?_ | refine V.iinc dX7_minutesOf_82 rfl rfl ?_
          refine V.goto 4 dX7_minutesOf_85 (by decide) ?_
          exact ih _ (by omega) (k + 1) rfl (by omega) _
  refine V.iconst (nI 0) dX7_minutesOf_0 (by decide +kernel) ?_
  refine V.istn 2 dX7_minutesOf_1 rfl (Nat.le_of_ble_eq_true rfl) ?_
  refine V.iconst (nI 0) dX7_minutesOf_2 (by decide +kernel) ?_
  refine V.istn 3 dX7_minutesOf_3 rfl (Nat.le_of_ble_eq_true rfl) ?_
  exact loop l.length 0 (by omega) (by omega) none
end MODEL
end
section
/-! the reference: lights, places, players -/
def sn (F : Nat → Nat → Int32) (l : List Nat) : Nat → Int32
  | 0 => nI 0
  | i + 1 => sn F l i + (if F 4 (l.getD i 0) = nI 1 then F 2 (l.getD i 0) else nI 0)
def sunm (F : Nat → Nat → Int32) (l : List Nat) : Int32 := sn F l l.length
theorem any_at {l : List Nat} {p : Nat → Bool} {k : Nat} (hk : k < l.length) (h : p (l.getD k 0) = true) : l.any p = true := by
  rw [List.any_eq_true]
  refine ⟨l.getD k 0, ?_, h⟩
  rw [List.getD_eq_getElem?_getD, List.getElem?_eq_getElem hk]
  exact List.getElem_mem hk
theorem any_no {l : List Nat} {p : Nat → Bool} (h : ∀ k, k < l.length → p (l.getD k 0) = false) : l.any p = false := by
  rw [List.any_eq_false]
  intro x hx
  obtain ⟨k, hk, rfl⟩ := List.getElem_of_mem hx
  have := h k hk
  rw [List.getD_eq_getElem?_getD, List.getElem?_eq_getElem hk] at this
  simpa using this
theorem getD_mem {l : List Nat} {k : Nat} (hk : k < l.length) : l.getD k 0 ∈ l := by
  rw [List.getD_eq_getElem?_getD, List.getElem?_eq_getElem hk]
  exact List.getElem_mem hk
theorem mem_getD {l : List Nat} {x : Nat} (h : x ∈ l) : ∃ k, k < l.length ∧ l.getD k 0 = x := by
  obtain ⟨k, hk, rfl⟩ := List.getElem_of_mem h
  exact ⟨k, hk, by rw [List.getD_eq_getElem?_getD, List.getElem?_eq_getElem hk]; rfl⟩
def hasL (F : Nat → Nat → Int32) (l : List Nat) (v : Int32) : Bool := l.any (fun s => decide (F 4 s = v))
def ixo (l : List Nat) (s : Nat) : Int32 := if s ∈ l then nI (l.idxOf s) else -1
theorem ixo_at {l : List Nat} {s k : Nat} (hk : k < l.length) (h : l.getD k 0 = s) (hn : ∀ i, i < k → l.getD i 0 ≠ s) : ixo l s = nI k := by
  have hm : s ∈ l := by rw [← h]; exact getD_mem hk
  rw [ixo, if_pos hm]
  congr 1
  have h1 : l.idxOf s < l.length := List.idxOf_lt_length_of_mem hm
  have h2 : l.getD (l.idxOf s) 0 = s := by
    rw [List.getD_eq_getElem?_getD, List.getElem?_eq_getElem h1]
    exact List.getElem_idxOf h1
  rcases Nat.lt_trichotomy (l.idxOf s) k with q | q | q
  · exact absurd h2 (hn _ q)
  · exact q
  · exfalso
    have := List.not_of_lt_findIdx (xs := l) (p := (· == s)) (i := k) q
    rw [List.getD_eq_getElem?_getD, List.getElem?_eq_getElem hk] at h
    simp at this
    exact this h
theorem ixo_no {l : List Nat} {s : Nat} (h : ∀ k, k < l.length → l.getD k 0 ≠ s) : ixo l s = -1 := by
  rw [ixo, if_neg]
  intro hm
  obtain ⟨k, hk, e⟩ := mem_getD hm
  exact h k hk e
def btB (x : Int32) (p : Nat) : Bool := decide ((x >>> (nI p &&& 31) &&& nI 1) = nI 1)
def plB (F : Nat → Nat → Int32) (l : List Nat) (p : Nat) : Bool := l.any (fun s => btB (F 6 s) p)
def usB (F : Nat → Nat → Int32) (l : List Nat) (p : Nat) : Bool := l.any (fun s => decide (F 3 s = nI p))
def dI (o : Option Nat) : Int32 := match o with
  | none => -1
  | some d => nI d
section MODEL
variable {f ro rs : Nat → Nat → Int32} {rw rb : Nat → Nat} {m : Nat → Nat → Int32} {dp : Nat}
theorem t_lightOf {F : Nat → Nat → Int32} (hF : m 2 = F 2 ∧ m 4 = F 4) {l : List Nat} {d : Nat} (hd : d < 8) (hl : rowM m d l) : Mt (dp + 1) 0 0 mX7_lightOf [.ref 45, .int (nI d)] (HH f ro rs rw rb m) (RI (sunm F l) (HH f ro rs rw rb m)) := by
  refine Mt.of rfl rfl (Nat.le_of_ble_eq_true rfl) rfl ?_
  obtain ⟨hz, hz5, hr⟩ := hl
  obtain ⟨f2, f4⟩ := hF
  have loop : ∀ (j k : Nat), l.length - k = j → k ≤ l.length → V mX7_lightOf (dp + 1) 0 0 4 [some (.ref 45), some (.int (nI d)), some (.int (sn F l k)), some (.int (nI k))] [] (HH f ro rs rw rb m) (RI (sunm F l) (HH f ro rs rw rb m)) := by
    intro j
    induction j using Nat.strongRecOn with
    | _ j ih =>
      intro k hj hk
      refine V.ildn 3 dX7_lightOf_4 rfl rfl ?_
      refine V.aldn 0 dX7_lightOf_5 rfl rfl ?_
      refine V.gf7_16 dX7_lightOf_6 f_X7_50 ?_
      refine V.ildn 1 dX7_lightOf_9 rfl rfl ?_
      refine V.ald_59 dX7_lightOf_10 (ix_nI (by omega) (by decide)) ?_
      refine V.top hz ?_
      first | refine V.icmp_geN 61 dX7_lightOf_11 (by decide) (by omega) (by omega) (fun c11 => ?_) (fun c11 => ?_) | refine V.icmp_ge 61 dX7_lightOf_11 (by decide) (fun c11 => ?_) (fun c11 => ?_)
      · obtain rfl : k = l.length := by omega
        refine V.ildn 2 dX7_lightOf_61 rfl rfl ?_
        exact V.ireturn dX7_lightOf_62 rfl (by first | rfl | decide +kernel) (⟨rfl, rfl⟩)
      · have hs := (hr k c11).2
        refine V.ildn 2 dX7_lightOf_14 rfl rfl ?_
        refine V.aldn 0 dX7_lightOf_15 rfl rfl ?_
        refine V.gf7_4 dX7_lightOf_16 f_X7_16 ?_
        refine V.aldn 0 dX7_lightOf_19 rfl rfl ?_
        refine V.gf7_17 dX7_lightOf_20 f_X7_53 ?_
        refine V.iconst (nI 5) dX7_lightOf_23 (by decide +kernel) ?_
        refine V.ildn 1 dX7_lightOf_24 rfl rfl ?_
        first | refine V.imulN dX7_lightOf_25 ?_ | refine V.imul dX7_lightOf_25 ?_
        refine V.ildn 3 dX7_lightOf_26 rfl rfl ?_
        first | refine V.iaddN dX7_lightOf_27 ?_ | refine V.iadd dX7_lightOf_27 ?_
        refine V.ald_60 dX7_lightOf_28 (ix_nI (by omega) (by decide)) ?_
        refine V.top (hr k c11).1 ?_
        refine V.ald_48 dX7_lightOf_29 (ix_nI (by omega) (by decide)) ?_
        refine V.top (congrFun f4 _) ?_
        refine V.iconst (nI 1) dX7_lightOf_30 (by decide +kernel) ?_
        refine V.icmp_ne 52 dX7_lightOf_31 (by decide) (fun c31 => ?_) (fun c31 => ?_)
        · refine V.iconst (nI 0) dX7_lightOf_52 (by decide +kernel) ?_
          refine V.iadd dX7_lightOf_53 ?_
          refine V.top (y := sn F l (k + 1)) (by rw [sn, if_neg c31]) ?_
          refine V.istn 2 dX7_lightOf_54 rfl (Nat.le_of_ble_eq_true rfl) ?_
          first | refine V.iincN dX7_lightOf_55 rfl ?_ | refine V.iinc dX7_lightOf_55 rfl rfl ?_
          refine V.goto 4 dX7_lightOf_58 (by decide) ?_
          exact ih _ (by omega) (k + 1) rfl (by omega)
        · refine V.aldn 0 dX7_lightOf_34 rfl rfl ?_
          refine V.gf7_2 dX7_lightOf_35 f_X7_7 ?_
          refine V.aldn 0 dX7_lightOf_38 rfl rfl ?_
          refine V.gf7_17 dX7_lightOf_39 f_X7_53 ?_
          refine V.iconst (nI 5) dX7_lightOf_42 (by decide +kernel) ?_
          refine V.ildn 1 dX7_lightOf_43 rfl rfl ?_
          first | refine V.imulN dX7_lightOf_44 ?_ | refine V.imul dX7_lightOf_44 ?_
          refine V.ildn 3 dX7_lightOf_45 rfl rfl ?_
          first | refine V.iaddN dX7_lightOf_46 ?_ | refine V.iadd dX7_lightOf_46 ?_
          refine V.ald_60 dX7_lightOf_47 (ix_nI (by omega) (by decide)) ?_
          refine V.top (hr k c11).1 ?_
          refine V.ald_46 dX7_lightOf_48 (ix_nI (by omega) (by decide)) ?_
          refine V.top (congrFun f2 _) ?_
          refine V.goto 53 dX7_lightOf_49 (by decide) ?_
          refine V.iadd dX7_lightOf_53 ?_
          refine V.top (y := sn F l (k + 1)) (by rw [sn, if_pos c31]) ?_
          refine V.istn 2 dX7_lightOf_54 rfl (Nat.le_of_ble_eq_true rfl) ?_
          first | refine V.iincN dX7_lightOf_55 rfl ?_ | refine V.iinc dX7_lightOf_55 rfl rfl ?_
          refine V.goto 4 dX7_lightOf_58 (by decide) ?_
          exact ih _ (by omega) (k + 1) rfl (by omega)
  refine V.iconst (nI 0) dX7_lightOf_0 (by decide +kernel) ?_
  refine V.istn 2 dX7_lightOf_1 rfl (Nat.le_of_ble_eq_true rfl) ?_
  refine V.iconst (nI 0) dX7_lightOf_2 (by decide +kernel) ?_
  refine V.istn 3 dX7_lightOf_3 rfl (Nat.le_of_ble_eq_true rfl) ?_
  exact loop l.length 0 (by omega) (by omega)
theorem t_has {F : Nat → Nat → Int32} (f4 : m 4 = F 4) {l : List Nat} {d : Nat} (hd : d < 8) (hl : rowM m d l) (v : Int32) : Mt (dp + 1) 0 0 mX7_has [.ref 45, .int (nI d), .int v] (HH f ro rs rw rb m) (RI (bI (hasL F l v)) (HH f ro rs rw rb m)) := by
  refine Mt.of rfl rfl (Nat.le_of_ble_eq_true rfl) rfl ?_
  obtain ⟨hz, hz5, hr⟩ := hl
  have loop : ∀ (j k : Nat), l.length - k = j → k ≤ l.length → (∀ i, i < k → ¬ F 4 (l.getD i 0) = v) → V mX7_has (dp + 1) 0 0 2 [some (.ref 45), some (.int (nI d)), some (.int v), some (.int (nI k))] [] (HH f ro rs rw rb m) (RI (bI (hasL F l v)) (HH f ro rs rw rb m)) := by
    intro j
    induction j using Nat.strongRecOn with
    | _ j ih =>
      intro k hj hk hno
      refine V.ildn 3 dX7_has_2 rfl rfl ?_
      refine V.aldn 0 dX7_has_3 rfl rfl ?_
      refine V.gf7_16 dX7_has_4 f_X7_50 ?_
      refine V.ildn 1 dX7_has_7 rfl rfl ?_
      refine V.ald_59 dX7_has_8 (ix_nI (by omega) (by decide)) ?_
      refine V.top hz ?_
      first | refine V.icmp_geN 39 dX7_has_9 (by decide) (by omega) (by omega) (fun c9 => ?_) (fun c9 => ?_) | refine V.icmp_ge 39 dX7_has_9 (by decide) (fun c9 => ?_) (fun c9 => ?_)
      · refine V.iconst (nI 0) dX7_has_39 (by decide +kernel) ?_
        exact V.ireturn dX7_has_40 rfl (by first | rfl | decide +kernel) (⟨congrArg (fun x => some (Value.int x)) (bI_f (any_no (fun i hi => by simpa using hno i (by omega)))), rfl⟩)
      · have hs := (hr k c9).2
        refine V.aldn 0 dX7_has_12 rfl rfl ?_
        refine V.gf7_4 dX7_has_13 f_X7_16 ?_
        refine V.aldn 0 dX7_has_16 rfl rfl ?_
        refine V.gf7_17 dX7_has_17 f_X7_53 ?_
        refine V.iconst (nI 5) dX7_has_20 (by decide +kernel) ?_
        refine V.ildn 1 dX7_has_21 rfl rfl ?_
        first | refine V.imulN dX7_has_22 ?_ | refine V.imul dX7_has_22 ?_
        refine V.ildn 3 dX7_has_23 rfl rfl ?_
        first | refine V.iaddN dX7_has_24 ?_ | refine V.iadd dX7_has_24 ?_
        refine V.ald_60 dX7_has_25 (ix_nI (by omega) (by decide)) ?_
        refine V.top (hr k c9).1 ?_
        refine V.ald_48 dX7_has_26 (ix_nI (by omega) (by decide)) ?_
        refine V.top (congrFun f4 _) ?_
        refine V.ildn 2 dX7_has_27 rfl rfl ?_
        refine V.icmp_ne 33 dX7_has_28 (by decide) (fun c28 => ?_) (fun c28 => ?_)
        · first | refine V.iincN dX7_has_33 rfl ?_ | refine V.iinc dX7_has_33 rfl rfl ?_
          refine V.goto 2 dX7_has_36 (by decide) ?_
          exact ih _ (by omega) (k + 1) rfl (by omega) (fun i hi => by rcases Nat.lt_succ_iff_lt_or_eq.mp hi with q | q; exact hno i q; rw [q]; exact c28)
        · refine V.iconst (nI 1) dX7_has_31 (by decide +kernel) ?_
          exact V.ireturn dX7_has_32 rfl (by first | rfl | decide +kernel) (⟨congrArg (fun x => some (Value.int x)) (bI_t (any_at c9 (by simpa using c28))), rfl⟩)
  refine V.iconst (nI 0) dX7_has_0 (by decide +kernel) ?_
  refine V.istn 3 dX7_has_1 rfl (Nat.le_of_ble_eq_true rfl) ?_
  exact loop l.length 0 (by omega) (by omega) (fun i hi => absurd hi (Nat.not_lt_zero i))
theorem t_plays {F : Nat → Nat → Int32} (f6 : m 6 = F 6) {l : List Nat} {d : Nat} (hd : d < 8) (hl : rowM m d l) (p : Nat) : Mt (dp + 1) 0 0 mX7_plays [.ref 45, .int (nI p), .int (nI d)] (HH f ro rs rw rb m) (RI (bI (plB F l p)) (HH f ro rs rw rb m)) := by
  refine Mt.of rfl rfl (Nat.le_of_ble_eq_true rfl) rfl ?_
  obtain ⟨hz, hz5, hr⟩ := hl
  have loop : ∀ (j k : Nat), l.length - k = j → k ≤ l.length → (∀ i, i < k → btB (F 6 (l.getD i 0)) p = false) → V mX7_plays (dp + 1) 0 0 2 [some (.ref 45), some (.int (nI p)), some (.int (nI d)), some (.int (nI k))] [] (HH f ro rs rw rb m) (RI (bI (plB F l p)) (HH f ro rs rw rb m)) := by
    intro j
    induction j using Nat.strongRecOn with
    | _ j ih =>
      intro k hj hk hno
      refine V.ildn 3 dX7_plays_2 rfl rfl ?_
      refine V.aldn 0 dX7_plays_3 rfl rfl ?_
      refine V.gf7_16 dX7_plays_4 f_X7_50 ?_
      refine V.ildn 2 dX7_plays_7 rfl rfl ?_
      refine V.ald_59 dX7_plays_8 (ix_nI (by omega) (by decide)) ?_
      refine V.top hz ?_
      first | refine V.icmp_geN 43 dX7_plays_9 (by decide) (by omega) (by omega) (fun c9 => ?_) (fun c9 => ?_) | refine V.icmp_ge 43 dX7_plays_9 (by decide) (fun c9 => ?_) (fun c9 => ?_)
      · refine V.iconst (nI 0) dX7_plays_43 (by decide +kernel) ?_
        exact V.ireturn dX7_plays_44 rfl (by first | rfl | decide +kernel) (⟨congrArg (fun x => some (Value.int x)) (bI_f (any_no (fun i hi => hno i (by omega)))), rfl⟩)
      · have hs := (hr k c9).2
        refine V.aldn 0 dX7_plays_12 rfl rfl ?_
        refine V.gf7_6 dX7_plays_13 f_X7_23 ?_
        refine V.aldn 0 dX7_plays_16 rfl rfl ?_
        refine V.gf7_17 dX7_plays_17 f_X7_53 ?_
        refine V.iconst (nI 5) dX7_plays_20 (by decide +kernel) ?_
        refine V.ildn 2 dX7_plays_21 rfl rfl ?_
        first | refine V.imulN dX7_plays_22 ?_ | refine V.imul dX7_plays_22 ?_
        refine V.ildn 3 dX7_plays_23 rfl rfl ?_
        first | refine V.iaddN dX7_plays_24 ?_ | refine V.iadd dX7_plays_24 ?_
        refine V.ald_60 dX7_plays_25 (ix_nI (by omega) (by decide)) ?_
        refine V.top (hr k c9).1 ?_
        refine V.ald_50 dX7_plays_26 (ix_nI (by omega) (by decide)) ?_
        refine V.top (congrFun f6 _) ?_
        refine V.ildn 1 dX7_plays_27 rfl rfl ?_
        refine V.ishr dX7_plays_28 ?_
        refine V.iconst (nI 1) dX7_plays_29 (by decide +kernel) ?_
        refine V.iand dX7_plays_30 ?_
        refine V.iconst (nI 1) dX7_plays_31 (by decide +kernel) ?_
        refine V.icmp_ne 37 dX7_plays_32 (by decide) (fun c32 => ?_) (fun c32 => ?_)
        · first | refine V.iincN dX7_plays_37 rfl ?_ | refine V.iinc dX7_plays_37 rfl rfl ?_
          refine V.goto 2 dX7_plays_40 (by decide) ?_
          exact ih _ (by omega) (k + 1) rfl (by omega) (fun i hi => by rcases Nat.lt_succ_iff_lt_or_eq.mp hi with q | q; exact hno i q; rw [q]; exact decide_eq_false c32)
        · refine V.iconst (nI 1) dX7_plays_35 (by decide +kernel) ?_
          exact V.ireturn dX7_plays_36 rfl (by first | rfl | decide +kernel) (⟨congrArg (fun x => some (Value.int x)) (bI_t (any_at c9 (decide_eq_true c32))), rfl⟩)
  refine V.iconst (nI 0) dX7_plays_0 (by decide +kernel) ?_
  refine V.istn 3 dX7_plays_1 rfl (Nat.le_of_ble_eq_true rfl) ?_
  exact loop l.length 0 (by omega) (by omega) (fun i hi => absurd hi (Nat.not_lt_zero i))
theorem t_uses {F : Nat → Nat → Int32} (f3 : m 3 = F 3) {l : List Nat} {d : Nat} (hd : d < 8) (hl : rowM m d l) (p : Nat) : Mt (dp + 1) 0 0 mX7_uses [.ref 45, .int (nI d), .int (nI p)] (HH f ro rs rw rb m) (RI (bI (usB F l p)) (HH f ro rs rw rb m)) := by
  refine Mt.of rfl rfl (Nat.le_of_ble_eq_true rfl) rfl ?_
  obtain ⟨hz, hz5, hr⟩ := hl
  have loop : ∀ (j k : Nat), l.length - k = j → k ≤ l.length → (∀ i, i < k → ¬ F 3 (l.getD i 0) = nI p) → V mX7_uses (dp + 1) 0 0 2 [some (.ref 45), some (.int (nI d)), some (.int (nI p)), some (.int (nI k))] [] (HH f ro rs rw rb m) (RI (bI (usB F l p)) (HH f ro rs rw rb m)) := by
    intro j
    induction j using Nat.strongRecOn with
    | _ j ih =>
      intro k hj hk hno
      refine V.ildn 3 dX7_uses_2 rfl rfl ?_
      refine V.aldn 0 dX7_uses_3 rfl rfl ?_
      refine V.gf7_16 dX7_uses_4 f_X7_50 ?_
      refine V.ildn 1 dX7_uses_7 rfl rfl ?_
      refine V.ald_59 dX7_uses_8 (ix_nI (by omega) (by decide)) ?_
      refine V.top hz ?_
      first | refine V.icmp_geN 39 dX7_uses_9 (by decide) (by omega) (by omega) (fun c9 => ?_) (fun c9 => ?_) | refine V.icmp_ge 39 dX7_uses_9 (by decide) (fun c9 => ?_) (fun c9 => ?_)
      · refine V.iconst (nI 0) dX7_uses_39 (by decide +kernel) ?_
        exact V.ireturn dX7_uses_40 rfl (by first | rfl | decide +kernel) (⟨congrArg (fun x => some (Value.int x)) (bI_f (any_no (fun i hi => by simpa using hno i (by omega)))), rfl⟩)
      · have hs := (hr k c9).2
        refine V.aldn 0 dX7_uses_12 rfl rfl ?_
        refine V.gf7_3 dX7_uses_13 f_X7_13 ?_
        refine V.aldn 0 dX7_uses_16 rfl rfl ?_
        refine V.gf7_17 dX7_uses_17 f_X7_53 ?_
        refine V.iconst (nI 5) dX7_uses_20 (by decide +kernel) ?_
        refine V.ildn 1 dX7_uses_21 rfl rfl ?_
        first | refine V.imulN dX7_uses_22 ?_ | refine V.imul dX7_uses_22 ?_
        refine V.ildn 3 dX7_uses_23 rfl rfl ?_
        first | refine V.iaddN dX7_uses_24 ?_ | refine V.iadd dX7_uses_24 ?_
        refine V.ald_60 dX7_uses_25 (ix_nI (by omega) (by decide)) ?_
        refine V.top (hr k c9).1 ?_
        refine V.ald_47 dX7_uses_26 (ix_nI (by omega) (by decide)) ?_
        refine V.top (congrFun f3 _) ?_
        refine V.ildn 2 dX7_uses_27 rfl rfl ?_
        refine V.icmp_ne 33 dX7_uses_28 (by decide) (fun c28 => ?_) (fun c28 => ?_)
        · first | refine V.iincN dX7_uses_33 rfl ?_ | refine V.iinc dX7_uses_33 rfl rfl ?_
          refine V.goto 2 dX7_uses_36 (by decide) ?_
          exact ih _ (by omega) (k + 1) rfl (by omega) (fun i hi => by rcases Nat.lt_succ_iff_lt_or_eq.mp hi with q | q; exact hno i q; rw [q]; exact c28)
        · refine V.iconst (nI 1) dX7_uses_31 (by decide +kernel) ?_
          exact V.ireturn dX7_uses_32 rfl (by first | rfl | decide +kernel) (⟨congrArg (fun x => some (Value.int x)) (bI_t (any_at c9 (by simpa using c28))), rfl⟩)
  refine V.iconst (nI 0) dX7_uses_0 (by decide +kernel) ?_
  refine V.istn 3 dX7_uses_1 rfl (Nat.le_of_ble_eq_true rfl) ?_
  exact loop l.length 0 (by omega) (by omega) (fun i hi => absurd hi (Nat.not_lt_zero i))
theorem t_placeIn {s : Nat} (hs : s < 20) {o : Option Nat} (ho : m 8 s = dI o) {l : List Nat} (hd : ∀ d, o = some d → d < 8 ∧ rowM m d l) (hn : o = none → l = []) : Mt (dp + 1) 0 0 mX7_placeIn [.ref 45, .int (nI s)] (HH f ro rs rw rb m) (RI (ixo l s) (HH f ro rs rw rb m)) := by
  refine Mt.of rfl rfl (Nat.le_of_ble_eq_true rfl) rfl ?_
  cases o with
  | none =>
    have hn := hn rfl
    subst hn
    refine V.aldn 0 dX7_placeIn_0 rfl rfl ?_
    refine V.gf7_8 dX7_placeIn_1 f_X7_29 ?_
    refine V.ildn 1 dX7_placeIn_4 rfl rfl ?_
    refine V.ald_52 dX7_placeIn_5 (ix_nI (by omega) (by decide)) ?_
    refine V.top ho ?_
    refine V.istn 2 dX7_placeIn_6 rfl (Nat.le_of_ble_eq_true rfl) ?_
    refine V.iconst (nI 0) dX7_placeIn_7 (by decide +kernel) ?_
    refine V.istn 3 dX7_placeIn_8 rfl (Nat.le_of_ble_eq_true rfl) ?_
    refine V.ildn 2 dX7_placeIn_9 rfl rfl ?_
    refine V.iconst (-1) dX7_placeIn_10 (by decide +kernel) ?_
    refine V.icmp_eq 46 dX7_placeIn_11 (by decide) (fun c11 => ?_) (fun c11 => ?_)
    · refine V.iconst (-1) dX7_placeIn_46 (by decide +kernel) ?_
      exact V.ireturn dX7_placeIn_47 rfl (by first | rfl | decide +kernel) (⟨rfl, rfl⟩)
    · exact absurd rfl c11
  | some d =>
    obtain ⟨hd, hz, hz5, hr⟩ := hd d rfl
    have loop : ∀ (j k : Nat), l.length - k = j → k ≤ l.length → (∀ i, i < k → l.getD i 0 ≠ s) → V mX7_placeIn (dp + 1) 0 0 9 [some (.ref 45), some (.int (nI s)), some (.int (nI d)), some (.int (nI k))] [] (HH f ro rs rw rb m) (RI (ixo l s) (HH f ro rs rw rb m)) := by
      intro j
      induction j using Nat.strongRecOn with
      | _ j ih =>
        intro k hj hk hno
        refine V.ildn 2 dX7_placeIn_9 rfl rfl ?_
        refine V.iconst (-1) dX7_placeIn_10 (by decide +kernel) ?_
        refine V.icmp_eq 46 dX7_placeIn_11 (by decide) (fun c11 => ?_) (fun c11 => ?_)
        · exact absurd c11 (nI_m1 (by omega))
        · refine V.ildn 3 dX7_placeIn_14 rfl rfl ?_
          refine V.aldn 0 dX7_placeIn_15 rfl rfl ?_
          refine V.gf7_16 dX7_placeIn_16 f_X7_50 ?_
          refine V.ildn 2 dX7_placeIn_19 rfl rfl ?_
          refine V.ald_59 dX7_placeIn_20 (ix_nI (by omega) (by decide)) ?_
          refine V.top hz ?_
          first | refine V.icmp_geN 46 dX7_placeIn_21 (by decide) (by omega) (by omega) (fun c21 => ?_) (fun c21 => ?_) | refine V.icmp_ge 46 dX7_placeIn_21 (by decide) (fun c21 => ?_) (fun c21 => ?_)
          · refine V.iconst (-1) dX7_placeIn_46 (by decide +kernel) ?_
            exact V.ireturn dX7_placeIn_47 rfl (by first | rfl | decide +kernel) (⟨by rw [ixo_no (fun i hi => hno i (by omega))], rfl⟩)
          · have hs2 := (hr k c21).2
            refine V.aldn 0 dX7_placeIn_24 rfl rfl ?_
            refine V.gf7_17 dX7_placeIn_25 f_X7_53 ?_
            refine V.iconst (nI 5) dX7_placeIn_28 (by decide +kernel) ?_
            refine V.ildn 2 dX7_placeIn_29 rfl rfl ?_
            first | refine V.imulN dX7_placeIn_30 ?_ | refine V.imul dX7_placeIn_30 ?_
            refine V.ildn 3 dX7_placeIn_31 rfl rfl ?_
            first | refine V.iaddN dX7_placeIn_32 ?_ | refine V.iadd dX7_placeIn_32 ?_
            refine V.ald_60 dX7_placeIn_33 (ix_nI (by omega) (by decide)) ?_
            refine V.top (hr k c21).1 ?_
            refine V.ildn 1 dX7_placeIn_34 rfl rfl ?_
            first | refine V.icmp_neN 40 dX7_placeIn_35 (by decide) (by omega) (by omega) (fun c35 => ?_) (fun c35 => ?_) | refine V.icmp_ne 40 dX7_placeIn_35 (by decide) (fun c35 => ?_) (fun c35 => ?_)
            · first | refine V.iincN dX7_placeIn_40 rfl ?_ | refine V.iinc dX7_placeIn_40 rfl rfl ?_
              refine V.goto 9 dX7_placeIn_43 (by decide) ?_
              exact ih _ (by omega) (k + 1) rfl (by omega) (fun i hi => by rcases Nat.lt_succ_iff_lt_or_eq.mp hi with q | q; exact hno i q; rw [q]; exact c35)
            · refine V.ildn 3 dX7_placeIn_38 rfl rfl ?_
              exact V.ireturn dX7_placeIn_39 rfl (by first | rfl | decide +kernel) (⟨by rw [ixo_at c21 c35 hno], rfl⟩)
    refine V.aldn 0 dX7_placeIn_0 rfl rfl ?_
    refine V.gf7_8 dX7_placeIn_1 f_X7_29 ?_
    refine V.ildn 1 dX7_placeIn_4 rfl rfl ?_
    refine V.ald_52 dX7_placeIn_5 (ix_nI (by omega) (by decide)) ?_
    refine V.top ho ?_
    refine V.istn 2 dX7_placeIn_6 rfl (Nat.le_of_ble_eq_true rfl) ?_
    refine V.iconst (nI 0) dX7_placeIn_7 (by decide +kernel) ?_
    refine V.istn 3 dX7_placeIn_8 rfl (Nat.le_of_ble_eq_true rfl) ?_
    exact loop l.length 0 (by omega) (by omega) (fun i hi => absurd hi (Nat.not_lt_zero i))
end MODEL
end
section
/-! the reference: days of a player, what is paid, rents, over -/
def eg (pb : Nat → Bool) (last : Bool) : Nat → Option Nat
  | 0 => none
  | d + 1 => if pb d = true ∧ (last = true ∨ eg pb last d = none) then some d else eg pb last d
def cnt (pb : Nat → Bool) : Nat → Nat
  | 0 => 0
  | d + 1 => cnt pb d + (if pb d = true then 1 else 0)
/-- paid and idle days, day by day -/
def pdS (pb : Nat → Bool) (gap : Int32) : Nat → Nat × Nat
  | 0 => (0, 0)
  | d + 1 => if pb d = true then ((pdS pb gap d).1 + (if 0 < (pdS pb gap d).1 ∧ ¬ (0 < gap ∧ gap ≤ nI (pdS pb gap d).2) then (pdS pb gap d).2 else 0) + 1, 0) else ((pdS pb gap d).1, (pdS pb gap d).2 + 1)
def sm (g : Nat → Int32) : Nat → Int32
  | 0 => nI 0
  | k + 1 => sm g k + g k
theorem sm_congr {g g' : Nat → Int32} : ∀ {n : Nat}, (∀ k, k < n → g k = g' k) → sm g n = sm g' n
  | 0, _ => rfl
  | n + 1, h => by
    show sm g n + g n = sm g' n + g' n
    rw [sm_congr (fun k hk => h k (Nat.lt_succ_of_lt hk)), h n (Nat.lt_succ_self n)]
def ovr (x : Int32) : Int32 := if nI 480 < x then (x - nI 480 + nI 29) / nI 30 else nI 0
theorem eg_lt {pb : Nat → Bool} {last : Bool} : ∀ {n d : Nat}, eg pb last n = some d → d < n ∧ pb d = true
  | 0, d, h => by cases h
  | n + 1, d, h => by
    rw [eg] at h
    split at h
    · cases h
      rename_i q
      exact ⟨Nat.lt_succ_self _, q.1⟩
    · have := eg_lt h
      exact ⟨by omega, this.2⟩
theorem eg_first {pb : Nat → Bool} : ∀ {n d : Nat}, eg pb false n = some d → ∀ i, i < d → pb i = false
  | 0, d, h => by cases h
  | n + 1, d, h => by
    rw [eg] at h
    split at h
    · rename_i q
      cases h
      intro i hi
      have hn : eg pb false n = none := by
        rcases q.2 with q2 | q2
        · cases q2
        · exact q2
      exact eg_none hn i hi
    · exact eg_first h
where
  eg_none {pb : Nat → Bool} {last : Bool} : ∀ {n : Nat}, eg pb last n = none → ∀ i, i < n → pb i = false
    | 0, _, i, hi => absurd hi (Nat.not_lt_zero i)
    | n + 1, h, i, hi => by
      rw [eg] at h
      split at h
      · cases h
      · rename_i q
        have h0 := eg_none h
        rcases Nat.lt_succ_iff_lt_or_eq.mp hi with g | g
        · exact h0 i g
        · subst g
          cases hp : pb i with
          | false => rfl
          | true => exact absurd ⟨hp, Or.inr h⟩ q
theorem eg_none {pb : Nat → Bool} {last : Bool} : ∀ {n : Nat}, eg pb last n = none → ∀ i, i < n → pb i = false := eg_first.eg_none
theorem eg_last {pb : Nat → Bool} : ∀ {n d : Nat}, eg pb true n = some d → ∀ i, d < i → i < n → pb i = false
  | 0, d, h => by cases h
  | n + 1, d, h => by
    rw [eg] at h
    split at h
    · cases h
      intro i h1 h2
      omega
    · rename_i q
      intro i h1 h2
      rcases Nat.lt_succ_iff_lt_or_eq.mp h2 with g | g
      · exact eg_last h i h1 g
      · subst g
        cases hp : pb i with
        | false => rfl
        | true => exact absurd ⟨hp, Or.inl rfl⟩ q
theorem eg_both {pb : Nat → Bool} {n : Nat} : eg pb true n = none → eg pb false n = none := by
  intro h
  cases h2 : eg pb false n with
  | none => rfl
  | some d =>
    have := eg_lt h2
    rw [eg_none h d this.1] at this
    cases this.2
theorem pdS_zero {pb : Nat → Bool} {gap : Int32} : ∀ {n : Nat}, (∀ i, i < n → pb i = false) → (pdS pb gap n).1 = 0
  | 0, _ => rfl
  | n + 1, h => by
    rw [pdS, if_neg (by rw [h n (Nat.lt_succ_self n)]; decide)]
    exact pdS_zero (fun i hi => h i (by omega))
theorem pdS_stay {pb : Nat → Bool} {gap : Int32} {a : Nat} : ∀ {n : Nat}, a ≤ n → (∀ i, a ≤ i → i < n → pb i = false) → (pdS pb gap n).1 = (pdS pb gap a).1
  | 0, h, _ => by rw [show a = 0 by omega]
  | n + 1, h, hp => by
    rcases Nat.lt_or_eq_of_le h with q | q
    · rw [pdS, if_neg (by rw [hp n (by omega) (Nat.lt_succ_self n)]; decide)]
      exact pdS_stay (by omega) (fun i h1 h2 => hp i h1 (by omega))
    · rw [q]
theorem pdS_bd {pb : Nat → Bool} {gap : Int32} : ∀ (n : Nat), (pdS pb gap n).1 + (pdS pb gap n).2 ≤ n
  | 0 => Nat.le_refl _
  | n + 1 => by
    have := pdS_bd (pb := pb) (gap := gap) n
    rw [pdS]
    split
    · show _ + _ + 1 + 0 ≤ n + 1
      split <;> omega
    · show _ + (_ + 1) ≤ n + 1
      omega
section MODEL
variable {f ro rs : Nat → Nat → Int32} {rw rb : Nat → Nat} {m : Nat → Nat → Int32} {dp : Nat}
theorem t_edge {F : Nat → Nat → Int32} (f6 : m 6 = F 6) {nd : Nat} (hnd : nd ≤ 8) (h13 : m 13 0 = nI nd) {R : Nat → List Nat} (hR : ∀ d, d < nd → rowM m d (R d)) (p : Nat) (last : Bool) : Mt (dp + 2) 0 0 mX7_edge [.ref 45, .int (nI p), .int (bI last)] (HH f ro rs rw rb m) (RI (dI (eg (fun d => plB F (R d) p) last nd)) (HH f ro rs rw rb m)) := by
  refine Mt.of rfl rfl (Nat.le_of_ble_eq_true rfl) rfl ?_
  generalize hpb : (fun d => plB F (R d) p) = pb
  have hpb : ∀ d, plB F (R d) p = pb d := fun d => congrFun hpb d
  have loop : ∀ (j k : Nat), nd - k = j → k ≤ nd → V mX7_edge (dp + 2) 0 0 5 [some (.ref 45), some (.int (nI p)), some (.int (bI last)), some (.int (dI (eg pb last k))), some (.int (nI k))] [] (HH f ro rs rw rb m) (RI (dI (eg pb last nd)) (HH f ro rs rw rb m)) := by
    intro j
    induction j using Nat.strongRecOn with
    | _ j ih =>
      intro k hj hk
      have no : ¬ (pb k = true ∧ (last = true ∨ eg pb last k = none)) → k < nd → V mX7_edge (dp + 2) 0 0 36 [some (.ref 45), some (.int (nI p)), some (.int (bI last)), some (.int (dI (eg pb last k))), some (.int (nI k))] [] (HH f ro rs rw rb m) (RI (dI (eg pb last nd)) (HH f ro rs rw rb m)) := by
        intro hq hlt
        have e : eg pb last k = eg pb last (k + 1) := by rw [eg, if_neg hq]
        rw [e]
        first | refine V.iincN dX7_edge_36 rfl ?_ | refine V.iinc dX7_edge_36 rfl rfl ?_
        refine V.goto 5 dX7_edge_39 (by decide) ?_
        exact ih _ (by omega) (k + 1) rfl (by omega)
      have yes : (pb k = true ∧ (last = true ∨ eg pb last k = none)) → k < nd → V mX7_edge (dp + 2) 0 0 33 [some (.ref 45), some (.int (nI p)), some (.int (bI last)), some (.int (dI (eg pb last k))), some (.int (nI k))] [] (HH f ro rs rw rb m) (RI (dI (eg pb last nd)) (HH f ro rs rw rb m)) := by
        intro hq hlt
        have e : nI k = dI (eg pb last (k + 1)) := by rw [eg, if_pos hq]; rfl
        refine V.iload dX7_edge_33 rfl ?_
        refine V.top e ?_
        refine V.istn 3 dX7_edge_35 rfl (Nat.le_of_ble_eq_true rfl) ?_
        first | refine V.iincN dX7_edge_36 rfl ?_ | refine V.iinc dX7_edge_36 rfl rfl ?_
        refine V.goto 5 dX7_edge_39 (by decide) ?_
        exact ih _ (by omega) (k + 1) rfl (by omega)
      refine V.iload dX7_edge_5 rfl ?_
      refine V.aldn 0 dX7_edge_7 rfl rfl ?_
      refine V.gf7_13 dX7_edge_8 f_X7_91 ?_
      refine V.top h13 ?_
      first | refine V.icmp_geN 42 dX7_edge_11 (by decide) (by omega) (by omega) (fun c11 => ?_) (fun c11 => ?_) | refine V.icmp_ge 42 dX7_edge_11 (by decide) (fun c11 => ?_) (fun c11 => ?_)
      · obtain rfl : k = nd := by omega
        refine V.ildn 3 dX7_edge_42 rfl rfl ?_
        exact V.ireturn dX7_edge_43 rfl (by first | rfl | decide +kernel) (⟨rfl, rfl⟩)
      · refine V.aldn 0 dX7_edge_14 rfl rfl ?_
        refine V.ildn 1 dX7_edge_15 rfl rfl ?_
        refine V.iload dX7_edge_16 rfl ?_
        refine V.cVi (t_plays f6 (by omega) (hR k c11) p) dX7_edge_18 k_X7_164 rfl rfl rfl (Nat.le_of_ble_eq_true rfl) rfl ?_
        first | refine V.if_eqB 36 dX7_edge_21 (by decide) (fun c21 => ?_) (fun c21 => ?_) | refine V.if_eqN 36 dX7_edge_21 (by decide) (by omega) (fun c21 => ?_) (fun c21 => ?_) | refine V.if_eq 36 dX7_edge_21 (by decide) (fun c21 => ?_) (fun c21 => ?_)
        · rw [hpb] at c21
          exact no (fun q => by rw [c21] at q; cases q.1) c11
        · rw [hpb] at c21
          refine V.ildn 2 dX7_edge_24 rfl rfl ?_
          first | refine V.if_neB 33 dX7_edge_25 (by decide) (fun c25 => ?_) (fun c25 => ?_) | refine V.if_neN 33 dX7_edge_25 (by decide) (by omega) (fun c25 => ?_) (fun c25 => ?_) | refine V.if_ne 33 dX7_edge_25 (by decide) (fun c25 => ?_) (fun c25 => ?_)
          · exact yes ⟨c21, Or.inl c25⟩ c11
          · refine V.ildn 3 dX7_edge_28 rfl rfl ?_
            refine V.iconst (-1) dX7_edge_29 (by decide +kernel) ?_
            refine V.icmp_ne 36 dX7_edge_30 (by decide) (fun c30 => ?_) (fun c30 => ?_)
            · refine no (fun q => c30 ?_) c11
              rcases q.2 with q | q
              · rw [c25] at q; cases q
              · rw [q]; rfl
            · refine yes ⟨c21, Or.inr ?_⟩ c11
              cases he : eg pb last k with
              | none => rfl
              | some d => rw [he] at c30; exact absurd c30 (nI_m1 (by have := eg_lt he; omega))
  refine V.iconst (-1) dX7_edge_0 (by decide +kernel) ?_
  refine V.istn 3 dX7_edge_1 rfl (Nat.le_of_ble_eq_true rfl) ?_
  refine V.iconst (nI 0) dX7_edge_2 (by decide +kernel) ?_
  refine V.istore dX7_edge_3 (Nat.le_of_ble_eq_true rfl) ?_
  exact loop nd 0 (by omega) (by omega)
theorem t_daysOf {F : Nat → Nat → Int32} (f6 : m 6 = F 6) {nd : Nat} (hnd : nd ≤ 8) (h13 : m 13 0 = nI nd) {R : Nat → List Nat} (hR : ∀ d, d < nd → rowM m d (R d)) (p : Nat) : Mt (dp + 2) 0 0 mX7_daysOf [.ref 45, .int (nI p)] (HH f ro rs rw rb m) (RI (nI (cnt (fun d => plB F (R d) p) nd)) (HH f ro rs rw rb m)) := by
  refine Mt.of rfl rfl (Nat.le_of_ble_eq_true rfl) rfl ?_
  generalize hpb : (fun d => plB F (R d) p) = pb
  have hpb : ∀ d, plB F (R d) p = pb d := fun d => congrFun hpb d
  have loop : ∀ (j k : Nat), nd - k = j → k ≤ nd → V mX7_daysOf (dp + 2) 0 0 4 [some (.ref 45), some (.int (nI p)), some (.int (nI (cnt pb k))), some (.int (nI k))] [] (HH f ro rs rw rb m) (RI (nI (cnt pb nd)) (HH f ro rs rw rb m)) := by
    intro j
    induction j using Nat.strongRecOn with
    | _ j ih =>
      intro k hj hk
      refine V.ildn 3 dX7_daysOf_4 rfl rfl ?_
      refine V.aldn 0 dX7_daysOf_5 rfl rfl ?_
      refine V.gf7_13 dX7_daysOf_6 f_X7_91 ?_
      refine V.top h13 ?_
      first | refine V.icmp_geN 35 dX7_daysOf_9 (by decide) (by omega) (by omega) (fun c9 => ?_) (fun c9 => ?_) | refine V.icmp_ge 35 dX7_daysOf_9 (by decide) (fun c9 => ?_) (fun c9 => ?_)
      · obtain rfl : k = nd := by omega
        refine V.ildn 2 dX7_daysOf_35 rfl rfl ?_
        exact V.ireturn dX7_daysOf_36 rfl (by first | rfl | decide +kernel) (⟨rfl, rfl⟩)
      · refine V.ildn 2 dX7_daysOf_12 rfl rfl ?_
        refine V.aldn 0 dX7_daysOf_13 rfl rfl ?_
        refine V.ildn 1 dX7_daysOf_14 rfl rfl ?_
        refine V.ildn 3 dX7_daysOf_15 rfl rfl ?_
        refine V.cVi (t_plays f6 (by omega) (hR k c9) p) dX7_daysOf_16 k_X7_164 rfl rfl rfl (Nat.le_of_ble_eq_true rfl) rfl ?_
        first | refine V.if_eqB 26 dX7_daysOf_19 (by decide) (fun c19 => ?_) (fun c19 => ?_) | refine V.if_eqN 26 dX7_daysOf_19 (by decide) (by omega) (fun c19 => ?_) (fun c19 => ?_) | refine V.if_eq 26 dX7_daysOf_19 (by decide) (fun c19 => ?_) (fun c19 => ?_)
        · rw [hpb] at c19
          refine V.iconst (nI 0) dX7_daysOf_26 (by decide +kernel) ?_
          first | refine V.iaddN dX7_daysOf_27 ?_ | refine V.iadd dX7_daysOf_27 ?_
          refine V.top (y := nI (cnt pb (k + 1))) (by rw [cnt, if_neg (by rw [c19]; decide)]) ?_
          refine V.istn 2 dX7_daysOf_28 rfl (Nat.le_of_ble_eq_true rfl) ?_
          first | refine V.iincN dX7_daysOf_29 rfl ?_ | refine V.iinc dX7_daysOf_29 rfl rfl ?_
          refine V.goto 4 dX7_daysOf_32 (by decide) ?_
          exact ih _ (by omega) (k + 1) rfl (by omega)
        · rw [hpb] at c19
          refine V.iconst (nI 1) dX7_daysOf_22 (by decide +kernel) ?_
          refine V.goto 27 dX7_daysOf_23 (by decide) ?_
          first | refine V.iaddN dX7_daysOf_27 ?_ | refine V.iadd dX7_daysOf_27 ?_
          refine V.top (y := nI (cnt pb (k + 1))) (by rw [cnt, if_pos c19]) ?_
          refine V.istn 2 dX7_daysOf_28 rfl (Nat.le_of_ble_eq_true rfl) ?_
          first | refine V.iincN dX7_daysOf_29 rfl ?_ | refine V.iinc dX7_daysOf_29 rfl rfl ?_
          refine V.goto 4 dX7_daysOf_32 (by decide) ?_
          exact ih _ (by omega) (k + 1) rfl (by omega)
  refine V.iconst (nI 0) dX7_daysOf_0 (by decide +kernel) ?_
  refine V.istn 2 dX7_daysOf_1 rfl (Nat.le_of_ble_eq_true rfl) ?_
  refine V.iconst (nI 0) dX7_daysOf_2 (by decide +kernel) ?_
  refine V.istn 3 dX7_daysOf_3 rfl (Nat.le_of_ble_eq_true rfl) ?_
  exact loop nd 0 (by omega) (by omega)
theorem t_paid {F : Nat → Nat → Int32} (f6 : m 6 = F 6) (f10 : m 10 = F 10) {nd : Nat} (hnd : nd ≤ 8) (h13 : m 13 0 = nI nd) {R : Nat → List Nat} (hR : ∀ d, d < nd → rowM m d (R d)) {p : Nat} (hp : p < 8) : Mt (dp + 3) 0 0 mX7_paid [.ref 45, .int (nI p)] (HH f ro rs rw rb m) (RI (nI (pdS (fun d => plB F (R d) p) (F 10 p) nd).1) (HH f ro rs rw rb m)) := by
  refine Mt.of rfl rfl (Nat.le_of_ble_eq_true rfl) rfl ?_
  have hedge := fun (last : Bool) => t_edge (f := f) (ro := ro) (rs := rs) (rw := rw) (rb := rb) (dp := dp) f6 hnd h13 hR p last
  generalize hpb : (fun d => plB F (R d) p) = pb at hedge ⊢
  have hpb : ∀ d, plB F (R d) p = pb d := fun d => congrFun hpb d
  cases hl : eg pb true nd with
  | none =>
    have hf := eg_both hl
    have hz : (pdS pb (F 10 p) nd).1 = 0 := pdS_zero (eg_none hl)
    refine V.iconst (nI 0) dX7_paid_0 (by decide +kernel) ?_
    refine V.istn 2 dX7_paid_1 rfl (Nat.le_of_ble_eq_true rfl) ?_
    refine V.iconst (nI 0) dX7_paid_2 (by decide +kernel) ?_
    refine V.istn 3 dX7_paid_3 rfl (Nat.le_of_ble_eq_true rfl) ?_
    refine V.aldn 0 dX7_paid_4 rfl rfl ?_
    refine V.ildn 1 dX7_paid_5 rfl rfl ?_
    refine V.iconst (nI 0) dX7_paid_6 (by decide +kernel) ?_
    refine V.cVi (hedge false) dX7_paid_7 k_X7_167 rfl rfl rfl (Nat.le_of_ble_eq_true rfl) rfl ?_
    rw [hf]
    refine V.top (y := -1) rfl ?_
    refine V.istore dX7_paid_10 (Nat.le_of_ble_eq_true rfl) ?_
    refine V.iload dX7_paid_12 rfl ?_
    refine V.istore dX7_paid_14 (Nat.le_of_ble_eq_true rfl) ?_
    refine V.iload dX7_paid_16 rfl ?_
    refine V.iconst (-1) dX7_paid_18 (by decide +kernel) ?_
    refine V.icmp_eq 86 dX7_paid_19 (by decide) (fun c19 => ?_) (fun c19 => ?_)
    · refine V.ildn 2 dX7_paid_86 rfl rfl ?_
      exact V.ireturn dX7_paid_87 rfl (by first | rfl | decide +kernel) (⟨by rw [hz], rfl⟩)
    · exact absurd rfl c19
  | some e =>
    obtain ⟨he1, he2⟩ := eg_lt hl
    cases hf : eg pb false nd with
    | none => rw [eg_none hf e he1] at he2; cases he2
    | some a =>
      obtain ⟨ha1, ha2⟩ := eg_lt hf
      have ha3 := eg_first hf
      have hae : a ≤ e := by
        rcases Nat.lt_or_ge e a with q | q
        · rw [ha3 e q] at he2; cases he2
        · exact q
      have h2 := eg_last hl
      have loop : ∀ (j k i : Nat), e + 1 - k = j → a ≤ k → k ≤ e + 1 → ((k = a ∧ i = 0) ∨ (a < k ∧ i = (pdS pb (F 10 p) k).2 ∧ 0 < (pdS pb (F 10 p) k).1)) → V mX7_paid (dp + 3) 0 0 16 [some (.ref 45), some (.int (nI p)), some (.int (nI (pdS pb (F 10 p) k).1)), some (.int (nI i)), some (.int (nI a)), some (.int (nI k))] [] (HH f ro rs rw rb m) (RI (nI (pdS pb (F 10 p) nd).1) (HH f ro rs rw rb m)) := by
        intro j
        induction j using Nat.strongRecOn with
        | _ j ih =>
          intro k i hj hak hk hst
          have hbd := pdS_bd (pb := pb) (gap := F 10 p) k
          have hi8 : i ≤ k := by omega
          have go : ∀ z : Nat, z = (if 0 < F 10 p ∧ F 10 p ≤ nI i then 0 else i) → pb k = true → k ≤ e → V mX7_paid (dp + 3) 0 0 75 [some (.ref 45), some (.int (nI p)), some (.int (nI (pdS pb (F 10 p) k).1)), some (.int (nI i)), some (.int (nI a)), some (.int (nI k))] [.int (nI z), .int (nI 1), .int (nI (pdS pb (F 10 p) k).1)] (HH f ro rs rw rb m) (RI (nI (pdS pb (F 10 p) nd).1) (HH f ro rs rw rb m)) := by
            intro z hz hpk hke
            have e1 : (pdS pb (F 10 p) k).1 + (1 + z) = (pdS pb (F 10 p) (k + 1)).1 := by
              rw [pdS, if_pos hpk]
              show _ = _ + _ + 1
              rcases hst with ⟨q1, q2⟩ | ⟨q1, q2, q3⟩
              · subst q1
                have h0 : (pdS pb (F 10 p) k).1 = 0 := pdS_zero ha3
                rw [if_neg (by omega)]
                rw [hz, q2]
                split <;> omega
              · rw [hz, q2]
                by_cases hg : 0 < F 10 p ∧ F 10 p ≤ nI (pdS pb (F 10 p) k).2
                · rw [if_pos hg, if_neg (fun q => q.2 hg)]
                · rw [if_neg hg, if_pos ⟨q3, hg⟩]; omega
            have e2 : (pdS pb (F 10 p) (k + 1)).2 = 0 := by rw [pdS, if_pos hpk]
            first | refine V.iaddN dX7_paid_75 ?_ | refine V.iadd dX7_paid_75 ?_
            first | refine V.iaddN dX7_paid_76 ?_ | refine V.iadd dX7_paid_76 ?_
            rw [e1]
            refine V.istn 2 dX7_paid_77 rfl (Nat.le_of_ble_eq_true rfl) ?_
            refine V.iconst (nI 0) dX7_paid_78 (by decide +kernel) ?_
            refine V.istn 3 dX7_paid_79 rfl (Nat.le_of_ble_eq_true rfl) ?_
            first | refine V.iincN dX7_paid_80 rfl ?_ | refine V.iinc dX7_paid_80 rfl rfl ?_
            refine V.goto 16 dX7_paid_83 (by decide) ?_
            exact ih _ (by omega) (k + 1) 0 rfl (by omega) (by omega) (Or.inr ⟨by omega, e2.symm, by omega⟩)
          refine V.iload dX7_paid_16 rfl ?_
          refine V.iconst (-1) dX7_paid_18 (by decide +kernel) ?_
          refine V.icmp_eq 86 dX7_paid_19 (by decide) (fun c19 => ?_) (fun c19 => ?_)
          · exact absurd c19 (nI_m1 (by omega))
          · refine V.iload dX7_paid_22 rfl ?_
            refine V.aldn 0 dX7_paid_24 rfl rfl ?_
            refine V.ildn 1 dX7_paid_25 rfl rfl ?_
            refine V.iconst (nI 1) dX7_paid_26 (by decide +kernel) ?_
            refine V.cVi (hedge true) dX7_paid_27 k_X7_167 rfl rfl rfl (Nat.le_of_ble_eq_true rfl) rfl ?_
            rw [hl]
            refine V.top (y := nI e) rfl ?_
            first | refine V.icmp_gtN 86 dX7_paid_30 (by decide) (by omega) (by omega) (fun c30 => ?_) (fun c30 => ?_) | refine V.icmp_gt 86 dX7_paid_30 (by decide) (fun c30 => ?_) (fun c30 => ?_)
            · have e9 : (pdS pb (F 10 p) nd).1 = (pdS pb (F 10 p) k).1 := pdS_stay (by omega) (fun i h1 h3 => h2 i (by omega) h3)
              refine V.ildn 2 dX7_paid_86 rfl rfl ?_
              exact V.ireturn dX7_paid_87 rfl (by first | rfl | decide +kernel) (⟨by rw [e9], rfl⟩)
            · refine V.aldn 0 dX7_paid_33 rfl rfl ?_
              refine V.ildn 1 dX7_paid_34 rfl rfl ?_
              refine V.iload dX7_paid_35 rfl ?_
              refine V.cVi (t_plays f6 (by omega) (hR k (by omega)) p) dX7_paid_37 k_X7_164 rfl rfl rfl (Nat.le_of_ble_eq_true rfl) rfl ?_
              first | refine V.if_neB 49 dX7_paid_40 (by decide) (fun c40 => ?_) (fun c40 => ?_) | refine V.if_neN 49 dX7_paid_40 (by decide) (by omega) (fun c40 => ?_) (fun c40 => ?_) | refine V.if_ne 49 dX7_paid_40 (by decide) (fun c40 => ?_) (fun c40 => ?_)
              · rw [hpb] at c40
                refine V.ildn 2 dX7_paid_49 rfl rfl ?_
                refine V.iconst (nI 1) dX7_paid_50 (by decide +kernel) ?_
                refine V.aldn 0 dX7_paid_51 rfl rfl ?_
                refine V.gf7_10 dX7_paid_52 f_X7_35 ?_
                refine V.ildn 1 dX7_paid_55 rfl rfl ?_
                refine V.ald_54 dX7_paid_56 (ix_nI (by omega) (by decide)) ?_
                refine V.top (congrFun f10 _) ?_
                refine V.if_le 74 dX7_paid_57 (by decide) (fun c57 => ?_) (fun c57 => ?_)
                · exact V.ildn 3 dX7_paid_74 rfl rfl (go i (by rw [if_neg (fun q => absurd q.1 (Int32.not_lt.mpr c57))]) c40 (by omega))
                · refine V.ildn 3 dX7_paid_60 rfl rfl ?_
                  refine V.aldn 0 dX7_paid_61 rfl rfl ?_
                  refine V.gf7_10 dX7_paid_62 f_X7_35 ?_
                  refine V.ildn 1 dX7_paid_65 rfl rfl ?_
                  refine V.ald_54 dX7_paid_66 (ix_nI (by omega) (by decide)) ?_
                  refine V.top (congrFun f10 _) ?_
                  refine V.icmp_lt 74 dX7_paid_67 (by decide) (fun c67 => ?_) (fun c67 => ?_)
                  · exact V.ildn 3 dX7_paid_74 rfl rfl (go i (by rw [if_neg (fun q => absurd q.2 (Int32.not_le.mpr c67))]) c40 (by omega))
                  · refine V.iconst (nI 0) dX7_paid_70 (by decide +kernel) ?_
                    refine V.goto 75 dX7_paid_71 (by decide) ?_
                    exact go 0 (by rw [if_pos ⟨Int32.not_le.mp c57, Int32.not_lt.mp c67⟩]) c40 (by omega)
              · rw [hpb] at c40
                have e3 : pdS pb (F 10 p) (k + 1) = ((pdS pb (F 10 p) k).1, (pdS pb (F 10 p) k).2 + 1) := by rw [pdS, if_neg (by rw [c40]; decide)]
                first | refine V.iincN dX7_paid_43 rfl ?_ | refine V.iinc dX7_paid_43 rfl rfl ?_
                refine V.goto 80 dX7_paid_46 (by decide) ?_
                refine V.iincN dX7_paid_80 rfl ?_
                refine V.goto 16 dX7_paid_83 (by decide) ?_
                have := ih _ (by omega) (k + 1) (i + 1) rfl (by omega) (by omega) (by rw [e3]; rcases hst with ⟨q1, q2⟩ | ⟨q1, q2, q3⟩; exact absurd c40 (by rw [q1, ha2]; decide); exact Or.inr ⟨by omega, by rw [q2], q3⟩)
                rw [e3] at this
                exact this
      have hz : (pdS pb (F 10 p) a).1 = 0 := pdS_zero ha3
      have l0 := loop _ a 0 rfl (Nat.le_refl _) (by omega) (Or.inl ⟨rfl, rfl⟩)
      rw [hz] at l0
      refine V.iconst (nI 0) dX7_paid_0 (by decide +kernel) ?_
      refine V.istn 2 dX7_paid_1 rfl (Nat.le_of_ble_eq_true rfl) ?_
      refine V.iconst (nI 0) dX7_paid_2 (by decide +kernel) ?_
      refine V.istn 3 dX7_paid_3 rfl (Nat.le_of_ble_eq_true rfl) ?_
      refine V.aldn 0 dX7_paid_4 rfl rfl ?_
      refine V.ildn 1 dX7_paid_5 rfl rfl ?_
      refine V.iconst (nI 0) dX7_paid_6 (by decide +kernel) ?_
      refine V.cVi (hedge false) dX7_paid_7 k_X7_167 rfl rfl rfl (Nat.le_of_ble_eq_true rfl) rfl ?_
      rw [hf]
      refine V.top (y := nI a) rfl ?_
      refine V.istore dX7_paid_10 (Nat.le_of_ble_eq_true rfl) ?_
      refine V.iload dX7_paid_12 rfl ?_
      refine V.istore dX7_paid_14 (Nat.le_of_ble_eq_true rfl) ?_
      exact l0
end MODEL
end
section
/-! the reference: the cost, and whether the plan keeps -/
noncomputable def dB (P : Prop) : Bool := @decide P (Classical.propDecidable P)
theorem dB_t {P : Prop} (h : P) : dB P = true := by unfold dB; exact @decide_eq_true P (Classical.propDecidable P) h
theorem dB_f {P : Prop} (h : ¬ P) : dB P = false := by unfold dB; exact @decide_eq_false P (Classical.propDecidable P) h
theorem of_dB {P : Prop} (h : dB P = true) : P := by unfold dB at h; exact @of_decide_eq_true P (Classical.propDecidable P) h
theorem of_dBf {P : Prop} (h : dB P = false) : ¬ P := by unfold dB at h; exact @of_decide_eq_false P (Classical.propDecidable P) h
theorem dB_congr {P Q : Prop} (h : P ↔ Q) : dB P = dB Q := by rw [propext h]
def isF (k : Nat) : Bool := [2, 3, 4, 5, 6, 7, 9, 10, 11, 12, 14, 15].contains k
/-- the reference m shows the film F and the first nd rows R -/
def MV (F : Nat → Nat → Int32) (nd : Nat) (R : Nat → List Nat) (m : Nat → Nat → Int32) : Prop := nd ≤ 8 ∧ m 13 0 = nI nd ∧ (∀ k, isF k = true → m k = F k) ∧ PlV F ∧ ∀ d, d < nd → rowM m d (R d)
def payC (F : Nat → Nat → Int32) (nd : Nat) (R : Nat → List Nat) : Int32 := sm (fun p => F 9 p * nI (pdS (fun d => plB F (R d) p) (F 10 p) nd).1) 8
def rentD (F : Nat → Nat → Int32) (l : List Nat) : Nat → Int32 := sm (fun p => if usB F l p = true then F 11 p else nI 0)
def rentC (F : Nat → Nat → Int32) (nd : Nat) (R : Nat → List Nat) : Int32 := sm (fun d => rentD F (R d) 8) nd
def overC (F : Nat → Nat → Int32) (nd : Nat) (R : Nat → List Nat) : Int32 := sm (fun d => nI 50 * ovr (mins F (R d))) nd
def costC (F : Nat → Nat → Int32) (nd : Nat) (R : Nat → List Nat) : Int32 := payC F nd R + rentC F nd R + overC F nd R
theorem and1 (y : Int32) : y &&& nI 1 = nI 0 ∨ y &&& nI 1 = nI 1 := by
  have h := pk_and y (m := nI 1) 1 (by decide +kernel)
  rcases (show y.toBitVec.toNat % 2 ^ 1 = 0 ∨ y.toBitVec.toNat % 2 ^ 1 = 1 by omega) with q | q
  · left; rw [h, q]
  · right; rw [h, q]
theorem btB_f {x : Int32} {p : Nat} : btB x p = false ↔ (x >>> (nI p &&& 31) &&& nI 1) = 0 := by
  unfold btB
  rw [decide_eq_false_iff_not]
  rcases and1 (x >>> (nI p &&& 31)) with q | q
  · rw [q]; simp [nI_0]; decide +kernel
  · rw [q]; simp; decide +kernel
theorem btB_t {x : Int32} {p : Nat} : btB x p = true ↔ ¬ (x >>> (nI p &&& 31) &&& nI 1) = 0 := by
  rw [← btB_f]; cases btB x p <;> simp
def ordA (F : Nat → Nat → Int32) (R : Nat → List Nat) (D : Nat → Option Nat) (s a : Nat) : Prop := btB (F 7 s) a = true → ∀ da ds, D a = some da → D s = some ds → da < ds ∨ (da = ds ∧ ixo (R da) a ≤ ixo (R ds) s)
def dayP (F : Nat → Nat → Int32) (nd : Nat) (R : Nat → List Nat) (d : Nat) : Prop := mins F (R d) ≤ F 14 d ∧ sunm F (R d) ≤ F 15 d ∧ (d + 1 < nd → hasL F (R d) (nI 2) = true → hasL F (R (d + 1)) (nI 1) = false)
/-- the plan keeps -/
def KP (F : Nat → Nat → Int32) (n nd : Nat) (R : Nat → List Nat) (D : Nat → Option Nat) : Prop := (∀ d, d < nd → dayP F nd R d) ∧ ∀ s, s < n → D s ≠ none → ∀ a, a < n → ordA F R D s a
/-- the days D and the rows R tell the same of the scenes below n -/
def DR (n nd : Nat) (R : Nat → List Nat) (D : Nat → Option Nat) : Prop := n ≤ 20 ∧ (∀ s d, s < n → D s = some d → d < nd ∧ s ∈ R d) ∧ (∀ s d, d < nd → s ∈ R d → s < n ∧ D s = some d) ∧ ∀ d, d < nd → (R d).Nodup
def MD8 (n : Nat) (D : Nat → Option Nat) (m : Nat → Nat → Int32) : Prop := m 1 0 = nI n ∧ ∀ s, s < n → m 8 s = dI (D s)
theorem dI_none {o : Option Nat} (h : ∀ d, o = some d → d < 2 ^ 31) : dI o = -1 ↔ o = none := by
  cases o with
  | none => exact ⟨fun _ => rfl, fun _ => rfl⟩
  | some d => exact ⟨fun e => absurd e (nI_m1 (h d rfl)), fun e => by cases e⟩
section MODEL
variable {f ro rs : Nat → Nat → Int32} {rw rb : Nat → Nat} {m : Nat → Nat → Int32} {dp : Nat} {F : Nat → Nat → Int32} {n nd : Nat} {R : Nat → List Nat} {D : Nat → Option Nat}
theorem t_payAll (hM : MV F nd R m) : Mt (dp + 4) 0 0 mX7_payAll [.ref 45] (HH f ro rs rw rb m) (RI (payC F nd R) (HH f ro rs rw rb m)) := by
  refine Mt.of rfl rfl (Nat.le_of_ble_eq_true rfl) rfl ?_
  obtain ⟨hnd, h13, hF, hp, hR⟩ := hM
  have loop : ∀ (j k : Nat), 8 - k = j → k ≤ 8 → V mX7_payAll (dp + 4) 0 0 4 [some (.ref 45), some (.int (sm (fun p => F 9 p * nI (pdS (fun d => plB F (R d) p) (F 10 p) nd).1) k)), some (.int (nI k))] [] (HH f ro rs rw rb m) (RI (payC F nd R) (HH f ro rs rw rb m)) := by
    intro j
    induction j using Nat.strongRecOn with
    | _ j ih =>
      intro k hj hk
      refine V.ildn 2 dX7_payAll_4 rfl rfl ?_
      refine V.bipush (nI 8) dX7_payAll_5 (by decide +kernel) ?_
      first | refine V.icmp_geN 31 dX7_payAll_7 (by decide) (by omega) (by omega) (fun c7 => ?_) (fun c7 => ?_) | refine V.icmp_ge 31 dX7_payAll_7 (by decide) (fun c7 => ?_) (fun c7 => ?_)
      · obtain rfl : k = 8 := by omega
        refine V.ildn 1 dX7_payAll_31 rfl rfl ?_
        exact V.ireturn dX7_payAll_32 rfl (by first | rfl | decide +kernel) (⟨rfl, rfl⟩)
      · refine V.ildn 1 dX7_payAll_10 rfl rfl ?_
        refine V.aldn 0 dX7_payAll_11 rfl rfl ?_
        refine V.gf7_9 dX7_payAll_12 f_X7_32 ?_
        refine V.ildn 2 dX7_payAll_15 rfl rfl ?_
        refine V.ald_53 dX7_payAll_16 (ix_nI (by omega) (by decide)) ?_
        refine V.top (congrFun (hF 9 rfl) _) ?_
        refine V.aldn 0 dX7_payAll_17 rfl rfl ?_
        refine V.ildn 2 dX7_payAll_18 rfl rfl ?_
        refine V.cVi (t_paid (hF 6 rfl) (hF 10 rfl) hnd h13 hR c7) dX7_payAll_19 k_X7_171 rfl rfl rfl (Nat.le_of_ble_eq_true rfl) rfl ?_
        refine V.imul dX7_payAll_22 ?_
        refine V.iadd dX7_payAll_23 ?_
        refine V.istn 1 dX7_payAll_24 rfl (Nat.le_of_ble_eq_true rfl) ?_
        first | refine V.iincN dX7_payAll_25 rfl ?_ | refine V.iinc dX7_payAll_25 rfl rfl ?_
        refine V.goto 4 dX7_payAll_28 (by decide) ?_
        exact ih _ (by omega) (k + 1) rfl (by omega)
  refine V.iconst (nI 0) dX7_payAll_0 (by decide +kernel) ?_
  refine V.istn 1 dX7_payAll_1 rfl (Nat.le_of_ble_eq_true rfl) ?_
  refine V.iconst (nI 0) dX7_payAll_2 (by decide +kernel) ?_
  refine V.istn 2 dX7_payAll_3 rfl (Nat.le_of_ble_eq_true rfl) ?_
  exact loop 8 0 (by omega) (by omega)
theorem t_rentAll (hM : MV F nd R m) : Mt (dp + 2) 0 0 mX7_rentAll [.ref 45] (HH f ro rs rw rb m) (RI (rentC F nd R) (HH f ro rs rw rb m)) := by
  refine Mt.of rfl rfl (Nat.le_of_ble_eq_true rfl) rfl ?_
  obtain ⟨hnd, h13, hF, hp, hR⟩ := hM
  have loop : ∀ (j k : Nat), nd - k = j → k ≤ nd → ∀ o3, V mX7_rentAll (dp + 2) 0 0 4 [some (.ref 45), some (.int (sm (fun d => rentD F (R d) 8) k)), some (.int (nI k)), o3] [] (HH f ro rs rw rb m) (RI (rentC F nd R) (HH f ro rs rw rb m)) := by
    intro j
    induction j using Nat.strongRecOn with
    | _ j ih =>
      intro k hj hk o3
      have inner : k < nd → ∀ (i q : Nat), 8 - q = i → q ≤ 8 → V mX7_rentAll (dp + 2) 0 0 14 [some (.ref 45), some (.int (sm (fun d => rentD F (R d) 8) k + rentD F (R k) q)), some (.int (nI k)), some (.int (nI q))] [] (HH f ro rs rw rb m) (RI (rentC F nd R) (HH f ro rs rw rb m)) := by
        intro hk2 i
        induction i using Nat.strongRecOn with
        | _ i ih2 =>
          intro q hi hq
          refine V.ildn 3 dX7_rentAll_14 rfl rfl ?_
          refine V.bipush (nI 8) dX7_rentAll_15 (by decide +kernel) ?_
          first | refine V.icmp_geN 48 dX7_rentAll_17 (by decide) (by omega) (by omega) (fun c17 => ?_) (fun c17 => ?_) | refine V.icmp_ge 48 dX7_rentAll_17 (by decide) (fun c17 => ?_) (fun c17 => ?_)
          · obtain rfl : q = 8 := by omega
            first | refine V.iincN dX7_rentAll_48 rfl ?_ | refine V.iinc dX7_rentAll_48 rfl rfl ?_
            refine V.goto 4 dX7_rentAll_51 (by decide) ?_
            exact ih _ (by omega) (k + 1) rfl (by omega) _
          · refine V.ildn 1 dX7_rentAll_20 rfl rfl ?_
            refine V.aldn 0 dX7_rentAll_21 rfl rfl ?_
            refine V.ildn 2 dX7_rentAll_22 rfl rfl ?_
            refine V.ildn 3 dX7_rentAll_23 rfl rfl ?_
            refine V.cVi (t_uses (hF 3 rfl) (by omega) (hR k hk2) q) dX7_rentAll_24 k_X7_174 rfl rfl rfl (Nat.le_of_ble_eq_true rfl) rfl ?_
            first | refine V.if_eqB 39 dX7_rentAll_27 (by decide) (fun c27 => ?_) (fun c27 => ?_) | refine V.if_eqN 39 dX7_rentAll_27 (by decide) (by omega) (fun c27 => ?_) (fun c27 => ?_) | refine V.if_eq 39 dX7_rentAll_27 (by decide) (fun c27 => ?_) (fun c27 => ?_)
            · refine V.iconst (nI 0) dX7_rentAll_39 (by decide +kernel) ?_
              refine V.iadd dX7_rentAll_40 ?_
              refine V.top (y := sm (fun d => rentD F (R d) 8) k + rentD F (R k) (q + 1)) (by rw [Int32.add_assoc]; congr 1; show _ = rentD F (R k) q + (if usB F (R k) q = true then F 11 q else nI 0); rw [if_neg (by rw [c27]; decide)]) ?_
              refine V.istn 1 dX7_rentAll_41 rfl (Nat.le_of_ble_eq_true rfl) ?_
              first | refine V.iincN dX7_rentAll_42 rfl ?_ | refine V.iinc dX7_rentAll_42 rfl rfl ?_
              refine V.goto 14 dX7_rentAll_45 (by decide) ?_
              exact ih2 _ (by omega) (q + 1) rfl (by omega)
            · refine V.aldn 0 dX7_rentAll_30 rfl rfl ?_
              refine V.gf7_11 dX7_rentAll_31 f_X7_38 ?_
              refine V.ildn 3 dX7_rentAll_34 rfl rfl ?_
              refine V.ald_55 dX7_rentAll_35 (ix_nI (by omega) (by decide)) ?_
              refine V.top (congrFun (hF 11 rfl) _) ?_
              refine V.goto 40 dX7_rentAll_36 (by decide) ?_
              refine V.iadd dX7_rentAll_40 ?_
              refine V.top (y := sm (fun d => rentD F (R d) 8) k + rentD F (R k) (q + 1)) (by rw [Int32.add_assoc]; congr 1; show _ = rentD F (R k) q + (if usB F (R k) q = true then F 11 q else nI 0); rw [if_pos c27]) ?_
              refine V.istn 1 dX7_rentAll_41 rfl (Nat.le_of_ble_eq_true rfl) ?_
              first | refine V.iincN dX7_rentAll_42 rfl ?_ | refine V.iinc dX7_rentAll_42 rfl rfl ?_
              refine V.goto 14 dX7_rentAll_45 (by decide) ?_
              exact ih2 _ (by omega) (q + 1) rfl (by omega)
      refine V.ildn 2 dX7_rentAll_4 rfl rfl ?_
      refine V.aldn 0 dX7_rentAll_5 rfl rfl ?_
      refine V.gf7_13 dX7_rentAll_6 f_X7_91 ?_
      refine V.top h13 ?_
      first | refine V.icmp_geN 54 dX7_rentAll_9 (by decide) (by omega) (by omega) (fun c9 => ?_) (fun c9 => ?_) | refine V.icmp_ge 54 dX7_rentAll_9 (by decide) (fun c9 => ?_) (fun c9 => ?_)
      · obtain rfl : k = nd := by omega
        refine V.ildn 1 dX7_rentAll_54 rfl rfl ?_
        exact V.ireturn dX7_rentAll_55 rfl (by first | rfl | decide +kernel) (⟨rfl, rfl⟩)
      · refine V.iconst (nI 0) dX7_rentAll_12 (by decide +kernel) ?_
        refine V.istn 3 dX7_rentAll_13 rfl (Nat.le_of_ble_eq_true rfl) ?_
        have := inner c9 8 0 (by omega) (by omega)
        rw [show rentD F (R k) 0 = 0 from nI_0, Int32.add_zero] at this
        exact this
  refine V.iconst (nI 0) dX7_rentAll_0 (by decide +kernel) ?_
  refine V.istn 1 dX7_rentAll_1 rfl (Nat.le_of_ble_eq_true rfl) ?_
  refine V.iconst (nI 0) dX7_rentAll_2 (by decide +kernel) ?_
  refine V.istn 2 dX7_rentAll_3 rfl (Nat.le_of_ble_eq_true rfl) ?_
  exact loop nd 0 (by omega) (by omega) none
theorem t_over (hM : MV F nd R m) {d : Nat} (hd : d < nd) : Mt (dp + 3) 0 0 mX7_over [.ref 45, .int (nI d)] (HH f ro rs rw rb m) (RI (ovr (mins F (R d))) (HH f ro rs rw rb m)) := by
  refine Mt.of rfl rfl (Nat.le_of_ble_eq_true rfl) rfl ?_
  obtain ⟨hnd, h13, hF, hp, hR⟩ := hM
  refine V.aldn 0 dX7_over_0 rfl rfl ?_
  refine V.ildn 1 dX7_over_1 rfl rfl ?_
  refine V.cVi (t_minutesOf ⟨hF 2 rfl, hF 3 rfl, hF 12 rfl⟩ hp (by omega) (hR d hd)) dX7_over_2 k_X7_117 rfl rfl rfl (Nat.le_of_ble_eq_true rfl) rfl ?_
  refine V.sipush (nI 480) dX7_over_5 (by decide +kernel) ?_
  refine V.icmp_gt 15 dX7_over_8 (by decide) (fun c8 => ?_) (fun c8 => ?_)
  · refine V.aldn 0 dX7_over_15 rfl rfl ?_
    refine V.ildn 1 dX7_over_16 rfl rfl ?_
    refine V.cVi (t_minutesOf ⟨hF 2 rfl, hF 3 rfl, hF 12 rfl⟩ hp (by omega) (hR d hd)) dX7_over_17 k_X7_117 rfl rfl rfl (Nat.le_of_ble_eq_true rfl) rfl ?_
    refine V.sipush (nI 480) dX7_over_20 (by decide +kernel) ?_
    refine V.isub dX7_over_23 ?_
    refine V.bipush (nI 29) dX7_over_24 (by decide +kernel) ?_
    refine V.iadd dX7_over_26 ?_
    refine V.bipush (nI 30) dX7_over_27 (by decide +kernel) ?_
    refine V.idiv dX7_over_29 (by decide +kernel) ?_
    exact V.ireturn dX7_over_30 rfl (by first | rfl | decide +kernel) (⟨by rw [ovr, if_pos c8], rfl⟩)
  · refine V.iconst (nI 0) dX7_over_11 (by decide +kernel) ?_
    refine V.goto 30 dX7_over_12 (by decide) ?_
    exact V.ireturn dX7_over_30 rfl (by first | rfl | decide +kernel) (⟨by rw [ovr, if_neg c8], rfl⟩)
theorem t_overAll (hM : MV F nd R m) : Mt (dp + 4) 0 0 mX7_overAll [.ref 45] (HH f ro rs rw rb m) (RI (overC F nd R) (HH f ro rs rw rb m)) := by
  refine Mt.of rfl rfl (Nat.le_of_ble_eq_true rfl) rfl ?_
  have hM0 := hM
  obtain ⟨hnd, h13, hF, hp, hR⟩ := hM
  have loop : ∀ (j k : Nat), nd - k = j → k ≤ nd → V mX7_overAll (dp + 4) 0 0 4 [some (.ref 45), some (.int (sm (fun d => nI 50 * ovr (mins F (R d))) k)), some (.int (nI k))] [] (HH f ro rs rw rb m) (RI (overC F nd R) (HH f ro rs rw rb m)) := by
    intro j
    induction j using Nat.strongRecOn with
    | _ j ih =>
      intro k hj hk
      refine V.ildn 2 dX7_overAll_4 rfl rfl ?_
      refine V.aldn 0 dX7_overAll_5 rfl rfl ?_
      refine V.gf7_13 dX7_overAll_6 f_X7_91 ?_
      refine V.top h13 ?_
      first | refine V.icmp_geN 29 dX7_overAll_9 (by decide) (by omega) (by omega) (fun c9 => ?_) (fun c9 => ?_) | refine V.icmp_ge 29 dX7_overAll_9 (by decide) (fun c9 => ?_) (fun c9 => ?_)
      · obtain rfl : k = nd := by omega
        refine V.ildn 1 dX7_overAll_29 rfl rfl ?_
        exact V.ireturn dX7_overAll_30 rfl (by first | rfl | decide +kernel) (⟨rfl, rfl⟩)
      · refine V.ildn 1 dX7_overAll_12 rfl rfl ?_
        refine V.bipush (nI 50) dX7_overAll_13 (by decide +kernel) ?_
        refine V.aldn 0 dX7_overAll_15 rfl rfl ?_
        refine V.ildn 2 dX7_overAll_16 rfl rfl ?_
        refine V.cVi (t_over hM0 c9) dX7_overAll_17 k_X7_177 rfl rfl rfl (Nat.le_of_ble_eq_true rfl) rfl ?_
        refine V.imul dX7_overAll_20 ?_
        refine V.iadd dX7_overAll_21 ?_
        refine V.istn 1 dX7_overAll_22 rfl (Nat.le_of_ble_eq_true rfl) ?_
        first | refine V.iincN dX7_overAll_23 rfl ?_ | refine V.iinc dX7_overAll_23 rfl rfl ?_
        refine V.goto 4 dX7_overAll_26 (by decide) ?_
        exact ih _ (by omega) (k + 1) rfl (by omega)
  refine V.iconst (nI 0) dX7_overAll_0 (by decide +kernel) ?_
  refine V.istn 1 dX7_overAll_1 rfl (Nat.le_of_ble_eq_true rfl) ?_
  refine V.iconst (nI 0) dX7_overAll_2 (by decide +kernel) ?_
  refine V.istn 2 dX7_overAll_3 rfl (Nat.le_of_ble_eq_true rfl) ?_
  exact loop nd 0 (by omega) (by omega)
theorem t_costAll (hM : MV F nd R m) : Mt (dp + 5) 0 0 mX7_costAll [.ref 45] (HH f ro rs rw rb m) (RI (costC F nd R) (HH f ro rs rw rb m)) := by
  refine Mt.of rfl rfl (Nat.le_of_ble_eq_true rfl) rfl ?_
  refine V.aldn 0 dX7_costAll_0 rfl rfl ?_
  refine V.cVi (t_payAll hM) dX7_costAll_1 k_X7_180 rfl rfl rfl (Nat.le_of_ble_eq_true rfl) rfl ?_
  refine V.aldn 0 dX7_costAll_4 rfl rfl ?_
  refine V.cVi (t_rentAll hM) dX7_costAll_5 k_X7_183 rfl rfl rfl (Nat.le_of_ble_eq_true rfl) rfl ?_
  refine V.iadd dX7_costAll_8 ?_
  refine V.aldn 0 dX7_costAll_9 rfl rfl ?_
  refine V.cVi (t_overAll hM) dX7_costAll_10 k_X7_186 rfl rfl rfl (Nat.le_of_ble_eq_true rfl) rfl ?_
  refine V.iadd dX7_costAll_13 ?_
  exact V.ireturn dX7_costAll_14 rfl (by first | rfl | decide +kernel) (⟨rfl, rfl⟩)
theorem t_isOrdered (hM : MV F nd R m) (hD : DR n nd R D) (h8 : MD8 n D m) {s : Nat} (hs : s < n) (hsd : D s ≠ none) : Mt (dp + 2) 0 0 mX7_isOrdered [.ref 45, .int (nI s)] (HH f ro rs rw rb m) (RI (bI (dB (∀ a, a < n → ordA F R D s a))) (HH f ro rs rw rb m)) := by
  refine Mt.of rfl rfl (Nat.le_of_ble_eq_true rfl) rfl ?_
  obtain ⟨hnd, h13, hF, hp, hR⟩ := hM
  obtain ⟨hn20, d1, d2, d3⟩ := hD
  obtain ⟨h1, h8⟩ := h8
  obtain ⟨ds, hds⟩ : ∃ ds, D s = some ds := by
    cases h : D s with
    | none => exact absurd h hsd
    | some d => exact ⟨d, rfl⟩
  have hds8 := d1 s ds hs hds
  have hpl : ∀ a, a < n → ∀ da, D a = some da → Mt (dp + 1) 0 0 mX7_placeIn [.ref 45, .int (nI a)] (HH f ro rs rw rb m) (RI (ixo (R da) a) (HH f ro rs rw rb m)) := by
    intro a ha da hda
    have hda8 := d1 a da ha hda
    exact t_placeIn (by omega) (h8 a ha) (fun d hd => by rw [hda] at hd; cases hd; exact ⟨by omega, hR da hda8.1⟩) (fun hn => by rw [hda] at hn; cases hn)
  have loop : ∀ (j k : Nat), n - k = j → k ≤ n → (∀ a, a < k → ordA F R D s a) → V mX7_isOrdered (dp + 2) 0 0 2 [some (.ref 45), some (.int (nI s)), some (.int (nI k))] [] (HH f ro rs rw rb m) (RI (bI (dB (∀ a, a < n → ordA F R D s a))) (HH f ro rs rw rb m)) := by
    intro j
    induction j using Nat.strongRecOn with
    | _ j ih =>
      intro k hj hk hall
      have nxt : k < n → ordA F R D s k → V mX7_isOrdered (dp + 2) 0 0 81 [some (.ref 45), some (.int (nI s)), some (.int (nI k))] [] (HH f ro rs rw rb m) (RI (bI (dB (∀ a, a < n → ordA F R D s a))) (HH f ro rs rw rb m)) := by
        intro hkn ho
        first | refine V.iincN dX7_isOrdered_81 rfl ?_ | refine V.iinc dX7_isOrdered_81 rfl rfl ?_
        refine V.goto 2 dX7_isOrdered_84 (by decide) ?_
        exact ih _ (by omega) (k + 1) rfl (by omega) (fun a ha => by rcases Nat.lt_succ_iff_lt_or_eq.mp ha with q | q; exact hall a q; rw [q]; exact ho)
      have bad : k < n → ¬ ordA F R D s k → V mX7_isOrdered (dp + 2) 0 0 79 [some (.ref 45), some (.int (nI s)), some (.int (nI k))] [] (HH f ro rs rw rb m) (RI (bI (dB (∀ a, a < n → ordA F R D s a))) (HH f ro rs rw rb m)) := by
        intro hkn ho
        refine V.iconst (nI 0) dX7_isOrdered_79 (by decide +kernel) ?_
        exact V.ireturn dX7_isOrdered_80 rfl (by first | rfl | decide +kernel) (⟨congrArg (fun x => some (Value.int x)) (bI_f (dB_f (fun q => ho (q k hkn)))), rfl⟩)
      refine V.ildn 2 dX7_isOrdered_2 rfl rfl ?_
      refine V.aldn 0 dX7_isOrdered_3 rfl rfl ?_
      refine V.gf7_1 dX7_isOrdered_4 f_X7_84 ?_
      refine V.top h1 ?_
      first | refine V.icmp_geN 87 dX7_isOrdered_7 (by decide) (by omega) (by omega) (fun c7 => ?_) (fun c7 => ?_) | refine V.icmp_ge 87 dX7_isOrdered_7 (by decide) (fun c7 => ?_) (fun c7 => ?_)
      · refine V.iconst (nI 1) dX7_isOrdered_87 (by decide +kernel) ?_
        exact V.ireturn dX7_isOrdered_88 rfl (by first | rfl | decide +kernel) (⟨congrArg (fun x => some (Value.int x)) (bI_t (dB_t (fun a ha => hall a (by omega)))), rfl⟩)
      · refine V.aldn 0 dX7_isOrdered_10 rfl rfl ?_
        refine V.gf7_7 dX7_isOrdered_11 f_X7_26 ?_
        refine V.ildn 1 dX7_isOrdered_14 rfl rfl ?_
        refine V.ald_51 dX7_isOrdered_15 (ix_nI (by omega) (by decide)) ?_
        refine V.top (congrFun (hF 7 rfl) _) ?_
        refine V.ildn 2 dX7_isOrdered_16 rfl rfl ?_
        refine V.ishr dX7_isOrdered_17 ?_
        refine V.iconst (nI 1) dX7_isOrdered_18 (by decide +kernel) ?_
        refine V.iand dX7_isOrdered_19 ?_
        refine V.if_eq 81 dX7_isOrdered_20 (by decide) (fun c20 => ?_) (fun c20 => ?_)
        · exact nxt c7 (fun q => absurd c20 (btB_t.mp q))
        · refine V.aldn 0 dX7_isOrdered_23 rfl rfl ?_
          refine V.gf7_8 dX7_isOrdered_24 f_X7_29 ?_
          refine V.ildn 2 dX7_isOrdered_27 rfl rfl ?_
          refine V.ald_52 dX7_isOrdered_28 (ix_nI (by omega) (by decide)) ?_
          refine V.top (h8 k c7) ?_
          refine V.iconst (-1) dX7_isOrdered_29 (by decide +kernel) ?_
          refine V.icmp_ne 36 dX7_isOrdered_30 (by decide) (fun c30 => ?_) (fun c30 => ?_)
          · obtain ⟨da, hda⟩ : ∃ da, D k = some da := by cases h : D k with | none => exact absurd (by rw [h]; rfl) c30 | some d => exact ⟨d, rfl⟩
            have hda8 := d1 k da c7 hda
            refine V.aldn 0 dX7_isOrdered_36 rfl rfl ?_
            refine V.gf7_8 dX7_isOrdered_37 f_X7_29 ?_
            refine V.ildn 2 dX7_isOrdered_40 rfl rfl ?_
            refine V.ald_52 dX7_isOrdered_41 (ix_nI (by omega) (by decide)) ?_
            refine V.top (y := nI da) (by rw [h8 k c7, hda]; rfl) ?_
            refine V.aldn 0 dX7_isOrdered_42 rfl rfl ?_
            refine V.gf7_8 dX7_isOrdered_43 f_X7_29 ?_
            refine V.ildn 1 dX7_isOrdered_46 rfl rfl ?_
            refine V.ald_52 dX7_isOrdered_47 (ix_nI (by omega) (by decide)) ?_
            refine V.top (y := nI ds) (by rw [h8 s hs, hds]; rfl) ?_
            refine V.icmp_gtN (a := da) (b := ds) 79 dX7_isOrdered_48 (by decide) (by omega) (by omega) (fun c48 => ?_) (fun c48 => ?_)
            · exact bad c7 (fun q => by have := q (btB_t.mpr c20) da ds hda hds; omega)
            · refine V.aldn 0 dX7_isOrdered_51 rfl rfl ?_
              refine V.gf7_8 dX7_isOrdered_52 f_X7_29 ?_
              refine V.ildn 2 dX7_isOrdered_55 rfl rfl ?_
              refine V.ald_52 dX7_isOrdered_56 (ix_nI (by omega) (by decide)) ?_
              refine V.top (y := nI da) (by rw [h8 k c7, hda]; rfl) ?_
              refine V.aldn 0 dX7_isOrdered_57 rfl rfl ?_
              refine V.gf7_8 dX7_isOrdered_58 f_X7_29 ?_
              refine V.ildn 1 dX7_isOrdered_61 rfl rfl ?_
              refine V.ald_52 dX7_isOrdered_62 (ix_nI (by omega) (by decide)) ?_
              refine V.top (y := nI ds) (by rw [h8 s hs, hds]; rfl) ?_
              refine V.icmp_neN (a := da) (b := ds) 81 dX7_isOrdered_63 (by decide) (by omega) (by omega) (fun c63 => ?_) (fun c63 => ?_)
              · exact nxt c7 (fun _ da' ds' h1' h2' => by rw [hda] at h1'; rw [hds] at h2'; cases h1'; cases h2'; left; omega)
              · refine V.aldn 0 dX7_isOrdered_66 rfl rfl ?_
                refine V.ildn 2 dX7_isOrdered_67 rfl rfl ?_
                refine V.cVi (hpl k c7 da hda) dX7_isOrdered_68 k_X7_113 rfl rfl rfl (Nat.le_of_ble_eq_true rfl) rfl ?_
                refine V.aldn 0 dX7_isOrdered_71 rfl rfl ?_
                refine V.ildn 1 dX7_isOrdered_72 rfl rfl ?_
                refine V.cVi (hpl s hs ds hds) dX7_isOrdered_73 k_X7_113 rfl rfl rfl (Nat.le_of_ble_eq_true rfl) rfl ?_
                refine V.icmp_le 81 dX7_isOrdered_76 (by decide) (fun c76 => ?_) (fun c76 => ?_)
                · exact nxt c7 (fun _ da' ds' h1' h2' => by rw [hda] at h1'; rw [hds] at h2'; cases h1'; cases h2'; exact Or.inr ⟨c63, c76⟩)
                · exact bad c7 (fun q => by have := q (btB_t.mpr c20) da ds hda hds; rcases this with z | z; omega; exact c76 z.2)
          · refine V.goto 81 dX7_isOrdered_33 (by decide) ?_
            exact nxt c7 (fun _ da _ h _ => absurd c30 (by rw [h]; exact nI_m1 (by have := d1 k da c7 h; omega)))
  refine V.iconst (nI 0) dX7_isOrdered_0 (by decide +kernel) ?_
  refine V.istn 2 dX7_isOrdered_1 rfl (Nat.le_of_ble_eq_true rfl) ?_
  exact loop n 0 (by omega) (by omega) (fun a ha => absurd ha (Nat.not_lt_zero a))
theorem t_keeps (hM : MV F nd R m) (hD : DR n nd R D) (h8 : MD8 n D m) : Mt (dp + 3) 0 0 mX7_keeps [.ref 45] (HH f ro rs rw rb m) (RI (bI (dB (KP F n nd R D))) (HH f ro rs rw rb m)) := by
  refine Mt.of rfl rfl (Nat.le_of_ble_eq_true rfl) rfl ?_
  have hM0 := hM
  obtain ⟨hnd, h13, hF, hp, hR⟩ := hM
  have hD0 := hD
  obtain ⟨hn20, d1, d2, d3⟩ := hD
  have h80 := h8
  obtain ⟨h1, h8⟩ := h8
  have loop2 : (∀ d, d < nd → dayP F nd R d) → ∀ (j k : Nat), n - k = j → k ≤ n → (∀ s, s < k → D s ≠ none → ∀ a, a < n → ordA F R D s a) → V mX7_keeps (dp + 3) 0 0 80 [some (.ref 45), some (.int (nI k))] [] (HH f ro rs rw rb m) (RI (bI (dB (KP F n nd R D))) (HH f ro rs rw rb m)) := by
    intro hday j
    induction j using Nat.strongRecOn with
    | _ j ih =>
      intro k hj hk hall
      have nxt : k < n → (D k ≠ none → ∀ a, a < n → ordA F R D k a) → V mX7_keeps (dp + 3) 0 0 108 [some (.ref 45), some (.int (nI k))] [] (HH f ro rs rw rb m) (RI (bI (dB (KP F n nd R D))) (HH f ro rs rw rb m)) := by
        intro hkn ho
        first | refine V.iincN dX7_keeps_108 rfl ?_ | refine V.iinc dX7_keeps_108 rfl rfl ?_
        refine V.goto 80 dX7_keeps_111 (by decide) ?_
        exact ih _ (by omega) (k + 1) rfl (by omega) (fun a ha => by rcases Nat.lt_succ_iff_lt_or_eq.mp ha with q | q; exact hall a q; rw [q]; exact ho)
      refine V.ildn 1 dX7_keeps_80 rfl rfl ?_
      refine V.aldn 0 dX7_keeps_81 rfl rfl ?_
      refine V.gf7_1 dX7_keeps_82 f_X7_84 ?_
      refine V.top h1 ?_
      first | refine V.icmp_geN 114 dX7_keeps_85 (by decide) (by omega) (by omega) (fun c85 => ?_) (fun c85 => ?_) | refine V.icmp_ge 114 dX7_keeps_85 (by decide) (fun c85 => ?_) (fun c85 => ?_)
      · refine V.iconst (nI 1) dX7_keeps_114 (by decide +kernel) ?_
        exact V.ireturn dX7_keeps_115 rfl (by first | rfl | decide +kernel) (⟨congrArg (fun x => some (Value.int x)) (bI_t (dB_t ⟨hday, fun s hs => hall s (by omega)⟩)), rfl⟩)
      · refine V.aldn 0 dX7_keeps_88 rfl rfl ?_
        refine V.gf7_8 dX7_keeps_89 f_X7_29 ?_
        refine V.ildn 1 dX7_keeps_92 rfl rfl ?_
        refine V.ald_52 dX7_keeps_93 (ix_nI (by omega) (by decide)) ?_
        refine V.top (h8 k c85) ?_
        refine V.iconst (-1) dX7_keeps_94 (by decide +kernel) ?_
        refine V.icmp_eq 108 dX7_keeps_95 (by decide) (fun c95 => ?_) (fun c95 => ?_)
        · exact nxt c85 (fun q => absurd ((dI_none (fun d hd => by have := d1 k d c85 hd; omega)).mp c95) q)
        · have hk0 : D k ≠ none := fun q => c95 (by rw [q]; rfl)
          refine V.aldn 0 dX7_keeps_98 rfl rfl ?_
          refine V.ildn 1 dX7_keeps_99 rfl rfl ?_
          refine V.cVi (t_isOrdered hM0 hD0 h80 c85 hk0) dX7_keeps_100 k_X7_126 rfl rfl rfl (Nat.le_of_ble_eq_true rfl) rfl ?_
          first | refine V.if_neB 108 dX7_keeps_103 (by decide) (fun c103 => ?_) (fun c103 => ?_) | refine V.if_neN 108 dX7_keeps_103 (by decide) (by omega) (fun c103 => ?_) (fun c103 => ?_) | refine V.if_ne 108 dX7_keeps_103 (by decide) (fun c103 => ?_) (fun c103 => ?_)
          · exact nxt c85 (fun _ => of_dB c103)
          · refine V.iconst (nI 0) dX7_keeps_106 (by decide +kernel) ?_
            exact V.ireturn dX7_keeps_107 rfl (by first | rfl | decide +kernel) (⟨congrArg (fun x => some (Value.int x)) (bI_f (dB_f (fun q => of_dBf c103 (q.2 k c85 hk0)))), rfl⟩)
  have loop : ∀ (j k : Nat), nd - k = j → k ≤ nd → (∀ d, d < k → dayP F nd R d) → V mX7_keeps (dp + 3) 0 0 2 [some (.ref 45), some (.int (nI k))] [] (HH f ro rs rw rb m) (RI (bI (dB (KP F n nd R D))) (HH f ro rs rw rb m)) := by
    intro j
    induction j using Nat.strongRecOn with
    | _ j ih =>
      intro k hj hk hall
      have nxt : k < nd → dayP F nd R k → V mX7_keeps (dp + 3) 0 0 72 [some (.ref 45), some (.int (nI k))] [] (HH f ro rs rw rb m) (RI (bI (dB (KP F n nd R D))) (HH f ro rs rw rb m)) := by
        intro hkn ho
        first | refine V.iincN dX7_keeps_72 rfl ?_ | refine V.iinc dX7_keeps_72 rfl rfl ?_
        refine V.goto 2 dX7_keeps_75 (by decide) ?_
        exact ih _ (by omega) (k + 1) rfl (by omega) (fun a ha => by rcases Nat.lt_succ_iff_lt_or_eq.mp ha with q | q; exact hall a q; rw [q]; exact ho)
      have bad : k < nd → ¬ dayP F nd R k → RI (bI (dB (KP F n nd R D))) (HH f ro rs rw rb m) (some (.int (nI 0))) (HH f ro rs rw rb m) := by
        intro hkn ho
        exact ⟨congrArg (fun x => some (Value.int x)) (bI_f (dB_f (fun q => ho (q.1 k hkn)))), rfl⟩
      refine V.ildn 1 dX7_keeps_2 rfl rfl ?_
      refine V.aldn 0 dX7_keeps_3 rfl rfl ?_
      refine V.gf7_13 dX7_keeps_4 f_X7_91 ?_
      refine V.top h13 ?_
      first | refine V.icmp_geN 78 dX7_keeps_7 (by decide) (by omega) (by omega) (fun c7 => ?_) (fun c7 => ?_) | refine V.icmp_ge 78 dX7_keeps_7 (by decide) (fun c7 => ?_) (fun c7 => ?_)
      · obtain rfl : k = nd := by omega
        refine V.iconst (nI 0) dX7_keeps_78 (by decide +kernel) ?_
        refine V.istn 1 dX7_keeps_79 rfl (Nat.le_of_ble_eq_true rfl) ?_
        exact loop2 hall n 0 (by omega) (by omega) (fun s hs => absurd hs (Nat.not_lt_zero s))
      · refine V.aldn 0 dX7_keeps_10 rfl rfl ?_
        refine V.ildn 1 dX7_keeps_11 rfl rfl ?_
        refine V.cVi (t_minutesOf ⟨hF 2 rfl, hF 3 rfl, hF 12 rfl⟩ hp (by omega) (hR k c7)) dX7_keeps_12 k_X7_117 rfl rfl rfl (Nat.le_of_ble_eq_true rfl) rfl ?_
        refine V.aldn 0 dX7_keeps_15 rfl rfl ?_
        refine V.gf7_14 dX7_keeps_16 f_X7_44 ?_
        refine V.ildn 1 dX7_keeps_19 rfl rfl ?_
        refine V.ald_57 dX7_keeps_20 (ix_nI (by omega) (by decide)) ?_
        refine V.top (congrFun (hF 14 rfl) _) ?_
        refine V.icmp_gt 38 dX7_keeps_21 (by decide) (fun c21 => ?_) (fun c21 => ?_)
        · refine V.iconst (nI 0) dX7_keeps_38 (by decide +kernel) ?_
          exact V.ireturn dX7_keeps_39 rfl (by first | rfl | decide +kernel) (bad c7 (fun q => absurd q.1 (Int32.not_le.mpr c21)))
        · refine V.aldn 0 dX7_keeps_24 rfl rfl ?_
          refine V.ildn 1 dX7_keeps_25 rfl rfl ?_
          refine V.cVi (t_lightOf ⟨hF 2 rfl, hF 4 rfl⟩ (by omega) (hR k c7)) dX7_keeps_26 k_X7_120 rfl rfl rfl (Nat.le_of_ble_eq_true rfl) rfl ?_
          refine V.aldn 0 dX7_keeps_29 rfl rfl ?_
          refine V.gf7_15 dX7_keeps_30 f_X7_47 ?_
          refine V.ildn 1 dX7_keeps_33 rfl rfl ?_
          refine V.ald_58 dX7_keeps_34 (ix_nI (by omega) (by decide)) ?_
          refine V.top (congrFun (hF 15 rfl) _) ?_
          refine V.icmp_le 40 dX7_keeps_35 (by decide) (fun c35 => ?_) (fun c35 => ?_)
          · refine V.ildn 1 dX7_keeps_40 rfl rfl ?_
            refine V.iconst (nI 1) dX7_keeps_41 (by decide +kernel) ?_
            first | refine V.iaddN dX7_keeps_42 ?_ | refine V.iadd dX7_keeps_42 ?_
            refine V.aldn 0 dX7_keeps_43 rfl rfl ?_
            refine V.gf7_13 dX7_keeps_44 f_X7_91 ?_
            refine V.top h13 ?_
            first | refine V.icmp_geN 72 dX7_keeps_47 (by decide) (by omega) (by omega) (fun c47 => ?_) (fun c47 => ?_) | refine V.icmp_ge 72 dX7_keeps_47 (by decide) (fun c47 => ?_) (fun c47 => ?_)
            · exact nxt c7 ⟨Int32.not_lt.mp c21, c35, fun q => absurd q (by omega)⟩
            · refine V.aldn 0 dX7_keeps_50 rfl rfl ?_
              refine V.ildn 1 dX7_keeps_51 rfl rfl ?_
              refine V.iconst (nI 2) dX7_keeps_52 (by decide +kernel) ?_
              refine V.cVi (t_has (hF 4 rfl) (by omega) (hR k c7) (nI 2)) dX7_keeps_53 k_X7_123 rfl rfl rfl (Nat.le_of_ble_eq_true rfl) rfl ?_
              first | refine V.if_eqB 72 dX7_keeps_56 (by decide) (fun c56 => ?_) (fun c56 => ?_) | refine V.if_eqN 72 dX7_keeps_56 (by decide) (by omega) (fun c56 => ?_) (fun c56 => ?_) | refine V.if_eq 72 dX7_keeps_56 (by decide) (fun c56 => ?_) (fun c56 => ?_)
              · exact nxt c7 ⟨Int32.not_lt.mp c21, c35, fun _ q => by rw [c56] at q; cases q⟩
              · refine V.aldn 0 dX7_keeps_59 rfl rfl ?_
                refine V.ildn 1 dX7_keeps_60 rfl rfl ?_
                refine V.iconst (nI 1) dX7_keeps_61 (by decide +kernel) ?_
                first | refine V.iaddN dX7_keeps_62 ?_ | refine V.iadd dX7_keeps_62 ?_
                refine V.iconst (nI 1) dX7_keeps_63 (by decide +kernel) ?_
                refine V.cVi (t_has (hF 4 rfl) (by omega) (hR (k + 1) c47) (nI 1)) dX7_keeps_64 k_X7_123 rfl rfl rfl (Nat.le_of_ble_eq_true rfl) rfl ?_
                first | refine V.if_eqB 72 dX7_keeps_67 (by decide) (fun c67 => ?_) (fun c67 => ?_) | refine V.if_eqN 72 dX7_keeps_67 (by decide) (by omega) (fun c67 => ?_) (fun c67 => ?_) | refine V.if_eq 72 dX7_keeps_67 (by decide) (fun c67 => ?_) (fun c67 => ?_)
                · exact nxt c7 ⟨Int32.not_lt.mp c21, c35, fun _ _ => c67⟩
                · refine V.iconst (nI 0) dX7_keeps_70 (by decide +kernel) ?_
                  exact V.ireturn dX7_keeps_71 rfl (by first | rfl | decide +kernel) (bad c7 (fun q => by have := q.2.2 c47 c56; rw [c67] at this; cases this))
          · refine V.iconst (nI 0) dX7_keeps_38 (by decide +kernel) ?_
            exact V.ireturn dX7_keeps_39 rfl (by first | rfl | decide +kernel) (bad c7 (fun q => c35 q.2.1))
  refine V.iconst (nI 0) dX7_keeps_0 (by decide +kernel) ?_
  refine V.istn 1 dX7_keeps_1 rfl (Nat.le_of_ble_eq_true rfl) ?_
  exact loop nd 0 (by omega) (by omega) (fun a ha => absurd ha (Nat.not_lt_zero a))
end MODEL
end
section
/-! the reference: rows kept and brought back, taken, traded -/
theorem up2_at (g : Nat → Nat → Int32) (i j : Nat) (v : Int32) (a b : Nat) : up2 g i j v a b = if a = i ∧ b = j then v else g a b := by
  unfold up2 upd
  by_cases h1 : a = i
  · subst h1
    by_cases h2 : b = j
    · simp [h2]
    · simp [h2]
  · simp [h1]
def Sm (ks : List Nat) (m m' : Nat → Nat → Int32) : Prop := ∀ k, k ∉ ks → m' k = m k
theorem Sm.rf {ks : List Nat} {m : Nat → Nat → Int32} : Sm ks m m := fun _ _ => rfl
theorem Sm.up {ks : List Nat} {m m' : Nat → Nat → Int32} {i j : Nat} {v : Int32} (h : Sm ks m m') (hi : i ∈ ks) : Sm ks m (up2 m' i j v) := by
  intro k hk
  rw [up2_ne (fun e => hk (by rw [e]; exact hi))]
  exact h k hk
theorem Sm.tr {ks : List Nat} {m m' m'' : Nat → Nat → Int32} (h : Sm ks m m') (h' : Sm ks m' m'') : Sm ks m m'' := fun k hk => (h' k hk).trans (h k hk)
theorem Sm.wk {ks ks' : List Nat} {m m' : Nat → Nat → Int32} (h : Sm ks m m') (hs : ∀ k, k ∈ ks → k ∈ ks') : Sm ks' m m' := fun k hk => h k (fun q => hk (hs k q))
def MS (F : Nat → Nat → Int32) (n nd : Nat) (R : Nat → List Nat) (D : Nat → Option Nat) (m : Nat → Nat → Int32) : Prop := MV F nd R m ∧ DR n nd R D ∧ MD8 n D m
theorem rowM_congr {m m' : Nat → Nat → Int32} {d : Nat} {l : List Nat} (h1 : m' 16 d = m 16 d) (h2 : ∀ k, k < 5 → m' 17 (5 * d + k) = m 17 (5 * d + k)) (h : rowM m d l) : rowM m' d l :=
  ⟨h1.trans h.1, h.2.1, fun k hk => ⟨(h2 k (by have := h.2.1; omega)).trans (h.2.2 k hk).1, (h.2.2 k hk).2⟩⟩
theorem film_congr {F m m' : Nat → Nat → Int32} {ks : List Nat} (hs : Sm ks m m') (hk : ∀ k, isF k = true → k ∉ ks) (h : ∀ k, isF k = true → m k = F k) : ∀ k, isF k = true → m' k = F k := fun k q => (hs k (hk k q)).trans (h k q)
theorem isF_no {ks : List Nat} (h : ks.all (fun k => !isF k) = true) : ∀ k, isF k = true → k ∉ ks := by
  intro k hk hm
  have := List.all_eq_true.mp h k hm
  rw [hk] at this
  cases this
def upR (R : Nat → List Nat) (d : Nat) (l : List Nat) : Nat → List Nat := fun a => if a = d then l else R a
theorem upR_s (R : Nat → List Nat) (d : Nat) (l : List Nat) : upR R d l d = l := if_pos rfl
theorem upR_n {R : Nat → List Nat} {d a : Nat} {l : List Nat} (h : a ≠ d) : upR R d l a = R a := if_neg h
def upD (D : Nat → Option Nat) (s : Nat) (o : Option Nat) : Nat → Option Nat := fun a => if a = s then o else D a
theorem upD_s (D : Nat → Option Nat) (s : Nat) (o : Option Nat) : upD D s o s = o := if_pos rfl
theorem upD_n {D : Nat → Option Nat} {s a : Nat} {o : Option Nat} (h : a ≠ s) : upD D s o a = D a := if_neg h
theorem getD_erase {l : List Nat} {s i : Nat} (hm : s ∈ l) : (l.erase s).getD i 0 = if i < l.idxOf s then l.getD i 0 else l.getD (i + 1) 0 := by
  rw [List.erase_eq_eraseIdx_of_idxOf (i := l.idxOf s) rfl]
  simp only [List.getD_eq_getElem?_getD, List.getElem?_eraseIdx]
  split <;> rfl
section MODEL
variable {f ro rs : Nat → Nat → Int32} {rw rb : Nat → Nat} {m : Nat → Nat → Int32} {dp : Nat} {F : Nat → Nat → Int32} {n nd : Nat} {R : Nat → List Nat} {D : Nat → Option Nat}
theorem t_keepAll : Mt (dp + 1) 0 0 mX7_keepAll [.ref 45] (HH f ro rs rw rb m) (fun r h' => ∃ m', r = none ∧ h' = HH f ro rs rw rb m' ∧ Sm [22, 23, 24] m m' ∧ (∀ j, j < 40 → m' 22 j = m 17 j) ∧ (∀ j, j < 8 → m' 23 j = m 16 j) ∧ (∀ j, j < 20 → m' 24 j = m 8 j)) := by
  refine Mt.of rfl rfl (Nat.le_of_ble_eq_true rfl) rfl ?_
  generalize hQ : (fun (r : Option Value) (h' : List AC) => ∃ m', r = none ∧ h' = HH f ro rs rw rb m' ∧ Sm [22, 23, 24] m m' ∧ (∀ j, j < 40 → m' 22 j = m 17 j) ∧ (∀ j, j < 8 → m' 23 j = m 16 j) ∧ (∀ j, j < 20 → m' 24 j = m 8 j)) = Q
  have loop3 : ∀ (j k : Nat) (m' : Nat → Nat → Int32), 20 - k = j → k ≤ 20 → Sm [22, 23, 24] m m' → (∀ j, j < 40 → m' 22 j = m 17 j) → (∀ j, j < 8 → m' 23 j = m 16 j) → (∀ j, j < k → m' 24 j = m 8 j) → V mX7_keepAll (dp + 1) 0 0 54 [some (.ref 45), some (.int (nI k))] [] (HH f ro rs rw rb m') Q := by
    intro j
    induction j using Nat.strongRecOn with
    | _ j ih =>
      intro k m' hj hk hS a1 a2 a3
      refine V.ildn 1 dX7_keepAll_54 rfl rfl ?_
      refine V.bipush (nI 20) dX7_keepAll_55 (by decide +kernel) ?_
      first | refine V.icmp_geN 78 dX7_keepAll_57 (by decide) (by omega) (by omega) (fun c57 => ?_) (fun c57 => ?_) | refine V.icmp_ge 78 dX7_keepAll_57 (by decide) (fun c57 => ?_) (fun c57 => ?_)
      · exact V.vreturn dX7_keepAll_78 rfl (by rw [← hQ]; exact ⟨m', rfl, rfl, hS, a1, a2, fun j hj => a3 j (by omega)⟩)
      · refine V.aldn 0 dX7_keepAll_60 rfl rfl ?_
        refine V.gf7_24 dX7_keepAll_61 f_X7_71 ?_
        refine V.ildn 1 dX7_keepAll_64 rfl rfl ?_
        refine V.aldn 0 dX7_keepAll_65 rfl rfl ?_
        refine V.gf7_8 dX7_keepAll_66 f_X7_29 ?_
        refine V.ildn 1 dX7_keepAll_69 rfl rfl ?_
        refine V.ald_52 dX7_keepAll_70 (ix_nI (by omega) (by decide)) ?_
        refine V.ast_66 dX7_keepAll_71 (ix_nI (by omega) (by decide)) ?_
        first | refine V.iincN dX7_keepAll_72 rfl ?_ | refine V.iinc dX7_keepAll_72 rfl rfl ?_
        refine V.goto 54 dX7_keepAll_75 (by decide) ?_
        refine ih _ (by omega) (k + 1) _ rfl (by omega) (hS.up (by decide)) (fun j hj => by rw [up2_at, if_neg (by omega)]; exact a1 j hj) (fun j hj => by rw [up2_at, if_neg (by omega)]; exact a2 j hj) (fun j hj => ?_)
        rw [up2_at]
        split
        · rename_i q; rw [q.2, hS 8 (by decide)]
        · exact a3 j (by omega)
  have loop2 : ∀ (j k : Nat) (m' : Nat → Nat → Int32), 8 - k = j → k ≤ 8 → Sm [22, 23, 24] m m' → (∀ j, j < 40 → m' 22 j = m 17 j) → (∀ j, j < k → m' 23 j = m 16 j) → V mX7_keepAll (dp + 1) 0 0 28 [some (.ref 45), some (.int (nI k))] [] (HH f ro rs rw rb m') Q := by
    intro j
    induction j using Nat.strongRecOn with
    | _ j ih =>
      intro k m' hj hk hS a1 a2
      refine V.ildn 1 dX7_keepAll_28 rfl rfl ?_
      refine V.bipush (nI 8) dX7_keepAll_29 (by decide +kernel) ?_
      first | refine V.icmp_geN 52 dX7_keepAll_31 (by decide) (by omega) (by omega) (fun c31 => ?_) (fun c31 => ?_) | refine V.icmp_ge 52 dX7_keepAll_31 (by decide) (fun c31 => ?_) (fun c31 => ?_)
      · refine V.iconst (nI 0) dX7_keepAll_52 (by decide +kernel) ?_
        refine V.istn 1 dX7_keepAll_53 rfl (Nat.le_of_ble_eq_true rfl) ?_
        exact loop3 20 0 m' (by omega) (by omega) hS a1 (fun j hj => a2 j (by omega)) (fun j hj => absurd hj (Nat.not_lt_zero j))
      · refine V.aldn 0 dX7_keepAll_34 rfl rfl ?_
        refine V.gf7_23 dX7_keepAll_35 f_X7_68 ?_
        refine V.ildn 1 dX7_keepAll_38 rfl rfl ?_
        refine V.aldn 0 dX7_keepAll_39 rfl rfl ?_
        refine V.gf7_16 dX7_keepAll_40 f_X7_50 ?_
        refine V.ildn 1 dX7_keepAll_43 rfl rfl ?_
        refine V.ald_59 dX7_keepAll_44 (ix_nI (by omega) (by decide)) ?_
        refine V.ast_65 dX7_keepAll_45 (ix_nI (by omega) (by decide)) ?_
        first | refine V.iincN dX7_keepAll_46 rfl ?_ | refine V.iinc dX7_keepAll_46 rfl rfl ?_
        refine V.goto 28 dX7_keepAll_49 (by decide) ?_
        refine ih _ (by omega) (k + 1) _ rfl (by omega) (hS.up (by decide)) (fun j hj => by rw [up2_at, if_neg (by omega)]; exact a1 j hj) (fun j hj => ?_)
        rw [up2_at]
        split
        · rename_i q; rw [q.2, hS 16 (by decide)]
        · exact a2 j (by omega)
  have loop1 : ∀ (j k : Nat) (m' : Nat → Nat → Int32), 40 - k = j → k ≤ 40 → Sm [22, 23, 24] m m' → (∀ j, j < k → m' 22 j = m 17 j) → V mX7_keepAll (dp + 1) 0 0 2 [some (.ref 45), some (.int (nI k))] [] (HH f ro rs rw rb m') Q := by
    intro j
    induction j using Nat.strongRecOn with
    | _ j ih =>
      intro k m' hj hk hS a1
      refine V.ildn 1 dX7_keepAll_2 rfl rfl ?_
      refine V.bipush (nI 40) dX7_keepAll_3 (by decide +kernel) ?_
      first | refine V.icmp_geN 26 dX7_keepAll_5 (by decide) (by omega) (by omega) (fun c5 => ?_) (fun c5 => ?_) | refine V.icmp_ge 26 dX7_keepAll_5 (by decide) (fun c5 => ?_) (fun c5 => ?_)
      · refine V.iconst (nI 0) dX7_keepAll_26 (by decide +kernel) ?_
        refine V.istn 1 dX7_keepAll_27 rfl (Nat.le_of_ble_eq_true rfl) ?_
        exact loop2 8 0 m' (by omega) (by omega) hS (fun j hj => a1 j (by omega)) (fun j hj => absurd hj (Nat.not_lt_zero j))
      · refine V.aldn 0 dX7_keepAll_8 rfl rfl ?_
        refine V.gf7_22 dX7_keepAll_9 f_X7_65 ?_
        refine V.ildn 1 dX7_keepAll_12 rfl rfl ?_
        refine V.aldn 0 dX7_keepAll_13 rfl rfl ?_
        refine V.gf7_17 dX7_keepAll_14 f_X7_53 ?_
        refine V.ildn 1 dX7_keepAll_17 rfl rfl ?_
        refine V.ald_60 dX7_keepAll_18 (ix_nI (by omega) (by decide)) ?_
        refine V.ast_64 dX7_keepAll_19 (ix_nI (by omega) (by decide)) ?_
        first | refine V.iincN dX7_keepAll_20 rfl ?_ | refine V.iinc dX7_keepAll_20 rfl rfl ?_
        refine V.goto 2 dX7_keepAll_23 (by decide) ?_
        refine ih _ (by omega) (k + 1) _ rfl (by omega) (hS.up (by decide)) (fun j hj => ?_)
        rw [up2_at]
        split
        · rename_i q; rw [q.2, hS 17 (by decide)]
        · exact a1 j (by omega)
  refine V.iconst (nI 0) dX7_keepAll_0 (by decide +kernel) ?_
  refine V.istn 1 dX7_keepAll_1 rfl (Nat.le_of_ble_eq_true rfl) ?_
  exact loop1 40 0 m (by omega) (by omega) Sm.rf (fun j hj => absurd hj (Nat.not_lt_zero j))
theorem t_backAll : Mt (dp + 1) 0 0 mX7_backAll [.ref 45] (HH f ro rs rw rb m) (fun r h' => ∃ m', r = none ∧ h' = HH f ro rs rw rb m' ∧ Sm [17, 16, 8] m m' ∧ (∀ j, j < 40 → m' 17 j = m 22 j) ∧ (∀ j, j < 8 → m' 16 j = m 23 j) ∧ (∀ j, j < 20 → m' 8 j = m 24 j)) := by
  refine Mt.of rfl rfl (Nat.le_of_ble_eq_true rfl) rfl ?_
  generalize hQ : (fun (r : Option Value) (h' : List AC) => ∃ m', r = none ∧ h' = HH f ro rs rw rb m' ∧ Sm [17, 16, 8] m m' ∧ (∀ j, j < 40 → m' 17 j = m 22 j) ∧ (∀ j, j < 8 → m' 16 j = m 23 j) ∧ (∀ j, j < 20 → m' 8 j = m 24 j)) = Q
  have loop3 : ∀ (j k : Nat) (m' : Nat → Nat → Int32), 20 - k = j → k ≤ 20 → Sm [17, 16, 8] m m' → (∀ j, j < 40 → m' 17 j = m 22 j) → (∀ j, j < 8 → m' 16 j = m 23 j) → (∀ j, j < k → m' 8 j = m 24 j) → V mX7_backAll (dp + 1) 0 0 54 [some (.ref 45), some (.int (nI k))] [] (HH f ro rs rw rb m') Q := by
    intro j
    induction j using Nat.strongRecOn with
    | _ j ih =>
      intro k m' hj hk hS a1 a2 a3
      refine V.ildn 1 dX7_backAll_54 rfl rfl ?_
      refine V.bipush (nI 20) dX7_backAll_55 (by decide +kernel) ?_
      first | refine V.icmp_geN 78 dX7_backAll_57 (by decide) (by omega) (by omega) (fun c57 => ?_) (fun c57 => ?_) | refine V.icmp_ge 78 dX7_backAll_57 (by decide) (fun c57 => ?_) (fun c57 => ?_)
      · exact V.vreturn dX7_backAll_78 rfl (by rw [← hQ]; exact ⟨m', rfl, rfl, hS, a1, a2, fun j hj => a3 j (by omega)⟩)
      · refine V.aldn 0 dX7_backAll_60 rfl rfl ?_
        refine V.gf7_8 dX7_backAll_61 f_X7_29 ?_
        refine V.ildn 1 dX7_backAll_64 rfl rfl ?_
        refine V.aldn 0 dX7_backAll_65 rfl rfl ?_
        refine V.gf7_24 dX7_backAll_66 f_X7_71 ?_
        refine V.ildn 1 dX7_backAll_69 rfl rfl ?_
        refine V.ald_66 dX7_backAll_70 (ix_nI (by omega) (by decide)) ?_
        refine V.ast_52 dX7_backAll_71 (ix_nI (by omega) (by decide)) ?_
        first | refine V.iincN dX7_backAll_72 rfl ?_ | refine V.iinc dX7_backAll_72 rfl rfl ?_
        refine V.goto 54 dX7_backAll_75 (by decide) ?_
        refine ih _ (by omega) (k + 1) _ rfl (by omega) (hS.up (by decide)) (fun j hj => by rw [up2_at, if_neg (by omega)]; exact a1 j hj) (fun j hj => by rw [up2_at, if_neg (by omega)]; exact a2 j hj) (fun j hj => ?_)
        rw [up2_at]
        split
        · rename_i q; rw [q.2, hS 24 (by decide)]
        · exact a3 j (by omega)
  have loop2 : ∀ (j k : Nat) (m' : Nat → Nat → Int32), 8 - k = j → k ≤ 8 → Sm [17, 16, 8] m m' → (∀ j, j < 40 → m' 17 j = m 22 j) → (∀ j, j < k → m' 16 j = m 23 j) → V mX7_backAll (dp + 1) 0 0 28 [some (.ref 45), some (.int (nI k))] [] (HH f ro rs rw rb m') Q := by
    intro j
    induction j using Nat.strongRecOn with
    | _ j ih =>
      intro k m' hj hk hS a1 a2
      refine V.ildn 1 dX7_backAll_28 rfl rfl ?_
      refine V.bipush (nI 8) dX7_backAll_29 (by decide +kernel) ?_
      first | refine V.icmp_geN 52 dX7_backAll_31 (by decide) (by omega) (by omega) (fun c31 => ?_) (fun c31 => ?_) | refine V.icmp_ge 52 dX7_backAll_31 (by decide) (fun c31 => ?_) (fun c31 => ?_)
      · refine V.iconst (nI 0) dX7_backAll_52 (by decide +kernel) ?_
        refine V.istn 1 dX7_backAll_53 rfl (Nat.le_of_ble_eq_true rfl) ?_
        exact loop3 20 0 m' (by omega) (by omega) hS a1 (fun j hj => a2 j (by omega)) (fun j hj => absurd hj (Nat.not_lt_zero j))
      · refine V.aldn 0 dX7_backAll_34 rfl rfl ?_
        refine V.gf7_16 dX7_backAll_35 f_X7_50 ?_
        refine V.ildn 1 dX7_backAll_38 rfl rfl ?_
        refine V.aldn 0 dX7_backAll_39 rfl rfl ?_
        refine V.gf7_23 dX7_backAll_40 f_X7_68 ?_
        refine V.ildn 1 dX7_backAll_43 rfl rfl ?_
        refine V.ald_65 dX7_backAll_44 (ix_nI (by omega) (by decide)) ?_
        refine V.ast_59 dX7_backAll_45 (ix_nI (by omega) (by decide)) ?_
        first | refine V.iincN dX7_backAll_46 rfl ?_ | refine V.iinc dX7_backAll_46 rfl rfl ?_
        refine V.goto 28 dX7_backAll_49 (by decide) ?_
        refine ih _ (by omega) (k + 1) _ rfl (by omega) (hS.up (by decide)) (fun j hj => by rw [up2_at, if_neg (by omega)]; exact a1 j hj) (fun j hj => ?_)
        rw [up2_at]
        split
        · rename_i q; rw [q.2, hS 23 (by decide)]
        · exact a2 j (by omega)
  have loop1 : ∀ (j k : Nat) (m' : Nat → Nat → Int32), 40 - k = j → k ≤ 40 → Sm [17, 16, 8] m m' → (∀ j, j < k → m' 17 j = m 22 j) → V mX7_backAll (dp + 1) 0 0 2 [some (.ref 45), some (.int (nI k))] [] (HH f ro rs rw rb m') Q := by
    intro j
    induction j using Nat.strongRecOn with
    | _ j ih =>
      intro k m' hj hk hS a1
      refine V.ildn 1 dX7_backAll_2 rfl rfl ?_
      refine V.bipush (nI 40) dX7_backAll_3 (by decide +kernel) ?_
      first | refine V.icmp_geN 26 dX7_backAll_5 (by decide) (by omega) (by omega) (fun c5 => ?_) (fun c5 => ?_) | refine V.icmp_ge 26 dX7_backAll_5 (by decide) (fun c5 => ?_) (fun c5 => ?_)
      · refine V.iconst (nI 0) dX7_backAll_26 (by decide +kernel) ?_
        refine V.istn 1 dX7_backAll_27 rfl (Nat.le_of_ble_eq_true rfl) ?_
        exact loop2 8 0 m' (by omega) (by omega) hS (fun j hj => a1 j (by omega)) (fun j hj => absurd hj (Nat.not_lt_zero j))
      · refine V.aldn 0 dX7_backAll_8 rfl rfl ?_
        refine V.gf7_17 dX7_backAll_9 f_X7_53 ?_
        refine V.ildn 1 dX7_backAll_12 rfl rfl ?_
        refine V.aldn 0 dX7_backAll_13 rfl rfl ?_
        refine V.gf7_22 dX7_backAll_14 f_X7_65 ?_
        refine V.ildn 1 dX7_backAll_17 rfl rfl ?_
        refine V.ald_64 dX7_backAll_18 (ix_nI (by omega) (by decide)) ?_
        refine V.ast_60 dX7_backAll_19 (ix_nI (by omega) (by decide)) ?_
        first | refine V.iincN dX7_backAll_20 rfl ?_ | refine V.iinc dX7_backAll_20 rfl rfl ?_
        refine V.goto 2 dX7_backAll_23 (by decide) ?_
        refine ih _ (by omega) (k + 1) _ rfl (by omega) (hS.up (by decide)) (fun j hj => ?_)
        rw [up2_at]
        split
        · rename_i q; rw [q.2, hS 22 (by decide)]
        · exact a1 j (by omega)
  refine V.iconst (nI 0) dX7_backAll_0 (by decide +kernel) ?_
  refine V.istn 1 dX7_backAll_1 rfl (Nat.le_of_ble_eq_true rfl) ?_
  exact loop1 40 0 m (by omega) (by omega) Sm.rf (fun j hj => absurd hj (Nat.not_lt_zero j))
theorem DR.take {s d : Nat} (h : DR n nd R D) (hs : s < n) (hd : D s = some d) : DR n nd (upR R d ((R d).erase s)) (upD D s none) := by
  obtain ⟨hn, d1, d2, d3⟩ := h
  obtain ⟨hdn, hsm⟩ := d1 s d hs hd
  refine ⟨hn, fun a da ha hda => ?_, fun a da hda hm => ?_, fun a ha => ?_⟩
  · by_cases e : a = s
    · subst e; rw [upD_s] at hda; cases hda
    · rw [upD_n e] at hda
      obtain ⟨q1, q2⟩ := d1 a da ha hda
      refine ⟨q1, ?_⟩
      by_cases e2 : da = d
      · subst e2; rw [upR_s]; exact (List.mem_erase_of_ne e).mpr q2
      · rw [upR_n e2]; exact q2
  · by_cases e2 : da = d
    · subst e2
      rw [upR_s] at hm
      have e : a ≠ s := fun q => by subst q; exact (List.Nodup.not_mem_erase (d3 da hdn)) hm
      rw [upD_n e]
      exact d2 a da hda (List.mem_of_mem_erase hm)
    · rw [upR_n e2] at hm
      have q := d2 a da hda hm
      have e : a ≠ s := fun z => by subst z; rw [hd] at q; exact e2 (Option.some.inj q.2).symm
      rw [upD_n e]
      exact q
  · by_cases e2 : a = d
    · subst e2; rw [upR_s]; exact (d3 a ha).erase s
    · rw [upR_n e2]; exact d3 a ha
theorem t_takes (hM : MS F n nd R D m) {s d : Nat} (hs : s < n) (hd : D s = some d) : Mt (dp + 2) 0 0 mX7_takes [.ref 45, .int (nI s)] (HH f ro rs rw rb m) (fun r h' => ∃ m', r = none ∧ h' = HH f ro rs rw rb m' ∧ Sm [8, 16, 17] m m' ∧ MS F n nd (upR R d ((R d).erase s)) (upD D s none) m') := by
  refine Mt.of rfl rfl (Nat.le_of_ble_eq_true rfl) rfl ?_
  obtain ⟨⟨hnd, h13, hF, hp, hR⟩, hD, h1, h8⟩ := hM
  have hDR := hD
  obtain ⟨hn20, d1, d2, d3⟩ := hD
  obtain ⟨hdn, hsm⟩ := d1 s d hs hd
  obtain ⟨hz, hz5, hr⟩ := hR d hdn
  have hat : (R d).idxOf s < (R d).length := List.idxOf_lt_length_of_mem hsm
  have hix : ixo (R d) s = nI ((R d).idxOf s) := by rw [ixo, if_pos hsm]
  have hle : ((R d).erase s).length = (R d).length - 1 := List.length_erase_of_mem hsm
  generalize hQ : (fun (r : Option Value) (h' : List AC) => ∃ m', r = none ∧ h' = HH f ro rs rw rb m' ∧ Sm [8, 16, 17] m m' ∧ MS F n nd (upR R d ((R d).erase s)) (upD D s none) m') = Q
  generalize hb : (R d).idxOf s = b at hat hix
  have tk_end : ∀ (k : Nat) (m' : Nat → Nat → Int32), k = (R d).length - 1 → Sm [16, 17] m m' → (∀ a, m' 16 a = if a = d then nI ((R d).length - 1) else m 16 a) → (∀ i, (i < 5 * d + b ∨ 5 * d + k ≤ i) → m' 17 i = m 17 i) → (∀ i, b ≤ i → i < k → m' 17 (5 * d + i) = m 17 (5 * d + i + 1)) → MS F n nd (upR R d ((R d).erase s)) (upD D s none) (up2 m' 8 s (-1)) := by
    intro k m' hk hS a16 a17 a17'
    have hS8 : Sm [8, 16, 17] m (up2 m' 8 s (-1)) := (hS.wk (by decide)).up (by decide)
    refine ⟨⟨hnd, (congrFun (hS8 13 (by decide)) 0).trans h13, film_congr hS8 (isF_no (by decide)) hF, hp, fun a ha => ?_⟩, DR.take hDR hs hd, (congrFun (hS8 1 (by decide)) 0).trans h1, fun a ha => ?_⟩
    · by_cases e : a = d
      · subst e
        rw [upR_s]
        refine ⟨?_, by omega, fun i hi => ?_⟩
        · rw [up2_at, if_neg (by omega), a16, if_pos rfl, hle]
        · rw [hle] at hi
          rw [up2_at, if_neg (by omega), getD_erase hsm, hb]
          split
          · rename_i q
            rw [a17 _ (by omega)]
            exact hr i (by omega)
          · rename_i q
            rw [a17' i (by omega) (by omega)]
            have := hr (i + 1) (by omega)
            rw [← Nat.add_assoc] at this
            exact this
      · rw [upR_n e]
        refine rowM_congr ?_ (fun i hi => ?_) (hR a ha)
        · rw [up2_at, if_neg (by omega), a16, if_neg e]
        · rw [up2_at, if_neg (by omega)]
          exact a17 _ (by omega)
    · rw [up2_at]
      by_cases e : a = s
      · subst e
        rw [if_pos ⟨rfl, rfl⟩, upD_s]; rfl
      · rw [if_neg (fun q => e q.2), upD_n e, hS 8 (by decide)]
        exact h8 a ha
  have loop : ∀ (j k : Nat) (m' : Nat → Nat → Int32), (R d).length - 1 - k = j → b ≤ k → k ≤ (R d).length - 1 → Sm [16, 17] m m' → (∀ a, m' 16 a = if a = d then nI ((R d).length - 1) else m 16 a) → (∀ i, (i < 5 * d + b ∨ 5 * d + k ≤ i) → m' 17 i = m 17 i) → (∀ i, b ≤ i → i < k → m' 17 (5 * d + i) = m 17 (5 * d + i + 1)) → V mX7_takes (dp + 2) 0 0 26 [some (.ref 45), some (.int (nI s)), some (.int (nI d)), some (.int (nI b)), some (.int (nI k))] [] (HH f ro rs rw rb m') Q := by
    intro j
    induction j using Nat.strongRecOn with
    | _ j ih =>
      intro k m' hj hbk hk hS a16 a17 a17'
      refine V.iload dX7_takes_26 rfl ?_
      refine V.aldn 0 dX7_takes_28 rfl rfl ?_
      refine V.gf7_16 dX7_takes_29 f_X7_50 ?_
      refine V.ildn 2 dX7_takes_32 rfl rfl ?_
      refine V.ald_59 dX7_takes_33 (ix_nI (by omega) (by decide)) ?_
      refine V.top (y := nI ((R d).length - 1)) (by rw [a16, if_pos rfl]) ?_
      first | refine V.icmp_geN 67 dX7_takes_34 (by decide) (by omega) (by omega) (fun c34 => ?_) (fun c34 => ?_) | refine V.icmp_ge 67 dX7_takes_34 (by decide) (fun c34 => ?_) (fun c34 => ?_)
      · refine V.aldn 0 dX7_takes_67 rfl rfl ?_
        refine V.gf7_8 dX7_takes_68 f_X7_29 ?_
        refine V.ildn 1 dX7_takes_71 rfl rfl ?_
        refine V.iconst (-1) dX7_takes_72 (by decide +kernel) ?_
        refine V.ast_52 dX7_takes_73 (ix_nI (by omega) (by decide)) ?_
        exact V.vreturn dX7_takes_74 rfl (by rw [← hQ]; exact ⟨_, rfl, rfl, (hS.wk (by decide)).up (by decide), tk_end k m' (by omega) hS a16 a17 a17'⟩)
      · refine V.aldn 0 dX7_takes_37 rfl rfl ?_
        refine V.gf7_17 dX7_takes_38 f_X7_53 ?_
        refine V.iconst (nI 5) dX7_takes_41 (by decide +kernel) ?_
        refine V.ildn 2 dX7_takes_42 rfl rfl ?_
        first | refine V.imulN dX7_takes_43 ?_ | refine V.imul dX7_takes_43 ?_
        refine V.iload dX7_takes_44 rfl ?_
        first | refine V.iaddN dX7_takes_46 ?_ | refine V.iadd dX7_takes_46 ?_
        refine V.aldn 0 dX7_takes_47 rfl rfl ?_
        refine V.gf7_17 dX7_takes_48 f_X7_53 ?_
        refine V.iconst (nI 5) dX7_takes_51 (by decide +kernel) ?_
        refine V.ildn 2 dX7_takes_52 rfl rfl ?_
        first | refine V.imulN dX7_takes_53 ?_ | refine V.imul dX7_takes_53 ?_
        refine V.iload dX7_takes_54 rfl ?_
        first | refine V.iaddN dX7_takes_56 ?_ | refine V.iadd dX7_takes_56 ?_
        refine V.iconst (nI 1) dX7_takes_57 (by decide +kernel) ?_
        first | refine V.iaddN dX7_takes_58 ?_ | refine V.iadd dX7_takes_58 ?_
        refine V.ald_60 dX7_takes_59 (ix_nI (by omega) (by decide)) ?_
        refine V.ast_60 dX7_takes_60 (ix_nI (by omega) (by decide)) ?_
        first | refine V.iincN dX7_takes_61 rfl ?_ | refine V.iinc dX7_takes_61 rfl rfl ?_
        refine V.goto 26 dX7_takes_64 (by decide) ?_
        refine ih _ (by omega) (k + 1) _ rfl (by omega) (by omega) (hS.up (by decide)) (fun a => by rw [up2_at, if_neg (by omega)]; exact a16 a) (fun i hi => by rw [up2_at, if_neg (by omega)]; exact a17 i (by omega)) (fun i h1 h2 => ?_)
        rw [up2_at]
        split
        · rename_i q; rw [show i = k by omega]; exact a17 _ (by omega)
        · rename_i q; exact a17' i h1 (by omega)
  refine V.aldn 0 dX7_takes_0 rfl rfl ?_
  refine V.gf7_8 dX7_takes_1 f_X7_29 ?_
  refine V.ildn 1 dX7_takes_4 rfl rfl ?_
  refine V.ald_52 dX7_takes_5 (ix_nI (by omega) (by decide)) ?_
  refine V.top (y := nI d) (by rw [h8 s hs, hd]; rfl) ?_
  refine V.istn 2 dX7_takes_6 rfl (Nat.le_of_ble_eq_true rfl) ?_
  refine V.aldn 0 dX7_takes_7 rfl rfl ?_
  refine V.ildn 1 dX7_takes_8 rfl rfl ?_
  refine V.cVi (t_placeIn (by omega) (h8 s hs) (fun d' hd' => by rw [hd] at hd'; cases hd'; exact ⟨by omega, hR d hdn⟩) (fun hn => by rw [hd] at hn; cases hn)) dX7_takes_9 k_X7_113 rfl rfl rfl (Nat.le_of_ble_eq_true rfl) rfl ?_
  refine V.top hix ?_
  refine V.istn 3 dX7_takes_12 rfl (Nat.le_of_ble_eq_true rfl) ?_
  refine V.aldn 0 dX7_takes_13 rfl rfl ?_
  refine V.gf7_16 dX7_takes_14 f_X7_50 ?_
  refine V.ildn 2 dX7_takes_17 rfl rfl ?_
  refine V.dup2 dX7_takes_18 ?_
  refine V.ald_59 dX7_takes_19 (ix_nI (by omega) (by decide)) ?_
  refine V.top hz ?_
  refine V.iconst (nI 1) dX7_takes_20 (by decide +kernel) ?_
  first | refine V.isubN dX7_takes_21 (by omega) ?_ | refine V.isub dX7_takes_21 ?_
  refine V.ast_59 dX7_takes_22 (ix_nI (by omega) (by decide)) ?_
  refine V.ildn 3 dX7_takes_23 rfl rfl ?_
  refine V.istore dX7_takes_24 (Nat.le_of_ble_eq_true rfl) ?_
  refine loop _ b _ rfl (Nat.le_refl _) (by omega) (Sm.rf.up (by decide)) (fun a => ?_) (fun i _ => by rw [up2_at, if_neg (by omega)]) (fun i h1 h2 => by omega)
  rw [up2_at]
  by_cases e : a = d
  · rw [if_pos ⟨rfl, e⟩, if_pos e]
  · rw [if_neg (fun q => e q.2), if_neg e]
end MODEL
end
section
/-! bits (pasted: the kit's laws, Int32 by its bits), lists without doubles, the search by places, trades -/
def bt (x : Int32) (i : Nat) : Bool := x.toBitVec.getLsbD i
theorem b_ext {x y : Int32} (h : ∀ i, i < 32 → bt x i = bt y i) : x = y := Int32.toBitVec_inj.mp (BitVec.eq_of_getLsbD_eq (fun i hi => h i hi))
theorem b_or (x y : Int32) (i : Nat) : bt (x ||| y) i = (bt x i || bt y i) := by unfold bt; rw [Int32.toBitVec_or, BitVec.getLsbD_or]
theorem b_and (x y : Int32) (i : Nat) : bt (x &&& y) i = (bt x i && bt y i) := by unfold bt; rw [Int32.toBitVec_and, BitVec.getLsbD_and]
theorem b_xor (x y : Int32) (i : Nat) : bt (x ^^^ y) i = (bt x i ^^ bt y i) := by unfold bt; rw [Int32.toBitVec_xor, BitVec.getLsbD_xor]
theorem b_big {x : Int32} {i : Nat} (h : 32 ≤ i) : bt x i = false := BitVec.getLsbD_of_ge _ _ h
theorem b_m1 : ∀ i, i < 32 → bt (-1) i = true := by decide +kernel
theorem b_0 (i : Nat) : bt 0 i = false := BitVec.getLsbD_zero
theorem s_l : ∀ n, n < 32 → ((nI n &&& 31).toBitVec.smod 32).toNat = n := by decide +kernel
theorem b_shl (n : Nat) (hn : n < 32) (x : Int32) {i : Nat} (hi : i < 32) : bt (x <<< (nI n &&& 31)) i = (decide (n ≤ i) && bt x (i - n)) := by
  unfold bt
  rw [Int32.toBitVec_shiftLeft]
  show (x.toBitVec <<< ((nI n &&& 31).toBitVec.smod 32).toNat).getLsbD i = _
  rw [s_l n hn, BitVec.getLsbD_shiftLeft]
  rcases Nat.lt_or_ge i n with h | h
  · simp [h, Nat.not_le.mpr h]
  · simp [hi, h, Nat.not_lt.mpr h]
theorem b_sshr (n : Nat) (hn : n < 32) (x : Int32) {i : Nat} (hi : i < 32) : bt (x >>> (nI n &&& 31)) i = if n + i < 32 then bt x (n + i) else bt x 31 := by
  unfold bt
  rw [Int32.toBitVec_shiftRight]
  show (x.toBitVec.sshiftRight ((nI n &&& 31).toBitVec.smod 32).toNat).getLsbD i = _
  rw [s_l n hn, BitVec.getLsbD_sshiftRight, BitVec.msb_eq_getLsbD_last]
  simp [hi]
theorem b_1 : ∀ i, i < 32 → bt (nI 1) i = decide (i = 0) := by decide +kernel
theorem btB_bt {x : Int32} {p : Nat} (hp : p < 32) : btB x p = bt x p := by
  have h0 : ∀ i, i < 32 → bt (x >>> (nI p &&& 31) &&& nI 1) i = (bt x p && decide (i = 0)) := by
    intro i hi
    rw [b_and, b_1 i hi, b_sshr p hp x hi]
    by_cases e : i = 0
    · subst e; rw [if_pos (by omega)]; rfl
    · rw [decide_eq_false e, Bool.and_false, Bool.and_false]
  cases hb : bt x p with
  | true =>
    refine decide_eq_true (b_ext (fun i hi => ?_))
    rw [h0 i hi, hb, b_1 i hi]; rfl
  | false =>
    refine decide_eq_false (fun e => ?_)
    have := h0 0 (by decide)
    rw [hb, e, b_1 0 (by decide)] at this
    simp at this
theorem bt_one {i j : Nat} (hi : i < 32) (hj : j < 32) : bt (nI 1 <<< (nI i &&& 31)) j = decide (j = i) := by
  rw [b_shl i hi _ hj]
  rcases Nat.lt_or_ge j i with h | h
  · rw [decide_eq_false (by omega), decide_eq_false (by omega)]; rfl
  · rw [decide_eq_true h, b_1 (j - i) (by omega), Bool.true_and]
    by_cases e : j = i
    · rw [decide_eq_true e, decide_eq_true (by omega)]
    · rw [decide_eq_false e, decide_eq_false (by omega)]
theorem btB_set {x : Int32} {i j : Nat} (hi : i < 32) (hj : j < 32) : btB (x ||| (nI 1 <<< (nI i &&& 31))) j = (btB x j || j == i) := by
  rw [btB_bt hj, btB_bt hj, b_or, bt_one hi hj]
  by_cases e : j = i
  · subst e; simp
  · simp [e]
theorem btB_0 {j : Nat} (hj : j < 32) : btB (nI 0) j = false := by rw [btB_bt hj, nI_0, b_0]
theorem nd_sub : ∀ (l l' : List Nat), l.Nodup → (∀ x, x ∈ l → x ∈ l') → l.length ≤ l'.length
  | [], _, _, _ => Nat.zero_le _
  | a :: l, l', hn, hs => by
    have ha := hs a List.mem_cons_self
    obtain ⟨h1, h2⟩ := List.nodup_cons.mp hn
    have h3 := nd_sub l (l'.erase a) h2 (fun x hx => (List.mem_erase_of_ne (fun e => h1 (by rw [← e]; exact hx))).mpr (hs x (List.mem_cons_of_mem _ hx)))
    rw [List.length_erase_of_mem ha] at h3
    have : 0 < l'.length := List.length_pos_of_mem ha
    show l.length + 1 ≤ _
    omega
theorem nd_lt {l : List Nat} {z : Nat} (hn : l.Nodup) (h : ∀ x, x ∈ l → x < z) : l.length ≤ z := by
  have := nd_sub l (List.range z) hn (fun x hx => List.mem_range.mpr (h x hx))
  rwa [List.length_range] at this
theorem nd_all {l : List Nat} {z : Nat} (hn : l.Nodup) (h : ∀ x, x ∈ l → x < z) (hl : l.length = z) : ∀ i, i < z → i ∈ l := by
  intro i hi
  by_cases hm : i ∈ l
  · exact hm
  · have := nd_lt (l := i :: l) (z := z) (List.nodup_cons.mpr ⟨hm, hn⟩) (fun x hx => by rcases List.mem_cons.mp hx with q | q; rw [q]; exact hi; exact h x q)
    simp at this
    omega
/-- the search by places: all orders of 0 .. z-1, the least place first -/
def tr {β : Type} (z : Nat) (step : List Nat → β → β) : Nat → (Nat → Bool) → List Nat → β → β
  | 0, _, pre, b => step pre b
  | k + 1, us, pre, b => fo (fun i b => if us i = true then b else tr z step k (fun j => us j || j == i) (pre ++ [i]) b) b z
def sw (a b d : Nat) : Nat := if d = a then b else if d = b then a else d
theorem sw_sw (a b d : Nat) : sw a b (sw a b d) = d := by unfold sw; split <;> split <;> (try split) <;> omega
theorem sw_lt {a b d nd : Nat} (ha : a < nd) (hb : b < nd) : sw a b d < nd ↔ d < nd := by unfold sw; split <;> (try split) <;> omega
theorem DR.swp {n nd : Nat} {R : Nat → List Nat} {D : Nat → Option Nat} {a b : Nat} (ha : a < nd) (hb : b < nd) (h : DR n nd R D) : DR n nd (fun d => R (sw a b d)) (fun s => (D s).map (sw a b)) := by
  obtain ⟨hn, d1, d2, d3⟩ := h
  refine ⟨hn, fun s d hs hd => ?_, fun s d hd hm => ?_, fun d hd => d3 _ ((sw_lt ha hb).mpr hd)⟩
  · have hd : (D s).map (sw a b) = some d := hd
    cases hD : D s with
    | none => rw [hD] at hd; cases hd
    | some e =>
      rw [hD] at hd
      cases hd
      obtain ⟨q1, q2⟩ := d1 s e hs hD
      exact ⟨(sw_lt ha hb).mpr q1, by show s ∈ R (sw a b (sw a b e)); rw [sw_sw]; exact q2⟩
  · obtain ⟨q1, q2⟩ := d2 s _ ((sw_lt ha hb).mpr hd) hm
    exact ⟨q1, by show (D s).map (sw a b) = some d; rw [q2]; show some (sw a b (sw a b d)) = some d; rw [sw_sw]⟩
theorem tr_cell {g : Nat → Int32} {a b d i k : Nat} (hab : a ≠ b) (hk : k ≤ 5) (hi : i < 5) (hk5 : k < 5) : (if 17 = 17 ∧ 5 * d + i = 5 * b + k then g (5 * a + k) else if 17 = 17 ∧ 5 * d + i = 5 * a + k then g (5 * b + k) else if i < k then g (5 * sw a b d + i) else g (5 * d + i)) = if i < k + 1 then g (5 * sw a b d + i) else g (5 * d + i) := by
  by_cases e1 : 5 * d + i = 5 * b + k
  · obtain ⟨rfl, rfl⟩ : d = b ∧ i = k := by omega
    rw [if_pos ⟨rfl, rfl⟩, if_pos (by omega)]
    unfold sw
    rw [if_neg (fun e => hab e.symm), if_pos rfl]
  · rw [if_neg (fun q => e1 q.2)]
    by_cases e2 : 5 * d + i = 5 * a + k
    · obtain ⟨rfl, rfl⟩ : d = a ∧ i = k := by omega
      rw [if_pos ⟨rfl, rfl⟩, if_pos (by omega)]
      unfold sw
      rw [if_pos rfl]
    · rw [if_neg (fun q => e2 q.2)]
      by_cases e3 : i < k
      · rw [if_pos e3, if_pos (by omega)]
      · rw [if_neg e3]
        by_cases e4 : i < k + 1
        · rw [if_pos e4]
          unfold sw
          rw [if_neg (by omega), if_neg (by omega)]
        · rw [if_neg e4]
section MODEL
variable {f ro rs : Nat → Nat → Int32} {rw rb : Nat → Nat} {m : Nat → Nat → Int32} {dp : Nat} {F : Nat → Nat → Int32} {n nd : Nat} {R : Nat → List Nat} {D : Nat → Option Nat}
theorem t_trades (hM : MS F n nd R D m) {a b : Nat} (ha : a < nd) (hb : b < nd) (hab : a ≠ b) : Mt (dp + 1) 0 0 mX7_trades [.ref 45, .int (nI a), .int (nI b)] (HH f ro rs rw rb m) (fun r h' => ∃ m', r = none ∧ h' = HH f ro rs rw rb m' ∧ Sm [8, 16, 17] m m' ∧ MS F n nd (fun d => R (sw a b d)) (fun s => (D s).map (sw a b)) m') := by
  refine Mt.of rfl rfl (Nat.le_of_ble_eq_true rfl) rfl ?_
  obtain ⟨⟨hnd, h13, hF, hp, hR⟩, hD, h1, h8⟩ := hM
  have hDR := hD
  obtain ⟨hn20, d1, d2, d3⟩ := hD
  generalize hQ : (fun (r : Option Value) (h' : List AC) => ∃ m', r = none ∧ h' = HH f ro rs rw rb m' ∧ Sm [8, 16, 17] m m' ∧ MS F n nd (fun d => R (sw a b d)) (fun s => (D s).map (sw a b)) m') = Q
  have loop2 : ∀ (j k : Nat) (m' : Nat → Nat → Int32) (o3 : Option Value), n - k = j → k ≤ n → Sm [8, 16, 17] m m' → (∀ d, m' 16 d = m 16 (sw a b d)) → (∀ d i, i < 5 → m' 17 (5 * d + i) = m 17 (5 * sw a b d + i)) → (∀ s, s < n → m' 8 s = if s < k then dI ((D s).map (sw a b)) else dI (D s)) → V mX7_trades (dp + 1) 0 0 86 [some (.ref 45), some (.int (nI a)), some (.int (nI b)), o3, some (.int (nI k))] [] (HH f ro rs rw rb m') Q := by
    intro j
    induction j using Nat.strongRecOn with
    | _ j ih =>
      intro k m' o3 hj hk hS a16 a17 a8
      have nxt : k < n → ∀ v, v = dI ((D k).map (sw a b)) → V mX7_trades (dp + 1) 0 0 138 [some (.ref 45), some (.int (nI a)), some (.int (nI b)), o3, some (.int (nI k))] [.int v, .int (nI k), .ref 52] (HH f ro rs rw rb m') Q := by
        intro hkn v hv
        refine V.ast_52 dX7_trades_138 (ix_nI (by omega) (by decide)) ?_
        first | refine V.iincN dX7_trades_139 rfl ?_ | refine V.iinc dX7_trades_139 rfl rfl ?_
        refine V.goto 86 dX7_trades_142 (by decide) ?_
        refine ih _ (by omega) (k + 1) _ _ rfl (by omega) (hS.up (by decide)) (fun d => by rw [up2_at, if_neg (by omega)]; exact a16 d) (fun d i hi => by rw [up2_at, if_neg (by omega)]; exact a17 d i hi) (fun s hs => ?_)
        rw [up2_at]
        split
        · rename_i q; rw [if_pos (by omega), q.2]; exact hv
        · rename_i q; rw [a8 s hs]; by_cases e : s < k; rw [if_pos e, if_pos (by omega)]; rw [if_neg e, if_neg (by omega)]
      have body : k < n → V mX7_trades (dp + 1) 0 0 95 [some (.ref 45), some (.int (nI a)), some (.int (nI b)), o3, some (.int (nI k))] [] (HH f ro rs rw rb m') Q := by
        intro hkn
        have h8k := a8 k hkn
        rw [if_neg (Nat.lt_irrefl k)] at h8k
        cases hDk : D k with
        | none =>
          rw [hDk] at h8k
          refine V.aldn 0 dX7_trades_95 rfl rfl ?_
          refine V.gf7_8 dX7_trades_96 f_X7_29 ?_
          refine V.iload dX7_trades_99 rfl ?_
          refine V.aldn 0 dX7_trades_101 rfl rfl ?_
          refine V.gf7_8 dX7_trades_102 f_X7_29 ?_
          refine V.iload dX7_trades_105 rfl ?_
          refine V.ald_52 dX7_trades_107 (ix_nI (by omega) (by decide)) ?_
          refine V.top (y := -1) h8k ?_
          refine V.ildn 1 dX7_trades_108 rfl rfl ?_
          refine V.icmp_ne 116 dX7_trades_109 (by decide) (fun c109 => ?_) (fun c109 => ?_)
          · refine V.aldn 0 dX7_trades_116 rfl rfl ?_
            refine V.gf7_8 dX7_trades_117 f_X7_29 ?_
            refine V.iload dX7_trades_120 rfl ?_
            refine V.ald_52 dX7_trades_122 (ix_nI (by omega) (by decide)) ?_
            refine V.top (y := -1) h8k ?_
            refine V.ildn 2 dX7_trades_123 rfl rfl ?_
            refine V.icmp_ne 131 dX7_trades_124 (by decide) (fun c124 => ?_) (fun c124 => ?_)
            · refine V.aldn 0 dX7_trades_131 rfl rfl ?_
              refine V.gf7_8 dX7_trades_132 f_X7_29 ?_
              refine V.iload dX7_trades_135 rfl ?_
              refine V.ald_52 dX7_trades_137 (ix_nI (by omega) (by decide)) ?_
              refine V.top (y := -1) h8k ?_
              exact nxt hkn _ (by rw [hDk]; rfl)
            · exact absurd c124.symm (nI_m1 (by omega))
          · exact absurd c109.symm (nI_m1 (by omega))
        | some e =>
          rw [hDk] at h8k
          have he := d1 k e hkn hDk
          refine V.aldn 0 dX7_trades_95 rfl rfl ?_
          refine V.gf7_8 dX7_trades_96 f_X7_29 ?_
          refine V.iload dX7_trades_99 rfl ?_
          refine V.aldn 0 dX7_trades_101 rfl rfl ?_
          refine V.gf7_8 dX7_trades_102 f_X7_29 ?_
          refine V.iload dX7_trades_105 rfl ?_
          refine V.ald_52 dX7_trades_107 (ix_nI (by omega) (by decide)) ?_
          refine V.top (y := nI e) h8k ?_
          refine V.ildn 1 dX7_trades_108 rfl rfl ?_
          first | refine V.icmp_neN 116 dX7_trades_109 (by decide) (by omega) (by omega) (fun c109 => ?_) (fun c109 => ?_) | refine V.icmp_ne 116 dX7_trades_109 (by decide) (fun c109 => ?_) (fun c109 => ?_)
          · refine V.aldn 0 dX7_trades_116 rfl rfl ?_
            refine V.gf7_8 dX7_trades_117 f_X7_29 ?_
            refine V.iload dX7_trades_120 rfl ?_
            refine V.ald_52 dX7_trades_122 (ix_nI (by omega) (by decide)) ?_
            refine V.top (y := nI e) h8k ?_
            refine V.ildn 2 dX7_trades_123 rfl rfl ?_
            first | refine V.icmp_neN 131 dX7_trades_124 (by decide) (by omega) (by omega) (fun c124 => ?_) (fun c124 => ?_) | refine V.icmp_ne 131 dX7_trades_124 (by decide) (fun c124 => ?_) (fun c124 => ?_)
            · refine V.aldn 0 dX7_trades_131 rfl rfl ?_
              refine V.gf7_8 dX7_trades_132 f_X7_29 ?_
              refine V.iload dX7_trades_135 rfl ?_
              refine V.ald_52 dX7_trades_137 (ix_nI (by omega) (by decide)) ?_
              refine V.top (y := nI e) h8k ?_
              exact nxt hkn _ (by rw [hDk]; show _ = nI (sw a b e); unfold sw; first | rw [if_pos c109] | rw [if_neg c109, if_pos c124] | rw [if_neg c109, if_neg c124])
            · refine V.ildn 1 dX7_trades_127 rfl rfl ?_
              refine V.goto 138 dX7_trades_128 (by decide) ?_
              exact nxt hkn _ (by rw [hDk]; show _ = nI (sw a b e); unfold sw; first | rw [if_pos c109] | rw [if_neg c109, if_pos c124] | rw [if_neg c109, if_neg c124])
          · refine V.ildn 2 dX7_trades_112 rfl rfl ?_
            refine V.goto 138 dX7_trades_113 (by decide) ?_
            exact nxt hkn _ (by rw [hDk]; show _ = nI (sw a b e); unfold sw; first | rw [if_pos c109] | rw [if_neg c109, if_pos c124] | rw [if_neg c109, if_neg c124])
      refine V.iload dX7_trades_86 rfl ?_
      refine V.aldn 0 dX7_trades_88 rfl rfl ?_
      refine V.gf7_1 dX7_trades_89 f_X7_84 ?_
      refine V.top (y := nI n) (by rw [hS 1 (by decide)]; exact h1) ?_
      first | refine V.icmp_geN 145 dX7_trades_92 (by decide) (by omega) (by omega) (fun c92 => ?_) (fun c92 => ?_) | refine V.icmp_ge 145 dX7_trades_92 (by decide) (fun c92 => ?_) (fun c92 => ?_)
      · exact V.vreturn dX7_trades_145 rfl (by rw [← hQ]; exact ⟨m', rfl, rfl, hS, ⟨hnd, (congrFun (hS 13 (by decide)) 0).trans h13, film_congr hS (isF_no (by decide)) hF, hp, fun d hd => ⟨(a16 d).trans (hR _ ((sw_lt ha hb).mpr hd)).1, (hR _ ((sw_lt ha hb).mpr hd)).2.1, fun i hi => ⟨(a17 d i (by have := (hR _ ((sw_lt ha hb).mpr hd)).2.1; have hi2 : i < (R (sw a b d)).length := hi; omega)).trans ((hR _ ((sw_lt ha hb).mpr hd)).2.2 i hi).1, ((hR _ ((sw_lt ha hb).mpr hd)).2.2 i hi).2⟩⟩⟩, DR.swp ha hb hDR, (congrFun (hS 1 (by decide)) 0).trans h1, fun s hs => by rw [a8 s hs, if_pos (by omega)]⟩)
      · exact body c92
  have loop1 : ∀ (j k : Nat) (m' : Nat → Nat → Int32) (o4 : Option Value), 5 - k = j → k ≤ 5 → Sm [8, 16, 17] m m' → (∀ d, m' 16 d = m 16 d) → (∀ s, m' 8 s = m 8 s) → (∀ d i, i < 5 → m' 17 (5 * d + i) = if i < k then m 17 (5 * sw a b d + i) else m 17 (5 * d + i)) → V mX7_trades (dp + 1) 0 0 2 [some (.ref 45), some (.int (nI a)), some (.int (nI b)), some (.int (nI k)), o4] [] (HH f ro rs rw rb m') Q := by
    intro j
    induction j using Nat.strongRecOn with
    | _ j ih =>
      intro k m' o4 hj hk hS a16 a8 a17
      refine V.ildn 3 dX7_trades_2 rfl rfl ?_
      refine V.iconst (nI 5) dX7_trades_3 (by decide +kernel) ?_
      first | refine V.icmp_geN 57 dX7_trades_4 (by decide) (by omega) (by omega) (fun c4 => ?_) (fun c4 => ?_) | refine V.icmp_ge 57 dX7_trades_4 (by decide) (fun c4 => ?_) (fun c4 => ?_)
      · refine V.aldn 0 dX7_trades_57 rfl rfl ?_
        refine V.gf7_16 dX7_trades_58 f_X7_50 ?_
        refine V.ildn 1 dX7_trades_61 rfl rfl ?_
        refine V.ald_59 dX7_trades_62 (ix_nI (by omega) (by decide)) ?_
        refine V.top (a16 a) ?_
        refine V.istn 3 dX7_trades_63 rfl (Nat.le_of_ble_eq_true rfl) ?_
        refine V.aldn 0 dX7_trades_64 rfl rfl ?_
        refine V.gf7_16 dX7_trades_65 f_X7_50 ?_
        refine V.ildn 1 dX7_trades_68 rfl rfl ?_
        refine V.aldn 0 dX7_trades_69 rfl rfl ?_
        refine V.gf7_16 dX7_trades_70 f_X7_50 ?_
        refine V.ildn 2 dX7_trades_73 rfl rfl ?_
        refine V.ald_59 dX7_trades_74 (ix_nI (by omega) (by decide)) ?_
        refine V.top (a16 b) ?_
        refine V.ast_59 dX7_trades_75 (ix_nI (by omega) (by decide)) ?_
        refine V.aldn 0 dX7_trades_76 rfl rfl ?_
        refine V.gf7_16 dX7_trades_77 f_X7_50 ?_
        refine V.ildn 2 dX7_trades_80 rfl rfl ?_
        refine V.ildn 3 dX7_trades_81 rfl rfl ?_
        refine V.ast_59 dX7_trades_82 (ix_nI (by omega) (by decide)) ?_
        refine V.iconst (nI 0) dX7_trades_83 (by decide +kernel) ?_
        refine V.istore dX7_trades_84 (Nat.le_of_ble_eq_true rfl) ?_
        refine loop2 _ 0 _ _ rfl (Nat.zero_le _) ((hS.up (by decide)).up (by decide)) (fun d => ?_) (fun d i hi => ?_) (fun s hs => ?_)
        · rw [up2_at, up2_at, a16]; unfold sw; split; rename_i q; rw [q.2]; rw [if_neg (fun e => hab e.symm), if_pos rfl]; rename_i q; split; rename_i q2; rw [if_pos q2.2]; rename_i q2; rw [if_neg (fun e => q2 ⟨rfl, e⟩), if_neg (fun e => q ⟨rfl, e⟩)]
        · rw [up2_at, if_neg (by omega), up2_at, if_neg (by omega), a17 d i hi, if_pos (by omega)]
        · rw [up2_at, if_neg (by omega), up2_at, if_neg (by omega), a8 s, if_neg (Nat.not_lt_zero s)]; exact h8 s hs
      · refine V.aldn 0 dX7_trades_7 rfl rfl ?_
        refine V.gf7_17 dX7_trades_8 f_X7_53 ?_
        refine V.iconst (nI 5) dX7_trades_11 (by decide +kernel) ?_
        refine V.ildn 1 dX7_trades_12 rfl rfl ?_
        first | refine V.imulN dX7_trades_13 ?_ | refine V.imul dX7_trades_13 ?_
        refine V.ildn 3 dX7_trades_14 rfl rfl ?_
        first | refine V.iaddN dX7_trades_15 ?_ | refine V.iadd dX7_trades_15 ?_
        refine V.ald_60 dX7_trades_16 (ix_nI (by omega) (by decide)) ?_
        refine V.top (y := m 17 (5 * a + k)) (by rw [a17 a k c4, if_neg (Nat.lt_irrefl k)]) ?_
        refine V.istore dX7_trades_17 (Nat.le_of_ble_eq_true rfl) ?_
        refine V.aldn 0 dX7_trades_19 rfl rfl ?_
        refine V.gf7_17 dX7_trades_20 f_X7_53 ?_
        refine V.iconst (nI 5) dX7_trades_23 (by decide +kernel) ?_
        refine V.ildn 1 dX7_trades_24 rfl rfl ?_
        first | refine V.imulN dX7_trades_25 ?_ | refine V.imul dX7_trades_25 ?_
        refine V.ildn 3 dX7_trades_26 rfl rfl ?_
        first | refine V.iaddN dX7_trades_27 ?_ | refine V.iadd dX7_trades_27 ?_
        refine V.aldn 0 dX7_trades_28 rfl rfl ?_
        refine V.gf7_17 dX7_trades_29 f_X7_53 ?_
        refine V.iconst (nI 5) dX7_trades_32 (by decide +kernel) ?_
        refine V.ildn 2 dX7_trades_33 rfl rfl ?_
        first | refine V.imulN dX7_trades_34 ?_ | refine V.imul dX7_trades_34 ?_
        refine V.ildn 3 dX7_trades_35 rfl rfl ?_
        first | refine V.iaddN dX7_trades_36 ?_ | refine V.iadd dX7_trades_36 ?_
        refine V.ald_60 dX7_trades_37 (ix_nI (by omega) (by decide)) ?_
        refine V.top (y := m 17 (5 * b + k)) (by rw [a17 b k c4, if_neg (Nat.lt_irrefl k)]) ?_
        refine V.ast_60 dX7_trades_38 (ix_nI (by omega) (by decide)) ?_
        refine V.aldn 0 dX7_trades_39 rfl rfl ?_
        refine V.gf7_17 dX7_trades_40 f_X7_53 ?_
        refine V.iconst (nI 5) dX7_trades_43 (by decide +kernel) ?_
        refine V.ildn 2 dX7_trades_44 rfl rfl ?_
        first | refine V.imulN dX7_trades_45 ?_ | refine V.imul dX7_trades_45 ?_
        refine V.ildn 3 dX7_trades_46 rfl rfl ?_
        first | refine V.iaddN dX7_trades_47 ?_ | refine V.iadd dX7_trades_47 ?_
        refine V.iload dX7_trades_48 rfl ?_
        refine V.ast_60 dX7_trades_50 (ix_nI (by omega) (by decide)) ?_
        first | refine V.iincN dX7_trades_51 rfl ?_ | refine V.iinc dX7_trades_51 rfl rfl ?_
        refine V.goto 2 dX7_trades_54 (by decide) ?_
        refine ih _ (by omega) (k + 1) _ _ rfl (by omega) ((hS.up (by decide)).up (by decide)) (fun d => by rw [up2_at, if_neg (by omega), up2_at, if_neg (by omega)]; exact a16 d) (fun s => by rw [up2_at, if_neg (by omega), up2_at, if_neg (by omega)]; exact a8 s) (fun d i hi => ?_)
        rw [up2_at, up2_at, a17 d i hi]
        exact tr_cell hab hk hi c4
  refine V.iconst (nI 0) dX7_trades_0 (by decide +kernel) ?_
  refine V.istn 3 dX7_trades_1 rfl (Nat.le_of_ble_eq_true rfl) ?_
  exact loop1 5 0 m none (by omega) (by omega) Sm.rf (fun _ => rfl) (fun _ => rfl) (fun d i hi => by rw [if_neg (Nat.not_lt_zero i)])
end MODEL
end
section
/-! the reference: the search for a day's order -/
def FB (F : Nat → Nat → Int32) : Prop := (∀ s, s < 20 → ∃ a, a ≤ 300 ∧ F 2 s = nI a) ∧ ∀ p, p < 8 → ∃ w, w ≤ 120 ∧ F 12 p = nI w
theorem dst_nI {x y : Nat} (hx : x < 2 ^ 30) (hy : y < 2 ^ 30) : dst (nI x) (nI y) = nI (if y ≤ x then x - y else y - x) := by
  unfold dst
  by_cases h : y ≤ x
  · rw [if_pos (nI_le h (by omega)), if_pos h, pk_sub h]
  · rw [if_neg (fun q => h ((nI_leI (by omega) (by omega)).mp q)), if_neg h, pk_sub (by omega)]
theorem wy_bd {F : Nat → Nat → Int32} (hB : FB F) (hp : PlV F) {a b : Nat} (ha : a < 20) (hb : b < 20) : ∃ w, w ≤ 120 ∧ wy F a b = nI w := by
  obtain ⟨u, hu, eu⟩ := hB.2 _ (hp a ha).2
  obtain ⟨v, hv, ev⟩ := hB.2 _ (hp b hb).2
  refine ⟨_, ?_, by rw [wy, eu, ev, dst_nI (by omega) (by omega)]⟩
  split <;> omega
theorem mn_bd {F : Nat → Nat → Int32} (hB : FB F) (hp : PlV F) {l : List Nat} (hl : ∀ k, k < l.length → l.getD k 0 < 20) : ∀ k, k ≤ l.length → ∃ t, t ≤ 420 * k ∧ mn F l k = nI t
  | 0, _ => ⟨0, by omega, rfl⟩
  | k + 1, hk => by
    obtain ⟨t, ht, et⟩ := mn_bd hB hp hl k (by omega)
    obtain ⟨a, ha, ea⟩ := hB.1 _ (hl k (by omega))
    by_cases e : k = 0
    · refine ⟨t + (a + 0), by omega, ?_⟩
      rw [mn, if_pos e, et, ea, nI_add, nI_add]
    · obtain ⟨w, hw, ew⟩ := wy_bd hB hp (hl (k - 1) (by omega)) (hl k (by omega))
      refine ⟨t + (a + w), by omega, ?_⟩
      rw [mn, if_neg e, et, ea, ew, nI_add, nI_add]
theorem mins_bd {F : Nat → Nat → Int32} (hB : FB F) (hp : PlV F) {l : List Nat} (hz : l.length ≤ 5) (hl : ∀ k, k < l.length → l.getD k 0 < 20) : ∃ t, t ≤ 2100 ∧ mins F l = nI t := by
  obtain ⟨t, ht, et⟩ := mn_bd hB hp hl l.length (Nat.le_refl _)
  exact ⟨t, by omega, et⟩
theorem e100k : (100000 : Int32) = nI 100000 := by decide +kernel
def bm (F : Nat → Nat → Int32) (b : Option (List Nat)) : Int32 := match b with
  | none => 100000
  | some r => mins F r
noncomputable def stM (F : Nat → Nat → Int32) (n nd : Nat) (R : Nat → List Nat) (D : Nat → Option Nat) (d : Nat) (P : Nat → Nat) (pre : List Nat) (b : Option (List Nat)) : Option (List Nat) :=
  if mins F (pre.map P) < bm F b ∧ dB (KP F n nd (upR R d (pre.map P)) D) = true then some (pre.map P) else b
/-- what the days say of the other rows, and of day d's scenes, which are P 0 .. P (z-1) -/
def DX (n nd : Nat) (R : Nat → List Nat) (D : Nat → Option Nat) (d z : Nat) (P : Nat → Nat) : Prop := (n ≤ 20 ∧ d < nd ∧ z ≤ 5) ∧ (∀ s a, s < n → D s = some a → a < nd ∧ (a ≠ d → s ∈ R a)) ∧ (∀ s a, a < nd → a ≠ d → s ∈ R a → s < n ∧ D s = some a) ∧ (∀ a, a < nd → a ≠ d → (R a).Nodup) ∧ (∀ i, i < z → P i < n ∧ D (P i) = some d) ∧ (∀ s, s < n → D s = some d → ∃ i, i < z ∧ P i = s) ∧ ∀ i j, i < z → j < z → P i = P j → i = j
/-- pre: places below z, each once -/
def PX (z : Nat) (pre : List Nat) : Prop := pre.Nodup ∧ ∀ i, i ∈ pre → i < z
theorem PX.add {z : Nat} {pre : List Nat} {i : Nat} (h : PX z pre) (hi : i < z) (hn : i ∉ pre) : PX z (pre ++ [i]) := by
  refine ⟨?_, fun j hj => ?_⟩
  · rw [List.nodup_append]
    exact ⟨h.1, by simp, fun a ha b hb => by simp at hb; subst hb; exact fun e => hn (by rw [← e]; exact ha)⟩
  · rcases List.mem_append.mp hj with q | q
    · exact h.2 j q
    · simp at q; rw [q]; exact hi
theorem map_getD {P : Nat → Nat} {l : List Nat} {i : Nat} (h : i < l.length) : (l.map P).getD i 0 = P (l.getD i 0) := by
  rw [List.getD_eq_getElem?_getD, List.getD_eq_getElem?_getD, List.getElem?_map, List.getElem?_eq_getElem h]; rfl
theorem nodup_map {P : Nat → Nat} : ∀ {l : List Nat}, l.Nodup → (∀ i j, i ∈ l → j ∈ l → P i = P j → i = j) → (l.map P).Nodup
  | [], _, _ => List.nodup_nil
  | a :: l, hn, hi => by
    obtain ⟨h1, h2⟩ := List.nodup_cons.mp hn
    rw [List.map_cons, List.nodup_cons]
    refine ⟨fun hm => ?_, nodup_map h2 (fun i j h3 h4 => hi i j (List.mem_cons_of_mem _ h3) (List.mem_cons_of_mem _ h4))⟩
    obtain ⟨b, hb, e⟩ := List.mem_map.mp hm
    exact h1 (by rw [← hi b a (List.mem_cons_of_mem _ hb) List.mem_cons_self e]; exact hb)
theorem DX.dr {n nd : Nat} {R : Nat → List Nat} {D : Nat → Option Nat} {d z : Nat} {P : Nat → Nat} {pre : List Nat} (h : DX n nd R D d z P) (hp : PX z pre) (hl : pre.length = z) : DR n nd (upR R d (pre.map P)) D := by
  obtain ⟨⟨hn, hdn, hz⟩, d1, d2, d3, d4, d5, d6⟩ := h
  have hall := nd_all hp.1 hp.2 hl
  refine ⟨hn, fun s a hs ha => ?_, fun s a ha hm => ?_, fun a ha => ?_⟩
  · obtain ⟨q1, q2⟩ := d1 s a hs ha
    refine ⟨q1, ?_⟩
    by_cases e : a = d
    · subst e
      rw [upR_s]
      obtain ⟨i, hi, rfl⟩ := d5 s hs ha
      exact List.mem_map.mpr ⟨i, hall i hi, rfl⟩
    · rw [upR_n e]; exact q2 e
  · by_cases e : a = d
    · subst e
      rw [upR_s] at hm
      obtain ⟨i, hi, rfl⟩ := List.mem_map.mp hm
      exact d4 i (hp.2 i hi)
    · rw [upR_n e] at hm; exact d2 s a ha e hm
  · by_cases e : a = d
    · subst e
      rw [upR_s]
      exact nodup_map hp.1 (fun i j hi hj => d6 i j (hp.2 i hi) (hp.2 j hj))
    · rw [upR_n e]; exact d3 a ha e
def BR (F : Nat → Nat → Int32) (z : Nat) (m : Nat → Nat → Int32) (b : Option (List Nat)) : Prop := m 20 0 = bm F b ∧ ∀ r, b = some r → r.length = z ∧ ∀ i, i < z → m 19 i = nI (r.getD i 0) ∧ r.getD i 0 < 20
/-- what the search stands on: the reference but for row d's order -/
def TX (F : Nat → Nat → Int32) (n nd : Nat) (R : Nat → List Nat) (D : Nat → Option Nat) (d z : Nat) (P : Nat → Nat) (m : Nat → Nat → Int32) : Prop := nd ≤ 8 ∧ m 13 0 = nI nd ∧ (∀ k, isF k = true → m k = F k) ∧ PlV F ∧ (∀ a, a < nd → a ≠ d → rowM m a (R a)) ∧ MD8 n D m ∧ m 16 d = nI z ∧ ∀ i, i < z → m 18 i = nI (P i)
theorem TX.sm {F : Nat → Nat → Int32} {n nd : Nat} {R : Nat → List Nat} {D : Nat → Option Nat} {d z a : Nat} {P : Nat → Nat} {m m' : Nat → Nat → Int32} (h : TX F n nd R D d z P m) (hS : Sm [17, 19, 20] m m') (h17 : ∀ j, (j < 5 * d + a ∨ 5 * d + 5 ≤ j) → m' 17 j = m 17 j) : TX F n nd R D d z P m' := by
  obtain ⟨t1, t2, t3, t4, t5, t6, t7, t8⟩ := h
  refine ⟨t1, (congrFun (hS 13 (by decide)) 0).trans t2, film_congr hS (isF_no (by decide)) t3, t4, fun e he hne => rowM_congr (congrFun (hS 16 (by decide)) e) (fun k hk => h17 _ (by omega)) (t5 e he hne), ⟨(congrFun (hS 1 (by decide)) 0).trans t6.1, fun s hs => (congrFun (hS 8 (by decide)) s).trans (t6.2 s hs)⟩, (congrFun (hS 16 (by decide)) d).trans t7, fun i hi => (congrFun (hS 18 (by decide)) i).trans (t8 i hi)⟩
section MODEL
variable {f ro rs : Nat → Nat → Int32} {rw rb : Nat → Nat} {dp : Nat} {F : Nat → Nat → Int32} {n nd : Nat} {R : Nat → List Nat} {D : Nat → Option Nat} {d z : Nat} {P : Nat → Nat}
theorem t_tries (hX : DX n nd R D d z P) : ∀ (k : Nat) (m : Nat → Nat → Int32) (us : Nat → Bool) (uI : Int32) (pre : List Nat) (a : Nat) (b : Option (List Nat)), a = pre.length → a + k = z → PX z pre → (∀ i, i < z → (us i = true ↔ i ∈ pre)) → (∀ i, i < z → btB uI i = us i) → TX F n nd R D d z P m → (∀ i, i < a → m 17 (5 * d + i) = nI (P (pre.getD i 0))) → BR F z m b →
    Mt (dp + k + 5) 0 0 mX7_tries [.ref 45, .int (nI d), .int (nI a), .int uI] (HH f ro rs rw rb m) (fun r h' => ∃ m', r = none ∧ h' = HH f ro rs rw rb m' ∧ Sm [17, 19, 20] m m' ∧ (∀ j, (j < 5 * d + a ∨ 5 * d + 5 ≤ j) → m' 17 j = m 17 j) ∧ BR F z m' (tr z (stM F n nd R D d P) k us pre b)) := by
  obtain ⟨⟨hn, hdn, hz⟩, d1, d2, d3, d4, d5, d6⟩ := id hX
  intro k
  induction k with
  | zero =>
    intro m us uI pre a b ha hak hpx hus hub hT hpre hB
    refine Mt.of rfl rfl (Nat.le_of_ble_eq_true rfl) rfl ?_
    obtain ⟨t1, t2, t3, t4, t5, t6, t7, t8⟩ := id hT
    obtain rfl : a = z := by omega
    have hlen : (pre.map P).length = a := by rw [List.length_map]; exact ha.symm
    have hrow : rowM m d (pre.map P) := by
      refine ⟨by rw [hlen]; exact t7, by omega, fun i hi => ?_⟩
      rw [hlen] at hi
      rw [map_getD (by omega)]
      refine ⟨hpre i hi, ?_⟩
      have := (d4 _ (hpx.2 _ (getD_mem (l := pre) (k := i) (by omega)))).1
      omega
    have hMV : MV F nd (upR R d (pre.map P)) m := ⟨t1, t2, t3, t4, fun e he => by
      by_cases q : e = d
      · subst q; rw [upR_s]; exact hrow
      · rw [upR_n q]; exact t5 e he q⟩
    have hDR := hX.dr hpx ha.symm
    generalize hQ : (fun (r : Option Value) (h' : List AC) => ∃ m', r = none ∧ h' = HH f ro rs rw rb m' ∧ Sm [17, 19, 20] m m' ∧ (∀ j, (j < 5 * d + a ∨ 5 * d + 5 ≤ j) → m' 17 j = m 17 j) ∧ BR F a m' (tr a (stM F n nd R D d P) 0 us pre b)) = Q
    have stay : ¬ (mins F (pre.map P) < bm F b ∧ dB (KP F n nd (upR R d (pre.map P)) D) = true) → Q none (HH f ro rs rw rb m) := by
      intro hno
      rw [← hQ]
      refine ⟨m, rfl, rfl, Sm.rf, fun _ _ => rfl, ?_⟩
      show BR F a m (stM F n nd R D d P pre b)
      rw [stM, if_neg hno]
      exact hB
    have loop : (mins F (pre.map P) < bm F b ∧ dB (KP F n nd (upR R d (pre.map P)) D) = true) → ∀ (j i : Nat) (m' : Nat → Nat → Int32), a - i = j → i ≤ a → Sm [17, 19, 20] m m' → m' 17 = m 17 → m' 20 0 = mins F (pre.map P) → (∀ q, q < i → m' 19 q = nI ((pre.map P).getD q 0)) → V mX7_tries (dp + 0 + 5) 0 0 42 [some (.ref 45), some (.int (nI d)), some (.int (nI a)), some (.int uI), some (.int (mins F (pre.map P))), some (.int (nI i))] [] (HH f ro rs rw rb m') Q := by
      intro hyes j
      induction j using Nat.strongRecOn with
      | _ j ih =>
        intro i m' hj hi hS h17 h20 h19
        refine V.iload dX7_tries_42 rfl ?_
        refine V.ildn 2 dX7_tries_44 rfl rfl ?_
        first | refine V.icmp_geN 72 dX7_tries_45 (by decide) (by omega) (by omega) (fun c45 => ?_) (fun c45 => ?_) | refine V.icmp_ge 72 dX7_tries_45 (by decide) (fun c45 => ?_) (fun c45 => ?_)
        · exact V.vreturn dX7_tries_72 rfl (by rw [← hQ]; refine ⟨m', rfl, rfl, hS, fun j _ => congrFun h17 j, ?_⟩; show BR F a m' (stM F n nd R D d P pre b); rw [stM, if_pos hyes]; exact ⟨h20, fun r hr => by cases hr; exact ⟨hlen, fun q hq => ⟨h19 q (by omega), (hrow.2.2 q (by omega)).2⟩⟩⟩)
        · refine V.aldn 0 dX7_tries_48 rfl rfl ?_
          refine V.gf7_19 dX7_tries_49 f_X7_59 ?_
          refine V.iload dX7_tries_52 rfl ?_
          refine V.aldn 0 dX7_tries_54 rfl rfl ?_
          refine V.gf7_17 dX7_tries_55 f_X7_53 ?_
          refine V.iconst (nI 5) dX7_tries_58 (by decide +kernel) ?_
          refine V.ildn 1 dX7_tries_59 rfl rfl ?_
          first | refine V.imulN dX7_tries_60 ?_ | refine V.imul dX7_tries_60 ?_
          refine V.iload dX7_tries_61 rfl ?_
          first | refine V.iaddN dX7_tries_63 ?_ | refine V.iadd dX7_tries_63 ?_
          refine V.ald_60 dX7_tries_64 (ix_nI (by omega) (by decide)) ?_
          refine V.top ((congrFun h17 _).trans (hrow.2.2 i (by omega)).1) ?_
          refine V.ast_62 dX7_tries_65 (ix_nI (by omega) (by decide)) ?_
          first | refine V.iincN dX7_tries_66 rfl ?_ | refine V.iinc dX7_tries_66 rfl rfl ?_
          refine V.goto 42 dX7_tries_69 (by decide) ?_
          refine ih _ (by omega) (i + 1) _ rfl (by omega) (hS.up (by decide)) (by rw [up2_ne (by decide)]; exact h17) (by rw [up2_at, if_neg (by omega)]; exact h20) (fun q hq => ?_)
          rw [up2_at]
          split
          · rename_i e; rw [e.2]
          · rename_i e; exact h19 q (by omega)
    refine V.ildn 2 dX7_tries_0 rfl rfl ?_
    refine V.aldn 0 dX7_tries_1 rfl rfl ?_
    refine V.gf7_16 dX7_tries_2 f_X7_50 ?_
    refine V.ildn 1 dX7_tries_5 rfl rfl ?_
    refine V.ald_59 dX7_tries_6 (ix_nI (by omega) (by decide)) ?_
    refine V.top t7 ?_
    first | refine V.icmp_neN 73 dX7_tries_7 (by decide) (by omega) (by omega) (fun c7 => ?_) (fun c7 => ?_) | refine V.icmp_ne 73 dX7_tries_7 (by decide) (fun c7 => ?_) (fun c7 => ?_)
    · exact absurd rfl c7
    · refine V.aldn 0 dX7_tries_10 rfl rfl ?_
      refine V.ildn 1 dX7_tries_11 rfl rfl ?_
      refine V.cVi ((t_minutesOf ⟨t3 2 rfl, t3 3 rfl, t3 12 rfl⟩ t4 (by omega) hrow : Mt (dp + 2 + 2) 0 0 _ _ _ _)) dX7_tries_12 k_X7_117 rfl rfl rfl (Nat.le_of_ble_eq_true rfl) rfl ?_
      refine V.istore dX7_tries_15 (Nat.le_of_ble_eq_true rfl) ?_
      refine V.iload dX7_tries_17 rfl ?_
      refine V.aldn 0 dX7_tries_19 rfl rfl ?_
      refine V.gf7_20 dX7_tries_20 f_X7_129 ?_
      refine V.top hB.1 ?_
      refine V.icmp_ge 72 dX7_tries_23 (by decide) (fun c23 => ?_) (fun c23 => ?_)
      · exact V.vreturn dX7_tries_72 rfl (stay (fun q => Int32.not_le.mpr q.1 c23))
      · refine V.aldn 0 dX7_tries_26 rfl rfl ?_
        refine V.cVi ((t_keeps hMV hDR t6 : Mt (dp + 1 + 3) 0 0 _ _ _ _)) dX7_tries_27 k_X7_94 rfl rfl rfl (Nat.le_of_ble_eq_true rfl) rfl ?_
        first | refine V.if_eqB 72 dX7_tries_30 (by decide) (fun c30 => ?_) (fun c30 => ?_) | refine V.if_eqN 72 dX7_tries_30 (by decide) (by omega) (fun c30 => ?_) (fun c30 => ?_) | refine V.if_eq 72 dX7_tries_30 (by decide) (fun c30 => ?_) (fun c30 => ?_)
        · exact V.vreturn dX7_tries_72 rfl (stay (fun q => by rw [c30] at q; cases q.2))
        · refine V.aldn 0 dX7_tries_33 rfl rfl ?_
          refine V.iload dX7_tries_34 rfl ?_
          refine V.pf7_20 dX7_tries_36 (fp_X7_129 rfl) ?_
          refine V.iconst (nI 0) dX7_tries_39 (by decide +kernel) ?_
          refine V.istore dX7_tries_40 (Nat.le_of_ble_eq_true rfl) ?_
          exact loop ⟨Int32.not_le.mp c23, c30⟩ _ 0 _ rfl (Nat.zero_le _) (Sm.rf.up (by decide)) (up2_ne (by decide)) (by rw [up2_at, if_pos ⟨rfl, rfl⟩]) (fun q hq => absurd hq (Nat.not_lt_zero q))
  | succ k IH =>
    intro m us uI pre a b ha hak hpx hus hub hT hpre hB
    refine Mt.of rfl rfl (Nat.le_of_ble_eq_true rfl) rfl ?_
    obtain ⟨t1, t2, t3, t4, t5, t6, t7, t8⟩ := id hT
    generalize hst : (fun (i : Nat) (b : Option (List Nat)) => if us i = true then b else tr z (stM F n nd R D d P) k (fun j => us j || j == i) (pre ++ [i]) b) = g
    have hres : tr z (stM F n nd R D d P) (k + 1) us pre b = fo g b z := by rw [tr, hst]
    rw [hres]
    have hg : ∀ i b, g i b = if us i = true then b else tr z (stM F n nd R D d P) k (fun j => us j || j == i) (pre ++ [i]) b := fun i b => by rw [← hst]
    generalize hQ : (fun (r : Option Value) (h' : List AC) => ∃ m', r = none ∧ h' = HH f ro rs rw rb m' ∧ Sm [17, 19, 20] m m' ∧ (∀ j, (j < 5 * d + a ∨ 5 * d + 5 ≤ j) → m' 17 j = m 17 j) ∧ BR F z m' (fo g b z)) = Q
    have g1 : ∀ i, i ∉ pre → i < z → ∀ j, j < z → ((us j || j == i) = true ↔ j ∈ pre ++ [i]) := by
      intro i hnm hiz j hj
      rw [Bool.or_eq_true, hus j hj, List.mem_append]
      simp
    have g2 : ∀ i, i < z → ∀ j, j < z → btB (uI ||| (nI 1 <<< (nI i &&& 31))) j = (us j || j == i) := by
      intro i hi j hj
      rw [btB_set (by omega) (by omega), hub j hj]
    have g3 : ∀ m' i, TX F n nd R D d z P m' → TX F n nd R D d z P (up2 m' 17 (5 * d + a) (nI (P i))) := by
      intro m' i h
      exact h.sm (a := a) (Sm.rf.up (by decide)) (fun j hj => by rw [up2_at, if_neg (by omega)])
    have g4 : ∀ m' i, (∀ j, (j < 5 * d + a ∨ 5 * d + 5 ≤ j) → m' 17 j = m 17 j) → ∀ q, q < a + 1 → up2 m' 17 (5 * d + a) (nI (P i)) 17 (5 * d + q) = nI (P ((pre ++ [i]).getD q 0)) := by
      intro m' i h q hq
      rw [up2_at]
      by_cases e : q = a
      · subst e
        rw [if_pos ⟨rfl, rfl⟩]
        congr 2
        rw [List.getD_eq_getElem?_getD, List.getElem?_append_right (by omega), ha]
        simp
      · rw [if_neg (by omega), h _ (by omega), hpre q (by omega)]
        congr 2
        rw [List.getD_eq_getElem?_getD, List.getD_eq_getElem?_getD, List.getElem?_append_left (by omega)]
    have g5 : ∀ m' i, BR F z m' (fo g b i) → BR F z (up2 m' 17 (5 * d + a) (nI (P i))) (fo g b i) := by
      intro m' i h
      refine ⟨by rw [up2_at, if_neg (by omega)]; exact h.1, fun r hr => ⟨(h.2 r hr).1, fun q hq => by rw [up2_at, if_neg (by omega)]; exact (h.2 r hr).2 q hq⟩⟩
    have loop : ∀ (j i : Nat) (m' : Nat → Nat → Int32) (o5 : Option Value), z - i = j → i ≤ z → Sm [17, 19, 20] m m' → (∀ j, (j < 5 * d + a ∨ 5 * d + 5 ≤ j) → m' 17 j = m 17 j) → BR F z m' (fo g b i) → V mX7_tries (dp + (k + 1) + 5) 0 0 76 [some (.ref 45), some (.int (nI d)), some (.int (nI a)), some (.int uI), some (.int (nI i)), o5] [] (HH f ro rs rw rb m') Q := by
      intro j
      induction j using Nat.strongRecOn with
      | _ j ih =>
        intro i m' o5 hj hi hS h17 hB'
        have hT' := hT.sm hS h17
        obtain ⟨u1, u2, u3, u4, u5, u6, u7, u8⟩ := id hT'
        refine V.iload dX7_tries_76 rfl ?_
        refine V.aldn 0 dX7_tries_78 rfl rfl ?_
        refine V.gf7_16 dX7_tries_79 f_X7_50 ?_
        refine V.ildn 1 dX7_tries_82 rfl rfl ?_
        refine V.ald_59 dX7_tries_83 (ix_nI (by omega) (by decide)) ?_
        refine V.top u7 ?_
        first | refine V.icmp_geN 137 dX7_tries_84 (by decide) (by omega) (by omega) (fun c84 => ?_) (fun c84 => ?_) | refine V.icmp_ge 137 dX7_tries_84 (by decide) (fun c84 => ?_) (fun c84 => ?_)
        · exact V.vreturn dX7_tries_137 rfl (by rw [← hQ]; obtain rfl : i = z := (by omega); exact ⟨m', rfl, rfl, hS, h17, hB'⟩)
        · refine V.ildn 3 dX7_tries_87 rfl rfl ?_
          refine V.iload dX7_tries_88 rfl ?_
          refine V.ishr dX7_tries_90 ?_
          refine V.iconst (nI 1) dX7_tries_91 (by decide +kernel) ?_
          refine V.iand dX7_tries_92 ?_
          refine V.iconst (nI 1) dX7_tries_93 (by decide +kernel) ?_
          refine V.icmp_ne 100 dX7_tries_94 (by decide) (fun c94 => ?_) (fun c94 => ?_)
          · have hui : ¬ us i = true := fun q => c94 (of_decide_eq_true (by rw [← hub i (by omega)] at q; exact q))
            have hnm : i ∉ pre := fun q => hui ((hus i (by omega)).mpr q)
            refine V.aldn 0 dX7_tries_100 rfl rfl ?_
            refine V.gf7_17 dX7_tries_101 f_X7_53 ?_
            refine V.iconst (nI 5) dX7_tries_104 (by decide +kernel) ?_
            refine V.ildn 1 dX7_tries_105 rfl rfl ?_
            first | refine V.imulN dX7_tries_106 ?_ | refine V.imul dX7_tries_106 ?_
            refine V.ildn 2 dX7_tries_107 rfl rfl ?_
            first | refine V.iaddN dX7_tries_108 ?_ | refine V.iadd dX7_tries_108 ?_
            refine V.aldn 0 dX7_tries_109 rfl rfl ?_
            refine V.gf7_18 dX7_tries_110 f_X7_56 ?_
            refine V.iload dX7_tries_113 rfl ?_
            refine V.ald_61 dX7_tries_115 (ix_nI (by omega) (by decide)) ?_
            refine V.top (u8 i (by omega)) ?_
            refine V.ast_60 dX7_tries_116 (ix_nI (by omega) (by decide)) ?_
            refine V.aldn 0 dX7_tries_117 rfl rfl ?_
            refine V.ildn 1 dX7_tries_118 rfl rfl ?_
            refine V.ildn 2 dX7_tries_119 rfl rfl ?_
            refine V.iconst (nI 1) dX7_tries_120 (by decide +kernel) ?_
            first | refine V.iaddN dX7_tries_121 ?_ | refine V.iadd dX7_tries_121 ?_
            refine V.ildn 3 dX7_tries_122 rfl rfl ?_
            refine V.iconst (nI 1) dX7_tries_123 (by decide +kernel) ?_
            refine V.iload dX7_tries_124 rfl ?_
            refine V.ishl dX7_tries_126 ?_
            refine V.ior dX7_tries_127 ?_
            refine V.cVe (IH (up2 m' 17 (5 * d + a) (nI (P i))) (fun j => us j || j == i) _ (pre ++ [i]) (a + 1) (fo g b i) (by rw [List.length_append]; simp; exact ha) (by omega) (hpx.add (by omega) hnm) (g1 i hnm (by omega)) (g2 i (by omega)) (g3 m' i hT') (g4 m' i h17) (g5 m' i hB')) dX7_tries_128 k_X7_132 rfl rfl rfl (Nat.le_of_ble_eq_true rfl) rfl ?_
            rintro _ _ ⟨m2, rfl, rfl, hS2, h172, hB2⟩
            refine V.eqs (st' := []) rfl ?_
            refine V.iincN dX7_tries_131 rfl ?_
            refine V.goto 76 dX7_tries_134 (by decide) ?_
            refine ih _ (by omega) (i + 1) m2 _ rfl (by omega) ((hS.up (by decide)).tr hS2) (fun j hj => by rw [h172 j (by omega), up2_at, if_neg (by omega)]; exact h17 j hj) ?_
            show BR F z m2 (g i (fo g b i))
            rw [hg, if_neg hui]
            exact hB2
          · have hui : us i = true := by rw [← hub i (by omega)]; exact decide_eq_true c94
            refine V.goto 131 dX7_tries_97 (by decide) ?_
            refine V.iincN dX7_tries_131 rfl ?_
            refine V.goto 76 dX7_tries_134 (by decide) ?_
            refine ih _ (by omega) (i + 1) m' _ rfl (by omega) hS h17 ?_
            show BR F z m' (g i (fo g b i))
            rw [hg, if_pos hui]
            exact hB'
    refine V.ildn 2 dX7_tries_0 rfl rfl ?_
    refine V.aldn 0 dX7_tries_1 rfl rfl ?_
    refine V.gf7_16 dX7_tries_2 f_X7_50 ?_
    refine V.ildn 1 dX7_tries_5 rfl rfl ?_
    refine V.ald_59 dX7_tries_6 (ix_nI (by omega) (by decide)) ?_
    refine V.top t7 ?_
    first | refine V.icmp_neN 73 dX7_tries_7 (by decide) (by omega) (by omega) (fun c7 => ?_) (fun c7 => ?_) | refine V.icmp_ne 73 dX7_tries_7 (by decide) (fun c7 => ?_) (fun c7 => ?_)
    · refine V.iconst (nI 0) dX7_tries_73 (by decide +kernel) ?_
      refine V.istore dX7_tries_74 (Nat.le_of_ble_eq_true rfl) ?_
      exact loop _ 0 m _ rfl (Nat.zero_le _) Sm.rf (fun _ _ => rfl) hB
    · exact absurd c7 (by omega)
end MODEL
end
section
/-! the reference: a day arranged, a scene put -/
def Pl (n : Nat) (D : Nat → Option Nat) (d : Nat) : List Nat := (List.range n).filter (fun s => decide (D s = some d))
theorem Pl_succ (n : Nat) (D : Nat → Option Nat) (d : Nat) : Pl (n + 1) D d = if D n = some d then Pl n D d ++ [n] else Pl n D d := by
  unfold Pl
  rw [List.range_succ, List.filter_append]
  by_cases h : D n = some d
  · simp [h]
  · simp [h]
theorem Pl_mem {n : Nat} {D : Nat → Option Nat} {d s : Nat} : s ∈ Pl n D d ↔ s < n ∧ D s = some d := by simp [Pl]
theorem Pl_nd (n : Nat) (D : Nat → Option Nat) (d : Nat) : (Pl n D d).Nodup := List.Sublist.nodup List.filter_sublist List.nodup_range
theorem Pl_le {n nd k : Nat} {R : Nat → List Nat} {D : Nat → Option Nat} {d : Nat} (h : DR n nd R D) (hk : k ≤ n) : (Pl k D d).length ≤ (R d).length := by
  refine nd_sub _ _ (Pl_nd k D d) (fun s hs => ?_)
  obtain ⟨h1, h2⟩ := Pl_mem.mp hs
  exact (h.2.1 s d (by omega) h2).2
theorem Pl_len {n nd : Nat} {R : Nat → List Nat} {D : Nat → Option Nat} {d : Nat} (h : DR n nd R D) (hd : d < nd) : (Pl n D d).length = (R d).length := by
  refine Nat.le_antisymm (Pl_le h (Nat.le_refl n)) (nd_sub _ _ (h.2.2.2 d hd) (fun s hs => ?_))
  exact Pl_mem.mpr (h.2.2.1 s d hd hs)
noncomputable def bestO (F : Nat → Nat → Int32) (n nd : Nat) (R : Nat → List Nat) (D : Nat → Option Nat) (d : Nat) : Option (List Nat) :=
  tr (Pl n D d).length (stM F n nd R D d (fun i => (Pl n D d).getD i 0)) (Pl n D d).length (fun _ => false) [] none
theorem nodup_getD {l : List Nat} (h : l.Nodup) {i j : Nat} (hi : i < l.length) (hj : j < l.length) (e : l.getD i 0 = l.getD j 0) : i = j := by
  refine (List.getElem?_inj hi h).mp ?_
  rw [List.getD_eq_getElem?_getD, List.getD_eq_getElem?_getD, List.getElem?_eq_getElem hi, List.getElem?_eq_getElem hj] at e
  rw [List.getElem?_eq_getElem hi, List.getElem?_eq_getElem hj]
  exact congrArg some e
theorem DX.of {n nd : Nat} {R : Nat → List Nat} {D : Nat → Option Nat} {d : Nat} (h : DR n nd R D) (hd : d < nd) (h5 : (R d).length ≤ 5) : DX n nd R D d (Pl n D d).length (fun i => (Pl n D d).getD i 0) := by
  refine ⟨⟨h.1, hd, by rw [Pl_len h hd]; exact h5⟩, fun s a hs ha => ⟨(h.2.1 s a hs ha).1, fun _ => (h.2.1 s a hs ha).2⟩, fun s a ha _ hm => h.2.2.1 s a ha hm, fun a ha _ => h.2.2.2 a ha, fun i hi => Pl_mem.mp (getD_mem hi), fun s hs hds => mem_getD (Pl_mem.mpr ⟨hs, hds⟩), fun i j hi hj e => nodup_getD (Pl_nd n D d) hi hj e⟩
section MODEL
variable {f ro rs : Nat → Nat → Int32} {rw rb : Nat → Nat} {m : Nat → Nat → Int32} {dp : Nat} {F : Nat → Nat → Int32} {n nd : Nat} {R : Nat → List Nat} {D : Nat → Option Nat}
theorem t_arranges (hB : FB F) (hM : MS F n nd R D m) {d : Nat} (hd : d < nd) : Mt (dp + 11) 0 0 mX7_arranges [.ref 45, .int (nI d)] (HH f ro rs rw rb m) (fun r h' => ∃ m', r = some (.int (bI (bestO F n nd R D d).isSome)) ∧ h' = HH f ro rs rw rb m' ∧ Sm [17, 18, 19, 20] m m' ∧ (∀ j, (j < 5 * d ∨ 5 * d + 5 ≤ j) → m' 17 j = m 17 j) ∧ ∀ r, bestO F n nd R D d = some r → rowM m' d r) := by
  refine Mt.of rfl rfl (Nat.le_of_ble_eq_true rfl) rfl ?_
  obtain ⟨⟨hnd, h13, hF, hp, hR⟩, hD, h1, h8⟩ := hM
  have hn20 := hD.1
  obtain ⟨hz, hz5, hr⟩ := hR d hd
  have hX := DX.of hD hd hz5
  have hlen := Pl_len hD hd
  generalize hb : bestO F n nd R D d = b
  unfold bestO at hb
  generalize hQ : (fun (r : Option Value) (h' : List AC) => ∃ m', r = some (.int (bI b.isSome)) ∧ h' = HH f ro rs rw rb m' ∧ Sm [17, 18, 19, 20] m m' ∧ (∀ j, (j < 5 * d ∨ 5 * d + 5 ≤ j) → m' 17 j = m 17 j) ∧ ∀ r, b = some r → rowM m' d r) = Q
  have tail : ∀ (o2 o3 : Option Value) (m' : Nat → Nat → Int32), Sm [17, 18, 19, 20] m m' → (∀ j, (j < 5 * d ∨ 5 * d + 5 ≤ j) → m' 17 j = m 17 j) → BR F (Pl n D d).length m' b → (∀ r, b = some r → rowM m' d r) → V mX7_arranges (dp + 11) 0 0 94 [some (.ref 45), some (.int (nI d)), o2, o3] [] (HH f ro rs rw rb m') Q := by
    intro o2 o3 m' hS h17 hBR hrow
    cases hbb : b with
    | none =>
      rw [hbb] at hBR
      refine V.aldn 0 dX7_arranges_94 rfl rfl ?_
      refine V.gf7_20 dX7_arranges_95 f_X7_129 ?_
      refine V.top (y := 100000) hBR.1 ?_
      refine V.ldc dX7_arranges_98 c_X7_136 ?_
      refine V.icmp_ge 107 dX7_arranges_100 (by decide) (fun c100 => ?_) (fun c100 => ?_)
      · refine V.iconst (nI 0) dX7_arranges_107 (by decide +kernel) ?_
        exact V.ireturn dX7_arranges_108 rfl (by first | rfl | decide +kernel) (by rw [← hQ]; exact ⟨m', by rw [hbb]; rfl, rfl, hS, h17, hrow⟩)
      · exact absurd (Int32.le_refl _) c100
    | some r =>
      rw [hbb] at hBR
      have hr5 := hrow r hbb
      obtain ⟨t, ht, et⟩ := mins_bd hB hp hr5.2.1 (fun k hk => (hr5.2.2 k hk).2)
      refine V.aldn 0 dX7_arranges_94 rfl rfl ?_
      refine V.gf7_20 dX7_arranges_95 f_X7_129 ?_
      refine V.top (y := nI t) (hBR.1.trans et) ?_
      refine V.ldc dX7_arranges_98 c_X7_136 ?_
      refine V.top e100k ?_
      first | refine V.icmp_geN 107 dX7_arranges_100 (by decide) (by omega) (by omega) (fun c100 => ?_) (fun c100 => ?_) | refine V.icmp_ge 107 dX7_arranges_100 (by decide) (fun c100 => ?_) (fun c100 => ?_)
      · exact absurd c100 (by omega)
      · refine V.iconst (nI 1) dX7_arranges_103 (by decide +kernel) ?_
        refine V.goto 108 dX7_arranges_104 (by decide) ?_
        exact V.ireturn dX7_arranges_108 rfl (by first | rfl | decide +kernel) (by rw [← hQ]; exact ⟨m', by rw [hbb]; rfl, rfl, hS, h17, hrow⟩)
  have loop2 : ∀ (j k : Nat) (o2 : Option Value) (m' : Nat → Nat → Int32), (R d).length - k = j → k ≤ (R d).length → Sm [17, 18, 19, 20] m m' → (∀ j, (j < 5 * d ∨ 5 * d + 5 ≤ j) → m' 17 j = m 17 j) → BR F (Pl n D d).length m' b → (∀ r, b = some r → ∀ i, i < k → m' 17 (5 * d + i) = nI (r.getD i 0)) → V mX7_arranges (dp + 11) 0 0 53 [some (.ref 45), some (.int (nI d)), o2, some (.int (nI k))] [] (HH f ro rs rw rb m') Q := by
    intro j
    induction j using Nat.strongRecOn with
    | _ j ih =>
      intro k o2 m' hj hk hS h17 hBR hcp
      have hrow : k = (R d).length → ∀ r, b = some r → rowM m' d r := by
        intro hkk r hr
        obtain ⟨q1, q2⟩ := hBR.2 r hr
        exact ⟨by rw [q1, hlen, hS 16 (by decide)]; exact hz, by omega, fun i hi => ⟨hcp r hr i (by omega), (q2 i (by omega)).2⟩⟩
      cases hbb : b with
      | none =>
        have hBR' := hBR
        rw [hbb] at hBR'
        refine V.ildn 3 dX7_arranges_53 rfl rfl ?_
        refine V.aldn 0 dX7_arranges_54 rfl rfl ?_
        refine V.gf7_16 dX7_arranges_55 f_X7_50 ?_
        refine V.ildn 1 dX7_arranges_58 rfl rfl ?_
        refine V.ald_59 dX7_arranges_59 (ix_nI (by omega) (by decide)) ?_
        refine V.top (y := nI (R d).length) (by rw [hS 16 (by decide)]; exact hz) ?_
        first | refine V.icmp_geN 94 dX7_arranges_60 (by decide) (by omega) (by omega) (fun c60 => ?_) (fun c60 => ?_) | refine V.icmp_ge 94 dX7_arranges_60 (by decide) (fun c60 => ?_) (fun c60 => ?_)
        · exact tail _ _ m' hS h17 hBR (fun r hr => by rw [hbb] at hr; cases hr)
        · refine V.aldn 0 dX7_arranges_63 rfl rfl ?_
          refine V.gf7_20 dX7_arranges_64 f_X7_129 ?_
          refine V.top (y := 100000) hBR'.1 ?_
          refine V.ldc dX7_arranges_67 c_X7_136 ?_
          refine V.icmp_ge 94 dX7_arranges_69 (by decide) (fun c69 => ?_) (fun c69 => ?_)
          · exact tail _ _ m' hS h17 hBR (fun r hr => by rw [hbb] at hr; cases hr)
          · exact absurd (Int32.le_refl _) c69
      | some r =>
        have hBR' := hBR
        rw [hbb] at hBR'
        obtain ⟨q1, q2⟩ := hBR'.2 r rfl
        obtain ⟨t, ht, et⟩ := mins_bd hB hp (l := r) (by omega) (fun k hk => (q2 k (by omega)).2)
        refine V.ildn 3 dX7_arranges_53 rfl rfl ?_
        refine V.aldn 0 dX7_arranges_54 rfl rfl ?_
        refine V.gf7_16 dX7_arranges_55 f_X7_50 ?_
        refine V.ildn 1 dX7_arranges_58 rfl rfl ?_
        refine V.ald_59 dX7_arranges_59 (ix_nI (by omega) (by decide)) ?_
        refine V.top (y := nI (R d).length) (by rw [hS 16 (by decide)]; exact hz) ?_
        first | refine V.icmp_geN 94 dX7_arranges_60 (by decide) (by omega) (by omega) (fun c60 => ?_) (fun c60 => ?_) | refine V.icmp_ge 94 dX7_arranges_60 (by decide) (fun c60 => ?_) (fun c60 => ?_)
        · exact tail _ _ m' hS h17 hBR (hrow (by omega))
        · refine V.aldn 0 dX7_arranges_63 rfl rfl ?_
          refine V.gf7_20 dX7_arranges_64 f_X7_129 ?_
          refine V.top (y := nI t) (hBR'.1.trans et) ?_
          refine V.ldc dX7_arranges_67 c_X7_136 ?_
          refine V.top e100k ?_
          first | refine V.icmp_geN 94 dX7_arranges_69 (by decide) (by omega) (by omega) (fun c69 => ?_) (fun c69 => ?_) | refine V.icmp_ge 94 dX7_arranges_69 (by decide) (fun c69 => ?_) (fun c69 => ?_)
          · exact absurd c69 (by omega)
          · refine V.aldn 0 dX7_arranges_72 rfl rfl ?_
            refine V.gf7_17 dX7_arranges_73 f_X7_53 ?_
            refine V.iconst (nI 5) dX7_arranges_76 (by decide +kernel) ?_
            refine V.ildn 1 dX7_arranges_77 rfl rfl ?_
            first | refine V.imulN dX7_arranges_78 ?_ | refine V.imul dX7_arranges_78 ?_
            refine V.ildn 3 dX7_arranges_79 rfl rfl ?_
            first | refine V.iaddN dX7_arranges_80 ?_ | refine V.iadd dX7_arranges_80 ?_
            refine V.aldn 0 dX7_arranges_81 rfl rfl ?_
            refine V.gf7_19 dX7_arranges_82 f_X7_59 ?_
            refine V.ildn 3 dX7_arranges_85 rfl rfl ?_
            refine V.ald_62 dX7_arranges_86 (ix_nI (by omega) (by decide)) ?_
            refine V.top (q2 k (by omega)).1 ?_
            refine V.ast_60 dX7_arranges_87 (ix_nI (by omega) (by decide)) ?_
            first | refine V.iincN dX7_arranges_88 rfl ?_ | refine V.iinc dX7_arranges_88 rfl rfl ?_
            refine V.goto 53 dX7_arranges_91 (by decide) ?_
            refine ih _ (by omega) (k + 1) _ _ rfl (by omega) (hS.up (by decide)) (fun j hj => by rw [up2_at, if_neg (by omega)]; exact h17 j hj) ⟨by rw [up2_at, if_neg (by omega)]; exact hBR.1, fun r2 hr2 => ⟨(hBR.2 r2 hr2).1, fun i hi => by rw [up2_at, if_neg (by omega)]; exact (hBR.2 r2 hr2).2 i hi⟩⟩ (fun r2 hr2 i hi => ?_)
            rw [hbb] at hr2
            cases hr2
            rw [up2_at]
            split
            · rename_i e; rw [show i = k by omega]
            · rename_i e; exact hcp r hbb i (by omega)
  have loop1 : ∀ (j k : Nat) (m' : Nat → Nat → Int32), n - k = j → k ≤ n → Sm [17, 18, 19, 20] m m' → m' 17 = m 17 → (∀ i, i < (Pl k D d).length → m' 18 i = nI ((Pl k D d).getD i 0)) → V mX7_arranges (dp + 11) 0 0 4 [some (.ref 45), some (.int (nI d)), some (.int (nI (Pl k D d).length)), some (.int (nI k))] [] (HH f ro rs rw rb m') Q := by
    intro j
    induction j using Nat.strongRecOn with
    | _ j ih =>
      intro k m' hj hk hS h17 h18
      have hle := Pl_le (d := d) hD hk
      have nxt : k < n → ∀ m2, Sm [17, 18, 19, 20] m m2 → m2 17 = m 17 → (∀ i, i < (Pl (k + 1) D d).length → m2 18 i = nI ((Pl (k + 1) D d).getD i 0)) → V mX7_arranges (dp + 11) 0 0 32 [some (.ref 45), some (.int (nI d)), some (.int (nI (Pl (k + 1) D d).length)), some (.int (nI k))] [] (HH f ro rs rw rb m2) Q := by
        intro hkn m2 a1 a2 a3
        first | refine V.iincN dX7_arranges_32 rfl ?_ | refine V.iinc dX7_arranges_32 rfl rfl ?_
        refine V.goto 4 dX7_arranges_35 (by decide) ?_
        exact ih _ (by omega) (k + 1) m2 rfl (by omega) a1 a2 a3
      have hdk : k < n → ∀ e, D k = some e → e < 8 := fun h e he => by have := (hD.2.1 k e h he).1; omega
      refine V.ildn 3 dX7_arranges_4 rfl rfl ?_
      refine V.aldn 0 dX7_arranges_5 rfl rfl ?_
      refine V.gf7_1 dX7_arranges_6 f_X7_84 ?_
      refine V.top (y := nI n) (by rw [hS 1 (by decide)]; exact h1) ?_
      first | refine V.icmp_geN 38 dX7_arranges_9 (by decide) (by omega) (by omega) (fun c9 => ?_) (fun c9 => ?_) | refine V.icmp_ge 38 dX7_arranges_9 (by decide) (fun c9 => ?_) (fun c9 => ?_)
      · obtain rfl : k = n := by omega
        refine V.aldn 0 dX7_arranges_38 rfl rfl ?_
        refine V.ldc dX7_arranges_39 c_X7_136 ?_
        refine V.eqs rfl ?_
        refine V.pf7_20 dX7_arranges_41 (fp_X7_129 rfl) ?_
        refine V.aldn 0 dX7_arranges_44 rfl rfl ?_
        refine V.ildn 1 dX7_arranges_45 rfl rfl ?_
        refine V.iconst (nI 0) dX7_arranges_46 (by decide +kernel) ?_
        refine V.iconst (nI 0) dX7_arranges_47 (by decide +kernel) ?_
        refine V.cVe (t_tries (F := F) hX (Pl k D d).length (up2 m' 20 0 100000) (fun _ => false) (nI 0) [] 0 none rfl (by omega) ⟨List.nodup_nil, fun i hi => absurd hi List.not_mem_nil⟩ (fun i hi => by simp) (fun i hi => btB_0 (by omega)) ?_ (fun i hi => absurd hi (Nat.not_lt_zero i)) ⟨by rw [up2_at, if_pos ⟨rfl, rfl⟩]; rfl, fun r hr => by cases hr⟩ : Mt (dp + (5 - (Pl k D d).length) + (Pl k D d).length + 5) 0 0 _ _ _ _) dX7_arranges_48 k_X7_132 rfl rfl rfl (Nat.le_of_ble_eq_true rfl) (by omega) ?_
        · refine ⟨hnd, by rw [up2_at, if_neg (by omega), hS 13 (by decide)]; exact h13, film_congr (hS.up (by decide)) (isF_no (by decide)) hF, hp, fun a ha _ => rowM_congr (by rw [up2_at, if_neg (by omega), hS 16 (by decide)]) (fun i hi => by rw [up2_at, if_neg (by omega), h17]) (hR a ha), ⟨by rw [up2_at, if_neg (by omega), hS 1 (by decide)]; exact h1, fun s hs => by rw [up2_at, if_neg (by omega), hS 8 (by decide)]; exact h8 s hs⟩, by rw [up2_at, if_neg (by omega), hS 16 (by decide), hlen]; exact hz, fun i hi => by rw [up2_at, if_neg (by omega)]; exact h18 i hi⟩
        rintro _ _ ⟨m2, rfl, rfl, hS2, h172, hB2⟩
        refine V.eqs (st' := []) rfl ?_
        refine V.iconst (nI 0) dX7_arranges_51 (by decide +kernel) ?_
        refine V.istn 3 dX7_arranges_52 rfl (Nat.le_of_ble_eq_true rfl) ?_
        exact loop2 _ 0 _ m2 rfl (Nat.zero_le _) ((hS.up (by decide)).tr (hS2.wk (by decide))) (fun j hj => by rw [h172 j (by omega), up2_at, if_neg (by omega), h17]) (by rw [← hb]; exact hB2) (fun r hr i hi => absurd hi (Nat.not_lt_zero i))
      · refine V.aldn 0 dX7_arranges_12 rfl rfl ?_
        refine V.gf7_8 dX7_arranges_13 f_X7_29 ?_
        refine V.ildn 3 dX7_arranges_16 rfl rfl ?_
        refine V.ald_52 dX7_arranges_17 (ix_nI (by omega) (by decide)) ?_
        refine V.top (y := dI (D k)) (by rw [hS 8 (by decide)]; exact h8 k c9) ?_
        refine V.ildn 1 dX7_arranges_18 rfl rfl ?_
        refine V.icmp_ne 32 dX7_arranges_19 (by decide) (fun c19 => ?_) (fun c19 => ?_)
        · have hne : ¬ D k = some d := fun q => c19 (by rw [q]; rfl)
          have e := Pl_succ k D d
          rw [if_neg hne] at e
          have := nxt c9 m' hS h17 (by rw [e]; exact h18)
          rw [e] at this
          exact this
        · have hyes : D k = some d := by cases h : D k with | none => rw [h] at c19; exact absurd c19.symm (nI_m1 (by omega)) | some e => rw [h] at c19; have := (nI_eq (by have := hdk c9 e h; omega) (by omega)).mp c19; rw [this]
          have e := Pl_succ k D d
          rw [if_pos hyes] at e
          have el : (Pl (k + 1) D d).length = (Pl k D d).length + 1 := by rw [e, List.length_append]; rfl
          refine V.aldn 0 dX7_arranges_22 rfl rfl ?_
          refine V.gf7_18 dX7_arranges_23 f_X7_56 ?_
          refine V.ildn 2 dX7_arranges_26 rfl rfl ?_
          refine V.ildn 3 dX7_arranges_27 rfl rfl ?_
          refine V.ast_61 dX7_arranges_28 (ix_nI (by omega) (by decide)) ?_
          first | refine V.iincN dX7_arranges_29 rfl ?_ | refine V.iinc dX7_arranges_29 rfl rfl ?_
          have h9 : ∀ i, i < (Pl (k + 1) D d).length → up2 m' 18 (Pl k D d).length (nI k) 18 i = nI ((Pl (k + 1) D d).getD i 0) := fun i hi => (by rw [up2_at, e]; by_cases q : i = (Pl k D d).length; rw [if_pos ⟨rfl, q⟩, q, List.getD_eq_getElem?_getD, List.getElem?_append_right (Nat.le_refl _), Nat.sub_self]; rfl; rw [if_neg (fun z => q z.2), List.getD_eq_getElem?_getD, List.getElem?_append_left (by omega), ← List.getD_eq_getElem?_getD]; exact h18 i (by omega))
          have := nxt c9 (up2 m' 18 (Pl k D d).length (nI k)) (hS.up (by decide)) ((up2_ne (by decide)).trans h17) h9
          rw [el] at this
          exact this
  refine V.iconst (nI 0) dX7_arranges_0 (by decide +kernel) ?_
  refine V.istn 2 dX7_arranges_1 rfl (Nat.le_of_ble_eq_true rfl) ?_
  refine V.iconst (nI 0) dX7_arranges_2 (by decide +kernel) ?_
  refine V.istn 3 dX7_arranges_3 rfl (Nat.le_of_ble_eq_true rfl) ?_
  exact loop1 _ 0 m rfl (Nat.zero_le _) Sm.rf rfl (fun i hi => absurd hi (Nat.not_lt_zero i))
end MODEL
end
section
/-! the reference: a scene put into a day -/
theorem upR_upR (R : Nat → List Nat) (d : Nat) (l l' : List Nat) : upR (upR R d l) d l' = upR R d l' := by
  funext a
  unfold upR
  split <;> rfl
theorem bestO_upR (F : Nat → Nat → Int32) (n nd : Nat) (R : Nat → List Nat) (D : Nat → Option Nat) (d : Nat) (l : List Nat) : bestO F n nd (upR R d l) D d = bestO F n nd R D d := by
  unfold bestO
  have e : ∀ P, stM F n nd (upR R d l) D d P = stM F n nd R D d P := by
    intro P
    funext pre b
    unfold stM
    rw [upR_upR]
  rw [e]
theorem tr_keep {β : Type} {z : Nat} {step : List Nat → β → β} {Pb : β → Prop} (hst : ∀ pre b, PX z pre → pre.length = z → Pb b → Pb (step pre b)) : ∀ (k : Nat) (us : Nat → Bool) (pre : List Nat) (b : β), pre.length + k = z → PX z pre → (∀ i, i < z → (us i = true ↔ i ∈ pre)) → Pb b → Pb (tr z step k us pre b)
  | 0, us, pre, b, hl, hp, hu, hb => hst pre b hp (by omega) hb
  | k + 1, us, pre, b, hl, hp, hu, hb => by
    have go : ∀ q, q ≤ z → Pb (fo (fun i b => if us i = true then b else tr z step k (fun j => us j || j == i) (pre ++ [i]) b) b q) := by
      intro q
      induction q with
      | zero => intro _; exact hb
      | succ q ih =>
        intro hq
        show Pb (if us q = true then _ else _)
        split
        · exact ih (by omega)
        · rename_i hn
          have hnm : q ∉ pre := fun h => hn ((hu q (by omega)).mpr h)
          refine tr_keep hst k _ _ _ (by rw [List.length_append]; simp; omega) (hp.add (by omega) hnm) (fun i hi => ?_) (ih (by omega))
          rw [Bool.or_eq_true, hu i hi, List.mem_append]
          simp
    exact go z (Nat.le_refl z)
/-- what the best order is: an order of the day's scenes by which the plan keeps -/
theorem bestO_some {F : Nat → Nat → Int32} {n nd : Nat} {R : Nat → List Nat} {D : Nat → Option Nat} {d : Nat} {r : List Nat} (h : bestO F n nd R D d = some r) : ∃ pre, PX (Pl n D d).length pre ∧ pre.length = (Pl n D d).length ∧ r = pre.map (fun i => (Pl n D d).getD i 0) ∧ KP F n nd (upR R d r) D := by
  have := tr_keep (z := (Pl n D d).length) (step := stM F n nd R D d (fun i => (Pl n D d).getD i 0)) (Pb := fun b => ∀ r, b = some r → ∃ pre, PX (Pl n D d).length pre ∧ pre.length = (Pl n D d).length ∧ r = pre.map (fun i => (Pl n D d).getD i 0) ∧ KP F n nd (upR R d r) D) (fun pre b hp hl hb r hr => by
    unfold stM at hr
    split at hr
    · rename_i q
      cases hr
      exact ⟨pre, hp, hl, rfl, of_dB q.2⟩
    · exact hb r hr) (Pl n D d).length (fun _ => false) [] none (by simp) ⟨List.nodup_nil, fun i hi => absurd hi List.not_mem_nil⟩ (fun i hi => by simp) (fun r hr => by cases hr)
  exact this r h
theorem DR.add {n nd : Nat} {R : Nat → List Nat} {D : Nat → Option Nat} {s d : Nat} (h : DR n nd R D) (hs : s < n) (hds : D s = none) (hd : d < nd) : DR n nd (upR R d (R d ++ [s])) (upD D s (some d)) := by
  obtain ⟨hn, d1, d2, d3⟩ := h
  have hnm : ∀ a, a < nd → s ∉ R a := fun a ha q => by have := (d2 s a ha q).2; rw [hds] at this; cases this
  refine ⟨hn, fun t a ht ha => ?_, fun t a ha hm => ?_, fun a ha => ?_⟩
  · by_cases e : t = s
    · subst e
      rw [upD_s] at ha
      cases ha
      exact ⟨hd, by rw [upR_s]; simp⟩
    · rw [upD_n e] at ha
      obtain ⟨q1, q2⟩ := d1 t a ht ha
      refine ⟨q1, ?_⟩
      by_cases e2 : a = d
      · subst e2; rw [upR_s]; exact List.mem_append_left _ q2
      · rw [upR_n e2]; exact q2
  · by_cases e2 : a = d
    · subst e2
      rw [upR_s] at hm
      rcases List.mem_append.mp hm with q | q
      · have e : t ≠ s := fun z => hnm a ha (by rw [← z]; exact q)
        rw [upD_n e]; exact d2 t a ha q
      · simp at q; subst q; rw [upD_s]; exact ⟨hs, rfl⟩
    · rw [upR_n e2] at hm
      have e : t ≠ s := fun z => hnm a ha (by rw [← z]; exact hm)
      rw [upD_n e]; exact d2 t a ha hm
  · by_cases e2 : a = d
    · subst e2
      rw [upR_s, List.nodup_append]
      exact ⟨d3 a ha, by simp, fun x hx y hy => by simp at hy; subst hy; exact fun z => hnm a ha (by rw [← z]; exact hx)⟩
    · rw [upR_n e2]; exact d3 a ha
theorem bestO_dr {F : Nat → Nat → Int32} {n nd : Nat} {R : Nat → List Nat} {D : Nat → Option Nat} {d : Nat} {r : List Nat} (hD : DR n nd R D) (hd : d < nd) (h5 : (R d).length ≤ 5) (h : bestO F n nd R D d = some r) : DR n nd (upR R d r) D := by
  obtain ⟨pre, hp, hl, rfl, -⟩ := bestO_some h
  exact (DX.of hD hd h5).dr hp hl
noncomputable def putO (F : Nat → Nat → Int32) (n nd : Nat) (R : Nat → List Nat) (D : Nat → Option Nat) (s d : Nat) : Option (List Nat) := if (R d).length = 5 then none else bestO F n nd R (upD D s (some d)) d
def putR (R : Nat → List Nat) (d : Nat) (o : Option (List Nat)) : Nat → List Nat := match o with
  | some r => upR R d r
  | none => R
def putD (D : Nat → Option Nat) (s d : Nat) (o : Option (List Nat)) : Nat → Option Nat := match o with
  | some _ => upD D s (some d)
  | none => D
section MODEL
variable {f ro rs : Nat → Nat → Int32} {rw rb : Nat → Nat} {m : Nat → Nat → Int32} {dp : Nat} {F : Nat → Nat → Int32} {n nd : Nat} {R : Nat → List Nat} {D : Nat → Option Nat}
theorem t_puts (hB : FB F) (hM : MS F n nd R D m) {s d : Nat} (hs : s < n) (hds : D s = none) (hd : d < nd) : Mt (dp + 12) 0 0 mX7_puts [.ref 45, .int (nI s), .int (nI d)] (HH f ro rs rw rb m) (fun r h' => ∃ m', r = some (.int (bI (putO F n nd R D s d).isSome)) ∧ h' = HH f ro rs rw rb m' ∧ Sm [8, 16, 17, 18, 19, 20, 21] m m' ∧ MS F n nd (putR R d (putO F n nd R D s d)) (putD D s d (putO F n nd R D s d)) m') := by
  refine Mt.of rfl rfl (Nat.le_of_ble_eq_true rfl) rfl ?_
  have hM0 := hM
  obtain ⟨⟨hnd, h13, hF, hp, hR⟩, hD, h1, h8⟩ := hM
  have hn20 := hD.1
  obtain ⟨hz, hz5, hr⟩ := hR d hd
  generalize ho : putO F n nd R D s d = o
  unfold putO at ho
  generalize hQ : (fun (r : Option Value) (h' : List AC) => ∃ m', r = some (.int (bI o.isSome)) ∧ h' = HH f ro rs rw rb m' ∧ Sm [8, 16, 17, 18, 19, 20, 21] m m' ∧ MS F n nd (putR R d o) (putD D s d o) m') = Q
  have loop2 : o = none → ∀ (j k : Nat) (m' : Nat → Nat → Int32), 5 - k = j → k ≤ 5 → Sm [8, 16, 17, 18, 19, 20, 21] m m' → (∀ a, m' 16 a = m 16 a) → (∀ a, m' 8 a = if a = s then -1 else m 8 a) → (∀ i, i < 5 → m' 21 i = m 17 (5 * d + i)) → (∀ i, (i < 5 * d + k ∨ 5 * d + 5 ≤ i) → m' 17 i = m 17 i) → V mX7_puts (dp + 12) 0 0 103 [some (.ref 45), some (.int (nI s)), some (.int (nI d)), some (.int (nI k))] [] (HH f ro rs rw rb m') Q := by
    intro hno j
    induction j using Nat.strongRecOn with
    | _ j ih =>
      intro k m' hj hk hS h16 h8' h21 h17
      refine V.ildn 3 dX7_puts_103 rfl rfl ?_
      refine V.iconst (nI 5) dX7_puts_104 (by decide +kernel) ?_
      first | refine V.icmp_geN 130 dX7_puts_105 (by decide) (by omega) (by omega) (fun c105 => ?_) (fun c105 => ?_) | refine V.icmp_ge 130 dX7_puts_105 (by decide) (fun c105 => ?_) (fun c105 => ?_)
      · refine V.iconst (nI 0) dX7_puts_130 (by decide +kernel) ?_
        exact V.ireturn dX7_puts_131 rfl (by first | rfl | decide +kernel) (by rw [← hQ, hno]; refine ⟨m', rfl, rfl, hS, ⟨hnd, (congrFun (hS 13 (by decide)) 0).trans h13, film_congr hS (isF_no (by decide)) hF, hp, fun a ha => rowM_congr (h16 a) (fun i hi => h17 _ (by omega)) (hR a ha)⟩, hD, (congrFun (hS 1 (by decide)) 0).trans h1, fun a ha => ?_⟩; rw [h8' a]; split; (rename_i e; rw [e]; show -1 = dI (D s); rw [hds]; rfl); exact h8 a ha)
      · refine V.aldn 0 dX7_puts_108 rfl rfl ?_
        refine V.gf7_17 dX7_puts_109 f_X7_53 ?_
        refine V.iconst (nI 5) dX7_puts_112 (by decide +kernel) ?_
        refine V.ildn 2 dX7_puts_113 rfl rfl ?_
        first | refine V.imulN dX7_puts_114 ?_ | refine V.imul dX7_puts_114 ?_
        refine V.ildn 3 dX7_puts_115 rfl rfl ?_
        first | refine V.iaddN dX7_puts_116 ?_ | refine V.iadd dX7_puts_116 ?_
        refine V.aldn 0 dX7_puts_117 rfl rfl ?_
        refine V.gf7_21 dX7_puts_118 f_X7_62 ?_
        refine V.ildn 3 dX7_puts_121 rfl rfl ?_
        refine V.ald_63 dX7_puts_122 (ix_nI (by omega) (by decide)) ?_
        refine V.top (h21 k c105) ?_
        refine V.ast_60 dX7_puts_123 (ix_nI (by omega) (by decide)) ?_
        first | refine V.iincN dX7_puts_124 rfl ?_ | refine V.iinc dX7_puts_124 rfl rfl ?_
        refine V.goto 103 dX7_puts_127 (by decide) ?_
        refine ih _ (by omega) (k + 1) _ rfl (by omega) (hS.up (by decide)) (fun a => by rw [up2_at, if_neg (by omega)]; exact h16 a) (fun a => by rw [up2_at, if_neg (by omega)]; exact h8' a) (fun i hi => by rw [up2_at, if_neg (by omega)]; exact h21 i hi) (fun i hi => ?_)
        rw [up2_at]
        split
        · rename_i e; rw [e.2]
        · rename_i e; exact h17 i (by omega)
  have main : (R d).length ≠ 5 → ∀ (m' : Nat → Nat → Int32), Sm [8, 16, 17, 18, 19, 20, 21] m m' → (∀ k, k ≠ 21 → m' k = m k) → (∀ i, i < 5 → m' 21 i = m 17 (5 * d + i)) → V mX7_puts (dp + 12) 0 0 41 [some (.ref 45), some (.int (nI s)), some (.int (nI d)), some (.int (nI 5))] [] (HH f ro rs rw rb m') Q := by
    intro h5 m' hS hoth h21
    rw [if_neg h5] at ho
    have hD1 := hD.add hs hds hd
    have hM1 : MS F n nd (upR R d (R d ++ [s])) (upD D s (some d)) (up2 (up2 (up2 m' 8 s (nI d)) 17 (5 * d + (R d).length) (nI s)) 16 d (nI ((R d).length + 1))) := by
      have hSS : Sm [8, 16, 17, 18, 19, 20, 21] m (up2 (up2 (up2 m' 8 s (nI d)) 17 (5 * d + (R d).length) (nI s)) 16 d (nI ((R d).length + 1))) := ((hS.up (by decide)).up (by decide)).up (by decide)
      refine ⟨⟨hnd, (congrFun (hSS 13 (by decide)) 0).trans h13, film_congr hSS (isF_no (by decide)) hF, hp, fun a ha => ?_⟩, hD1, (congrFun (hSS 1 (by decide)) 0).trans h1, fun a ha => ?_⟩
      · by_cases e : a = d
        · subst e
          rw [upR_s]
          refine ⟨by rw [up2_at, if_pos ⟨rfl, rfl⟩, List.length_append]; rfl, by rw [List.length_append]; show _ + 1 ≤ 5; omega, fun i hi => ?_⟩
          rw [List.length_append] at hi
          have hi : i < (R a).length + 1 := hi
          rw [up2_at, if_neg (by omega), up2_at]
          by_cases q : i = (R a).length
          · subst q
            rw [if_pos ⟨rfl, rfl⟩, List.getD_eq_getElem?_getD, List.getElem?_append_right (Nat.le_refl _), Nat.sub_self]
            exact ⟨rfl, by show s < 20; omega⟩
          · rw [if_neg (by omega), up2_at, if_neg (by omega), hoth 17 (by decide), List.getD_eq_getElem?_getD, List.getElem?_append_left (by omega), ← List.getD_eq_getElem?_getD]
            exact hr i (by omega)
        · rw [upR_n e]
          refine rowM_congr ?_ (fun i hi => ?_) (hR a ha)
          · rw [up2_at, if_neg (fun q => e q.2), up2_at, if_neg (by omega), up2_at, if_neg (by omega), hoth 16 (by decide)]
          · rw [up2_at, if_neg (by omega), up2_at, if_neg (by omega), up2_at, if_neg (by omega), hoth 17 (by decide)]
      · rw [up2_at, if_neg (by omega), up2_at, if_neg (by omega), up2_at]
        by_cases e : a = s
        · rw [if_pos ⟨rfl, e⟩, e, upD_s]; rfl
        · rw [if_neg (fun q => e q.2), upD_n e, hoth 8 (by decide)]; exact h8 a ha
    have har := t_arranges (f := f) (ro := ro) (rs := rs) (rw := rw) (rb := rb) (dp := dp) hB hM1 hd
    rw [bestO_upR, ho] at har
    have hSS : Sm [8, 16, 17, 18, 19, 20, 21] m (up2 (up2 (up2 m' 8 s (nI d)) 17 (5 * d + (R d).length) (nI s)) 16 d (nI ((R d).length + 1))) := ((hS.up (by decide)).up (by decide)).up (by decide)
    refine V.aldn 0 dX7_puts_41 rfl rfl ?_
    refine V.gf7_8 dX7_puts_42 f_X7_29 ?_
    refine V.ildn 1 dX7_puts_45 rfl rfl ?_
    refine V.ildn 2 dX7_puts_46 rfl rfl ?_
    refine V.ast_52 dX7_puts_47 (ix_nI (by omega) (by decide)) ?_
    refine V.aldn 0 dX7_puts_48 rfl rfl ?_
    refine V.gf7_17 dX7_puts_49 f_X7_53 ?_
    refine V.iconst (nI 5) dX7_puts_52 (by decide +kernel) ?_
    refine V.ildn 2 dX7_puts_53 rfl rfl ?_
    first | refine V.imulN dX7_puts_54 ?_ | refine V.imul dX7_puts_54 ?_
    refine V.aldn 0 dX7_puts_55 rfl rfl ?_
    refine V.gf7_16 dX7_puts_56 f_X7_50 ?_
    refine V.ildn 2 dX7_puts_59 rfl rfl ?_
    refine V.ald_59 dX7_puts_60 (ix_nI (by omega) (by decide)) ?_
    refine V.top (y := nI (R d).length) (by rw [up2_at, if_neg (by omega), hoth 16 (by decide)]; exact hz) ?_
    first | refine V.iaddN dX7_puts_61 ?_ | refine V.iadd dX7_puts_61 ?_
    refine V.ildn 1 dX7_puts_62 rfl rfl ?_
    refine V.ast_60 dX7_puts_63 (ix_nI (by omega) (by decide)) ?_
    refine V.aldn 0 dX7_puts_64 rfl rfl ?_
    refine V.gf7_16 dX7_puts_65 f_X7_50 ?_
    refine V.ildn 2 dX7_puts_68 rfl rfl ?_
    refine V.dup2 dX7_puts_69 ?_
    refine V.ald_59 dX7_puts_70 (ix_nI (by omega) (by decide)) ?_
    refine V.top (y := nI (R d).length) (by rw [up2_at, if_neg (by omega), up2_at, if_neg (by omega), hoth 16 (by decide)]; exact hz) ?_
    refine V.iconst (nI 1) dX7_puts_71 (by decide +kernel) ?_
    first | refine V.iaddN dX7_puts_72 ?_ | refine V.iadd dX7_puts_72 ?_
    refine V.ast_59 dX7_puts_73 (ix_nI (by omega) (by decide)) ?_
    refine V.aldn 0 dX7_puts_74 rfl rfl ?_
    refine V.ildn 2 dX7_puts_75 rfl rfl ?_
    refine V.cVe har dX7_puts_76 k_X7_137 rfl rfl rfl (Nat.le_of_ble_eq_true rfl) rfl ?_
    rintro _ _ ⟨m2, rfl, rfl, hS2, h172, hrow⟩
    refine V.eqs (st' := [.int (bI o.isSome)]) rfl ?_
    have hSa := hSS.tr (hS2.wk (by decide))
    first | refine V.if_eqB 84 dX7_puts_79 (by decide) (fun c79 => ?_) (fun c79 => ?_) | refine V.if_eqN 84 dX7_puts_79 (by decide) (by omega) (fun c79 => ?_) (fun c79 => ?_) | refine V.if_eq 84 dX7_puts_79 (by decide) (fun c79 => ?_) (fun c79 => ?_)
    · have hno : o = none := by cases o with | none => rfl | some r => cases c79
      refine V.aldn 0 dX7_puts_84 rfl rfl ?_
      refine V.gf7_8 dX7_puts_85 f_X7_29 ?_
      refine V.ildn 1 dX7_puts_88 rfl rfl ?_
      refine V.iconst (-1) dX7_puts_89 (by decide +kernel) ?_
      refine V.ast_52 dX7_puts_90 (ix_nI (by omega) (by decide)) ?_
      refine V.aldn 0 dX7_puts_91 rfl rfl ?_
      refine V.gf7_16 dX7_puts_92 f_X7_50 ?_
      refine V.ildn 2 dX7_puts_95 rfl rfl ?_
      refine V.dup2 dX7_puts_96 ?_
      refine V.ald_59 dX7_puts_97 (ix_nI (by omega) (by decide)) ?_
      refine V.top (y := nI ((R d).length + 1)) (by rw [up2_at, if_neg (by omega), hS2 16 (by decide), up2_at, if_pos ⟨rfl, rfl⟩]) ?_
      refine V.iconst (nI 1) dX7_puts_98 (by decide +kernel) ?_
      refine V.isubN dX7_puts_99 (by omega) ?_
      refine V.ast_59 dX7_puts_100 (ix_nI (by omega) (by decide)) ?_
      refine V.iconst (nI 0) dX7_puts_101 (by decide +kernel) ?_
      refine V.istn 3 dX7_puts_102 rfl (Nat.le_of_ble_eq_true rfl) ?_
      refine loop2 hno 5 0 _ (by omega) (by omega) ((hSa.up (by decide)).up (by decide)) (fun a => ?_) (fun a => ?_) (fun i hi => ?_) (fun i hi => ?_)
      · rw [up2_at]; by_cases e : a = d; rw [if_pos ⟨rfl, e⟩, e, Nat.add_sub_cancel]; exact hz.symm; rw [if_neg (fun q => e q.2), up2_at, if_neg (by omega), hS2 16 (by decide), up2_at, if_neg (fun q => e q.2), up2_at, if_neg (by omega), up2_at, if_neg (by omega), hoth 16 (by decide)]
      · rw [up2_at, if_neg (by omega), up2_at]; by_cases e : a = s; rw [if_pos ⟨rfl, e⟩, if_pos e]; rw [if_neg (fun q => e q.2), if_neg e, hS2 8 (by decide), up2_at, if_neg (by omega), up2_at, if_neg (by omega), up2_at, if_neg (fun q => e q.2), hoth 8 (by decide)]
      · rw [up2_at, if_neg (by omega), up2_at, if_neg (by omega), hS2 21 (by decide), up2_at, if_neg (by omega), up2_at, if_neg (by omega), up2_at, if_neg (by omega)]; exact h21 i hi
      · rw [up2_at, if_neg (by omega), up2_at, if_neg (by omega), h172 i (by omega), up2_at, if_neg (by omega), up2_at, if_neg (by omega), up2_at, if_neg (by omega), hoth 17 (by decide)]
    · obtain ⟨r, hor⟩ := Option.isSome_iff_exists.mp c79
      refine V.iconst (nI 1) dX7_puts_82 (by decide +kernel) ?_
      refine V.ireturn dX7_puts_83 rfl (by decide +kernel) ?_
      rw [← hQ, hor]
      obtain ⟨⟨-, k13, kF, -, kR⟩, -, k1, k8⟩ := hM1
      have hrw := hrow r hor
      have hbo := bestO_upR F n nd R (upD D s (some d)) d (R d ++ [s])
      rw [ho, hor] at hbo
      have hdr := bestO_dr hD1 hd (by rw [upR_s, List.length_append]; show _ + 1 ≤ 5; omega) hbo
      rw [upR_upR] at hdr
      refine ⟨m2, rfl, rfl, hSa, ⟨hnd, (congrFun (hSa 13 (by decide)) 0).trans h13, film_congr hSa (isF_no (by decide)) hF, hp, fun a ha => ?_⟩, hdr, (congrFun (hSa 1 (by decide)) 0).trans h1, fun a ha => (congrFun (hS2 8 (by decide)) a).trans (k8 a ha)⟩
      show rowM m2 a (upR R d r a)
      by_cases e : a = d
      · subst e; rw [upR_s]; exact hrw
      · rw [upR_n e]; have := kR a ha; rw [upR_n e] at this; exact rowM_congr (congrFun (hS2 16 (by decide)) a) (fun i hi => h172 _ (by omega)) this
  have loop1 : (R d).length ≠ 5 → ∀ (j k : Nat) (m' : Nat → Nat → Int32), 5 - k = j → k ≤ 5 → Sm [8, 16, 17, 18, 19, 20, 21] m m' → (∀ k, k ≠ 21 → m' k = m k) → (∀ i, i < k → m' 21 i = m 17 (5 * d + i)) → V mX7_puts (dp + 12) 0 0 14 [some (.ref 45), some (.int (nI s)), some (.int (nI d)), some (.int (nI k))] [] (HH f ro rs rw rb m') Q := by
    intro h5 j
    induction j using Nat.strongRecOn with
    | _ j ih =>
      intro k m' hj hk hS hoth h21
      refine V.ildn 3 dX7_puts_14 rfl rfl ?_
      refine V.iconst (nI 5) dX7_puts_15 (by decide +kernel) ?_
      first | refine V.icmp_geN 41 dX7_puts_16 (by decide) (by omega) (by omega) (fun c16 => ?_) (fun c16 => ?_) | refine V.icmp_ge 41 dX7_puts_16 (by decide) (fun c16 => ?_) (fun c16 => ?_)
      · obtain rfl : k = 5 := by omega
        exact main h5 m' hS hoth (fun i hi => h21 i (by omega))
      · refine V.aldn 0 dX7_puts_19 rfl rfl ?_
        refine V.gf7_21 dX7_puts_20 f_X7_62 ?_
        refine V.ildn 3 dX7_puts_23 rfl rfl ?_
        refine V.aldn 0 dX7_puts_24 rfl rfl ?_
        refine V.gf7_17 dX7_puts_25 f_X7_53 ?_
        refine V.iconst (nI 5) dX7_puts_28 (by decide +kernel) ?_
        refine V.ildn 2 dX7_puts_29 rfl rfl ?_
        first | refine V.imulN dX7_puts_30 ?_ | refine V.imul dX7_puts_30 ?_
        refine V.ildn 3 dX7_puts_31 rfl rfl ?_
        first | refine V.iaddN dX7_puts_32 ?_ | refine V.iadd dX7_puts_32 ?_
        refine V.ald_60 dX7_puts_33 (ix_nI (by omega) (by decide)) ?_
        refine V.top (congrFun (hoth 17 (by decide)) _) ?_
        refine V.ast_63 dX7_puts_34 (ix_nI (by omega) (by decide)) ?_
        first | refine V.iincN dX7_puts_35 rfl ?_ | refine V.iinc dX7_puts_35 rfl rfl ?_
        refine V.goto 14 dX7_puts_38 (by decide) ?_
        refine ih _ (by omega) (k + 1) _ rfl (by omega) (hS.up (by decide)) (fun q hq => by rw [up2_ne hq]; exact hoth q hq) (fun i hi => ?_)
        rw [up2_at]
        split
        · rename_i e; rw [e.2]
        · rename_i e; exact h21 i (by omega)
  refine V.aldn 0 dX7_puts_0 rfl rfl ?_
  refine V.gf7_16 dX7_puts_1 f_X7_50 ?_
  refine V.ildn 2 dX7_puts_4 rfl rfl ?_
  refine V.ald_59 dX7_puts_5 (ix_nI (by omega) (by decide)) ?_
  refine V.top hz ?_
  refine V.iconst (nI 5) dX7_puts_6 (by decide +kernel) ?_
  first | refine V.icmp_neN 12 dX7_puts_7 (by decide) (by omega) (by omega) (fun c7 => ?_) (fun c7 => ?_) | refine V.icmp_ne 12 dX7_puts_7 (by decide) (fun c7 => ?_) (fun c7 => ?_)
  · refine V.iconst (nI 0) dX7_puts_12 (by decide +kernel) ?_
    refine V.istn 3 dX7_puts_13 rfl (Nat.le_of_ble_eq_true rfl) ?_
    exact loop1 c7 5 0 m (by omega) (by omega) Sm.rf (fun _ _ => rfl) (fun i hi => absurd hi (Nat.not_lt_zero i))
  · rw [if_pos c7] at ho
    refine V.iconst (nI 0) dX7_puts_10 (by decide +kernel) ?_
    refine V.ireturn dX7_puts_11 rfl (by decide +kernel) ?_
    rw [← hQ, ← ho]
    exact ⟨m, rfl, rfl, Sm.rf, hM0⟩
end MODEL
end
section
/-! the reference: moves, trades, bettering -/
theorem MS.back {F : Nat → Nat → Int32} {n nd : Nat} {R : Nat → List Nat} {D : Nat → Option Nat} {m m' : Nat → Nat → Int32} (h : MS F n nd R D m) (hS : Sm [8, 16, 17, 18, 19, 20, 21, 22, 23, 24, 25, 26, 27] m m') (h17 : ∀ j, j < 40 → m' 17 j = m 17 j) (h16 : ∀ j, j < 8 → m' 16 j = m 16 j) (h8 : ∀ j, j < 20 → m' 8 j = m 8 j) : MS F n nd R D m' := by
  obtain ⟨⟨hnd, h13, hF, hp, hR⟩, hD, k1, k8⟩ := h
  exact ⟨⟨hnd, (congrFun (hS 13 (by decide)) 0).trans h13, film_congr hS (isF_no (by decide)) hF, hp, fun a ha => rowM_congr (h16 a (by omega)) (fun i hi => h17 _ (by omega)) (hR a ha)⟩, hD, (congrFun (hS 1 (by decide)) 0).trans k1, fun s hs => (h8 s (by have := hD.1; omega)).trans (k8 s hs)⟩
noncomputable def mvO (F : Nat → Nat → Int32) (n nd : Nat) (R : Nat → List Nat) (D : Nat → Option Nat) (s e d : Nat) : Option (List Nat) := putO F n nd (upR R e ((R e).erase s)) (upD D s none) s d
noncomputable def mvR (F : Nat → Nat → Int32) (n nd : Nat) (R : Nat → List Nat) (D : Nat → Option Nat) (s e d : Nat) : Nat → List Nat := putR (upR R e ((R e).erase s)) d (mvO F n nd R D s e d)
noncomputable def mvD (F : Nat → Nat → Int32) (n nd : Nat) (R : Nat → List Nat) (D : Nat → Option Nat) (s e d : Nat) : Nat → Option Nat := putD (upD D s none) s d (mvO F n nd R D s e d)
/-- scene s, in day e, may well be moved to day d -/
def GMe (F : Nat → Nat → Int32) (n nd : Nat) (R : Nat → List Nat) (D : Nat → Option Nat) (s e d : Nat) : Prop := (mvO F n nd R D s e d).isSome = true ∧ costC F nd (mvR F n nd R D s e d) < costC F nd R
def GM (F : Nat → Nat → Int32) (n nd : Nat) (R : Nat → List Nat) (D : Nat → Option Nat) (s d : Nat) : Prop := ∃ e, D s = some e ∧ d ≠ e ∧ GMe F n nd R D s e d
def GT (F : Nat → Nat → Int32) (n nd : Nat) (R : Nat → List Nat) (D : Nat → Option Nat) (a b : Nat) : Prop := KP F n nd (fun d => R (sw a b d)) (fun s => (D s).map (sw a b)) ∧ costC F nd (fun d => R (sw a b d)) < costC F nd R
/-- one bettering, from R, D to R', D', or none -/
def BS (F : Nat → Nat → Int32) (n nd : Nat) (R : Nat → List Nat) (D : Nat → Option Nat) (res : Bool) (R' : Nat → List Nat) (D' : Nat → Option Nat) : Prop :=
  (∃ s d e, s < n ∧ d < nd ∧ D s = some e ∧ d ≠ e ∧ GMe F n nd R D s e d ∧ (∀ s' d', s' < n → d' < nd → (s' < s ∨ s' = s ∧ d' < d) → ¬ GM F n nd R D s' d') ∧ res = true ∧ R' = mvR F n nd R D s e d ∧ D' = mvD F n nd R D s e d) ∨
  ((∀ s' d', s' < n → d' < nd → ¬ GM F n nd R D s' d') ∧ ((∃ a b, a < b ∧ b < nd ∧ GT F n nd R D a b ∧ (∀ a' b', a' < b' → b' < nd → (a' < a ∨ a' = a ∧ b' < b) → ¬ GT F n nd R D a' b') ∧ res = true ∧ R' = (fun d => R (sw a b d)) ∧ D' = (fun s => (D s).map (sw a b))) ∨
    ((∀ a' b', a' < b' → b' < nd → ¬ GT F n nd R D a' b') ∧ res = false ∧ R' = R ∧ D' = D)))
def BIt (F : Nat → Nat → Int32) (n nd : Nat) : Nat → (Nat → List Nat) → (Nat → Option Nat) → Nat → (Nat → List Nat) → (Nat → Option Nat) → Prop
  | 0, R, D, c, R', D' => c = 0 ∧ R' = R ∧ D' = D
  | k + 1, R, D, c, R', D' => ∃ res R1 D1, BS F n nd R D res R1 D1 ∧ ((res = true ∧ ∃ c', c = c' + 1 ∧ BIt F n nd k R1 D1 c' R' D') ∨ (res = false ∧ c = 0 ∧ R' = R1 ∧ D' = D1))
theorem putO_kp {F : Nat → Nat → Int32} {n nd : Nat} {R : Nat → List Nat} {D : Nat → Option Nat} {s d : Nat} (h : (putO F n nd R D s d).isSome = true) : KP F n nd (putR R d (putO F n nd R D s d)) (putD D s d (putO F n nd R D s d)) := by
  obtain ⟨r, hr⟩ := Option.isSome_iff_exists.mp h
  rw [hr]
  unfold putO at hr
  split at hr
  · cases hr
  · exact (bestO_some hr).choose_spec.2.2.2
section MODEL
variable {f ro rs : Nat → Nat → Int32} {rw rb : Nat → Nat} {m : Nat → Nat → Int32} {dp : Nat} {F : Nat → Nat → Int32} {n nd : Nat} {R : Nat → List Nat} {D : Nat → Option Nat}
theorem t_movesWell (hB : FB F) (hM : MS F n nd R D m) {s d e : Nat} (hs : s < n) (hds : D s = some e) (hd : d < nd) : Mt (dp + 13) 0 0 mX7_movesWell [.ref 45, .int (nI s), .int (nI d), .int (costC F nd R)] (HH f ro rs rw rb m) (fun r h' => ∃ m', r = some (.int (bI (dB (GMe F n nd R D s e d)))) ∧ h' = HH f ro rs rw rb m' ∧ ((GMe F n nd R D s e d ∧ MS F n nd (mvR F n nd R D s e d) (mvD F n nd R D s e d) m') ∨ (¬ GMe F n nd R D s e d ∧ MS F n nd R D m'))) := by
  refine Mt.of rfl rfl (Nat.le_of_ble_eq_true rfl) rfl ?_
  generalize hQ : (fun (r : Option Value) (h' : List AC) => ∃ m', r = some (.int (bI (dB (GMe F n nd R D s e d)))) ∧ h' = HH f ro rs rw rb m' ∧ ((GMe F n nd R D s e d ∧ MS F n nd (mvR F n nd R D s e d) (mvD F n nd R D s e d) m') ∨ (¬ GMe F n nd R D s e d ∧ MS F n nd R D m'))) = Q
  refine V.aldn 0 dX7_movesWell_0 rfl rfl ?_
  refine V.cVe (t_keepAll (dp := dp + 11)) dX7_movesWell_1 k_X7_140 rfl rfl rfl (Nat.le_of_ble_eq_true rfl) rfl ?_
  rintro _ _ ⟨m1, rfl, rfl, hS1, a17, a16, a8⟩
  refine V.eqs (st' := []) rfl ?_
  have hM1 : MS F n nd R D m1 := hM.back (hS1.wk (by decide)) (fun j _ => congrFun (hS1 17 (by decide)) j) (fun j _ => congrFun (hS1 16 (by decide)) j) (fun j _ => congrFun (hS1 8 (by decide)) j)
  refine V.aldn 0 dX7_movesWell_4 rfl rfl ?_
  refine V.ildn 1 dX7_movesWell_5 rfl rfl ?_
  refine V.cVe (t_takes (dp := dp + 10) hM1 hs hds) dX7_movesWell_6 k_X7_152 rfl rfl rfl (Nat.le_of_ble_eq_true rfl) rfl ?_
  rintro _ _ ⟨m2, rfl, rfl, hS2, hM2⟩
  refine V.eqs (st' := []) rfl ?_
  have bk : ¬ GMe F n nd R D s e d → ∀ m3, Sm [8, 16, 17, 18, 19, 20, 21] m2 m3 → V mX7_movesWell (dp + 13) 0 0 35 [some (.ref 45), some (.int (nI s)), some (.int (nI d)), some (.int (costC F nd R))] [] (HH f ro rs rw rb m3) Q := by
    intro hno m3 hS3
    refine V.aldn 0 dX7_movesWell_35 rfl rfl ?_
    refine V.cVe (t_backAll (dp := dp + 11)) dX7_movesWell_36 k_X7_146 rfl rfl rfl (Nat.le_of_ble_eq_true rfl) rfl ?_
    rintro _ _ ⟨m4, rfl, rfl, hS4, b17, b16, b8⟩
    refine V.eqs (st' := []) rfl ?_
    refine V.iconst (nI 0) dX7_movesWell_39 (by decide +kernel) ?_
    exact V.ireturn dX7_movesWell_40 rfl (by first | rfl | decide +kernel) (by rw [← hQ, dB_f hno]; exact ⟨m4, rfl, rfl, Or.inr ⟨hno, hM.back ((((hS1.wk (by decide)).tr (hS2.wk (by decide))).tr (hS3.wk (by decide))).tr (hS4.wk (by decide))) (fun j hj => by rw [b17 j hj, hS3 22 (by decide), hS2 22 (by decide)]; exact a17 j hj) (fun j hj => by rw [b16 j hj, hS3 23 (by decide), hS2 23 (by decide)]; exact a16 j hj) (fun j hj => by rw [b8 j hj, hS3 24 (by decide), hS2 24 (by decide)]; exact a8 j hj)⟩⟩)
  refine V.aldn 0 dX7_movesWell_9 rfl rfl ?_
  refine V.ildn 1 dX7_movesWell_10 rfl rfl ?_
  refine V.ildn 2 dX7_movesWell_11 rfl rfl ?_
  refine V.cVe (t_puts (dp := dp) hB hM2 hs (upD_s D s none) hd) dX7_movesWell_12 k_X7_143 rfl rfl rfl (Nat.le_of_ble_eq_true rfl) rfl ?_
  rintro _ _ ⟨m3, rfl, rfl, hS3, hM3⟩
  refine V.eqs (st' := [.int (bI (mvO F n nd R D s e d).isSome)]) rfl ?_
  have hM3 : MS F n nd (mvR F n nd R D s e d) (mvD F n nd R D s e d) m3 := hM3
  first | refine V.if_eqB 35 dX7_movesWell_15 (by decide) (fun c15 => ?_) (fun c15 => ?_) | refine V.if_eqN 35 dX7_movesWell_15 (by decide) (by omega) (fun c15 => ?_) (fun c15 => ?_) | refine V.if_eq 35 dX7_movesWell_15 (by decide) (fun c15 => ?_) (fun c15 => ?_)
  · exact bk (fun q => by have := q.1; rw [c15] at this; cases this) m3 hS3
  · refine V.aldn 0 dX7_movesWell_18 rfl rfl ?_
    refine V.cVi ((t_keeps hM3.1 hM3.2.1 hM3.2.2 : Mt (dp + 9 + 3) 0 0 _ _ _ _)) dX7_movesWell_19 k_X7_94 rfl rfl rfl (Nat.le_of_ble_eq_true rfl) rfl ?_
    first | refine V.if_eqB 35 dX7_movesWell_22 (by decide) (fun c22 => ?_) (fun c22 => ?_) | refine V.if_eqN 35 dX7_movesWell_22 (by decide) (by omega) (fun c22 => ?_) (fun c22 => ?_) | refine V.if_eq 35 dX7_movesWell_22 (by decide) (fun c22 => ?_) (fun c22 => ?_)
    · exact absurd (putO_kp c15) (of_dBf c22)
    · refine V.aldn 0 dX7_movesWell_25 rfl rfl ?_
      refine V.cVi ((t_costAll hM3.1 : Mt (dp + 7 + 5) 0 0 _ _ _ _)) dX7_movesWell_26 k_X7_160 rfl rfl rfl (Nat.le_of_ble_eq_true rfl) rfl ?_
      refine V.ildn 3 dX7_movesWell_29 rfl rfl ?_
      refine V.icmp_ge 35 dX7_movesWell_30 (by decide) (fun c30 => ?_) (fun c30 => ?_)
      · exact bk (fun q => absurd c30 (Int32.not_le.mpr q.2)) m3 hS3
      · refine V.iconst (nI 1) dX7_movesWell_33 (by decide +kernel) ?_
        exact V.ireturn dX7_movesWell_34 rfl (by first | rfl | decide +kernel) (by rw [← hQ]; have hg : GMe F n nd R D s e d := ⟨c15, Int32.not_le.mp c30⟩; rw [dB_t hg]; exact ⟨m3, rfl, rfl, Or.inl ⟨hg, hM3⟩⟩)
theorem t_betters (hB : FB F) (hM : MS F n nd R D m) : Mt (dp + 14) 0 0 mX7_betters [.ref 45] (HH f ro rs rw rb m) (fun r h' => ∃ m' res R' D', r = some (.int (bI res)) ∧ h' = HH f ro rs rw rb m' ∧ BS F n nd R D res R' D' ∧ MS F n nd R' D' m') := by
  refine Mt.of rfl rfl (Nat.le_of_ble_eq_true rfl) rfl ?_
  generalize hQ : (fun (r : Option Value) (h' : List AC) => ∃ m' res R' D', r = some (.int (bI res)) ∧ h' = HH f ro rs rw rb m' ∧ BS F n nd R D res R' D' ∧ MS F n nd R' D' m') = Q
  have hnd := hM.1.1
  have hn20 := hM.2.1.1
  have tloop : (∀ s' d', s' < n → d' < nd → ¬ GM F n nd R D s' d') → ∀ (j a : Nat) (m' : Nat → Nat → Int32) (o3 : Option Value), nd - a = j → a ≤ nd → MS F n nd R D m' → (∀ a' b', a' < b' → b' < nd → a' < a → ¬ GT F n nd R D a' b') → V mX7_betters (dp + 14) 0 0 71 [some (.ref 45), some (.int (costC F nd R)), some (.int (nI a)), o3] [] (HH f ro rs rw rb m') Q := by
    intro hnom j
    induction j using Nat.strongRecOn with
    | _ j ih =>
      intro a m' o3 hj ha hM' hno
      have inner : a < nd → ∀ (i b : Nat) (m' : Nat → Nat → Int32), nd - b = i → a < b → b ≤ nd → MS F n nd R D m' → (∀ a' b', a' < b' → b' < nd → (a' < a ∨ a' = a ∧ b' < b) → ¬ GT F n nd R D a' b') → V mX7_betters (dp + 14) 0 0 83 [some (.ref 45), some (.int (costC F nd R)), some (.int (nI a)), some (.int (nI b))] [] (HH f ro rs rw rb m') Q := by
        intro hand i
        induction i using Nat.strongRecOn with
        | _ i ih2 =>
          intro b m' hi hab hb hM' hno
          have bk : b < nd → ¬ GT F n nd R D a b → ∀ m2, MS F n nd (fun d => R (sw a b d)) (fun s => (D s).map (sw a b)) m2 → V mX7_betters (dp + 14) 0 0 114 [some (.ref 45), some (.int (costC F nd R)), some (.int (nI a)), some (.int (nI b))] [] (HH f ro rs rw rb m2) Q := by
            intro hbn hng m2 hM2
            refine V.aldn 0 dX7_betters_114 rfl rfl ?_
            refine V.ildn 2 dX7_betters_115 rfl rfl ?_
            refine V.ildn 3 dX7_betters_116 rfl rfl ?_
            refine V.cVe (t_trades (dp := dp + 12) hM2 hand hbn (by omega)) dX7_betters_117 k_X7_156 rfl rfl rfl (Nat.le_of_ble_eq_true rfl) rfl ?_
            rintro _ _ ⟨m3, rfl, rfl, hS3, hM3⟩
            refine V.eqs (st' := []) rfl ?_
            have e1 : (fun d => R (sw a b (sw a b d))) = R := funext (fun d => by rw [sw_sw])
            have e2 : (fun s => ((D s).map (sw a b)).map (sw a b)) = D := funext (fun s => by cases D s with | none => rfl | some x => show some (sw a b (sw a b x)) = some x; rw [sw_sw])
            have hM3 : MS F n nd (fun d => R (sw a b (sw a b d))) (fun s => ((D s).map (sw a b)).map (sw a b)) m3 := hM3
            rw [e1, e2] at hM3
            first | refine V.iincN dX7_betters_120 rfl ?_ | refine V.iinc dX7_betters_120 rfl rfl ?_
            refine V.goto 83 dX7_betters_123 (by decide) ?_
            exact ih2 _ (by omega) (b + 1) m3 rfl (by omega) (by omega) hM3 (fun a' b' h1 h2 h3 => by by_cases q : a' = a ∧ b' = b; rw [q.1, q.2]; exact hng; exact hno a' b' h1 h2 (by omega))
          refine V.ildn 3 dX7_betters_83 rfl rfl ?_
          refine V.aldn 0 dX7_betters_84 rfl rfl ?_
          refine V.gf7_13 dX7_betters_85 f_X7_91 ?_
          refine V.top hM'.1.2.1 ?_
          first | refine V.icmp_geN 126 dX7_betters_88 (by decide) (by omega) (by omega) (fun c88 => ?_) (fun c88 => ?_) | refine V.icmp_ge 126 dX7_betters_88 (by decide) (fun c88 => ?_) (fun c88 => ?_)
          · refine V.iincN dX7_betters_126 rfl ?_
            refine V.goto 71 dX7_betters_129 (by decide) ?_
            exact ih _ (by omega) (a + 1) m' _ rfl (by omega) hM' (fun a' b' h1 h2 h3 => hno a' b' h1 h2 (by omega))
          · refine V.aldn 0 dX7_betters_91 rfl rfl ?_
            refine V.ildn 2 dX7_betters_92 rfl rfl ?_
            refine V.ildn 3 dX7_betters_93 rfl rfl ?_
            refine V.cVe (t_trades (dp := dp + 12) hM' hand c88 (by omega)) dX7_betters_94 k_X7_156 rfl rfl rfl (Nat.le_of_ble_eq_true rfl) rfl ?_
            rintro _ _ ⟨m2, rfl, rfl, hS2, hM2⟩
            refine V.eqs (st' := []) rfl ?_
            refine V.aldn 0 dX7_betters_97 rfl rfl ?_
            refine V.cVi ((t_keeps hM2.1 hM2.2.1 hM2.2.2 : Mt (dp + 10 + 3) 0 0 _ _ _ _)) dX7_betters_98 k_X7_94 rfl rfl rfl (Nat.le_of_ble_eq_true rfl) rfl ?_
            first | refine V.if_eqB 114 dX7_betters_101 (by decide) (fun c101 => ?_) (fun c101 => ?_) | refine V.if_eqN 114 dX7_betters_101 (by decide) (by omega) (fun c101 => ?_) (fun c101 => ?_) | refine V.if_eq 114 dX7_betters_101 (by decide) (fun c101 => ?_) (fun c101 => ?_)
            · exact bk c88 (fun q => of_dBf c101 q.1) m2 hM2
            · refine V.aldn 0 dX7_betters_104 rfl rfl ?_
              refine V.cVi ((t_costAll hM2.1 : Mt (dp + 8 + 5) 0 0 _ _ _ _)) dX7_betters_105 k_X7_160 rfl rfl rfl (Nat.le_of_ble_eq_true rfl) rfl ?_
              refine V.ildn 1 dX7_betters_108 rfl rfl ?_
              refine V.icmp_ge 114 dX7_betters_109 (by decide) (fun c109 => ?_) (fun c109 => ?_)
              · exact bk c88 (fun q => absurd c109 (Int32.not_le.mpr q.2)) m2 hM2
              · refine V.iconst (nI 1) dX7_betters_112 (by decide +kernel) ?_
                exact V.ireturn dX7_betters_113 rfl (by first | rfl | decide +kernel) (by rw [← hQ]; exact ⟨m2, true, _, _, rfl, rfl, Or.inr ⟨hnom, Or.inl ⟨a, b, hab, c88, ⟨of_dB c101, Int32.not_le.mp c109⟩, hno, rfl, rfl, rfl⟩⟩, hM2⟩)
      refine V.ildn 2 dX7_betters_71 rfl rfl ?_
      refine V.aldn 0 dX7_betters_72 rfl rfl ?_
      refine V.gf7_13 dX7_betters_73 f_X7_91 ?_
      refine V.top hM'.1.2.1 ?_
      first | refine V.icmp_geN 132 dX7_betters_76 (by decide) (by omega) (by omega) (fun c76 => ?_) (fun c76 => ?_) | refine V.icmp_ge 132 dX7_betters_76 (by decide) (fun c76 => ?_) (fun c76 => ?_)
      · refine V.iconst (nI 0) dX7_betters_132 (by decide +kernel) ?_
        exact V.ireturn dX7_betters_133 rfl (by first | rfl | decide +kernel) (by rw [← hQ]; exact ⟨m', false, R, D, rfl, rfl, Or.inr ⟨hnom, Or.inr ⟨fun a' b' h1 h2 => hno a' b' h1 h2 (by omega), rfl, rfl, rfl⟩⟩, hM'⟩)
      · refine V.ildn 2 dX7_betters_79 rfl rfl ?_
        refine V.iconst (nI 1) dX7_betters_80 (by decide +kernel) ?_
        first | refine V.iaddN dX7_betters_81 ?_ | refine V.iadd dX7_betters_81 ?_
        refine V.istn 3 dX7_betters_82 rfl (Nat.le_of_ble_eq_true rfl) ?_
        exact inner c76 _ (a + 1) m' rfl (by omega) (by omega) hM' (fun a' b' h1 h2 h3 => hno a' b' h1 h2 (by omega))
  have sloop : ∀ (j s : Nat) (m' : Nat → Nat → Int32) (o3 : Option Value), n - s = j → s ≤ n → MS F n nd R D m' → (∀ s' d', s' < n → d' < nd → s' < s → ¬ GM F n nd R D s' d') → V mX7_betters (dp + 14) 0 0 7 [some (.ref 45), some (.int (costC F nd R)), some (.int (nI s)), o3] [] (HH f ro rs rw rb m') Q := by
    intro j
    induction j using Nat.strongRecOn with
    | _ j ih =>
      intro s m' o3 hj hs hM' hno
      have inner : s < n → ∀ (i d : Nat) (m' : Nat → Nat → Int32), nd - d = i → d ≤ nd → MS F n nd R D m' → (∀ s' d', s' < n → d' < nd → (s' < s ∨ s' = s ∧ d' < d) → ¬ GM F n nd R D s' d') → V mX7_betters (dp + 14) 0 0 17 [some (.ref 45), some (.int (costC F nd R)), some (.int (nI s)), some (.int (nI d))] [] (HH f ro rs rw rb m') Q := by
        intro hsn i
        induction i using Nat.strongRecOn with
        | _ i ih2 =>
          intro d m' hi hd hM' hno
          have nxt : d < nd → ¬ GM F n nd R D s d → ∀ m2, MS F n nd R D m2 → V mX7_betters (dp + 14) 0 0 57 [some (.ref 45), some (.int (costC F nd R)), some (.int (nI s)), some (.int (nI d))] [] (HH f ro rs rw rb m2) Q := by
            intro hdn hng m2 hM2
            first | refine V.iincN dX7_betters_57 rfl ?_ | refine V.iinc dX7_betters_57 rfl rfl ?_
            refine V.goto 17 dX7_betters_60 (by decide) ?_
            exact ih2 _ (by omega) (d + 1) m2 rfl (by omega) hM2 (fun a' b' h1 h2 h3 => by by_cases q : a' = s ∧ b' = d; rw [q.1, q.2]; exact hng; exact hno a' b' h1 h2 (by omega))
          have h8s := hM'.2.2.2 s hsn
          cases hds : D s with
          | none =>
            rw [hds] at h8s
            refine V.ildn 3 dX7_betters_17 rfl rfl ?_
            refine V.aldn 0 dX7_betters_18 rfl rfl ?_
            refine V.gf7_13 dX7_betters_19 f_X7_91 ?_
            refine V.top hM'.1.2.1 ?_
            first | refine V.icmp_geN 63 dX7_betters_22 (by decide) (by omega) (by omega) (fun c22 => ?_) (fun c22 => ?_) | refine V.icmp_ge 63 dX7_betters_22 (by decide) (fun c22 => ?_) (fun c22 => ?_)
            · refine V.iincN dX7_betters_63 rfl ?_
              refine V.goto 7 dX7_betters_66 (by decide) ?_
              exact ih _ (by omega) (s + 1) m' _ rfl (by omega) hM' (fun a' b' h1 h2 h3 => hno a' b' h1 h2 (by omega))
            · refine V.aldn 0 dX7_betters_25 rfl rfl ?_
              refine V.gf7_8 dX7_betters_26 f_X7_29 ?_
              refine V.ildn 2 dX7_betters_29 rfl rfl ?_
              refine V.ald_52 dX7_betters_30 (ix_nI (by omega) (by decide)) ?_
              refine V.top (y := -1) h8s ?_
              refine V.iconst (-1) dX7_betters_31 (by decide +kernel) ?_
              refine V.icmp_eq 57 dX7_betters_32 (by decide) (fun c32 => ?_) (fun c32 => ?_)
              · exact nxt c22 (fun ⟨e, he, _⟩ => by rw [hds] at he; cases he) m' hM'
              · exact absurd rfl c32
          | some e =>
            rw [hds] at h8s
            have hed := (hM'.2.1.2.1 s e hsn hds).1
            refine V.ildn 3 dX7_betters_17 rfl rfl ?_
            refine V.aldn 0 dX7_betters_18 rfl rfl ?_
            refine V.gf7_13 dX7_betters_19 f_X7_91 ?_
            refine V.top hM'.1.2.1 ?_
            first | refine V.icmp_geN 63 dX7_betters_22 (by decide) (by omega) (by omega) (fun c22 => ?_) (fun c22 => ?_) | refine V.icmp_ge 63 dX7_betters_22 (by decide) (fun c22 => ?_) (fun c22 => ?_)
            · refine V.iincN dX7_betters_63 rfl ?_
              refine V.goto 7 dX7_betters_66 (by decide) ?_
              exact ih _ (by omega) (s + 1) m' _ rfl (by omega) hM' (fun a' b' h1 h2 h3 => hno a' b' h1 h2 (by omega))
            · refine V.aldn 0 dX7_betters_25 rfl rfl ?_
              refine V.gf7_8 dX7_betters_26 f_X7_29 ?_
              refine V.ildn 2 dX7_betters_29 rfl rfl ?_
              refine V.ald_52 dX7_betters_30 (ix_nI (by omega) (by decide)) ?_
              refine V.top (y := nI e) h8s ?_
              refine V.iconst (-1) dX7_betters_31 (by decide +kernel) ?_
              refine V.icmp_eq 57 dX7_betters_32 (by decide) (fun c32 => ?_) (fun c32 => ?_)
              · exact absurd c32 (nI_m1 (by omega))
              · refine V.ildn 3 dX7_betters_35 rfl rfl ?_
                refine V.aldn 0 dX7_betters_36 rfl rfl ?_
                refine V.gf7_8 dX7_betters_37 f_X7_29 ?_
                refine V.ildn 2 dX7_betters_40 rfl rfl ?_
                refine V.ald_52 dX7_betters_41 (ix_nI (by omega) (by decide)) ?_
                refine V.top (y := nI e) h8s ?_
                first | refine V.icmp_eqN 57 dX7_betters_42 (by decide) (by omega) (by omega) (fun c42 => ?_) (fun c42 => ?_) | refine V.icmp_eq 57 dX7_betters_42 (by decide) (fun c42 => ?_) (fun c42 => ?_)
                · exact nxt c22 (fun ⟨e', he', hne, _⟩ => by rw [hds] at he'; cases he'; exact hne c42) m' hM'
                · refine V.aldn 0 dX7_betters_45 rfl rfl ?_
                  refine V.ildn 2 dX7_betters_46 rfl rfl ?_
                  refine V.ildn 3 dX7_betters_47 rfl rfl ?_
                  refine V.ildn 1 dX7_betters_48 rfl rfl ?_
                  refine V.cVe (t_movesWell (dp := dp) hB hM' hsn hds c22) dX7_betters_49 k_X7_192 rfl rfl rfl (Nat.le_of_ble_eq_true rfl) rfl ?_
                  rintro _ _ ⟨m2, rfl, rfl, hor⟩
                  refine V.eqs (st' := [.int (bI (dB (GMe F n nd R D s e d)))]) rfl ?_
                  first | refine V.if_eqB 57 dX7_betters_52 (by decide) (fun c52 => ?_) (fun c52 => ?_) | refine V.if_eqN 57 dX7_betters_52 (by decide) (by omega) (fun c52 => ?_) (fun c52 => ?_) | refine V.if_eq 57 dX7_betters_52 (by decide) (fun c52 => ?_) (fun c52 => ?_)
                  · rcases hor with ⟨q, -⟩ | ⟨q, hM2⟩
                    · exact absurd q (of_dBf c52)
                    · exact nxt c22 (fun ⟨e', he', _, hg⟩ => by rw [hds] at he'; cases he'; exact q hg) m2 hM2
                  · refine V.iconst (nI 1) dX7_betters_55 (by decide +kernel) ?_
                    exact V.ireturn dX7_betters_56 rfl (by first | rfl | decide +kernel) (by rw [← hQ]; rcases hor with ⟨q, hM2⟩ | ⟨q, -⟩; exact ⟨m2, true, _, _, rfl, rfl, Or.inl ⟨s, d, e, hsn, c22, hds, c42, q, hno, rfl, rfl, rfl⟩, hM2⟩; exact absurd (of_dB c52) q)
      refine V.ildn 2 dX7_betters_7 rfl rfl ?_
      refine V.aldn 0 dX7_betters_8 rfl rfl ?_
      refine V.gf7_1 dX7_betters_9 f_X7_84 ?_
      refine V.top hM'.2.2.1 ?_
      first | refine V.icmp_geN 69 dX7_betters_12 (by decide) (by omega) (by omega) (fun c12 => ?_) (fun c12 => ?_) | refine V.icmp_ge 69 dX7_betters_12 (by decide) (fun c12 => ?_) (fun c12 => ?_)
      · refine V.iconst (nI 0) dX7_betters_69 (by decide +kernel) ?_
        refine V.istn 2 dX7_betters_70 rfl (Nat.le_of_ble_eq_true rfl) ?_
        exact tloop (fun s' d' h1 h2 => hno s' d' h1 h2 (by omega)) _ 0 m' _ rfl (Nat.zero_le _) hM' (fun a' b' _ _ h => absurd h (Nat.not_lt_zero a'))
      · refine V.iconst (nI 0) dX7_betters_15 (by decide +kernel) ?_
        refine V.istn 3 dX7_betters_16 rfl (Nat.le_of_ble_eq_true rfl) ?_
        exact inner c12 _ 0 m' rfl (Nat.zero_le _) hM' (fun a' b' h1 h2 h3 => hno a' b' h1 h2 (by omega))
  refine V.aldn 0 dX7_betters_0 rfl rfl ?_
  refine V.cVi ((t_costAll hM.1 : Mt (dp + 8 + 5) 0 0 _ _ _ _)) dX7_betters_1 k_X7_160 rfl rfl rfl (Nat.le_of_ble_eq_true rfl) rfl ?_
  refine V.istn 1 dX7_betters_4 rfl (Nat.le_of_ble_eq_true rfl) ?_
  refine V.iconst (nI 0) dX7_betters_5 (by decide +kernel) ?_
  refine V.istn 2 dX7_betters_6 rfl (Nat.le_of_ble_eq_true rfl) ?_
  exact sloop _ 0 m _ rfl (Nat.zero_le _) hM (fun a' b' _ _ h => absurd h (Nat.not_lt_zero a'))
theorem t_better (hB : FB F) (hM : MS F n nd R D m) : Mt (dp + 15) 0 0 mX7_better [.ref 45] (HH f ro rs rw rb m) (fun r h' => ∃ m' c R' D', r = some (.int (nI c)) ∧ h' = HH f ro rs rw rb m' ∧ BIt F n nd 20 R D c R' D' ∧ MS F n nd R' D' m') := by
  refine Mt.of rfl rfl (Nat.le_of_ble_eq_true rfl) rfl ?_
  generalize hQ : (fun (r : Option Value) (h' : List AC) => ∃ m' c R' D', r = some (.int (nI c)) ∧ h' = HH f ro rs rw rb m' ∧ BIt F n nd 20 R D c R' D' ∧ MS F n nd R' D' m') = Q
  have loop : ∀ (j k : Nat) (R1 : Nat → List Nat) (D1 : Nat → Option Nat) (m' : Nat → Nat → Int32), k + j = 20 → MS F n nd R1 D1 m' → (∀ c R' D', BIt F n nd j R1 D1 c R' D' → BIt F n nd 20 R D (k + c) R' D') → V mX7_better (dp + 15) 0 0 2 [some (.ref 45), some (.int (nI k))] [] (HH f ro rs rw rb m') Q := by
    intro j
    induction j with
    | zero =>
      intro k R1 D1 m' hj hM' hc
      refine V.ildn 1 dX7_better_2 rfl rfl ?_
      refine V.bipush (nI 20) dX7_better_3 (by decide +kernel) ?_
      first | refine V.icmp_geN 21 dX7_better_5 (by decide) (by omega) (by omega) (fun c5 => ?_) (fun c5 => ?_) | refine V.icmp_ge 21 dX7_better_5 (by decide) (fun c5 => ?_) (fun c5 => ?_)
      · refine V.ildn 1 dX7_better_21 rfl rfl ?_
        exact V.ireturn dX7_better_22 rfl (by first | rfl | decide +kernel) (by rw [← hQ]; exact ⟨m', k, R1, D1, rfl, rfl, hc 0 R1 D1 ⟨rfl, rfl, rfl⟩, hM'⟩)
      · exact absurd c5 (by omega)
    | succ j ih =>
      intro k R1 D1 m' hj hM' hc
      refine V.ildn 1 dX7_better_2 rfl rfl ?_
      refine V.bipush (nI 20) dX7_better_3 (by decide +kernel) ?_
      first | refine V.icmp_geN 21 dX7_better_5 (by decide) (by omega) (by omega) (fun c5 => ?_) (fun c5 => ?_) | refine V.icmp_ge 21 dX7_better_5 (by decide) (fun c5 => ?_) (fun c5 => ?_)
      · exact absurd c5 (by omega)
      · refine V.aldn 0 dX7_better_8 rfl rfl ?_
        refine V.cVe (t_betters (dp := dp) hB hM') dX7_better_9 k_X7_195 rfl rfl rfl (Nat.le_of_ble_eq_true rfl) rfl ?_
        rintro _ _ ⟨m2, res, R2, D2, rfl, rfl, hbs, hM2⟩
        refine V.eqs (st' := [.int (bI res)]) rfl ?_
        first | refine V.if_eqB 21 dX7_better_12 (by decide) (fun c12 => ?_) (fun c12 => ?_) | refine V.if_eqN 21 dX7_better_12 (by decide) (by omega) (fun c12 => ?_) (fun c12 => ?_) | refine V.if_eq 21 dX7_better_12 (by decide) (fun c12 => ?_) (fun c12 => ?_)
        · refine V.ildn 1 dX7_better_21 rfl rfl ?_
          exact V.ireturn dX7_better_22 rfl (by first | rfl | decide +kernel) (by rw [← hQ]; exact ⟨m2, k, R2, D2, rfl, rfl, hc 0 R2 D2 ⟨res, R2, D2, hbs, Or.inr ⟨c12, rfl, rfl, rfl⟩⟩, hM2⟩)
        · first | refine V.iincN dX7_better_15 rfl ?_ | refine V.iinc dX7_better_15 rfl rfl ?_
          refine V.goto 2 dX7_better_18 (by decide) ?_
          exact ih (k + 1) R2 D2 m2 (by omega) hM2 (fun c R' D' h => by have := hc (c + 1) R' D' ⟨res, R2, D2, hbs, Or.inl ⟨c12, c, rfl, h⟩⟩; rw [show k + 1 + c = k + (c + 1) by omega]; exact this)
  refine V.iconst (nI 0) dX7_better_0 (by decide +kernel) ?_
  refine V.istn 1 dX7_better_1 rfl (Nat.le_of_ble_eq_true rfl) ?_
  exact loop 20 0 R D m rfl hM (fun c R' D' h => by rw [Nat.zero_add]; exact h)
end MODEL
end
