-- ===== PART A: goes FIRST, ahead of the names: the tables' words, and 'selects' of the private methods out of them =====
/-- a private method of a class that the tables say can be made, by its rows of tables_1 -/
def lw_okq (q : MethodName × Nat) : Prop := (q.1.cls ≠ "java/lang/invoke/MethodHandle" ∧ q.1.cls ≠ "java/lang/invoke/VarHandle") ∧ Cond.instantiable q.1.cls q.2 ∈ tables_1 ∧ Cond.privateMethod q.1 ∈ tables_1 ∧ Cond.instanceMethod q.1 ∈ tables_1
theorem lw_p0 : lw_okq (⟨"ShootingDays$Row", "forget", "()V"⟩, 10) := ⟨⟨by decide +kernel, by decide +kernel⟩, List.mem_of_getElem? (i := 95) (by decide +kernel), List.mem_of_getElem? (i := 292) (by decide +kernel), List.mem_of_getElem? (i := 293) (by decide +kernel)⟩
theorem lw_p1 : lw_okq (⟨"ShootingDays$Row", "measureScene", "(LShootingDays$Film;I)V"⟩, 10) := ⟨⟨by decide +kernel, by decide +kernel⟩, List.mem_of_getElem? (i := 95) (by decide +kernel), List.mem_of_getElem? (i := 296) (by decide +kernel), List.mem_of_getElem? (i := 297) (by decide +kernel)⟩
theorem lw_p2 : lw_okq (⟨"ShootingDays$Row", "isInTurn", "(LShootingDays$Film;)Z"⟩, 10) := ⟨⟨by decide +kernel, by decide +kernel⟩, List.mem_of_getElem? (i := 95) (by decide +kernel), List.mem_of_getElem? (i := 304) (by decide +kernel), List.mem_of_getElem? (i := 305) (by decide +kernel)⟩
theorem lw_p3 : lw_okq (⟨"ShootingDays$Film", "needsOfAll", "(I)I"⟩, 11) := ⟨⟨by decide +kernel, by decide +kernel⟩, List.mem_of_getElem? (i := 21) (by decide +kernel), List.mem_of_getElem? (i := 332) (by decide +kernel), List.mem_of_getElem? (i := 333) (by decide +kernel)⟩
theorem lw_p4 : lw_okq (⟨"ShootingDays$Bill", "isLetGo", "(II)Z"⟩, 2) := ⟨⟨by decide +kernel, by decide +kernel⟩, List.mem_of_getElem? (i := 172) (by decide +kernel), List.mem_of_getElem? (i := 410) (by decide +kernel), List.mem_of_getElem? (i := 411) (by decide +kernel)⟩
theorem lw_p5 : lw_okq (⟨"ShootingDays$Bill", "rentOf", "(I)I"⟩, 2) := ⟨⟨by decide +kernel, by decide +kernel⟩, List.mem_of_getElem? (i := 172) (by decide +kernel), List.mem_of_getElem? (i := 431) (by decide +kernel), List.mem_of_getElem? (i := 432) (by decide +kernel)⟩
theorem lw_p6 : lw_okq (⟨"ShootingDays$Bill", "minutesInRows", "(I)I"⟩, 2) := ⟨⟨by decide +kernel, by decide +kernel⟩, List.mem_of_getElem? (i := 172) (by decide +kernel), List.mem_of_getElem? (i := 459) (by decide +kernel), List.mem_of_getElem? (i := 460) (by decide +kernel)⟩
theorem lw_p7 : lw_okq (⟨"ShootingDays$Bill", "placesInRows", "()I"⟩, 2) := ⟨⟨by decide +kernel, by decide +kernel⟩, List.mem_of_getElem? (i := 172) (by decide +kernel), List.mem_of_getElem? (i := 467) (by decide +kernel), List.mem_of_getElem? (i := 468) (by decide +kernel)⟩
theorem lw_p8 : lw_okq (⟨"ShootingDays", "refusalToJoin", "(II)I"⟩, 4) := ⟨⟨by decide +kernel, by decide +kernel⟩, List.mem_of_getElem? (i := 13) (by decide +kernel), List.mem_of_getElem? (i := 475) (by decide +kernel), List.mem_of_getElem? (i := 476) (by decide +kernel)⟩
theorem lw_p9 : lw_okq (⟨"ShootingDays$Arranger", "fillPool", "(I)V"⟩, 7) := ⟨⟨by decide +kernel, by decide +kernel⟩, List.mem_of_getElem? (i := 192) (by decide +kernel), List.mem_of_getElem? (i := 495) (by decide +kernel), List.mem_of_getElem? (i := 496) (by decide +kernel)⟩
theorem lw_p10 : lw_okq (⟨"ShootingDays$Arranger", "tryEach", "(III)V"⟩, 7) := ⟨⟨by decide +kernel, by decide +kernel⟩, List.mem_of_getElem? (i := 192) (by decide +kernel), List.mem_of_getElem? (i := 501) (by decide +kernel), List.mem_of_getElem? (i := 502) (by decide +kernel)⟩
theorem lw_p11 : lw_okq (⟨"ShootingDays$Arranger", "tryNext", "(IIII)V"⟩, 7) := ⟨⟨by decide +kernel, by decide +kernel⟩, List.mem_of_getElem? (i := 192) (by decide +kernel), List.mem_of_getElem? (i := 508) (by decide +kernel), List.mem_of_getElem? (i := 509) (by decide +kernel)⟩
theorem lw_p12 : lw_okq (⟨"ShootingDays$Planner", "moveIfGood", "(IIII)Z"⟩, 7) := ⟨⟨by decide +kernel, by decide +kernel⟩, List.mem_of_getElem? (i := 185) (by decide +kernel), List.mem_of_getElem? (i := 566) (by decide +kernel), List.mem_of_getElem? (i := 567) (by decide +kernel)⟩
theorem lw_p13 : lw_okq (⟨"ShootingDays$Planner", "toNextTurns", "(I)Z"⟩, 7) := ⟨⟨by decide +kernel, by decide +kernel⟩, List.mem_of_getElem? (i := 185) (by decide +kernel), List.mem_of_getElem? (i := 583) (by decide +kernel), List.mem_of_getElem? (i := 584) (by decide +kernel)⟩
theorem lw_p14 : lw_okq (⟨"ShootingDays$Planner", "swapTurns", "(II)V"⟩, 7) := ⟨⟨by decide +kernel, by decide +kernel⟩, List.mem_of_getElem? (i := 185) (by decide +kernel), List.mem_of_getElem? (i := 587) (by decide +kernel), List.mem_of_getElem? (i := 588) (by decide +kernel)⟩
theorem lw_p15 : lw_okq (⟨"ShootingDays$Planner", "giveRows", "([I)V"⟩, 7) := ⟨⟨by decide +kernel, by decide +kernel⟩, List.mem_of_getElem? (i := 185) (by decide +kernel), List.mem_of_getElem? (i := 591) (by decide +kernel), List.mem_of_getElem? (i := 592) (by decide +kernel)⟩
def lw_privs_1 : List (MethodName × Nat) := [(⟨"ShootingDays$Row", "forget", "()V"⟩, 10), (⟨"ShootingDays$Row", "measureScene", "(LShootingDays$Film;I)V"⟩, 10), (⟨"ShootingDays$Row", "isInTurn", "(LShootingDays$Film;)Z"⟩, 10), (⟨"ShootingDays$Film", "needsOfAll", "(I)I"⟩, 11), (⟨"ShootingDays$Bill", "isLetGo", "(II)Z"⟩, 2), (⟨"ShootingDays$Bill", "rentOf", "(I)I"⟩, 2), (⟨"ShootingDays$Bill", "minutesInRows", "(I)I"⟩, 2), (⟨"ShootingDays$Bill", "placesInRows", "()I"⟩, 2), (⟨"ShootingDays", "refusalToJoin", "(II)I"⟩, 4), (⟨"ShootingDays$Arranger", "fillPool", "(I)V"⟩, 7), (⟨"ShootingDays$Arranger", "tryEach", "(III)V"⟩, 7), (⟨"ShootingDays$Arranger", "tryNext", "(IIII)V"⟩, 7), (⟨"ShootingDays$Planner", "moveIfGood", "(IIII)Z"⟩, 7), (⟨"ShootingDays$Planner", "toNextTurns", "(I)Z"⟩, 7), (⟨"ShootingDays$Planner", "swapTurns", "(II)V"⟩, 7), (⟨"ShootingDays$Planner", "giveRows", "([I)V"⟩, 7)]
theorem lw_r1 : ∀ q ∈ lw_privs_1, lw_okq q := List.forall_mem_cons.mpr ⟨lw_p0, List.forall_mem_cons.mpr ⟨lw_p1, List.forall_mem_cons.mpr ⟨lw_p2, List.forall_mem_cons.mpr ⟨lw_p3, List.forall_mem_cons.mpr ⟨lw_p4, List.forall_mem_cons.mpr ⟨lw_p5, List.forall_mem_cons.mpr ⟨lw_p6, List.forall_mem_cons.mpr ⟨lw_p7, List.forall_mem_cons.mpr ⟨lw_p8, List.forall_mem_cons.mpr ⟨lw_p9, List.forall_mem_cons.mpr ⟨lw_p10, List.forall_mem_cons.mpr ⟨lw_p11, List.forall_mem_cons.mpr ⟨lw_p12, List.forall_mem_cons.mpr ⟨lw_p13, List.forall_mem_cons.mpr ⟨lw_p14, List.forall_mem_cons.mpr ⟨lw_p15, fun _ h => absurd h List.not_mem_nil⟩⟩⟩⟩⟩⟩⟩⟩⟩⟩⟩⟩⟩⟩⟩⟩
theorem lw_p16 : lw_okq (⟨"ShootingDaysModel", "keeps", "()Z"⟩, 28) := ⟨⟨by decide +kernel, by decide +kernel⟩, List.mem_of_getElem? (i := 629) (by decide +kernel), List.mem_of_getElem? (i := 739) (by decide +kernel), List.mem_of_getElem? (i := 740) (by decide +kernel)⟩
theorem lw_p17 : lw_okq (⟨"ShootingDaysModel", "minutesOf", "(I)I"⟩, 28) := ⟨⟨by decide +kernel, by decide +kernel⟩, List.mem_of_getElem? (i := 629) (by decide +kernel), List.mem_of_getElem? (i := 743) (by decide +kernel), List.mem_of_getElem? (i := 744) (by decide +kernel)⟩
theorem lw_p18 : lw_okq (⟨"ShootingDaysModel", "lightOf", "(I)I"⟩, 28) := ⟨⟨by decide +kernel, by decide +kernel⟩, List.mem_of_getElem? (i := 629) (by decide +kernel), List.mem_of_getElem? (i := 750) (by decide +kernel), List.mem_of_getElem? (i := 751) (by decide +kernel)⟩
theorem lw_p19 : lw_okq (⟨"ShootingDaysModel", "has", "(II)Z"⟩, 28) := ⟨⟨by decide +kernel, by decide +kernel⟩, List.mem_of_getElem? (i := 629) (by decide +kernel), List.mem_of_getElem? (i := 754) (by decide +kernel), List.mem_of_getElem? (i := 755) (by decide +kernel)⟩
theorem lw_p20 : lw_okq (⟨"ShootingDaysModel", "isOrdered", "(I)Z"⟩, 28) := ⟨⟨by decide +kernel, by decide +kernel⟩, List.mem_of_getElem? (i := 629) (by decide +kernel), List.mem_of_getElem? (i := 758) (by decide +kernel), List.mem_of_getElem? (i := 759) (by decide +kernel)⟩
theorem lw_p21 : lw_okq (⟨"ShootingDaysModel", "placeIn", "(I)I"⟩, 28) := ⟨⟨by decide +kernel, by decide +kernel⟩, List.mem_of_getElem? (i := 629) (by decide +kernel), List.mem_of_getElem? (i := 762) (by decide +kernel), List.mem_of_getElem? (i := 763) (by decide +kernel)⟩
theorem lw_p22 : lw_okq (⟨"ShootingDaysModel", "isScene", "(I)Z"⟩, 28) := ⟨⟨by decide +kernel, by decide +kernel⟩, List.mem_of_getElem? (i := 629) (by decide +kernel), List.mem_of_getElem? (i := 770) (by decide +kernel), List.mem_of_getElem? (i := 771) (by decide +kernel)⟩
theorem lw_p23 : lw_okq (⟨"ShootingDaysModel", "mustBe", "(II)Z"⟩, 28) := ⟨⟨by decide +kernel, by decide +kernel⟩, List.mem_of_getElem? (i := 629) (by decide +kernel), List.mem_of_getElem? (i := 774) (by decide +kernel), List.mem_of_getElem? (i := 775) (by decide +kernel)⟩
theorem lw_p24 : lw_okq (⟨"ShootingDaysModel", "isDay", "(I)Z"⟩, 28) := ⟨⟨by decide +kernel, by decide +kernel⟩, List.mem_of_getElem? (i := 629) (by decide +kernel), List.mem_of_getElem? (i := 786) (by decide +kernel), List.mem_of_getElem? (i := 787) (by decide +kernel)⟩
theorem lw_p25 : lw_okq (⟨"ShootingDaysModel", "keepAll", "()V"⟩, 28) := ⟨⟨by decide +kernel, by decide +kernel⟩, List.mem_of_getElem? (i := 629) (by decide +kernel), List.mem_of_getElem? (i := 794) (by decide +kernel), List.mem_of_getElem? (i := 795) (by decide +kernel)⟩
theorem lw_p26 : lw_okq (⟨"ShootingDaysModel", "puts", "(II)Z"⟩, 28) := ⟨⟨by decide +kernel, by decide +kernel⟩, List.mem_of_getElem? (i := 629) (by decide +kernel), List.mem_of_getElem? (i := 798) (by decide +kernel), List.mem_of_getElem? (i := 799) (by decide +kernel)⟩
theorem lw_p27 : lw_okq (⟨"ShootingDaysModel", "arranges", "(I)Z"⟩, 28) := ⟨⟨by decide +kernel, by decide +kernel⟩, List.mem_of_getElem? (i := 629) (by decide +kernel), List.mem_of_getElem? (i := 802) (by decide +kernel), List.mem_of_getElem? (i := 803) (by decide +kernel)⟩
theorem lw_p28 : lw_okq (⟨"ShootingDaysModel", "tries", "(III)V"⟩, 28) := ⟨⟨by decide +kernel, by decide +kernel⟩, List.mem_of_getElem? (i := 629) (by decide +kernel), List.mem_of_getElem? (i := 807) (by decide +kernel), List.mem_of_getElem? (i := 808) (by decide +kernel)⟩
theorem lw_p29 : lw_okq (⟨"ShootingDaysModel", "backAll", "()V"⟩, 28) := ⟨⟨by decide +kernel, by decide +kernel⟩, List.mem_of_getElem? (i := 629) (by decide +kernel), List.mem_of_getElem? (i := 811) (by decide +kernel), List.mem_of_getElem? (i := 812) (by decide +kernel)⟩
theorem lw_p30 : lw_okq (⟨"ShootingDaysModel", "takes", "(I)V"⟩, 28) := ⟨⟨by decide +kernel, by decide +kernel⟩, List.mem_of_getElem? (i := 629) (by decide +kernel), List.mem_of_getElem? (i := 824) (by decide +kernel), List.mem_of_getElem? (i := 825) (by decide +kernel)⟩
theorem lw_p31 : lw_okq (⟨"ShootingDaysModel", "trades", "(II)V"⟩, 28) := ⟨⟨by decide +kernel, by decide +kernel⟩, List.mem_of_getElem? (i := 629) (by decide +kernel), List.mem_of_getElem? (i := 836) (by decide +kernel), List.mem_of_getElem? (i := 837) (by decide +kernel)⟩
def lw_privs_2 : List (MethodName × Nat) := [(⟨"ShootingDaysModel", "keeps", "()Z"⟩, 28), (⟨"ShootingDaysModel", "minutesOf", "(I)I"⟩, 28), (⟨"ShootingDaysModel", "lightOf", "(I)I"⟩, 28), (⟨"ShootingDaysModel", "has", "(II)Z"⟩, 28), (⟨"ShootingDaysModel", "isOrdered", "(I)Z"⟩, 28), (⟨"ShootingDaysModel", "placeIn", "(I)I"⟩, 28), (⟨"ShootingDaysModel", "isScene", "(I)Z"⟩, 28), (⟨"ShootingDaysModel", "mustBe", "(II)Z"⟩, 28), (⟨"ShootingDaysModel", "isDay", "(I)Z"⟩, 28), (⟨"ShootingDaysModel", "keepAll", "()V"⟩, 28), (⟨"ShootingDaysModel", "puts", "(II)Z"⟩, 28), (⟨"ShootingDaysModel", "arranges", "(I)Z"⟩, 28), (⟨"ShootingDaysModel", "tries", "(III)V"⟩, 28), (⟨"ShootingDaysModel", "backAll", "()V"⟩, 28), (⟨"ShootingDaysModel", "takes", "(I)V"⟩, 28), (⟨"ShootingDaysModel", "trades", "(II)V"⟩, 28)]
theorem lw_r2 : ∀ q ∈ lw_privs_2, lw_okq q := List.forall_mem_cons.mpr ⟨lw_p16, List.forall_mem_cons.mpr ⟨lw_p17, List.forall_mem_cons.mpr ⟨lw_p18, List.forall_mem_cons.mpr ⟨lw_p19, List.forall_mem_cons.mpr ⟨lw_p20, List.forall_mem_cons.mpr ⟨lw_p21, List.forall_mem_cons.mpr ⟨lw_p22, List.forall_mem_cons.mpr ⟨lw_p23, List.forall_mem_cons.mpr ⟨lw_p24, List.forall_mem_cons.mpr ⟨lw_p25, List.forall_mem_cons.mpr ⟨lw_p26, List.forall_mem_cons.mpr ⟨lw_p27, List.forall_mem_cons.mpr ⟨lw_p28, List.forall_mem_cons.mpr ⟨lw_p29, List.forall_mem_cons.mpr ⟨lw_p30, List.forall_mem_cons.mpr ⟨lw_p31, fun _ h => absurd h List.not_mem_nil⟩⟩⟩⟩⟩⟩⟩⟩⟩⟩⟩⟩⟩⟩⟩⟩
theorem lw_p32 : lw_okq (⟨"ShootingDaysModel", "costAll", "()I"⟩, 28) := ⟨⟨by decide +kernel, by decide +kernel⟩, List.mem_of_getElem? (i := 629) (by decide +kernel), List.mem_of_getElem? (i := 840) (by decide +kernel), List.mem_of_getElem? (i := 841) (by decide +kernel)⟩
theorem lw_p33 : lw_okq (⟨"ShootingDaysModel", "payAll", "()I"⟩, 28) := ⟨⟨by decide +kernel, by decide +kernel⟩, List.mem_of_getElem? (i := 629) (by decide +kernel), List.mem_of_getElem? (i := 844) (by decide +kernel), List.mem_of_getElem? (i := 845) (by decide +kernel)⟩
theorem lw_p34 : lw_okq (⟨"ShootingDaysModel", "paid", "(I)I"⟩, 28) := ⟨⟨by decide +kernel, by decide +kernel⟩, List.mem_of_getElem? (i := 629) (by decide +kernel), List.mem_of_getElem? (i := 848) (by decide +kernel), List.mem_of_getElem? (i := 849) (by decide +kernel)⟩
theorem lw_p35 : lw_okq (⟨"ShootingDaysModel", "edge", "(IZ)I"⟩, 28) := ⟨⟨by decide +kernel, by decide +kernel⟩, List.mem_of_getElem? (i := 629) (by decide +kernel), List.mem_of_getElem? (i := 852) (by decide +kernel), List.mem_of_getElem? (i := 853) (by decide +kernel)⟩
theorem lw_p36 : lw_okq (⟨"ShootingDaysModel", "plays", "(II)Z"⟩, 28) := ⟨⟨by decide +kernel, by decide +kernel⟩, List.mem_of_getElem? (i := 629) (by decide +kernel), List.mem_of_getElem? (i := 856) (by decide +kernel), List.mem_of_getElem? (i := 857) (by decide +kernel)⟩
theorem lw_p37 : lw_okq (⟨"ShootingDaysModel", "rentAll", "()I"⟩, 28) := ⟨⟨by decide +kernel, by decide +kernel⟩, List.mem_of_getElem? (i := 629) (by decide +kernel), List.mem_of_getElem? (i := 860) (by decide +kernel), List.mem_of_getElem? (i := 861) (by decide +kernel)⟩
theorem lw_p38 : lw_okq (⟨"ShootingDaysModel", "uses", "(II)Z"⟩, 28) := ⟨⟨by decide +kernel, by decide +kernel⟩, List.mem_of_getElem? (i := 629) (by decide +kernel), List.mem_of_getElem? (i := 864) (by decide +kernel), List.mem_of_getElem? (i := 865) (by decide +kernel)⟩
theorem lw_p39 : lw_okq (⟨"ShootingDaysModel", "overAll", "()I"⟩, 28) := ⟨⟨by decide +kernel, by decide +kernel⟩, List.mem_of_getElem? (i := 629) (by decide +kernel), List.mem_of_getElem? (i := 868) (by decide +kernel), List.mem_of_getElem? (i := 869) (by decide +kernel)⟩
theorem lw_p40 : lw_okq (⟨"ShootingDaysModel", "over", "(I)I"⟩, 28) := ⟨⟨by decide +kernel, by decide +kernel⟩, List.mem_of_getElem? (i := 629) (by decide +kernel), List.mem_of_getElem? (i := 872) (by decide +kernel), List.mem_of_getElem? (i := 873) (by decide +kernel)⟩
theorem lw_p41 : lw_okq (⟨"ShootingDaysModel", "daysOf", "(I)I"⟩, 28) := ⟨⟨by decide +kernel, by decide +kernel⟩, List.mem_of_getElem? (i := 629) (by decide +kernel), List.mem_of_getElem? (i := 888) (by decide +kernel), List.mem_of_getElem? (i := 889) (by decide +kernel)⟩
theorem lw_p42 : lw_okq (⟨"ShootingDaysModel", "betters", "()Z"⟩, 28) := ⟨⟨by decide +kernel, by decide +kernel⟩, List.mem_of_getElem? (i := 629) (by decide +kernel), List.mem_of_getElem? (i := 896) (by decide +kernel), List.mem_of_getElem? (i := 897) (by decide +kernel)⟩
theorem lw_p43 : lw_okq (⟨"ShootingDaysModel", "movesWell", "(III)Z"⟩, 28) := ⟨⟨by decide +kernel, by decide +kernel⟩, List.mem_of_getElem? (i := 629) (by decide +kernel), List.mem_of_getElem? (i := 900) (by decide +kernel), List.mem_of_getElem? (i := 901) (by decide +kernel)⟩
theorem lw_p44 : lw_okq (⟨"ShootingDaysModel", "gives", "(II)V"⟩, 28) := ⟨⟨by decide +kernel, by decide +kernel⟩, List.mem_of_getElem? (i := 629) (by decide +kernel), List.mem_of_getElem? (i := 908) (by decide +kernel), List.mem_of_getElem? (i := 909) (by decide +kernel)⟩
theorem lw_p45 : lw_okq (⟨"ShootingDaysModel", "lays", "()V"⟩, 28) := ⟨⟨by decide +kernel, by decide +kernel⟩, List.mem_of_getElem? (i := 629) (by decide +kernel), List.mem_of_getElem? (i := 912) (by decide +kernel), List.mem_of_getElem? (i := 913) (by decide +kernel)⟩
def lw_privs_3 : List (MethodName × Nat) := [(⟨"ShootingDaysModel", "costAll", "()I"⟩, 28), (⟨"ShootingDaysModel", "payAll", "()I"⟩, 28), (⟨"ShootingDaysModel", "paid", "(I)I"⟩, 28), (⟨"ShootingDaysModel", "edge", "(IZ)I"⟩, 28), (⟨"ShootingDaysModel", "plays", "(II)Z"⟩, 28), (⟨"ShootingDaysModel", "rentAll", "()I"⟩, 28), (⟨"ShootingDaysModel", "uses", "(II)Z"⟩, 28), (⟨"ShootingDaysModel", "overAll", "()I"⟩, 28), (⟨"ShootingDaysModel", "over", "(I)I"⟩, 28), (⟨"ShootingDaysModel", "daysOf", "(I)I"⟩, 28), (⟨"ShootingDaysModel", "betters", "()Z"⟩, 28), (⟨"ShootingDaysModel", "movesWell", "(III)Z"⟩, 28), (⟨"ShootingDaysModel", "gives", "(II)V"⟩, 28), (⟨"ShootingDaysModel", "lays", "()V"⟩, 28)]
theorem lw_r3 : ∀ q ∈ lw_privs_3, lw_okq q := List.forall_mem_cons.mpr ⟨lw_p32, List.forall_mem_cons.mpr ⟨lw_p33, List.forall_mem_cons.mpr ⟨lw_p34, List.forall_mem_cons.mpr ⟨lw_p35, List.forall_mem_cons.mpr ⟨lw_p36, List.forall_mem_cons.mpr ⟨lw_p37, List.forall_mem_cons.mpr ⟨lw_p38, List.forall_mem_cons.mpr ⟨lw_p39, List.forall_mem_cons.mpr ⟨lw_p40, List.forall_mem_cons.mpr ⟨lw_p41, List.forall_mem_cons.mpr ⟨lw_p42, List.forall_mem_cons.mpr ⟨lw_p43, List.forall_mem_cons.mpr ⟨lw_p44, List.forall_mem_cons.mpr ⟨lw_p45, fun _ h => absurd h List.not_mem_nil⟩⟩⟩⟩⟩⟩⟩⟩⟩⟩⟩⟩⟩⟩
def lw_privs : List (MethodName × Nat) := lw_privs_1 ++ (lw_privs_2 ++ (lw_privs_3))
def lw_tbl : List Cond := k2_sels lw_privs ++ tables_1
theorem lw_privs_ok : ∀ q ∈ lw_privs, lw_okq q := by
  show ∀ q ∈ lw_privs_1 ++ (lw_privs_2 ++ (lw_privs_3)), lw_okq q
  exact List.forall_mem_append.mpr ⟨lw_r1, List.forall_mem_append.mpr ⟨lw_r2, lw_r3⟩⟩
def RX0 : String := "ShootingDays$Arranger"
def TX0 : u_T := fun k => match k with
  | 0 => ("ShootingDays$Arranger", "film", "LShootingDays$Film;", true)
  | 1 => ("ShootingDays$Arranger", "pool", "[I", true)
  | 2 => ("ShootingDays$Arranger", "tried", "[I", true)
  | 3 => ("ShootingDays$Arranger", "best", "[I", true)
  | 4 => ("ShootingDays$Arranger", "size", "I", false)
  | 5 => ("ShootingDays$Arranger", "members", "I", false)
  | _ => ("ShootingDays$Arranger", "fewest", "I", false)
def tyX0 : Nat → FieldType := fun k => match k with
  | 0 => .object "ShootingDays$Film"
  | 1 => .array .int
  | 2 => .array .int
  | 3 => .array .int
  | 4 => .int
  | 5 => .int
  | _ => .int
theorem nmX0 : ∀ a, a < 7 → ∀ b, b < 7 → a ≠ b → (TX0 a).2.1 ≠ (TX0 b).2.1 := by decide +kernel
theorem tyX0_ok : ∀ k, k < 7 → parseFieldDescriptor (TX0 k).2.2.1 = some (tyX0 k) := by decide +kernel
abbrev cX0_init : ByteArray := prog_2_method_1_code
def yX0_init : MethodName := ⟨RX0, "<init>", "(LShootingDays$Film;)V"⟩
abbrev cX0_arrange : ByteArray := prog_2_method_2_code
def yX0_arrange : MethodName := ⟨RX0, "arrange", "(ILShootingDays$Row;)V"⟩
abbrev cX0_fillPool : ByteArray := prog_2_method_3_code
def yX0_fillPool : MethodName := ⟨RX0, "fillPool", "(I)V"⟩
abbrev cX0_tryEach : ByteArray := prog_2_method_4_code
def yX0_tryEach : MethodName := ⟨RX0, "tryEach", "(III)V"⟩
abbrev cX0_tryNext : ByteArray := prog_2_method_5_code
def yX0_tryNext : MethodName := ⟨RX0, "tryNext", "(IIII)V"⟩
def RX1 : String := "ShootingDays$Bill"
def TX1 : u_T := fun k => match k with
  | 0 => ("ShootingDays$Bill", "film", "LShootingDays$Film;", true)
  | _ => ("ShootingDays$Bill", "plan", "LShootingDays$Plan;", true)
def tyX1 : Nat → FieldType := fun k => match k with
  | 0 => .object "ShootingDays$Film"
  | _ => .object "ShootingDays$Plan"
theorem nmX1 : ∀ a, a < 2 → ∀ b, b < 2 → a ≠ b → (TX1 a).2.1 ≠ (TX1 b).2.1 := by decide +kernel
theorem tyX1_ok : ∀ k, k < 2 → parseFieldDescriptor (TX1 k).2.2.1 = some (tyX1 k) := by decide +kernel
abbrev cX1_init : ByteArray := prog_3_method_1_code
def yX1_init : MethodName := ⟨RX1, "<init>", "(LShootingDays$Film;LShootingDays$Plan;)V"⟩
abbrev cX1_total : ByteArray := prog_3_method_2_code
def yX1_total : MethodName := ⟨RX1, "total", "()I"⟩
abbrev cX1_wages : ByteArray := prog_3_method_3_code
def yX1_wages : MethodName := ⟨RX1, "wages", "()I"⟩
abbrev cX1_paidDays : ByteArray := prog_3_method_4_code
def yX1_paidDays : MethodName := ⟨RX1, "paidDays", "(I)I"⟩
abbrev cX1_isLetGo : ByteArray := prog_3_method_5_code
def yX1_isLetGo : MethodName := ⟨RX1, "isLetGo", "(II)Z"⟩
abbrev cX1_rents : ByteArray := prog_3_method_6_code
def yX1_rents : MethodName := ⟨RX1, "rents", "()I"⟩
abbrev cX1_rentOf : ByteArray := prog_3_method_7_code
def yX1_rentOf : MethodName := ⟨RX1, "rentOf", "(I)I"⟩
abbrev cX1_overtime : ByteArray := prog_3_method_8_code
def yX1_overtime : MethodName := ⟨RX1, "overtime", "()I"⟩
abbrev cX1_leastPossible : ByteArray := prog_3_method_9_code
def yX1_leastPossible : MethodName := ⟨RX1, "leastPossible", "()I"⟩
abbrev cX1_minutesInRows : ByteArray := prog_3_method_10_code
def yX1_minutesInRows : MethodName := ⟨RX1, "minutesInRows", "(I)I"⟩
abbrev cX1_placesInRows : ByteArray := prog_3_method_11_code
def yX1_placesInRows : MethodName := ⟨RX1, "placesInRows", "()I"⟩
def RX2 : String := "ShootingDays$Film"
def TX2 : u_T := fun k => match k with
  | 0 => ("ShootingDays$Film", "minutes", "[I", true)
  | 1 => ("ShootingDays$Film", "place", "[I", true)
  | 2 => ("ShootingDays$Film", "light", "[I", true)
  | 3 => ("ShootingDays$Film", "out", "[I", true)
  | 4 => ("ShootingDays$Film", "players", "[I", true)
  | 5 => ("ShootingDays$Film", "needs", "[I", true)
  | 6 => ("ShootingDays$Film", "pay", "[I", true)
  | 7 => ("ShootingDays$Film", "gap", "[I", true)
  | 8 => ("ShootingDays$Film", "rent", "[I", true)
  | 9 => ("ShootingDays$Film", "spot", "[I", true)
  | _ => ("ShootingDays$Film", "scenes", "I", false)
def tyX2 : Nat → FieldType := fun k => match k with
  | 0 => .array .int
  | 1 => .array .int
  | 2 => .array .int
  | 3 => .array .int
  | 4 => .array .int
  | 5 => .array .int
  | 6 => .array .int
  | 7 => .array .int
  | 8 => .array .int
  | 9 => .array .int
  | _ => .int
theorem nmX2 : ∀ a, a < 11 → ∀ b, b < 11 → a ≠ b → (TX2 a).2.1 ≠ (TX2 b).2.1 := by decide +kernel
theorem tyX2_ok : ∀ k, k < 11 → parseFieldDescriptor (TX2 k).2.2.1 = some (tyX2 k) := by decide +kernel
abbrev cX2_init : ByteArray := prog_4_method_1_code
def yX2_init : MethodName := ⟨RX2, "<init>", "()V"⟩
abbrev cX2_addScene : ByteArray := prog_4_method_2_code
def yX2_addScene : MethodName := ⟨RX2, "addScene", "(IIIII)I"⟩
abbrev cX2_hasScene : ByteArray := prog_4_method_3_code
def yX2_hasScene : MethodName := ⟨RX2, "hasScene", "(I)Z"⟩
abbrev cX2_way : ByteArray := prog_4_method_4_code
def yX2_way : MethodName := ⟨RX2, "way", "(II)I"⟩
abbrev cX2_needsByOthersToo : ByteArray := prog_4_method_5_code
def yX2_needsByOthersToo : MethodName := ⟨RX2, "needsByOthersToo", "(I)I"⟩
abbrev cX2_needsOfAll : ByteArray := prog_4_method_6_code
def yX2_needsOfAll : MethodName := ⟨RX2, "needsOfAll", "(I)I"⟩
abbrev cX2_scenesAheadOfSome : ByteArray := prog_4_method_7_code
def yX2_scenesAheadOfSome : MethodName := ⟨RX2, "scenesAheadOfSome", "()I"⟩
def RX3 : String := "ShootingDays$Plan"
def TX3 : u_T := fun k => match k with
  | 0 => ("ShootingDays$Plan", "film", "LShootingDays$Film;", true)
  | 1 => ("ShootingDays$Plan", "rows", "[LShootingDays$Row;", true)
  | 2 => ("ShootingDays$Plan", "most", "[I", true)
  | 3 => ("ShootingDays$Plan", "sun", "[I", true)
  | _ => ("ShootingDays$Plan", "days", "I", false)
def tyX3 : Nat → FieldType := fun k => match k with
  | 0 => .object "ShootingDays$Film"
  | 1 => .array (.object "ShootingDays$Row")
  | 2 => .array .int
  | 3 => .array .int
  | _ => .int
theorem nmX3 : ∀ a, a < 5 → ∀ b, b < 5 → a ≠ b → (TX3 a).2.1 ≠ (TX3 b).2.1 := by decide +kernel
theorem tyX3_ok : ∀ k, k < 5 → parseFieldDescriptor (TX3 k).2.2.1 = some (tyX3 k) := by decide +kernel
abbrev cX3_init : ByteArray := prog_5_method_1_code
def yX3_init : MethodName := ⟨RX3, "<init>", "(LShootingDays$Film;)V"⟩
abbrev cX3_addDay : ByteArray := prog_5_method_2_code
def yX3_addDay : MethodName := ⟨RX3, "addDay", "(II)I"⟩
abbrev cX3_hasDay : ByteArray := prog_5_method_3_code
def yX3_hasDay : MethodName := ⟨RX3, "hasDay", "(I)Z"⟩
abbrev cX3_measureRows : ByteArray := prog_5_method_4_code
def yX3_measureRows : MethodName := ⟨RX3, "measureRows", "()V"⟩
abbrev cX3_exchange : ByteArray := prog_5_method_5_code
def yX3_exchange : MethodName := ⟨RX3, "exchange", "(II)V"⟩
abbrev cX3_keeps : ByteArray := prog_5_method_6_code
def yX3_keeps : MethodName := ⟨RX3, "keeps", "()Z"⟩
abbrev cX3_scenesInRows : ByteArray := prog_5_method_7_code
def yX3_scenesInRows : MethodName := ⟨RX3, "scenesInRows", "()I"⟩
abbrev cX3_dayWith : ByteArray := prog_5_method_8_code
def yX3_dayWith : MethodName := ⟨RX3, "dayWith", "(I)I"⟩
abbrev cX3_placeInRow : ByteArray := prog_5_method_9_code
def yX3_placeInRow : MethodName := ⟨RX3, "placeInRow", "(I)I"⟩
abbrev cX3_plays : ByteArray := prog_5_method_10_code
def yX3_plays : MethodName := ⟨RX3, "plays", "(II)Z"⟩
abbrev cX3_firstDayOf : ByteArray := prog_5_method_11_code
def yX3_firstDayOf : MethodName := ⟨RX3, "firstDayOf", "(I)I"⟩
abbrev cX3_lastDayOf : ByteArray := prog_5_method_12_code
def yX3_lastDayOf : MethodName := ⟨RX3, "lastDayOf", "(I)I"⟩
abbrev cX3_daysWith : ByteArray := prog_5_method_13_code
def yX3_daysWith : MethodName := ⟨RX3, "daysWith", "(I)I"⟩
abbrev cX3_greatestMost : ByteArray := prog_5_method_14_code
def yX3_greatestMost : MethodName := ⟨RX3, "greatestMost", "()I"⟩
def RX4 : String := "ShootingDays$Planner"
def TX4 : u_T := fun k => match k with
  | 0 => ("ShootingDays$Planner", "film", "LShootingDays$Film;", true)
  | 1 => ("ShootingDays$Planner", "plan", "LShootingDays$Plan;", true)
  | 2 => ("ShootingDays$Planner", "bill", "LShootingDays$Bill;", true)
  | 3 => ("ShootingDays$Planner", "arranger", "LShootingDays$Arranger;", true)
  | 4 => ("ShootingDays$Planner", "rowsBefore", "[LShootingDays$Row;", true)
  | 5 => ("ShootingDays$Planner", "turns", "[I", true)
  | _ => ("ShootingDays$Planner", "bestTurns", "[I", true)
def tyX4 : Nat → FieldType := fun k => match k with
  | 0 => .object "ShootingDays$Film"
  | 1 => .object "ShootingDays$Plan"
  | 2 => .object "ShootingDays$Bill"
  | 3 => .object "ShootingDays$Arranger"
  | 4 => .array (.object "ShootingDays$Row")
  | 5 => .array .int
  | _ => .array .int
theorem nmX4 : ∀ a, a < 7 → ∀ b, b < 7 → a ≠ b → (TX4 a).2.1 ≠ (TX4 b).2.1 := by decide +kernel
theorem tyX4_ok : ∀ k, k < 7 → parseFieldDescriptor (TX4 k).2.2.1 = some (tyX4 k) := by decide +kernel
abbrev cX4_init : ByteArray := prog_6_method_1_code
def yX4_init : MethodName := ⟨RX4, "<init>", "(LShootingDays$Film;LShootingDays$Plan;LShootingDays$Bill;)V"⟩
abbrev cX4_join : ByteArray := prog_6_method_2_code
def yX4_join : MethodName := ⟨RX4, "join", "(II)I"⟩
abbrev cX4_couldJoin : ByteArray := prog_6_method_3_code
def yX4_couldJoin : MethodName := ⟨RX4, "couldJoin", "(II)I"⟩
abbrev cX4_leave : ByteArray := prog_6_method_4_code
def yX4_leave : MethodName := ⟨RX4, "leave", "(II)V"⟩
abbrev cX4_arrangeDay : ByteArray := prog_6_method_5_code
def yX4_arrangeDay : MethodName := ⟨RX4, "arrangeDay", "(I)V"⟩
abbrev cX4_makeFirstGoodMove : ByteArray := prog_6_method_6_code
def yX4_makeFirstGoodMove : MethodName := ⟨RX4, "makeFirstGoodMove", "()Z"⟩
abbrev cX4_moveIfGood : ByteArray := prog_6_method_7_code
def yX4_moveIfGood : MethodName := ⟨RX4, "moveIfGood", "(IIII)Z"⟩
abbrev cX4_makeFirstGoodTrade : ByteArray := prog_6_method_8_code
def yX4_makeFirstGoodTrade : MethodName := ⟨RX4, "makeFirstGoodTrade", "()Z"⟩
abbrev cX4_takeBestOrder : ByteArray := prog_6_method_9_code
def yX4_takeBestOrder : MethodName := ⟨RX4, "takeBestOrder", "()I"⟩
abbrev cX4_giveRows : ByteArray := prog_6_method_10_code
def yX4_giveRows : MethodName := ⟨RX4, "giveRows", "([I)V"⟩
abbrev cX4_toNextTurns : ByteArray := prog_6_method_11_code
def yX4_toNextTurns : MethodName := ⟨RX4, "toNextTurns", "(I)Z"⟩
abbrev cX4_swapTurns : ByteArray := prog_6_method_12_code
def yX4_swapTurns : MethodName := ⟨RX4, "swapTurns", "(II)V"⟩
abbrev cX4_clearOutScenes : ByteArray := prog_6_method_13_code
def yX4_clearOutScenes : MethodName := ⟨RX4, "clearOutScenes", "(I)I"⟩
abbrev cX4_fillWithIndoorScenes : ByteArray := prog_6_method_14_code
def yX4_fillWithIndoorScenes : MethodName := ⟨RX4, "fillWithIndoorScenes", "(I)I"⟩
def RX5 : String := "ShootingDays$Row"
def TX5 : u_T := fun k => match k with
  | 0 => ("ShootingDays$Row", "scenes", "[I", true)
  | 1 => ("ShootingDays$Row", "size", "I", false)
  | 2 => ("ShootingDays$Row", "members", "I", false)
  | 3 => ("ShootingDays$Row", "needs", "I", false)
  | 4 => ("ShootingDays$Row", "minutes", "I", false)
  | 5 => ("ShootingDays$Row", "sunMinutes", "I", false)
  | 6 => ("ShootingDays$Row", "players", "I", false)
  | 7 => ("ShootingDays$Row", "places", "I", false)
  | 8 => ("ShootingDays$Row", "night", "Z", false)
  | _ => ("ShootingDays$Row", "inTurn", "Z", false)
def tyX5 : Nat → FieldType := fun k => match k with
  | 0 => .array .int
  | 1 => .int
  | 2 => .int
  | 3 => .int
  | 4 => .int
  | 5 => .int
  | 6 => .int
  | 7 => .int
  | 8 => .boolean
  | _ => .boolean
theorem nmX5 : ∀ a, a < 10 → ∀ b, b < 10 → a ≠ b → (TX5 a).2.1 ≠ (TX5 b).2.1 := by decide +kernel
theorem tyX5_ok : ∀ k, k < 10 → parseFieldDescriptor (TX5 k).2.2.1 = some (tyX5 k) := by decide +kernel
abbrev cX5_init : ByteArray := prog_7_method_1_code
def yX5_init : MethodName := ⟨RX5, "<init>", "()V"⟩
abbrev cX5_sceneAt : ByteArray := prog_7_method_2_code
def yX5_sceneAt : MethodName := ⟨RX5, "sceneAt", "(I)I"⟩
abbrev cX5_isFull : ByteArray := prog_7_method_3_code
def yX5_isFull : MethodName := ⟨RX5, "isFull", "()Z"⟩
abbrev cX5_clear : ByteArray := prog_7_method_4_code
def yX5_clear : MethodName := ⟨RX5, "clear", "()V"⟩
abbrev cX5_append : ByteArray := prog_7_method_5_code
def yX5_append : MethodName := ⟨RX5, "append", "(I)V"⟩
abbrev cX5_measure : ByteArray := prog_7_method_6_code
def yX5_measure : MethodName := ⟨RX5, "measure", "(LShootingDays$Film;)V"⟩
abbrev cX5_forget : ByteArray := prog_7_method_7_code
def yX5_forget : MethodName := ⟨RX5, "forget", "()V"⟩
abbrev cX5_measureScene : ByteArray := prog_7_method_8_code
def yX5_measureScene : MethodName := ⟨RX5, "measureScene", "(LShootingDays$Film;I)V"⟩
abbrev cX5_isInTurn : ByteArray := prog_7_method_9_code
def yX5_isInTurn : MethodName := ⟨RX5, "isInTurn", "(LShootingDays$Film;)Z"⟩
abbrev cX5_fitsInto : ByteArray := prog_7_method_10_code
def yX5_fitsInto : MethodName := ⟨RX5, "fitsInto", "(II)Z"⟩
abbrev cX5_hasDayLight : ByteArray := prog_7_method_11_code
def yX5_hasDayLight : MethodName := ⟨RX5, "hasDayLight", "()Z"⟩
abbrev cX5_halfHoursOver : ByteArray := prog_7_method_12_code
def yX5_halfHoursOver : MethodName := ⟨RX5, "halfHoursOver", "()I"⟩
def RX6 : String := "ShootingDays"
def TX6 : u_T := fun k => match k with
  | 0 => ("ShootingDays", "film", "LShootingDays$Film;", true)
  | 1 => ("ShootingDays", "plan", "LShootingDays$Plan;", true)
  | 2 => ("ShootingDays", "bill", "LShootingDays$Bill;", true)
  | _ => ("ShootingDays", "planner", "LShootingDays$Planner;", true)
def tyX6 : Nat → FieldType := fun k => match k with
  | 0 => .object "ShootingDays$Film"
  | 1 => .object "ShootingDays$Plan"
  | 2 => .object "ShootingDays$Bill"
  | _ => .object "ShootingDays$Planner"
theorem nmX6 : ∀ a, a < 4 → ∀ b, b < 4 → a ≠ b → (TX6 a).2.1 ≠ (TX6 b).2.1 := by decide +kernel
theorem tyX6_ok : ∀ k, k < 4 → parseFieldDescriptor (TX6 k).2.2.1 = some (tyX6 k) := by decide +kernel
abbrev cX6_init : ByteArray := prog_1_method_1_code
def yX6_init : MethodName := ⟨RX6, "<init>", "()V"⟩
abbrev cX6_scene : ByteArray := prog_1_method_2_code
def yX6_scene : MethodName := ⟨RX6, "scene", "(IIIII)I"⟩
abbrev cX6_player : ByteArray := prog_1_method_3_code
def yX6_player : MethodName := ⟨RX6, "player", "(III)I"⟩
abbrev cX6_rent : ByteArray := prog_1_method_4_code
def yX6_rent : MethodName := ⟨RX6, "rent", "(II)I"⟩
abbrev cX6_spot : ByteArray := prog_1_method_5_code
def yX6_spot : MethodName := ⟨RX6, "spot", "(II)I"⟩
abbrev cX6_ahead : ByteArray := prog_1_method_6_code
def yX6_ahead : MethodName := ⟨RX6, "ahead", "(II)I"⟩
abbrev cX6_day : ByteArray := prog_1_method_7_code
def yX6_day : MethodName := ⟨RX6, "day", "(II)I"⟩
abbrev cX6_about : ByteArray := prog_1_method_8_code
def yX6_about : MethodName := ⟨RX6, "about", "(II)I"⟩
abbrev cX6_row : ByteArray := prog_1_method_9_code
def yX6_row : MethodName := ⟨RX6, "row", "(II)I"⟩
abbrev cX6_of : ByteArray := prog_1_method_10_code
def yX6_of : MethodName := ⟨RX6, "of", "(II)I"⟩
abbrev cX6_held : ByteArray := prog_1_method_11_code
def yX6_held : MethodName := ⟨RX6, "held", "(II)I"⟩
abbrev cX6_cost : ByteArray := prog_1_method_12_code
def yX6_cost : MethodName := ⟨RX6, "cost", "(I)I"⟩
abbrev cX6_below : ByteArray := prog_1_method_13_code
def yX6_below : MethodName := ⟨RX6, "below", "()I"⟩
abbrev cX6_may : ByteArray := prog_1_method_14_code
def yX6_may : MethodName := ⟨RX6, "may", "(II)I"⟩
abbrev cX6_put : ByteArray := prog_1_method_15_code
def yX6_put : MethodName := ⟨RX6, "put", "(II)I"⟩
abbrev cX6_take : ByteArray := prog_1_method_16_code
def yX6_take : MethodName := ⟨RX6, "take", "(I)I"⟩
abbrev cX6_tidy : ByteArray := prog_1_method_17_code
def yX6_tidy : MethodName := ⟨RX6, "tidy", "(I)I"⟩
abbrev cX6_trade : ByteArray := prog_1_method_18_code
def yX6_trade : MethodName := ⟨RX6, "trade", "(II)I"⟩
abbrev cX6_better : ByteArray := prog_1_method_19_code
def yX6_better : MethodName := ⟨RX6, "better", "()I"⟩
abbrev cX6_order : ByteArray := prog_1_method_20_code
def yX6_order : MethodName := ⟨RX6, "order", "()I"⟩
abbrev cX6_rain : ByteArray := prog_1_method_21_code
def yX6_rain : MethodName := ⟨RX6, "rain", "(I)I"⟩
abbrev cX6_change : ByteArray := prog_1_method_22_code
def yX6_change : MethodName := ⟨RX6, "change", "(III)I"⟩
abbrev cX6_count : ByteArray := prog_1_method_23_code
def yX6_count : MethodName := ⟨RX6, "count", "(I)I"⟩
abbrev cX6_refusalToJoin : ByteArray := prog_1_method_24_code
def yX6_refusalToJoin : MethodName := ⟨RX6, "refusalToJoin", "(II)I"⟩
abbrev cX6_within : ByteArray := prog_1_method_25_code
def yX6_within : MethodName := ⟨RX6, "within", "(III)Z"⟩
abbrev cX6_isPlace : ByteArray := prog_1_method_26_code
def yX6_isPlace : MethodName := ⟨RX6, "isPlace", "(I)Z"⟩
abbrev cX6_isPlayer : ByteArray := prog_1_method_27_code
def yX6_isPlayer : MethodName := ⟨RX6, "isPlayer", "(I)Z"⟩
abbrev cX6_isDayLength : ByteArray := prog_1_method_28_code
def yX6_isDayLength : MethodName := ⟨RX6, "isDayLength", "(II)Z"⟩
abbrev cX6_hasBit : ByteArray := prog_1_method_29_code
def yX6_hasBit : MethodName := ⟨RX6, "hasBit", "(II)Z"⟩
def RX7 : String := "ShootingDaysModel"
def TX7 : u_T := fun k => match k with
  | 0 => ("ShootingDaysModel", "thrown", "I", false)
  | 1 => ("ShootingDaysModel", "scenes", "I", false)
  | 2 => ("ShootingDaysModel", "minutes", "[I", true)
  | 3 => ("ShootingDaysModel", "place", "[I", true)
  | 4 => ("ShootingDaysModel", "light", "[I", true)
  | 5 => ("ShootingDaysModel", "out", "[Z", true)
  | 6 => ("ShootingDaysModel", "players", "[I", true)
  | 7 => ("ShootingDaysModel", "aheads", "[I", true)
  | 8 => ("ShootingDaysModel", "dayOf", "[I", true)
  | 9 => ("ShootingDaysModel", "pay", "[I", true)
  | 10 => ("ShootingDaysModel", "gap", "[I", true)
  | 11 => ("ShootingDaysModel", "rent", "[I", true)
  | 12 => ("ShootingDaysModel", "spot", "[I", true)
  | 13 => ("ShootingDaysModel", "days", "I", false)
  | 14 => ("ShootingDaysModel", "most", "[I", true)
  | 15 => ("ShootingDaysModel", "sun", "[I", true)
  | 16 => ("ShootingDaysModel", "size", "[I", true)
  | 17 => ("ShootingDaysModel", "rows", "[I", true)
  | 18 => ("ShootingDaysModel", "heap", "[I", true)
  | 19 => ("ShootingDaysModel", "bestRow", "[I", true)
  | 20 => ("ShootingDaysModel", "bestMinutes", "I", false)
  | 21 => ("ShootingDaysModel", "keptRow", "[I", true)
  | 22 => ("ShootingDaysModel", "allRows", "[I", true)
  | 23 => ("ShootingDaysModel", "allSizes", "[I", true)
  | 24 => ("ShootingDaysModel", "allDays", "[I", true)
  | 25 => ("ShootingDaysModel", "given", "[I", true)
  | 26 => ("ShootingDaysModel", "bestGiven", "[I", true)
  | _ => ("ShootingDaysModel", "bestCost", "I", false)
def tyX7 : Nat → FieldType := fun k => match k with
  | 0 => .int
  | 1 => .int
  | 2 => .array .int
  | 3 => .array .int
  | 4 => .array .int
  | 5 => .array .boolean
  | 6 => .array .int
  | 7 => .array .int
  | 8 => .array .int
  | 9 => .array .int
  | 10 => .array .int
  | 11 => .array .int
  | 12 => .array .int
  | 13 => .int
  | 14 => .array .int
  | 15 => .array .int
  | 16 => .array .int
  | 17 => .array .int
  | 18 => .array .int
  | 19 => .array .int
  | 20 => .int
  | 21 => .array .int
  | 22 => .array .int
  | 23 => .array .int
  | 24 => .array .int
  | 25 => .array .int
  | 26 => .array .int
  | _ => .int
theorem nmX7 : ∀ a, a < 28 → ∀ b, b < 28 → a ≠ b → (TX7 a).2.1 ≠ (TX7 b).2.1 := by decide +kernel
theorem tyX7_ok : ∀ k, k < 28 → parseFieldDescriptor (TX7 k).2.2.1 = some (tyX7 k) := by decide +kernel
abbrev cX7_init : ByteArray := prog_9_method_1_code
def yX7_init : MethodName := ⟨RX7, "<init>", "()V"⟩
abbrev cX7_in : ByteArray := prog_9_method_3_code
def yX7_in : MethodName := ⟨RX7, "in", "(III)Z"⟩
abbrev cX7_isScene : ByteArray := prog_9_method_4_code
def yX7_isScene : MethodName := ⟨RX7, "isScene", "(I)Z"⟩
abbrev cX7_isDay : ByteArray := prog_9_method_5_code
def yX7_isDay : MethodName := ⟨RX7, "isDay", "(I)Z"⟩
abbrev cX7_distance : ByteArray := prog_9_method_6_code
def yX7_distance : MethodName := ⟨RX7, "distance", "(II)I"⟩
abbrev cX7_scene : ByteArray := prog_9_method_7_code
def yX7_scene : MethodName := ⟨RX7, "scene", "(IIIII)I"⟩
abbrev cX7_player : ByteArray := prog_9_method_8_code
def yX7_player : MethodName := ⟨RX7, "player", "(III)I"⟩
abbrev cX7_rent : ByteArray := prog_9_method_9_code
def yX7_rent : MethodName := ⟨RX7, "rent", "(II)I"⟩
abbrev cX7_spot : ByteArray := prog_9_method_10_code
def yX7_spot : MethodName := ⟨RX7, "spot", "(II)I"⟩
abbrev cX7_mustBe : ByteArray := prog_9_method_11_code
def yX7_mustBe : MethodName := ⟨RX7, "mustBe", "(II)Z"⟩
abbrev cX7_ahead : ByteArray := prog_9_method_12_code
def yX7_ahead : MethodName := ⟨RX7, "ahead", "(II)I"⟩
abbrev cX7_day : ByteArray := prog_9_method_13_code
def yX7_day : MethodName := ⟨RX7, "day", "(II)I"⟩
abbrev cX7_change : ByteArray := prog_9_method_14_code
def yX7_change : MethodName := ⟨RX7, "change", "(III)I"⟩
abbrev cX7_minutesOf : ByteArray := prog_9_method_15_code
def yX7_minutesOf : MethodName := ⟨RX7, "minutesOf", "(I)I"⟩
abbrev cX7_lightOf : ByteArray := prog_9_method_16_code
def yX7_lightOf : MethodName := ⟨RX7, "lightOf", "(I)I"⟩
abbrev cX7_has : ByteArray := prog_9_method_17_code
def yX7_has : MethodName := ⟨RX7, "has", "(II)Z"⟩
abbrev cX7_placeIn : ByteArray := prog_9_method_18_code
def yX7_placeIn : MethodName := ⟨RX7, "placeIn", "(I)I"⟩
abbrev cX7_isOrdered : ByteArray := prog_9_method_19_code
def yX7_isOrdered : MethodName := ⟨RX7, "isOrdered", "(I)Z"⟩
abbrev cX7_keeps : ByteArray := prog_9_method_20_code
def yX7_keeps : MethodName := ⟨RX7, "keeps", "()Z"⟩
abbrev cX7_tries : ByteArray := prog_9_method_21_code
def yX7_tries : MethodName := ⟨RX7, "tries", "(III)V"⟩
abbrev cX7_arranges : ByteArray := prog_9_method_22_code
def yX7_arranges : MethodName := ⟨RX7, "arranges", "(I)Z"⟩
abbrev cX7_puts : ByteArray := prog_9_method_23_code
def yX7_puts : MethodName := ⟨RX7, "puts", "(II)Z"⟩
abbrev cX7_takes : ByteArray := prog_9_method_24_code
def yX7_takes : MethodName := ⟨RX7, "takes", "(I)V"⟩
abbrev cX7_keepAll : ByteArray := prog_9_method_25_code
def yX7_keepAll : MethodName := ⟨RX7, "keepAll", "()V"⟩
abbrev cX7_backAll : ByteArray := prog_9_method_26_code
def yX7_backAll : MethodName := ⟨RX7, "backAll", "()V"⟩
abbrev cX7_may : ByteArray := prog_9_method_27_code
def yX7_may : MethodName := ⟨RX7, "may", "(II)I"⟩
abbrev cX7_put : ByteArray := prog_9_method_28_code
def yX7_put : MethodName := ⟨RX7, "put", "(II)I"⟩
abbrev cX7_take : ByteArray := prog_9_method_29_code
def yX7_take : MethodName := ⟨RX7, "take", "(I)I"⟩
abbrev cX7_tidy : ByteArray := prog_9_method_30_code
def yX7_tidy : MethodName := ⟨RX7, "tidy", "(I)I"⟩
abbrev cX7_trades : ByteArray := prog_9_method_31_code
def yX7_trades : MethodName := ⟨RX7, "trades", "(II)V"⟩
abbrev cX7_trade : ByteArray := prog_9_method_32_code
def yX7_trade : MethodName := ⟨RX7, "trade", "(II)I"⟩
abbrev cX7_plays : ByteArray := prog_9_method_33_code
def yX7_plays : MethodName := ⟨RX7, "plays", "(II)Z"⟩
abbrev cX7_edge : ByteArray := prog_9_method_34_code
def yX7_edge : MethodName := ⟨RX7, "edge", "(IZ)I"⟩
abbrev cX7_daysOf : ByteArray := prog_9_method_35_code
def yX7_daysOf : MethodName := ⟨RX7, "daysOf", "(I)I"⟩
abbrev cX7_paid : ByteArray := prog_9_method_36_code
def yX7_paid : MethodName := ⟨RX7, "paid", "(I)I"⟩
abbrev cX7_payAll : ByteArray := prog_9_method_37_code
def yX7_payAll : MethodName := ⟨RX7, "payAll", "()I"⟩
abbrev cX7_uses : ByteArray := prog_9_method_38_code
def yX7_uses : MethodName := ⟨RX7, "uses", "(II)Z"⟩
abbrev cX7_rentAll : ByteArray := prog_9_method_39_code
def yX7_rentAll : MethodName := ⟨RX7, "rentAll", "()I"⟩
abbrev cX7_over : ByteArray := prog_9_method_40_code
def yX7_over : MethodName := ⟨RX7, "over", "(I)I"⟩
abbrev cX7_overAll : ByteArray := prog_9_method_41_code
def yX7_overAll : MethodName := ⟨RX7, "overAll", "()I"⟩
abbrev cX7_costAll : ByteArray := prog_9_method_42_code
def yX7_costAll : MethodName := ⟨RX7, "costAll", "()I"⟩
abbrev cX7_cost : ByteArray := prog_9_method_43_code
def yX7_cost : MethodName := ⟨RX7, "cost", "(I)I"⟩
abbrev cX7_below : ByteArray := prog_9_method_44_code
def yX7_below : MethodName := ⟨RX7, "below", "()I"⟩
abbrev cX7_held : ByteArray := prog_9_method_45_code
def yX7_held : MethodName := ⟨RX7, "held", "(II)I"⟩
abbrev cX7_movesWell : ByteArray := prog_9_method_46_code
def yX7_movesWell : MethodName := ⟨RX7, "movesWell", "(III)Z"⟩
abbrev cX7_betters : ByteArray := prog_9_method_47_code
def yX7_betters : MethodName := ⟨RX7, "betters", "()Z"⟩
abbrev cX7_better : ByteArray := prog_9_method_48_code
def yX7_better : MethodName := ⟨RX7, "better", "()I"⟩
abbrev cX7_lays : ByteArray := prog_9_method_49_code
def yX7_lays : MethodName := ⟨RX7, "lays", "()V"⟩
abbrev cX7_gives : ByteArray := prog_9_method_50_code
def yX7_gives : MethodName := ⟨RX7, "gives", "(II)V"⟩
abbrev cX7_order : ByteArray := prog_9_method_51_code
def yX7_order : MethodName := ⟨RX7, "order", "()I"⟩
abbrev cX7_rain : ByteArray := prog_9_method_52_code
def yX7_rain : MethodName := ⟨RX7, "rain", "(I)I"⟩
abbrev cX7_about : ByteArray := prog_9_method_53_code
def yX7_about : MethodName := ⟨RX7, "about", "(II)I"⟩
abbrev cX7_row : ByteArray := prog_9_method_54_code
def yX7_row : MethodName := ⟨RX7, "row", "(II)I"⟩
abbrev cX7_of : ByteArray := prog_9_method_55_code
def yX7_of : MethodName := ⟨RX7, "of", "(II)I"⟩
abbrev cX7_count : ByteArray := prog_9_method_56_code
def yX7_count : MethodName := ⟨RX7, "count", "(I)I"⟩
def RL : String := "ShootingDaysLaw"
abbrev cL_law : ByteArray := code
def yL_law : MethodName := ⟨RL, "law", "([I)Z"⟩
abbrev vwCl : List vw_C := [(RX0, TX0, 7), (RX1, TX1, 2), (RX2, TX2, 11), (RX3, TX3, 5), (RX4, TX4, 7), (RX5, TX5, 10), (RX6, TX6, 4), (RX7, TX7, 28)]
