-- ===== PART A: goes FIRST, ahead of the names: the tables' words, and 'selects' of the private methods out of them =====
/-- a private method of a class that the tables say can be made, by its rows of tables_1 -/
def lw_okq (q : MethodName × Nat) : Prop := (q.1.cls ≠ "java/lang/invoke/MethodHandle" ∧ q.1.cls ≠ "java/lang/invoke/VarHandle") ∧ Cond.instantiable q.1.cls q.2 ∈ tables_1 ∧ Cond.privateMethod q.1 ∈ tables_1 ∧ Cond.instanceMethod q.1 ∈ tables_1
theorem lw_p0 : lw_okq (⟨"LotFences$History", "dropOldest", "()V"⟩, 3) := ⟨⟨by decide +kernel, by decide +kernel⟩, List.mem_of_getElem? (i := 192) (by decide +kernel), List.mem_of_getElem? (i := 248) (by decide +kernel), List.mem_of_getElem? (i := 249) (by decide +kernel)⟩
theorem lw_p1 : lw_okq (⟨"LotFences$Works", "openPlans", "()V"⟩, 10) := ⟨⟨by decide +kernel, by decide +kernel⟩, List.mem_of_getElem? (i := 20) (by decide +kernel), List.mem_of_getElem? (i := 342) (by decide +kernel), List.mem_of_getElem? (i := 343) (by decide +kernel)⟩
theorem lw_p2 : lw_okq (⟨"LotFences$Works", "planWeek", "(I)V"⟩, 10) := ⟨⟨by decide +kernel, by decide +kernel⟩, List.mem_of_getElem? (i := 20) (by decide +kernel), List.mem_of_getElem? (i := 357) (by decide +kernel), List.mem_of_getElem? (i := 358) (by decide +kernel)⟩
theorem lw_p3 : lw_okq (⟨"LotFences$Works", "nextWaiting", "()LLotFences$Product;"⟩, 10) := ⟨⟨by decide +kernel, by decide +kernel⟩, List.mem_of_getElem? (i := 20) (by decide +kernel), List.mem_of_getElem? (i := 370) (by decide +kernel), List.mem_of_getElem? (i := 371) (by decide +kernel)⟩
theorem lw_p4 : lw_okq (⟨"LotFences$Works", "giveLots", "(LLotFences$Product;I)V"⟩, 10) := ⟨⟨by decide +kernel, by decide +kernel⟩, List.mem_of_getElem? (i := 20) (by decide +kernel), List.mem_of_getElem? (i := 374) (by decide +kernel), List.mem_of_getElem? (i := 375) (by decide +kernel)⟩
theorem lw_p5 : lw_okq (⟨"LotFences$Works", "isShort", "()Z"⟩, 10) := ⟨⟨by decide +kernel, by decide +kernel⟩, List.mem_of_getElem? (i := 20) (by decide +kernel), List.mem_of_getElem? (i := 490) (by decide +kernel), List.mem_of_getElem? (i := 491) (by decide +kernel)⟩
theorem lw_p6 : lw_okq (⟨"LotFences$Pad", "signHere", "()C"⟩, 7) := ⟨⟨by decide +kernel, by decide +kernel⟩, List.mem_of_getElem? (i := 157) (by decide +kernel), List.mem_of_getElem? (i := 543) (by decide +kernel), List.mem_of_getElem? (i := 544) (by decide +kernel)⟩
theorem lw_p7 : lw_okq (⟨"LotFences$Pad", "readProduct", "()Z"⟩, 7) := ⟨⟨by decide +kernel, by decide +kernel⟩, List.mem_of_getElem? (i := 157) (by decide +kernel), List.mem_of_getElem? (i := 551) (by decide +kernel), List.mem_of_getElem? (i := 552) (by decide +kernel)⟩
theorem lw_p8 : lw_okq (⟨"LotFences$Pad", "digitHere", "()I"⟩, 7) := ⟨⟨by decide +kernel, by decide +kernel⟩, List.mem_of_getElem? (i := 157) (by decide +kernel), List.mem_of_getElem? (i := 555) (by decide +kernel), List.mem_of_getElem? (i := 556) (by decide +kernel)⟩
theorem lw_p9 : lw_okq (⟨"LotFences$Pad", "readWeek", "()Z"⟩, 7) := ⟨⟨by decide +kernel, by decide +kernel⟩, List.mem_of_getElem? (i := 157) (by decide +kernel), List.mem_of_getElem? (i := 559) (by decide +kernel), List.mem_of_getElem? (i := 560) (by decide +kernel)⟩
theorem lw_p10 : lw_okq (⟨"LotFences$Pad", "readNumber", "()Z"⟩, 7) := ⟨⟨by decide +kernel, by decide +kernel⟩, List.mem_of_getElem? (i := 157) (by decide +kernel), List.mem_of_getElem? (i := 563) (by decide +kernel), List.mem_of_getElem? (i := 564) (by decide +kernel)⟩
theorem lw_p11 : lw_okq (⟨"LotFences", "carryAct", "()I"⟩, 6) := ⟨⟨by decide +kernel, by decide +kernel⟩, List.mem_of_getElem? (i := 12) (by decide +kernel), List.mem_of_getElem? (i := 577) (by decide +kernel), List.mem_of_getElem? (i := 578) (by decide +kernel)⟩
theorem lw_p12 : lw_okq (⟨"LotFencesModel", "brings", "(I)V"⟩, 12) := ⟨⟨by decide +kernel, by decide +kernel⟩, List.mem_of_getElem? (i := 605) (by decide +kernel), List.mem_of_getElem? (i := 659) (by decide +kernel), List.mem_of_getElem? (i := 660) (by decide +kernel)⟩
theorem lw_p13 : lw_okq (⟨"LotFencesModel", "keeps", "(I)V"⟩, 12) := ⟨⟨by decide +kernel, by decide +kernel⟩, List.mem_of_getElem? (i := 605) (by decide +kernel), List.mem_of_getElem? (i := 670) (by decide +kernel), List.mem_of_getElem? (i := 671) (by decide +kernel)⟩
theorem lw_p14 : lw_okq (⟨"LotFencesModel", "records", "()V"⟩, 12) := ⟨⟨by decide +kernel, by decide +kernel⟩, List.mem_of_getElem? (i := 605) (by decide +kernel), List.mem_of_getElem? (i := 678) (by decide +kernel), List.mem_of_getElem? (i := 679) (by decide +kernel)⟩
theorem lw_p15 : lw_okq (⟨"LotFencesModel", "setting", "(I)J"⟩, 12) := ⟨⟨by decide +kernel, by decide +kernel⟩, List.mem_of_getElem? (i := 605) (by decide +kernel), List.mem_of_getElem? (i := 693) (by decide +kernel), List.mem_of_getElem? (i := 694) (by decide +kernel)⟩
def lw_privs_1 : List (MethodName × Nat) := [(⟨"LotFences$History", "dropOldest", "()V"⟩, 3), (⟨"LotFences$Works", "openPlans", "()V"⟩, 10), (⟨"LotFences$Works", "planWeek", "(I)V"⟩, 10), (⟨"LotFences$Works", "nextWaiting", "()LLotFences$Product;"⟩, 10), (⟨"LotFences$Works", "giveLots", "(LLotFences$Product;I)V"⟩, 10), (⟨"LotFences$Works", "isShort", "()Z"⟩, 10), (⟨"LotFences$Pad", "signHere", "()C"⟩, 7), (⟨"LotFences$Pad", "readProduct", "()Z"⟩, 7), (⟨"LotFences$Pad", "digitHere", "()I"⟩, 7), (⟨"LotFences$Pad", "readWeek", "()Z"⟩, 7), (⟨"LotFences$Pad", "readNumber", "()Z"⟩, 7), (⟨"LotFences", "carryAct", "()I"⟩, 6), (⟨"LotFencesModel", "brings", "(I)V"⟩, 12), (⟨"LotFencesModel", "keeps", "(I)V"⟩, 12), (⟨"LotFencesModel", "records", "()V"⟩, 12), (⟨"LotFencesModel", "setting", "(I)J"⟩, 12)]
theorem lw_r1 : ∀ q ∈ lw_privs_1, lw_okq q := List.forall_mem_cons.mpr ⟨lw_p0, List.forall_mem_cons.mpr ⟨lw_p1, List.forall_mem_cons.mpr ⟨lw_p2, List.forall_mem_cons.mpr ⟨lw_p3, List.forall_mem_cons.mpr ⟨lw_p4, List.forall_mem_cons.mpr ⟨lw_p5, List.forall_mem_cons.mpr ⟨lw_p6, List.forall_mem_cons.mpr ⟨lw_p7, List.forall_mem_cons.mpr ⟨lw_p8, List.forall_mem_cons.mpr ⟨lw_p9, List.forall_mem_cons.mpr ⟨lw_p10, List.forall_mem_cons.mpr ⟨lw_p11, List.forall_mem_cons.mpr ⟨lw_p12, List.forall_mem_cons.mpr ⟨lw_p13, List.forall_mem_cons.mpr ⟨lw_p14, List.forall_mem_cons.mpr ⟨lw_p15, fun _ h => absurd h List.not_mem_nil⟩⟩⟩⟩⟩⟩⟩⟩⟩⟩⟩⟩⟩⟩⟩⟩
theorem lw_p16 : lw_okq (⟨"LotFencesModel", "becomes", "(IIJ)V"⟩, 12) := ⟨⟨by decide +kernel, by decide +kernel⟩, List.mem_of_getElem? (i := 605) (by decide +kernel), List.mem_of_getElem? (i := 703) (by decide +kernel), List.mem_of_getElem? (i := 704) (by decide +kernel)⟩
theorem lw_p17 : lw_okq (⟨"LotFencesModel", "plans", "()V"⟩, 12) := ⟨⟨by decide +kernel, by decide +kernel⟩, List.mem_of_getElem? (i := 605) (by decide +kernel), List.mem_of_getElem? (i := 716) (by decide +kernel), List.mem_of_getElem? (i := 717) (by decide +kernel)⟩
theorem lw_p18 : lw_okq (⟨"LotFencesModel", "fence", "()I"⟩, 12) := ⟨⟨by decide +kernel, by decide +kernel⟩, List.mem_of_getElem? (i := 605) (by decide +kernel), List.mem_of_getElem? (i := 720) (by decide +kernel), List.mem_of_getElem? (i := 721) (by decide +kernel)⟩
theorem lw_p19 : lw_okq (⟨"LotFencesModel", "plansWeek", "(I)V"⟩, 12) := ⟨⟨by decide +kernel, by decide +kernel⟩, List.mem_of_getElem? (i := 605) (by decide +kernel), List.mem_of_getElem? (i := 724) (by decide +kernel), List.mem_of_getElem? (i := 725) (by decide +kernel)⟩
theorem lw_p20 : lw_okq (⟨"LotFencesModel", "nextOf", "(II)I"⟩, 12) := ⟨⟨by decide +kernel, by decide +kernel⟩, List.mem_of_getElem? (i := 605) (by decide +kernel), List.mem_of_getElem? (i := 728) (by decide +kernel), List.mem_of_getElem? (i := 729) (by decide +kernel)⟩
theorem lw_p21 : lw_okq (⟨"LotFencesModel", "project", "(II)J"⟩, 12) := ⟨⟨by decide +kernel, by decide +kernel⟩, List.mem_of_getElem? (i := 605) (by decide +kernel), List.mem_of_getElem? (i := 732) (by decide +kernel), List.mem_of_getElem? (i := 733) (by decide +kernel)⟩
theorem lw_p22 : lw_okq (⟨"LotFencesModel", "ofP", "(II)J"⟩, 12) := ⟨⟨by decide +kernel, by decide +kernel⟩, List.mem_of_getElem? (i := 605) (by decide +kernel), List.mem_of_getElem? (i := 736) (by decide +kernel), List.mem_of_getElem? (i := 737) (by decide +kernel)⟩
theorem lw_p23 : lw_okq (⟨"LotFencesModel", "cover", "(I)J"⟩, 12) := ⟨⟨by decide +kernel, by decide +kernel⟩, List.mem_of_getElem? (i := 605) (by decide +kernel), List.mem_of_getElem? (i := 740) (by decide +kernel), List.mem_of_getElem? (i := 741) (by decide +kernel)⟩
theorem lw_p24 : lw_okq (⟨"LotFencesModel", "wanted", "(II)J"⟩, 12) := ⟨⟨by decide +kernel, by decide +kernel⟩, List.mem_of_getElem? (i := 605) (by decide +kernel), List.mem_of_getElem? (i := 744) (by decide +kernel), List.mem_of_getElem? (i := 745) (by decide +kernel)⟩
theorem lw_p25 : lw_okq (⟨"LotFencesModel", "room", "(II)J"⟩, 12) := ⟨⟨by decide +kernel, by decide +kernel⟩, List.mem_of_getElem? (i := 605) (by decide +kernel), List.mem_of_getElem? (i := 748) (by decide +kernel), List.mem_of_getElem? (i := 749) (by decide +kernel)⟩
theorem lw_p26 : lw_okq (⟨"LotFencesModel", "mostHours", "()J"⟩, 12) := ⟨⟨by decide +kernel, by decide +kernel⟩, List.mem_of_getElem? (i := 605) (by decide +kernel), List.mem_of_getElem? (i := 752) (by decide +kernel), List.mem_of_getElem? (i := 753) (by decide +kernel)⟩
theorem lw_p27 : lw_okq (⟨"LotFencesModel", "hoursOf", "(I)J"⟩, 12) := ⟨⟨by decide +kernel, by decide +kernel⟩, List.mem_of_getElem? (i := 605) (by decide +kernel), List.mem_of_getElem? (i := 756) (by decide +kernel), List.mem_of_getElem? (i := 757) (by decide +kernel)⟩
theorem lw_p28 : lw_okq (⟨"LotFencesModel", "isMade", "(II)Z"⟩, 12) := ⟨⟨by decide +kernel, by decide +kernel⟩, List.mem_of_getElem? (i := 605) (by decide +kernel), List.mem_of_getElem? (i := 760) (by decide +kernel), List.mem_of_getElem? (i := 761) (by decide +kernel)⟩
theorem lw_p29 : lw_okq (⟨"LotFencesModel", "familiesIn", "(I)I"⟩, 12) := ⟨⟨by decide +kernel, by decide +kernel⟩, List.mem_of_getElem? (i := 605) (by decide +kernel), List.mem_of_getElem? (i := 764) (by decide +kernel), List.mem_of_getElem? (i := 765) (by decide +kernel)⟩
theorem lw_p30 : lw_okq (⟨"LotFencesModel", "lotsInAll", "()I"⟩, 12) := ⟨⟨by decide +kernel, by decide +kernel⟩, List.mem_of_getElem? (i := 605) (by decide +kernel), List.mem_of_getElem? (i := 769) (by decide +kernel), List.mem_of_getElem? (i := 770) (by decide +kernel)⟩
theorem lw_p31 : lw_okq (⟨"LotFencesModel", "forecastError", "(III)I"⟩, 12) := ⟨⟨by decide +kernel, by decide +kernel⟩, List.mem_of_getElem? (i := 605) (by decide +kernel), List.mem_of_getElem? (i := 777) (by decide +kernel), List.mem_of_getElem? (i := 778) (by decide +kernel)⟩
def lw_privs_2 : List (MethodName × Nat) := [(⟨"LotFencesModel", "becomes", "(IIJ)V"⟩, 12), (⟨"LotFencesModel", "plans", "()V"⟩, 12), (⟨"LotFencesModel", "fence", "()I"⟩, 12), (⟨"LotFencesModel", "plansWeek", "(I)V"⟩, 12), (⟨"LotFencesModel", "nextOf", "(II)I"⟩, 12), (⟨"LotFencesModel", "project", "(II)J"⟩, 12), (⟨"LotFencesModel", "ofP", "(II)J"⟩, 12), (⟨"LotFencesModel", "cover", "(I)J"⟩, 12), (⟨"LotFencesModel", "wanted", "(II)J"⟩, 12), (⟨"LotFencesModel", "room", "(II)J"⟩, 12), (⟨"LotFencesModel", "mostHours", "()J"⟩, 12), (⟨"LotFencesModel", "hoursOf", "(I)J"⟩, 12), (⟨"LotFencesModel", "isMade", "(II)Z"⟩, 12), (⟨"LotFencesModel", "familiesIn", "(I)I"⟩, 12), (⟨"LotFencesModel", "lotsInAll", "()I"⟩, 12), (⟨"LotFencesModel", "forecastError", "(III)I"⟩, 12)]
theorem lw_r2 : ∀ q ∈ lw_privs_2, lw_okq q := List.forall_mem_cons.mpr ⟨lw_p16, List.forall_mem_cons.mpr ⟨lw_p17, List.forall_mem_cons.mpr ⟨lw_p18, List.forall_mem_cons.mpr ⟨lw_p19, List.forall_mem_cons.mpr ⟨lw_p20, List.forall_mem_cons.mpr ⟨lw_p21, List.forall_mem_cons.mpr ⟨lw_p22, List.forall_mem_cons.mpr ⟨lw_p23, List.forall_mem_cons.mpr ⟨lw_p24, List.forall_mem_cons.mpr ⟨lw_p25, List.forall_mem_cons.mpr ⟨lw_p26, List.forall_mem_cons.mpr ⟨lw_p27, List.forall_mem_cons.mpr ⟨lw_p28, List.forall_mem_cons.mpr ⟨lw_p29, List.forall_mem_cons.mpr ⟨lw_p30, List.forall_mem_cons.mpr ⟨lw_p31, fun _ h => absurd h List.not_mem_nil⟩⟩⟩⟩⟩⟩⟩⟩⟩⟩⟩⟩⟩⟩⟩⟩
theorem lw_p32 : lw_okq (⟨"LotFencesModel", "isProduct", "(I)Z"⟩, 12) := ⟨⟨by decide +kernel, by decide +kernel⟩, List.mem_of_getElem? (i := 605) (by decide +kernel), List.mem_of_getElem? (i := 781) (by decide +kernel), List.mem_of_getElem? (i := 782) (by decide +kernel)⟩
theorem lw_p33 : lw_okq (⟨"LotFencesModel", "forecasts", "(III)I"⟩, 12) := ⟨⟨by decide +kernel, by decide +kernel⟩, List.mem_of_getElem? (i := 605) (by decide +kernel), List.mem_of_getElem? (i := 789) (by decide +kernel), List.mem_of_getElem? (i := 790) (by decide +kernel)⟩
theorem lw_p34 : lw_okq (⟨"LotFencesModel", "actualError", "(II)I"⟩, 12) := ⟨⟨by decide +kernel, by decide +kernel⟩, List.mem_of_getElem? (i := 605) (by decide +kernel), List.mem_of_getElem? (i := 797) (by decide +kernel), List.mem_of_getElem? (i := 798) (by decide +kernel)⟩
theorem lw_p35 : lw_okq (⟨"LotFencesModel", "tells", "(II)I"⟩, 12) := ⟨⟨by decide +kernel, by decide +kernel⟩, List.mem_of_getElem? (i := 605) (by decide +kernel), List.mem_of_getElem? (i := 802) (by decide +kernel), List.mem_of_getElem? (i := 803) (by decide +kernel)⟩
theorem lw_p36 : lw_okq (⟨"LotFencesModel", "lotsError", "(III)I"⟩, 12) := ⟨⟨by decide +kernel, by decide +kernel⟩, List.mem_of_getElem? (i := 605) (by decide +kernel), List.mem_of_getElem? (i := 810) (by decide +kernel), List.mem_of_getElem? (i := 811) (by decide +kernel)⟩
theorem lw_p37 : lw_okq (⟨"LotFencesModel", "plansLots", "(III)I"⟩, 12) := ⟨⟨by decide +kernel, by decide +kernel⟩, List.mem_of_getElem? (i := 605) (by decide +kernel), List.mem_of_getElem? (i := 814) (by decide +kernel), List.mem_of_getElem? (i := 815) (by decide +kernel)⟩
theorem lw_p38 : lw_okq (⟨"LotFencesModel", "passesWeeks", "(I)I"⟩, 12) := ⟨⟨by decide +kernel, by decide +kernel⟩, List.mem_of_getElem? (i := 605) (by decide +kernel), List.mem_of_getElem? (i := 823) (by decide +kernel), List.mem_of_getElem? (i := 824) (by decide +kernel)⟩
theorem lw_p39 : lw_okq (⟨"LotFencesModel", "passes", "()V"⟩, 12) := ⟨⟨by decide +kernel, by decide +kernel⟩, List.mem_of_getElem? (i := 605) (by decide +kernel), List.mem_of_getElem? (i := 827) (by decide +kernel), List.mem_of_getElem? (i := 828) (by decide +kernel)⟩
theorem lw_p40 : lw_okq (⟨"LotFencesModel", "ships", "(I)V"⟩, 12) := ⟨⟨by decide +kernel, by decide +kernel⟩, List.mem_of_getElem? (i := 605) (by decide +kernel), List.mem_of_getElem? (i := 831) (by decide +kernel), List.mem_of_getElem? (i := 832) (by decide +kernel)⟩
theorem lw_p41 : lw_okq (⟨"LotFencesModel", "setupsOf", "(I)I"⟩, 12) := ⟨⟨by decide +kernel, by decide +kernel⟩, List.mem_of_getElem? (i := 605) (by decide +kernel), List.mem_of_getElem? (i := 836) (by decide +kernel), List.mem_of_getElem? (i := 837) (by decide +kernel)⟩
theorem lw_p42 : lw_okq (⟨"LotFencesModel", "overtimeOf", "(I)J"⟩, 12) := ⟨⟨by decide +kernel, by decide +kernel⟩, List.mem_of_getElem? (i := 605) (by decide +kernel), List.mem_of_getElem? (i := 840) (by decide +kernel), List.mem_of_getElem? (i := 841) (by decide +kernel)⟩
theorem lw_p43 : lw_okq (⟨"LotFencesModel", "sumOf", "(I)J"⟩, 12) := ⟨⟨by decide +kernel, by decide +kernel⟩, List.mem_of_getElem? (i := 605) (by decide +kernel), List.mem_of_getElem? (i := 844) (by decide +kernel), List.mem_of_getElem? (i := 845) (by decide +kernel)⟩
theorem lw_p44 : lw_okq (⟨"LotFencesModel", "rolls", "(I)V"⟩, 12) := ⟨⟨by decide +kernel, by decide +kernel⟩, List.mem_of_getElem? (i := 605) (by decide +kernel), List.mem_of_getElem? (i := 848) (by decide +kernel), List.mem_of_getElem? (i := 849) (by decide +kernel)⟩
theorem lw_p45 : lw_okq (⟨"LotFencesModel", "does", "()Z"⟩, 12) := ⟨⟨by decide +kernel, by decide +kernel⟩, List.mem_of_getElem? (i := 605) (by decide +kernel), List.mem_of_getElem? (i := 889) (by decide +kernel), List.mem_of_getElem? (i := 890) (by decide +kernel)⟩
theorem lw_p46 : lw_okq (⟨"LotFencesModel", "costsBy", "(II)J"⟩, 12) := ⟨⟨by decide +kernel, by decide +kernel⟩, List.mem_of_getElem? (i := 605) (by decide +kernel), List.mem_of_getElem? (i := 897) (by decide +kernel), List.mem_of_getElem? (i := 898) (by decide +kernel)⟩
theorem lw_p47 : lw_okq (⟨"LotFencesModel", "passesAct", "()Z"⟩, 12) := ⟨⟨by decide +kernel, by decide +kernel⟩, List.mem_of_getElem? (i := 605) (by decide +kernel), List.mem_of_getElem? (i := 924) (by decide +kernel), List.mem_of_getElem? (i := 925) (by decide +kernel)⟩
def lw_privs_3 : List (MethodName × Nat) := [(⟨"LotFencesModel", "isProduct", "(I)Z"⟩, 12), (⟨"LotFencesModel", "forecasts", "(III)I"⟩, 12), (⟨"LotFencesModel", "actualError", "(II)I"⟩, 12), (⟨"LotFencesModel", "tells", "(II)I"⟩, 12), (⟨"LotFencesModel", "lotsError", "(III)I"⟩, 12), (⟨"LotFencesModel", "plansLots", "(III)I"⟩, 12), (⟨"LotFencesModel", "passesWeeks", "(I)I"⟩, 12), (⟨"LotFencesModel", "passes", "()V"⟩, 12), (⟨"LotFencesModel", "ships", "(I)V"⟩, 12), (⟨"LotFencesModel", "setupsOf", "(I)I"⟩, 12), (⟨"LotFencesModel", "overtimeOf", "(I)J"⟩, 12), (⟨"LotFencesModel", "sumOf", "(I)J"⟩, 12), (⟨"LotFencesModel", "rolls", "(I)V"⟩, 12), (⟨"LotFencesModel", "does", "()Z"⟩, 12), (⟨"LotFencesModel", "costsBy", "(II)J"⟩, 12), (⟨"LotFencesModel", "passesAct", "()Z"⟩, 12)]
theorem lw_r3 : ∀ q ∈ lw_privs_3, lw_okq q := List.forall_mem_cons.mpr ⟨lw_p32, List.forall_mem_cons.mpr ⟨lw_p33, List.forall_mem_cons.mpr ⟨lw_p34, List.forall_mem_cons.mpr ⟨lw_p35, List.forall_mem_cons.mpr ⟨lw_p36, List.forall_mem_cons.mpr ⟨lw_p37, List.forall_mem_cons.mpr ⟨lw_p38, List.forall_mem_cons.mpr ⟨lw_p39, List.forall_mem_cons.mpr ⟨lw_p40, List.forall_mem_cons.mpr ⟨lw_p41, List.forall_mem_cons.mpr ⟨lw_p42, List.forall_mem_cons.mpr ⟨lw_p43, List.forall_mem_cons.mpr ⟨lw_p44, List.forall_mem_cons.mpr ⟨lw_p45, List.forall_mem_cons.mpr ⟨lw_p46, List.forall_mem_cons.mpr ⟨lw_p47, fun _ h => absurd h List.not_mem_nil⟩⟩⟩⟩⟩⟩⟩⟩⟩⟩⟩⟩⟩⟩⟩⟩
theorem lw_p48 : lw_okq (⟨"LotFencesModel", "passesNumber", "()Z"⟩, 12) := ⟨⟨by decide +kernel, by decide +kernel⟩, List.mem_of_getElem? (i := 605) (by decide +kernel), List.mem_of_getElem? (i := 928) (by decide +kernel), List.mem_of_getElem? (i := 929) (by decide +kernel)⟩
theorem lw_p49 : lw_okq (⟨"LotFencesModel", "passesOne", "(II)Z"⟩, 12) := ⟨⟨by decide +kernel, by decide +kernel⟩, List.mem_of_getElem? (i := 605) (by decide +kernel), List.mem_of_getElem? (i := 932) (by decide +kernel), List.mem_of_getElem? (i := 933) (by decide +kernel)⟩
theorem lw_p50 : lw_okq (⟨"LotFencesModel", "isHere", "(II)Z"⟩, 12) := ⟨⟨by decide +kernel, by decide +kernel⟩, List.mem_of_getElem? (i := 605) (by decide +kernel), List.mem_of_getElem? (i := 936) (by decide +kernel), List.mem_of_getElem? (i := 937) (by decide +kernel)⟩
theorem lw_p51 : lw_okq (⟨"LotFencesModel", "passesNumbers", "(Z)Z"⟩, 12) := ⟨⟨by decide +kernel, by decide +kernel⟩, List.mem_of_getElem? (i := 605) (by decide +kernel), List.mem_of_getElem? (i := 940) (by decide +kernel), List.mem_of_getElem? (i := 941) (by decide +kernel)⟩
theorem lw_p52 : lw_okq (⟨"LotFencesModel", "acts", "()I"⟩, 12) := ⟨⟨by decide +kernel, by decide +kernel⟩, List.mem_of_getElem? (i := 605) (by decide +kernel), List.mem_of_getElem? (i := 949) (by decide +kernel), List.mem_of_getElem? (i := 950) (by decide +kernel)⟩
def lw_privs_4 : List (MethodName × Nat) := [(⟨"LotFencesModel", "passesNumber", "()Z"⟩, 12), (⟨"LotFencesModel", "passesOne", "(II)Z"⟩, 12), (⟨"LotFencesModel", "isHere", "(II)Z"⟩, 12), (⟨"LotFencesModel", "passesNumbers", "(Z)Z"⟩, 12), (⟨"LotFencesModel", "acts", "()I"⟩, 12)]
theorem lw_r4 : ∀ q ∈ lw_privs_4, lw_okq q := List.forall_mem_cons.mpr ⟨lw_p48, List.forall_mem_cons.mpr ⟨lw_p49, List.forall_mem_cons.mpr ⟨lw_p50, List.forall_mem_cons.mpr ⟨lw_p51, List.forall_mem_cons.mpr ⟨lw_p52, fun _ h => absurd h List.not_mem_nil⟩⟩⟩⟩⟩
def lw_privs : List (MethodName × Nat) := lw_privs_1 ++ (lw_privs_2 ++ (lw_privs_3 ++ (lw_privs_4)))
def lw_tbl : List Cond := k2_sels lw_privs ++ tables_1
theorem lw_privs_ok : ∀ q ∈ lw_privs, lw_okq q := by
  show ∀ q ∈ lw_privs_1 ++ (lw_privs_2 ++ (lw_privs_3 ++ (lw_privs_4))), lw_okq q
  exact List.forall_mem_append.mpr ⟨lw_r1, List.forall_mem_append.mpr ⟨lw_r2, List.forall_mem_append.mpr ⟨lw_r3, lw_r4⟩⟩⟩
-- ===== end of PART A; then your names; then what follows =====
/-! ===== BEGIN words of one list among another's, by their places ===== -/
theorem goodIn_r {big : List Cond} (ws : List Cond) (ps : List Nat) (hp : ws = ps.filterMap (fun i => big[i]?)) (h : ws.all goodWord = true) : GoodIn big ws := by
  intro w hw
  have h1 := List.all_eq_true.mp h w hw
  rw [hp] at hw
  obtain ⟨i, -, hi⟩ := List.mem_filterMap.mp hw
  have hm : w ∈ big := by first | exact List.mem_of_getElem? hi | exact List.getElem?_mem hi
  exact ⟨hm, good_of_word h1⟩
theorem goodIn_app {big a b : List Cond} (ha : GoodIn big a) (hb : GoodIn big b) : GoodIn big (a ++ b) := fun w h => (List.mem_append.mp h).elim (ha w) (hb w)
theorem goodIn_ca {big a b : List Cond} {c : Cond} (ha : GoodIn big (c :: a)) (hb : GoodIn big b) : GoodIn big (c :: (a ++ b)) := fun w h => (List.mem_cons.mp h).elim (fun e => ha w (List.mem_cons.mpr (Or.inl e))) (fun h => (List.mem_append.mp h).elim (fun h => ha w (List.mem_cons.mpr (Or.inr h))) (hb w))
theorem goodIn_sub {big ws : List Cond} (hm : ∀ w ∈ ws, w ∈ big) (h : ws.all goodWord = true) : GoodIn big ws := fun w hw => ⟨hm w hw, good_of_word (List.all_eq_true.mp h w hw)⟩
/-! ===== END ===== -/

/-! ===== BEGIN printed: names, fields, word lists, decode rows ===== -/
def RX0 : String := "LotFences$History"
def TX0 : u_T := fun k => match k with
  | 0 => ("LotFences$History", "states", "[LLotFences$Works;", true)
  | 1 => ("LotFences$History", "size", "I", false)
  | _ => ("LotFences$History", "paused", "Z", false)
def tyX0 : Nat → FieldType := fun k => match k with
  | 0 => .array (.object "LotFences$Works")
  | 1 => .int
  | _ => .boolean
abbrev wsX00 : List Cond := u_ws RX0 TX0 3
theorem nmX0 : ∀ a, a < 3 → ∀ b, b < 3 → a ≠ b → (TX0 a).2.1 ≠ (TX0 b).2.1 := by decide +kernel
theorem tyX0_ok : ∀ k, k < 3 → parseFieldDescriptor (TX0 k).2.2.1 = some (tyX0 k) := by decide +kernel
abbrev cX0_init : ByteArray := prog_2_method_1_code
def yX0_init : MethodName := ⟨RX0, "<init>", "()V"⟩
abbrev cX0_remember : ByteArray := prog_2_method_2_code
def yX0_remember : MethodName := ⟨RX0, "remember", "(LLotFences$Works;)V"⟩
abbrev cX0_takeBack : ByteArray := prog_2_method_3_code
def yX0_takeBack : MethodName := ⟨RX0, "takeBack", "(LLotFences$Works;)V"⟩
abbrev cX0_dropOldest : ByteArray := prog_2_method_4_code
def yX0_dropOldest : MethodName := ⟨RX0, "dropOldest", "()V"⟩
def RX1 : String := "LotFences$Pad"
def TX1 : u_T := fun k => match k with
  | 0 => ("LotFences$Pad", "signs", "[C", true)
  | 1 => ("LotFences$Pad", "length", "I", false)
  | 2 => ("LotFences$Pad", "place", "I", false)
  | 3 => ("LotFences$Pad", "kind", "C", false)
  | 4 => ("LotFences$Pad", "product", "I", false)
  | 5 => ("LotFences$Pad", "week", "I", false)
  | _ => ("LotFences$Pad", "number", "I", false)
def tyX1 : Nat → FieldType := fun k => match k with
  | 0 => .array .char
  | 1 => .int
  | 2 => .int
  | 3 => .char
  | 4 => .int
  | 5 => .int
  | _ => .int
abbrev wsX10 : List Cond := u_ws RX1 TX1 7
theorem nmX1 : ∀ a, a < 7 → ∀ b, b < 7 → a ≠ b → (TX1 a).2.1 ≠ (TX1 b).2.1 := by decide +kernel
theorem tyX1_ok : ∀ k, k < 7 → parseFieldDescriptor (TX1 k).2.2.1 = some (tyX1 k) := by decide +kernel
abbrev cX1_init : ByteArray := prog_3_method_1_code
def yX1_init : MethodName := ⟨RX1, "<init>", "()V"⟩
abbrev cX1_signsIn : ByteArray := prog_3_method_2_code
def yX1_signsIn : MethodName := ⟨RX1, "signsIn", "(J)I"⟩
abbrev cX1_append : ByteArray := prog_3_method_3_code
def yX1_append : MethodName := ⟨RX1, "append", "(JI)V"⟩
abbrev cX1_startReading : ByteArray := prog_3_method_4_code
def yX1_startReading : MethodName := ⟨RX1, "startReading", "()V"⟩
abbrev cX1_isAtEnd : ByteArray := prog_3_method_5_code
def yX1_isAtEnd : MethodName := ⟨RX1, "isAtEnd", "()Z"⟩
abbrev cX1_readAct : ByteArray := prog_3_method_6_code
def yX1_readAct : MethodName := ⟨RX1, "readAct", "()Z"⟩
abbrev cX1_readSign : ByteArray := prog_3_method_7_code
def yX1_readSign : MethodName := ⟨RX1, "readSign", "(C)Z"⟩
abbrev cX1_readProduct : ByteArray := prog_3_method_8_code
def yX1_readProduct : MethodName := ⟨RX1, "readProduct", "()Z"⟩
abbrev cX1_readWeek : ByteArray := prog_3_method_9_code
def yX1_readWeek : MethodName := ⟨RX1, "readWeek", "()Z"⟩
abbrev cX1_readNumber : ByteArray := prog_3_method_10_code
def yX1_readNumber : MethodName := ⟨RX1, "readNumber", "()Z"⟩
abbrev cX1_digitHere : ByteArray := prog_3_method_11_code
def yX1_digitHere : MethodName := ⟨RX1, "digitHere", "()I"⟩
abbrev cX1_signHere : ByteArray := prog_3_method_12_code
def yX1_signHere : MethodName := ⟨RX1, "signHere", "()C"⟩
def RX2 : String := "LotFences$Product"
def TX2 : u_T := fun k => match k with
  | 0 => ("LotFences$Product", "family", "I", false)
  | 1 => ("LotFences$Product", "lotSize", "I", false)
  | 2 => ("LotFences$Product", "lotHours", "I", false)
  | 3 => ("LotFences$Product", "setupHours", "I", false)
  | 4 => ("LotFences$Product", "began", "I", false)
  | 5 => ("LotFences$Product", "stock", "I", false)
  | 6 => ("LotFences$Product", "backlog", "I", false)
  | 7 => ("LotFences$Product", "error", "I", false)
  | 8 => ("LotFences$Product", "told", "I", false)
  | 9 => ("LotFences$Product", "made", "I", false)
  | 10 => ("LotFences$Product", "shipped", "I", false)
  | 11 => ("LotFences$Product", "came", "I", false)
  | 12 => ("LotFences$Product", "forecasts", "[I", true)
  | 13 => ("LotFences$Product", "lots", "[I", true)
  | 14 => ("LotFences$Product", "behind", "J", false)
  | 15 => ("LotFences$Product", "aim", "I", false)
  | _ => ("LotFences$Product", "waiting", "Z", false)
def tyX2 : Nat → FieldType := fun k => match k with
  | 0 => .int
  | 1 => .int
  | 2 => .int
  | 3 => .int
  | 4 => .int
  | 5 => .int
  | 6 => .int
  | 7 => .int
  | 8 => .int
  | 9 => .int
  | 10 => .int
  | 11 => .int
  | 12 => .array .int
  | 13 => .array .int
  | 14 => .long
  | 15 => .int
  | _ => .boolean
abbrev wsX20 : List Cond := u_ws RX2 TX2 17
theorem nmX2 : ∀ a, a < 17 → ∀ b, b < 17 → a ≠ b → (TX2 a).2.1 ≠ (TX2 b).2.1 := by decide +kernel
theorem tyX2_ok : ∀ k, k < 17 → parseFieldDescriptor (TX2 k).2.2.1 = some (tyX2 k) := by decide +kernel
abbrev cX2_init : ByteArray := prog_4_method_1_code
def yX2_init : MethodName := ⟨RX2, "<init>", "()V"⟩
abbrev cX2_begin : ByteArray := prog_4_method_2_code
def yX2_begin : MethodName := ⟨RX2, "begin", "(IIIII)V"⟩
abbrev cX2_copyFrom : ByteArray := prog_4_method_3_code
def yX2_copyFrom : MethodName := ⟨RX2, "copyFrom", "(LLotFences$Product;)V"⟩
abbrev cX2_cover : ByteArray := prog_4_method_4_code
def yX2_cover : MethodName := ⟨RX2, "cover", "(I)I"⟩
abbrev cX2_lotsIn : ByteArray := prog_4_method_5_code
def yX2_lotsIn : MethodName := ⟨RX2, "lotsIn", "(I)I"⟩
abbrev cX2_lotsInAll : ByteArray := prog_4_method_6_code
def yX2_lotsInAll : MethodName := ⟨RX2, "lotsInAll", "()I"⟩
abbrev cX2_projectionBehind : ByteArray := prog_4_method_7_code
def yX2_projectionBehind : MethodName := ⟨RX2, "projectionBehind", "(I)J"⟩
abbrev cX2_openPlan : ByteArray := prog_4_method_8_code
def yX2_openPlan : MethodName := ⟨RX2, "openPlan", "(I)V"⟩
abbrev cX2_enterWeek : ByteArray := prog_4_method_9_code
def yX2_enterWeek : MethodName := ⟨RX2, "enterWeek", "(II)V"⟩
abbrev cX2_lotsWanted : ByteArray := prog_4_method_10_code
def yX2_lotsWanted : MethodName := ⟨RX2, "lotsWanted", "(II)J"⟩
abbrev cX2_planLots : ByteArray := prog_4_method_11_code
def yX2_planLots : MethodName := ⟨RX2, "planLots", "(II)V"⟩
abbrev cX2_passWeek : ByteArray := prog_4_method_12_code
def yX2_passWeek : MethodName := ⟨RX2, "passWeek", "()V"⟩
def RX3 : String := "LotFences$Works"
def TX3 : u_T := fun k => match k with
  | 0 => ("LotFences$Works", "settings", "[I", true)
  | 1 => ("LotFences$Works", "familyHours", "[I", true)
  | 2 => ("LotFences$Works", "items", "[LLotFences$Product;", true)
  | 3 => ("LotFences$Works", "products", "I", false)
  | 4 => ("LotFences$Works", "weeksPassed", "I", false)
  | 5 => ("LotFences$Works", "setupsSoFar", "J", false)
  | 6 => ("LotFences$Works", "overtimeSoFar", "J", false)
  | 7 => ("LotFences$Works", "costsSoFar", "J", false)
  | 8 => ("LotFences$Works", "hoursLeft", "I", false)
  | _ => ("LotFences$Works", "familiesSetUp", "I", false)
def tyX3 : Nat → FieldType := fun k => match k with
  | 0 => .array .int
  | 1 => .array .int
  | 2 => .array (.object "LotFences$Product")
  | 3 => .int
  | 4 => .int
  | 5 => .long
  | 6 => .long
  | 7 => .long
  | 8 => .int
  | _ => .int
abbrev wsX30 : List Cond := u_ws RX3 TX3 10
theorem nmX3 : ∀ a, a < 10 → ∀ b, b < 10 → a ≠ b → (TX3 a).2.1 ≠ (TX3 b).2.1 := by decide +kernel
theorem tyX3_ok : ∀ k, k < 10 → parseFieldDescriptor (TX3 k).2.2.1 = some (tyX3 k) := by decide +kernel
abbrev cX3_init : ByteArray := prog_5_method_1_code
def yX3_init : MethodName := ⟨RX3, "<init>", "()V"⟩
abbrev cX3_copyFrom : ByteArray := prog_5_method_2_code
def yX3_copyFrom : MethodName := ⟨RX3, "copyFrom", "(LLotFences$Works;)V"⟩
abbrev cX3_productAt : ByteArray := prog_5_method_3_code
def yX3_productAt : MethodName := ⟨RX3, "productAt", "(I)LLotFences$Product;"⟩
abbrev cX3_spareProduct : ByteArray := prog_5_method_4_code
def yX3_spareProduct : MethodName := ⟨RX3, "spareProduct", "()LLotFences$Product;"⟩
abbrev cX3_setting : ByteArray := prog_5_method_5_code
def yX3_setting : MethodName := ⟨RX3, "setting", "(I)I"⟩
abbrev cX3_changeSetting : ByteArray := prog_5_method_6_code
def yX3_changeSetting : MethodName := ⟨RX3, "changeSetting", "(II)V"⟩
abbrev cX3_capacity : ByteArray := prog_5_method_7_code
def yX3_capacity : MethodName := ⟨RX3, "capacity", "()I"⟩
abbrev cX3_isFrozen : ByteArray := prog_5_method_8_code
def yX3_isFrozen : MethodName := ⟨RX3, "isFrozen", "(I)Z"⟩
abbrev cX3_hoursIn : ByteArray := prog_5_method_9_code
def yX3_hoursIn : MethodName := ⟨RX3, "hoursIn", "(I)I"⟩
abbrev cX3_hoursWith : ByteArray := prog_5_method_10_code
def yX3_hoursWith : MethodName := ⟨RX3, "hoursWith", "(ILLotFences$Product;I)I"⟩
abbrev cX3_familiesIn : ByteArray := prog_5_method_11_code
def yX3_familiesIn : MethodName := ⟨RX3, "familiesIn", "(I)I"⟩
abbrev cX3_setupsIn : ByteArray := prog_5_method_12_code
def yX3_setupsIn : MethodName := ⟨RX3, "setupsIn", "(I)I"⟩
abbrev cX3_overtimeIn : ByteArray := prog_5_method_13_code
def yX3_overtimeIn : MethodName := ⟨RX3, "overtimeIn", "(I)I"⟩
abbrev cX3_allLots : ByteArray := prog_5_method_14_code
def yX3_allLots : MethodName := ⟨RX3, "allLots", "()I"⟩
abbrev cX3_allStock : ByteArray := prog_5_method_15_code
def yX3_allStock : MethodName := ⟨RX3, "allStock", "()J"⟩
abbrev cX3_allBacklog : ByteArray := prog_5_method_16_code
def yX3_allBacklog : MethodName := ⟨RX3, "allBacklog", "()J"⟩
abbrev cX3_forgetTold : ByteArray := prog_5_method_17_code
def yX3_forgetTold : MethodName := ⟨RX3, "forgetTold", "()V"⟩
abbrev cX3_planAnew : ByteArray := prog_5_method_18_code
def yX3_planAnew : MethodName := ⟨RX3, "planAnew", "()V"⟩
abbrev cX3_plansWithoutShortage : ByteArray := prog_5_method_19_code
def yX3_plansWithoutShortage : MethodName := ⟨RX3, "plansWithoutShortage", "()Z"⟩
abbrev cX3_openPlans : ByteArray := prog_5_method_20_code
def yX3_openPlans : MethodName := ⟨RX3, "openPlans", "()V"⟩
abbrev cX3_planWeek : ByteArray := prog_5_method_21_code
def yX3_planWeek : MethodName := ⟨RX3, "planWeek", "(I)V"⟩
abbrev cX3_nextWaiting : ByteArray := prog_5_method_22_code
def yX3_nextWaiting : MethodName := ⟨RX3, "nextWaiting", "()LLotFences$Product;"⟩
abbrev cX3_giveLots : ByteArray := prog_5_method_23_code
def yX3_giveLots : MethodName := ⟨RX3, "giveLots", "(LLotFences$Product;I)V"⟩
abbrev cX3_isShort : ByteArray := prog_5_method_24_code
def yX3_isShort : MethodName := ⟨RX3, "isShort", "()Z"⟩
abbrev cX3_passWeek : ByteArray := prog_5_method_25_code
def yX3_passWeek : MethodName := ⟨RX3, "passWeek", "()V"⟩
def RX4 : String := "LotFences"
def TX4 : u_T := fun k => match k with
  | 0 => ("LotFences", "works", "LLotFences$Works;", true)
  | 1 => ("LotFences", "trial", "LLotFences$Works;", true)
  | 2 => ("LotFences", "pad", "LLotFences$Pad;", true)
  | 3 => ("LotFences", "history", "LLotFences$History;", true)
  | 4 => ("LotFences", "slots", "[LLotFences$Works;", true)
  | _ => ("LotFences", "saved", "[Z", true)
def tyX4 : Nat → FieldType := fun k => match k with
  | 0 => .object "LotFences$Works"
  | 1 => .object "LotFences$Works"
  | 2 => .object "LotFences$Pad"
  | 3 => .object "LotFences$History"
  | 4 => .array (.object "LotFences$Works")
  | _ => .array .boolean
abbrev wsX40 : List Cond := u_ws RX4 TX4 6
theorem nmX4 : ∀ a, a < 6 → ∀ b, b < 6 → a ≠ b → (TX4 a).2.1 ≠ (TX4 b).2.1 := by decide +kernel
theorem tyX4_ok : ∀ k, k < 6 → parseFieldDescriptor (TX4 k).2.2.1 = some (tyX4 k) := by decide +kernel
abbrev cX4_init : ByteArray := prog_1_method_1_code
def yX4_init : MethodName := ⟨RX4, "<init>", "()V"⟩
abbrev cX4_set : ByteArray := prog_1_method_2_code
def yX4_set : MethodName := ⟨RX4, "set", "(II)I"⟩
abbrev cX4_product : ByteArray := prog_1_method_3_code
def yX4_product : MethodName := ⟨RX4, "product", "(IIIII)I"⟩
abbrev cX4_family : ByteArray := prog_1_method_4_code
def yX4_family : MethodName := ⟨RX4, "family", "(II)I"⟩
abbrev cX4_forecast : ByteArray := prog_1_method_5_code
def yX4_forecast : MethodName := ⟨RX4, "forecast", "(III)I"⟩
abbrev cX4_actual : ByteArray := prog_1_method_6_code
def yX4_actual : MethodName := ⟨RX4, "actual", "(II)I"⟩
abbrev cX4_lots : ByteArray := prog_1_method_7_code
def yX4_lots : MethodName := ⟨RX4, "lots", "(III)I"⟩
abbrev cX4_plan : ByteArray := prog_1_method_8_code
def yX4_plan : MethodName := ⟨RX4, "plan", "()I"⟩
abbrev cX4_weeks : ByteArray := prog_1_method_9_code
def yX4_weeks : MethodName := ⟨RX4, "weeks", "(I)I"⟩
abbrev cX4_ofProduct : ByteArray := prog_1_method_10_code
def yX4_ofProduct : MethodName := ⟨RX4, "ofProduct", "(II)I"⟩
abbrev cX4_at : ByteArray := prog_1_method_11_code
def yX4_at : MethodName := ⟨RX4, "at", "(III)I"⟩
abbrev cX4_projection : ByteArray := prog_1_method_12_code
def yX4_projection : MethodName := ⟨RX4, "projection", "(II)J"⟩
abbrev cX4_ofWeek : ByteArray := prog_1_method_13_code
def yX4_ofWeek : MethodName := ⟨RX4, "ofWeek", "(II)I"⟩
abbrev cX4_count : ByteArray := prog_1_method_14_code
def yX4_count : MethodName := ⟨RX4, "count", "(I)J"⟩
abbrev cX4_firstShort : ByteArray := prog_1_method_15_code
def yX4_firstShort : MethodName := ⟨RX4, "firstShort", "(I)I"⟩
abbrev cX4_lasts : ByteArray := prog_1_method_16_code
def yX4_lasts : MethodName := ⟨RX4, "lasts", "(I)I"⟩
abbrev cX4_leastHours : ByteArray := prog_1_method_17_code
def yX4_leastHours : MethodName := ⟨RX4, "leastHours", "()I"⟩
abbrev cX4_costs : ByteArray := prog_1_method_18_code
def yX4_costs : MethodName := ⟨RX4, "costs", "(II)J"⟩
abbrev cX4_bestFence : ByteArray := prog_1_method_19_code
def yX4_bestFence : MethodName := ⟨RX4, "bestFence", "(I)I"⟩
abbrev cX4_roomFor : ByteArray := prog_1_method_20_code
def yX4_roomFor : MethodName := ⟨RX4, "roomFor", "(II)I"⟩
abbrev cX4_put : ByteArray := prog_1_method_21_code
def yX4_put : MethodName := ⟨RX4, "put", "(J)I"⟩
abbrev cX4_wipe : ByteArray := prog_1_method_22_code
def yX4_wipe : MethodName := ⟨RX4, "wipe", "()I"⟩
abbrev cX4_fault : ByteArray := prog_1_method_23_code
def yX4_fault : MethodName := ⟨RX4, "fault", "()I"⟩
abbrev cX4_carryOut : ByteArray := prog_1_method_24_code
def yX4_carryOut : MethodName := ⟨RX4, "carryOut", "()I"⟩
abbrev cX4_undo : ByteArray := prog_1_method_25_code
def yX4_undo : MethodName := ⟨RX4, "undo", "()I"⟩
abbrev cX4_save : ByteArray := prog_1_method_26_code
def yX4_save : MethodName := ⟨RX4, "save", "(I)I"⟩
abbrev cX4_restore : ByteArray := prog_1_method_27_code
def yX4_restore : MethodName := ⟨RX4, "restore", "(I)I"⟩
abbrev cX4_carryAct : ByteArray := prog_1_method_28_code
def yX4_carryAct : MethodName := ⟨RX4, "carryAct", "()I"⟩
abbrev cX4_isError : ByteArray := prog_1_method_29_code
def yX4_isError : MethodName := ⟨RX4, "isError", "(I)Z"⟩
abbrev cX4_isIn : ByteArray := prog_1_method_30_code
def yX4_isIn : MethodName := ⟨RX4, "isIn", "(III)Z"⟩
abbrev cX4_isWeek : ByteArray := prog_1_method_31_code
def yX4_isWeek : MethodName := ⟨RX4, "isWeek", "(I)Z"⟩
abbrev cX4_isFamily : ByteArray := prog_1_method_32_code
def yX4_isFamily : MethodName := ⟨RX4, "isFamily", "(I)Z"⟩
def RX5 : String := "LotFencesModel"
def TX5 : u_T := fun k => match k with
  | 0 => ("LotFencesModel", "now", "[J", true)
  | 1 => ("LotFencesModel", "kept", "[J", true)
  | 2 => ("LotFencesModel", "isSaved", "[I", true)
  | 3 => ("LotFencesModel", "states", "I", false)
  | 4 => ("LotFencesModel", "pad", "[I", true)
  | 5 => ("LotFencesModel", "padLength", "I", false)
  | 6 => ("LotFencesModel", "at", "I", false)
  | 7 => ("LotFencesModel", "kind", "I", false)
  | 8 => ("LotFencesModel", "value", "I", false)
  | 9 => ("LotFencesModel", "first", "I", false)
  | 10 => ("LotFencesModel", "second", "I", false)
  | _ => ("LotFencesModel", "third", "I", false)
def tyX5 : Nat → FieldType := fun k => match k with
  | 0 => .array .long
  | 1 => .array .long
  | 2 => .array .int
  | 3 => .int
  | 4 => .array .int
  | 5 => .int
  | 6 => .int
  | 7 => .int
  | 8 => .int
  | 9 => .int
  | 10 => .int
  | _ => .int
abbrev wsX50 : List Cond := u_ws RX5 TX5 12
theorem nmX5 : ∀ a, a < 12 → ∀ b, b < 12 → a ≠ b → (TX5 a).2.1 ≠ (TX5 b).2.1 := by decide +kernel
theorem tyX5_ok : ∀ k, k < 12 → parseFieldDescriptor (TX5 k).2.2.1 = some (tyX5 k) := by decide +kernel
abbrev cX5_init : ByteArray := prog_7_method_1_code
def yX5_init : MethodName := ⟨RX5, "<init>", "()V"⟩
abbrev cX5_isIn : ByteArray := prog_7_method_2_code
def yX5_isIn : MethodName := ⟨RX5, "isIn", "(JJJ)Z"⟩
abbrev cX5_isProduct : ByteArray := prog_7_method_3_code
def yX5_isProduct : MethodName := ⟨RX5, "isProduct", "(I)Z"⟩
abbrev cX5_isWeek : ByteArray := prog_7_method_4_code
def yX5_isWeek : MethodName := ⟨RX5, "isWeek", "(I)Z"⟩
abbrev cX5_ofP : ByteArray := prog_7_method_5_code
def yX5_ofP : MethodName := ⟨RX5, "ofP", "(II)J"⟩
abbrev cX5_becomes : ByteArray := prog_7_method_6_code
def yX5_becomes : MethodName := ⟨RX5, "becomes", "(IIJ)V"⟩
abbrev cX5_setting : ByteArray := prog_7_method_7_code
def yX5_setting : MethodName := ⟨RX5, "setting", "(I)J"⟩
abbrev cX5_fence : ByteArray := prog_7_method_8_code
def yX5_fence : MethodName := ⟨RX5, "fence", "()I"⟩
abbrev cX5_keeps : ByteArray := prog_7_method_9_code
def yX5_keeps : MethodName := ⟨RX5, "keeps", "(I)V"⟩
abbrev cX5_brings : ByteArray := prog_7_method_10_code
def yX5_brings : MethodName := ⟨RX5, "brings", "(I)V"⟩
abbrev cX5_records : ByteArray := prog_7_method_11_code
def yX5_records : MethodName := ⟨RX5, "records", "()V"⟩
abbrev cX5_undo : ByteArray := prog_7_method_12_code
def yX5_undo : MethodName := ⟨RX5, "undo", "()I"⟩
abbrev cX5_save : ByteArray := prog_7_method_13_code
def yX5_save : MethodName := ⟨RX5, "save", "(I)I"⟩
abbrev cX5_restore : ByteArray := prog_7_method_14_code
def yX5_restore : MethodName := ⟨RX5, "restore", "(I)I"⟩
abbrev cX5_leastOf : ByteArray := prog_7_method_15_code
def yX5_leastOf : MethodName := ⟨RX5, "leastOf", "(I)I"⟩
abbrev cX5_mostOf : ByteArray := prog_7_method_16_code
def yX5_mostOf : MethodName := ⟨RX5, "mostOf", "(I)I"⟩
abbrev cX5_set : ByteArray := prog_7_method_17_code
def yX5_set : MethodName := ⟨RX5, "set", "(II)I"⟩
abbrev cX5_product : ByteArray := prog_7_method_18_code
def yX5_product : MethodName := ⟨RX5, "product", "(IIIII)I"⟩
abbrev cX5_family : ByteArray := prog_7_method_19_code
def yX5_family : MethodName := ⟨RX5, "family", "(II)I"⟩
abbrev cX5_isMade : ByteArray := prog_7_method_20_code
def yX5_isMade : MethodName := ⟨RX5, "isMade", "(II)Z"⟩
abbrev cX5_familiesIn : ByteArray := prog_7_method_21_code
def yX5_familiesIn : MethodName := ⟨RX5, "familiesIn", "(I)I"⟩
abbrev cX5_hoursOf : ByteArray := prog_7_method_22_code
def yX5_hoursOf : MethodName := ⟨RX5, "hoursOf", "(I)J"⟩
abbrev cX5_setupsOf : ByteArray := prog_7_method_23_code
def yX5_setupsOf : MethodName := ⟨RX5, "setupsOf", "(I)I"⟩
abbrev cX5_overtimeOf : ByteArray := prog_7_method_24_code
def yX5_overtimeOf : MethodName := ⟨RX5, "overtimeOf", "(I)J"⟩
abbrev cX5_mostHours : ByteArray := prog_7_method_25_code
def yX5_mostHours : MethodName := ⟨RX5, "mostHours", "()J"⟩
abbrev cX5_project : ByteArray := prog_7_method_26_code
def yX5_project : MethodName := ⟨RX5, "project", "(II)J"⟩
abbrev cX5_cover : ByteArray := prog_7_method_27_code
def yX5_cover : MethodName := ⟨RX5, "cover", "(I)J"⟩
abbrev cX5_room : ByteArray := prog_7_method_28_code
def yX5_room : MethodName := ⟨RX5, "room", "(II)J"⟩
abbrev cX5_wanted : ByteArray := prog_7_method_29_code
def yX5_wanted : MethodName := ⟨RX5, "wanted", "(II)J"⟩
abbrev cX5_nextOf : ByteArray := prog_7_method_30_code
def yX5_nextOf : MethodName := ⟨RX5, "nextOf", "(II)I"⟩
abbrev cX5_plansWeek : ByteArray := prog_7_method_31_code
def yX5_plansWeek : MethodName := ⟨RX5, "plansWeek", "(I)V"⟩
abbrev cX5_plans : ByteArray := prog_7_method_32_code
def yX5_plans : MethodName := ⟨RX5, "plans", "()V"⟩
abbrev cX5_lotsInAll : ByteArray := prog_7_method_33_code
def yX5_lotsInAll : MethodName := ⟨RX5, "lotsInAll", "()I"⟩
abbrev cX5_plan : ByteArray := prog_7_method_34_code
def yX5_plan : MethodName := ⟨RX5, "plan", "()I"⟩
abbrev cX5_forecastError : ByteArray := prog_7_method_35_code
def yX5_forecastError : MethodName := ⟨RX5, "forecastError", "(III)I"⟩
abbrev cX5_forecasts : ByteArray := prog_7_method_36_code
def yX5_forecasts : MethodName := ⟨RX5, "forecasts", "(III)I"⟩
abbrev cX5_forecast : ByteArray := prog_7_method_37_code
def yX5_forecast : MethodName := ⟨RX5, "forecast", "(III)I"⟩
abbrev cX5_actualError : ByteArray := prog_7_method_38_code
def yX5_actualError : MethodName := ⟨RX5, "actualError", "(II)I"⟩
abbrev cX5_tells : ByteArray := prog_7_method_39_code
def yX5_tells : MethodName := ⟨RX5, "tells", "(II)I"⟩
abbrev cX5_actual : ByteArray := prog_7_method_40_code
def yX5_actual : MethodName := ⟨RX5, "actual", "(II)I"⟩
abbrev cX5_lotsError : ByteArray := prog_7_method_41_code
def yX5_lotsError : MethodName := ⟨RX5, "lotsError", "(III)I"⟩
abbrev cX5_plansLots : ByteArray := prog_7_method_42_code
def yX5_plansLots : MethodName := ⟨RX5, "plansLots", "(III)I"⟩
abbrev cX5_lots : ByteArray := prog_7_method_43_code
def yX5_lots : MethodName := ⟨RX5, "lots", "(III)I"⟩
abbrev cX5_ships : ByteArray := prog_7_method_44_code
def yX5_ships : MethodName := ⟨RX5, "ships", "(I)V"⟩
abbrev cX5_rolls : ByteArray := prog_7_method_45_code
def yX5_rolls : MethodName := ⟨RX5, "rolls", "(I)V"⟩
abbrev cX5_sumOf : ByteArray := prog_7_method_46_code
def yX5_sumOf : MethodName := ⟨RX5, "sumOf", "(I)J"⟩
abbrev cX5_passes : ByteArray := prog_7_method_47_code
def yX5_passes : MethodName := ⟨RX5, "passes", "()V"⟩
abbrev cX5_passesWeeks : ByteArray := prog_7_method_48_code
def yX5_passesWeeks : MethodName := ⟨RX5, "passesWeeks", "(I)I"⟩
abbrev cX5_weeks : ByteArray := prog_7_method_49_code
def yX5_weeks : MethodName := ⟨RX5, "weeks", "(I)I"⟩
abbrev cX5_ofProduct : ByteArray := prog_7_method_50_code
def yX5_ofProduct : MethodName := ⟨RX5, "ofProduct", "(II)I"⟩
abbrev cX5_at : ByteArray := prog_7_method_51_code
def yX5_at : MethodName := ⟨RX5, "at", "(III)I"⟩
abbrev cX5_projection : ByteArray := prog_7_method_52_code
def yX5_projection : MethodName := ⟨RX5, "projection", "(II)J"⟩
abbrev cX5_ofWeek : ByteArray := prog_7_method_53_code
def yX5_ofWeek : MethodName := ⟨RX5, "ofWeek", "(II)I"⟩
abbrev cX5_count : ByteArray := prog_7_method_54_code
def yX5_count : MethodName := ⟨RX5, "count", "(I)J"⟩
abbrev cX5_firstShort : ByteArray := prog_7_method_55_code
def yX5_firstShort : MethodName := ⟨RX5, "firstShort", "(I)I"⟩
abbrev cX5_lasts : ByteArray := prog_7_method_56_code
def yX5_lasts : MethodName := ⟨RX5, "lasts", "(I)I"⟩
abbrev cX5_does : ByteArray := prog_7_method_57_code
def yX5_does : MethodName := ⟨RX5, "does", "()Z"⟩
abbrev cX5_leastHours : ByteArray := prog_7_method_58_code
def yX5_leastHours : MethodName := ⟨RX5, "leastHours", "()I"⟩
abbrev cX5_costsBy : ByteArray := prog_7_method_59_code
def yX5_costsBy : MethodName := ⟨RX5, "costsBy", "(II)J"⟩
abbrev cX5_costs : ByteArray := prog_7_method_60_code
def yX5_costs : MethodName := ⟨RX5, "costs", "(II)J"⟩
abbrev cX5_bestFence : ByteArray := prog_7_method_61_code
def yX5_bestFence : MethodName := ⟨RX5, "bestFence", "(I)I"⟩
abbrev cX5_roomFor : ByteArray := prog_7_method_62_code
def yX5_roomFor : MethodName := ⟨RX5, "roomFor", "(II)I"⟩
abbrev cX5_put : ByteArray := prog_7_method_63_code
def yX5_put : MethodName := ⟨RX5, "put", "(J)I"⟩
abbrev cX5_wipe : ByteArray := prog_7_method_64_code
def yX5_wipe : MethodName := ⟨RX5, "wipe", "()I"⟩
abbrev cX5_isHere : ByteArray := prog_7_method_65_code
def yX5_isHere : MethodName := ⟨RX5, "isHere", "(II)Z"⟩
abbrev cX5_passesOne : ByteArray := prog_7_method_66_code
def yX5_passesOne : MethodName := ⟨RX5, "passesOne", "(II)Z"⟩
abbrev cX5_passesNumber : ByteArray := prog_7_method_67_code
def yX5_passesNumber : MethodName := ⟨RX5, "passesNumber", "()Z"⟩
abbrev cX5_passesNumbers : ByteArray := prog_7_method_68_code
def yX5_passesNumbers : MethodName := ⟨RX5, "passesNumbers", "(Z)Z"⟩
abbrev cX5_passesAct : ByteArray := prog_7_method_69_code
def yX5_passesAct : MethodName := ⟨RX5, "passesAct", "()Z"⟩
abbrev cX5_fault : ByteArray := prog_7_method_70_code
def yX5_fault : MethodName := ⟨RX5, "fault", "()I"⟩
abbrev cX5_acts : ByteArray := prog_7_method_71_code
def yX5_acts : MethodName := ⟨RX5, "acts", "()I"⟩
abbrev cX5_carryOut : ByteArray := prog_7_method_72_code
def yX5_carryOut : MethodName := ⟨RX5, "carryOut", "()I"⟩
def RJx8e188 : String := "java/lang/Cloneable"
def TJx8e188 : u_T := fun k => match k with
  | _ => ("", "", "", false)
def tyJx8e188 : Nat → FieldType := fun k => match k with
  | _ => .int
abbrev wsJx8e1880 : List Cond := u_ws RJx8e188 TJx8e188 0
theorem nmJx8e188 : ∀ a, a < 0 → ∀ b, b < 0 → a ≠ b → (TJx8e188 a).2.1 ≠ (TJx8e188 b).2.1 := by decide +kernel
theorem tyJx8e188_ok : ∀ k, k < 0 → parseFieldDescriptor (TJx8e188 k).2.2.1 = some (tyJx8e188 k) := by decide +kernel
def RJ6 : String := "java/lang/Integer"
def TJ6 : u_T := fun k => match k with
  | _ => ("", "", "", false)
def tyJ6 : Nat → FieldType := fun k => match k with
  | _ => .int
abbrev wsJ60 : List Cond := u_ws RJ6 TJ6 0
theorem nmJ6 : ∀ a, a < 0 → ∀ b, b < 0 → a ≠ b → (TJ6 a).2.1 ≠ (TJ6 b).2.1 := by decide +kernel
theorem tyJ6_ok : ∀ k, k < 0 → parseFieldDescriptor (TJ6 k).2.2.1 = some (tyJ6 k) := by decide +kernel
abbrev cJ6_bitCount_0f7a4 : ByteArray := prog_9_method_49_code
def yJ6_bitCount_0f7a4 : MethodName := ⟨RJ6, "bitCount", "(I)I"⟩
def RJ9 : String := "java/lang/Math"
def TJ9 : u_T := fun k => match k with
  | _ => ("", "", "", false)
def tyJ9 : Nat → FieldType := fun k => match k with
  | _ => .int
abbrev wsJ90 : List Cond := u_ws RJ9 TJ9 0
theorem nmJ9 : ∀ a, a < 0 → ∀ b, b < 0 → a ≠ b → (TJ9 a).2.1 ≠ (TJ9 b).2.1 := by decide +kernel
theorem tyJ9_ok : ∀ k, k < 0 → parseFieldDescriptor (TJ9 k).2.2.1 = some (tyJ9 k) := by decide +kernel
abbrev cJ9_abs_0f7a4 : ByteArray := prog_10_method_59_code
def yJ9_abs_0f7a4 : MethodName := ⟨RJ9, "abs", "(I)I"⟩
abbrev cJ9_max_7cf53 : ByteArray := prog_10_method_65_code
def yJ9_max_7cf53 : MethodName := ⟨RJ9, "max", "(II)I"⟩
abbrev cJ9_min_7cf53 : ByteArray := prog_10_method_69_code
def yJ9_min_7cf53 : MethodName := ⟨RJ9, "min", "(II)I"⟩
abbrev cJ9_min_f86c9 : ByteArray := prog_10_method_70_code
def yJ9_min_f86c9 : MethodName := ⟨RJ9, "min", "(JJ)J"⟩
def RJ10 : String := "java/lang/System"
def TJ10 : u_T := fun k => match k with
  | _ => ("", "", "", false)
def tyJ10 : Nat → FieldType := fun k => match k with
  | _ => .int
abbrev wsJ100 : List Cond := u_ws RJ10 TJ10 0
theorem nmJ10 : ∀ a, a < 0 → ∀ b, b < 0 → a ≠ b → (TJ10 a).2.1 ≠ (TJ10 b).2.1 := by decide +kernel
theorem tyJ10_ok : ∀ k, k < 0 → parseFieldDescriptor (TJ10 k).2.2.1 = some (tyJ10 k) := by decide +kernel
def RJ7 : String := "java/util/Arrays"
def TJ7 : u_T := fun k => match k with
  | _ => ("", "", "", false)
def tyJ7 : Nat → FieldType := fun k => match k with
  | _ => .int
abbrev wsJ70 : List Cond := u_ws RJ7 TJ7 0
theorem nmJ7 : ∀ a, a < 0 → ∀ b, b < 0 → a ≠ b → (TJ7 a).2.1 ≠ (TJ7 b).2.1 := by decide +kernel
theorem tyJ7_ok : ∀ k, k < 0 → parseFieldDescriptor (TJ7 k).2.2.1 = some (tyJ7 k) := by decide +kernel
abbrev cJ7_fill_53178 : ByteArray := prog_12_method_103_code
def yJ7_fill_53178 : MethodName := ⟨RJ7, "fill", "([II)V"⟩
def RL : String := "LotFencesLaw"
abbrev cL_law : ByteArray := code
def yL_law : MethodName := ⟨RL, "law", "([I)Z"⟩
theorem inJx8e188 : ∀ w ∈ wsJx8e1880, w ∈ lw_tbl := by decide +kernel
theorem inJ6 : ∀ w ∈ wsJ60, w ∈ lw_tbl := by decide +kernel
theorem inJ9 : ∀ w ∈ wsJ90, w ∈ lw_tbl := by decide +kernel
theorem inJ10 : ∀ w ∈ wsJ100, w ∈ lw_tbl := by decide +kernel
theorem inJ7 : ∀ w ∈ wsJ70, w ∈ lw_tbl := by decide +kernel
abbrev vwCl : List vw_C := [(RX0, TX0, 3), (RX1, TX1, 7), (RX2, TX2, 17), (RX3, TX3, 10), (RX4, TX4, 6), (RX5, TX5, 12)]
