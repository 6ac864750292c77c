section
-- ===== PART A: goes FIRST, ahead of the names: the tables' words, and 'selects' of the private methods out of them =====
/-- a private method of a class that the tables say can be made, by its rows of tables_1 -/
def lw_okq (q : MethodName × Nat) : Prop := (q.1.cls ≠ "java/lang/invoke/MethodHandle" ∧ q.1.cls ≠ "java/lang/invoke/VarHandle") ∧ Cond.instantiable q.1.cls q.2 ∈ tables_1 ∧ Cond.privateMethod q.1 ∈ tables_1 ∧ Cond.instanceMethod q.1 ∈ tables_1
theorem lw_p0 : lw_okq (⟨"LotFences$History", "dropOldest", "()V"⟩, 3) := ⟨⟨by decide +kernel, by decide +kernel⟩, List.mem_of_getElem? (i := 192) (by decide +kernel), List.mem_of_getElem? (i := 248) (by decide +kernel), List.mem_of_getElem? (i := 249) (by decide +kernel)⟩
theorem lw_p1 : lw_okq (⟨"LotFences$Works", "openPlans", "()V"⟩, 10) := ⟨⟨by decide +kernel, by decide +kernel⟩, List.mem_of_getElem? (i := 20) (by decide +kernel), List.mem_of_getElem? (i := 342) (by decide +kernel), List.mem_of_getElem? (i := 343) (by decide +kernel)⟩
theorem lw_p2 : lw_okq (⟨"LotFences$Works", "planWeek", "(I)V"⟩, 10) := ⟨⟨by decide +kernel, by decide +kernel⟩, List.mem_of_getElem? (i := 20) (by decide +kernel), List.mem_of_getElem? (i := 357) (by decide +kernel), List.mem_of_getElem? (i := 358) (by decide +kernel)⟩
theorem lw_p3 : lw_okq (⟨"LotFences$Works", "nextWaiting", "()LLotFences$Product;"⟩, 10) := ⟨⟨by decide +kernel, by decide +kernel⟩, List.mem_of_getElem? (i := 20) (by decide +kernel), List.mem_of_getElem? (i := 370) (by decide +kernel), List.mem_of_getElem? (i := 371) (by decide +kernel)⟩
theorem lw_p4 : lw_okq (⟨"LotFences$Works", "giveLots", "(LLotFences$Product;I)V"⟩, 10) := ⟨⟨by decide +kernel, by decide +kernel⟩, List.mem_of_getElem? (i := 20) (by decide +kernel), List.mem_of_getElem? (i := 374) (by decide +kernel), List.mem_of_getElem? (i := 375) (by decide +kernel)⟩
theorem lw_p5 : lw_okq (⟨"LotFences$Works", "isShort", "()Z"⟩, 10) := ⟨⟨by decide +kernel, by decide +kernel⟩, List.mem_of_getElem? (i := 20) (by decide +kernel), List.mem_of_getElem? (i := 490) (by decide +kernel), List.mem_of_getElem? (i := 491) (by decide +kernel)⟩
theorem lw_p6 : lw_okq (⟨"LotFences$Pad", "signHere", "()C"⟩, 7) := ⟨⟨by decide +kernel, by decide +kernel⟩, List.mem_of_getElem? (i := 157) (by decide +kernel), List.mem_of_getElem? (i := 543) (by decide +kernel), List.mem_of_getElem? (i := 544) (by decide +kernel)⟩
theorem lw_p7 : lw_okq (⟨"LotFences$Pad", "readProduct", "()Z"⟩, 7) := ⟨⟨by decide +kernel, by decide +kernel⟩, List.mem_of_getElem? (i := 157) (by decide +kernel), List.mem_of_getElem? (i := 551) (by decide +kernel), List.mem_of_getElem? (i := 552) (by decide +kernel)⟩
theorem lw_p8 : lw_okq (⟨"LotFences$Pad", "digitHere", "()I"⟩, 7) := ⟨⟨by decide +kernel, by decide +kernel⟩, List.mem_of_getElem? (i := 157) (by decide +kernel), List.mem_of_getElem? (i := 555) (by decide +kernel), List.mem_of_getElem? (i := 556) (by decide +kernel)⟩
theorem lw_p9 : lw_okq (⟨"LotFences$Pad", "readWeek", "()Z"⟩, 7) := ⟨⟨by decide +kernel, by decide +kernel⟩, List.mem_of_getElem? (i := 157) (by decide +kernel), List.mem_of_getElem? (i := 559) (by decide +kernel), List.mem_of_getElem? (i := 560) (by decide +kernel)⟩
theorem lw_p10 : lw_okq (⟨"LotFences$Pad", "readNumber", "()Z"⟩, 7) := ⟨⟨by decide +kernel, by decide +kernel⟩, List.mem_of_getElem? (i := 157) (by decide +kernel), List.mem_of_getElem? (i := 563) (by decide +kernel), List.mem_of_getElem? (i := 564) (by decide +kernel)⟩
theorem lw_p11 : lw_okq (⟨"LotFences", "carryAct", "()I"⟩, 6) := ⟨⟨by decide +kernel, by decide +kernel⟩, List.mem_of_getElem? (i := 12) (by decide +kernel), List.mem_of_getElem? (i := 577) (by decide +kernel), List.mem_of_getElem? (i := 578) (by decide +kernel)⟩
theorem lw_p12 : lw_okq (⟨"LotFencesModel", "brings", "(I)V"⟩, 12) := ⟨⟨by decide +kernel, by decide +kernel⟩, List.mem_of_getElem? (i := 605) (by decide +kernel), List.mem_of_getElem? (i := 659) (by decide +kernel), List.mem_of_getElem? (i := 660) (by decide +kernel)⟩
theorem lw_p13 : lw_okq (⟨"LotFencesModel", "keeps", "(I)V"⟩, 12) := ⟨⟨by decide +kernel, by decide +kernel⟩, List.mem_of_getElem? (i := 605) (by decide +kernel), List.mem_of_getElem? (i := 670) (by decide +kernel), List.mem_of_getElem? (i := 671) (by decide +kernel)⟩
theorem lw_p14 : lw_okq (⟨"LotFencesModel", "records", "()V"⟩, 12) := ⟨⟨by decide +kernel, by decide +kernel⟩, List.mem_of_getElem? (i := 605) (by decide +kernel), List.mem_of_getElem? (i := 678) (by decide +kernel), List.mem_of_getElem? (i := 679) (by decide +kernel)⟩
theorem lw_p15 : lw_okq (⟨"LotFencesModel", "setting", "(I)J"⟩, 12) := ⟨⟨by decide +kernel, by decide +kernel⟩, List.mem_of_getElem? (i := 605) (by decide +kernel), List.mem_of_getElem? (i := 693) (by decide +kernel), List.mem_of_getElem? (i := 694) (by decide +kernel)⟩
def lw_privs_1 : List (MethodName × Nat) := [(⟨"LotFences$History", "dropOldest", "()V"⟩, 3), (⟨"LotFences$Works", "openPlans", "()V"⟩, 10), (⟨"LotFences$Works", "planWeek", "(I)V"⟩, 10), (⟨"LotFences$Works", "nextWaiting", "()LLotFences$Product;"⟩, 10), (⟨"LotFences$Works", "giveLots", "(LLotFences$Product;I)V"⟩, 10), (⟨"LotFences$Works", "isShort", "()Z"⟩, 10), (⟨"LotFences$Pad", "signHere", "()C"⟩, 7), (⟨"LotFences$Pad", "readProduct", "()Z"⟩, 7), (⟨"LotFences$Pad", "digitHere", "()I"⟩, 7), (⟨"LotFences$Pad", "readWeek", "()Z"⟩, 7), (⟨"LotFences$Pad", "readNumber", "()Z"⟩, 7), (⟨"LotFences", "carryAct", "()I"⟩, 6), (⟨"LotFencesModel", "brings", "(I)V"⟩, 12), (⟨"LotFencesModel", "keeps", "(I)V"⟩, 12), (⟨"LotFencesModel", "records", "()V"⟩, 12), (⟨"LotFencesModel", "setting", "(I)J"⟩, 12)]
theorem lw_r1 : ∀ q ∈ lw_privs_1, lw_okq q := List.forall_mem_cons.mpr ⟨lw_p0, List.forall_mem_cons.mpr ⟨lw_p1, List.forall_mem_cons.mpr ⟨lw_p2, List.forall_mem_cons.mpr ⟨lw_p3, List.forall_mem_cons.mpr ⟨lw_p4, List.forall_mem_cons.mpr ⟨lw_p5, List.forall_mem_cons.mpr ⟨lw_p6, List.forall_mem_cons.mpr ⟨lw_p7, List.forall_mem_cons.mpr ⟨lw_p8, List.forall_mem_cons.mpr ⟨lw_p9, List.forall_mem_cons.mpr ⟨lw_p10, List.forall_mem_cons.mpr ⟨lw_p11, List.forall_mem_cons.mpr ⟨lw_p12, List.forall_mem_cons.mpr ⟨lw_p13, List.forall_mem_cons.mpr ⟨lw_p14, List.forall_mem_cons.mpr ⟨lw_p15, fun _ h => absurd h List.not_mem_nil⟩⟩⟩⟩⟩⟩⟩⟩⟩⟩⟩⟩⟩⟩⟩⟩
theorem lw_p16 : lw_okq (⟨"LotFencesModel", "becomes", "(IIJ)V"⟩, 12) := ⟨⟨by decide +kernel, by decide +kernel⟩, List.mem_of_getElem? (i := 605) (by decide +kernel), List.mem_of_getElem? (i := 703) (by decide +kernel), List.mem_of_getElem? (i := 704) (by decide +kernel)⟩
theorem lw_p17 : lw_okq (⟨"LotFencesModel", "plans", "()V"⟩, 12) := ⟨⟨by decide +kernel, by decide +kernel⟩, List.mem_of_getElem? (i := 605) (by decide +kernel), List.mem_of_getElem? (i := 716) (by decide +kernel), List.mem_of_getElem? (i := 717) (by decide +kernel)⟩
theorem lw_p18 : lw_okq (⟨"LotFencesModel", "fence", "()I"⟩, 12) := ⟨⟨by decide +kernel, by decide +kernel⟩, List.mem_of_getElem? (i := 605) (by decide +kernel), List.mem_of_getElem? (i := 720) (by decide +kernel), List.mem_of_getElem? (i := 721) (by decide +kernel)⟩
theorem lw_p19 : lw_okq (⟨"LotFencesModel", "plansWeek", "(I)V"⟩, 12) := ⟨⟨by decide +kernel, by decide +kernel⟩, List.mem_of_getElem? (i := 605) (by decide +kernel), List.mem_of_getElem? (i := 724) (by decide +kernel), List.mem_of_getElem? (i := 725) (by decide +kernel)⟩
theorem lw_p20 : lw_okq (⟨"LotFencesModel", "nextOf", "(II)I"⟩, 12) := ⟨⟨by decide +kernel, by decide +kernel⟩, List.mem_of_getElem? (i := 605) (by decide +kernel), List.mem_of_getElem? (i := 728) (by decide +kernel), List.mem_of_getElem? (i := 729) (by decide +kernel)⟩
theorem lw_p21 : lw_okq (⟨"LotFencesModel", "project", "(II)J"⟩, 12) := ⟨⟨by decide +kernel, by decide +kernel⟩, List.mem_of_getElem? (i := 605) (by decide +kernel), List.mem_of_getElem? (i := 732) (by decide +kernel), List.mem_of_getElem? (i := 733) (by decide +kernel)⟩
theorem lw_p22 : lw_okq (⟨"LotFencesModel", "ofP", "(II)J"⟩, 12) := ⟨⟨by decide +kernel, by decide +kernel⟩, List.mem_of_getElem? (i := 605) (by decide +kernel), List.mem_of_getElem? (i := 736) (by decide +kernel), List.mem_of_getElem? (i := 737) (by decide +kernel)⟩
theorem lw_p23 : lw_okq (⟨"LotFencesModel", "cover", "(I)J"⟩, 12) := ⟨⟨by decide +kernel, by decide +kernel⟩, List.mem_of_getElem? (i := 605) (by decide +kernel), List.mem_of_getElem? (i := 740) (by decide +kernel), List.mem_of_getElem? (i := 741) (by decide +kernel)⟩
theorem lw_p24 : lw_okq (⟨"LotFencesModel", "wanted", "(II)J"⟩, 12) := ⟨⟨by decide +kernel, by decide +kernel⟩, List.mem_of_getElem? (i := 605) (by decide +kernel), List.mem_of_getElem? (i := 744) (by decide +kernel), List.mem_of_getElem? (i := 745) (by decide +kernel)⟩
theorem lw_p25 : lw_okq (⟨"LotFencesModel", "room", "(II)J"⟩, 12) := ⟨⟨by decide +kernel, by decide +kernel⟩, List.mem_of_getElem? (i := 605) (by decide +kernel), List.mem_of_getElem? (i := 748) (by decide +kernel), List.mem_of_getElem? (i := 749) (by decide +kernel)⟩
theorem lw_p26 : lw_okq (⟨"LotFencesModel", "mostHours", "()J"⟩, 12) := ⟨⟨by decide +kernel, by decide +kernel⟩, List.mem_of_getElem? (i := 605) (by decide +kernel), List.mem_of_getElem? (i := 752) (by decide +kernel), List.mem_of_getElem? (i := 753) (by decide +kernel)⟩
theorem lw_p27 : lw_okq (⟨"LotFencesModel", "hoursOf", "(I)J"⟩, 12) := ⟨⟨by decide +kernel, by decide +kernel⟩, List.mem_of_getElem? (i := 605) (by decide +kernel), List.mem_of_getElem? (i := 756) (by decide +kernel), List.mem_of_getElem? (i := 757) (by decide +kernel)⟩
theorem lw_p28 : lw_okq (⟨"LotFencesModel", "isMade", "(II)Z"⟩, 12) := ⟨⟨by decide +kernel, by decide +kernel⟩, List.mem_of_getElem? (i := 605) (by decide +kernel), List.mem_of_getElem? (i := 760) (by decide +kernel), List.mem_of_getElem? (i := 761) (by decide +kernel)⟩
theorem lw_p29 : lw_okq (⟨"LotFencesModel", "familiesIn", "(I)I"⟩, 12) := ⟨⟨by decide +kernel, by decide +kernel⟩, List.mem_of_getElem? (i := 605) (by decide +kernel), List.mem_of_getElem? (i := 764) (by decide +kernel), List.mem_of_getElem? (i := 765) (by decide +kernel)⟩
theorem lw_p30 : lw_okq (⟨"LotFencesModel", "lotsInAll", "()I"⟩, 12) := ⟨⟨by decide +kernel, by decide +kernel⟩, List.mem_of_getElem? (i := 605) (by decide +kernel), List.mem_of_getElem? (i := 769) (by decide +kernel), List.mem_of_getElem? (i := 770) (by decide +kernel)⟩
theorem lw_p31 : lw_okq (⟨"LotFencesModel", "forecastError", "(III)I"⟩, 12) := ⟨⟨by decide +kernel, by decide +kernel⟩, List.mem_of_getElem? (i := 605) (by decide +kernel), List.mem_of_getElem? (i := 777) (by decide +kernel), List.mem_of_getElem? (i := 778) (by decide +kernel)⟩
def lw_privs_2 : List (MethodName × Nat) := [(⟨"LotFencesModel", "becomes", "(IIJ)V"⟩, 12), (⟨"LotFencesModel", "plans", "()V"⟩, 12), (⟨"LotFencesModel", "fence", "()I"⟩, 12), (⟨"LotFencesModel", "plansWeek", "(I)V"⟩, 12), (⟨"LotFencesModel", "nextOf", "(II)I"⟩, 12), (⟨"LotFencesModel", "project", "(II)J"⟩, 12), (⟨"LotFencesModel", "ofP", "(II)J"⟩, 12), (⟨"LotFencesModel", "cover", "(I)J"⟩, 12), (⟨"LotFencesModel", "wanted", "(II)J"⟩, 12), (⟨"LotFencesModel", "room", "(II)J"⟩, 12), (⟨"LotFencesModel", "mostHours", "()J"⟩, 12), (⟨"LotFencesModel", "hoursOf", "(I)J"⟩, 12), (⟨"LotFencesModel", "isMade", "(II)Z"⟩, 12), (⟨"LotFencesModel", "familiesIn", "(I)I"⟩, 12), (⟨"LotFencesModel", "lotsInAll", "()I"⟩, 12), (⟨"LotFencesModel", "forecastError", "(III)I"⟩, 12)]
theorem lw_r2 : ∀ q ∈ lw_privs_2, lw_okq q := List.forall_mem_cons.mpr ⟨lw_p16, List.forall_mem_cons.mpr ⟨lw_p17, List.forall_mem_cons.mpr ⟨lw_p18, List.forall_mem_cons.mpr ⟨lw_p19, List.forall_mem_cons.mpr ⟨lw_p20, List.forall_mem_cons.mpr ⟨lw_p21, List.forall_mem_cons.mpr ⟨lw_p22, List.forall_mem_cons.mpr ⟨lw_p23, List.forall_mem_cons.mpr ⟨lw_p24, List.forall_mem_cons.mpr ⟨lw_p25, List.forall_mem_cons.mpr ⟨lw_p26, List.forall_mem_cons.mpr ⟨lw_p27, List.forall_mem_cons.mpr ⟨lw_p28, List.forall_mem_cons.mpr ⟨lw_p29, List.forall_mem_cons.mpr ⟨lw_p30, List.forall_mem_cons.mpr ⟨lw_p31, fun _ h => absurd h List.not_mem_nil⟩⟩⟩⟩⟩⟩⟩⟩⟩⟩⟩⟩⟩⟩⟩⟩
theorem lw_p32 : lw_okq (⟨"LotFencesModel", "isProduct", "(I)Z"⟩, 12) := ⟨⟨by decide +kernel, by decide +kernel⟩, List.mem_of_getElem? (i := 605) (by decide +kernel), List.mem_of_getElem? (i := 781) (by decide +kernel), List.mem_of_getElem? (i := 782) (by decide +kernel)⟩
theorem lw_p33 : lw_okq (⟨"LotFencesModel", "forecasts", "(III)I"⟩, 12) := ⟨⟨by decide +kernel, by decide +kernel⟩, List.mem_of_getElem? (i := 605) (by decide +kernel), List.mem_of_getElem? (i := 789) (by decide +kernel), List.mem_of_getElem? (i := 790) (by decide +kernel)⟩
theorem lw_p34 : lw_okq (⟨"LotFencesModel", "actualError", "(II)I"⟩, 12) := ⟨⟨by decide +kernel, by decide +kernel⟩, List.mem_of_getElem? (i := 605) (by decide +kernel), List.mem_of_getElem? (i := 797) (by decide +kernel), List.mem_of_getElem? (i := 798) (by decide +kernel)⟩
theorem lw_p35 : lw_okq (⟨"LotFencesModel", "tells", "(II)I"⟩, 12) := ⟨⟨by decide +kernel, by decide +kernel⟩, List.mem_of_getElem? (i := 605) (by decide +kernel), List.mem_of_getElem? (i := 802) (by decide +kernel), List.mem_of_getElem? (i := 803) (by decide +kernel)⟩
theorem lw_p36 : lw_okq (⟨"LotFencesModel", "lotsError", "(III)I"⟩, 12) := ⟨⟨by decide +kernel, by decide +kernel⟩, List.mem_of_getElem? (i := 605) (by decide +kernel), List.mem_of_getElem? (i := 810) (by decide +kernel), List.mem_of_getElem? (i := 811) (by decide +kernel)⟩
theorem lw_p37 : lw_okq (⟨"LotFencesModel", "plansLots", "(III)I"⟩, 12) := ⟨⟨by decide +kernel, by decide +kernel⟩, List.mem_of_getElem? (i := 605) (by decide +kernel), List.mem_of_getElem? (i := 814) (by decide +kernel), List.mem_of_getElem? (i := 815) (by decide +kernel)⟩
theorem lw_p38 : lw_okq (⟨"LotFencesModel", "passesWeeks", "(I)I"⟩, 12) := ⟨⟨by decide +kernel, by decide +kernel⟩, List.mem_of_getElem? (i := 605) (by decide +kernel), List.mem_of_getElem? (i := 823) (by decide +kernel), List.mem_of_getElem? (i := 824) (by decide +kernel)⟩
theorem lw_p39 : lw_okq (⟨"LotFencesModel", "passes", "()V"⟩, 12) := ⟨⟨by decide +kernel, by decide +kernel⟩, List.mem_of_getElem? (i := 605) (by decide +kernel), List.mem_of_getElem? (i := 827) (by decide +kernel), List.mem_of_getElem? (i := 828) (by decide +kernel)⟩
theorem lw_p40 : lw_okq (⟨"LotFencesModel", "ships", "(I)V"⟩, 12) := ⟨⟨by decide +kernel, by decide +kernel⟩, List.mem_of_getElem? (i := 605) (by decide +kernel), List.mem_of_getElem? (i := 831) (by decide +kernel), List.mem_of_getElem? (i := 832) (by decide +kernel)⟩
theorem lw_p41 : lw_okq (⟨"LotFencesModel", "setupsOf", "(I)I"⟩, 12) := ⟨⟨by decide +kernel, by decide +kernel⟩, List.mem_of_getElem? (i := 605) (by decide +kernel), List.mem_of_getElem? (i := 836) (by decide +kernel), List.mem_of_getElem? (i := 837) (by decide +kernel)⟩
theorem lw_p42 : lw_okq (⟨"LotFencesModel", "overtimeOf", "(I)J"⟩, 12) := ⟨⟨by decide +kernel, by decide +kernel⟩, List.mem_of_getElem? (i := 605) (by decide +kernel), List.mem_of_getElem? (i := 840) (by decide +kernel), List.mem_of_getElem? (i := 841) (by decide +kernel)⟩
theorem lw_p43 : lw_okq (⟨"LotFencesModel", "sumOf", "(I)J"⟩, 12) := ⟨⟨by decide +kernel, by decide +kernel⟩, List.mem_of_getElem? (i := 605) (by decide +kernel), List.mem_of_getElem? (i := 844) (by decide +kernel), List.mem_of_getElem? (i := 845) (by decide +kernel)⟩
theorem lw_p44 : lw_okq (⟨"LotFencesModel", "rolls", "(I)V"⟩, 12) := ⟨⟨by decide +kernel, by decide +kernel⟩, List.mem_of_getElem? (i := 605) (by decide +kernel), List.mem_of_getElem? (i := 848) (by decide +kernel), List.mem_of_getElem? (i := 849) (by decide +kernel)⟩
theorem lw_p45 : lw_okq (⟨"LotFencesModel", "does", "()Z"⟩, 12) := ⟨⟨by decide +kernel, by decide +kernel⟩, List.mem_of_getElem? (i := 605) (by decide +kernel), List.mem_of_getElem? (i := 889) (by decide +kernel), List.mem_of_getElem? (i := 890) (by decide +kernel)⟩
theorem lw_p46 : lw_okq (⟨"LotFencesModel", "costsBy", "(II)J"⟩, 12) := ⟨⟨by decide +kernel, by decide +kernel⟩, List.mem_of_getElem? (i := 605) (by decide +kernel), List.mem_of_getElem? (i := 897) (by decide +kernel), List.mem_of_getElem? (i := 898) (by decide +kernel)⟩
theorem lw_p47 : lw_okq (⟨"LotFencesModel", "passesAct", "()Z"⟩, 12) := ⟨⟨by decide +kernel, by decide +kernel⟩, List.mem_of_getElem? (i := 605) (by decide +kernel), List.mem_of_getElem? (i := 924) (by decide +kernel), List.mem_of_getElem? (i := 925) (by decide +kernel)⟩
def lw_privs_3 : List (MethodName × Nat) := [(⟨"LotFencesModel", "isProduct", "(I)Z"⟩, 12), (⟨"LotFencesModel", "forecasts", "(III)I"⟩, 12), (⟨"LotFencesModel", "actualError", "(II)I"⟩, 12), (⟨"LotFencesModel", "tells", "(II)I"⟩, 12), (⟨"LotFencesModel", "lotsError", "(III)I"⟩, 12), (⟨"LotFencesModel", "plansLots", "(III)I"⟩, 12), (⟨"LotFencesModel", "passesWeeks", "(I)I"⟩, 12), (⟨"LotFencesModel", "passes", "()V"⟩, 12), (⟨"LotFencesModel", "ships", "(I)V"⟩, 12), (⟨"LotFencesModel", "setupsOf", "(I)I"⟩, 12), (⟨"LotFencesModel", "overtimeOf", "(I)J"⟩, 12), (⟨"LotFencesModel", "sumOf", "(I)J"⟩, 12), (⟨"LotFencesModel", "rolls", "(I)V"⟩, 12), (⟨"LotFencesModel", "does", "()Z"⟩, 12), (⟨"LotFencesModel", "costsBy", "(II)J"⟩, 12), (⟨"LotFencesModel", "passesAct", "()Z"⟩, 12)]
theorem lw_r3 : ∀ q ∈ lw_privs_3, lw_okq q := List.forall_mem_cons.mpr ⟨lw_p32, List.forall_mem_cons.mpr ⟨lw_p33, List.forall_mem_cons.mpr ⟨lw_p34, List.forall_mem_cons.mpr ⟨lw_p35, List.forall_mem_cons.mpr ⟨lw_p36, List.forall_mem_cons.mpr ⟨lw_p37, List.forall_mem_cons.mpr ⟨lw_p38, List.forall_mem_cons.mpr ⟨lw_p39, List.forall_mem_cons.mpr ⟨lw_p40, List.forall_mem_cons.mpr ⟨lw_p41, List.forall_mem_cons.mpr ⟨lw_p42, List.forall_mem_cons.mpr ⟨lw_p43, List.forall_mem_cons.mpr ⟨lw_p44, List.forall_mem_cons.mpr ⟨lw_p45, List.forall_mem_cons.mpr ⟨lw_p46, List.forall_mem_cons.mpr ⟨lw_p47, fun _ h => absurd h List.not_mem_nil⟩⟩⟩⟩⟩⟩⟩⟩⟩⟩⟩⟩⟩⟩⟩⟩
theorem lw_p48 : lw_okq (⟨"LotFencesModel", "passesNumber", "()Z"⟩, 12) := ⟨⟨by decide +kernel, by decide +kernel⟩, List.mem_of_getElem? (i := 605) (by decide +kernel), List.mem_of_getElem? (i := 928) (by decide +kernel), List.mem_of_getElem? (i := 929) (by decide +kernel)⟩
theorem lw_p49 : lw_okq (⟨"LotFencesModel", "passesOne", "(II)Z"⟩, 12) := ⟨⟨by decide +kernel, by decide +kernel⟩, List.mem_of_getElem? (i := 605) (by decide +kernel), List.mem_of_getElem? (i := 932) (by decide +kernel), List.mem_of_getElem? (i := 933) (by decide +kernel)⟩
theorem lw_p50 : lw_okq (⟨"LotFencesModel", "isHere", "(II)Z"⟩, 12) := ⟨⟨by decide +kernel, by decide +kernel⟩, List.mem_of_getElem? (i := 605) (by decide +kernel), List.mem_of_getElem? (i := 936) (by decide +kernel), List.mem_of_getElem? (i := 937) (by decide +kernel)⟩
theorem lw_p51 : lw_okq (⟨"LotFencesModel", "passesNumbers", "(Z)Z"⟩, 12) := ⟨⟨by decide +kernel, by decide +kernel⟩, List.mem_of_getElem? (i := 605) (by decide +kernel), List.mem_of_getElem? (i := 940) (by decide +kernel), List.mem_of_getElem? (i := 941) (by decide +kernel)⟩
theorem lw_p52 : lw_okq (⟨"LotFencesModel", "acts", "()I"⟩, 12) := ⟨⟨by decide +kernel, by decide +kernel⟩, List.mem_of_getElem? (i := 605) (by decide +kernel), List.mem_of_getElem? (i := 949) (by decide +kernel), List.mem_of_getElem? (i := 950) (by decide +kernel)⟩
def lw_privs_4 : List (MethodName × Nat) := [(⟨"LotFencesModel", "passesNumber", "()Z"⟩, 12), (⟨"LotFencesModel", "passesOne", "(II)Z"⟩, 12), (⟨"LotFencesModel", "isHere", "(II)Z"⟩, 12), (⟨"LotFencesModel", "passesNumbers", "(Z)Z"⟩, 12), (⟨"LotFencesModel", "acts", "()I"⟩, 12)]
theorem lw_r4 : ∀ q ∈ lw_privs_4, lw_okq q := List.forall_mem_cons.mpr ⟨lw_p48, List.forall_mem_cons.mpr ⟨lw_p49, List.forall_mem_cons.mpr ⟨lw_p50, List.forall_mem_cons.mpr ⟨lw_p51, List.forall_mem_cons.mpr ⟨lw_p52, fun _ h => absurd h List.not_mem_nil⟩⟩⟩⟩⟩
def lw_privs : List (MethodName × Nat) := lw_privs_1 ++ (lw_privs_2 ++ (lw_privs_3 ++ (lw_privs_4)))
def lw_tbl : List Cond := k2_sels lw_privs ++ tables_1
theorem lw_privs_ok : ∀ q ∈ lw_privs, lw_okq q := by
  show ∀ q ∈ lw_privs_1 ++ (lw_privs_2 ++ (lw_privs_3 ++ (lw_privs_4))), lw_okq q
  exact List.forall_mem_append.mpr ⟨lw_r1, List.forall_mem_append.mpr ⟨lw_r2, List.forall_mem_append.mpr ⟨lw_r3, lw_r4⟩⟩⟩
-- ===== end of PART A; then your names; then what follows =====
/-! ===== BEGIN words of one list among another's, by their places ===== -/
theorem goodIn_r {big : List Cond} (ws : List Cond) (ps : List Nat) (hp : ws = ps.filterMap (fun i => big[i]?)) (h : ws.all goodWord = true) : GoodIn big ws := by
  intro w hw
  have h1 := List.all_eq_true.mp h w hw
  rw [hp] at hw
  obtain ⟨i, -, hi⟩ := List.mem_filterMap.mp hw
  have hm : w ∈ big := by first | exact List.mem_of_getElem? hi | exact List.getElem?_mem hi
  exact ⟨hm, good_of_word h1⟩
theorem goodIn_app {big a b : List Cond} (ha : GoodIn big a) (hb : GoodIn big b) : GoodIn big (a ++ b) := fun w h => (List.mem_append.mp h).elim (ha w) (hb w)
theorem goodIn_ca {big a b : List Cond} {c : Cond} (ha : GoodIn big (c :: a)) (hb : GoodIn big b) : GoodIn big (c :: (a ++ b)) := fun w h => (List.mem_cons.mp h).elim (fun e => ha w (List.mem_cons.mpr (Or.inl e))) (fun h => (List.mem_append.mp h).elim (fun h => ha w (List.mem_cons.mpr (Or.inr h))) (hb w))
theorem goodIn_sub {big ws : List Cond} (hm : ∀ w ∈ ws, w ∈ big) (h : ws.all goodWord = true) : GoodIn big ws := fun w hw => ⟨hm w hw, good_of_word (List.all_eq_true.mp h w hw)⟩
/-! ===== END ===== -/

/-! ===== BEGIN printed: names, fields, word lists, decode rows ===== -/
def RX0 : String := "LotFences$History"
def TX0 : u_T := fun k => match k with
  | 0 => ("LotFences$History", "states", "[LLotFences$Works;", true)
  | 1 => ("LotFences$History", "size", "I", false)
  | _ => ("LotFences$History", "paused", "Z", false)
def tyX0 : Nat → FieldType := fun k => match k with
  | 0 => .array (.object "LotFences$Works")
  | 1 => .int
  | _ => .boolean
abbrev wsX00 : List Cond := u_ws RX0 TX0 3
theorem nmX0 : ∀ a, a < 3 → ∀ b, b < 3 → a ≠ b → (TX0 a).2.1 ≠ (TX0 b).2.1 := by decide +kernel
theorem tyX0_ok : ∀ k, k < 3 → parseFieldDescriptor (TX0 k).2.2.1 = some (tyX0 k) := by decide +kernel
abbrev cX0_init : ByteArray := prog_2_method_1_code
def yX0_init : MethodName := ⟨RX0, "<init>", "()V"⟩
abbrev cX0_remember : ByteArray := prog_2_method_2_code
def yX0_remember : MethodName := ⟨RX0, "remember", "(LLotFences$Works;)V"⟩
abbrev cX0_takeBack : ByteArray := prog_2_method_3_code
def yX0_takeBack : MethodName := ⟨RX0, "takeBack", "(LLotFences$Works;)V"⟩
abbrev cX0_dropOldest : ByteArray := prog_2_method_4_code
def yX0_dropOldest : MethodName := ⟨RX0, "dropOldest", "()V"⟩
def RX1 : String := "LotFences$Pad"
def TX1 : u_T := fun k => match k with
  | 0 => ("LotFences$Pad", "signs", "[C", true)
  | 1 => ("LotFences$Pad", "length", "I", false)
  | 2 => ("LotFences$Pad", "place", "I", false)
  | 3 => ("LotFences$Pad", "kind", "C", false)
  | 4 => ("LotFences$Pad", "product", "I", false)
  | 5 => ("LotFences$Pad", "week", "I", false)
  | _ => ("LotFences$Pad", "number", "I", false)
def tyX1 : Nat → FieldType := fun k => match k with
  | 0 => .array .char
  | 1 => .int
  | 2 => .int
  | 3 => .char
  | 4 => .int
  | 5 => .int
  | _ => .int
abbrev wsX10 : List Cond := u_ws RX1 TX1 7
theorem nmX1 : ∀ a, a < 7 → ∀ b, b < 7 → a ≠ b → (TX1 a).2.1 ≠ (TX1 b).2.1 := by decide +kernel
theorem tyX1_ok : ∀ k, k < 7 → parseFieldDescriptor (TX1 k).2.2.1 = some (tyX1 k) := by decide +kernel
abbrev cX1_init : ByteArray := prog_3_method_1_code
def yX1_init : MethodName := ⟨RX1, "<init>", "()V"⟩
abbrev cX1_signsIn : ByteArray := prog_3_method_2_code
def yX1_signsIn : MethodName := ⟨RX1, "signsIn", "(J)I"⟩
abbrev cX1_append : ByteArray := prog_3_method_3_code
def yX1_append : MethodName := ⟨RX1, "append", "(JI)V"⟩
abbrev cX1_startReading : ByteArray := prog_3_method_4_code
def yX1_startReading : MethodName := ⟨RX1, "startReading", "()V"⟩
abbrev cX1_isAtEnd : ByteArray := prog_3_method_5_code
def yX1_isAtEnd : MethodName := ⟨RX1, "isAtEnd", "()Z"⟩
abbrev cX1_readAct : ByteArray := prog_3_method_6_code
def yX1_readAct : MethodName := ⟨RX1, "readAct", "()Z"⟩
abbrev cX1_readSign : ByteArray := prog_3_method_7_code
def yX1_readSign : MethodName := ⟨RX1, "readSign", "(C)Z"⟩
abbrev cX1_readProduct : ByteArray := prog_3_method_8_code
def yX1_readProduct : MethodName := ⟨RX1, "readProduct", "()Z"⟩
abbrev cX1_readWeek : ByteArray := prog_3_method_9_code
def yX1_readWeek : MethodName := ⟨RX1, "readWeek", "()Z"⟩
abbrev cX1_readNumber : ByteArray := prog_3_method_10_code
def yX1_readNumber : MethodName := ⟨RX1, "readNumber", "()Z"⟩
abbrev cX1_digitHere : ByteArray := prog_3_method_11_code
def yX1_digitHere : MethodName := ⟨RX1, "digitHere", "()I"⟩
abbrev cX1_signHere : ByteArray := prog_3_method_12_code
def yX1_signHere : MethodName := ⟨RX1, "signHere", "()C"⟩
def RX2 : String := "LotFences$Product"
def TX2 : u_T := fun k => match k with
  | 0 => ("LotFences$Product", "family", "I", false)
  | 1 => ("LotFences$Product", "lotSize", "I", false)
  | 2 => ("LotFences$Product", "lotHours", "I", false)
  | 3 => ("LotFences$Product", "setupHours", "I", false)
  | 4 => ("LotFences$Product", "began", "I", false)
  | 5 => ("LotFences$Product", "stock", "I", false)
  | 6 => ("LotFences$Product", "backlog", "I", false)
  | 7 => ("LotFences$Product", "error", "I", false)
  | 8 => ("LotFences$Product", "told", "I", false)
  | 9 => ("LotFences$Product", "made", "I", false)
  | 10 => ("LotFences$Product", "shipped", "I", false)
  | 11 => ("LotFences$Product", "came", "I", false)
  | 12 => ("LotFences$Product", "forecasts", "[I", true)
  | 13 => ("LotFences$Product", "lots", "[I", true)
  | 14 => ("LotFences$Product", "behind", "J", false)
  | 15 => ("LotFences$Product", "aim", "I", false)
  | _ => ("LotFences$Product", "waiting", "Z", false)
def tyX2 : Nat → FieldType := fun k => match k with
  | 0 => .int
  | 1 => .int
  | 2 => .int
  | 3 => .int
  | 4 => .int
  | 5 => .int
  | 6 => .int
  | 7 => .int
  | 8 => .int
  | 9 => .int
  | 10 => .int
  | 11 => .int
  | 12 => .array .int
  | 13 => .array .int
  | 14 => .long
  | 15 => .int
  | _ => .boolean
abbrev wsX20 : List Cond := u_ws RX2 TX2 17
theorem nmX2 : ∀ a, a < 17 → ∀ b, b < 17 → a ≠ b → (TX2 a).2.1 ≠ (TX2 b).2.1 := by decide +kernel
theorem tyX2_ok : ∀ k, k < 17 → parseFieldDescriptor (TX2 k).2.2.1 = some (tyX2 k) := by decide +kernel
abbrev cX2_init : ByteArray := prog_4_method_1_code
def yX2_init : MethodName := ⟨RX2, "<init>", "()V"⟩
abbrev cX2_begin : ByteArray := prog_4_method_2_code
def yX2_begin : MethodName := ⟨RX2, "begin", "(IIIII)V"⟩
abbrev cX2_copyFrom : ByteArray := prog_4_method_3_code
def yX2_copyFrom : MethodName := ⟨RX2, "copyFrom", "(LLotFences$Product;)V"⟩
abbrev cX2_cover : ByteArray := prog_4_method_4_code
def yX2_cover : MethodName := ⟨RX2, "cover", "(I)I"⟩
abbrev cX2_lotsIn : ByteArray := prog_4_method_5_code
def yX2_lotsIn : MethodName := ⟨RX2, "lotsIn", "(I)I"⟩
abbrev cX2_lotsInAll : ByteArray := prog_4_method_6_code
def yX2_lotsInAll : MethodName := ⟨RX2, "lotsInAll", "()I"⟩
abbrev cX2_projectionBehind : ByteArray := prog_4_method_7_code
def yX2_projectionBehind : MethodName := ⟨RX2, "projectionBehind", "(I)J"⟩
abbrev cX2_openPlan : ByteArray := prog_4_method_8_code
def yX2_openPlan : MethodName := ⟨RX2, "openPlan", "(I)V"⟩
abbrev cX2_enterWeek : ByteArray := prog_4_method_9_code
def yX2_enterWeek : MethodName := ⟨RX2, "enterWeek", "(II)V"⟩
abbrev cX2_lotsWanted : ByteArray := prog_4_method_10_code
def yX2_lotsWanted : MethodName := ⟨RX2, "lotsWanted", "(II)J"⟩
abbrev cX2_planLots : ByteArray := prog_4_method_11_code
def yX2_planLots : MethodName := ⟨RX2, "planLots", "(II)V"⟩
abbrev cX2_passWeek : ByteArray := prog_4_method_12_code
def yX2_passWeek : MethodName := ⟨RX2, "passWeek", "()V"⟩
def RX3 : String := "LotFences$Works"
def TX3 : u_T := fun k => match k with
  | 0 => ("LotFences$Works", "settings", "[I", true)
  | 1 => ("LotFences$Works", "familyHours", "[I", true)
  | 2 => ("LotFences$Works", "items", "[LLotFences$Product;", true)
  | 3 => ("LotFences$Works", "products", "I", false)
  | 4 => ("LotFences$Works", "weeksPassed", "I", false)
  | 5 => ("LotFences$Works", "setupsSoFar", "J", false)
  | 6 => ("LotFences$Works", "overtimeSoFar", "J", false)
  | 7 => ("LotFences$Works", "costsSoFar", "J", false)
  | 8 => ("LotFences$Works", "hoursLeft", "I", false)
  | _ => ("LotFences$Works", "familiesSetUp", "I", false)
def tyX3 : Nat → FieldType := fun k => match k with
  | 0 => .array .int
  | 1 => .array .int
  | 2 => .array (.object "LotFences$Product")
  | 3 => .int
  | 4 => .int
  | 5 => .long
  | 6 => .long
  | 7 => .long
  | 8 => .int
  | _ => .int
abbrev wsX30 : List Cond := u_ws RX3 TX3 10
theorem nmX3 : ∀ a, a < 10 → ∀ b, b < 10 → a ≠ b → (TX3 a).2.1 ≠ (TX3 b).2.1 := by decide +kernel
theorem tyX3_ok : ∀ k, k < 10 → parseFieldDescriptor (TX3 k).2.2.1 = some (tyX3 k) := by decide +kernel
abbrev cX3_init : ByteArray := prog_5_method_1_code
def yX3_init : MethodName := ⟨RX3, "<init>", "()V"⟩
abbrev cX3_copyFrom : ByteArray := prog_5_method_2_code
def yX3_copyFrom : MethodName := ⟨RX3, "copyFrom", "(LLotFences$Works;)V"⟩
abbrev cX3_productAt : ByteArray := prog_5_method_3_code
def yX3_productAt : MethodName := ⟨RX3, "productAt", "(I)LLotFences$Product;"⟩
abbrev cX3_spareProduct : ByteArray := prog_5_method_4_code
def yX3_spareProduct : MethodName := ⟨RX3, "spareProduct", "()LLotFences$Product;"⟩
abbrev cX3_setting : ByteArray := prog_5_method_5_code
def yX3_setting : MethodName := ⟨RX3, "setting", "(I)I"⟩
abbrev cX3_changeSetting : ByteArray := prog_5_method_6_code
def yX3_changeSetting : MethodName := ⟨RX3, "changeSetting", "(II)V"⟩
abbrev cX3_capacity : ByteArray := prog_5_method_7_code
def yX3_capacity : MethodName := ⟨RX3, "capacity", "()I"⟩
abbrev cX3_isFrozen : ByteArray := prog_5_method_8_code
def yX3_isFrozen : MethodName := ⟨RX3, "isFrozen", "(I)Z"⟩
abbrev cX3_hoursIn : ByteArray := prog_5_method_9_code
def yX3_hoursIn : MethodName := ⟨RX3, "hoursIn", "(I)I"⟩
abbrev cX3_hoursWith : ByteArray := prog_5_method_10_code
def yX3_hoursWith : MethodName := ⟨RX3, "hoursWith", "(ILLotFences$Product;I)I"⟩
abbrev cX3_familiesIn : ByteArray := prog_5_method_11_code
def yX3_familiesIn : MethodName := ⟨RX3, "familiesIn", "(I)I"⟩
abbrev cX3_setupsIn : ByteArray := prog_5_method_12_code
def yX3_setupsIn : MethodName := ⟨RX3, "setupsIn", "(I)I"⟩
abbrev cX3_overtimeIn : ByteArray := prog_5_method_13_code
def yX3_overtimeIn : MethodName := ⟨RX3, "overtimeIn", "(I)I"⟩
abbrev cX3_allLots : ByteArray := prog_5_method_14_code
def yX3_allLots : MethodName := ⟨RX3, "allLots", "()I"⟩
abbrev cX3_allStock : ByteArray := prog_5_method_15_code
def yX3_allStock : MethodName := ⟨RX3, "allStock", "()J"⟩
abbrev cX3_allBacklog : ByteArray := prog_5_method_16_code
def yX3_allBacklog : MethodName := ⟨RX3, "allBacklog", "()J"⟩
abbrev cX3_forgetTold : ByteArray := prog_5_method_17_code
def yX3_forgetTold : MethodName := ⟨RX3, "forgetTold", "()V"⟩
abbrev cX3_planAnew : ByteArray := prog_5_method_18_code
def yX3_planAnew : MethodName := ⟨RX3, "planAnew", "()V"⟩
abbrev cX3_plansWithoutShortage : ByteArray := prog_5_method_19_code
def yX3_plansWithoutShortage : MethodName := ⟨RX3, "plansWithoutShortage", "()Z"⟩
abbrev cX3_openPlans : ByteArray := prog_5_method_20_code
def yX3_openPlans : MethodName := ⟨RX3, "openPlans", "()V"⟩
abbrev cX3_planWeek : ByteArray := prog_5_method_21_code
def yX3_planWeek : MethodName := ⟨RX3, "planWeek", "(I)V"⟩
abbrev cX3_nextWaiting : ByteArray := prog_5_method_22_code
def yX3_nextWaiting : MethodName := ⟨RX3, "nextWaiting", "()LLotFences$Product;"⟩
abbrev cX3_giveLots : ByteArray := prog_5_method_23_code
def yX3_giveLots : MethodName := ⟨RX3, "giveLots", "(LLotFences$Product;I)V"⟩
abbrev cX3_isShort : ByteArray := prog_5_method_24_code
def yX3_isShort : MethodName := ⟨RX3, "isShort", "()Z"⟩
abbrev cX3_passWeek : ByteArray := prog_5_method_25_code
def yX3_passWeek : MethodName := ⟨RX3, "passWeek", "()V"⟩
def RX4 : String := "LotFences"
def TX4 : u_T := fun k => match k with
  | 0 => ("LotFences", "works", "LLotFences$Works;", true)
  | 1 => ("LotFences", "trial", "LLotFences$Works;", true)
  | 2 => ("LotFences", "pad", "LLotFences$Pad;", true)
  | 3 => ("LotFences", "history", "LLotFences$History;", true)
  | 4 => ("LotFences", "slots", "[LLotFences$Works;", true)
  | _ => ("LotFences", "saved", "[Z", true)
def tyX4 : Nat → FieldType := fun k => match k with
  | 0 => .object "LotFences$Works"
  | 1 => .object "LotFences$Works"
  | 2 => .object "LotFences$Pad"
  | 3 => .object "LotFences$History"
  | 4 => .array (.object "LotFences$Works")
  | _ => .array .boolean
abbrev wsX40 : List Cond := u_ws RX4 TX4 6
theorem nmX4 : ∀ a, a < 6 → ∀ b, b < 6 → a ≠ b → (TX4 a).2.1 ≠ (TX4 b).2.1 := by decide +kernel
theorem tyX4_ok : ∀ k, k < 6 → parseFieldDescriptor (TX4 k).2.2.1 = some (tyX4 k) := by decide +kernel
abbrev cX4_init : ByteArray := prog_1_method_1_code
def yX4_init : MethodName := ⟨RX4, "<init>", "()V"⟩
abbrev cX4_set : ByteArray := prog_1_method_2_code
def yX4_set : MethodName := ⟨RX4, "set", "(II)I"⟩
abbrev cX4_product : ByteArray := prog_1_method_3_code
def yX4_product : MethodName := ⟨RX4, "product", "(IIIII)I"⟩
abbrev cX4_family : ByteArray := prog_1_method_4_code
def yX4_family : MethodName := ⟨RX4, "family", "(II)I"⟩
abbrev cX4_forecast : ByteArray := prog_1_method_5_code
def yX4_forecast : MethodName := ⟨RX4, "forecast", "(III)I"⟩
abbrev cX4_actual : ByteArray := prog_1_method_6_code
def yX4_actual : MethodName := ⟨RX4, "actual", "(II)I"⟩
abbrev cX4_lots : ByteArray := prog_1_method_7_code
def yX4_lots : MethodName := ⟨RX4, "lots", "(III)I"⟩
abbrev cX4_plan : ByteArray := prog_1_method_8_code
def yX4_plan : MethodName := ⟨RX4, "plan", "()I"⟩
abbrev cX4_weeks : ByteArray := prog_1_method_9_code
def yX4_weeks : MethodName := ⟨RX4, "weeks", "(I)I"⟩
abbrev cX4_ofProduct : ByteArray := prog_1_method_10_code
def yX4_ofProduct : MethodName := ⟨RX4, "ofProduct", "(II)I"⟩
abbrev cX4_at : ByteArray := prog_1_method_11_code
def yX4_at : MethodName := ⟨RX4, "at", "(III)I"⟩
abbrev cX4_projection : ByteArray := prog_1_method_12_code
def yX4_projection : MethodName := ⟨RX4, "projection", "(II)J"⟩
abbrev cX4_ofWeek : ByteArray := prog_1_method_13_code
def yX4_ofWeek : MethodName := ⟨RX4, "ofWeek", "(II)I"⟩
abbrev cX4_count : ByteArray := prog_1_method_14_code
def yX4_count : MethodName := ⟨RX4, "count", "(I)J"⟩
abbrev cX4_firstShort : ByteArray := prog_1_method_15_code
def yX4_firstShort : MethodName := ⟨RX4, "firstShort", "(I)I"⟩
abbrev cX4_lasts : ByteArray := prog_1_method_16_code
def yX4_lasts : MethodName := ⟨RX4, "lasts", "(I)I"⟩
abbrev cX4_leastHours : ByteArray := prog_1_method_17_code
def yX4_leastHours : MethodName := ⟨RX4, "leastHours", "()I"⟩
abbrev cX4_costs : ByteArray := prog_1_method_18_code
def yX4_costs : MethodName := ⟨RX4, "costs", "(II)J"⟩
abbrev cX4_bestFence : ByteArray := prog_1_method_19_code
def yX4_bestFence : MethodName := ⟨RX4, "bestFence", "(I)I"⟩
abbrev cX4_roomFor : ByteArray := prog_1_method_20_code
def yX4_roomFor : MethodName := ⟨RX4, "roomFor", "(II)I"⟩
abbrev cX4_put : ByteArray := prog_1_method_21_code
def yX4_put : MethodName := ⟨RX4, "put", "(J)I"⟩
abbrev cX4_wipe : ByteArray := prog_1_method_22_code
def yX4_wipe : MethodName := ⟨RX4, "wipe", "()I"⟩
abbrev cX4_fault : ByteArray := prog_1_method_23_code
def yX4_fault : MethodName := ⟨RX4, "fault", "()I"⟩
abbrev cX4_carryOut : ByteArray := prog_1_method_24_code
def yX4_carryOut : MethodName := ⟨RX4, "carryOut", "()I"⟩
abbrev cX4_undo : ByteArray := prog_1_method_25_code
def yX4_undo : MethodName := ⟨RX4, "undo", "()I"⟩
abbrev cX4_save : ByteArray := prog_1_method_26_code
def yX4_save : MethodName := ⟨RX4, "save", "(I)I"⟩
abbrev cX4_restore : ByteArray := prog_1_method_27_code
def yX4_restore : MethodName := ⟨RX4, "restore", "(I)I"⟩
abbrev cX4_carryAct : ByteArray := prog_1_method_28_code
def yX4_carryAct : MethodName := ⟨RX4, "carryAct", "()I"⟩
abbrev cX4_isError : ByteArray := prog_1_method_29_code
def yX4_isError : MethodName := ⟨RX4, "isError", "(I)Z"⟩
abbrev cX4_isIn : ByteArray := prog_1_method_30_code
def yX4_isIn : MethodName := ⟨RX4, "isIn", "(III)Z"⟩
abbrev cX4_isWeek : ByteArray := prog_1_method_31_code
def yX4_isWeek : MethodName := ⟨RX4, "isWeek", "(I)Z"⟩
abbrev cX4_isFamily : ByteArray := prog_1_method_32_code
def yX4_isFamily : MethodName := ⟨RX4, "isFamily", "(I)Z"⟩
def RX5 : String := "LotFencesModel"
def TX5 : u_T := fun k => match k with
  | 0 => ("LotFencesModel", "now", "[J", true)
  | 1 => ("LotFencesModel", "kept", "[J", true)
  | 2 => ("LotFencesModel", "isSaved", "[I", true)
  | 3 => ("LotFencesModel", "states", "I", false)
  | 4 => ("LotFencesModel", "pad", "[I", true)
  | 5 => ("LotFencesModel", "padLength", "I", false)
  | 6 => ("LotFencesModel", "at", "I", false)
  | 7 => ("LotFencesModel", "kind", "I", false)
  | 8 => ("LotFencesModel", "value", "I", false)
  | 9 => ("LotFencesModel", "first", "I", false)
  | 10 => ("LotFencesModel", "second", "I", false)
  | _ => ("LotFencesModel", "third", "I", false)
def tyX5 : Nat → FieldType := fun k => match k with
  | 0 => .array .long
  | 1 => .array .long
  | 2 => .array .int
  | 3 => .int
  | 4 => .array .int
  | 5 => .int
  | 6 => .int
  | 7 => .int
  | 8 => .int
  | 9 => .int
  | 10 => .int
  | _ => .int
abbrev wsX50 : List Cond := u_ws RX5 TX5 12
theorem nmX5 : ∀ a, a < 12 → ∀ b, b < 12 → a ≠ b → (TX5 a).2.1 ≠ (TX5 b).2.1 := by decide +kernel
theorem tyX5_ok : ∀ k, k < 12 → parseFieldDescriptor (TX5 k).2.2.1 = some (tyX5 k) := by decide +kernel
abbrev cX5_init : ByteArray := prog_7_method_1_code
def yX5_init : MethodName := ⟨RX5, "<init>", "()V"⟩
abbrev cX5_isIn : ByteArray := prog_7_method_2_code
def yX5_isIn : MethodName := ⟨RX5, "isIn", "(JJJ)Z"⟩
abbrev cX5_isProduct : ByteArray := prog_7_method_3_code
def yX5_isProduct : MethodName := ⟨RX5, "isProduct", "(I)Z"⟩
abbrev cX5_isWeek : ByteArray := prog_7_method_4_code
def yX5_isWeek : MethodName := ⟨RX5, "isWeek", "(I)Z"⟩
abbrev cX5_ofP : ByteArray := prog_7_method_5_code
def yX5_ofP : MethodName := ⟨RX5, "ofP", "(II)J"⟩
abbrev cX5_becomes : ByteArray := prog_7_method_6_code
def yX5_becomes : MethodName := ⟨RX5, "becomes", "(IIJ)V"⟩
abbrev cX5_setting : ByteArray := prog_7_method_7_code
def yX5_setting : MethodName := ⟨RX5, "setting", "(I)J"⟩
abbrev cX5_fence : ByteArray := prog_7_method_8_code
def yX5_fence : MethodName := ⟨RX5, "fence", "()I"⟩
abbrev cX5_keeps : ByteArray := prog_7_method_9_code
def yX5_keeps : MethodName := ⟨RX5, "keeps", "(I)V"⟩
abbrev cX5_brings : ByteArray := prog_7_method_10_code
def yX5_brings : MethodName := ⟨RX5, "brings", "(I)V"⟩
abbrev cX5_records : ByteArray := prog_7_method_11_code
def yX5_records : MethodName := ⟨RX5, "records", "()V"⟩
abbrev cX5_undo : ByteArray := prog_7_method_12_code
def yX5_undo : MethodName := ⟨RX5, "undo", "()I"⟩
abbrev cX5_save : ByteArray := prog_7_method_13_code
def yX5_save : MethodName := ⟨RX5, "save", "(I)I"⟩
abbrev cX5_restore : ByteArray := prog_7_method_14_code
def yX5_restore : MethodName := ⟨RX5, "restore", "(I)I"⟩
abbrev cX5_leastOf : ByteArray := prog_7_method_15_code
def yX5_leastOf : MethodName := ⟨RX5, "leastOf", "(I)I"⟩
abbrev cX5_mostOf : ByteArray := prog_7_method_16_code
def yX5_mostOf : MethodName := ⟨RX5, "mostOf", "(I)I"⟩
abbrev cX5_set : ByteArray := prog_7_method_17_code
def yX5_set : MethodName := ⟨RX5, "set", "(II)I"⟩
abbrev cX5_product : ByteArray := prog_7_method_18_code
def yX5_product : MethodName := ⟨RX5, "product", "(IIIII)I"⟩
abbrev cX5_family : ByteArray := prog_7_method_19_code
def yX5_family : MethodName := ⟨RX5, "family", "(II)I"⟩
abbrev cX5_isMade : ByteArray := prog_7_method_20_code
def yX5_isMade : MethodName := ⟨RX5, "isMade", "(II)Z"⟩
abbrev cX5_familiesIn : ByteArray := prog_7_method_21_code
def yX5_familiesIn : MethodName := ⟨RX5, "familiesIn", "(I)I"⟩
abbrev cX5_hoursOf : ByteArray := prog_7_method_22_code
def yX5_hoursOf : MethodName := ⟨RX5, "hoursOf", "(I)J"⟩
abbrev cX5_setupsOf : ByteArray := prog_7_method_23_code
def yX5_setupsOf : MethodName := ⟨RX5, "setupsOf", "(I)I"⟩
abbrev cX5_overtimeOf : ByteArray := prog_7_method_24_code
def yX5_overtimeOf : MethodName := ⟨RX5, "overtimeOf", "(I)J"⟩
abbrev cX5_mostHours : ByteArray := prog_7_method_25_code
def yX5_mostHours : MethodName := ⟨RX5, "mostHours", "()J"⟩
abbrev cX5_project : ByteArray := prog_7_method_26_code
def yX5_project : MethodName := ⟨RX5, "project", "(II)J"⟩
abbrev cX5_cover : ByteArray := prog_7_method_27_code
def yX5_cover : MethodName := ⟨RX5, "cover", "(I)J"⟩
abbrev cX5_room : ByteArray := prog_7_method_28_code
def yX5_room : MethodName := ⟨RX5, "room", "(II)J"⟩
abbrev cX5_wanted : ByteArray := prog_7_method_29_code
def yX5_wanted : MethodName := ⟨RX5, "wanted", "(II)J"⟩
abbrev cX5_nextOf : ByteArray := prog_7_method_30_code
def yX5_nextOf : MethodName := ⟨RX5, "nextOf", "(II)I"⟩
abbrev cX5_plansWeek : ByteArray := prog_7_method_31_code
def yX5_plansWeek : MethodName := ⟨RX5, "plansWeek", "(I)V"⟩
abbrev cX5_plans : ByteArray := prog_7_method_32_code
def yX5_plans : MethodName := ⟨RX5, "plans", "()V"⟩
abbrev cX5_lotsInAll : ByteArray := prog_7_method_33_code
def yX5_lotsInAll : MethodName := ⟨RX5, "lotsInAll", "()I"⟩
abbrev cX5_plan : ByteArray := prog_7_method_34_code
def yX5_plan : MethodName := ⟨RX5, "plan", "()I"⟩
abbrev cX5_forecastError : ByteArray := prog_7_method_35_code
def yX5_forecastError : MethodName := ⟨RX5, "forecastError", "(III)I"⟩
abbrev cX5_forecasts : ByteArray := prog_7_method_36_code
def yX5_forecasts : MethodName := ⟨RX5, "forecasts", "(III)I"⟩
abbrev cX5_forecast : ByteArray := prog_7_method_37_code
def yX5_forecast : MethodName := ⟨RX5, "forecast", "(III)I"⟩
abbrev cX5_actualError : ByteArray := prog_7_method_38_code
def yX5_actualError : MethodName := ⟨RX5, "actualError", "(II)I"⟩
abbrev cX5_tells : ByteArray := prog_7_method_39_code
def yX5_tells : MethodName := ⟨RX5, "tells", "(II)I"⟩
abbrev cX5_actual : ByteArray := prog_7_method_40_code
def yX5_actual : MethodName := ⟨RX5, "actual", "(II)I"⟩
abbrev cX5_lotsError : ByteArray := prog_7_method_41_code
def yX5_lotsError : MethodName := ⟨RX5, "lotsError", "(III)I"⟩
abbrev cX5_plansLots : ByteArray := prog_7_method_42_code
def yX5_plansLots : MethodName := ⟨RX5, "plansLots", "(III)I"⟩
abbrev cX5_lots : ByteArray := prog_7_method_43_code
def yX5_lots : MethodName := ⟨RX5, "lots", "(III)I"⟩
abbrev cX5_ships : ByteArray := prog_7_method_44_code
def yX5_ships : MethodName := ⟨RX5, "ships", "(I)V"⟩
abbrev cX5_rolls : ByteArray := prog_7_method_45_code
def yX5_rolls : MethodName := ⟨RX5, "rolls", "(I)V"⟩
abbrev cX5_sumOf : ByteArray := prog_7_method_46_code
def yX5_sumOf : MethodName := ⟨RX5, "sumOf", "(I)J"⟩
abbrev cX5_passes : ByteArray := prog_7_method_47_code
def yX5_passes : MethodName := ⟨RX5, "passes", "()V"⟩
abbrev cX5_passesWeeks : ByteArray := prog_7_method_48_code
def yX5_passesWeeks : MethodName := ⟨RX5, "passesWeeks", "(I)I"⟩
abbrev cX5_weeks : ByteArray := prog_7_method_49_code
def yX5_weeks : MethodName := ⟨RX5, "weeks", "(I)I"⟩
abbrev cX5_ofProduct : ByteArray := prog_7_method_50_code
def yX5_ofProduct : MethodName := ⟨RX5, "ofProduct", "(II)I"⟩
abbrev cX5_at : ByteArray := prog_7_method_51_code
def yX5_at : MethodName := ⟨RX5, "at", "(III)I"⟩
abbrev cX5_projection : ByteArray := prog_7_method_52_code
def yX5_projection : MethodName := ⟨RX5, "projection", "(II)J"⟩
abbrev cX5_ofWeek : ByteArray := prog_7_method_53_code
def yX5_ofWeek : MethodName := ⟨RX5, "ofWeek", "(II)I"⟩
abbrev cX5_count : ByteArray := prog_7_method_54_code
def yX5_count : MethodName := ⟨RX5, "count", "(I)J"⟩
abbrev cX5_firstShort : ByteArray := prog_7_method_55_code
def yX5_firstShort : MethodName := ⟨RX5, "firstShort", "(I)I"⟩
abbrev cX5_lasts : ByteArray := prog_7_method_56_code
def yX5_lasts : MethodName := ⟨RX5, "lasts", "(I)I"⟩
abbrev cX5_does : ByteArray := prog_7_method_57_code
def yX5_does : MethodName := ⟨RX5, "does", "()Z"⟩
abbrev cX5_leastHours : ByteArray := prog_7_method_58_code
def yX5_leastHours : MethodName := ⟨RX5, "leastHours", "()I"⟩
abbrev cX5_costsBy : ByteArray := prog_7_method_59_code
def yX5_costsBy : MethodName := ⟨RX5, "costsBy", "(II)J"⟩
abbrev cX5_costs : ByteArray := prog_7_method_60_code
def yX5_costs : MethodName := ⟨RX5, "costs", "(II)J"⟩
abbrev cX5_bestFence : ByteArray := prog_7_method_61_code
def yX5_bestFence : MethodName := ⟨RX5, "bestFence", "(I)I"⟩
abbrev cX5_roomFor : ByteArray := prog_7_method_62_code
def yX5_roomFor : MethodName := ⟨RX5, "roomFor", "(II)I"⟩
abbrev cX5_put : ByteArray := prog_7_method_63_code
def yX5_put : MethodName := ⟨RX5, "put", "(J)I"⟩
abbrev cX5_wipe : ByteArray := prog_7_method_64_code
def yX5_wipe : MethodName := ⟨RX5, "wipe", "()I"⟩
abbrev cX5_isHere : ByteArray := prog_7_method_65_code
def yX5_isHere : MethodName := ⟨RX5, "isHere", "(II)Z"⟩
abbrev cX5_passesOne : ByteArray := prog_7_method_66_code
def yX5_passesOne : MethodName := ⟨RX5, "passesOne", "(II)Z"⟩
abbrev cX5_passesNumber : ByteArray := prog_7_method_67_code
def yX5_passesNumber : MethodName := ⟨RX5, "passesNumber", "()Z"⟩
abbrev cX5_passesNumbers : ByteArray := prog_7_method_68_code
def yX5_passesNumbers : MethodName := ⟨RX5, "passesNumbers", "(Z)Z"⟩
abbrev cX5_passesAct : ByteArray := prog_7_method_69_code
def yX5_passesAct : MethodName := ⟨RX5, "passesAct", "()Z"⟩
abbrev cX5_fault : ByteArray := prog_7_method_70_code
def yX5_fault : MethodName := ⟨RX5, "fault", "()I"⟩
abbrev cX5_acts : ByteArray := prog_7_method_71_code
def yX5_acts : MethodName := ⟨RX5, "acts", "()I"⟩
abbrev cX5_carryOut : ByteArray := prog_7_method_72_code
def yX5_carryOut : MethodName := ⟨RX5, "carryOut", "()I"⟩
def RJx8e188 : String := "java/lang/Cloneable"
def TJx8e188 : u_T := fun k => match k with
  | _ => ("", "", "", false)
def tyJx8e188 : Nat → FieldType := fun k => match k with
  | _ => .int
abbrev wsJx8e1880 : List Cond := u_ws RJx8e188 TJx8e188 0
theorem nmJx8e188 : ∀ a, a < 0 → ∀ b, b < 0 → a ≠ b → (TJx8e188 a).2.1 ≠ (TJx8e188 b).2.1 := by decide +kernel
theorem tyJx8e188_ok : ∀ k, k < 0 → parseFieldDescriptor (TJx8e188 k).2.2.1 = some (tyJx8e188 k) := by decide +kernel
def RJ6 : String := "java/lang/Integer"
def TJ6 : u_T := fun k => match k with
  | _ => ("", "", "", false)
def tyJ6 : Nat → FieldType := fun k => match k with
  | _ => .int
abbrev wsJ60 : List Cond := u_ws RJ6 TJ6 0
theorem nmJ6 : ∀ a, a < 0 → ∀ b, b < 0 → a ≠ b → (TJ6 a).2.1 ≠ (TJ6 b).2.1 := by decide +kernel
theorem tyJ6_ok : ∀ k, k < 0 → parseFieldDescriptor (TJ6 k).2.2.1 = some (tyJ6 k) := by decide +kernel
abbrev cJ6_bitCount_0f7a4 : ByteArray := prog_9_method_49_code
def yJ6_bitCount_0f7a4 : MethodName := ⟨RJ6, "bitCount", "(I)I"⟩
def RJ9 : String := "java/lang/Math"
def TJ9 : u_T := fun k => match k with
  | _ => ("", "", "", false)
def tyJ9 : Nat → FieldType := fun k => match k with
  | _ => .int
abbrev wsJ90 : List Cond := u_ws RJ9 TJ9 0
theorem nmJ9 : ∀ a, a < 0 → ∀ b, b < 0 → a ≠ b → (TJ9 a).2.1 ≠ (TJ9 b).2.1 := by decide +kernel
theorem tyJ9_ok : ∀ k, k < 0 → parseFieldDescriptor (TJ9 k).2.2.1 = some (tyJ9 k) := by decide +kernel
abbrev cJ9_abs_0f7a4 : ByteArray := prog_10_method_59_code
def yJ9_abs_0f7a4 : MethodName := ⟨RJ9, "abs", "(I)I"⟩
abbrev cJ9_max_7cf53 : ByteArray := prog_10_method_65_code
def yJ9_max_7cf53 : MethodName := ⟨RJ9, "max", "(II)I"⟩
abbrev cJ9_min_7cf53 : ByteArray := prog_10_method_69_code
def yJ9_min_7cf53 : MethodName := ⟨RJ9, "min", "(II)I"⟩
abbrev cJ9_min_f86c9 : ByteArray := prog_10_method_70_code
def yJ9_min_f86c9 : MethodName := ⟨RJ9, "min", "(JJ)J"⟩
def RJ10 : String := "java/lang/System"
def TJ10 : u_T := fun k => match k with
  | _ => ("", "", "", false)
def tyJ10 : Nat → FieldType := fun k => match k with
  | _ => .int
abbrev wsJ100 : List Cond := u_ws RJ10 TJ10 0
theorem nmJ10 : ∀ a, a < 0 → ∀ b, b < 0 → a ≠ b → (TJ10 a).2.1 ≠ (TJ10 b).2.1 := by decide +kernel
theorem tyJ10_ok : ∀ k, k < 0 → parseFieldDescriptor (TJ10 k).2.2.1 = some (tyJ10 k) := by decide +kernel
def RJ7 : String := "java/util/Arrays"
def TJ7 : u_T := fun k => match k with
  | _ => ("", "", "", false)
def tyJ7 : Nat → FieldType := fun k => match k with
  | _ => .int
abbrev wsJ70 : List Cond := u_ws RJ7 TJ7 0
theorem nmJ7 : ∀ a, a < 0 → ∀ b, b < 0 → a ≠ b → (TJ7 a).2.1 ≠ (TJ7 b).2.1 := by decide +kernel
theorem tyJ7_ok : ∀ k, k < 0 → parseFieldDescriptor (TJ7 k).2.2.1 = some (tyJ7 k) := by decide +kernel
abbrev cJ7_fill_53178 : ByteArray := prog_12_method_103_code
def yJ7_fill_53178 : MethodName := ⟨RJ7, "fill", "([II)V"⟩
def RL : String := "LotFencesLaw"
abbrev cL_law : ByteArray := code
def yL_law : MethodName := ⟨RL, "law", "([I)Z"⟩
theorem inJx8e188 : ∀ w ∈ wsJx8e1880, w ∈ lw_tbl := by decide +kernel
theorem inJ6 : ∀ w ∈ wsJ60, w ∈ lw_tbl := by decide +kernel
theorem inJ9 : ∀ w ∈ wsJ90, w ∈ lw_tbl := by decide +kernel
theorem inJ10 : ∀ w ∈ wsJ100, w ∈ lw_tbl := by decide +kernel
theorem inJ7 : ∀ w ∈ wsJ70, w ∈ lw_tbl := by decide +kernel
abbrev vwCl : List vw_C := [(RX0, TX0, 3), (RX1, TX1, 7), (RX2, TX2, 17), (RX3, TX3, 10), (RX4, TX4, 6), (RX5, TX5, 12)]
end
section
theorem dX0_init_0 : decode cX0_init 0 = .ok (.aload_n 0, 1) := by decide +kernel
theorem dX0_init_1 : decode cX0_init 1 = .ok (.invokespecial 3, 3) := by decide +kernel
theorem dX0_init_4 : decode cX0_init 4 = .ok (.aload_n 0, 1) := by decide +kernel
theorem dX0_init_5 : decode cX0_init 5 = .ok (.bipush 6, 2) := by decide +kernel
theorem dX0_init_7 : decode cX0_init 7 = .ok (.anewarray 9, 3) := by decide +kernel
theorem dX0_init_10 : decode cX0_init 10 = .ok (.putfield 11, 3) := by decide +kernel
theorem dX0_init_13 : decode cX0_init 13 = .ok (.iconst 0, 1) := by decide +kernel
theorem dX0_init_14 : decode cX0_init 14 = .ok (.istore_n 1, 1) := by decide +kernel
theorem dX0_init_15 : decode cX0_init 15 = .ok (.iload_n 1, 1) := by decide +kernel
theorem dX0_init_16 : decode cX0_init 16 = .ok (.bipush 6, 2) := by decide +kernel
theorem dX0_init_18 : decode cX0_init 18 = .ok (.if_icmp .ge 22, 3) := by decide +kernel
theorem dX0_init_21 : decode cX0_init 21 = .ok (.aload_n 0, 1) := by decide +kernel
theorem dX0_init_22 : decode cX0_init 22 = .ok (.getfield 11, 3) := by decide +kernel
theorem dX0_init_25 : decode cX0_init 25 = .ok (.iload_n 1, 1) := by decide +kernel
theorem dX0_init_26 : decode cX0_init 26 = .ok (.new 9, 3) := by decide +kernel
theorem dX0_init_29 : decode cX0_init 29 = .ok (.dup, 1) := by decide +kernel
theorem dX0_init_30 : decode cX0_init 30 = .ok (.invokespecial 17, 3) := by decide +kernel
theorem dX0_init_33 : decode cX0_init 33 = .ok (.aastore, 1) := by decide +kernel
theorem dX0_init_34 : decode cX0_init 34 = .ok (.iinc 1 1, 3) := by decide +kernel
theorem dX0_init_37 : decode cX0_init 37 = .ok (.goto (-22), 3) := by decide +kernel
theorem dX0_init_40 : decode cX0_init 40 = .ok (.return_, 1) := by decide +kernel
theorem dX0_remember_0 : decode cX0_remember 0 = .ok (.aload_n 0, 1) := by decide +kernel
theorem dX0_remember_1 : decode cX0_remember 1 = .ok (.getfield 18, 3) := by decide +kernel
theorem dX0_remember_4 : decode cX0_remember 4 = .ok (.ifCond .eq 4, 3) := by decide +kernel
theorem dX0_remember_7 : decode cX0_remember 7 = .ok (.return_, 1) := by decide +kernel
theorem dX0_remember_8 : decode cX0_remember 8 = .ok (.aload_n 0, 1) := by decide +kernel
theorem dX0_remember_9 : decode cX0_remember 9 = .ok (.getfield 22, 3) := by decide +kernel
theorem dX0_remember_12 : decode cX0_remember 12 = .ok (.bipush 6, 2) := by decide +kernel
theorem dX0_remember_14 : decode cX0_remember 14 = .ok (.if_icmp .lt 7, 3) := by decide +kernel
theorem dX0_remember_17 : decode cX0_remember 17 = .ok (.aload_n 0, 1) := by decide +kernel
theorem dX0_remember_18 : decode cX0_remember 18 = .ok (.invokevirtual 26, 3) := by decide +kernel
theorem dX0_remember_21 : decode cX0_remember 21 = .ok (.aload_n 0, 1) := by decide +kernel
theorem dX0_remember_22 : decode cX0_remember 22 = .ok (.getfield 22, 3) := by decide +kernel
theorem dX0_remember_25 : decode cX0_remember 25 = .ok (.ifCond .lt 47, 3) := by decide +kernel
theorem dX0_remember_28 : decode cX0_remember 28 = .ok (.aload_n 0, 1) := by decide +kernel
theorem dX0_remember_29 : decode cX0_remember 29 = .ok (.getfield 22, 3) := by decide +kernel
theorem dX0_remember_32 : decode cX0_remember 32 = .ok (.bipush 6, 2) := by decide +kernel
theorem dX0_remember_34 : decode cX0_remember 34 = .ok (.if_icmp .ge 38, 3) := by decide +kernel
theorem dX0_remember_37 : decode cX0_remember 37 = .ok (.aload_n 0, 1) := by decide +kernel
theorem dX0_remember_38 : decode cX0_remember 38 = .ok (.getfield 11, 3) := by decide +kernel
theorem dX0_remember_41 : decode cX0_remember 41 = .ok (.aload_n 0, 1) := by decide +kernel
theorem dX0_remember_42 : decode cX0_remember 42 = .ok (.getfield 22, 3) := by decide +kernel
theorem dX0_remember_45 : decode cX0_remember 45 = .ok (.aaload, 1) := by decide +kernel
theorem dX0_remember_46 : decode cX0_remember 46 = .ok (.ifnull 26, 3) := by decide +kernel
theorem dX0_remember_49 : decode cX0_remember 49 = .ok (.aload_n 0, 1) := by decide +kernel
theorem dX0_remember_50 : decode cX0_remember 50 = .ok (.getfield 11, 3) := by decide +kernel
theorem dX0_remember_53 : decode cX0_remember 53 = .ok (.aload_n 0, 1) := by decide +kernel
theorem dX0_remember_54 : decode cX0_remember 54 = .ok (.getfield 22, 3) := by decide +kernel
theorem dX0_remember_57 : decode cX0_remember 57 = .ok (.aaload, 1) := by decide +kernel
theorem dX0_remember_58 : decode cX0_remember 58 = .ok (.aload_n 1, 1) := by decide +kernel
theorem dX0_remember_59 : decode cX0_remember 59 = .ok (.invokevirtual 29, 3) := by decide +kernel
theorem dX0_remember_62 : decode cX0_remember 62 = .ok (.aload_n 0, 1) := by decide +kernel
theorem dX0_remember_63 : decode cX0_remember 63 = .ok (.dup, 1) := by decide +kernel
theorem dX0_remember_64 : decode cX0_remember 64 = .ok (.getfield 22, 3) := by decide +kernel
theorem dX0_remember_67 : decode cX0_remember 67 = .ok (.iconst 1, 1) := by decide +kernel
theorem dX0_remember_68 : decode cX0_remember 68 = .ok (.iadd, 1) := by decide +kernel
theorem dX0_remember_69 : decode cX0_remember 69 = .ok (.putfield 22, 3) := by decide +kernel
theorem dX0_remember_72 : decode cX0_remember 72 = .ok (.return_, 1) := by decide +kernel
theorem dX0_takeBack_0 : decode cX0_takeBack 0 = .ok (.aload_n 0, 1) := by decide +kernel
theorem dX0_takeBack_1 : decode cX0_takeBack 1 = .ok (.getfield 22, 3) := by decide +kernel
theorem dX0_takeBack_4 : decode cX0_takeBack 4 = .ok (.ifCond .le 35, 3) := by decide +kernel
theorem dX0_takeBack_7 : decode cX0_takeBack 7 = .ok (.aload_n 0, 1) := by decide +kernel
theorem dX0_takeBack_8 : decode cX0_takeBack 8 = .ok (.getfield 22, 3) := by decide +kernel
theorem dX0_takeBack_11 : decode cX0_takeBack 11 = .ok (.bipush 6, 2) := by decide +kernel
theorem dX0_takeBack_13 : decode cX0_takeBack 13 = .ok (.if_icmp .gt 26, 3) := by decide +kernel
theorem dX0_takeBack_16 : decode cX0_takeBack 16 = .ok (.aload_n 0, 1) := by decide +kernel
theorem dX0_takeBack_17 : decode cX0_takeBack 17 = .ok (.dup, 1) := by decide +kernel
theorem dX0_takeBack_18 : decode cX0_takeBack 18 = .ok (.getfield 22, 3) := by decide +kernel
theorem dX0_takeBack_21 : decode cX0_takeBack 21 = .ok (.iconst 1, 1) := by decide +kernel
theorem dX0_takeBack_22 : decode cX0_takeBack 22 = .ok (.isub, 1) := by decide +kernel
theorem dX0_takeBack_23 : decode cX0_takeBack 23 = .ok (.putfield 22, 3) := by decide +kernel
theorem dX0_takeBack_26 : decode cX0_takeBack 26 = .ok (.aload_n 1, 1) := by decide +kernel
theorem dX0_takeBack_27 : decode cX0_takeBack 27 = .ok (.aload_n 0, 1) := by decide +kernel
theorem dX0_takeBack_28 : decode cX0_takeBack 28 = .ok (.getfield 11, 3) := by decide +kernel
theorem dX0_takeBack_31 : decode cX0_takeBack 31 = .ok (.aload_n 0, 1) := by decide +kernel
theorem dX0_takeBack_32 : decode cX0_takeBack 32 = .ok (.getfield 22, 3) := by decide +kernel
theorem dX0_takeBack_35 : decode cX0_takeBack 35 = .ok (.aaload, 1) := by decide +kernel
theorem dX0_takeBack_36 : decode cX0_takeBack 36 = .ok (.invokevirtual 29, 3) := by decide +kernel
theorem dX0_takeBack_39 : decode cX0_takeBack 39 = .ok (.return_, 1) := by decide +kernel
theorem dX0_dropOldest_0 : decode cX0_dropOldest 0 = .ok (.aload_n 0, 1) := by decide +kernel
theorem dX0_dropOldest_1 : decode cX0_dropOldest 1 = .ok (.getfield 11, 3) := by decide +kernel
theorem dX0_dropOldest_4 : decode cX0_dropOldest 4 = .ok (.iconst 0, 1) := by decide +kernel
theorem dX0_dropOldest_5 : decode cX0_dropOldest 5 = .ok (.aaload, 1) := by decide +kernel
theorem dX0_dropOldest_6 : decode cX0_dropOldest 6 = .ok (.astore_n 1, 1) := by decide +kernel
theorem dX0_dropOldest_7 : decode cX0_dropOldest 7 = .ok (.iconst 1, 1) := by decide +kernel
theorem dX0_dropOldest_8 : decode cX0_dropOldest 8 = .ok (.istore_n 2, 1) := by decide +kernel
theorem dX0_dropOldest_9 : decode cX0_dropOldest 9 = .ok (.iload_n 2, 1) := by decide +kernel
theorem dX0_dropOldest_10 : decode cX0_dropOldest 10 = .ok (.bipush 6, 2) := by decide +kernel
theorem dX0_dropOldest_12 : decode cX0_dropOldest 12 = .ok (.if_icmp .ge 23, 3) := by decide +kernel
theorem dX0_dropOldest_15 : decode cX0_dropOldest 15 = .ok (.aload_n 0, 1) := by decide +kernel
theorem dX0_dropOldest_16 : decode cX0_dropOldest 16 = .ok (.getfield 11, 3) := by decide +kernel
theorem dX0_dropOldest_19 : decode cX0_dropOldest 19 = .ok (.iload_n 2, 1) := by decide +kernel
theorem dX0_dropOldest_20 : decode cX0_dropOldest 20 = .ok (.iconst 1, 1) := by decide +kernel
theorem dX0_dropOldest_21 : decode cX0_dropOldest 21 = .ok (.isub, 1) := by decide +kernel
theorem dX0_dropOldest_22 : decode cX0_dropOldest 22 = .ok (.aload_n 0, 1) := by decide +kernel
theorem dX0_dropOldest_23 : decode cX0_dropOldest 23 = .ok (.getfield 11, 3) := by decide +kernel
theorem dX0_dropOldest_26 : decode cX0_dropOldest 26 = .ok (.iload_n 2, 1) := by decide +kernel
theorem dX0_dropOldest_27 : decode cX0_dropOldest 27 = .ok (.aaload, 1) := by decide +kernel
theorem dX0_dropOldest_28 : decode cX0_dropOldest 28 = .ok (.aastore, 1) := by decide +kernel
theorem dX0_dropOldest_29 : decode cX0_dropOldest 29 = .ok (.iinc 2 1, 3) := by decide +kernel
theorem dX0_dropOldest_32 : decode cX0_dropOldest 32 = .ok (.goto (-23), 3) := by decide +kernel
theorem dX0_dropOldest_35 : decode cX0_dropOldest 35 = .ok (.aload_n 0, 1) := by decide +kernel
theorem dX0_dropOldest_36 : decode cX0_dropOldest 36 = .ok (.getfield 11, 3) := by decide +kernel
theorem dX0_dropOldest_39 : decode cX0_dropOldest 39 = .ok (.iconst 5, 1) := by decide +kernel
theorem dX0_dropOldest_40 : decode cX0_dropOldest 40 = .ok (.aload_n 1, 1) := by decide +kernel
theorem dX0_dropOldest_41 : decode cX0_dropOldest 41 = .ok (.aastore, 1) := by decide +kernel
theorem dX0_dropOldest_42 : decode cX0_dropOldest 42 = .ok (.aload_n 0, 1) := by decide +kernel
theorem dX0_dropOldest_43 : decode cX0_dropOldest 43 = .ok (.iconst 5, 1) := by decide +kernel
theorem dX0_dropOldest_44 : decode cX0_dropOldest 44 = .ok (.putfield 22, 3) := by decide +kernel
theorem dX0_dropOldest_47 : decode cX0_dropOldest 47 = .ok (.return_, 1) := by decide +kernel
theorem dX1_init_0 : decode cX1_init 0 = .ok (.aload_n 0, 1) := by decide +kernel
theorem dX1_init_1 : decode cX1_init 1 = .ok (.invokespecial 3, 3) := by decide +kernel
theorem dX1_init_4 : decode cX1_init 4 = .ok (.aload_n 0, 1) := by decide +kernel
theorem dX1_init_5 : decode cX1_init 5 = .ok (.bipush 80, 2) := by decide +kernel
theorem dX1_init_7 : decode cX1_init 7 = .ok (.newarray .char, 2) := by decide +kernel
theorem dX1_init_9 : decode cX1_init 9 = .ok (.putfield 9, 3) := by decide +kernel
theorem dX1_init_12 : decode cX1_init 12 = .ok (.return_, 1) := by decide +kernel
theorem dX1_signsIn_0 : decode cX1_signsIn 0 = .ok (.iconst 0, 1) := by decide +kernel
theorem dX1_signsIn_1 : decode cX1_signsIn 1 = .ok (.istore_n 2, 1) := by decide +kernel
theorem dX1_signsIn_2 : decode cX1_signsIn 2 = .ok (.lload_n 0, 1) := by decide +kernel
theorem dX1_signsIn_3 : decode cX1_signsIn 3 = .ok (.lstore_n 3, 1) := by decide +kernel
theorem dX1_signsIn_4 : decode cX1_signsIn 4 = .ok (.iconst 0, 1) := by decide +kernel
theorem dX1_signsIn_5 : decode cX1_signsIn 5 = .ok (.istore 5, 2) := by decide +kernel
theorem dX1_signsIn_7 : decode cX1_signsIn 7 = .ok (.iload 5, 2) := by decide +kernel
theorem dX1_signsIn_9 : decode cX1_signsIn 9 = .ok (.bipush 8, 2) := by decide +kernel
theorem dX1_signsIn_11 : decode cX1_signsIn 11 = .ok (.if_icmp .ge 50, 3) := by decide +kernel
theorem dX1_signsIn_14 : decode cX1_signsIn 14 = .ok (.lload_n 3, 1) := by decide +kernel
theorem dX1_signsIn_15 : decode cX1_signsIn 15 = .ok (.lconst 0, 1) := by decide +kernel
theorem dX1_signsIn_16 : decode cX1_signsIn 16 = .ok (.lcmp, 1) := by decide +kernel
theorem dX1_signsIn_17 : decode cX1_signsIn 17 = .ok (.ifCond .eq 44, 3) := by decide +kernel
theorem dX1_signsIn_20 : decode cX1_signsIn 20 = .ok (.lload_n 3, 1) := by decide +kernel
theorem dX1_signsIn_21 : decode cX1_signsIn 21 = .ok (.ldc2_w 15, 3) := by decide +kernel
theorem dX1_signsIn_24 : decode cX1_signsIn 24 = .ok (.land, 1) := by decide +kernel
theorem dX1_signsIn_25 : decode cX1_signsIn 25 = .ok (.lstore 6, 2) := by decide +kernel
theorem dX1_signsIn_27 : decode cX1_signsIn 27 = .ok (.lload 6, 2) := by decide +kernel
theorem dX1_signsIn_29 : decode cX1_signsIn 29 = .ok (.ldc2_w 17, 3) := by decide +kernel
theorem dX1_signsIn_32 : decode cX1_signsIn 32 = .ok (.lcmp, 1) := by decide +kernel
theorem dX1_signsIn_33 : decode cX1_signsIn 33 = .ok (.ifCond .lt 12, 3) := by decide +kernel
theorem dX1_signsIn_36 : decode cX1_signsIn 36 = .ok (.lload 6, 2) := by decide +kernel
theorem dX1_signsIn_38 : decode cX1_signsIn 38 = .ok (.ldc2_w 19, 3) := by decide +kernel
theorem dX1_signsIn_41 : decode cX1_signsIn 41 = .ok (.lcmp, 1) := by decide +kernel
theorem dX1_signsIn_42 : decode cX1_signsIn 42 = .ok (.ifCond .le 5, 3) := by decide +kernel
theorem dX1_signsIn_45 : decode cX1_signsIn 45 = .ok (.iconst 0, 1) := by decide +kernel
theorem dX1_signsIn_46 : decode cX1_signsIn 46 = .ok (.ireturn, 1) := by decide +kernel
theorem dX1_signsIn_47 : decode cX1_signsIn 47 = .ok (.iinc 2 1, 3) := by decide +kernel
theorem dX1_signsIn_50 : decode cX1_signsIn 50 = .ok (.lload_n 3, 1) := by decide +kernel
theorem dX1_signsIn_51 : decode cX1_signsIn 51 = .ok (.bipush 8, 2) := by decide +kernel
theorem dX1_signsIn_53 : decode cX1_signsIn 53 = .ok (.lushr, 1) := by decide +kernel
theorem dX1_signsIn_54 : decode cX1_signsIn 54 = .ok (.lstore_n 3, 1) := by decide +kernel
theorem dX1_signsIn_55 : decode cX1_signsIn 55 = .ok (.iinc 5 1, 3) := by decide +kernel
theorem dX1_signsIn_58 : decode cX1_signsIn 58 = .ok (.goto (-51), 3) := by decide +kernel
theorem dX1_signsIn_61 : decode cX1_signsIn 61 = .ok (.iload_n 2, 1) := by decide +kernel
theorem dX1_signsIn_62 : decode cX1_signsIn 62 = .ok (.ireturn, 1) := by decide +kernel
theorem dX1_append_0 : decode cX1_append 0 = .ok (.iload_n 3, 1) := by decide +kernel
theorem dX1_append_1 : decode cX1_append 1 = .ok (.bipush 8, 2) := by decide +kernel
theorem dX1_append_3 : decode cX1_append 3 = .ok (.invokestatic 21, 3) := by decide +kernel
theorem dX1_append_6 : decode cX1_append 6 = .ok (.iconst 1, 1) := by decide +kernel
theorem dX1_append_7 : decode cX1_append 7 = .ok (.isub, 1) := by decide +kernel
theorem dX1_append_8 : decode cX1_append 8 = .ok (.istore 4, 2) := by decide +kernel
theorem dX1_append_10 : decode cX1_append 10 = .ok (.iload 4, 2) := by decide +kernel
theorem dX1_append_12 : decode cX1_append 12 = .ok (.ifCond .lt 57, 3) := by decide +kernel
theorem dX1_append_15 : decode cX1_append 15 = .ok (.aload_n 0, 1) := by decide +kernel
theorem dX1_append_16 : decode cX1_append 16 = .ok (.getfield 27, 3) := by decide +kernel
theorem dX1_append_19 : decode cX1_append 19 = .ok (.ifCond .lt 44, 3) := by decide +kernel
theorem dX1_append_22 : decode cX1_append 22 = .ok (.aload_n 0, 1) := by decide +kernel
theorem dX1_append_23 : decode cX1_append 23 = .ok (.getfield 27, 3) := by decide +kernel
theorem dX1_append_26 : decode cX1_append 26 = .ok (.bipush 80, 2) := by decide +kernel
theorem dX1_append_28 : decode cX1_append 28 = .ok (.if_icmp .ge 35, 3) := by decide +kernel
theorem dX1_append_31 : decode cX1_append 31 = .ok (.aload_n 0, 1) := by decide +kernel
theorem dX1_append_32 : decode cX1_append 32 = .ok (.getfield 9, 3) := by decide +kernel
theorem dX1_append_35 : decode cX1_append 35 = .ok (.aload_n 0, 1) := by decide +kernel
theorem dX1_append_36 : decode cX1_append 36 = .ok (.getfield 27, 3) := by decide +kernel
theorem dX1_append_39 : decode cX1_append 39 = .ok (.lload_n 1, 1) := by decide +kernel
theorem dX1_append_40 : decode cX1_append 40 = .ok (.iload 4, 2) := by decide +kernel
theorem dX1_append_42 : decode cX1_append 42 = .ok (.bipush 8, 2) := by decide +kernel
theorem dX1_append_44 : decode cX1_append 44 = .ok (.imul, 1) := by decide +kernel
theorem dX1_append_45 : decode cX1_append 45 = .ok (.lushr, 1) := by decide +kernel
theorem dX1_append_46 : decode cX1_append 46 = .ok (.ldc2_w 15, 3) := by decide +kernel
theorem dX1_append_49 : decode cX1_append 49 = .ok (.land, 1) := by decide +kernel
theorem dX1_append_50 : decode cX1_append 50 = .ok (.l2i, 1) := by decide +kernel
theorem dX1_append_51 : decode cX1_append 51 = .ok (.i2c, 1) := by decide +kernel
theorem dX1_append_52 : decode cX1_append 52 = .ok (.castore, 1) := by decide +kernel
theorem dX1_append_53 : decode cX1_append 53 = .ok (.aload_n 0, 1) := by decide +kernel
theorem dX1_append_54 : decode cX1_append 54 = .ok (.dup, 1) := by decide +kernel
theorem dX1_append_55 : decode cX1_append 55 = .ok (.getfield 27, 3) := by decide +kernel
theorem dX1_append_58 : decode cX1_append 58 = .ok (.iconst 1, 1) := by decide +kernel
theorem dX1_append_59 : decode cX1_append 59 = .ok (.iadd, 1) := by decide +kernel
theorem dX1_append_60 : decode cX1_append 60 = .ok (.putfield 27, 3) := by decide +kernel
theorem dX1_append_63 : decode cX1_append 63 = .ok (.iinc 4 (-1), 3) := by decide +kernel
theorem dX1_append_66 : decode cX1_append 66 = .ok (.goto (-56), 3) := by decide +kernel
theorem dX1_append_69 : decode cX1_append 69 = .ok (.return_, 1) := by decide +kernel
theorem dX1_startReading_0 : decode cX1_startReading 0 = .ok (.aload_n 0, 1) := by decide +kernel
theorem dX1_startReading_1 : decode cX1_startReading 1 = .ok (.iconst 0, 1) := by decide +kernel
theorem dX1_startReading_2 : decode cX1_startReading 2 = .ok (.putfield 31, 3) := by decide +kernel
theorem dX1_startReading_5 : decode cX1_startReading 5 = .ok (.return_, 1) := by decide +kernel
theorem dX1_isAtEnd_0 : decode cX1_isAtEnd 0 = .ok (.aload_n 0, 1) := by decide +kernel
theorem dX1_isAtEnd_1 : decode cX1_isAtEnd 1 = .ok (.getfield 31, 3) := by decide +kernel
theorem dX1_isAtEnd_4 : decode cX1_isAtEnd 4 = .ok (.aload_n 0, 1) := by decide +kernel
theorem dX1_isAtEnd_5 : decode cX1_isAtEnd 5 = .ok (.getfield 27, 3) := by decide +kernel
theorem dX1_isAtEnd_8 : decode cX1_isAtEnd 8 = .ok (.if_icmp .lt 7, 3) := by decide +kernel
theorem dX1_isAtEnd_11 : decode cX1_isAtEnd 11 = .ok (.iconst 1, 1) := by decide +kernel
theorem dX1_isAtEnd_12 : decode cX1_isAtEnd 12 = .ok (.goto 4, 3) := by decide +kernel
theorem dX1_isAtEnd_15 : decode cX1_isAtEnd 15 = .ok (.iconst 0, 1) := by decide +kernel
theorem dX1_isAtEnd_16 : decode cX1_isAtEnd 16 = .ok (.ireturn, 1) := by decide +kernel
theorem dX1_readAct_0 : decode cX1_readAct 0 = .ok (.aload_n 0, 1) := by decide +kernel
theorem dX1_readAct_1 : decode cX1_readAct 1 = .ok (.aload_n 0, 1) := by decide +kernel
theorem dX1_readAct_2 : decode cX1_readAct 2 = .ok (.invokevirtual 34, 3) := by decide +kernel
theorem dX1_readAct_5 : decode cX1_readAct 5 = .ok (.putfield 38, 3) := by decide +kernel
theorem dX1_readAct_8 : decode cX1_readAct 8 = .ok (.aload_n 0, 1) := by decide +kernel
theorem dX1_readAct_9 : decode cX1_readAct 9 = .ok (.bipush 102, 2) := by decide +kernel
theorem dX1_readAct_11 : decode cX1_readAct 11 = .ok (.invokevirtual 42, 3) := by decide +kernel
theorem dX1_readAct_14 : decode cX1_readAct 14 = .ok (.ifCond .ne 12, 3) := by decide +kernel
theorem dX1_readAct_17 : decode cX1_readAct 17 = .ok (.aload_n 0, 1) := by decide +kernel
theorem dX1_readAct_18 : decode cX1_readAct 18 = .ok (.bipush 108, 2) := by decide +kernel
theorem dX1_readAct_20 : decode cX1_readAct 20 = .ok (.invokevirtual 42, 3) := by decide +kernel
theorem dX1_readAct_23 : decode cX1_readAct 23 = .ok (.ifCond .eq 48, 3) := by decide +kernel
theorem dX1_readAct_26 : decode cX1_readAct 26 = .ok (.aload_n 0, 1) := by decide +kernel
theorem dX1_readAct_27 : decode cX1_readAct 27 = .ok (.invokevirtual 46, 3) := by decide +kernel
theorem dX1_readAct_30 : decode cX1_readAct 30 = .ok (.ifCond .eq 39, 3) := by decide +kernel
theorem dX1_readAct_33 : decode cX1_readAct 33 = .ok (.aload_n 0, 1) := by decide +kernel
theorem dX1_readAct_34 : decode cX1_readAct 34 = .ok (.bipush 64, 2) := by decide +kernel
theorem dX1_readAct_36 : decode cX1_readAct 36 = .ok (.invokevirtual 42, 3) := by decide +kernel
theorem dX1_readAct_39 : decode cX1_readAct 39 = .ok (.ifCond .eq 30, 3) := by decide +kernel
theorem dX1_readAct_42 : decode cX1_readAct 42 = .ok (.aload_n 0, 1) := by decide +kernel
theorem dX1_readAct_43 : decode cX1_readAct 43 = .ok (.invokevirtual 50, 3) := by decide +kernel
theorem dX1_readAct_46 : decode cX1_readAct 46 = .ok (.ifCond .eq 23, 3) := by decide +kernel
theorem dX1_readAct_49 : decode cX1_readAct 49 = .ok (.aload_n 0, 1) := by decide +kernel
theorem dX1_readAct_50 : decode cX1_readAct 50 = .ok (.bipush 42, 2) := by decide +kernel
theorem dX1_readAct_52 : decode cX1_readAct 52 = .ok (.invokevirtual 42, 3) := by decide +kernel
theorem dX1_readAct_55 : decode cX1_readAct 55 = .ok (.ifCond .eq 14, 3) := by decide +kernel
theorem dX1_readAct_58 : decode cX1_readAct 58 = .ok (.aload_n 0, 1) := by decide +kernel
theorem dX1_readAct_59 : decode cX1_readAct 59 = .ok (.invokevirtual 53, 3) := by decide +kernel
theorem dX1_readAct_62 : decode cX1_readAct 62 = .ok (.ifCond .eq 7, 3) := by decide +kernel
theorem dX1_readAct_65 : decode cX1_readAct 65 = .ok (.iconst 1, 1) := by decide +kernel
theorem dX1_readAct_66 : decode cX1_readAct 66 = .ok (.goto 4, 3) := by decide +kernel
theorem dX1_readAct_69 : decode cX1_readAct 69 = .ok (.iconst 0, 1) := by decide +kernel
theorem dX1_readAct_70 : decode cX1_readAct 70 = .ok (.ireturn, 1) := by decide +kernel
theorem dX1_readAct_71 : decode cX1_readAct 71 = .ok (.aload_n 0, 1) := by decide +kernel
theorem dX1_readAct_72 : decode cX1_readAct 72 = .ok (.bipush 97, 2) := by decide +kernel
theorem dX1_readAct_74 : decode cX1_readAct 74 = .ok (.invokevirtual 42, 3) := by decide +kernel
theorem dX1_readAct_77 : decode cX1_readAct 77 = .ok (.ifCond .eq 32, 3) := by decide +kernel
theorem dX1_readAct_80 : decode cX1_readAct 80 = .ok (.aload_n 0, 1) := by decide +kernel
theorem dX1_readAct_81 : decode cX1_readAct 81 = .ok (.invokevirtual 46, 3) := by decide +kernel
theorem dX1_readAct_84 : decode cX1_readAct 84 = .ok (.ifCond .eq 23, 3) := by decide +kernel
theorem dX1_readAct_87 : decode cX1_readAct 87 = .ok (.aload_n 0, 1) := by decide +kernel
theorem dX1_readAct_88 : decode cX1_readAct 88 = .ok (.bipush 42, 2) := by decide +kernel
theorem dX1_readAct_90 : decode cX1_readAct 90 = .ok (.invokevirtual 42, 3) := by decide +kernel
theorem dX1_readAct_93 : decode cX1_readAct 93 = .ok (.ifCond .eq 14, 3) := by decide +kernel
theorem dX1_readAct_96 : decode cX1_readAct 96 = .ok (.aload_n 0, 1) := by decide +kernel
theorem dX1_readAct_97 : decode cX1_readAct 97 = .ok (.invokevirtual 53, 3) := by decide +kernel
theorem dX1_readAct_100 : decode cX1_readAct 100 = .ok (.ifCond .eq 7, 3) := by decide +kernel
theorem dX1_readAct_103 : decode cX1_readAct 103 = .ok (.iconst 1, 1) := by decide +kernel
theorem dX1_readAct_104 : decode cX1_readAct 104 = .ok (.goto 4, 3) := by decide +kernel
theorem dX1_readAct_107 : decode cX1_readAct 107 = .ok (.iconst 0, 1) := by decide +kernel
theorem dX1_readAct_108 : decode cX1_readAct 108 = .ok (.ireturn, 1) := by decide +kernel
theorem dX1_readAct_109 : decode cX1_readAct 109 = .ok (.aload_n 0, 1) := by decide +kernel
theorem dX1_readAct_110 : decode cX1_readAct 110 = .ok (.bipush 110, 2) := by decide +kernel
theorem dX1_readAct_112 : decode cX1_readAct 112 = .ok (.invokevirtual 42, 3) := by decide +kernel
theorem dX1_readAct_115 : decode cX1_readAct 115 = .ok (.ifCond .eq 8, 3) := by decide +kernel
theorem dX1_readAct_118 : decode cX1_readAct 118 = .ok (.aload_n 0, 1) := by decide +kernel
theorem dX1_readAct_119 : decode cX1_readAct 119 = .ok (.invokevirtual 53, 3) := by decide +kernel
theorem dX1_readAct_122 : decode cX1_readAct 122 = .ok (.ireturn, 1) := by decide +kernel
theorem dX1_readAct_123 : decode cX1_readAct 123 = .ok (.aload_n 0, 1) := by decide +kernel
theorem dX1_readAct_124 : decode cX1_readAct 124 = .ok (.bipush 112, 2) := by decide +kernel
theorem dX1_readAct_126 : decode cX1_readAct 126 = .ok (.invokevirtual 42, 3) := by decide +kernel
theorem dX1_readAct_129 : decode cX1_readAct 129 = .ok (.ireturn, 1) := by decide +kernel
theorem dX1_readSign_0 : decode cX1_readSign 0 = .ok (.aload_n 0, 1) := by decide +kernel
theorem dX1_readSign_1 : decode cX1_readSign 1 = .ok (.invokevirtual 34, 3) := by decide +kernel
theorem dX1_readSign_4 : decode cX1_readSign 4 = .ok (.iload_n 1, 1) := by decide +kernel
theorem dX1_readSign_5 : decode cX1_readSign 5 = .ok (.if_icmp .eq 5, 3) := by decide +kernel
theorem dX1_readSign_8 : decode cX1_readSign 8 = .ok (.iconst 0, 1) := by decide +kernel
theorem dX1_readSign_9 : decode cX1_readSign 9 = .ok (.ireturn, 1) := by decide +kernel
theorem dX1_readSign_10 : decode cX1_readSign 10 = .ok (.aload_n 0, 1) := by decide +kernel
theorem dX1_readSign_11 : decode cX1_readSign 11 = .ok (.dup, 1) := by decide +kernel
theorem dX1_readSign_12 : decode cX1_readSign 12 = .ok (.getfield 31, 3) := by decide +kernel
theorem dX1_readSign_15 : decode cX1_readSign 15 = .ok (.iconst 1, 1) := by decide +kernel
theorem dX1_readSign_16 : decode cX1_readSign 16 = .ok (.iadd, 1) := by decide +kernel
theorem dX1_readSign_17 : decode cX1_readSign 17 = .ok (.putfield 31, 3) := by decide +kernel
theorem dX1_readSign_20 : decode cX1_readSign 20 = .ok (.iconst 1, 1) := by decide +kernel
theorem dX1_readSign_21 : decode cX1_readSign 21 = .ok (.ireturn, 1) := by decide +kernel
theorem dX1_readProduct_0 : decode cX1_readProduct 0 = .ok (.aload_n 0, 1) := by decide +kernel
theorem dX1_readProduct_1 : decode cX1_readProduct 1 = .ok (.aload_n 0, 1) := by decide +kernel
theorem dX1_readProduct_2 : decode cX1_readProduct 2 = .ok (.invokevirtual 56, 3) := by decide +kernel
theorem dX1_readProduct_5 : decode cX1_readProduct 5 = .ok (.putfield 60, 3) := by decide +kernel
theorem dX1_readProduct_8 : decode cX1_readProduct 8 = .ok (.aload_n 0, 1) := by decide +kernel
theorem dX1_readProduct_9 : decode cX1_readProduct 9 = .ok (.getfield 60, 3) := by decide +kernel
theorem dX1_readProduct_12 : decode cX1_readProduct 12 = .ok (.ifCond .ge 5, 3) := by decide +kernel
theorem dX1_readProduct_15 : decode cX1_readProduct 15 = .ok (.iconst 0, 1) := by decide +kernel
theorem dX1_readProduct_16 : decode cX1_readProduct 16 = .ok (.ireturn, 1) := by decide +kernel
theorem dX1_readProduct_17 : decode cX1_readProduct 17 = .ok (.aload_n 0, 1) := by decide +kernel
theorem dX1_readProduct_18 : decode cX1_readProduct 18 = .ok (.dup, 1) := by decide +kernel
theorem dX1_readProduct_19 : decode cX1_readProduct 19 = .ok (.getfield 31, 3) := by decide +kernel
theorem dX1_readProduct_22 : decode cX1_readProduct 22 = .ok (.iconst 1, 1) := by decide +kernel
theorem dX1_readProduct_23 : decode cX1_readProduct 23 = .ok (.iadd, 1) := by decide +kernel
theorem dX1_readProduct_24 : decode cX1_readProduct 24 = .ok (.putfield 31, 3) := by decide +kernel
theorem dX1_readProduct_27 : decode cX1_readProduct 27 = .ok (.iconst 1, 1) := by decide +kernel
theorem dX1_readProduct_28 : decode cX1_readProduct 28 = .ok (.ireturn, 1) := by decide +kernel
theorem dX1_readWeek_0 : decode cX1_readWeek 0 = .ok (.aload_n 0, 1) := by decide +kernel
theorem dX1_readWeek_1 : decode cX1_readWeek 1 = .ok (.invokevirtual 53, 3) := by decide +kernel
theorem dX1_readWeek_4 : decode cX1_readWeek 4 = .ok (.istore_n 1, 1) := by decide +kernel
theorem dX1_readWeek_5 : decode cX1_readWeek 5 = .ok (.aload_n 0, 1) := by decide +kernel
theorem dX1_readWeek_6 : decode cX1_readWeek 6 = .ok (.aload_n 0, 1) := by decide +kernel
theorem dX1_readWeek_7 : decode cX1_readWeek 7 = .ok (.getfield 63, 3) := by decide +kernel
theorem dX1_readWeek_10 : decode cX1_readWeek 10 = .ok (.putfield 66, 3) := by decide +kernel
theorem dX1_readWeek_13 : decode cX1_readWeek 13 = .ok (.iload_n 1, 1) := by decide +kernel
theorem dX1_readWeek_14 : decode cX1_readWeek 14 = .ok (.ireturn, 1) := by decide +kernel
theorem dX1_readNumber_0 : decode cX1_readNumber 0 = .ok (.aload_n 0, 1) := by decide +kernel
theorem dX1_readNumber_1 : decode cX1_readNumber 1 = .ok (.invokevirtual 56, 3) := by decide +kernel
theorem dX1_readNumber_4 : decode cX1_readNumber 4 = .ok (.ifCond .ge 5, 3) := by decide +kernel
theorem dX1_readNumber_7 : decode cX1_readNumber 7 = .ok (.iconst 0, 1) := by decide +kernel
theorem dX1_readNumber_8 : decode cX1_readNumber 8 = .ok (.ireturn, 1) := by decide +kernel
theorem dX1_readNumber_9 : decode cX1_readNumber 9 = .ok (.aload_n 0, 1) := by decide +kernel
theorem dX1_readNumber_10 : decode cX1_readNumber 10 = .ok (.iconst 0, 1) := by decide +kernel
theorem dX1_readNumber_11 : decode cX1_readNumber 11 = .ok (.putfield 63, 3) := by decide +kernel
theorem dX1_readNumber_14 : decode cX1_readNumber 14 = .ok (.iconst 0, 1) := by decide +kernel
theorem dX1_readNumber_15 : decode cX1_readNumber 15 = .ok (.istore_n 1, 1) := by decide +kernel
theorem dX1_readNumber_16 : decode cX1_readNumber 16 = .ok (.iload_n 1, 1) := by decide +kernel
theorem dX1_readNumber_17 : decode cX1_readNumber 17 = .ok (.iconst 4, 1) := by decide +kernel
theorem dX1_readNumber_18 : decode cX1_readNumber 18 = .ok (.if_icmp .ge 52, 3) := by decide +kernel
theorem dX1_readNumber_21 : decode cX1_readNumber 21 = .ok (.aload_n 0, 1) := by decide +kernel
theorem dX1_readNumber_22 : decode cX1_readNumber 22 = .ok (.invokevirtual 56, 3) := by decide +kernel
theorem dX1_readNumber_25 : decode cX1_readNumber 25 = .ok (.ifCond .lt 45, 3) := by decide +kernel
theorem dX1_readNumber_28 : decode cX1_readNumber 28 = .ok (.aload_n 0, 1) := by decide +kernel
theorem dX1_readNumber_29 : decode cX1_readNumber 29 = .ok (.aload_n 0, 1) := by decide +kernel
theorem dX1_readNumber_30 : decode cX1_readNumber 30 = .ok (.getfield 63, 3) := by decide +kernel
theorem dX1_readNumber_33 : decode cX1_readNumber 33 = .ok (.bipush 10, 2) := by decide +kernel
theorem dX1_readNumber_35 : decode cX1_readNumber 35 = .ok (.imul, 1) := by decide +kernel
theorem dX1_readNumber_36 : decode cX1_readNumber 36 = .ok (.aload_n 0, 1) := by decide +kernel
theorem dX1_readNumber_37 : decode cX1_readNumber 37 = .ok (.invokevirtual 56, 3) := by decide +kernel
theorem dX1_readNumber_40 : decode cX1_readNumber 40 = .ok (.iadd, 1) := by decide +kernel
theorem dX1_readNumber_41 : decode cX1_readNumber 41 = .ok (.putfield 63, 3) := by decide +kernel
theorem dX1_readNumber_44 : decode cX1_readNumber 44 = .ok (.aload_n 0, 1) := by decide +kernel
theorem dX1_readNumber_45 : decode cX1_readNumber 45 = .ok (.dup, 1) := by decide +kernel
theorem dX1_readNumber_46 : decode cX1_readNumber 46 = .ok (.getfield 31, 3) := by decide +kernel
theorem dX1_readNumber_49 : decode cX1_readNumber 49 = .ok (.iconst 1, 1) := by decide +kernel
theorem dX1_readNumber_50 : decode cX1_readNumber 50 = .ok (.iadd, 1) := by decide +kernel
theorem dX1_readNumber_51 : decode cX1_readNumber 51 = .ok (.putfield 31, 3) := by decide +kernel
theorem dX1_readNumber_54 : decode cX1_readNumber 54 = .ok (.aload_n 0, 1) := by decide +kernel
theorem dX1_readNumber_55 : decode cX1_readNumber 55 = .ok (.getfield 63, 3) := by decide +kernel
theorem dX1_readNumber_58 : decode cX1_readNumber 58 = .ok (.ifCond .ne 6, 3) := by decide +kernel
theorem dX1_readNumber_61 : decode cX1_readNumber 61 = .ok (.goto 9, 3) := by decide +kernel
theorem dX1_readNumber_64 : decode cX1_readNumber 64 = .ok (.iinc 1 1, 3) := by decide +kernel
theorem dX1_readNumber_67 : decode cX1_readNumber 67 = .ok (.goto (-51), 3) := by decide +kernel
theorem dX1_readNumber_70 : decode cX1_readNumber 70 = .ok (.iconst 1, 1) := by decide +kernel
theorem dX1_readNumber_71 : decode cX1_readNumber 71 = .ok (.ireturn, 1) := by decide +kernel
theorem dX1_digitHere_0 : decode cX1_digitHere 0 = .ok (.aload_n 0, 1) := by decide +kernel
theorem dX1_digitHere_1 : decode cX1_digitHere 1 = .ok (.invokevirtual 34, 3) := by decide +kernel
theorem dX1_digitHere_4 : decode cX1_digitHere 4 = .ok (.istore_n 1, 1) := by decide +kernel
theorem dX1_digitHere_5 : decode cX1_digitHere 5 = .ok (.iload_n 1, 1) := by decide +kernel
theorem dX1_digitHere_6 : decode cX1_digitHere 6 = .ok (.bipush 48, 2) := by decide +kernel
theorem dX1_digitHere_8 : decode cX1_digitHere 8 = .ok (.if_icmp .lt 16, 3) := by decide +kernel
theorem dX1_digitHere_11 : decode cX1_digitHere 11 = .ok (.iload_n 1, 1) := by decide +kernel
theorem dX1_digitHere_12 : decode cX1_digitHere 12 = .ok (.bipush 57, 2) := by decide +kernel
theorem dX1_digitHere_14 : decode cX1_digitHere 14 = .ok (.if_icmp .gt 10, 3) := by decide +kernel
theorem dX1_digitHere_17 : decode cX1_digitHere 17 = .ok (.iload_n 1, 1) := by decide +kernel
theorem dX1_digitHere_18 : decode cX1_digitHere 18 = .ok (.bipush 48, 2) := by decide +kernel
theorem dX1_digitHere_20 : decode cX1_digitHere 20 = .ok (.isub, 1) := by decide +kernel
theorem dX1_digitHere_21 : decode cX1_digitHere 21 = .ok (.goto 4, 3) := by decide +kernel
theorem dX1_digitHere_24 : decode cX1_digitHere 24 = .ok (.iconst (-1), 1) := by decide +kernel
theorem dX1_digitHere_25 : decode cX1_digitHere 25 = .ok (.ireturn, 1) := by decide +kernel
theorem dX1_signHere_0 : decode cX1_signHere 0 = .ok (.aload_n 0, 1) := by decide +kernel
theorem dX1_signHere_1 : decode cX1_signHere 1 = .ok (.getfield 31, 3) := by decide +kernel
theorem dX1_signHere_4 : decode cX1_signHere 4 = .ok (.ifCond .lt 35, 3) := by decide +kernel
theorem dX1_signHere_7 : decode cX1_signHere 7 = .ok (.aload_n 0, 1) := by decide +kernel
theorem dX1_signHere_8 : decode cX1_signHere 8 = .ok (.getfield 31, 3) := by decide +kernel
theorem dX1_signHere_11 : decode cX1_signHere 11 = .ok (.aload_n 0, 1) := by decide +kernel
theorem dX1_signHere_12 : decode cX1_signHere 12 = .ok (.getfield 27, 3) := by decide +kernel
theorem dX1_signHere_15 : decode cX1_signHere 15 = .ok (.if_icmp .ge 24, 3) := by decide +kernel
theorem dX1_signHere_18 : decode cX1_signHere 18 = .ok (.aload_n 0, 1) := by decide +kernel
theorem dX1_signHere_19 : decode cX1_signHere 19 = .ok (.getfield 31, 3) := by decide +kernel
theorem dX1_signHere_22 : decode cX1_signHere 22 = .ok (.bipush 80, 2) := by decide +kernel
theorem dX1_signHere_24 : decode cX1_signHere 24 = .ok (.if_icmp .ge 15, 3) := by decide +kernel
theorem dX1_signHere_27 : decode cX1_signHere 27 = .ok (.aload_n 0, 1) := by decide +kernel
theorem dX1_signHere_28 : decode cX1_signHere 28 = .ok (.getfield 9, 3) := by decide +kernel
theorem dX1_signHere_31 : decode cX1_signHere 31 = .ok (.aload_n 0, 1) := by decide +kernel
theorem dX1_signHere_32 : decode cX1_signHere 32 = .ok (.getfield 31, 3) := by decide +kernel
theorem dX1_signHere_35 : decode cX1_signHere 35 = .ok (.caload, 1) := by decide +kernel
theorem dX1_signHere_36 : decode cX1_signHere 36 = .ok (.goto 4, 3) := by decide +kernel
theorem dX1_signHere_39 : decode cX1_signHere 39 = .ok (.iconst 0, 1) := by decide +kernel
theorem dX1_signHere_40 : decode cX1_signHere 40 = .ok (.ireturn, 1) := by decide +kernel
theorem dX2_init_0 : decode cX2_init 0 = .ok (.aload_n 0, 1) := by decide +kernel
theorem dX2_init_1 : decode cX2_init 1 = .ok (.invokespecial 3, 3) := by decide +kernel
theorem dX2_init_4 : decode cX2_init 4 = .ok (.aload_n 0, 1) := by decide +kernel
theorem dX2_init_5 : decode cX2_init 5 = .ok (.bipush 12, 2) := by decide +kernel
theorem dX2_init_7 : decode cX2_init 7 = .ok (.newarray .int, 2) := by decide +kernel
theorem dX2_init_9 : decode cX2_init 9 = .ok (.putfield 9, 3) := by decide +kernel
theorem dX2_init_12 : decode cX2_init 12 = .ok (.aload_n 0, 1) := by decide +kernel
theorem dX2_init_13 : decode cX2_init 13 = .ok (.bipush 12, 2) := by decide +kernel
theorem dX2_init_15 : decode cX2_init 15 = .ok (.newarray .int, 2) := by decide +kernel
theorem dX2_init_17 : decode cX2_init 17 = .ok (.putfield 15, 3) := by decide +kernel
theorem dX2_init_20 : decode cX2_init 20 = .ok (.return_, 1) := by decide +kernel
theorem dX2_begin_0 : decode cX2_begin 0 = .ok (.aload_n 0, 1) := by decide +kernel
theorem dX2_begin_1 : decode cX2_begin 1 = .ok (.iload_n 1, 1) := by decide +kernel
theorem dX2_begin_2 : decode cX2_begin 2 = .ok (.putfield 18, 3) := by decide +kernel
theorem dX2_begin_5 : decode cX2_begin 5 = .ok (.aload_n 0, 1) := by decide +kernel
theorem dX2_begin_6 : decode cX2_begin 6 = .ok (.iload_n 2, 1) := by decide +kernel
theorem dX2_begin_7 : decode cX2_begin 7 = .ok (.putfield 22, 3) := by decide +kernel
theorem dX2_begin_10 : decode cX2_begin 10 = .ok (.aload_n 0, 1) := by decide +kernel
theorem dX2_begin_11 : decode cX2_begin 11 = .ok (.iload_n 3, 1) := by decide +kernel
theorem dX2_begin_12 : decode cX2_begin 12 = .ok (.putfield 25, 3) := by decide +kernel
theorem dX2_begin_15 : decode cX2_begin 15 = .ok (.aload_n 0, 1) := by decide +kernel
theorem dX2_begin_16 : decode cX2_begin 16 = .ok (.iload 4, 2) := by decide +kernel
theorem dX2_begin_18 : decode cX2_begin 18 = .ok (.putfield 28, 3) := by decide +kernel
theorem dX2_begin_21 : decode cX2_begin 21 = .ok (.aload_n 0, 1) := by decide +kernel
theorem dX2_begin_22 : decode cX2_begin 22 = .ok (.iload 5, 2) := by decide +kernel
theorem dX2_begin_24 : decode cX2_begin 24 = .ok (.putfield 31, 3) := by decide +kernel
theorem dX2_begin_27 : decode cX2_begin 27 = .ok (.aload_n 0, 1) := by decide +kernel
theorem dX2_begin_28 : decode cX2_begin 28 = .ok (.iload 5, 2) := by decide +kernel
theorem dX2_begin_30 : decode cX2_begin 30 = .ok (.putfield 34, 3) := by decide +kernel
theorem dX2_begin_33 : decode cX2_begin 33 = .ok (.aload_n 0, 1) := by decide +kernel
theorem dX2_begin_34 : decode cX2_begin 34 = .ok (.iconst 0, 1) := by decide +kernel
theorem dX2_begin_35 : decode cX2_begin 35 = .ok (.putfield 37, 3) := by decide +kernel
theorem dX2_begin_38 : decode cX2_begin 38 = .ok (.aload_n 0, 1) := by decide +kernel
theorem dX2_begin_39 : decode cX2_begin 39 = .ok (.iconst 0, 1) := by decide +kernel
theorem dX2_begin_40 : decode cX2_begin 40 = .ok (.putfield 40, 3) := by decide +kernel
theorem dX2_begin_43 : decode cX2_begin 43 = .ok (.aload_n 0, 1) := by decide +kernel
theorem dX2_begin_44 : decode cX2_begin 44 = .ok (.bipush (-6), 2) := by decide +kernel
theorem dX2_begin_46 : decode cX2_begin 46 = .ok (.putfield 43, 3) := by decide +kernel
theorem dX2_begin_49 : decode cX2_begin 49 = .ok (.aload_n 0, 1) := by decide +kernel
theorem dX2_begin_50 : decode cX2_begin 50 = .ok (.iconst 0, 1) := by decide +kernel
theorem dX2_begin_51 : decode cX2_begin 51 = .ok (.putfield 46, 3) := by decide +kernel
theorem dX2_begin_54 : decode cX2_begin 54 = .ok (.aload_n 0, 1) := by decide +kernel
theorem dX2_begin_55 : decode cX2_begin 55 = .ok (.iconst 0, 1) := by decide +kernel
theorem dX2_begin_56 : decode cX2_begin 56 = .ok (.putfield 49, 3) := by decide +kernel
theorem dX2_begin_59 : decode cX2_begin 59 = .ok (.aload_n 0, 1) := by decide +kernel
theorem dX2_begin_60 : decode cX2_begin 60 = .ok (.iconst 0, 1) := by decide +kernel
theorem dX2_begin_61 : decode cX2_begin 61 = .ok (.putfield 52, 3) := by decide +kernel
theorem dX2_begin_64 : decode cX2_begin 64 = .ok (.aload_n 0, 1) := by decide +kernel
theorem dX2_begin_65 : decode cX2_begin 65 = .ok (.getfield 9, 3) := by decide +kernel
theorem dX2_begin_68 : decode cX2_begin 68 = .ok (.iconst 0, 1) := by decide +kernel
theorem dX2_begin_69 : decode cX2_begin 69 = .ok (.invokestatic 55, 3) := by decide +kernel
theorem dX2_begin_72 : decode cX2_begin 72 = .ok (.aload_n 0, 1) := by decide +kernel
theorem dX2_begin_73 : decode cX2_begin 73 = .ok (.getfield 15, 3) := by decide +kernel
theorem dX2_begin_76 : decode cX2_begin 76 = .ok (.iconst 0, 1) := by decide +kernel
theorem dX2_begin_77 : decode cX2_begin 77 = .ok (.invokestatic 55, 3) := by decide +kernel
theorem dX2_begin_80 : decode cX2_begin 80 = .ok (.return_, 1) := by decide +kernel
theorem dX2_copyFrom_0 : decode cX2_copyFrom 0 = .ok (.aload_n 0, 1) := by decide +kernel
theorem dX2_copyFrom_1 : decode cX2_copyFrom 1 = .ok (.aload_n 1, 1) := by decide +kernel
theorem dX2_copyFrom_2 : decode cX2_copyFrom 2 = .ok (.getfield 18, 3) := by decide +kernel
theorem dX2_copyFrom_5 : decode cX2_copyFrom 5 = .ok (.putfield 18, 3) := by decide +kernel
theorem dX2_copyFrom_8 : decode cX2_copyFrom 8 = .ok (.aload_n 0, 1) := by decide +kernel
theorem dX2_copyFrom_9 : decode cX2_copyFrom 9 = .ok (.aload_n 1, 1) := by decide +kernel
theorem dX2_copyFrom_10 : decode cX2_copyFrom 10 = .ok (.getfield 22, 3) := by decide +kernel
theorem dX2_copyFrom_13 : decode cX2_copyFrom 13 = .ok (.putfield 22, 3) := by decide +kernel
theorem dX2_copyFrom_16 : decode cX2_copyFrom 16 = .ok (.aload_n 0, 1) := by decide +kernel
theorem dX2_copyFrom_17 : decode cX2_copyFrom 17 = .ok (.aload_n 1, 1) := by decide +kernel
theorem dX2_copyFrom_18 : decode cX2_copyFrom 18 = .ok (.getfield 25, 3) := by decide +kernel
theorem dX2_copyFrom_21 : decode cX2_copyFrom 21 = .ok (.putfield 25, 3) := by decide +kernel
theorem dX2_copyFrom_24 : decode cX2_copyFrom 24 = .ok (.aload_n 0, 1) := by decide +kernel
theorem dX2_copyFrom_25 : decode cX2_copyFrom 25 = .ok (.aload_n 1, 1) := by decide +kernel
theorem dX2_copyFrom_26 : decode cX2_copyFrom 26 = .ok (.getfield 28, 3) := by decide +kernel
theorem dX2_copyFrom_29 : decode cX2_copyFrom 29 = .ok (.putfield 28, 3) := by decide +kernel
theorem dX2_copyFrom_32 : decode cX2_copyFrom 32 = .ok (.aload_n 0, 1) := by decide +kernel
theorem dX2_copyFrom_33 : decode cX2_copyFrom 33 = .ok (.aload_n 1, 1) := by decide +kernel
theorem dX2_copyFrom_34 : decode cX2_copyFrom 34 = .ok (.getfield 31, 3) := by decide +kernel
theorem dX2_copyFrom_37 : decode cX2_copyFrom 37 = .ok (.putfield 31, 3) := by decide +kernel
theorem dX2_copyFrom_40 : decode cX2_copyFrom 40 = .ok (.aload_n 0, 1) := by decide +kernel
theorem dX2_copyFrom_41 : decode cX2_copyFrom 41 = .ok (.aload_n 1, 1) := by decide +kernel
theorem dX2_copyFrom_42 : decode cX2_copyFrom 42 = .ok (.getfield 34, 3) := by decide +kernel
theorem dX2_copyFrom_45 : decode cX2_copyFrom 45 = .ok (.putfield 34, 3) := by decide +kernel
theorem dX2_copyFrom_48 : decode cX2_copyFrom 48 = .ok (.aload_n 0, 1) := by decide +kernel
theorem dX2_copyFrom_49 : decode cX2_copyFrom 49 = .ok (.aload_n 1, 1) := by decide +kernel
theorem dX2_copyFrom_50 : decode cX2_copyFrom 50 = .ok (.getfield 37, 3) := by decide +kernel
theorem dX2_copyFrom_53 : decode cX2_copyFrom 53 = .ok (.putfield 37, 3) := by decide +kernel
theorem dX2_copyFrom_56 : decode cX2_copyFrom 56 = .ok (.aload_n 0, 1) := by decide +kernel
theorem dX2_copyFrom_57 : decode cX2_copyFrom 57 = .ok (.aload_n 1, 1) := by decide +kernel
theorem dX2_copyFrom_58 : decode cX2_copyFrom 58 = .ok (.getfield 40, 3) := by decide +kernel
theorem dX2_copyFrom_61 : decode cX2_copyFrom 61 = .ok (.putfield 40, 3) := by decide +kernel
theorem dX2_copyFrom_64 : decode cX2_copyFrom 64 = .ok (.aload_n 0, 1) := by decide +kernel
theorem dX2_copyFrom_65 : decode cX2_copyFrom 65 = .ok (.aload_n 1, 1) := by decide +kernel
theorem dX2_copyFrom_66 : decode cX2_copyFrom 66 = .ok (.getfield 43, 3) := by decide +kernel
theorem dX2_copyFrom_69 : decode cX2_copyFrom 69 = .ok (.putfield 43, 3) := by decide +kernel
theorem dX2_copyFrom_72 : decode cX2_copyFrom 72 = .ok (.aload_n 0, 1) := by decide +kernel
theorem dX2_copyFrom_73 : decode cX2_copyFrom 73 = .ok (.aload_n 1, 1) := by decide +kernel
theorem dX2_copyFrom_74 : decode cX2_copyFrom 74 = .ok (.getfield 46, 3) := by decide +kernel
theorem dX2_copyFrom_77 : decode cX2_copyFrom 77 = .ok (.putfield 46, 3) := by decide +kernel
theorem dX2_copyFrom_80 : decode cX2_copyFrom 80 = .ok (.aload_n 0, 1) := by decide +kernel
theorem dX2_copyFrom_81 : decode cX2_copyFrom 81 = .ok (.aload_n 1, 1) := by decide +kernel
theorem dX2_copyFrom_82 : decode cX2_copyFrom 82 = .ok (.getfield 49, 3) := by decide +kernel
theorem dX2_copyFrom_85 : decode cX2_copyFrom 85 = .ok (.putfield 49, 3) := by decide +kernel
theorem dX2_copyFrom_88 : decode cX2_copyFrom 88 = .ok (.aload_n 0, 1) := by decide +kernel
theorem dX2_copyFrom_89 : decode cX2_copyFrom 89 = .ok (.aload_n 1, 1) := by decide +kernel
theorem dX2_copyFrom_90 : decode cX2_copyFrom 90 = .ok (.getfield 52, 3) := by decide +kernel
theorem dX2_copyFrom_93 : decode cX2_copyFrom 93 = .ok (.putfield 52, 3) := by decide +kernel
theorem dX2_copyFrom_96 : decode cX2_copyFrom 96 = .ok (.aload_n 1, 1) := by decide +kernel
theorem dX2_copyFrom_97 : decode cX2_copyFrom 97 = .ok (.getfield 9, 3) := by decide +kernel
theorem dX2_copyFrom_100 : decode cX2_copyFrom 100 = .ok (.iconst 0, 1) := by decide +kernel
theorem dX2_copyFrom_101 : decode cX2_copyFrom 101 = .ok (.aload_n 0, 1) := by decide +kernel
theorem dX2_copyFrom_102 : decode cX2_copyFrom 102 = .ok (.getfield 9, 3) := by decide +kernel
theorem dX2_copyFrom_105 : decode cX2_copyFrom 105 = .ok (.iconst 0, 1) := by decide +kernel
theorem dX2_copyFrom_106 : decode cX2_copyFrom 106 = .ok (.bipush 12, 2) := by decide +kernel
theorem dX2_copyFrom_108 : decode cX2_copyFrom 108 = .ok (.invokestatic 61, 3) := by decide +kernel
theorem dX2_copyFrom_111 : decode cX2_copyFrom 111 = .ok (.aload_n 1, 1) := by decide +kernel
theorem dX2_copyFrom_112 : decode cX2_copyFrom 112 = .ok (.getfield 15, 3) := by decide +kernel
theorem dX2_copyFrom_115 : decode cX2_copyFrom 115 = .ok (.iconst 0, 1) := by decide +kernel
theorem dX2_copyFrom_116 : decode cX2_copyFrom 116 = .ok (.aload_n 0, 1) := by decide +kernel
theorem dX2_copyFrom_117 : decode cX2_copyFrom 117 = .ok (.getfield 15, 3) := by decide +kernel
theorem dX2_copyFrom_120 : decode cX2_copyFrom 120 = .ok (.iconst 0, 1) := by decide +kernel
theorem dX2_copyFrom_121 : decode cX2_copyFrom 121 = .ok (.bipush 12, 2) := by decide +kernel
theorem dX2_copyFrom_123 : decode cX2_copyFrom 123 = .ok (.invokestatic 61, 3) := by decide +kernel
theorem dX2_copyFrom_126 : decode cX2_copyFrom 126 = .ok (.return_, 1) := by decide +kernel
theorem dX2_cover_0 : decode cX2_cover 0 = .ok (.aload_n 0, 1) := by decide +kernel
theorem dX2_cover_1 : decode cX2_cover 1 = .ok (.getfield 40, 3) := by decide +kernel
theorem dX2_cover_4 : decode cX2_cover 4 = .ok (.iload_n 1, 1) := by decide +kernel
theorem dX2_cover_5 : decode cX2_cover 5 = .ok (.imul, 1) := by decide +kernel
theorem dX2_cover_6 : decode cX2_cover 6 = .ok (.bipush 100, 2) := by decide +kernel
theorem dX2_cover_8 : decode cX2_cover 8 = .ok (.idiv, 1) := by decide +kernel
theorem dX2_cover_9 : decode cX2_cover 9 = .ok (.ireturn, 1) := by decide +kernel
theorem dX2_lotsIn_0 : decode cX2_lotsIn 0 = .ok (.iload_n 1, 1) := by decide +kernel
theorem dX2_lotsIn_1 : decode cX2_lotsIn 1 = .ok (.ifCond .lt 18, 3) := by decide +kernel
theorem dX2_lotsIn_4 : decode cX2_lotsIn 4 = .ok (.iload_n 1, 1) := by decide +kernel
theorem dX2_lotsIn_5 : decode cX2_lotsIn 5 = .ok (.bipush 12, 2) := by decide +kernel
theorem dX2_lotsIn_7 : decode cX2_lotsIn 7 = .ok (.if_icmp .ge 12, 3) := by decide +kernel
theorem dX2_lotsIn_10 : decode cX2_lotsIn 10 = .ok (.aload_n 0, 1) := by decide +kernel
theorem dX2_lotsIn_11 : decode cX2_lotsIn 11 = .ok (.getfield 15, 3) := by decide +kernel
theorem dX2_lotsIn_14 : decode cX2_lotsIn 14 = .ok (.iload_n 1, 1) := by decide +kernel
theorem dX2_lotsIn_15 : decode cX2_lotsIn 15 = .ok (.iaload, 1) := by decide +kernel
theorem dX2_lotsIn_16 : decode cX2_lotsIn 16 = .ok (.goto 4, 3) := by decide +kernel
theorem dX2_lotsIn_19 : decode cX2_lotsIn 19 = .ok (.iconst 0, 1) := by decide +kernel
theorem dX2_lotsIn_20 : decode cX2_lotsIn 20 = .ok (.ireturn, 1) := by decide +kernel
theorem dX2_lotsInAll_0 : decode cX2_lotsInAll 0 = .ok (.iconst 0, 1) := by decide +kernel
theorem dX2_lotsInAll_1 : decode cX2_lotsInAll 1 = .ok (.istore_n 1, 1) := by decide +kernel
theorem dX2_lotsInAll_2 : decode cX2_lotsInAll 2 = .ok (.iconst 0, 1) := by decide +kernel
theorem dX2_lotsInAll_3 : decode cX2_lotsInAll 3 = .ok (.istore_n 2, 1) := by decide +kernel
theorem dX2_lotsInAll_4 : decode cX2_lotsInAll 4 = .ok (.iload_n 2, 1) := by decide +kernel
theorem dX2_lotsInAll_5 : decode cX2_lotsInAll 5 = .ok (.bipush 12, 2) := by decide +kernel
theorem dX2_lotsInAll_7 : decode cX2_lotsInAll 7 = .ok (.if_icmp .ge 18, 3) := by decide +kernel
theorem dX2_lotsInAll_10 : decode cX2_lotsInAll 10 = .ok (.iload_n 1, 1) := by decide +kernel
theorem dX2_lotsInAll_11 : decode cX2_lotsInAll 11 = .ok (.aload_n 0, 1) := by decide +kernel
theorem dX2_lotsInAll_12 : decode cX2_lotsInAll 12 = .ok (.getfield 15, 3) := by decide +kernel
theorem dX2_lotsInAll_15 : decode cX2_lotsInAll 15 = .ok (.iload_n 2, 1) := by decide +kernel
theorem dX2_lotsInAll_16 : decode cX2_lotsInAll 16 = .ok (.iaload, 1) := by decide +kernel
theorem dX2_lotsInAll_17 : decode cX2_lotsInAll 17 = .ok (.iadd, 1) := by decide +kernel
theorem dX2_lotsInAll_18 : decode cX2_lotsInAll 18 = .ok (.istore_n 1, 1) := by decide +kernel
theorem dX2_lotsInAll_19 : decode cX2_lotsInAll 19 = .ok (.iinc 2 1, 3) := by decide +kernel
theorem dX2_lotsInAll_22 : decode cX2_lotsInAll 22 = .ok (.goto (-18), 3) := by decide +kernel
theorem dX2_lotsInAll_25 : decode cX2_lotsInAll 25 = .ok (.iload_n 1, 1) := by decide +kernel
theorem dX2_lotsInAll_26 : decode cX2_lotsInAll 26 = .ok (.ireturn, 1) := by decide +kernel
theorem dX2_projectionBehind_0 : decode cX2_projectionBehind 0 = .ok (.aload_n 0, 1) := by decide +kernel
theorem dX2_projectionBehind_1 : decode cX2_projectionBehind 1 = .ok (.getfield 34, 3) := by decide +kernel
theorem dX2_projectionBehind_4 : decode cX2_projectionBehind 4 = .ok (.i2l, 1) := by decide +kernel
theorem dX2_projectionBehind_5 : decode cX2_projectionBehind 5 = .ok (.aload_n 0, 1) := by decide +kernel
theorem dX2_projectionBehind_6 : decode cX2_projectionBehind 6 = .ok (.getfield 37, 3) := by decide +kernel
theorem dX2_projectionBehind_9 : decode cX2_projectionBehind 9 = .ok (.i2l, 1) := by decide +kernel
theorem dX2_projectionBehind_10 : decode cX2_projectionBehind 10 = .ok (.lsub, 1) := by decide +kernel
theorem dX2_projectionBehind_11 : decode cX2_projectionBehind 11 = .ok (.lstore_n 2, 1) := by decide +kernel
theorem dX2_projectionBehind_12 : decode cX2_projectionBehind 12 = .ok (.iconst 0, 1) := by decide +kernel
theorem dX2_projectionBehind_13 : decode cX2_projectionBehind 13 = .ok (.istore 4, 2) := by decide +kernel
theorem dX2_projectionBehind_15 : decode cX2_projectionBehind 15 = .ok (.iload 4, 2) := by decide +kernel
theorem dX2_projectionBehind_17 : decode cX2_projectionBehind 17 = .ok (.iload_n 1, 1) := by decide +kernel
theorem dX2_projectionBehind_18 : decode cX2_projectionBehind 18 = .ok (.if_icmp .gt 42, 3) := by decide +kernel
theorem dX2_projectionBehind_21 : decode cX2_projectionBehind 21 = .ok (.iload 4, 2) := by decide +kernel
theorem dX2_projectionBehind_23 : decode cX2_projectionBehind 23 = .ok (.bipush 12, 2) := by decide +kernel
theorem dX2_projectionBehind_25 : decode cX2_projectionBehind 25 = .ok (.if_icmp .ge 35, 3) := by decide +kernel
theorem dX2_projectionBehind_28 : decode cX2_projectionBehind 28 = .ok (.lload_n 2, 1) := by decide +kernel
theorem dX2_projectionBehind_29 : decode cX2_projectionBehind 29 = .ok (.aload_n 0, 1) := by decide +kernel
theorem dX2_projectionBehind_30 : decode cX2_projectionBehind 30 = .ok (.getfield 15, 3) := by decide +kernel
theorem dX2_projectionBehind_33 : decode cX2_projectionBehind 33 = .ok (.iload 4, 2) := by decide +kernel
theorem dX2_projectionBehind_35 : decode cX2_projectionBehind 35 = .ok (.iaload, 1) := by decide +kernel
theorem dX2_projectionBehind_36 : decode cX2_projectionBehind 36 = .ok (.i2l, 1) := by decide +kernel
theorem dX2_projectionBehind_37 : decode cX2_projectionBehind 37 = .ok (.aload_n 0, 1) := by decide +kernel
theorem dX2_projectionBehind_38 : decode cX2_projectionBehind 38 = .ok (.getfield 22, 3) := by decide +kernel
theorem dX2_projectionBehind_41 : decode cX2_projectionBehind 41 = .ok (.i2l, 1) := by decide +kernel
theorem dX2_projectionBehind_42 : decode cX2_projectionBehind 42 = .ok (.lmul, 1) := by decide +kernel
theorem dX2_projectionBehind_43 : decode cX2_projectionBehind 43 = .ok (.aload_n 0, 1) := by decide +kernel
theorem dX2_projectionBehind_44 : decode cX2_projectionBehind 44 = .ok (.getfield 9, 3) := by decide +kernel
theorem dX2_projectionBehind_47 : decode cX2_projectionBehind 47 = .ok (.iload 4, 2) := by decide +kernel
theorem dX2_projectionBehind_49 : decode cX2_projectionBehind 49 = .ok (.iaload, 1) := by decide +kernel
theorem dX2_projectionBehind_50 : decode cX2_projectionBehind 50 = .ok (.i2l, 1) := by decide +kernel
theorem dX2_projectionBehind_51 : decode cX2_projectionBehind 51 = .ok (.lsub, 1) := by decide +kernel
theorem dX2_projectionBehind_52 : decode cX2_projectionBehind 52 = .ok (.ladd, 1) := by decide +kernel
theorem dX2_projectionBehind_53 : decode cX2_projectionBehind 53 = .ok (.lstore_n 2, 1) := by decide +kernel
theorem dX2_projectionBehind_54 : decode cX2_projectionBehind 54 = .ok (.iinc 4 1, 3) := by decide +kernel
theorem dX2_projectionBehind_57 : decode cX2_projectionBehind 57 = .ok (.goto (-42), 3) := by decide +kernel
theorem dX2_projectionBehind_60 : decode cX2_projectionBehind 60 = .ok (.lload_n 2, 1) := by decide +kernel
theorem dX2_projectionBehind_61 : decode cX2_projectionBehind 61 = .ok (.lreturn, 1) := by decide +kernel
theorem dX2_openPlan_0 : decode cX2_openPlan 0 = .ok (.aload_n 0, 1) := by decide +kernel
theorem dX2_openPlan_1 : decode cX2_openPlan 1 = .ok (.aload_n 0, 1) := by decide +kernel
theorem dX2_openPlan_2 : decode cX2_openPlan 2 = .ok (.iload_n 1, 1) := by decide +kernel
theorem dX2_openPlan_3 : decode cX2_openPlan 3 = .ok (.iconst 1, 1) := by decide +kernel
theorem dX2_openPlan_4 : decode cX2_openPlan 4 = .ok (.isub, 1) := by decide +kernel
theorem dX2_openPlan_5 : decode cX2_openPlan 5 = .ok (.invokevirtual 67, 3) := by decide +kernel
theorem dX2_openPlan_8 : decode cX2_openPlan 8 = .ok (.putfield 71, 3) := by decide +kernel
theorem dX2_openPlan_11 : decode cX2_openPlan 11 = .ok (.iload_n 1, 1) := by decide +kernel
theorem dX2_openPlan_12 : decode cX2_openPlan 12 = .ok (.iconst 0, 1) := by decide +kernel
theorem dX2_openPlan_13 : decode cX2_openPlan 13 = .ok (.invokestatic 75, 3) := by decide +kernel
theorem dX2_openPlan_16 : decode cX2_openPlan 16 = .ok (.istore_n 2, 1) := by decide +kernel
theorem dX2_openPlan_17 : decode cX2_openPlan 17 = .ok (.iload_n 2, 1) := by decide +kernel
theorem dX2_openPlan_18 : decode cX2_openPlan 18 = .ok (.bipush 12, 2) := by decide +kernel
theorem dX2_openPlan_20 : decode cX2_openPlan 20 = .ok (.if_icmp .ge 16, 3) := by decide +kernel
theorem dX2_openPlan_23 : decode cX2_openPlan 23 = .ok (.aload_n 0, 1) := by decide +kernel
theorem dX2_openPlan_24 : decode cX2_openPlan 24 = .ok (.getfield 15, 3) := by decide +kernel
theorem dX2_openPlan_27 : decode cX2_openPlan 27 = .ok (.iload_n 2, 1) := by decide +kernel
theorem dX2_openPlan_28 : decode cX2_openPlan 28 = .ok (.iconst 0, 1) := by decide +kernel
theorem dX2_openPlan_29 : decode cX2_openPlan 29 = .ok (.iastore, 1) := by decide +kernel
theorem dX2_openPlan_30 : decode cX2_openPlan 30 = .ok (.iinc 2 1, 3) := by decide +kernel
theorem dX2_openPlan_33 : decode cX2_openPlan 33 = .ok (.goto (-16), 3) := by decide +kernel
theorem dX2_openPlan_36 : decode cX2_openPlan 36 = .ok (.return_, 1) := by decide +kernel
theorem dX2_enterWeek_0 : decode cX2_enterWeek 0 = .ok (.iload_n 1, 1) := by decide +kernel
theorem dX2_enterWeek_1 : decode cX2_enterWeek 1 = .ok (.ifCond .lt 25, 3) := by decide +kernel
theorem dX2_enterWeek_4 : decode cX2_enterWeek 4 = .ok (.iload_n 1, 1) := by decide +kernel
theorem dX2_enterWeek_5 : decode cX2_enterWeek 5 = .ok (.bipush 12, 2) := by decide +kernel
theorem dX2_enterWeek_7 : decode cX2_enterWeek 7 = .ok (.if_icmp .ge 19, 3) := by decide +kernel
theorem dX2_enterWeek_10 : decode cX2_enterWeek 10 = .ok (.aload_n 0, 1) := by decide +kernel
theorem dX2_enterWeek_11 : decode cX2_enterWeek 11 = .ok (.dup, 1) := by decide +kernel
theorem dX2_enterWeek_12 : decode cX2_enterWeek 12 = .ok (.getfield 71, 3) := by decide +kernel
theorem dX2_enterWeek_15 : decode cX2_enterWeek 15 = .ok (.aload_n 0, 1) := by decide +kernel
theorem dX2_enterWeek_16 : decode cX2_enterWeek 16 = .ok (.getfield 9, 3) := by decide +kernel
theorem dX2_enterWeek_19 : decode cX2_enterWeek 19 = .ok (.iload_n 1, 1) := by decide +kernel
theorem dX2_enterWeek_20 : decode cX2_enterWeek 20 = .ok (.iaload, 1) := by decide +kernel
theorem dX2_enterWeek_21 : decode cX2_enterWeek 21 = .ok (.i2l, 1) := by decide +kernel
theorem dX2_enterWeek_22 : decode cX2_enterWeek 22 = .ok (.lsub, 1) := by decide +kernel
theorem dX2_enterWeek_23 : decode cX2_enterWeek 23 = .ok (.putfield 71, 3) := by decide +kernel
theorem dX2_enterWeek_26 : decode cX2_enterWeek 26 = .ok (.aload_n 0, 1) := by decide +kernel
theorem dX2_enterWeek_27 : decode cX2_enterWeek 27 = .ok (.aload_n 0, 1) := by decide +kernel
theorem dX2_enterWeek_28 : decode cX2_enterWeek 28 = .ok (.iload_n 2, 1) := by decide +kernel
theorem dX2_enterWeek_29 : decode cX2_enterWeek 29 = .ok (.invokevirtual 81, 3) := by decide +kernel
theorem dX2_enterWeek_32 : decode cX2_enterWeek 32 = .ok (.putfield 85, 3) := by decide +kernel
theorem dX2_enterWeek_35 : decode cX2_enterWeek 35 = .ok (.aload_n 0, 1) := by decide +kernel
theorem dX2_enterWeek_36 : decode cX2_enterWeek 36 = .ok (.aload_n 0, 1) := by decide +kernel
theorem dX2_enterWeek_37 : decode cX2_enterWeek 37 = .ok (.getfield 71, 3) := by decide +kernel
theorem dX2_enterWeek_40 : decode cX2_enterWeek 40 = .ok (.aload_n 0, 1) := by decide +kernel
theorem dX2_enterWeek_41 : decode cX2_enterWeek 41 = .ok (.getfield 85, 3) := by decide +kernel
theorem dX2_enterWeek_44 : decode cX2_enterWeek 44 = .ok (.i2l, 1) := by decide +kernel
theorem dX2_enterWeek_45 : decode cX2_enterWeek 45 = .ok (.lcmp, 1) := by decide +kernel
theorem dX2_enterWeek_46 : decode cX2_enterWeek 46 = .ok (.ifCond .ge 7, 3) := by decide +kernel
theorem dX2_enterWeek_49 : decode cX2_enterWeek 49 = .ok (.iconst 1, 1) := by decide +kernel
theorem dX2_enterWeek_50 : decode cX2_enterWeek 50 = .ok (.goto 4, 3) := by decide +kernel
theorem dX2_enterWeek_53 : decode cX2_enterWeek 53 = .ok (.iconst 0, 1) := by decide +kernel
theorem dX2_enterWeek_54 : decode cX2_enterWeek 54 = .ok (.putfield 88, 3) := by decide +kernel
theorem dX2_enterWeek_57 : decode cX2_enterWeek 57 = .ok (.return_, 1) := by decide +kernel
theorem dX2_lotsWanted_0 : decode cX2_lotsWanted 0 = .ok (.aload_n 0, 1) := by decide +kernel
theorem dX2_lotsWanted_1 : decode cX2_lotsWanted 1 = .ok (.getfield 22, 3) := by decide +kernel
theorem dX2_lotsWanted_4 : decode cX2_lotsWanted 4 = .ok (.iconst 1, 1) := by decide +kernel
theorem dX2_lotsWanted_5 : decode cX2_lotsWanted 5 = .ok (.if_icmp .ge 5, 3) := by decide +kernel
theorem dX2_lotsWanted_8 : decode cX2_lotsWanted 8 = .ok (.lconst 0, 1) := by decide +kernel
theorem dX2_lotsWanted_9 : decode cX2_lotsWanted 9 = .ok (.lreturn, 1) := by decide +kernel
theorem dX2_lotsWanted_10 : decode cX2_lotsWanted 10 = .ok (.aload_n 0, 1) := by decide +kernel
theorem dX2_lotsWanted_11 : decode cX2_lotsWanted 11 = .ok (.getfield 85, 3) := by decide +kernel
theorem dX2_lotsWanted_14 : decode cX2_lotsWanted 14 = .ok (.i2l, 1) := by decide +kernel
theorem dX2_lotsWanted_15 : decode cX2_lotsWanted 15 = .ok (.aload_n 0, 1) := by decide +kernel
theorem dX2_lotsWanted_16 : decode cX2_lotsWanted 16 = .ok (.getfield 71, 3) := by decide +kernel
theorem dX2_lotsWanted_19 : decode cX2_lotsWanted 19 = .ok (.lsub, 1) := by decide +kernel
theorem dX2_lotsWanted_20 : decode cX2_lotsWanted 20 = .ok (.lstore_n 3, 1) := by decide +kernel
theorem dX2_lotsWanted_21 : decode cX2_lotsWanted 21 = .ok (.iload_n 1, 1) := by decide +kernel
theorem dX2_lotsWanted_22 : decode cX2_lotsWanted 22 = .ok (.iconst 1, 1) := by decide +kernel
theorem dX2_lotsWanted_23 : decode cX2_lotsWanted 23 = .ok (.iadd, 1) := by decide +kernel
theorem dX2_lotsWanted_24 : decode cX2_lotsWanted 24 = .ok (.istore 5, 2) := by decide +kernel
theorem dX2_lotsWanted_26 : decode cX2_lotsWanted 26 = .ok (.iload 5, 2) := by decide +kernel
theorem dX2_lotsWanted_28 : decode cX2_lotsWanted 28 = .ok (.iload_n 1, 1) := by decide +kernel
theorem dX2_lotsWanted_29 : decode cX2_lotsWanted 29 = .ok (.iload_n 2, 1) := by decide +kernel
theorem dX2_lotsWanted_30 : decode cX2_lotsWanted 30 = .ok (.iadd, 1) := by decide +kernel
theorem dX2_lotsWanted_31 : decode cX2_lotsWanted 31 = .ok (.if_icmp .ge 32, 3) := by decide +kernel
theorem dX2_lotsWanted_34 : decode cX2_lotsWanted 34 = .ok (.iload 5, 2) := by decide +kernel
theorem dX2_lotsWanted_36 : decode cX2_lotsWanted 36 = .ok (.ifCond .lt 27, 3) := by decide +kernel
theorem dX2_lotsWanted_39 : decode cX2_lotsWanted 39 = .ok (.iload 5, 2) := by decide +kernel
theorem dX2_lotsWanted_41 : decode cX2_lotsWanted 41 = .ok (.bipush 12, 2) := by decide +kernel
theorem dX2_lotsWanted_43 : decode cX2_lotsWanted 43 = .ok (.if_icmp .ge 20, 3) := by decide +kernel
theorem dX2_lotsWanted_46 : decode cX2_lotsWanted 46 = .ok (.lload_n 3, 1) := by decide +kernel
theorem dX2_lotsWanted_47 : decode cX2_lotsWanted 47 = .ok (.aload_n 0, 1) := by decide +kernel
theorem dX2_lotsWanted_48 : decode cX2_lotsWanted 48 = .ok (.getfield 9, 3) := by decide +kernel
theorem dX2_lotsWanted_51 : decode cX2_lotsWanted 51 = .ok (.iload 5, 2) := by decide +kernel
theorem dX2_lotsWanted_53 : decode cX2_lotsWanted 53 = .ok (.iaload, 1) := by decide +kernel
theorem dX2_lotsWanted_54 : decode cX2_lotsWanted 54 = .ok (.i2l, 1) := by decide +kernel
theorem dX2_lotsWanted_55 : decode cX2_lotsWanted 55 = .ok (.ladd, 1) := by decide +kernel
theorem dX2_lotsWanted_56 : decode cX2_lotsWanted 56 = .ok (.lstore_n 3, 1) := by decide +kernel
theorem dX2_lotsWanted_57 : decode cX2_lotsWanted 57 = .ok (.iinc 5 1, 3) := by decide +kernel
theorem dX2_lotsWanted_60 : decode cX2_lotsWanted 60 = .ok (.goto (-34), 3) := by decide +kernel
theorem dX2_lotsWanted_63 : decode cX2_lotsWanted 63 = .ok (.lload_n 3, 1) := by decide +kernel
theorem dX2_lotsWanted_64 : decode cX2_lotsWanted 64 = .ok (.aload_n 0, 1) := by decide +kernel
theorem dX2_lotsWanted_65 : decode cX2_lotsWanted 65 = .ok (.getfield 22, 3) := by decide +kernel
theorem dX2_lotsWanted_68 : decode cX2_lotsWanted 68 = .ok (.i2l, 1) := by decide +kernel
theorem dX2_lotsWanted_69 : decode cX2_lotsWanted 69 = .ok (.ladd, 1) := by decide +kernel
theorem dX2_lotsWanted_70 : decode cX2_lotsWanted 70 = .ok (.lconst 1, 1) := by decide +kernel
theorem dX2_lotsWanted_71 : decode cX2_lotsWanted 71 = .ok (.lsub, 1) := by decide +kernel
theorem dX2_lotsWanted_72 : decode cX2_lotsWanted 72 = .ok (.aload_n 0, 1) := by decide +kernel
theorem dX2_lotsWanted_73 : decode cX2_lotsWanted 73 = .ok (.getfield 22, 3) := by decide +kernel
theorem dX2_lotsWanted_76 : decode cX2_lotsWanted 76 = .ok (.i2l, 1) := by decide +kernel
theorem dX2_lotsWanted_77 : decode cX2_lotsWanted 77 = .ok (.ldiv, 1) := by decide +kernel
theorem dX2_lotsWanted_78 : decode cX2_lotsWanted 78 = .ok (.lreturn, 1) := by decide +kernel
theorem dX2_planLots_0 : decode cX2_planLots 0 = .ok (.iload_n 1, 1) := by decide +kernel
theorem dX2_planLots_1 : decode cX2_planLots 1 = .ok (.ifCond .lt 33, 3) := by decide +kernel
theorem dX2_planLots_4 : decode cX2_planLots 4 = .ok (.iload_n 1, 1) := by decide +kernel
theorem dX2_planLots_5 : decode cX2_planLots 5 = .ok (.bipush 12, 2) := by decide +kernel
theorem dX2_planLots_7 : decode cX2_planLots 7 = .ok (.if_icmp .ge 27, 3) := by decide +kernel
theorem dX2_planLots_10 : decode cX2_planLots 10 = .ok (.aload_n 0, 1) := by decide +kernel
theorem dX2_planLots_11 : decode cX2_planLots 11 = .ok (.getfield 15, 3) := by decide +kernel
theorem dX2_planLots_14 : decode cX2_planLots 14 = .ok (.iload_n 1, 1) := by decide +kernel
theorem dX2_planLots_15 : decode cX2_planLots 15 = .ok (.iload_n 2, 1) := by decide +kernel
theorem dX2_planLots_16 : decode cX2_planLots 16 = .ok (.iastore, 1) := by decide +kernel
theorem dX2_planLots_17 : decode cX2_planLots 17 = .ok (.aload_n 0, 1) := by decide +kernel
theorem dX2_planLots_18 : decode cX2_planLots 18 = .ok (.dup, 1) := by decide +kernel
theorem dX2_planLots_19 : decode cX2_planLots 19 = .ok (.getfield 71, 3) := by decide +kernel
theorem dX2_planLots_22 : decode cX2_planLots 22 = .ok (.iload_n 2, 1) := by decide +kernel
theorem dX2_planLots_23 : decode cX2_planLots 23 = .ok (.i2l, 1) := by decide +kernel
theorem dX2_planLots_24 : decode cX2_planLots 24 = .ok (.aload_n 0, 1) := by decide +kernel
theorem dX2_planLots_25 : decode cX2_planLots 25 = .ok (.getfield 22, 3) := by decide +kernel
theorem dX2_planLots_28 : decode cX2_planLots 28 = .ok (.i2l, 1) := by decide +kernel
theorem dX2_planLots_29 : decode cX2_planLots 29 = .ok (.lmul, 1) := by decide +kernel
theorem dX2_planLots_30 : decode cX2_planLots 30 = .ok (.ladd, 1) := by decide +kernel
theorem dX2_planLots_31 : decode cX2_planLots 31 = .ok (.putfield 71, 3) := by decide +kernel
theorem dX2_planLots_34 : decode cX2_planLots 34 = .ok (.return_, 1) := by decide +kernel
theorem dX2_passWeek_0 : decode cX2_passWeek 0 = .ok (.aload_n 0, 1) := by decide +kernel
theorem dX2_passWeek_1 : decode cX2_passWeek 1 = .ok (.getfield 15, 3) := by decide +kernel
theorem dX2_passWeek_4 : decode cX2_passWeek 4 = .ok (.iconst 0, 1) := by decide +kernel
theorem dX2_passWeek_5 : decode cX2_passWeek 5 = .ok (.iaload, 1) := by decide +kernel
theorem dX2_passWeek_6 : decode cX2_passWeek 6 = .ok (.aload_n 0, 1) := by decide +kernel
theorem dX2_passWeek_7 : decode cX2_passWeek 7 = .ok (.getfield 22, 3) := by decide +kernel
theorem dX2_passWeek_10 : decode cX2_passWeek 10 = .ok (.imul, 1) := by decide +kernel
theorem dX2_passWeek_11 : decode cX2_passWeek 11 = .ok (.istore_n 1, 1) := by decide +kernel
theorem dX2_passWeek_12 : decode cX2_passWeek 12 = .ok (.aload_n 0, 1) := by decide +kernel
theorem dX2_passWeek_13 : decode cX2_passWeek 13 = .ok (.dup, 1) := by decide +kernel
theorem dX2_passWeek_14 : decode cX2_passWeek 14 = .ok (.getfield 46, 3) := by decide +kernel
theorem dX2_passWeek_17 : decode cX2_passWeek 17 = .ok (.iload_n 1, 1) := by decide +kernel
theorem dX2_passWeek_18 : decode cX2_passWeek 18 = .ok (.iadd, 1) := by decide +kernel
theorem dX2_passWeek_19 : decode cX2_passWeek 19 = .ok (.putfield 46, 3) := by decide +kernel
theorem dX2_passWeek_22 : decode cX2_passWeek 22 = .ok (.aload_n 0, 1) := by decide +kernel
theorem dX2_passWeek_23 : decode cX2_passWeek 23 = .ok (.dup, 1) := by decide +kernel
theorem dX2_passWeek_24 : decode cX2_passWeek 24 = .ok (.getfield 34, 3) := by decide +kernel
theorem dX2_passWeek_27 : decode cX2_passWeek 27 = .ok (.iload_n 1, 1) := by decide +kernel
theorem dX2_passWeek_28 : decode cX2_passWeek 28 = .ok (.iadd, 1) := by decide +kernel
theorem dX2_passWeek_29 : decode cX2_passWeek 29 = .ok (.putfield 34, 3) := by decide +kernel
theorem dX2_passWeek_32 : decode cX2_passWeek 32 = .ok (.aload_n 0, 1) := by decide +kernel
theorem dX2_passWeek_33 : decode cX2_passWeek 33 = .ok (.getfield 43, 3) := by decide +kernel
theorem dX2_passWeek_36 : decode cX2_passWeek 36 = .ok (.bipush (-6), 2) := by decide +kernel
theorem dX2_passWeek_38 : decode cX2_passWeek 38 = .ok (.if_icmp .ne 12, 3) := by decide +kernel
theorem dX2_passWeek_41 : decode cX2_passWeek 41 = .ok (.aload_n 0, 1) := by decide +kernel
theorem dX2_passWeek_42 : decode cX2_passWeek 42 = .ok (.getfield 9, 3) := by decide +kernel
theorem dX2_passWeek_45 : decode cX2_passWeek 45 = .ok (.iconst 0, 1) := by decide +kernel
theorem dX2_passWeek_46 : decode cX2_passWeek 46 = .ok (.iaload, 1) := by decide +kernel
theorem dX2_passWeek_47 : decode cX2_passWeek 47 = .ok (.goto 7, 3) := by decide +kernel
theorem dX2_passWeek_50 : decode cX2_passWeek 50 = .ok (.aload_n 0, 1) := by decide +kernel
theorem dX2_passWeek_51 : decode cX2_passWeek 51 = .ok (.getfield 43, 3) := by decide +kernel
theorem dX2_passWeek_54 : decode cX2_passWeek 54 = .ok (.istore_n 2, 1) := by decide +kernel
theorem dX2_passWeek_55 : decode cX2_passWeek 55 = .ok (.aload_n 0, 1) := by decide +kernel
theorem dX2_passWeek_56 : decode cX2_passWeek 56 = .ok (.dup, 1) := by decide +kernel
theorem dX2_passWeek_57 : decode cX2_passWeek 57 = .ok (.getfield 52, 3) := by decide +kernel
theorem dX2_passWeek_60 : decode cX2_passWeek 60 = .ok (.iload_n 2, 1) := by decide +kernel
theorem dX2_passWeek_61 : decode cX2_passWeek 61 = .ok (.iadd, 1) := by decide +kernel
theorem dX2_passWeek_62 : decode cX2_passWeek 62 = .ok (.putfield 52, 3) := by decide +kernel
theorem dX2_passWeek_65 : decode cX2_passWeek 65 = .ok (.iload_n 2, 1) := by decide +kernel
theorem dX2_passWeek_66 : decode cX2_passWeek 66 = .ok (.aload_n 0, 1) := by decide +kernel
theorem dX2_passWeek_67 : decode cX2_passWeek 67 = .ok (.getfield 37, 3) := by decide +kernel
theorem dX2_passWeek_70 : decode cX2_passWeek 70 = .ok (.iadd, 1) := by decide +kernel
theorem dX2_passWeek_71 : decode cX2_passWeek 71 = .ok (.istore_n 3, 1) := by decide +kernel
theorem dX2_passWeek_72 : decode cX2_passWeek 72 = .ok (.iload_n 3, 1) := by decide +kernel
theorem dX2_passWeek_73 : decode cX2_passWeek 73 = .ok (.aload_n 0, 1) := by decide +kernel
theorem dX2_passWeek_74 : decode cX2_passWeek 74 = .ok (.getfield 34, 3) := by decide +kernel
theorem dX2_passWeek_77 : decode cX2_passWeek 77 = .ok (.invokestatic 92, 3) := by decide +kernel
theorem dX2_passWeek_80 : decode cX2_passWeek 80 = .ok (.istore 4, 2) := by decide +kernel
theorem dX2_passWeek_82 : decode cX2_passWeek 82 = .ok (.aload_n 0, 1) := by decide +kernel
theorem dX2_passWeek_83 : decode cX2_passWeek 83 = .ok (.dup, 1) := by decide +kernel
theorem dX2_passWeek_84 : decode cX2_passWeek 84 = .ok (.getfield 49, 3) := by decide +kernel
theorem dX2_passWeek_87 : decode cX2_passWeek 87 = .ok (.iload 4, 2) := by decide +kernel
theorem dX2_passWeek_89 : decode cX2_passWeek 89 = .ok (.iadd, 1) := by decide +kernel
theorem dX2_passWeek_90 : decode cX2_passWeek 90 = .ok (.putfield 49, 3) := by decide +kernel
theorem dX2_passWeek_93 : decode cX2_passWeek 93 = .ok (.aload_n 0, 1) := by decide +kernel
theorem dX2_passWeek_94 : decode cX2_passWeek 94 = .ok (.dup, 1) := by decide +kernel
theorem dX2_passWeek_95 : decode cX2_passWeek 95 = .ok (.getfield 34, 3) := by decide +kernel
theorem dX2_passWeek_98 : decode cX2_passWeek 98 = .ok (.iload 4, 2) := by decide +kernel
theorem dX2_passWeek_100 : decode cX2_passWeek 100 = .ok (.isub, 1) := by decide +kernel
theorem dX2_passWeek_101 : decode cX2_passWeek 101 = .ok (.putfield 34, 3) := by decide +kernel
theorem dX2_passWeek_104 : decode cX2_passWeek 104 = .ok (.aload_n 0, 1) := by decide +kernel
theorem dX2_passWeek_105 : decode cX2_passWeek 105 = .ok (.iload_n 3, 1) := by decide +kernel
theorem dX2_passWeek_106 : decode cX2_passWeek 106 = .ok (.iload 4, 2) := by decide +kernel
theorem dX2_passWeek_108 : decode cX2_passWeek 108 = .ok (.isub, 1) := by decide +kernel
theorem dX2_passWeek_109 : decode cX2_passWeek 109 = .ok (.putfield 37, 3) := by decide +kernel
theorem dX2_passWeek_112 : decode cX2_passWeek 112 = .ok (.aload_n 0, 1) := by decide +kernel
theorem dX2_passWeek_113 : decode cX2_passWeek 113 = .ok (.bipush 7, 2) := by decide +kernel
theorem dX2_passWeek_115 : decode cX2_passWeek 115 = .ok (.aload_n 0, 1) := by decide +kernel
theorem dX2_passWeek_116 : decode cX2_passWeek 116 = .ok (.getfield 40, 3) := by decide +kernel
theorem dX2_passWeek_119 : decode cX2_passWeek 119 = .ok (.imul, 1) := by decide +kernel
theorem dX2_passWeek_120 : decode cX2_passWeek 120 = .ok (.iload_n 2, 1) := by decide +kernel
theorem dX2_passWeek_121 : decode cX2_passWeek 121 = .ok (.aload_n 0, 1) := by decide +kernel
theorem dX2_passWeek_122 : decode cX2_passWeek 122 = .ok (.getfield 9, 3) := by decide +kernel
theorem dX2_passWeek_125 : decode cX2_passWeek 125 = .ok (.iconst 0, 1) := by decide +kernel
theorem dX2_passWeek_126 : decode cX2_passWeek 126 = .ok (.iaload, 1) := by decide +kernel
theorem dX2_passWeek_127 : decode cX2_passWeek 127 = .ok (.isub, 1) := by decide +kernel
theorem dX2_passWeek_128 : decode cX2_passWeek 128 = .ok (.invokestatic 95, 3) := by decide +kernel
theorem dX2_passWeek_131 : decode cX2_passWeek 131 = .ok (.iadd, 1) := by decide +kernel
theorem dX2_passWeek_132 : decode cX2_passWeek 132 = .ok (.bipush 7, 2) := by decide +kernel
theorem dX2_passWeek_134 : decode cX2_passWeek 134 = .ok (.iadd, 1) := by decide +kernel
theorem dX2_passWeek_135 : decode cX2_passWeek 135 = .ok (.bipush 8, 2) := by decide +kernel
theorem dX2_passWeek_137 : decode cX2_passWeek 137 = .ok (.idiv, 1) := by decide +kernel
theorem dX2_passWeek_138 : decode cX2_passWeek 138 = .ok (.putfield 40, 3) := by decide +kernel
theorem dX2_passWeek_141 : decode cX2_passWeek 141 = .ok (.aload_n 0, 1) := by decide +kernel
theorem dX2_passWeek_142 : decode cX2_passWeek 142 = .ok (.getfield 9, 3) := by decide +kernel
theorem dX2_passWeek_145 : decode cX2_passWeek 145 = .ok (.iconst 1, 1) := by decide +kernel
theorem dX2_passWeek_146 : decode cX2_passWeek 146 = .ok (.aload_n 0, 1) := by decide +kernel
theorem dX2_passWeek_147 : decode cX2_passWeek 147 = .ok (.getfield 9, 3) := by decide +kernel
theorem dX2_passWeek_150 : decode cX2_passWeek 150 = .ok (.iconst 0, 1) := by decide +kernel
theorem dX2_passWeek_151 : decode cX2_passWeek 151 = .ok (.bipush 11, 2) := by decide +kernel
theorem dX2_passWeek_153 : decode cX2_passWeek 153 = .ok (.invokestatic 61, 3) := by decide +kernel
theorem dX2_passWeek_156 : decode cX2_passWeek 156 = .ok (.aload_n 0, 1) := by decide +kernel
theorem dX2_passWeek_157 : decode cX2_passWeek 157 = .ok (.getfield 15, 3) := by decide +kernel
theorem dX2_passWeek_160 : decode cX2_passWeek 160 = .ok (.iconst 1, 1) := by decide +kernel
theorem dX2_passWeek_161 : decode cX2_passWeek 161 = .ok (.aload_n 0, 1) := by decide +kernel
theorem dX2_passWeek_162 : decode cX2_passWeek 162 = .ok (.getfield 15, 3) := by decide +kernel
theorem dX2_passWeek_165 : decode cX2_passWeek 165 = .ok (.iconst 0, 1) := by decide +kernel
theorem dX2_passWeek_166 : decode cX2_passWeek 166 = .ok (.bipush 11, 2) := by decide +kernel
theorem dX2_passWeek_168 : decode cX2_passWeek 168 = .ok (.invokestatic 61, 3) := by decide +kernel
theorem dX2_passWeek_171 : decode cX2_passWeek 171 = .ok (.aload_n 0, 1) := by decide +kernel
theorem dX2_passWeek_172 : decode cX2_passWeek 172 = .ok (.getfield 15, 3) := by decide +kernel
theorem dX2_passWeek_175 : decode cX2_passWeek 175 = .ok (.bipush 11, 2) := by decide +kernel
theorem dX2_passWeek_177 : decode cX2_passWeek 177 = .ok (.iconst 0, 1) := by decide +kernel
theorem dX2_passWeek_178 : decode cX2_passWeek 178 = .ok (.iastore, 1) := by decide +kernel
theorem dX2_passWeek_179 : decode cX2_passWeek 179 = .ok (.aload_n 0, 1) := by decide +kernel
theorem dX2_passWeek_180 : decode cX2_passWeek 180 = .ok (.bipush (-6), 2) := by decide +kernel
theorem dX2_passWeek_182 : decode cX2_passWeek 182 = .ok (.putfield 43, 3) := by decide +kernel
theorem dX2_passWeek_185 : decode cX2_passWeek 185 = .ok (.return_, 1) := by decide +kernel
theorem dX3_init_0 : decode cX3_init 0 = .ok (.aload_n 0, 1) := by decide +kernel
theorem dX3_init_1 : decode cX3_init 1 = .ok (.invokespecial 3, 3) := by decide +kernel
theorem dX3_init_4 : decode cX3_init 4 = .ok (.aload_n 0, 1) := by decide +kernel
theorem dX3_init_5 : decode cX3_init 5 = .ok (.getstatic 9, 3) := by decide +kernel
theorem dX3_init_8 : decode cX3_init 8 = .ok (.invokevirtual 13, 3) := by decide +kernel
theorem dX3_init_11 : decode cX3_init 11 = .ok (.checkcast 14, 3) := by decide +kernel
theorem dX3_init_14 : decode cX3_init 14 = .ok (.putfield 18, 3) := by decide +kernel
theorem dX3_init_17 : decode cX3_init 17 = .ok (.aload_n 0, 1) := by decide +kernel
theorem dX3_init_18 : decode cX3_init 18 = .ok (.iconst 4, 1) := by decide +kernel
theorem dX3_init_19 : decode cX3_init 19 = .ok (.newarray .int, 2) := by decide +kernel
theorem dX3_init_21 : decode cX3_init 21 = .ok (.putfield 23, 3) := by decide +kernel
theorem dX3_init_24 : decode cX3_init 24 = .ok (.aload_n 0, 1) := by decide +kernel
theorem dX3_init_25 : decode cX3_init 25 = .ok (.bipush 10, 2) := by decide +kernel
theorem dX3_init_27 : decode cX3_init 27 = .ok (.anewarray 26, 3) := by decide +kernel
theorem dX3_init_30 : decode cX3_init 30 = .ok (.putfield 28, 3) := by decide +kernel
theorem dX3_init_33 : decode cX3_init 33 = .ok (.aload_n 0, 1) := by decide +kernel
theorem dX3_init_34 : decode cX3_init 34 = .ok (.getfield 23, 3) := by decide +kernel
theorem dX3_init_37 : decode cX3_init 37 = .ok (.iconst 5, 1) := by decide +kernel
theorem dX3_init_38 : decode cX3_init 38 = .ok (.invokestatic 32, 3) := by decide +kernel
theorem dX3_init_41 : decode cX3_init 41 = .ok (.iconst 0, 1) := by decide +kernel
theorem dX3_init_42 : decode cX3_init 42 = .ok (.istore_n 1, 1) := by decide +kernel
theorem dX3_init_43 : decode cX3_init 43 = .ok (.iload_n 1, 1) := by decide +kernel
theorem dX3_init_44 : decode cX3_init 44 = .ok (.bipush 10, 2) := by decide +kernel
theorem dX3_init_46 : decode cX3_init 46 = .ok (.if_icmp .ge 22, 3) := by decide +kernel
theorem dX3_init_49 : decode cX3_init 49 = .ok (.aload_n 0, 1) := by decide +kernel
theorem dX3_init_50 : decode cX3_init 50 = .ok (.getfield 28, 3) := by decide +kernel
theorem dX3_init_53 : decode cX3_init 53 = .ok (.iload_n 1, 1) := by decide +kernel
theorem dX3_init_54 : decode cX3_init 54 = .ok (.new 26, 3) := by decide +kernel
theorem dX3_init_57 : decode cX3_init 57 = .ok (.dup, 1) := by decide +kernel
theorem dX3_init_58 : decode cX3_init 58 = .ok (.invokespecial 38, 3) := by decide +kernel
theorem dX3_init_61 : decode cX3_init 61 = .ok (.aastore, 1) := by decide +kernel
theorem dX3_init_62 : decode cX3_init 62 = .ok (.iinc 1 1, 3) := by decide +kernel
theorem dX3_init_65 : decode cX3_init 65 = .ok (.goto (-22), 3) := by decide +kernel
theorem dX3_init_68 : decode cX3_init 68 = .ok (.return_, 1) := by decide +kernel
theorem dX3_copyFrom_0 : decode cX3_copyFrom 0 = .ok (.aload_n 1, 1) := by decide +kernel
theorem dX3_copyFrom_1 : decode cX3_copyFrom 1 = .ok (.ifnonnull 4, 3) := by decide +kernel
theorem dX3_copyFrom_4 : decode cX3_copyFrom 4 = .ok (.return_, 1) := by decide +kernel
theorem dX3_copyFrom_5 : decode cX3_copyFrom 5 = .ok (.aload_n 1, 1) := by decide +kernel
theorem dX3_copyFrom_6 : decode cX3_copyFrom 6 = .ok (.getfield 18, 3) := by decide +kernel
theorem dX3_copyFrom_9 : decode cX3_copyFrom 9 = .ok (.iconst 0, 1) := by decide +kernel
theorem dX3_copyFrom_10 : decode cX3_copyFrom 10 = .ok (.aload_n 0, 1) := by decide +kernel
theorem dX3_copyFrom_11 : decode cX3_copyFrom 11 = .ok (.getfield 18, 3) := by decide +kernel
theorem dX3_copyFrom_14 : decode cX3_copyFrom 14 = .ok (.iconst 0, 1) := by decide +kernel
theorem dX3_copyFrom_15 : decode cX3_copyFrom 15 = .ok (.bipush 9, 2) := by decide +kernel
theorem dX3_copyFrom_17 : decode cX3_copyFrom 17 = .ok (.invokestatic 39, 3) := by decide +kernel
theorem dX3_copyFrom_20 : decode cX3_copyFrom 20 = .ok (.aload_n 1, 1) := by decide +kernel
theorem dX3_copyFrom_21 : decode cX3_copyFrom 21 = .ok (.getfield 23, 3) := by decide +kernel
theorem dX3_copyFrom_24 : decode cX3_copyFrom 24 = .ok (.iconst 0, 1) := by decide +kernel
theorem dX3_copyFrom_25 : decode cX3_copyFrom 25 = .ok (.aload_n 0, 1) := by decide +kernel
theorem dX3_copyFrom_26 : decode cX3_copyFrom 26 = .ok (.getfield 23, 3) := by decide +kernel
theorem dX3_copyFrom_29 : decode cX3_copyFrom 29 = .ok (.iconst 0, 1) := by decide +kernel
theorem dX3_copyFrom_30 : decode cX3_copyFrom 30 = .ok (.iconst 4, 1) := by decide +kernel
theorem dX3_copyFrom_31 : decode cX3_copyFrom 31 = .ok (.invokestatic 39, 3) := by decide +kernel
theorem dX3_copyFrom_34 : decode cX3_copyFrom 34 = .ok (.aload_n 0, 1) := by decide +kernel
theorem dX3_copyFrom_35 : decode cX3_copyFrom 35 = .ok (.aload_n 1, 1) := by decide +kernel
theorem dX3_copyFrom_36 : decode cX3_copyFrom 36 = .ok (.getfield 45, 3) := by decide +kernel
theorem dX3_copyFrom_39 : decode cX3_copyFrom 39 = .ok (.putfield 45, 3) := by decide +kernel
theorem dX3_copyFrom_42 : decode cX3_copyFrom 42 = .ok (.iconst 0, 1) := by decide +kernel
theorem dX3_copyFrom_43 : decode cX3_copyFrom 43 = .ok (.istore_n 2, 1) := by decide +kernel
theorem dX3_copyFrom_44 : decode cX3_copyFrom 44 = .ok (.iload_n 2, 1) := by decide +kernel
theorem dX3_copyFrom_45 : decode cX3_copyFrom 45 = .ok (.aload_n 0, 1) := by decide +kernel
theorem dX3_copyFrom_46 : decode cX3_copyFrom 46 = .ok (.getfield 45, 3) := by decide +kernel
theorem dX3_copyFrom_49 : decode cX3_copyFrom 49 = .ok (.if_icmp .ge 37, 3) := by decide +kernel
theorem dX3_copyFrom_52 : decode cX3_copyFrom 52 = .ok (.aload_n 0, 1) := by decide +kernel
theorem dX3_copyFrom_53 : decode cX3_copyFrom 53 = .ok (.iload_n 2, 1) := by decide +kernel
theorem dX3_copyFrom_54 : decode cX3_copyFrom 54 = .ok (.invokevirtual 49, 3) := by decide +kernel
theorem dX3_copyFrom_57 : decode cX3_copyFrom 57 = .ok (.astore_n 3, 1) := by decide +kernel
theorem dX3_copyFrom_58 : decode cX3_copyFrom 58 = .ok (.aload_n 1, 1) := by decide +kernel
theorem dX3_copyFrom_59 : decode cX3_copyFrom 59 = .ok (.iload_n 2, 1) := by decide +kernel
theorem dX3_copyFrom_60 : decode cX3_copyFrom 60 = .ok (.invokevirtual 49, 3) := by decide +kernel
theorem dX3_copyFrom_63 : decode cX3_copyFrom 63 = .ok (.astore 4, 2) := by decide +kernel
theorem dX3_copyFrom_65 : decode cX3_copyFrom 65 = .ok (.aload_n 3, 1) := by decide +kernel
theorem dX3_copyFrom_66 : decode cX3_copyFrom 66 = .ok (.ifnull 14, 3) := by decide +kernel
theorem dX3_copyFrom_69 : decode cX3_copyFrom 69 = .ok (.aload 4, 2) := by decide +kernel
theorem dX3_copyFrom_71 : decode cX3_copyFrom 71 = .ok (.ifnull 9, 3) := by decide +kernel
theorem dX3_copyFrom_74 : decode cX3_copyFrom 74 = .ok (.aload_n 3, 1) := by decide +kernel
theorem dX3_copyFrom_75 : decode cX3_copyFrom 75 = .ok (.aload 4, 2) := by decide +kernel
theorem dX3_copyFrom_77 : decode cX3_copyFrom 77 = .ok (.invokevirtual 53, 3) := by decide +kernel
theorem dX3_copyFrom_80 : decode cX3_copyFrom 80 = .ok (.iinc 2 1, 3) := by decide +kernel
theorem dX3_copyFrom_83 : decode cX3_copyFrom 83 = .ok (.goto (-39), 3) := by decide +kernel
theorem dX3_copyFrom_86 : decode cX3_copyFrom 86 = .ok (.aload_n 0, 1) := by decide +kernel
theorem dX3_copyFrom_87 : decode cX3_copyFrom 87 = .ok (.aload_n 1, 1) := by decide +kernel
theorem dX3_copyFrom_88 : decode cX3_copyFrom 88 = .ok (.getfield 57, 3) := by decide +kernel
theorem dX3_copyFrom_91 : decode cX3_copyFrom 91 = .ok (.putfield 57, 3) := by decide +kernel
theorem dX3_copyFrom_94 : decode cX3_copyFrom 94 = .ok (.aload_n 0, 1) := by decide +kernel
theorem dX3_copyFrom_95 : decode cX3_copyFrom 95 = .ok (.aload_n 1, 1) := by decide +kernel
theorem dX3_copyFrom_96 : decode cX3_copyFrom 96 = .ok (.getfield 60, 3) := by decide +kernel
theorem dX3_copyFrom_99 : decode cX3_copyFrom 99 = .ok (.putfield 60, 3) := by decide +kernel
theorem dX3_copyFrom_102 : decode cX3_copyFrom 102 = .ok (.aload_n 0, 1) := by decide +kernel
theorem dX3_copyFrom_103 : decode cX3_copyFrom 103 = .ok (.aload_n 1, 1) := by decide +kernel
theorem dX3_copyFrom_104 : decode cX3_copyFrom 104 = .ok (.getfield 64, 3) := by decide +kernel
theorem dX3_copyFrom_107 : decode cX3_copyFrom 107 = .ok (.putfield 64, 3) := by decide +kernel
theorem dX3_copyFrom_110 : decode cX3_copyFrom 110 = .ok (.aload_n 0, 1) := by decide +kernel
theorem dX3_copyFrom_111 : decode cX3_copyFrom 111 = .ok (.aload_n 1, 1) := by decide +kernel
theorem dX3_copyFrom_112 : decode cX3_copyFrom 112 = .ok (.getfield 67, 3) := by decide +kernel
theorem dX3_copyFrom_115 : decode cX3_copyFrom 115 = .ok (.putfield 67, 3) := by decide +kernel
theorem dX3_copyFrom_118 : decode cX3_copyFrom 118 = .ok (.return_, 1) := by decide +kernel
theorem dX3_productAt_0 : decode cX3_productAt 0 = .ok (.iload_n 1, 1) := by decide +kernel
theorem dX3_productAt_1 : decode cX3_productAt 1 = .ok (.ifCond .lt 26, 3) := by decide +kernel
theorem dX3_productAt_4 : decode cX3_productAt 4 = .ok (.iload_n 1, 1) := by decide +kernel
theorem dX3_productAt_5 : decode cX3_productAt 5 = .ok (.aload_n 0, 1) := by decide +kernel
theorem dX3_productAt_6 : decode cX3_productAt 6 = .ok (.getfield 45, 3) := by decide +kernel
theorem dX3_productAt_9 : decode cX3_productAt 9 = .ok (.if_icmp .ge 18, 3) := by decide +kernel
theorem dX3_productAt_12 : decode cX3_productAt 12 = .ok (.iload_n 1, 1) := by decide +kernel
theorem dX3_productAt_13 : decode cX3_productAt 13 = .ok (.bipush 10, 2) := by decide +kernel
theorem dX3_productAt_15 : decode cX3_productAt 15 = .ok (.if_icmp .ge 12, 3) := by decide +kernel
theorem dX3_productAt_18 : decode cX3_productAt 18 = .ok (.aload_n 0, 1) := by decide +kernel
theorem dX3_productAt_19 : decode cX3_productAt 19 = .ok (.getfield 28, 3) := by decide +kernel
theorem dX3_productAt_22 : decode cX3_productAt 22 = .ok (.iload_n 1, 1) := by decide +kernel
theorem dX3_productAt_23 : decode cX3_productAt 23 = .ok (.aaload, 1) := by decide +kernel
theorem dX3_productAt_24 : decode cX3_productAt 24 = .ok (.goto 4, 3) := by decide +kernel
theorem dX3_productAt_27 : decode cX3_productAt 27 = .ok (.aconst_null, 1) := by decide +kernel
theorem dX3_productAt_28 : decode cX3_productAt 28 = .ok (.areturn, 1) := by decide +kernel
theorem dX3_spareProduct_0 : decode cX3_spareProduct 0 = .ok (.aload_n 0, 1) := by decide +kernel
theorem dX3_spareProduct_1 : decode cX3_spareProduct 1 = .ok (.getfield 45, 3) := by decide +kernel
theorem dX3_spareProduct_4 : decode cX3_spareProduct 4 = .ok (.ifCond .lt 24, 3) := by decide +kernel
theorem dX3_spareProduct_7 : decode cX3_spareProduct 7 = .ok (.aload_n 0, 1) := by decide +kernel
theorem dX3_spareProduct_8 : decode cX3_spareProduct 8 = .ok (.getfield 45, 3) := by decide +kernel
theorem dX3_spareProduct_11 : decode cX3_spareProduct 11 = .ok (.bipush 10, 2) := by decide +kernel
theorem dX3_spareProduct_13 : decode cX3_spareProduct 13 = .ok (.if_icmp .ge 15, 3) := by decide +kernel
theorem dX3_spareProduct_16 : decode cX3_spareProduct 16 = .ok (.aload_n 0, 1) := by decide +kernel
theorem dX3_spareProduct_17 : decode cX3_spareProduct 17 = .ok (.getfield 28, 3) := by decide +kernel
theorem dX3_spareProduct_20 : decode cX3_spareProduct 20 = .ok (.aload_n 0, 1) := by decide +kernel
theorem dX3_spareProduct_21 : decode cX3_spareProduct 21 = .ok (.getfield 45, 3) := by decide +kernel
theorem dX3_spareProduct_24 : decode cX3_spareProduct 24 = .ok (.aaload, 1) := by decide +kernel
theorem dX3_spareProduct_25 : decode cX3_spareProduct 25 = .ok (.goto 4, 3) := by decide +kernel
theorem dX3_spareProduct_28 : decode cX3_spareProduct 28 = .ok (.aconst_null, 1) := by decide +kernel
theorem dX3_spareProduct_29 : decode cX3_spareProduct 29 = .ok (.areturn, 1) := by decide +kernel
theorem dX3_setting_0 : decode cX3_setting 0 = .ok (.iload_n 1, 1) := by decide +kernel
theorem dX3_setting_1 : decode cX3_setting 1 = .ok (.ifCond .lt 18, 3) := by decide +kernel
theorem dX3_setting_4 : decode cX3_setting 4 = .ok (.iload_n 1, 1) := by decide +kernel
theorem dX3_setting_5 : decode cX3_setting 5 = .ok (.bipush 9, 2) := by decide +kernel
theorem dX3_setting_7 : decode cX3_setting 7 = .ok (.if_icmp .ge 12, 3) := by decide +kernel
theorem dX3_setting_10 : decode cX3_setting 10 = .ok (.aload_n 0, 1) := by decide +kernel
theorem dX3_setting_11 : decode cX3_setting 11 = .ok (.getfield 18, 3) := by decide +kernel
theorem dX3_setting_14 : decode cX3_setting 14 = .ok (.iload_n 1, 1) := by decide +kernel
theorem dX3_setting_15 : decode cX3_setting 15 = .ok (.iaload, 1) := by decide +kernel
theorem dX3_setting_16 : decode cX3_setting 16 = .ok (.goto 4, 3) := by decide +kernel
theorem dX3_setting_19 : decode cX3_setting 19 = .ok (.iconst 0, 1) := by decide +kernel
theorem dX3_setting_20 : decode cX3_setting 20 = .ok (.ireturn, 1) := by decide +kernel
theorem dX3_changeSetting_0 : decode cX3_changeSetting 0 = .ok (.iload_n 1, 1) := by decide +kernel
theorem dX3_changeSetting_1 : decode cX3_changeSetting 1 = .ok (.ifCond .lt 16, 3) := by decide +kernel
theorem dX3_changeSetting_4 : decode cX3_changeSetting 4 = .ok (.iload_n 1, 1) := by decide +kernel
theorem dX3_changeSetting_5 : decode cX3_changeSetting 5 = .ok (.bipush 9, 2) := by decide +kernel
theorem dX3_changeSetting_7 : decode cX3_changeSetting 7 = .ok (.if_icmp .ge 10, 3) := by decide +kernel
theorem dX3_changeSetting_10 : decode cX3_changeSetting 10 = .ok (.aload_n 0, 1) := by decide +kernel
theorem dX3_changeSetting_11 : decode cX3_changeSetting 11 = .ok (.getfield 18, 3) := by decide +kernel
theorem dX3_changeSetting_14 : decode cX3_changeSetting 14 = .ok (.iload_n 1, 1) := by decide +kernel
theorem dX3_changeSetting_15 : decode cX3_changeSetting 15 = .ok (.iload_n 2, 1) := by decide +kernel
theorem dX3_changeSetting_16 : decode cX3_changeSetting 16 = .ok (.iastore, 1) := by decide +kernel
theorem dX3_changeSetting_17 : decode cX3_changeSetting 17 = .ok (.return_, 1) := by decide +kernel
theorem dX3_capacity_0 : decode cX3_capacity 0 = .ok (.aload_n 0, 1) := by decide +kernel
theorem dX3_capacity_1 : decode cX3_capacity 1 = .ok (.iconst 0, 1) := by decide +kernel
theorem dX3_capacity_2 : decode cX3_capacity 2 = .ok (.invokevirtual 70, 3) := by decide +kernel
theorem dX3_capacity_5 : decode cX3_capacity 5 = .ok (.aload_n 0, 1) := by decide +kernel
theorem dX3_capacity_6 : decode cX3_capacity 6 = .ok (.iconst 1, 1) := by decide +kernel
theorem dX3_capacity_7 : decode cX3_capacity 7 = .ok (.invokevirtual 70, 3) := by decide +kernel
theorem dX3_capacity_10 : decode cX3_capacity 10 = .ok (.iadd, 1) := by decide +kernel
theorem dX3_capacity_11 : decode cX3_capacity 11 = .ok (.ireturn, 1) := by decide +kernel
theorem dX3_isFrozen_0 : decode cX3_isFrozen 0 = .ok (.iload_n 1, 1) := by decide +kernel
theorem dX3_isFrozen_1 : decode cX3_isFrozen 1 = .ok (.aload_n 0, 1) := by decide +kernel
theorem dX3_isFrozen_2 : decode cX3_isFrozen 2 = .ok (.iconst 2, 1) := by decide +kernel
theorem dX3_isFrozen_3 : decode cX3_isFrozen 3 = .ok (.invokevirtual 70, 3) := by decide +kernel
theorem dX3_isFrozen_6 : decode cX3_isFrozen 6 = .ok (.if_icmp .ge 7, 3) := by decide +kernel
theorem dX3_isFrozen_9 : decode cX3_isFrozen 9 = .ok (.iconst 1, 1) := by decide +kernel
theorem dX3_isFrozen_10 : decode cX3_isFrozen 10 = .ok (.goto 4, 3) := by decide +kernel
theorem dX3_isFrozen_13 : decode cX3_isFrozen 13 = .ok (.iconst 0, 1) := by decide +kernel
theorem dX3_isFrozen_14 : decode cX3_isFrozen 14 = .ok (.ireturn, 1) := by decide +kernel
theorem dX3_hoursIn_0 : decode cX3_hoursIn 0 = .ok (.aload_n 0, 1) := by decide +kernel
theorem dX3_hoursIn_1 : decode cX3_hoursIn 1 = .ok (.iload_n 1, 1) := by decide +kernel
theorem dX3_hoursIn_2 : decode cX3_hoursIn 2 = .ok (.aconst_null, 1) := by decide +kernel
theorem dX3_hoursIn_3 : decode cX3_hoursIn 3 = .ok (.iconst 0, 1) := by decide +kernel
theorem dX3_hoursIn_4 : decode cX3_hoursIn 4 = .ok (.invokevirtual 74, 3) := by decide +kernel
theorem dX3_hoursIn_7 : decode cX3_hoursIn 7 = .ok (.ireturn, 1) := by decide +kernel
theorem dX3_hoursWith_0 : decode cX3_hoursWith 0 = .ok (.iconst 0, 1) := by decide +kernel
theorem dX3_hoursWith_1 : decode cX3_hoursWith 1 = .ok (.istore 4, 2) := by decide +kernel
theorem dX3_hoursWith_3 : decode cX3_hoursWith 3 = .ok (.iconst 0, 1) := by decide +kernel
theorem dX3_hoursWith_4 : decode cX3_hoursWith 4 = .ok (.istore 5, 2) := by decide +kernel
theorem dX3_hoursWith_6 : decode cX3_hoursWith 6 = .ok (.iconst 0, 1) := by decide +kernel
theorem dX3_hoursWith_7 : decode cX3_hoursWith 7 = .ok (.istore 6, 2) := by decide +kernel
theorem dX3_hoursWith_9 : decode cX3_hoursWith 9 = .ok (.iload 6, 2) := by decide +kernel
theorem dX3_hoursWith_11 : decode cX3_hoursWith 11 = .ok (.aload_n 0, 1) := by decide +kernel
theorem dX3_hoursWith_12 : decode cX3_hoursWith 12 = .ok (.getfield 45, 3) := by decide +kernel
theorem dX3_hoursWith_15 : decode cX3_hoursWith 15 = .ok (.if_icmp .ge 76, 3) := by decide +kernel
theorem dX3_hoursWith_18 : decode cX3_hoursWith 18 = .ok (.aload_n 0, 1) := by decide +kernel
theorem dX3_hoursWith_19 : decode cX3_hoursWith 19 = .ok (.iload 6, 2) := by decide +kernel
theorem dX3_hoursWith_21 : decode cX3_hoursWith 21 = .ok (.invokevirtual 49, 3) := by decide +kernel
theorem dX3_hoursWith_24 : decode cX3_hoursWith 24 = .ok (.astore 7, 2) := by decide +kernel
theorem dX3_hoursWith_26 : decode cX3_hoursWith 26 = .ok (.aload 7, 2) := by decide +kernel
theorem dX3_hoursWith_28 : decode cX3_hoursWith 28 = .ok (.ifnull 57, 3) := by decide +kernel
theorem dX3_hoursWith_31 : decode cX3_hoursWith 31 = .ok (.aload 7, 2) := by decide +kernel
theorem dX3_hoursWith_33 : decode cX3_hoursWith 33 = .ok (.aload_n 2, 1) := by decide +kernel
theorem dX3_hoursWith_34 : decode cX3_hoursWith 34 = .ok (.if_acmp .ne 7, 3) := by decide +kernel
theorem dX3_hoursWith_37 : decode cX3_hoursWith 37 = .ok (.iload_n 3, 1) := by decide +kernel
theorem dX3_hoursWith_38 : decode cX3_hoursWith 38 = .ok (.goto 9, 3) := by decide +kernel
theorem dX3_hoursWith_41 : decode cX3_hoursWith 41 = .ok (.aload 7, 2) := by decide +kernel
theorem dX3_hoursWith_43 : decode cX3_hoursWith 43 = .ok (.iload_n 1, 1) := by decide +kernel
theorem dX3_hoursWith_44 : decode cX3_hoursWith 44 = .ok (.invokevirtual 78, 3) := by decide +kernel
theorem dX3_hoursWith_47 : decode cX3_hoursWith 47 = .ok (.istore 8, 2) := by decide +kernel
theorem dX3_hoursWith_49 : decode cX3_hoursWith 49 = .ok (.iload 8, 2) := by decide +kernel
theorem dX3_hoursWith_51 : decode cX3_hoursWith 51 = .ok (.ifCond .le 34, 3) := by decide +kernel
theorem dX3_hoursWith_54 : decode cX3_hoursWith 54 = .ok (.iload 4, 2) := by decide +kernel
theorem dX3_hoursWith_56 : decode cX3_hoursWith 56 = .ok (.aload 7, 2) := by decide +kernel
theorem dX3_hoursWith_58 : decode cX3_hoursWith 58 = .ok (.getfield 81, 3) := by decide +kernel
theorem dX3_hoursWith_61 : decode cX3_hoursWith 61 = .ok (.iload 8, 2) := by decide +kernel
theorem dX3_hoursWith_63 : decode cX3_hoursWith 63 = .ok (.aload 7, 2) := by decide +kernel
theorem dX3_hoursWith_65 : decode cX3_hoursWith 65 = .ok (.getfield 84, 3) := by decide +kernel
theorem dX3_hoursWith_68 : decode cX3_hoursWith 68 = .ok (.imul, 1) := by decide +kernel
theorem dX3_hoursWith_69 : decode cX3_hoursWith 69 = .ok (.iadd, 1) := by decide +kernel
theorem dX3_hoursWith_70 : decode cX3_hoursWith 70 = .ok (.iadd, 1) := by decide +kernel
theorem dX3_hoursWith_71 : decode cX3_hoursWith 71 = .ok (.istore 4, 2) := by decide +kernel
theorem dX3_hoursWith_73 : decode cX3_hoursWith 73 = .ok (.iload 5, 2) := by decide +kernel
theorem dX3_hoursWith_75 : decode cX3_hoursWith 75 = .ok (.iconst 1, 1) := by decide +kernel
theorem dX3_hoursWith_76 : decode cX3_hoursWith 76 = .ok (.aload 7, 2) := by decide +kernel
theorem dX3_hoursWith_78 : decode cX3_hoursWith 78 = .ok (.getfield 87, 3) := by decide +kernel
theorem dX3_hoursWith_81 : decode cX3_hoursWith 81 = .ok (.ishl, 1) := by decide +kernel
theorem dX3_hoursWith_82 : decode cX3_hoursWith 82 = .ok (.ior, 1) := by decide +kernel
theorem dX3_hoursWith_83 : decode cX3_hoursWith 83 = .ok (.istore 5, 2) := by decide +kernel
theorem dX3_hoursWith_85 : decode cX3_hoursWith 85 = .ok (.iinc 6 1, 3) := by decide +kernel
theorem dX3_hoursWith_88 : decode cX3_hoursWith 88 = .ok (.goto (-79), 3) := by decide +kernel
theorem dX3_hoursWith_91 : decode cX3_hoursWith 91 = .ok (.iconst 0, 1) := by decide +kernel
theorem dX3_hoursWith_92 : decode cX3_hoursWith 92 = .ok (.istore 6, 2) := by decide +kernel
theorem dX3_hoursWith_94 : decode cX3_hoursWith 94 = .ok (.iload 6, 2) := by decide +kernel
theorem dX3_hoursWith_96 : decode cX3_hoursWith 96 = .ok (.iconst 4, 1) := by decide +kernel
theorem dX3_hoursWith_97 : decode cX3_hoursWith 97 = .ok (.if_icmp .ge 31, 3) := by decide +kernel
theorem dX3_hoursWith_100 : decode cX3_hoursWith 100 = .ok (.iload 5, 2) := by decide +kernel
theorem dX3_hoursWith_102 : decode cX3_hoursWith 102 = .ok (.iload 6, 2) := by decide +kernel
theorem dX3_hoursWith_104 : decode cX3_hoursWith 104 = .ok (.ishr, 1) := by decide +kernel
theorem dX3_hoursWith_105 : decode cX3_hoursWith 105 = .ok (.iconst 1, 1) := by decide +kernel
theorem dX3_hoursWith_106 : decode cX3_hoursWith 106 = .ok (.iand, 1) := by decide +kernel
theorem dX3_hoursWith_107 : decode cX3_hoursWith 107 = .ok (.ifCond .eq 15, 3) := by decide +kernel
theorem dX3_hoursWith_110 : decode cX3_hoursWith 110 = .ok (.iload 4, 2) := by decide +kernel
theorem dX3_hoursWith_112 : decode cX3_hoursWith 112 = .ok (.aload_n 0, 1) := by decide +kernel
theorem dX3_hoursWith_113 : decode cX3_hoursWith 113 = .ok (.getfield 23, 3) := by decide +kernel
theorem dX3_hoursWith_116 : decode cX3_hoursWith 116 = .ok (.iload 6, 2) := by decide +kernel
theorem dX3_hoursWith_118 : decode cX3_hoursWith 118 = .ok (.iaload, 1) := by decide +kernel
theorem dX3_hoursWith_119 : decode cX3_hoursWith 119 = .ok (.iadd, 1) := by decide +kernel
theorem dX3_hoursWith_120 : decode cX3_hoursWith 120 = .ok (.istore 4, 2) := by decide +kernel
theorem dX3_hoursWith_122 : decode cX3_hoursWith 122 = .ok (.iinc 6 1, 3) := by decide +kernel
theorem dX3_hoursWith_125 : decode cX3_hoursWith 125 = .ok (.goto (-31), 3) := by decide +kernel
theorem dX3_hoursWith_128 : decode cX3_hoursWith 128 = .ok (.iload 4, 2) := by decide +kernel
theorem dX3_hoursWith_130 : decode cX3_hoursWith 130 = .ok (.ireturn, 1) := by decide +kernel
theorem dX3_familiesIn_0 : decode cX3_familiesIn 0 = .ok (.iconst 0, 1) := by decide +kernel
theorem dX3_familiesIn_1 : decode cX3_familiesIn 1 = .ok (.istore_n 2, 1) := by decide +kernel
theorem dX3_familiesIn_2 : decode cX3_familiesIn 2 = .ok (.iconst 0, 1) := by decide +kernel
theorem dX3_familiesIn_3 : decode cX3_familiesIn 3 = .ok (.istore_n 3, 1) := by decide +kernel
theorem dX3_familiesIn_4 : decode cX3_familiesIn 4 = .ok (.iload_n 3, 1) := by decide +kernel
theorem dX3_familiesIn_5 : decode cX3_familiesIn 5 = .ok (.aload_n 0, 1) := by decide +kernel
theorem dX3_familiesIn_6 : decode cX3_familiesIn 6 = .ok (.getfield 45, 3) := by decide +kernel
theorem dX3_familiesIn_9 : decode cX3_familiesIn 9 = .ok (.if_icmp .ge 40, 3) := by decide +kernel
theorem dX3_familiesIn_12 : decode cX3_familiesIn 12 = .ok (.aload_n 0, 1) := by decide +kernel
theorem dX3_familiesIn_13 : decode cX3_familiesIn 13 = .ok (.iload_n 3, 1) := by decide +kernel
theorem dX3_familiesIn_14 : decode cX3_familiesIn 14 = .ok (.invokevirtual 49, 3) := by decide +kernel
theorem dX3_familiesIn_17 : decode cX3_familiesIn 17 = .ok (.astore 4, 2) := by decide +kernel
theorem dX3_familiesIn_19 : decode cX3_familiesIn 19 = .ok (.aload 4, 2) := by decide +kernel
theorem dX3_familiesIn_21 : decode cX3_familiesIn 21 = .ok (.ifnull 22, 3) := by decide +kernel
theorem dX3_familiesIn_24 : decode cX3_familiesIn 24 = .ok (.aload 4, 2) := by decide +kernel
theorem dX3_familiesIn_26 : decode cX3_familiesIn 26 = .ok (.iload_n 1, 1) := by decide +kernel
theorem dX3_familiesIn_27 : decode cX3_familiesIn 27 = .ok (.invokevirtual 78, 3) := by decide +kernel
theorem dX3_familiesIn_30 : decode cX3_familiesIn 30 = .ok (.ifCond .le 13, 3) := by decide +kernel
theorem dX3_familiesIn_33 : decode cX3_familiesIn 33 = .ok (.iload_n 2, 1) := by decide +kernel
theorem dX3_familiesIn_34 : decode cX3_familiesIn 34 = .ok (.iconst 1, 1) := by decide +kernel
theorem dX3_familiesIn_35 : decode cX3_familiesIn 35 = .ok (.aload 4, 2) := by decide +kernel
theorem dX3_familiesIn_37 : decode cX3_familiesIn 37 = .ok (.getfield 87, 3) := by decide +kernel
theorem dX3_familiesIn_40 : decode cX3_familiesIn 40 = .ok (.ishl, 1) := by decide +kernel
theorem dX3_familiesIn_41 : decode cX3_familiesIn 41 = .ok (.ior, 1) := by decide +kernel
theorem dX3_familiesIn_42 : decode cX3_familiesIn 42 = .ok (.istore_n 2, 1) := by decide +kernel
theorem dX3_familiesIn_43 : decode cX3_familiesIn 43 = .ok (.iinc 3 1, 3) := by decide +kernel
theorem dX3_familiesIn_46 : decode cX3_familiesIn 46 = .ok (.goto (-42), 3) := by decide +kernel
theorem dX3_familiesIn_49 : decode cX3_familiesIn 49 = .ok (.iload_n 2, 1) := by decide +kernel
theorem dX3_familiesIn_50 : decode cX3_familiesIn 50 = .ok (.ireturn, 1) := by decide +kernel
theorem dX3_setupsIn_0 : decode cX3_setupsIn 0 = .ok (.aload_n 0, 1) := by decide +kernel
theorem dX3_setupsIn_1 : decode cX3_setupsIn 1 = .ok (.iload_n 1, 1) := by decide +kernel
theorem dX3_setupsIn_2 : decode cX3_setupsIn 2 = .ok (.invokevirtual 90, 3) := by decide +kernel
theorem dX3_setupsIn_5 : decode cX3_setupsIn 5 = .ok (.invokestatic 93, 3) := by decide +kernel
theorem dX3_setupsIn_8 : decode cX3_setupsIn 8 = .ok (.istore_n 2, 1) := by decide +kernel
theorem dX3_setupsIn_9 : decode cX3_setupsIn 9 = .ok (.iconst 0, 1) := by decide +kernel
theorem dX3_setupsIn_10 : decode cX3_setupsIn 10 = .ok (.istore_n 3, 1) := by decide +kernel
theorem dX3_setupsIn_11 : decode cX3_setupsIn 11 = .ok (.iload_n 3, 1) := by decide +kernel
theorem dX3_setupsIn_12 : decode cX3_setupsIn 12 = .ok (.aload_n 0, 1) := by decide +kernel
theorem dX3_setupsIn_13 : decode cX3_setupsIn 13 = .ok (.getfield 45, 3) := by decide +kernel
theorem dX3_setupsIn_16 : decode cX3_setupsIn 16 = .ok (.if_icmp .ge 33, 3) := by decide +kernel
theorem dX3_setupsIn_19 : decode cX3_setupsIn 19 = .ok (.aload_n 0, 1) := by decide +kernel
theorem dX3_setupsIn_20 : decode cX3_setupsIn 20 = .ok (.iload_n 3, 1) := by decide +kernel
theorem dX3_setupsIn_21 : decode cX3_setupsIn 21 = .ok (.invokevirtual 49, 3) := by decide +kernel
theorem dX3_setupsIn_24 : decode cX3_setupsIn 24 = .ok (.astore 4, 2) := by decide +kernel
theorem dX3_setupsIn_26 : decode cX3_setupsIn 26 = .ok (.aload 4, 2) := by decide +kernel
theorem dX3_setupsIn_28 : decode cX3_setupsIn 28 = .ok (.ifnull 15, 3) := by decide +kernel
theorem dX3_setupsIn_31 : decode cX3_setupsIn 31 = .ok (.aload 4, 2) := by decide +kernel
theorem dX3_setupsIn_33 : decode cX3_setupsIn 33 = .ok (.iload_n 1, 1) := by decide +kernel
theorem dX3_setupsIn_34 : decode cX3_setupsIn 34 = .ok (.invokevirtual 78, 3) := by decide +kernel
theorem dX3_setupsIn_37 : decode cX3_setupsIn 37 = .ok (.ifCond .le 6, 3) := by decide +kernel
theorem dX3_setupsIn_40 : decode cX3_setupsIn 40 = .ok (.iinc 2 1, 3) := by decide +kernel
theorem dX3_setupsIn_43 : decode cX3_setupsIn 43 = .ok (.iinc 3 1, 3) := by decide +kernel
theorem dX3_setupsIn_46 : decode cX3_setupsIn 46 = .ok (.goto (-35), 3) := by decide +kernel
theorem dX3_setupsIn_49 : decode cX3_setupsIn 49 = .ok (.iload_n 2, 1) := by decide +kernel
theorem dX3_setupsIn_50 : decode cX3_setupsIn 50 = .ok (.ireturn, 1) := by decide +kernel
theorem dX3_overtimeIn_0 : decode cX3_overtimeIn 0 = .ok (.iconst 0, 1) := by decide +kernel
theorem dX3_overtimeIn_1 : decode cX3_overtimeIn 1 = .ok (.aload_n 0, 1) := by decide +kernel
theorem dX3_overtimeIn_2 : decode cX3_overtimeIn 2 = .ok (.iload_n 1, 1) := by decide +kernel
theorem dX3_overtimeIn_3 : decode cX3_overtimeIn 3 = .ok (.aconst_null, 1) := by decide +kernel
theorem dX3_overtimeIn_4 : decode cX3_overtimeIn 4 = .ok (.iconst 0, 1) := by decide +kernel
theorem dX3_overtimeIn_5 : decode cX3_overtimeIn 5 = .ok (.invokevirtual 74, 3) := by decide +kernel
theorem dX3_overtimeIn_8 : decode cX3_overtimeIn 8 = .ok (.aload_n 0, 1) := by decide +kernel
theorem dX3_overtimeIn_9 : decode cX3_overtimeIn 9 = .ok (.iconst 0, 1) := by decide +kernel
theorem dX3_overtimeIn_10 : decode cX3_overtimeIn 10 = .ok (.invokevirtual 70, 3) := by decide +kernel
theorem dX3_overtimeIn_13 : decode cX3_overtimeIn 13 = .ok (.isub, 1) := by decide +kernel
theorem dX3_overtimeIn_14 : decode cX3_overtimeIn 14 = .ok (.invokestatic 98, 3) := by decide +kernel
theorem dX3_overtimeIn_17 : decode cX3_overtimeIn 17 = .ok (.ireturn, 1) := by decide +kernel
theorem dX3_allLots_0 : decode cX3_allLots 0 = .ok (.iconst 0, 1) := by decide +kernel
theorem dX3_allLots_1 : decode cX3_allLots 1 = .ok (.istore_n 1, 1) := by decide +kernel
theorem dX3_allLots_2 : decode cX3_allLots 2 = .ok (.iconst 0, 1) := by decide +kernel
theorem dX3_allLots_3 : decode cX3_allLots 3 = .ok (.istore_n 2, 1) := by decide +kernel
theorem dX3_allLots_4 : decode cX3_allLots 4 = .ok (.iload_n 2, 1) := by decide +kernel
theorem dX3_allLots_5 : decode cX3_allLots 5 = .ok (.aload_n 0, 1) := by decide +kernel
theorem dX3_allLots_6 : decode cX3_allLots 6 = .ok (.getfield 45, 3) := by decide +kernel
theorem dX3_allLots_9 : decode cX3_allLots 9 = .ok (.if_icmp .ge 26, 3) := by decide +kernel
theorem dX3_allLots_12 : decode cX3_allLots 12 = .ok (.aload_n 0, 1) := by decide +kernel
theorem dX3_allLots_13 : decode cX3_allLots 13 = .ok (.iload_n 2, 1) := by decide +kernel
theorem dX3_allLots_14 : decode cX3_allLots 14 = .ok (.invokevirtual 49, 3) := by decide +kernel
theorem dX3_allLots_17 : decode cX3_allLots 17 = .ok (.astore_n 3, 1) := by decide +kernel
theorem dX3_allLots_18 : decode cX3_allLots 18 = .ok (.aload_n 3, 1) := by decide +kernel
theorem dX3_allLots_19 : decode cX3_allLots 19 = .ok (.ifnull 10, 3) := by decide +kernel
theorem dX3_allLots_22 : decode cX3_allLots 22 = .ok (.iload_n 1, 1) := by decide +kernel
theorem dX3_allLots_23 : decode cX3_allLots 23 = .ok (.aload_n 3, 1) := by decide +kernel
theorem dX3_allLots_24 : decode cX3_allLots 24 = .ok (.invokevirtual 104, 3) := by decide +kernel
theorem dX3_allLots_27 : decode cX3_allLots 27 = .ok (.iadd, 1) := by decide +kernel
theorem dX3_allLots_28 : decode cX3_allLots 28 = .ok (.istore_n 1, 1) := by decide +kernel
theorem dX3_allLots_29 : decode cX3_allLots 29 = .ok (.iinc 2 1, 3) := by decide +kernel
theorem dX3_allLots_32 : decode cX3_allLots 32 = .ok (.goto (-28), 3) := by decide +kernel
theorem dX3_allLots_35 : decode cX3_allLots 35 = .ok (.iload_n 1, 1) := by decide +kernel
theorem dX3_allLots_36 : decode cX3_allLots 36 = .ok (.ireturn, 1) := by decide +kernel
theorem dX3_allStock_0 : decode cX3_allStock 0 = .ok (.lconst 0, 1) := by decide +kernel
theorem dX3_allStock_1 : decode cX3_allStock 1 = .ok (.lstore_n 1, 1) := by decide +kernel
theorem dX3_allStock_2 : decode cX3_allStock 2 = .ok (.iconst 0, 1) := by decide +kernel
theorem dX3_allStock_3 : decode cX3_allStock 3 = .ok (.istore_n 3, 1) := by decide +kernel
theorem dX3_allStock_4 : decode cX3_allStock 4 = .ok (.iload_n 3, 1) := by decide +kernel
theorem dX3_allStock_5 : decode cX3_allStock 5 = .ok (.aload_n 0, 1) := by decide +kernel
theorem dX3_allStock_6 : decode cX3_allStock 6 = .ok (.getfield 45, 3) := by decide +kernel
theorem dX3_allStock_9 : decode cX3_allStock 9 = .ok (.if_icmp .ge 30, 3) := by decide +kernel
theorem dX3_allStock_12 : decode cX3_allStock 12 = .ok (.aload_n 0, 1) := by decide +kernel
theorem dX3_allStock_13 : decode cX3_allStock 13 = .ok (.iload_n 3, 1) := by decide +kernel
theorem dX3_allStock_14 : decode cX3_allStock 14 = .ok (.invokevirtual 49, 3) := by decide +kernel
theorem dX3_allStock_17 : decode cX3_allStock 17 = .ok (.astore 4, 2) := by decide +kernel
theorem dX3_allStock_19 : decode cX3_allStock 19 = .ok (.aload 4, 2) := by decide +kernel
theorem dX3_allStock_21 : decode cX3_allStock 21 = .ok (.ifnull 12, 3) := by decide +kernel
theorem dX3_allStock_24 : decode cX3_allStock 24 = .ok (.lload_n 1, 1) := by decide +kernel
theorem dX3_allStock_25 : decode cX3_allStock 25 = .ok (.aload 4, 2) := by decide +kernel
theorem dX3_allStock_27 : decode cX3_allStock 27 = .ok (.getfield 108, 3) := by decide +kernel
theorem dX3_allStock_30 : decode cX3_allStock 30 = .ok (.i2l, 1) := by decide +kernel
theorem dX3_allStock_31 : decode cX3_allStock 31 = .ok (.ladd, 1) := by decide +kernel
theorem dX3_allStock_32 : decode cX3_allStock 32 = .ok (.lstore_n 1, 1) := by decide +kernel
theorem dX3_allStock_33 : decode cX3_allStock 33 = .ok (.iinc 3 1, 3) := by decide +kernel
theorem dX3_allStock_36 : decode cX3_allStock 36 = .ok (.goto (-32), 3) := by decide +kernel
theorem dX3_allStock_39 : decode cX3_allStock 39 = .ok (.lload_n 1, 1) := by decide +kernel
theorem dX3_allStock_40 : decode cX3_allStock 40 = .ok (.lreturn, 1) := by decide +kernel
theorem dX3_allBacklog_0 : decode cX3_allBacklog 0 = .ok (.lconst 0, 1) := by decide +kernel
theorem dX3_allBacklog_1 : decode cX3_allBacklog 1 = .ok (.lstore_n 1, 1) := by decide +kernel
theorem dX3_allBacklog_2 : decode cX3_allBacklog 2 = .ok (.iconst 0, 1) := by decide +kernel
theorem dX3_allBacklog_3 : decode cX3_allBacklog 3 = .ok (.istore_n 3, 1) := by decide +kernel
theorem dX3_allBacklog_4 : decode cX3_allBacklog 4 = .ok (.iload_n 3, 1) := by decide +kernel
theorem dX3_allBacklog_5 : decode cX3_allBacklog 5 = .ok (.aload_n 0, 1) := by decide +kernel
theorem dX3_allBacklog_6 : decode cX3_allBacklog 6 = .ok (.getfield 45, 3) := by decide +kernel
theorem dX3_allBacklog_9 : decode cX3_allBacklog 9 = .ok (.if_icmp .ge 30, 3) := by decide +kernel
theorem dX3_allBacklog_12 : decode cX3_allBacklog 12 = .ok (.aload_n 0, 1) := by decide +kernel
theorem dX3_allBacklog_13 : decode cX3_allBacklog 13 = .ok (.iload_n 3, 1) := by decide +kernel
theorem dX3_allBacklog_14 : decode cX3_allBacklog 14 = .ok (.invokevirtual 49, 3) := by decide +kernel
theorem dX3_allBacklog_17 : decode cX3_allBacklog 17 = .ok (.astore 4, 2) := by decide +kernel
theorem dX3_allBacklog_19 : decode cX3_allBacklog 19 = .ok (.aload 4, 2) := by decide +kernel
theorem dX3_allBacklog_21 : decode cX3_allBacklog 21 = .ok (.ifnull 12, 3) := by decide +kernel
theorem dX3_allBacklog_24 : decode cX3_allBacklog 24 = .ok (.lload_n 1, 1) := by decide +kernel
theorem dX3_allBacklog_25 : decode cX3_allBacklog 25 = .ok (.aload 4, 2) := by decide +kernel
theorem dX3_allBacklog_27 : decode cX3_allBacklog 27 = .ok (.getfield 111, 3) := by decide +kernel
theorem dX3_allBacklog_30 : decode cX3_allBacklog 30 = .ok (.i2l, 1) := by decide +kernel
theorem dX3_allBacklog_31 : decode cX3_allBacklog 31 = .ok (.ladd, 1) := by decide +kernel
theorem dX3_allBacklog_32 : decode cX3_allBacklog 32 = .ok (.lstore_n 1, 1) := by decide +kernel
theorem dX3_allBacklog_33 : decode cX3_allBacklog 33 = .ok (.iinc 3 1, 3) := by decide +kernel
theorem dX3_allBacklog_36 : decode cX3_allBacklog 36 = .ok (.goto (-32), 3) := by decide +kernel
theorem dX3_allBacklog_39 : decode cX3_allBacklog 39 = .ok (.lload_n 1, 1) := by decide +kernel
theorem dX3_allBacklog_40 : decode cX3_allBacklog 40 = .ok (.lreturn, 1) := by decide +kernel
theorem dX3_forgetTold_0 : decode cX3_forgetTold 0 = .ok (.iconst 0, 1) := by decide +kernel
theorem dX3_forgetTold_1 : decode cX3_forgetTold 1 = .ok (.istore_n 1, 1) := by decide +kernel
theorem dX3_forgetTold_2 : decode cX3_forgetTold 2 = .ok (.iload_n 1, 1) := by decide +kernel
theorem dX3_forgetTold_3 : decode cX3_forgetTold 3 = .ok (.aload_n 0, 1) := by decide +kernel
theorem dX3_forgetTold_4 : decode cX3_forgetTold 4 = .ok (.getfield 45, 3) := by decide +kernel
theorem dX3_forgetTold_7 : decode cX3_forgetTold 7 = .ok (.if_icmp .ge 25, 3) := by decide +kernel
theorem dX3_forgetTold_10 : decode cX3_forgetTold 10 = .ok (.aload_n 0, 1) := by decide +kernel
theorem dX3_forgetTold_11 : decode cX3_forgetTold 11 = .ok (.iload_n 1, 1) := by decide +kernel
theorem dX3_forgetTold_12 : decode cX3_forgetTold 12 = .ok (.invokevirtual 49, 3) := by decide +kernel
theorem dX3_forgetTold_15 : decode cX3_forgetTold 15 = .ok (.astore_n 2, 1) := by decide +kernel
theorem dX3_forgetTold_16 : decode cX3_forgetTold 16 = .ok (.aload_n 2, 1) := by decide +kernel
theorem dX3_forgetTold_17 : decode cX3_forgetTold 17 = .ok (.ifnull 9, 3) := by decide +kernel
theorem dX3_forgetTold_20 : decode cX3_forgetTold 20 = .ok (.aload_n 2, 1) := by decide +kernel
theorem dX3_forgetTold_21 : decode cX3_forgetTold 21 = .ok (.bipush (-6), 2) := by decide +kernel
theorem dX3_forgetTold_23 : decode cX3_forgetTold 23 = .ok (.putfield 114, 3) := by decide +kernel
theorem dX3_forgetTold_26 : decode cX3_forgetTold 26 = .ok (.iinc 1 1, 3) := by decide +kernel
theorem dX3_forgetTold_29 : decode cX3_forgetTold 29 = .ok (.goto (-27), 3) := by decide +kernel
theorem dX3_forgetTold_32 : decode cX3_forgetTold 32 = .ok (.return_, 1) := by decide +kernel
theorem dX3_planAnew_0 : decode cX3_planAnew 0 = .ok (.aload_n 0, 1) := by decide +kernel
theorem dX3_planAnew_1 : decode cX3_planAnew 1 = .ok (.invokevirtual 117, 3) := by decide +kernel
theorem dX3_planAnew_4 : decode cX3_planAnew 4 = .ok (.aload_n 0, 1) := by decide +kernel
theorem dX3_planAnew_5 : decode cX3_planAnew 5 = .ok (.iconst 2, 1) := by decide +kernel
theorem dX3_planAnew_6 : decode cX3_planAnew 6 = .ok (.invokevirtual 70, 3) := by decide +kernel
theorem dX3_planAnew_9 : decode cX3_planAnew 9 = .ok (.istore_n 1, 1) := by decide +kernel
theorem dX3_planAnew_10 : decode cX3_planAnew 10 = .ok (.iload_n 1, 1) := by decide +kernel
theorem dX3_planAnew_11 : decode cX3_planAnew 11 = .ok (.bipush 12, 2) := by decide +kernel
theorem dX3_planAnew_13 : decode cX3_planAnew 13 = .ok (.if_icmp .ge 14, 3) := by decide +kernel
theorem dX3_planAnew_16 : decode cX3_planAnew 16 = .ok (.aload_n 0, 1) := by decide +kernel
theorem dX3_planAnew_17 : decode cX3_planAnew 17 = .ok (.iload_n 1, 1) := by decide +kernel
theorem dX3_planAnew_18 : decode cX3_planAnew 18 = .ok (.invokevirtual 120, 3) := by decide +kernel
theorem dX3_planAnew_21 : decode cX3_planAnew 21 = .ok (.iinc 1 1, 3) := by decide +kernel
theorem dX3_planAnew_24 : decode cX3_planAnew 24 = .ok (.goto (-14), 3) := by decide +kernel
theorem dX3_planAnew_27 : decode cX3_planAnew 27 = .ok (.return_, 1) := by decide +kernel
theorem dX3_plansWithoutShortage_0 : decode cX3_plansWithoutShortage 0 = .ok (.aload_n 0, 1) := by decide +kernel
theorem dX3_plansWithoutShortage_1 : decode cX3_plansWithoutShortage 1 = .ok (.invokevirtual 117, 3) := by decide +kernel
theorem dX3_plansWithoutShortage_4 : decode cX3_plansWithoutShortage 4 = .ok (.aload_n 0, 1) := by decide +kernel
theorem dX3_plansWithoutShortage_5 : decode cX3_plansWithoutShortage 5 = .ok (.iconst 2, 1) := by decide +kernel
theorem dX3_plansWithoutShortage_6 : decode cX3_plansWithoutShortage 6 = .ok (.invokevirtual 70, 3) := by decide +kernel
theorem dX3_plansWithoutShortage_9 : decode cX3_plansWithoutShortage 9 = .ok (.istore_n 1, 1) := by decide +kernel
theorem dX3_plansWithoutShortage_10 : decode cX3_plansWithoutShortage 10 = .ok (.iload_n 1, 1) := by decide +kernel
theorem dX3_plansWithoutShortage_11 : decode cX3_plansWithoutShortage 11 = .ok (.bipush 12, 2) := by decide +kernel
theorem dX3_plansWithoutShortage_13 : decode cX3_plansWithoutShortage 13 = .ok (.if_icmp .ge 23, 3) := by decide +kernel
theorem dX3_plansWithoutShortage_16 : decode cX3_plansWithoutShortage 16 = .ok (.aload_n 0, 1) := by decide +kernel
theorem dX3_plansWithoutShortage_17 : decode cX3_plansWithoutShortage 17 = .ok (.iload_n 1, 1) := by decide +kernel
theorem dX3_plansWithoutShortage_18 : decode cX3_plansWithoutShortage 18 = .ok (.invokevirtual 120, 3) := by decide +kernel
theorem dX3_plansWithoutShortage_21 : decode cX3_plansWithoutShortage 21 = .ok (.aload_n 0, 1) := by decide +kernel
theorem dX3_plansWithoutShortage_22 : decode cX3_plansWithoutShortage 22 = .ok (.invokevirtual 124, 3) := by decide +kernel
theorem dX3_plansWithoutShortage_25 : decode cX3_plansWithoutShortage 25 = .ok (.ifCond .eq 5, 3) := by decide +kernel
theorem dX3_plansWithoutShortage_28 : decode cX3_plansWithoutShortage 28 = .ok (.iconst 0, 1) := by decide +kernel
theorem dX3_plansWithoutShortage_29 : decode cX3_plansWithoutShortage 29 = .ok (.ireturn, 1) := by decide +kernel
theorem dX3_plansWithoutShortage_30 : decode cX3_plansWithoutShortage 30 = .ok (.iinc 1 1, 3) := by decide +kernel
theorem dX3_plansWithoutShortage_33 : decode cX3_plansWithoutShortage 33 = .ok (.goto (-23), 3) := by decide +kernel
theorem dX3_plansWithoutShortage_36 : decode cX3_plansWithoutShortage 36 = .ok (.iconst 1, 1) := by decide +kernel
theorem dX3_plansWithoutShortage_37 : decode cX3_plansWithoutShortage 37 = .ok (.ireturn, 1) := by decide +kernel
theorem dX3_openPlans_0 : decode cX3_openPlans 0 = .ok (.aload_n 0, 1) := by decide +kernel
theorem dX3_openPlans_1 : decode cX3_openPlans 1 = .ok (.iconst 2, 1) := by decide +kernel
theorem dX3_openPlans_2 : decode cX3_openPlans 2 = .ok (.invokevirtual 70, 3) := by decide +kernel
theorem dX3_openPlans_5 : decode cX3_openPlans 5 = .ok (.istore_n 1, 1) := by decide +kernel
theorem dX3_openPlans_6 : decode cX3_openPlans 6 = .ok (.iconst 0, 1) := by decide +kernel
theorem dX3_openPlans_7 : decode cX3_openPlans 7 = .ok (.istore_n 2, 1) := by decide +kernel
theorem dX3_openPlans_8 : decode cX3_openPlans 8 = .ok (.iload_n 2, 1) := by decide +kernel
theorem dX3_openPlans_9 : decode cX3_openPlans 9 = .ok (.aload_n 0, 1) := by decide +kernel
theorem dX3_openPlans_10 : decode cX3_openPlans 10 = .ok (.getfield 45, 3) := by decide +kernel
theorem dX3_openPlans_13 : decode cX3_openPlans 13 = .ok (.if_icmp .ge 24, 3) := by decide +kernel
theorem dX3_openPlans_16 : decode cX3_openPlans 16 = .ok (.aload_n 0, 1) := by decide +kernel
theorem dX3_openPlans_17 : decode cX3_openPlans 17 = .ok (.iload_n 2, 1) := by decide +kernel
theorem dX3_openPlans_18 : decode cX3_openPlans 18 = .ok (.invokevirtual 49, 3) := by decide +kernel
theorem dX3_openPlans_21 : decode cX3_openPlans 21 = .ok (.astore_n 3, 1) := by decide +kernel
theorem dX3_openPlans_22 : decode cX3_openPlans 22 = .ok (.aload_n 3, 1) := by decide +kernel
theorem dX3_openPlans_23 : decode cX3_openPlans 23 = .ok (.ifnull 8, 3) := by decide +kernel
theorem dX3_openPlans_26 : decode cX3_openPlans 26 = .ok (.aload_n 3, 1) := by decide +kernel
theorem dX3_openPlans_27 : decode cX3_openPlans 27 = .ok (.iload_n 1, 1) := by decide +kernel
theorem dX3_openPlans_28 : decode cX3_openPlans 28 = .ok (.invokevirtual 128, 3) := by decide +kernel
theorem dX3_openPlans_31 : decode cX3_openPlans 31 = .ok (.iinc 2 1, 3) := by decide +kernel
theorem dX3_openPlans_34 : decode cX3_openPlans 34 = .ok (.goto (-26), 3) := by decide +kernel
theorem dX3_openPlans_37 : decode cX3_openPlans 37 = .ok (.return_, 1) := by decide +kernel
theorem dX3_planWeek_0 : decode cX3_planWeek 0 = .ok (.aload_n 0, 1) := by decide +kernel
theorem dX3_planWeek_1 : decode cX3_planWeek 1 = .ok (.iconst 4, 1) := by decide +kernel
theorem dX3_planWeek_2 : decode cX3_planWeek 2 = .ok (.invokevirtual 70, 3) := by decide +kernel
theorem dX3_planWeek_5 : decode cX3_planWeek 5 = .ok (.istore_n 2, 1) := by decide +kernel
theorem dX3_planWeek_6 : decode cX3_planWeek 6 = .ok (.iconst 0, 1) := by decide +kernel
theorem dX3_planWeek_7 : decode cX3_planWeek 7 = .ok (.istore_n 3, 1) := by decide +kernel
theorem dX3_planWeek_8 : decode cX3_planWeek 8 = .ok (.iload_n 3, 1) := by decide +kernel
theorem dX3_planWeek_9 : decode cX3_planWeek 9 = .ok (.aload_n 0, 1) := by decide +kernel
theorem dX3_planWeek_10 : decode cX3_planWeek 10 = .ok (.getfield 45, 3) := by decide +kernel
theorem dX3_planWeek_13 : decode cX3_planWeek 13 = .ok (.if_icmp .ge 28, 3) := by decide +kernel
theorem dX3_planWeek_16 : decode cX3_planWeek 16 = .ok (.aload_n 0, 1) := by decide +kernel
theorem dX3_planWeek_17 : decode cX3_planWeek 17 = .ok (.iload_n 3, 1) := by decide +kernel
theorem dX3_planWeek_18 : decode cX3_planWeek 18 = .ok (.invokevirtual 49, 3) := by decide +kernel
theorem dX3_planWeek_21 : decode cX3_planWeek 21 = .ok (.astore 4, 2) := by decide +kernel
theorem dX3_planWeek_23 : decode cX3_planWeek 23 = .ok (.aload 4, 2) := by decide +kernel
theorem dX3_planWeek_25 : decode cX3_planWeek 25 = .ok (.ifnull 10, 3) := by decide +kernel
theorem dX3_planWeek_28 : decode cX3_planWeek 28 = .ok (.aload 4, 2) := by decide +kernel
theorem dX3_planWeek_30 : decode cX3_planWeek 30 = .ok (.iload_n 1, 1) := by decide +kernel
theorem dX3_planWeek_31 : decode cX3_planWeek 31 = .ok (.iload_n 2, 1) := by decide +kernel
theorem dX3_planWeek_32 : decode cX3_planWeek 32 = .ok (.invokevirtual 131, 3) := by decide +kernel
theorem dX3_planWeek_35 : decode cX3_planWeek 35 = .ok (.iinc 3 1, 3) := by decide +kernel
theorem dX3_planWeek_38 : decode cX3_planWeek 38 = .ok (.goto (-30), 3) := by decide +kernel
theorem dX3_planWeek_41 : decode cX3_planWeek 41 = .ok (.aload_n 0, 1) := by decide +kernel
theorem dX3_planWeek_42 : decode cX3_planWeek 42 = .ok (.aload_n 0, 1) := by decide +kernel
theorem dX3_planWeek_43 : decode cX3_planWeek 43 = .ok (.invokevirtual 135, 3) := by decide +kernel
theorem dX3_planWeek_46 : decode cX3_planWeek 46 = .ok (.putfield 138, 3) := by decide +kernel
theorem dX3_planWeek_49 : decode cX3_planWeek 49 = .ok (.aload_n 0, 1) := by decide +kernel
theorem dX3_planWeek_50 : decode cX3_planWeek 50 = .ok (.iconst 0, 1) := by decide +kernel
theorem dX3_planWeek_51 : decode cX3_planWeek 51 = .ok (.putfield 141, 3) := by decide +kernel
theorem dX3_planWeek_54 : decode cX3_planWeek 54 = .ok (.iconst 0, 1) := by decide +kernel
theorem dX3_planWeek_55 : decode cX3_planWeek 55 = .ok (.istore_n 3, 1) := by decide +kernel
theorem dX3_planWeek_56 : decode cX3_planWeek 56 = .ok (.iload_n 3, 1) := by decide +kernel
theorem dX3_planWeek_57 : decode cX3_planWeek 57 = .ok (.bipush 10, 2) := by decide +kernel
theorem dX3_planWeek_59 : decode cX3_planWeek 59 = .ok (.if_icmp .ge 34, 3) := by decide +kernel
theorem dX3_planWeek_62 : decode cX3_planWeek 62 = .ok (.aload_n 0, 1) := by decide +kernel
theorem dX3_planWeek_63 : decode cX3_planWeek 63 = .ok (.invokevirtual 144, 3) := by decide +kernel
theorem dX3_planWeek_66 : decode cX3_planWeek 66 = .ok (.astore 4, 2) := by decide +kernel
theorem dX3_planWeek_68 : decode cX3_planWeek 68 = .ok (.aload 4, 2) := by decide +kernel
theorem dX3_planWeek_70 : decode cX3_planWeek 70 = .ok (.ifnonnull 4, 3) := by decide +kernel
theorem dX3_planWeek_73 : decode cX3_planWeek 73 = .ok (.return_, 1) := by decide +kernel
theorem dX3_planWeek_74 : decode cX3_planWeek 74 = .ok (.aload 4, 2) := by decide +kernel
theorem dX3_planWeek_76 : decode cX3_planWeek 76 = .ok (.iconst 0, 1) := by decide +kernel
theorem dX3_planWeek_77 : decode cX3_planWeek 77 = .ok (.putfield 148, 3) := by decide +kernel
theorem dX3_planWeek_80 : decode cX3_planWeek 80 = .ok (.aload_n 0, 1) := by decide +kernel
theorem dX3_planWeek_81 : decode cX3_planWeek 81 = .ok (.aload 4, 2) := by decide +kernel
theorem dX3_planWeek_83 : decode cX3_planWeek 83 = .ok (.iload_n 1, 1) := by decide +kernel
theorem dX3_planWeek_84 : decode cX3_planWeek 84 = .ok (.invokevirtual 152, 3) := by decide +kernel
theorem dX3_planWeek_87 : decode cX3_planWeek 87 = .ok (.iinc 3 1, 3) := by decide +kernel
theorem dX3_planWeek_90 : decode cX3_planWeek 90 = .ok (.goto (-34), 3) := by decide +kernel
theorem dX3_planWeek_93 : decode cX3_planWeek 93 = .ok (.return_, 1) := by decide +kernel
theorem dX3_nextWaiting_0 : decode cX3_nextWaiting 0 = .ok (.aconst_null, 1) := by decide +kernel
theorem dX3_nextWaiting_1 : decode cX3_nextWaiting 1 = .ok (.astore_n 1, 1) := by decide +kernel
theorem dX3_nextWaiting_2 : decode cX3_nextWaiting 2 = .ok (.iconst 0, 1) := by decide +kernel
theorem dX3_nextWaiting_3 : decode cX3_nextWaiting 3 = .ok (.istore_n 2, 1) := by decide +kernel
theorem dX3_nextWaiting_4 : decode cX3_nextWaiting 4 = .ok (.iload_n 2, 1) := by decide +kernel
theorem dX3_nextWaiting_5 : decode cX3_nextWaiting 5 = .ok (.aload_n 0, 1) := by decide +kernel
theorem dX3_nextWaiting_6 : decode cX3_nextWaiting 6 = .ok (.getfield 45, 3) := by decide +kernel
theorem dX3_nextWaiting_9 : decode cX3_nextWaiting 9 = .ok (.if_icmp .ge 44, 3) := by decide +kernel
theorem dX3_nextWaiting_12 : decode cX3_nextWaiting 12 = .ok (.aload_n 0, 1) := by decide +kernel
theorem dX3_nextWaiting_13 : decode cX3_nextWaiting 13 = .ok (.iload_n 2, 1) := by decide +kernel
theorem dX3_nextWaiting_14 : decode cX3_nextWaiting 14 = .ok (.invokevirtual 49, 3) := by decide +kernel
theorem dX3_nextWaiting_17 : decode cX3_nextWaiting 17 = .ok (.astore_n 3, 1) := by decide +kernel
theorem dX3_nextWaiting_18 : decode cX3_nextWaiting 18 = .ok (.aload_n 3, 1) := by decide +kernel
theorem dX3_nextWaiting_19 : decode cX3_nextWaiting 19 = .ok (.ifnull 28, 3) := by decide +kernel
theorem dX3_nextWaiting_22 : decode cX3_nextWaiting 22 = .ok (.aload_n 3, 1) := by decide +kernel
theorem dX3_nextWaiting_23 : decode cX3_nextWaiting 23 = .ok (.getfield 148, 3) := by decide +kernel
theorem dX3_nextWaiting_26 : decode cX3_nextWaiting 26 = .ok (.ifCond .eq 21, 3) := by decide +kernel
theorem dX3_nextWaiting_29 : decode cX3_nextWaiting 29 = .ok (.aload_n 1, 1) := by decide +kernel
theorem dX3_nextWaiting_30 : decode cX3_nextWaiting 30 = .ok (.ifnull 15, 3) := by decide +kernel
theorem dX3_nextWaiting_33 : decode cX3_nextWaiting 33 = .ok (.aload_n 3, 1) := by decide +kernel
theorem dX3_nextWaiting_34 : decode cX3_nextWaiting 34 = .ok (.getfield 156, 3) := by decide +kernel
theorem dX3_nextWaiting_37 : decode cX3_nextWaiting 37 = .ok (.aload_n 1, 1) := by decide +kernel
theorem dX3_nextWaiting_38 : decode cX3_nextWaiting 38 = .ok (.getfield 156, 3) := by decide +kernel
theorem dX3_nextWaiting_41 : decode cX3_nextWaiting 41 = .ok (.lcmp, 1) := by decide +kernel
theorem dX3_nextWaiting_42 : decode cX3_nextWaiting 42 = .ok (.ifCond .ge 5, 3) := by decide +kernel
theorem dX3_nextWaiting_45 : decode cX3_nextWaiting 45 = .ok (.aload_n 3, 1) := by decide +kernel
theorem dX3_nextWaiting_46 : decode cX3_nextWaiting 46 = .ok (.astore_n 1, 1) := by decide +kernel
theorem dX3_nextWaiting_47 : decode cX3_nextWaiting 47 = .ok (.iinc 2 1, 3) := by decide +kernel
theorem dX3_nextWaiting_50 : decode cX3_nextWaiting 50 = .ok (.goto (-46), 3) := by decide +kernel
theorem dX3_nextWaiting_53 : decode cX3_nextWaiting 53 = .ok (.aload_n 1, 1) := by decide +kernel
theorem dX3_nextWaiting_54 : decode cX3_nextWaiting 54 = .ok (.areturn, 1) := by decide +kernel
theorem dX3_giveLots_0 : decode cX3_giveLots 0 = .ok (.iconst 1, 1) := by decide +kernel
theorem dX3_giveLots_1 : decode cX3_giveLots 1 = .ok (.aload_n 1, 1) := by decide +kernel
theorem dX3_giveLots_2 : decode cX3_giveLots 2 = .ok (.getfield 87, 3) := by decide +kernel
theorem dX3_giveLots_5 : decode cX3_giveLots 5 = .ok (.ishl, 1) := by decide +kernel
theorem dX3_giveLots_6 : decode cX3_giveLots 6 = .ok (.istore_n 3, 1) := by decide +kernel
theorem dX3_giveLots_7 : decode cX3_giveLots 7 = .ok (.aload_n 0, 1) := by decide +kernel
theorem dX3_giveLots_8 : decode cX3_giveLots 8 = .ok (.getfield 138, 3) := by decide +kernel
theorem dX3_giveLots_11 : decode cX3_giveLots 11 = .ok (.aload_n 1, 1) := by decide +kernel
theorem dX3_giveLots_12 : decode cX3_giveLots 12 = .ok (.getfield 81, 3) := by decide +kernel
theorem dX3_giveLots_15 : decode cX3_giveLots 15 = .ok (.isub, 1) := by decide +kernel
theorem dX3_giveLots_16 : decode cX3_giveLots 16 = .ok (.istore 4, 2) := by decide +kernel
theorem dX3_giveLots_18 : decode cX3_giveLots 18 = .ok (.aload_n 0, 1) := by decide +kernel
theorem dX3_giveLots_19 : decode cX3_giveLots 19 = .ok (.getfield 141, 3) := by decide +kernel
theorem dX3_giveLots_22 : decode cX3_giveLots 22 = .ok (.iload_n 3, 1) := by decide +kernel
theorem dX3_giveLots_23 : decode cX3_giveLots 23 = .ok (.iand, 1) := by decide +kernel
theorem dX3_giveLots_24 : decode cX3_giveLots 24 = .ok (.ifCond .ne 27, 3) := by decide +kernel
theorem dX3_giveLots_27 : decode cX3_giveLots 27 = .ok (.aload_n 1, 1) := by decide +kernel
theorem dX3_giveLots_28 : decode cX3_giveLots 28 = .ok (.getfield 87, 3) := by decide +kernel
theorem dX3_giveLots_31 : decode cX3_giveLots 31 = .ok (.invokestatic 159, 3) := by decide +kernel
theorem dX3_giveLots_34 : decode cX3_giveLots 34 = .ok (.ifCond .eq 17, 3) := by decide +kernel
theorem dX3_giveLots_37 : decode cX3_giveLots 37 = .ok (.iload 4, 2) := by decide +kernel
theorem dX3_giveLots_39 : decode cX3_giveLots 39 = .ok (.aload_n 0, 1) := by decide +kernel
theorem dX3_giveLots_40 : decode cX3_giveLots 40 = .ok (.getfield 23, 3) := by decide +kernel
theorem dX3_giveLots_43 : decode cX3_giveLots 43 = .ok (.aload_n 1, 1) := by decide +kernel
theorem dX3_giveLots_44 : decode cX3_giveLots 44 = .ok (.getfield 87, 3) := by decide +kernel
theorem dX3_giveLots_47 : decode cX3_giveLots 47 = .ok (.iaload, 1) := by decide +kernel
theorem dX3_giveLots_48 : decode cX3_giveLots 48 = .ok (.isub, 1) := by decide +kernel
theorem dX3_giveLots_49 : decode cX3_giveLots 49 = .ok (.istore 4, 2) := by decide +kernel
theorem dX3_giveLots_51 : decode cX3_giveLots 51 = .ok (.aload_n 1, 1) := by decide +kernel
theorem dX3_giveLots_52 : decode cX3_giveLots 52 = .ok (.getfield 84, 3) := by decide +kernel
theorem dX3_giveLots_55 : decode cX3_giveLots 55 = .ok (.iconst 1, 1) := by decide +kernel
theorem dX3_giveLots_56 : decode cX3_giveLots 56 = .ok (.if_icmp .lt 12, 3) := by decide +kernel
theorem dX3_giveLots_59 : decode cX3_giveLots 59 = .ok (.iload 4, 2) := by decide +kernel
theorem dX3_giveLots_61 : decode cX3_giveLots 61 = .ok (.aload_n 1, 1) := by decide +kernel
theorem dX3_giveLots_62 : decode cX3_giveLots 62 = .ok (.getfield 84, 3) := by decide +kernel
theorem dX3_giveLots_65 : decode cX3_giveLots 65 = .ok (.if_icmp .ge 4, 3) := by decide +kernel
theorem dX3_giveLots_68 : decode cX3_giveLots 68 = .ok (.return_, 1) := by decide +kernel
theorem dX3_giveLots_69 : decode cX3_giveLots 69 = .ok (.aload_n 1, 1) := by decide +kernel
theorem dX3_giveLots_70 : decode cX3_giveLots 70 = .ok (.iload_n 2, 1) := by decide +kernel
theorem dX3_giveLots_71 : decode cX3_giveLots 71 = .ok (.aload_n 0, 1) := by decide +kernel
theorem dX3_giveLots_72 : decode cX3_giveLots 72 = .ok (.iconst 3, 1) := by decide +kernel
theorem dX3_giveLots_73 : decode cX3_giveLots 73 = .ok (.invokevirtual 70, 3) := by decide +kernel
theorem dX3_giveLots_76 : decode cX3_giveLots 76 = .ok (.invokevirtual 163, 3) := by decide +kernel
theorem dX3_giveLots_79 : decode cX3_giveLots 79 = .ok (.lstore 5, 2) := by decide +kernel
theorem dX3_giveLots_81 : decode cX3_giveLots 81 = .ok (.lload 5, 2) := by decide +kernel
theorem dX3_giveLots_83 : decode cX3_giveLots 83 = .ok (.iload 4, 2) := by decide +kernel
theorem dX3_giveLots_85 : decode cX3_giveLots 85 = .ok (.aload_n 1, 1) := by decide +kernel
theorem dX3_giveLots_86 : decode cX3_giveLots 86 = .ok (.getfield 84, 3) := by decide +kernel
theorem dX3_giveLots_89 : decode cX3_giveLots 89 = .ok (.idiv, 1) := by decide +kernel
theorem dX3_giveLots_90 : decode cX3_giveLots 90 = .ok (.sipush 1000, 3) := by decide +kernel
theorem dX3_giveLots_93 : decode cX3_giveLots 93 = .ok (.invokestatic 167, 3) := by decide +kernel
theorem dX3_giveLots_96 : decode cX3_giveLots 96 = .ok (.i2l, 1) := by decide +kernel
theorem dX3_giveLots_97 : decode cX3_giveLots 97 = .ok (.invokestatic 170, 3) := by decide +kernel
theorem dX3_giveLots_100 : decode cX3_giveLots 100 = .ok (.l2i, 1) := by decide +kernel
theorem dX3_giveLots_101 : decode cX3_giveLots 101 = .ok (.istore 7, 2) := by decide +kernel
theorem dX3_giveLots_103 : decode cX3_giveLots 103 = .ok (.aload_n 1, 1) := by decide +kernel
theorem dX3_giveLots_104 : decode cX3_giveLots 104 = .ok (.iload_n 2, 1) := by decide +kernel
theorem dX3_giveLots_105 : decode cX3_giveLots 105 = .ok (.iload 7, 2) := by decide +kernel
theorem dX3_giveLots_107 : decode cX3_giveLots 107 = .ok (.invokevirtual 173, 3) := by decide +kernel
theorem dX3_giveLots_110 : decode cX3_giveLots 110 = .ok (.aload_n 0, 1) := by decide +kernel
theorem dX3_giveLots_111 : decode cX3_giveLots 111 = .ok (.iload 4, 2) := by decide +kernel
theorem dX3_giveLots_113 : decode cX3_giveLots 113 = .ok (.iload 7, 2) := by decide +kernel
theorem dX3_giveLots_115 : decode cX3_giveLots 115 = .ok (.aload_n 1, 1) := by decide +kernel
theorem dX3_giveLots_116 : decode cX3_giveLots 116 = .ok (.getfield 84, 3) := by decide +kernel
theorem dX3_giveLots_119 : decode cX3_giveLots 119 = .ok (.imul, 1) := by decide +kernel
theorem dX3_giveLots_120 : decode cX3_giveLots 120 = .ok (.isub, 1) := by decide +kernel
theorem dX3_giveLots_121 : decode cX3_giveLots 121 = .ok (.putfield 138, 3) := by decide +kernel
theorem dX3_giveLots_124 : decode cX3_giveLots 124 = .ok (.aload_n 0, 1) := by decide +kernel
theorem dX3_giveLots_125 : decode cX3_giveLots 125 = .ok (.dup, 1) := by decide +kernel
theorem dX3_giveLots_126 : decode cX3_giveLots 126 = .ok (.getfield 141, 3) := by decide +kernel
theorem dX3_giveLots_129 : decode cX3_giveLots 129 = .ok (.iload_n 3, 1) := by decide +kernel
theorem dX3_giveLots_130 : decode cX3_giveLots 130 = .ok (.ior, 1) := by decide +kernel
theorem dX3_giveLots_131 : decode cX3_giveLots 131 = .ok (.putfield 141, 3) := by decide +kernel
theorem dX3_giveLots_134 : decode cX3_giveLots 134 = .ok (.return_, 1) := by decide +kernel
theorem dX3_isShort_0 : decode cX3_isShort 0 = .ok (.iconst 0, 1) := by decide +kernel
theorem dX3_isShort_1 : decode cX3_isShort 1 = .ok (.istore_n 1, 1) := by decide +kernel
theorem dX3_isShort_2 : decode cX3_isShort 2 = .ok (.iload_n 1, 1) := by decide +kernel
theorem dX3_isShort_3 : decode cX3_isShort 3 = .ok (.aload_n 0, 1) := by decide +kernel
theorem dX3_isShort_4 : decode cX3_isShort 4 = .ok (.getfield 45, 3) := by decide +kernel
theorem dX3_isShort_7 : decode cX3_isShort 7 = .ok (.if_icmp .ge 30, 3) := by decide +kernel
theorem dX3_isShort_10 : decode cX3_isShort 10 = .ok (.aload_n 0, 1) := by decide +kernel
theorem dX3_isShort_11 : decode cX3_isShort 11 = .ok (.iload_n 1, 1) := by decide +kernel
theorem dX3_isShort_12 : decode cX3_isShort 12 = .ok (.invokevirtual 49, 3) := by decide +kernel
theorem dX3_isShort_15 : decode cX3_isShort 15 = .ok (.astore_n 2, 1) := by decide +kernel
theorem dX3_isShort_16 : decode cX3_isShort 16 = .ok (.aload_n 2, 1) := by decide +kernel
theorem dX3_isShort_17 : decode cX3_isShort 17 = .ok (.ifnull 14, 3) := by decide +kernel
theorem dX3_isShort_20 : decode cX3_isShort 20 = .ok (.aload_n 2, 1) := by decide +kernel
theorem dX3_isShort_21 : decode cX3_isShort 21 = .ok (.getfield 156, 3) := by decide +kernel
theorem dX3_isShort_24 : decode cX3_isShort 24 = .ok (.lconst 0, 1) := by decide +kernel
theorem dX3_isShort_25 : decode cX3_isShort 25 = .ok (.lcmp, 1) := by decide +kernel
theorem dX3_isShort_26 : decode cX3_isShort 26 = .ok (.ifCond .ge 5, 3) := by decide +kernel
theorem dX3_isShort_29 : decode cX3_isShort 29 = .ok (.iconst 1, 1) := by decide +kernel
theorem dX3_isShort_30 : decode cX3_isShort 30 = .ok (.ireturn, 1) := by decide +kernel
theorem dX3_isShort_31 : decode cX3_isShort 31 = .ok (.iinc 1 1, 3) := by decide +kernel
theorem dX3_isShort_34 : decode cX3_isShort 34 = .ok (.goto (-32), 3) := by decide +kernel
theorem dX3_isShort_37 : decode cX3_isShort 37 = .ok (.iconst 0, 1) := by decide +kernel
theorem dX3_isShort_38 : decode cX3_isShort 38 = .ok (.ireturn, 1) := by decide +kernel
theorem dX3_passWeek_0 : decode cX3_passWeek 0 = .ok (.aload_n 0, 1) := by decide +kernel
theorem dX3_passWeek_1 : decode cX3_passWeek 1 = .ok (.iconst 0, 1) := by decide +kernel
theorem dX3_passWeek_2 : decode cX3_passWeek 2 = .ok (.invokevirtual 176, 3) := by decide +kernel
theorem dX3_passWeek_5 : decode cX3_passWeek 5 = .ok (.istore_n 1, 1) := by decide +kernel
theorem dX3_passWeek_6 : decode cX3_passWeek 6 = .ok (.aload_n 0, 1) := by decide +kernel
theorem dX3_passWeek_7 : decode cX3_passWeek 7 = .ok (.iconst 0, 1) := by decide +kernel
theorem dX3_passWeek_8 : decode cX3_passWeek 8 = .ok (.invokevirtual 179, 3) := by decide +kernel
theorem dX3_passWeek_11 : decode cX3_passWeek 11 = .ok (.istore_n 2, 1) := by decide +kernel
theorem dX3_passWeek_12 : decode cX3_passWeek 12 = .ok (.iconst 0, 1) := by decide +kernel
theorem dX3_passWeek_13 : decode cX3_passWeek 13 = .ok (.istore_n 3, 1) := by decide +kernel
theorem dX3_passWeek_14 : decode cX3_passWeek 14 = .ok (.iload_n 3, 1) := by decide +kernel
theorem dX3_passWeek_15 : decode cX3_passWeek 15 = .ok (.aload_n 0, 1) := by decide +kernel
theorem dX3_passWeek_16 : decode cX3_passWeek 16 = .ok (.getfield 45, 3) := by decide +kernel
theorem dX3_passWeek_19 : decode cX3_passWeek 19 = .ok (.if_icmp .ge 26, 3) := by decide +kernel
theorem dX3_passWeek_22 : decode cX3_passWeek 22 = .ok (.aload_n 0, 1) := by decide +kernel
theorem dX3_passWeek_23 : decode cX3_passWeek 23 = .ok (.iload_n 3, 1) := by decide +kernel
theorem dX3_passWeek_24 : decode cX3_passWeek 24 = .ok (.invokevirtual 49, 3) := by decide +kernel
theorem dX3_passWeek_27 : decode cX3_passWeek 27 = .ok (.astore 4, 2) := by decide +kernel
theorem dX3_passWeek_29 : decode cX3_passWeek 29 = .ok (.aload 4, 2) := by decide +kernel
theorem dX3_passWeek_31 : decode cX3_passWeek 31 = .ok (.ifnull 8, 3) := by decide +kernel
theorem dX3_passWeek_34 : decode cX3_passWeek 34 = .ok (.aload 4, 2) := by decide +kernel
theorem dX3_passWeek_36 : decode cX3_passWeek 36 = .ok (.invokevirtual 182, 3) := by decide +kernel
theorem dX3_passWeek_39 : decode cX3_passWeek 39 = .ok (.iinc 3 1, 3) := by decide +kernel
theorem dX3_passWeek_42 : decode cX3_passWeek 42 = .ok (.goto (-28), 3) := by decide +kernel
theorem dX3_passWeek_45 : decode cX3_passWeek 45 = .ok (.aload_n 0, 1) := by decide +kernel
theorem dX3_passWeek_46 : decode cX3_passWeek 46 = .ok (.dup, 1) := by decide +kernel
theorem dX3_passWeek_47 : decode cX3_passWeek 47 = .ok (.getfield 60, 3) := by decide +kernel
theorem dX3_passWeek_50 : decode cX3_passWeek 50 = .ok (.iload_n 1, 1) := by decide +kernel
theorem dX3_passWeek_51 : decode cX3_passWeek 51 = .ok (.i2l, 1) := by decide +kernel
theorem dX3_passWeek_52 : decode cX3_passWeek 52 = .ok (.ladd, 1) := by decide +kernel
theorem dX3_passWeek_53 : decode cX3_passWeek 53 = .ok (.putfield 60, 3) := by decide +kernel
theorem dX3_passWeek_56 : decode cX3_passWeek 56 = .ok (.aload_n 0, 1) := by decide +kernel
theorem dX3_passWeek_57 : decode cX3_passWeek 57 = .ok (.dup, 1) := by decide +kernel
theorem dX3_passWeek_58 : decode cX3_passWeek 58 = .ok (.getfield 64, 3) := by decide +kernel
theorem dX3_passWeek_61 : decode cX3_passWeek 61 = .ok (.iload_n 2, 1) := by decide +kernel
theorem dX3_passWeek_62 : decode cX3_passWeek 62 = .ok (.i2l, 1) := by decide +kernel
theorem dX3_passWeek_63 : decode cX3_passWeek 63 = .ok (.ladd, 1) := by decide +kernel
theorem dX3_passWeek_64 : decode cX3_passWeek 64 = .ok (.putfield 64, 3) := by decide +kernel
theorem dX3_passWeek_67 : decode cX3_passWeek 67 = .ok (.aload_n 0, 1) := by decide +kernel
theorem dX3_passWeek_68 : decode cX3_passWeek 68 = .ok (.dup, 1) := by decide +kernel
theorem dX3_passWeek_69 : decode cX3_passWeek 69 = .ok (.getfield 67, 3) := by decide +kernel
theorem dX3_passWeek_72 : decode cX3_passWeek 72 = .ok (.iload_n 1, 1) := by decide +kernel
theorem dX3_passWeek_73 : decode cX3_passWeek 73 = .ok (.i2l, 1) := by decide +kernel
theorem dX3_passWeek_74 : decode cX3_passWeek 74 = .ok (.aload_n 0, 1) := by decide +kernel
theorem dX3_passWeek_75 : decode cX3_passWeek 75 = .ok (.iconst 5, 1) := by decide +kernel
theorem dX3_passWeek_76 : decode cX3_passWeek 76 = .ok (.invokevirtual 70, 3) := by decide +kernel
theorem dX3_passWeek_79 : decode cX3_passWeek 79 = .ok (.i2l, 1) := by decide +kernel
theorem dX3_passWeek_80 : decode cX3_passWeek 80 = .ok (.lmul, 1) := by decide +kernel
theorem dX3_passWeek_81 : decode cX3_passWeek 81 = .ok (.iload_n 2, 1) := by decide +kernel
theorem dX3_passWeek_82 : decode cX3_passWeek 82 = .ok (.i2l, 1) := by decide +kernel
theorem dX3_passWeek_83 : decode cX3_passWeek 83 = .ok (.aload_n 0, 1) := by decide +kernel
theorem dX3_passWeek_84 : decode cX3_passWeek 84 = .ok (.bipush 8, 2) := by decide +kernel
theorem dX3_passWeek_86 : decode cX3_passWeek 86 = .ok (.invokevirtual 70, 3) := by decide +kernel
theorem dX3_passWeek_89 : decode cX3_passWeek 89 = .ok (.i2l, 1) := by decide +kernel
theorem dX3_passWeek_90 : decode cX3_passWeek 90 = .ok (.lmul, 1) := by decide +kernel
theorem dX3_passWeek_91 : decode cX3_passWeek 91 = .ok (.ladd, 1) := by decide +kernel
theorem dX3_passWeek_92 : decode cX3_passWeek 92 = .ok (.aload_n 0, 1) := by decide +kernel
theorem dX3_passWeek_93 : decode cX3_passWeek 93 = .ok (.invokevirtual 185, 3) := by decide +kernel
theorem dX3_passWeek_96 : decode cX3_passWeek 96 = .ok (.aload_n 0, 1) := by decide +kernel
theorem dX3_passWeek_97 : decode cX3_passWeek 97 = .ok (.bipush 6, 2) := by decide +kernel
theorem dX3_passWeek_99 : decode cX3_passWeek 99 = .ok (.invokevirtual 70, 3) := by decide +kernel
theorem dX3_passWeek_102 : decode cX3_passWeek 102 = .ok (.i2l, 1) := by decide +kernel
theorem dX3_passWeek_103 : decode cX3_passWeek 103 = .ok (.lmul, 1) := by decide +kernel
theorem dX3_passWeek_104 : decode cX3_passWeek 104 = .ok (.ladd, 1) := by decide +kernel
theorem dX3_passWeek_105 : decode cX3_passWeek 105 = .ok (.aload_n 0, 1) := by decide +kernel
theorem dX3_passWeek_106 : decode cX3_passWeek 106 = .ok (.invokevirtual 189, 3) := by decide +kernel
theorem dX3_passWeek_109 : decode cX3_passWeek 109 = .ok (.aload_n 0, 1) := by decide +kernel
theorem dX3_passWeek_110 : decode cX3_passWeek 110 = .ok (.bipush 7, 2) := by decide +kernel
theorem dX3_passWeek_112 : decode cX3_passWeek 112 = .ok (.invokevirtual 70, 3) := by decide +kernel
theorem dX3_passWeek_115 : decode cX3_passWeek 115 = .ok (.i2l, 1) := by decide +kernel
theorem dX3_passWeek_116 : decode cX3_passWeek 116 = .ok (.lmul, 1) := by decide +kernel
theorem dX3_passWeek_117 : decode cX3_passWeek 117 = .ok (.ladd, 1) := by decide +kernel
theorem dX3_passWeek_118 : decode cX3_passWeek 118 = .ok (.ladd, 1) := by decide +kernel
theorem dX3_passWeek_119 : decode cX3_passWeek 119 = .ok (.putfield 67, 3) := by decide +kernel
theorem dX3_passWeek_122 : decode cX3_passWeek 122 = .ok (.aload_n 0, 1) := by decide +kernel
theorem dX3_passWeek_123 : decode cX3_passWeek 123 = .ok (.dup, 1) := by decide +kernel
theorem dX3_passWeek_124 : decode cX3_passWeek 124 = .ok (.getfield 57, 3) := by decide +kernel
theorem dX3_passWeek_127 : decode cX3_passWeek 127 = .ok (.iconst 1, 1) := by decide +kernel
theorem dX3_passWeek_128 : decode cX3_passWeek 128 = .ok (.iadd, 1) := by decide +kernel
theorem dX3_passWeek_129 : decode cX3_passWeek 129 = .ok (.putfield 57, 3) := by decide +kernel
theorem dX3_passWeek_132 : decode cX3_passWeek 132 = .ok (.return_, 1) := by decide +kernel
theorem dX4_init_0 : decode cX4_init 0 = .ok (.aload_n 0, 1) := by decide +kernel
theorem dX4_init_1 : decode cX4_init 1 = .ok (.invokespecial 1, 3) := by decide +kernel
theorem dX4_init_4 : decode cX4_init 4 = .ok (.aload_n 0, 1) := by decide +kernel
theorem dX4_init_5 : decode cX4_init 5 = .ok (.new 7, 3) := by decide +kernel
theorem dX4_init_8 : decode cX4_init 8 = .ok (.dup, 1) := by decide +kernel
theorem dX4_init_9 : decode cX4_init 9 = .ok (.invokespecial 9, 3) := by decide +kernel
theorem dX4_init_12 : decode cX4_init 12 = .ok (.putfield 10, 3) := by decide +kernel
theorem dX4_init_15 : decode cX4_init 15 = .ok (.aload_n 0, 1) := by decide +kernel
theorem dX4_init_16 : decode cX4_init 16 = .ok (.new 7, 3) := by decide +kernel
theorem dX4_init_19 : decode cX4_init 19 = .ok (.dup, 1) := by decide +kernel
theorem dX4_init_20 : decode cX4_init 20 = .ok (.invokespecial 9, 3) := by decide +kernel
theorem dX4_init_23 : decode cX4_init 23 = .ok (.putfield 16, 3) := by decide +kernel
theorem dX4_init_26 : decode cX4_init 26 = .ok (.aload_n 0, 1) := by decide +kernel
theorem dX4_init_27 : decode cX4_init 27 = .ok (.new 19, 3) := by decide +kernel
theorem dX4_init_30 : decode cX4_init 30 = .ok (.dup, 1) := by decide +kernel
theorem dX4_init_31 : decode cX4_init 31 = .ok (.invokespecial 21, 3) := by decide +kernel
theorem dX4_init_34 : decode cX4_init 34 = .ok (.putfield 22, 3) := by decide +kernel
theorem dX4_init_37 : decode cX4_init 37 = .ok (.aload_n 0, 1) := by decide +kernel
theorem dX4_init_38 : decode cX4_init 38 = .ok (.new 26, 3) := by decide +kernel
theorem dX4_init_41 : decode cX4_init 41 = .ok (.dup, 1) := by decide +kernel
theorem dX4_init_42 : decode cX4_init 42 = .ok (.invokespecial 28, 3) := by decide +kernel
theorem dX4_init_45 : decode cX4_init 45 = .ok (.putfield 29, 3) := by decide +kernel
theorem dX4_init_48 : decode cX4_init 48 = .ok (.aload_n 0, 1) := by decide +kernel
theorem dX4_init_49 : decode cX4_init 49 = .ok (.iconst 2, 1) := by decide +kernel
theorem dX4_init_50 : decode cX4_init 50 = .ok (.anewarray 7, 3) := by decide +kernel
theorem dX4_init_53 : decode cX4_init 53 = .ok (.putfield 33, 3) := by decide +kernel
theorem dX4_init_56 : decode cX4_init 56 = .ok (.aload_n 0, 1) := by decide +kernel
theorem dX4_init_57 : decode cX4_init 57 = .ok (.iconst 2, 1) := by decide +kernel
theorem dX4_init_58 : decode cX4_init 58 = .ok (.newarray .boolean, 2) := by decide +kernel
theorem dX4_init_60 : decode cX4_init 60 = .ok (.putfield 37, 3) := by decide +kernel
theorem dX4_init_63 : decode cX4_init 63 = .ok (.iconst 0, 1) := by decide +kernel
theorem dX4_init_64 : decode cX4_init 64 = .ok (.istore_n 1, 1) := by decide +kernel
theorem dX4_init_65 : decode cX4_init 65 = .ok (.iload_n 1, 1) := by decide +kernel
theorem dX4_init_66 : decode cX4_init 66 = .ok (.iconst 2, 1) := by decide +kernel
theorem dX4_init_67 : decode cX4_init 67 = .ok (.if_icmp .ge 22, 3) := by decide +kernel
theorem dX4_init_70 : decode cX4_init 70 = .ok (.aload_n 0, 1) := by decide +kernel
theorem dX4_init_71 : decode cX4_init 71 = .ok (.getfield 33, 3) := by decide +kernel
theorem dX4_init_74 : decode cX4_init 74 = .ok (.iload_n 1, 1) := by decide +kernel
theorem dX4_init_75 : decode cX4_init 75 = .ok (.new 7, 3) := by decide +kernel
theorem dX4_init_78 : decode cX4_init 78 = .ok (.dup, 1) := by decide +kernel
theorem dX4_init_79 : decode cX4_init 79 = .ok (.invokespecial 9, 3) := by decide +kernel
theorem dX4_init_82 : decode cX4_init 82 = .ok (.aastore, 1) := by decide +kernel
theorem dX4_init_83 : decode cX4_init 83 = .ok (.iinc 1 1, 3) := by decide +kernel
theorem dX4_init_86 : decode cX4_init 86 = .ok (.goto (-21), 3) := by decide +kernel
theorem dX4_init_89 : decode cX4_init 89 = .ok (.return_, 1) := by decide +kernel
theorem dX4_set_0 : decode cX4_set 0 = .ok (.iload_n 1, 1) := by decide +kernel
theorem dX4_set_1 : decode cX4_set 1 = .ok (.iconst 0, 1) := by decide +kernel
theorem dX4_set_2 : decode cX4_set 2 = .ok (.bipush 8, 2) := by decide +kernel
theorem dX4_set_4 : decode cX4_set 4 = .ok (.invokestatic 41, 3) := by decide +kernel
theorem dX4_set_7 : decode cX4_set 7 = .ok (.ifCond .ne 6, 3) := by decide +kernel
theorem dX4_set_10 : decode cX4_set 10 = .ok (.bipush (-2), 2) := by decide +kernel
theorem dX4_set_12 : decode cX4_set 12 = .ok (.ireturn, 1) := by decide +kernel
theorem dX4_set_13 : decode cX4_set 13 = .ok (.iload_n 2, 1) := by decide +kernel
theorem dX4_set_14 : decode cX4_set 14 = .ok (.getstatic 45, 3) := by decide +kernel
theorem dX4_set_17 : decode cX4_set 17 = .ok (.iload_n 1, 1) := by decide +kernel
theorem dX4_set_18 : decode cX4_set 18 = .ok (.iaload, 1) := by decide +kernel
theorem dX4_set_19 : decode cX4_set 19 = .ok (.getstatic 49, 3) := by decide +kernel
theorem dX4_set_22 : decode cX4_set 22 = .ok (.iload_n 1, 1) := by decide +kernel
theorem dX4_set_23 : decode cX4_set 23 = .ok (.iaload, 1) := by decide +kernel
theorem dX4_set_24 : decode cX4_set 24 = .ok (.invokestatic 41, 3) := by decide +kernel
theorem dX4_set_27 : decode cX4_set 27 = .ok (.ifCond .ne 6, 3) := by decide +kernel
theorem dX4_set_30 : decode cX4_set 30 = .ok (.bipush (-2), 2) := by decide +kernel
theorem dX4_set_32 : decode cX4_set 32 = .ok (.ireturn, 1) := by decide +kernel
theorem dX4_set_33 : decode cX4_set 33 = .ok (.aload_n 0, 1) := by decide +kernel
theorem dX4_set_34 : decode cX4_set 34 = .ok (.getfield 29, 3) := by decide +kernel
theorem dX4_set_37 : decode cX4_set 37 = .ok (.aload_n 0, 1) := by decide +kernel
theorem dX4_set_38 : decode cX4_set 38 = .ok (.getfield 10, 3) := by decide +kernel
theorem dX4_set_41 : decode cX4_set 41 = .ok (.invokevirtual 52, 3) := by decide +kernel
theorem dX4_set_44 : decode cX4_set 44 = .ok (.aload_n 0, 1) := by decide +kernel
theorem dX4_set_45 : decode cX4_set 45 = .ok (.getfield 10, 3) := by decide +kernel
theorem dX4_set_48 : decode cX4_set 48 = .ok (.iload_n 1, 1) := by decide +kernel
theorem dX4_set_49 : decode cX4_set 49 = .ok (.invokevirtual 56, 3) := by decide +kernel
theorem dX4_set_52 : decode cX4_set 52 = .ok (.istore_n 3, 1) := by decide +kernel
theorem dX4_set_53 : decode cX4_set 53 = .ok (.aload_n 0, 1) := by decide +kernel
theorem dX4_set_54 : decode cX4_set 54 = .ok (.getfield 10, 3) := by decide +kernel
theorem dX4_set_57 : decode cX4_set 57 = .ok (.iload_n 1, 1) := by decide +kernel
theorem dX4_set_58 : decode cX4_set 58 = .ok (.iload_n 2, 1) := by decide +kernel
theorem dX4_set_59 : decode cX4_set 59 = .ok (.invokevirtual 60, 3) := by decide +kernel
theorem dX4_set_62 : decode cX4_set 62 = .ok (.iload_n 3, 1) := by decide +kernel
theorem dX4_set_63 : decode cX4_set 63 = .ok (.ireturn, 1) := by decide +kernel
theorem dX4_product_0 : decode cX4_product 0 = .ok (.iload_n 1, 1) := by decide +kernel
theorem dX4_product_1 : decode cX4_product 1 = .ok (.invokestatic 64, 3) := by decide +kernel
theorem dX4_product_4 : decode cX4_product 4 = .ok (.ifCond .eq 46, 3) := by decide +kernel
theorem dX4_product_7 : decode cX4_product 7 = .ok (.iload_n 2, 1) := by decide +kernel
theorem dX4_product_8 : decode cX4_product 8 = .ok (.iconst 1, 1) := by decide +kernel
theorem dX4_product_9 : decode cX4_product 9 = .ok (.bipush 100, 2) := by decide +kernel
theorem dX4_product_11 : decode cX4_product 11 = .ok (.invokestatic 41, 3) := by decide +kernel
theorem dX4_product_14 : decode cX4_product 14 = .ok (.ifCond .eq 36, 3) := by decide +kernel
theorem dX4_product_17 : decode cX4_product 17 = .ok (.iload_n 3, 1) := by decide +kernel
theorem dX4_product_18 : decode cX4_product 18 = .ok (.iconst 1, 1) := by decide +kernel
theorem dX4_product_19 : decode cX4_product 19 = .ok (.bipush 50, 2) := by decide +kernel
theorem dX4_product_21 : decode cX4_product 21 = .ok (.invokestatic 41, 3) := by decide +kernel
theorem dX4_product_24 : decode cX4_product 24 = .ok (.ifCond .eq 26, 3) := by decide +kernel
theorem dX4_product_27 : decode cX4_product 27 = .ok (.iload 4, 2) := by decide +kernel
theorem dX4_product_29 : decode cX4_product 29 = .ok (.iconst 0, 1) := by decide +kernel
theorem dX4_product_30 : decode cX4_product 30 = .ok (.bipush 20, 2) := by decide +kernel
theorem dX4_product_32 : decode cX4_product 32 = .ok (.invokestatic 41, 3) := by decide +kernel
theorem dX4_product_35 : decode cX4_product 35 = .ok (.ifCond .eq 15, 3) := by decide +kernel
theorem dX4_product_38 : decode cX4_product 38 = .ok (.iload 5, 2) := by decide +kernel
theorem dX4_product_40 : decode cX4_product 40 = .ok (.iconst 0, 1) := by decide +kernel
theorem dX4_product_41 : decode cX4_product 41 = .ok (.sipush 10000, 3) := by decide +kernel
theorem dX4_product_44 : decode cX4_product 44 = .ok (.invokestatic 41, 3) := by decide +kernel
theorem dX4_product_47 : decode cX4_product 47 = .ok (.ifCond .ne 6, 3) := by decide +kernel
theorem dX4_product_50 : decode cX4_product 50 = .ok (.bipush (-2), 2) := by decide +kernel
theorem dX4_product_52 : decode cX4_product 52 = .ok (.ireturn, 1) := by decide +kernel
theorem dX4_product_53 : decode cX4_product 53 = .ok (.aload_n 0, 1) := by decide +kernel
theorem dX4_product_54 : decode cX4_product 54 = .ok (.getfield 10, 3) := by decide +kernel
theorem dX4_product_57 : decode cX4_product 57 = .ok (.invokevirtual 68, 3) := by decide +kernel
theorem dX4_product_60 : decode cX4_product 60 = .ok (.astore 6, 2) := by decide +kernel
theorem dX4_product_62 : decode cX4_product 62 = .ok (.aload 6, 2) := by decide +kernel
theorem dX4_product_64 : decode cX4_product 64 = .ok (.ifnonnull 6, 3) := by decide +kernel
theorem dX4_product_67 : decode cX4_product 67 = .ok (.bipush (-4), 2) := by decide +kernel
theorem dX4_product_69 : decode cX4_product 69 = .ok (.ireturn, 1) := by decide +kernel
theorem dX4_product_70 : decode cX4_product 70 = .ok (.aload_n 0, 1) := by decide +kernel
theorem dX4_product_71 : decode cX4_product 71 = .ok (.getfield 29, 3) := by decide +kernel
theorem dX4_product_74 : decode cX4_product 74 = .ok (.aload_n 0, 1) := by decide +kernel
theorem dX4_product_75 : decode cX4_product 75 = .ok (.getfield 10, 3) := by decide +kernel
theorem dX4_product_78 : decode cX4_product 78 = .ok (.invokevirtual 52, 3) := by decide +kernel
theorem dX4_product_81 : decode cX4_product 81 = .ok (.aload 6, 2) := by decide +kernel
theorem dX4_product_83 : decode cX4_product 83 = .ok (.iload_n 1, 1) := by decide +kernel
theorem dX4_product_84 : decode cX4_product 84 = .ok (.iload_n 2, 1) := by decide +kernel
theorem dX4_product_85 : decode cX4_product 85 = .ok (.iload_n 3, 1) := by decide +kernel
theorem dX4_product_86 : decode cX4_product 86 = .ok (.iload 4, 2) := by decide +kernel
theorem dX4_product_88 : decode cX4_product 88 = .ok (.iload 5, 2) := by decide +kernel
theorem dX4_product_90 : decode cX4_product 90 = .ok (.invokevirtual 72, 3) := by decide +kernel
theorem dX4_product_93 : decode cX4_product 93 = .ok (.aload_n 0, 1) := by decide +kernel
theorem dX4_product_94 : decode cX4_product 94 = .ok (.getfield 10, 3) := by decide +kernel
theorem dX4_product_97 : decode cX4_product 97 = .ok (.getfield 78, 3) := by decide +kernel
theorem dX4_product_100 : decode cX4_product 100 = .ok (.istore 7, 2) := by decide +kernel
theorem dX4_product_102 : decode cX4_product 102 = .ok (.aload_n 0, 1) := by decide +kernel
theorem dX4_product_103 : decode cX4_product 103 = .ok (.getfield 10, 3) := by decide +kernel
theorem dX4_product_106 : decode cX4_product 106 = .ok (.iload 7, 2) := by decide +kernel
theorem dX4_product_108 : decode cX4_product 108 = .ok (.iconst 1, 1) := by decide +kernel
theorem dX4_product_109 : decode cX4_product 109 = .ok (.iadd, 1) := by decide +kernel
theorem dX4_product_110 : decode cX4_product 110 = .ok (.putfield 78, 3) := by decide +kernel
theorem dX4_product_113 : decode cX4_product 113 = .ok (.iload 7, 2) := by decide +kernel
theorem dX4_product_115 : decode cX4_product 115 = .ok (.ireturn, 1) := by decide +kernel
theorem dX4_family_0 : decode cX4_family 0 = .ok (.iload_n 1, 1) := by decide +kernel
theorem dX4_family_1 : decode cX4_family 1 = .ok (.invokestatic 64, 3) := by decide +kernel
theorem dX4_family_4 : decode cX4_family 4 = .ok (.ifCond .ne 5, 3) := by decide +kernel
theorem dX4_family_7 : decode cX4_family 7 = .ok (.iconst (-1), 1) := by decide +kernel
theorem dX4_family_8 : decode cX4_family 8 = .ok (.ireturn, 1) := by decide +kernel
theorem dX4_family_9 : decode cX4_family 9 = .ok (.iload_n 2, 1) := by decide +kernel
theorem dX4_family_10 : decode cX4_family 10 = .ok (.iconst 0, 1) := by decide +kernel
theorem dX4_family_11 : decode cX4_family 11 = .ok (.bipush 50, 2) := by decide +kernel
theorem dX4_family_13 : decode cX4_family 13 = .ok (.invokestatic 41, 3) := by decide +kernel
theorem dX4_family_16 : decode cX4_family 16 = .ok (.ifCond .ne 6, 3) := by decide +kernel
theorem dX4_family_19 : decode cX4_family 19 = .ok (.bipush (-2), 2) := by decide +kernel
theorem dX4_family_21 : decode cX4_family 21 = .ok (.ireturn, 1) := by decide +kernel
theorem dX4_family_22 : decode cX4_family 22 = .ok (.aload_n 0, 1) := by decide +kernel
theorem dX4_family_23 : decode cX4_family 23 = .ok (.getfield 29, 3) := by decide +kernel
theorem dX4_family_26 : decode cX4_family 26 = .ok (.aload_n 0, 1) := by decide +kernel
theorem dX4_family_27 : decode cX4_family 27 = .ok (.getfield 10, 3) := by decide +kernel
theorem dX4_family_30 : decode cX4_family 30 = .ok (.invokevirtual 52, 3) := by decide +kernel
theorem dX4_family_33 : decode cX4_family 33 = .ok (.aload_n 0, 1) := by decide +kernel
theorem dX4_family_34 : decode cX4_family 34 = .ok (.getfield 10, 3) := by decide +kernel
theorem dX4_family_37 : decode cX4_family 37 = .ok (.getfield 82, 3) := by decide +kernel
theorem dX4_family_40 : decode cX4_family 40 = .ok (.iload_n 1, 1) := by decide +kernel
theorem dX4_family_41 : decode cX4_family 41 = .ok (.iaload, 1) := by decide +kernel
theorem dX4_family_42 : decode cX4_family 42 = .ok (.istore_n 3, 1) := by decide +kernel
theorem dX4_family_43 : decode cX4_family 43 = .ok (.aload_n 0, 1) := by decide +kernel
theorem dX4_family_44 : decode cX4_family 44 = .ok (.getfield 10, 3) := by decide +kernel
theorem dX4_family_47 : decode cX4_family 47 = .ok (.getfield 82, 3) := by decide +kernel
theorem dX4_family_50 : decode cX4_family 50 = .ok (.iload_n 1, 1) := by decide +kernel
theorem dX4_family_51 : decode cX4_family 51 = .ok (.iload_n 2, 1) := by decide +kernel
theorem dX4_family_52 : decode cX4_family 52 = .ok (.iastore, 1) := by decide +kernel
theorem dX4_family_53 : decode cX4_family 53 = .ok (.iload_n 3, 1) := by decide +kernel
theorem dX4_family_54 : decode cX4_family 54 = .ok (.ireturn, 1) := by decide +kernel
theorem dX4_forecast_0 : decode cX4_forecast 0 = .ok (.aload_n 0, 1) := by decide +kernel
theorem dX4_forecast_1 : decode cX4_forecast 1 = .ok (.getfield 10, 3) := by decide +kernel
theorem dX4_forecast_4 : decode cX4_forecast 4 = .ok (.iload_n 1, 1) := by decide +kernel
theorem dX4_forecast_5 : decode cX4_forecast 5 = .ok (.invokevirtual 85, 3) := by decide +kernel
theorem dX4_forecast_8 : decode cX4_forecast 8 = .ok (.astore 4, 2) := by decide +kernel
theorem dX4_forecast_10 : decode cX4_forecast 10 = .ok (.aload 4, 2) := by decide +kernel
theorem dX4_forecast_12 : decode cX4_forecast 12 = .ok (.ifnull 10, 3) := by decide +kernel
theorem dX4_forecast_15 : decode cX4_forecast 15 = .ok (.iload_n 2, 1) := by decide +kernel
theorem dX4_forecast_16 : decode cX4_forecast 16 = .ok (.invokestatic 89, 3) := by decide +kernel
theorem dX4_forecast_19 : decode cX4_forecast 19 = .ok (.ifCond .ne 5, 3) := by decide +kernel
theorem dX4_forecast_22 : decode cX4_forecast 22 = .ok (.iconst (-1), 1) := by decide +kernel
theorem dX4_forecast_23 : decode cX4_forecast 23 = .ok (.ireturn, 1) := by decide +kernel
theorem dX4_forecast_24 : decode cX4_forecast 24 = .ok (.iload_n 3, 1) := by decide +kernel
theorem dX4_forecast_25 : decode cX4_forecast 25 = .ok (.iconst 0, 1) := by decide +kernel
theorem dX4_forecast_26 : decode cX4_forecast 26 = .ok (.sipush 1000, 3) := by decide +kernel
theorem dX4_forecast_29 : decode cX4_forecast 29 = .ok (.invokestatic 41, 3) := by decide +kernel
theorem dX4_forecast_32 : decode cX4_forecast 32 = .ok (.ifCond .ne 6, 3) := by decide +kernel
theorem dX4_forecast_35 : decode cX4_forecast 35 = .ok (.bipush (-2), 2) := by decide +kernel
theorem dX4_forecast_37 : decode cX4_forecast 37 = .ok (.ireturn, 1) := by decide +kernel
theorem dX4_forecast_38 : decode cX4_forecast 38 = .ok (.aload_n 0, 1) := by decide +kernel
theorem dX4_forecast_39 : decode cX4_forecast 39 = .ok (.getfield 29, 3) := by decide +kernel
theorem dX4_forecast_42 : decode cX4_forecast 42 = .ok (.aload_n 0, 1) := by decide +kernel
theorem dX4_forecast_43 : decode cX4_forecast 43 = .ok (.getfield 10, 3) := by decide +kernel
theorem dX4_forecast_46 : decode cX4_forecast 46 = .ok (.invokevirtual 52, 3) := by decide +kernel
theorem dX4_forecast_49 : decode cX4_forecast 49 = .ok (.aload 4, 2) := by decide +kernel
theorem dX4_forecast_51 : decode cX4_forecast 51 = .ok (.getfield 92, 3) := by decide +kernel
theorem dX4_forecast_54 : decode cX4_forecast 54 = .ok (.iload_n 2, 1) := by decide +kernel
theorem dX4_forecast_55 : decode cX4_forecast 55 = .ok (.iaload, 1) := by decide +kernel
theorem dX4_forecast_56 : decode cX4_forecast 56 = .ok (.istore 5, 2) := by decide +kernel
theorem dX4_forecast_58 : decode cX4_forecast 58 = .ok (.aload 4, 2) := by decide +kernel
theorem dX4_forecast_60 : decode cX4_forecast 60 = .ok (.getfield 92, 3) := by decide +kernel
theorem dX4_forecast_63 : decode cX4_forecast 63 = .ok (.iload_n 2, 1) := by decide +kernel
theorem dX4_forecast_64 : decode cX4_forecast 64 = .ok (.iload_n 3, 1) := by decide +kernel
theorem dX4_forecast_65 : decode cX4_forecast 65 = .ok (.iastore, 1) := by decide +kernel
theorem dX4_forecast_66 : decode cX4_forecast 66 = .ok (.iload 5, 2) := by decide +kernel
theorem dX4_forecast_68 : decode cX4_forecast 68 = .ok (.ireturn, 1) := by decide +kernel
theorem dX4_actual_0 : decode cX4_actual 0 = .ok (.aload_n 0, 1) := by decide +kernel
theorem dX4_actual_1 : decode cX4_actual 1 = .ok (.getfield 10, 3) := by decide +kernel
theorem dX4_actual_4 : decode cX4_actual 4 = .ok (.iload_n 1, 1) := by decide +kernel
theorem dX4_actual_5 : decode cX4_actual 5 = .ok (.invokevirtual 85, 3) := by decide +kernel
theorem dX4_actual_8 : decode cX4_actual 8 = .ok (.astore_n 3, 1) := by decide +kernel
theorem dX4_actual_9 : decode cX4_actual 9 = .ok (.aload_n 3, 1) := by decide +kernel
theorem dX4_actual_10 : decode cX4_actual 10 = .ok (.ifnonnull 5, 3) := by decide +kernel
theorem dX4_actual_13 : decode cX4_actual 13 = .ok (.iconst (-1), 1) := by decide +kernel
theorem dX4_actual_14 : decode cX4_actual 14 = .ok (.ireturn, 1) := by decide +kernel
theorem dX4_actual_15 : decode cX4_actual 15 = .ok (.iload_n 2, 1) := by decide +kernel
theorem dX4_actual_16 : decode cX4_actual 16 = .ok (.bipush (-6), 2) := by decide +kernel
theorem dX4_actual_18 : decode cX4_actual 18 = .ok (.if_icmp .eq 17, 3) := by decide +kernel
theorem dX4_actual_21 : decode cX4_actual 21 = .ok (.iload_n 2, 1) := by decide +kernel
theorem dX4_actual_22 : decode cX4_actual 22 = .ok (.iconst 0, 1) := by decide +kernel
theorem dX4_actual_23 : decode cX4_actual 23 = .ok (.sipush 2000, 3) := by decide +kernel
theorem dX4_actual_26 : decode cX4_actual 26 = .ok (.invokestatic 41, 3) := by decide +kernel
theorem dX4_actual_29 : decode cX4_actual 29 = .ok (.ifCond .ne 6, 3) := by decide +kernel
theorem dX4_actual_32 : decode cX4_actual 32 = .ok (.bipush (-2), 2) := by decide +kernel
theorem dX4_actual_34 : decode cX4_actual 34 = .ok (.ireturn, 1) := by decide +kernel
theorem dX4_actual_35 : decode cX4_actual 35 = .ok (.aload_n 0, 1) := by decide +kernel
theorem dX4_actual_36 : decode cX4_actual 36 = .ok (.getfield 29, 3) := by decide +kernel
theorem dX4_actual_39 : decode cX4_actual 39 = .ok (.aload_n 0, 1) := by decide +kernel
theorem dX4_actual_40 : decode cX4_actual 40 = .ok (.getfield 10, 3) := by decide +kernel
theorem dX4_actual_43 : decode cX4_actual 43 = .ok (.invokevirtual 52, 3) := by decide +kernel
theorem dX4_actual_46 : decode cX4_actual 46 = .ok (.aload_n 3, 1) := by decide +kernel
theorem dX4_actual_47 : decode cX4_actual 47 = .ok (.getfield 95, 3) := by decide +kernel
theorem dX4_actual_50 : decode cX4_actual 50 = .ok (.istore 4, 2) := by decide +kernel
theorem dX4_actual_52 : decode cX4_actual 52 = .ok (.aload_n 3, 1) := by decide +kernel
theorem dX4_actual_53 : decode cX4_actual 53 = .ok (.iload_n 2, 1) := by decide +kernel
theorem dX4_actual_54 : decode cX4_actual 54 = .ok (.putfield 95, 3) := by decide +kernel
theorem dX4_actual_57 : decode cX4_actual 57 = .ok (.iload 4, 2) := by decide +kernel
theorem dX4_actual_59 : decode cX4_actual 59 = .ok (.ireturn, 1) := by decide +kernel
theorem dX4_lots_0 : decode cX4_lots 0 = .ok (.aload_n 0, 1) := by decide +kernel
theorem dX4_lots_1 : decode cX4_lots 1 = .ok (.getfield 10, 3) := by decide +kernel
theorem dX4_lots_4 : decode cX4_lots 4 = .ok (.iload_n 1, 1) := by decide +kernel
theorem dX4_lots_5 : decode cX4_lots 5 = .ok (.invokevirtual 85, 3) := by decide +kernel
theorem dX4_lots_8 : decode cX4_lots 8 = .ok (.astore 4, 2) := by decide +kernel
theorem dX4_lots_10 : decode cX4_lots 10 = .ok (.aload 4, 2) := by decide +kernel
theorem dX4_lots_12 : decode cX4_lots 12 = .ok (.ifnull 10, 3) := by decide +kernel
theorem dX4_lots_15 : decode cX4_lots 15 = .ok (.iload_n 2, 1) := by decide +kernel
theorem dX4_lots_16 : decode cX4_lots 16 = .ok (.invokestatic 89, 3) := by decide +kernel
theorem dX4_lots_19 : decode cX4_lots 19 = .ok (.ifCond .ne 5, 3) := by decide +kernel
theorem dX4_lots_22 : decode cX4_lots 22 = .ok (.iconst (-1), 1) := by decide +kernel
theorem dX4_lots_23 : decode cX4_lots 23 = .ok (.ireturn, 1) := by decide +kernel
theorem dX4_lots_24 : decode cX4_lots 24 = .ok (.iload_n 3, 1) := by decide +kernel
theorem dX4_lots_25 : decode cX4_lots 25 = .ok (.iconst 0, 1) := by decide +kernel
theorem dX4_lots_26 : decode cX4_lots 26 = .ok (.sipush 1000, 3) := by decide +kernel
theorem dX4_lots_29 : decode cX4_lots 29 = .ok (.invokestatic 41, 3) := by decide +kernel
theorem dX4_lots_32 : decode cX4_lots 32 = .ok (.ifCond .ne 6, 3) := by decide +kernel
theorem dX4_lots_35 : decode cX4_lots 35 = .ok (.bipush (-2), 2) := by decide +kernel
theorem dX4_lots_37 : decode cX4_lots 37 = .ok (.ireturn, 1) := by decide +kernel
theorem dX4_lots_38 : decode cX4_lots 38 = .ok (.aload_n 0, 1) := by decide +kernel
theorem dX4_lots_39 : decode cX4_lots 39 = .ok (.getfield 10, 3) := by decide +kernel
theorem dX4_lots_42 : decode cX4_lots 42 = .ok (.iload_n 2, 1) := by decide +kernel
theorem dX4_lots_43 : decode cX4_lots 43 = .ok (.aload 4, 2) := by decide +kernel
theorem dX4_lots_45 : decode cX4_lots 45 = .ok (.iload_n 3, 1) := by decide +kernel
theorem dX4_lots_46 : decode cX4_lots 46 = .ok (.invokevirtual 98, 3) := by decide +kernel
theorem dX4_lots_49 : decode cX4_lots 49 = .ok (.istore 5, 2) := by decide +kernel
theorem dX4_lots_51 : decode cX4_lots 51 = .ok (.aload_n 0, 1) := by decide +kernel
theorem dX4_lots_52 : decode cX4_lots 52 = .ok (.getfield 10, 3) := by decide +kernel
theorem dX4_lots_55 : decode cX4_lots 55 = .ok (.iload_n 2, 1) := by decide +kernel
theorem dX4_lots_56 : decode cX4_lots 56 = .ok (.invokevirtual 102, 3) := by decide +kernel
theorem dX4_lots_59 : decode cX4_lots 59 = .ok (.ifCond .ne 28, 3) := by decide +kernel
theorem dX4_lots_62 : decode cX4_lots 62 = .ok (.iload 5, 2) := by decide +kernel
theorem dX4_lots_64 : decode cX4_lots 64 = .ok (.aload_n 0, 1) := by decide +kernel
theorem dX4_lots_65 : decode cX4_lots 65 = .ok (.getfield 10, 3) := by decide +kernel
theorem dX4_lots_68 : decode cX4_lots 68 = .ok (.invokevirtual 105, 3) := by decide +kernel
theorem dX4_lots_71 : decode cX4_lots 71 = .ok (.if_icmp .le 19, 3) := by decide +kernel
theorem dX4_lots_74 : decode cX4_lots 74 = .ok (.iload 5, 2) := by decide +kernel
theorem dX4_lots_76 : decode cX4_lots 76 = .ok (.aload_n 0, 1) := by decide +kernel
theorem dX4_lots_77 : decode cX4_lots 77 = .ok (.getfield 10, 3) := by decide +kernel
theorem dX4_lots_80 : decode cX4_lots 80 = .ok (.iload_n 2, 1) := by decide +kernel
theorem dX4_lots_81 : decode cX4_lots 81 = .ok (.invokevirtual 109, 3) := by decide +kernel
theorem dX4_lots_84 : decode cX4_lots 84 = .ok (.if_icmp .le 6, 3) := by decide +kernel
theorem dX4_lots_87 : decode cX4_lots 87 = .ok (.bipush (-5), 2) := by decide +kernel
theorem dX4_lots_89 : decode cX4_lots 89 = .ok (.ireturn, 1) := by decide +kernel
theorem dX4_lots_90 : decode cX4_lots 90 = .ok (.aload_n 0, 1) := by decide +kernel
theorem dX4_lots_91 : decode cX4_lots 91 = .ok (.getfield 29, 3) := by decide +kernel
theorem dX4_lots_94 : decode cX4_lots 94 = .ok (.aload_n 0, 1) := by decide +kernel
theorem dX4_lots_95 : decode cX4_lots 95 = .ok (.getfield 10, 3) := by decide +kernel
theorem dX4_lots_98 : decode cX4_lots 98 = .ok (.invokevirtual 52, 3) := by decide +kernel
theorem dX4_lots_101 : decode cX4_lots 101 = .ok (.aload 4, 2) := by decide +kernel
theorem dX4_lots_103 : decode cX4_lots 103 = .ok (.getfield 112, 3) := by decide +kernel
theorem dX4_lots_106 : decode cX4_lots 106 = .ok (.iload_n 2, 1) := by decide +kernel
theorem dX4_lots_107 : decode cX4_lots 107 = .ok (.iaload, 1) := by decide +kernel
theorem dX4_lots_108 : decode cX4_lots 108 = .ok (.istore 6, 2) := by decide +kernel
theorem dX4_lots_110 : decode cX4_lots 110 = .ok (.aload 4, 2) := by decide +kernel
theorem dX4_lots_112 : decode cX4_lots 112 = .ok (.getfield 112, 3) := by decide +kernel
theorem dX4_lots_115 : decode cX4_lots 115 = .ok (.iload_n 2, 1) := by decide +kernel
theorem dX4_lots_116 : decode cX4_lots 116 = .ok (.iload_n 3, 1) := by decide +kernel
theorem dX4_lots_117 : decode cX4_lots 117 = .ok (.iastore, 1) := by decide +kernel
theorem dX4_lots_118 : decode cX4_lots 118 = .ok (.iload 6, 2) := by decide +kernel
theorem dX4_lots_120 : decode cX4_lots 120 = .ok (.ireturn, 1) := by decide +kernel
theorem dX4_plan_0 : decode cX4_plan 0 = .ok (.aload_n 0, 1) := by decide +kernel
theorem dX4_plan_1 : decode cX4_plan 1 = .ok (.getfield 29, 3) := by decide +kernel
theorem dX4_plan_4 : decode cX4_plan 4 = .ok (.aload_n 0, 1) := by decide +kernel
theorem dX4_plan_5 : decode cX4_plan 5 = .ok (.getfield 10, 3) := by decide +kernel
theorem dX4_plan_8 : decode cX4_plan 8 = .ok (.invokevirtual 52, 3) := by decide +kernel
theorem dX4_plan_11 : decode cX4_plan 11 = .ok (.aload_n 0, 1) := by decide +kernel
theorem dX4_plan_12 : decode cX4_plan 12 = .ok (.getfield 10, 3) := by decide +kernel
theorem dX4_plan_15 : decode cX4_plan 15 = .ok (.invokevirtual 115, 3) := by decide +kernel
theorem dX4_plan_18 : decode cX4_plan 18 = .ok (.aload_n 0, 1) := by decide +kernel
theorem dX4_plan_19 : decode cX4_plan 19 = .ok (.getfield 10, 3) := by decide +kernel
theorem dX4_plan_22 : decode cX4_plan 22 = .ok (.invokevirtual 118, 3) := by decide +kernel
theorem dX4_plan_25 : decode cX4_plan 25 = .ok (.ireturn, 1) := by decide +kernel
theorem dX4_weeks_0 : decode cX4_weeks 0 = .ok (.iload_n 1, 1) := by decide +kernel
theorem dX4_weeks_1 : decode cX4_weeks 1 = .ok (.iconst 1, 1) := by decide +kernel
theorem dX4_weeks_2 : decode cX4_weeks 2 = .ok (.bipush 30, 2) := by decide +kernel
theorem dX4_weeks_4 : decode cX4_weeks 4 = .ok (.invokestatic 41, 3) := by decide +kernel
theorem dX4_weeks_7 : decode cX4_weeks 7 = .ok (.ifCond .ne 6, 3) := by decide +kernel
theorem dX4_weeks_10 : decode cX4_weeks 10 = .ok (.bipush (-2), 2) := by decide +kernel
theorem dX4_weeks_12 : decode cX4_weeks 12 = .ok (.ireturn, 1) := by decide +kernel
theorem dX4_weeks_13 : decode cX4_weeks 13 = .ok (.aload_n 0, 1) := by decide +kernel
theorem dX4_weeks_14 : decode cX4_weeks 14 = .ok (.getfield 29, 3) := by decide +kernel
theorem dX4_weeks_17 : decode cX4_weeks 17 = .ok (.aload_n 0, 1) := by decide +kernel
theorem dX4_weeks_18 : decode cX4_weeks 18 = .ok (.getfield 10, 3) := by decide +kernel
theorem dX4_weeks_21 : decode cX4_weeks 21 = .ok (.invokevirtual 52, 3) := by decide +kernel
theorem dX4_weeks_24 : decode cX4_weeks 24 = .ok (.iconst 0, 1) := by decide +kernel
theorem dX4_weeks_25 : decode cX4_weeks 25 = .ok (.istore_n 2, 1) := by decide +kernel
theorem dX4_weeks_26 : decode cX4_weeks 26 = .ok (.iload_n 2, 1) := by decide +kernel
theorem dX4_weeks_27 : decode cX4_weeks 27 = .ok (.iload_n 1, 1) := by decide +kernel
theorem dX4_weeks_28 : decode cX4_weeks 28 = .ok (.if_icmp .ge 23, 3) := by decide +kernel
theorem dX4_weeks_31 : decode cX4_weeks 31 = .ok (.aload_n 0, 1) := by decide +kernel
theorem dX4_weeks_32 : decode cX4_weeks 32 = .ok (.getfield 10, 3) := by decide +kernel
theorem dX4_weeks_35 : decode cX4_weeks 35 = .ok (.invokevirtual 121, 3) := by decide +kernel
theorem dX4_weeks_38 : decode cX4_weeks 38 = .ok (.aload_n 0, 1) := by decide +kernel
theorem dX4_weeks_39 : decode cX4_weeks 39 = .ok (.getfield 10, 3) := by decide +kernel
theorem dX4_weeks_42 : decode cX4_weeks 42 = .ok (.invokevirtual 115, 3) := by decide +kernel
theorem dX4_weeks_45 : decode cX4_weeks 45 = .ok (.iinc 2 1, 3) := by decide +kernel
theorem dX4_weeks_48 : decode cX4_weeks 48 = .ok (.goto (-22), 3) := by decide +kernel
theorem dX4_weeks_51 : decode cX4_weeks 51 = .ok (.aload_n 0, 1) := by decide +kernel
theorem dX4_weeks_52 : decode cX4_weeks 52 = .ok (.getfield 10, 3) := by decide +kernel
theorem dX4_weeks_55 : decode cX4_weeks 55 = .ok (.getfield 124, 3) := by decide +kernel
theorem dX4_weeks_58 : decode cX4_weeks 58 = .ok (.ireturn, 1) := by decide +kernel
theorem dX4_ofProduct_0 : decode cX4_ofProduct 0 = .ok (.aload_n 0, 1) := by decide +kernel
theorem dX4_ofProduct_1 : decode cX4_ofProduct 1 = .ok (.getfield 10, 3) := by decide +kernel
theorem dX4_ofProduct_4 : decode cX4_ofProduct 4 = .ok (.iload_n 1, 1) := by decide +kernel
theorem dX4_ofProduct_5 : decode cX4_ofProduct 5 = .ok (.invokevirtual 85, 3) := by decide +kernel
theorem dX4_ofProduct_8 : decode cX4_ofProduct 8 = .ok (.astore_n 3, 1) := by decide +kernel
theorem dX4_ofProduct_9 : decode cX4_ofProduct 9 = .ok (.aload_n 3, 1) := by decide +kernel
theorem dX4_ofProduct_10 : decode cX4_ofProduct 10 = .ok (.ifnonnull 5, 3) := by decide +kernel
theorem dX4_ofProduct_13 : decode cX4_ofProduct 13 = .ok (.iconst (-1), 1) := by decide +kernel
theorem dX4_ofProduct_14 : decode cX4_ofProduct 14 = .ok (.ireturn, 1) := by decide +kernel
theorem dX4_ofProduct_15 : decode cX4_ofProduct 15 = .ok (.iload_n 2, 1) := by decide +kernel
theorem dX4_ofProduct_16 : decode cX4_ofProduct 16 = .ok (.tableswitch 141 0 12 #[68, 73, 78, 83, 88, 93, 98, 103, 116, 121, 126, 131, 136], 68) := by decide +kernel
theorem dX4_ofProduct_84 : decode cX4_ofProduct 84 = .ok (.aload_n 3, 1) := by decide +kernel
theorem dX4_ofProduct_85 : decode cX4_ofProduct 85 = .ok (.getfield 127, 3) := by decide +kernel
theorem dX4_ofProduct_88 : decode cX4_ofProduct 88 = .ok (.ireturn, 1) := by decide +kernel
theorem dX4_ofProduct_89 : decode cX4_ofProduct 89 = .ok (.aload_n 3, 1) := by decide +kernel
theorem dX4_ofProduct_90 : decode cX4_ofProduct 90 = .ok (.getfield 130, 3) := by decide +kernel
theorem dX4_ofProduct_93 : decode cX4_ofProduct 93 = .ok (.ireturn, 1) := by decide +kernel
theorem dX4_ofProduct_94 : decode cX4_ofProduct 94 = .ok (.aload_n 3, 1) := by decide +kernel
theorem dX4_ofProduct_95 : decode cX4_ofProduct 95 = .ok (.getfield 133, 3) := by decide +kernel
theorem dX4_ofProduct_98 : decode cX4_ofProduct 98 = .ok (.ireturn, 1) := by decide +kernel
theorem dX4_ofProduct_99 : decode cX4_ofProduct 99 = .ok (.aload_n 3, 1) := by decide +kernel
theorem dX4_ofProduct_100 : decode cX4_ofProduct 100 = .ok (.getfield 136, 3) := by decide +kernel
theorem dX4_ofProduct_103 : decode cX4_ofProduct 103 = .ok (.ireturn, 1) := by decide +kernel
theorem dX4_ofProduct_104 : decode cX4_ofProduct 104 = .ok (.aload_n 3, 1) := by decide +kernel
theorem dX4_ofProduct_105 : decode cX4_ofProduct 105 = .ok (.getfield 139, 3) := by decide +kernel
theorem dX4_ofProduct_108 : decode cX4_ofProduct 108 = .ok (.ireturn, 1) := by decide +kernel
theorem dX4_ofProduct_109 : decode cX4_ofProduct 109 = .ok (.aload_n 3, 1) := by decide +kernel
theorem dX4_ofProduct_110 : decode cX4_ofProduct 110 = .ok (.getfield 142, 3) := by decide +kernel
theorem dX4_ofProduct_113 : decode cX4_ofProduct 113 = .ok (.ireturn, 1) := by decide +kernel
theorem dX4_ofProduct_114 : decode cX4_ofProduct 114 = .ok (.aload_n 3, 1) := by decide +kernel
theorem dX4_ofProduct_115 : decode cX4_ofProduct 115 = .ok (.getfield 145, 3) := by decide +kernel
theorem dX4_ofProduct_118 : decode cX4_ofProduct 118 = .ok (.ireturn, 1) := by decide +kernel
theorem dX4_ofProduct_119 : decode cX4_ofProduct 119 = .ok (.aload_n 3, 1) := by decide +kernel
theorem dX4_ofProduct_120 : decode cX4_ofProduct 120 = .ok (.aload_n 0, 1) := by decide +kernel
theorem dX4_ofProduct_121 : decode cX4_ofProduct 121 = .ok (.getfield 10, 3) := by decide +kernel
theorem dX4_ofProduct_124 : decode cX4_ofProduct 124 = .ok (.iconst 4, 1) := by decide +kernel
theorem dX4_ofProduct_125 : decode cX4_ofProduct 125 = .ok (.invokevirtual 56, 3) := by decide +kernel
theorem dX4_ofProduct_128 : decode cX4_ofProduct 128 = .ok (.invokevirtual 148, 3) := by decide +kernel
theorem dX4_ofProduct_131 : decode cX4_ofProduct 131 = .ok (.ireturn, 1) := by decide +kernel
theorem dX4_ofProduct_132 : decode cX4_ofProduct 132 = .ok (.aload_n 3, 1) := by decide +kernel
theorem dX4_ofProduct_133 : decode cX4_ofProduct 133 = .ok (.getfield 95, 3) := by decide +kernel
theorem dX4_ofProduct_136 : decode cX4_ofProduct 136 = .ok (.ireturn, 1) := by decide +kernel
theorem dX4_ofProduct_137 : decode cX4_ofProduct 137 = .ok (.aload_n 3, 1) := by decide +kernel
theorem dX4_ofProduct_138 : decode cX4_ofProduct 138 = .ok (.getfield 151, 3) := by decide +kernel
theorem dX4_ofProduct_141 : decode cX4_ofProduct 141 = .ok (.ireturn, 1) := by decide +kernel
theorem dX4_ofProduct_142 : decode cX4_ofProduct 142 = .ok (.aload_n 3, 1) := by decide +kernel
theorem dX4_ofProduct_143 : decode cX4_ofProduct 143 = .ok (.getfield 154, 3) := by decide +kernel
theorem dX4_ofProduct_146 : decode cX4_ofProduct 146 = .ok (.ireturn, 1) := by decide +kernel
theorem dX4_ofProduct_147 : decode cX4_ofProduct 147 = .ok (.aload_n 3, 1) := by decide +kernel
theorem dX4_ofProduct_148 : decode cX4_ofProduct 148 = .ok (.getfield 157, 3) := by decide +kernel
theorem dX4_ofProduct_151 : decode cX4_ofProduct 151 = .ok (.ireturn, 1) := by decide +kernel
theorem dX4_ofProduct_152 : decode cX4_ofProduct 152 = .ok (.aload_n 3, 1) := by decide +kernel
theorem dX4_ofProduct_153 : decode cX4_ofProduct 153 = .ok (.getfield 160, 3) := by decide +kernel
theorem dX4_ofProduct_156 : decode cX4_ofProduct 156 = .ok (.ireturn, 1) := by decide +kernel
theorem dX4_ofProduct_157 : decode cX4_ofProduct 157 = .ok (.bipush (-2), 2) := by decide +kernel
theorem dX4_ofProduct_159 : decode cX4_ofProduct 159 = .ok (.ireturn, 1) := by decide +kernel
theorem dX4_at_0 : decode cX4_at 0 = .ok (.aload_n 0, 1) := by decide +kernel
theorem dX4_at_1 : decode cX4_at 1 = .ok (.getfield 10, 3) := by decide +kernel
theorem dX4_at_4 : decode cX4_at 4 = .ok (.iload_n 1, 1) := by decide +kernel
theorem dX4_at_5 : decode cX4_at 5 = .ok (.invokevirtual 85, 3) := by decide +kernel
theorem dX4_at_8 : decode cX4_at 8 = .ok (.astore 4, 2) := by decide +kernel
theorem dX4_at_10 : decode cX4_at 10 = .ok (.aload 4, 2) := by decide +kernel
theorem dX4_at_12 : decode cX4_at 12 = .ok (.ifnull 10, 3) := by decide +kernel
theorem dX4_at_15 : decode cX4_at 15 = .ok (.iload_n 2, 1) := by decide +kernel
theorem dX4_at_16 : decode cX4_at 16 = .ok (.invokestatic 89, 3) := by decide +kernel
theorem dX4_at_19 : decode cX4_at 19 = .ok (.ifCond .ne 5, 3) := by decide +kernel
theorem dX4_at_22 : decode cX4_at 22 = .ok (.iconst (-1), 1) := by decide +kernel
theorem dX4_at_23 : decode cX4_at 23 = .ok (.ireturn, 1) := by decide +kernel
theorem dX4_at_24 : decode cX4_at 24 = .ok (.iload_n 3, 1) := by decide +kernel
theorem dX4_at_25 : decode cX4_at 25 = .ok (.ifCond .ne 11, 3) := by decide +kernel
theorem dX4_at_28 : decode cX4_at 28 = .ok (.aload 4, 2) := by decide +kernel
theorem dX4_at_30 : decode cX4_at 30 = .ok (.getfield 92, 3) := by decide +kernel
theorem dX4_at_33 : decode cX4_at 33 = .ok (.iload_n 2, 1) := by decide +kernel
theorem dX4_at_34 : decode cX4_at 34 = .ok (.iaload, 1) := by decide +kernel
theorem dX4_at_35 : decode cX4_at 35 = .ok (.ireturn, 1) := by decide +kernel
theorem dX4_at_36 : decode cX4_at 36 = .ok (.iload_n 3, 1) := by decide +kernel
theorem dX4_at_37 : decode cX4_at 37 = .ok (.iconst 1, 1) := by decide +kernel
theorem dX4_at_38 : decode cX4_at 38 = .ok (.if_icmp .ne 13, 3) := by decide +kernel
theorem dX4_at_41 : decode cX4_at 41 = .ok (.aload 4, 2) := by decide +kernel
theorem dX4_at_43 : decode cX4_at 43 = .ok (.getfield 112, 3) := by decide +kernel
theorem dX4_at_46 : decode cX4_at 46 = .ok (.iload_n 2, 1) := by decide +kernel
theorem dX4_at_47 : decode cX4_at 47 = .ok (.iaload, 1) := by decide +kernel
theorem dX4_at_48 : decode cX4_at 48 = .ok (.goto 5, 3) := by decide +kernel
theorem dX4_at_51 : decode cX4_at 51 = .ok (.bipush (-2), 2) := by decide +kernel
theorem dX4_at_53 : decode cX4_at 53 = .ok (.ireturn, 1) := by decide +kernel
theorem dX4_projection_0 : decode cX4_projection 0 = .ok (.aload_n 0, 1) := by decide +kernel
theorem dX4_projection_1 : decode cX4_projection 1 = .ok (.getfield 10, 3) := by decide +kernel
theorem dX4_projection_4 : decode cX4_projection 4 = .ok (.iload_n 1, 1) := by decide +kernel
theorem dX4_projection_5 : decode cX4_projection 5 = .ok (.invokevirtual 85, 3) := by decide +kernel
theorem dX4_projection_8 : decode cX4_projection 8 = .ok (.astore_n 3, 1) := by decide +kernel
theorem dX4_projection_9 : decode cX4_projection 9 = .ok (.aload_n 3, 1) := by decide +kernel
theorem dX4_projection_10 : decode cX4_projection 10 = .ok (.ifnull 10, 3) := by decide +kernel
theorem dX4_projection_13 : decode cX4_projection 13 = .ok (.iload_n 2, 1) := by decide +kernel
theorem dX4_projection_14 : decode cX4_projection 14 = .ok (.invokestatic 89, 3) := by decide +kernel
theorem dX4_projection_17 : decode cX4_projection 17 = .ok (.ifCond .ne 7, 3) := by decide +kernel
theorem dX4_projection_20 : decode cX4_projection 20 = .ok (.ldc2_w 163, 3) := by decide +kernel
theorem dX4_projection_23 : decode cX4_projection 23 = .ok (.lreturn, 1) := by decide +kernel
theorem dX4_projection_24 : decode cX4_projection 24 = .ok (.aload_n 3, 1) := by decide +kernel
theorem dX4_projection_25 : decode cX4_projection 25 = .ok (.iload_n 2, 1) := by decide +kernel
theorem dX4_projection_26 : decode cX4_projection 26 = .ok (.invokevirtual 165, 3) := by decide +kernel
theorem dX4_projection_29 : decode cX4_projection 29 = .ok (.lreturn, 1) := by decide +kernel
theorem dX4_ofWeek_0 : decode cX4_ofWeek 0 = .ok (.iload_n 1, 1) := by decide +kernel
theorem dX4_ofWeek_1 : decode cX4_ofWeek 1 = .ok (.invokestatic 89, 3) := by decide +kernel
theorem dX4_ofWeek_4 : decode cX4_ofWeek 4 = .ok (.ifCond .ne 5, 3) := by decide +kernel
theorem dX4_ofWeek_7 : decode cX4_ofWeek 7 = .ok (.iconst (-1), 1) := by decide +kernel
theorem dX4_ofWeek_8 : decode cX4_ofWeek 8 = .ok (.ireturn, 1) := by decide +kernel
theorem dX4_ofWeek_9 : decode cX4_ofWeek 9 = .ok (.iload_n 2, 1) := by decide +kernel
theorem dX4_ofWeek_10 : decode cX4_ofWeek 10 = .ok (.tableswitch 87 0 4 #[34, 43, 52, 61, 70], 34) := by decide +kernel
theorem dX4_ofWeek_44 : decode cX4_ofWeek 44 = .ok (.aload_n 0, 1) := by decide +kernel
theorem dX4_ofWeek_45 : decode cX4_ofWeek 45 = .ok (.getfield 10, 3) := by decide +kernel
theorem dX4_ofWeek_48 : decode cX4_ofWeek 48 = .ok (.iload_n 1, 1) := by decide +kernel
theorem dX4_ofWeek_49 : decode cX4_ofWeek 49 = .ok (.invokevirtual 109, 3) := by decide +kernel
theorem dX4_ofWeek_52 : decode cX4_ofWeek 52 = .ok (.ireturn, 1) := by decide +kernel
theorem dX4_ofWeek_53 : decode cX4_ofWeek 53 = .ok (.aload_n 0, 1) := by decide +kernel
theorem dX4_ofWeek_54 : decode cX4_ofWeek 54 = .ok (.getfield 10, 3) := by decide +kernel
theorem dX4_ofWeek_57 : decode cX4_ofWeek 57 = .ok (.iload_n 1, 1) := by decide +kernel
theorem dX4_ofWeek_58 : decode cX4_ofWeek 58 = .ok (.invokevirtual 169, 3) := by decide +kernel
theorem dX4_ofWeek_61 : decode cX4_ofWeek 61 = .ok (.ireturn, 1) := by decide +kernel
theorem dX4_ofWeek_62 : decode cX4_ofWeek 62 = .ok (.aload_n 0, 1) := by decide +kernel
theorem dX4_ofWeek_63 : decode cX4_ofWeek 63 = .ok (.getfield 10, 3) := by decide +kernel
theorem dX4_ofWeek_66 : decode cX4_ofWeek 66 = .ok (.iload_n 1, 1) := by decide +kernel
theorem dX4_ofWeek_67 : decode cX4_ofWeek 67 = .ok (.invokevirtual 172, 3) := by decide +kernel
theorem dX4_ofWeek_70 : decode cX4_ofWeek 70 = .ok (.ireturn, 1) := by decide +kernel
theorem dX4_ofWeek_71 : decode cX4_ofWeek 71 = .ok (.aload_n 0, 1) := by decide +kernel
theorem dX4_ofWeek_72 : decode cX4_ofWeek 72 = .ok (.getfield 10, 3) := by decide +kernel
theorem dX4_ofWeek_75 : decode cX4_ofWeek 75 = .ok (.iload_n 1, 1) := by decide +kernel
theorem dX4_ofWeek_76 : decode cX4_ofWeek 76 = .ok (.invokevirtual 175, 3) := by decide +kernel
theorem dX4_ofWeek_79 : decode cX4_ofWeek 79 = .ok (.ireturn, 1) := by decide +kernel
theorem dX4_ofWeek_80 : decode cX4_ofWeek 80 = .ok (.aload_n 0, 1) := by decide +kernel
theorem dX4_ofWeek_81 : decode cX4_ofWeek 81 = .ok (.getfield 10, 3) := by decide +kernel
theorem dX4_ofWeek_84 : decode cX4_ofWeek 84 = .ok (.iload_n 1, 1) := by decide +kernel
theorem dX4_ofWeek_85 : decode cX4_ofWeek 85 = .ok (.invokevirtual 102, 3) := by decide +kernel
theorem dX4_ofWeek_88 : decode cX4_ofWeek 88 = .ok (.ifCond .eq 7, 3) := by decide +kernel
theorem dX4_ofWeek_91 : decode cX4_ofWeek 91 = .ok (.iconst 1, 1) := by decide +kernel
theorem dX4_ofWeek_92 : decode cX4_ofWeek 92 = .ok (.goto 4, 3) := by decide +kernel
theorem dX4_ofWeek_95 : decode cX4_ofWeek 95 = .ok (.iconst 0, 1) := by decide +kernel
theorem dX4_ofWeek_96 : decode cX4_ofWeek 96 = .ok (.ireturn, 1) := by decide +kernel
theorem dX4_ofWeek_97 : decode cX4_ofWeek 97 = .ok (.bipush (-2), 2) := by decide +kernel
theorem dX4_ofWeek_99 : decode cX4_ofWeek 99 = .ok (.ireturn, 1) := by decide +kernel
theorem dX4_count_0 : decode cX4_count 0 = .ok (.iload_n 1, 1) := by decide +kernel
theorem dX4_count_1 : decode cX4_count 1 = .ok (.tableswitch 140 0 9 #[55, 64, 73, 81, 89, 97, 106, 114, 122, 131], 55) := by decide +kernel
theorem dX4_count_56 : decode cX4_count 56 = .ok (.aload_n 0, 1) := by decide +kernel
theorem dX4_count_57 : decode cX4_count 57 = .ok (.getfield 10, 3) := by decide +kernel
theorem dX4_count_60 : decode cX4_count 60 = .ok (.getfield 124, 3) := by decide +kernel
theorem dX4_count_63 : decode cX4_count 63 = .ok (.i2l, 1) := by decide +kernel
theorem dX4_count_64 : decode cX4_count 64 = .ok (.lreturn, 1) := by decide +kernel
theorem dX4_count_65 : decode cX4_count 65 = .ok (.aload_n 0, 1) := by decide +kernel
theorem dX4_count_66 : decode cX4_count 66 = .ok (.getfield 10, 3) := by decide +kernel
theorem dX4_count_69 : decode cX4_count 69 = .ok (.getfield 78, 3) := by decide +kernel
theorem dX4_count_72 : decode cX4_count 72 = .ok (.i2l, 1) := by decide +kernel
theorem dX4_count_73 : decode cX4_count 73 = .ok (.lreturn, 1) := by decide +kernel
theorem dX4_count_74 : decode cX4_count 74 = .ok (.aload_n 0, 1) := by decide +kernel
theorem dX4_count_75 : decode cX4_count 75 = .ok (.getfield 10, 3) := by decide +kernel
theorem dX4_count_78 : decode cX4_count 78 = .ok (.getfield 178, 3) := by decide +kernel
theorem dX4_count_81 : decode cX4_count 81 = .ok (.lreturn, 1) := by decide +kernel
theorem dX4_count_82 : decode cX4_count 82 = .ok (.aload_n 0, 1) := by decide +kernel
theorem dX4_count_83 : decode cX4_count 83 = .ok (.getfield 10, 3) := by decide +kernel
theorem dX4_count_86 : decode cX4_count 86 = .ok (.getfield 182, 3) := by decide +kernel
theorem dX4_count_89 : decode cX4_count 89 = .ok (.lreturn, 1) := by decide +kernel
theorem dX4_count_90 : decode cX4_count 90 = .ok (.aload_n 0, 1) := by decide +kernel
theorem dX4_count_91 : decode cX4_count 91 = .ok (.getfield 10, 3) := by decide +kernel
theorem dX4_count_94 : decode cX4_count 94 = .ok (.getfield 185, 3) := by decide +kernel
theorem dX4_count_97 : decode cX4_count 97 = .ok (.lreturn, 1) := by decide +kernel
theorem dX4_count_98 : decode cX4_count 98 = .ok (.aload_n 0, 1) := by decide +kernel
theorem dX4_count_99 : decode cX4_count 99 = .ok (.getfield 10, 3) := by decide +kernel
theorem dX4_count_102 : decode cX4_count 102 = .ok (.invokevirtual 118, 3) := by decide +kernel
theorem dX4_count_105 : decode cX4_count 105 = .ok (.i2l, 1) := by decide +kernel
theorem dX4_count_106 : decode cX4_count 106 = .ok (.lreturn, 1) := by decide +kernel
theorem dX4_count_107 : decode cX4_count 107 = .ok (.aload_n 0, 1) := by decide +kernel
theorem dX4_count_108 : decode cX4_count 108 = .ok (.getfield 10, 3) := by decide +kernel
theorem dX4_count_111 : decode cX4_count 111 = .ok (.invokevirtual 188, 3) := by decide +kernel
theorem dX4_count_114 : decode cX4_count 114 = .ok (.lreturn, 1) := by decide +kernel
theorem dX4_count_115 : decode cX4_count 115 = .ok (.aload_n 0, 1) := by decide +kernel
theorem dX4_count_116 : decode cX4_count 116 = .ok (.getfield 10, 3) := by decide +kernel
theorem dX4_count_119 : decode cX4_count 119 = .ok (.invokevirtual 192, 3) := by decide +kernel
theorem dX4_count_122 : decode cX4_count 122 = .ok (.lreturn, 1) := by decide +kernel
theorem dX4_count_123 : decode cX4_count 123 = .ok (.aload_n 0, 1) := by decide +kernel
theorem dX4_count_124 : decode cX4_count 124 = .ok (.getfield 22, 3) := by decide +kernel
theorem dX4_count_127 : decode cX4_count 127 = .ok (.getfield 195, 3) := by decide +kernel
theorem dX4_count_130 : decode cX4_count 130 = .ok (.i2l, 1) := by decide +kernel
theorem dX4_count_131 : decode cX4_count 131 = .ok (.lreturn, 1) := by decide +kernel
theorem dX4_count_132 : decode cX4_count 132 = .ok (.aload_n 0, 1) := by decide +kernel
theorem dX4_count_133 : decode cX4_count 133 = .ok (.getfield 29, 3) := by decide +kernel
theorem dX4_count_136 : decode cX4_count 136 = .ok (.getfield 198, 3) := by decide +kernel
theorem dX4_count_139 : decode cX4_count 139 = .ok (.i2l, 1) := by decide +kernel
theorem dX4_count_140 : decode cX4_count 140 = .ok (.lreturn, 1) := by decide +kernel
theorem dX4_count_141 : decode cX4_count 141 = .ok (.iload_n 1, 1) := by decide +kernel
theorem dX4_count_142 : decode cX4_count 142 = .ok (.bipush 10, 2) := by decide +kernel
theorem dX4_count_144 : decode cX4_count 144 = .ok (.isub, 1) := by decide +kernel
theorem dX4_count_145 : decode cX4_count 145 = .ok (.istore_n 2, 1) := by decide +kernel
theorem dX4_count_146 : decode cX4_count 146 = .ok (.iload_n 2, 1) := by decide +kernel
theorem dX4_count_147 : decode cX4_count 147 = .ok (.iconst 0, 1) := by decide +kernel
theorem dX4_count_148 : decode cX4_count 148 = .ok (.bipush 8, 2) := by decide +kernel
theorem dX4_count_150 : decode cX4_count 150 = .ok (.invokestatic 41, 3) := by decide +kernel
theorem dX4_count_153 : decode cX4_count 153 = .ok (.ifCond .eq 13, 3) := by decide +kernel
theorem dX4_count_156 : decode cX4_count 156 = .ok (.aload_n 0, 1) := by decide +kernel
theorem dX4_count_157 : decode cX4_count 157 = .ok (.getfield 10, 3) := by decide +kernel
theorem dX4_count_160 : decode cX4_count 160 = .ok (.iload_n 2, 1) := by decide +kernel
theorem dX4_count_161 : decode cX4_count 161 = .ok (.invokevirtual 56, 3) := by decide +kernel
theorem dX4_count_164 : decode cX4_count 164 = .ok (.i2l, 1) := by decide +kernel
theorem dX4_count_165 : decode cX4_count 165 = .ok (.lreturn, 1) := by decide +kernel
theorem dX4_count_166 : decode cX4_count 166 = .ok (.iload_n 2, 1) := by decide +kernel
theorem dX4_count_167 : decode cX4_count 167 = .ok (.bipush 9, 2) := by decide +kernel
theorem dX4_count_169 : decode cX4_count 169 = .ok (.isub, 1) := by decide +kernel
theorem dX4_count_170 : decode cX4_count 170 = .ok (.istore_n 3, 1) := by decide +kernel
theorem dX4_count_171 : decode cX4_count 171 = .ok (.iload_n 3, 1) := by decide +kernel
theorem dX4_count_172 : decode cX4_count 172 = .ok (.invokestatic 64, 3) := by decide +kernel
theorem dX4_count_175 : decode cX4_count 175 = .ok (.ifCond .eq 16, 3) := by decide +kernel
theorem dX4_count_178 : decode cX4_count 178 = .ok (.aload_n 0, 1) := by decide +kernel
theorem dX4_count_179 : decode cX4_count 179 = .ok (.getfield 10, 3) := by decide +kernel
theorem dX4_count_182 : decode cX4_count 182 = .ok (.getfield 82, 3) := by decide +kernel
theorem dX4_count_185 : decode cX4_count 185 = .ok (.iload_n 3, 1) := by decide +kernel
theorem dX4_count_186 : decode cX4_count 186 = .ok (.iaload, 1) := by decide +kernel
theorem dX4_count_187 : decode cX4_count 187 = .ok (.i2l, 1) := by decide +kernel
theorem dX4_count_188 : decode cX4_count 188 = .ok (.goto 6, 3) := by decide +kernel
theorem dX4_count_191 : decode cX4_count 191 = .ok (.ldc2_w 201, 3) := by decide +kernel
theorem dX4_count_194 : decode cX4_count 194 = .ok (.lreturn, 1) := by decide +kernel
theorem dX4_firstShort_0 : decode cX4_firstShort 0 = .ok (.aload_n 0, 1) := by decide +kernel
theorem dX4_firstShort_1 : decode cX4_firstShort 1 = .ok (.getfield 10, 3) := by decide +kernel
theorem dX4_firstShort_4 : decode cX4_firstShort 4 = .ok (.iload_n 1, 1) := by decide +kernel
theorem dX4_firstShort_5 : decode cX4_firstShort 5 = .ok (.invokevirtual 85, 3) := by decide +kernel
theorem dX4_firstShort_8 : decode cX4_firstShort 8 = .ok (.astore_n 2, 1) := by decide +kernel
theorem dX4_firstShort_9 : decode cX4_firstShort 9 = .ok (.aload_n 2, 1) := by decide +kernel
theorem dX4_firstShort_10 : decode cX4_firstShort 10 = .ok (.ifnonnull 5, 3) := by decide +kernel
theorem dX4_firstShort_13 : decode cX4_firstShort 13 = .ok (.iconst (-1), 1) := by decide +kernel
theorem dX4_firstShort_14 : decode cX4_firstShort 14 = .ok (.ireturn, 1) := by decide +kernel
theorem dX4_firstShort_15 : decode cX4_firstShort 15 = .ok (.iconst 0, 1) := by decide +kernel
theorem dX4_firstShort_16 : decode cX4_firstShort 16 = .ok (.istore_n 3, 1) := by decide +kernel
theorem dX4_firstShort_17 : decode cX4_firstShort 17 = .ok (.iload_n 3, 1) := by decide +kernel
theorem dX4_firstShort_18 : decode cX4_firstShort 18 = .ok (.bipush 12, 2) := by decide +kernel
theorem dX4_firstShort_20 : decode cX4_firstShort 20 = .ok (.if_icmp .ge 21, 3) := by decide +kernel
theorem dX4_firstShort_23 : decode cX4_firstShort 23 = .ok (.aload_n 2, 1) := by decide +kernel
theorem dX4_firstShort_24 : decode cX4_firstShort 24 = .ok (.iload_n 3, 1) := by decide +kernel
theorem dX4_firstShort_25 : decode cX4_firstShort 25 = .ok (.invokevirtual 165, 3) := by decide +kernel
theorem dX4_firstShort_28 : decode cX4_firstShort 28 = .ok (.lconst 0, 1) := by decide +kernel
theorem dX4_firstShort_29 : decode cX4_firstShort 29 = .ok (.lcmp, 1) := by decide +kernel
theorem dX4_firstShort_30 : decode cX4_firstShort 30 = .ok (.ifCond .ge 5, 3) := by decide +kernel
theorem dX4_firstShort_33 : decode cX4_firstShort 33 = .ok (.iload_n 3, 1) := by decide +kernel
theorem dX4_firstShort_34 : decode cX4_firstShort 34 = .ok (.ireturn, 1) := by decide +kernel
theorem dX4_firstShort_35 : decode cX4_firstShort 35 = .ok (.iinc 3 1, 3) := by decide +kernel
theorem dX4_firstShort_38 : decode cX4_firstShort 38 = .ok (.goto (-21), 3) := by decide +kernel
theorem dX4_firstShort_41 : decode cX4_firstShort 41 = .ok (.bipush (-6), 2) := by decide +kernel
theorem dX4_firstShort_43 : decode cX4_firstShort 43 = .ok (.ireturn, 1) := by decide +kernel
theorem dX4_lasts_0 : decode cX4_lasts 0 = .ok (.aload_n 0, 1) := by decide +kernel
theorem dX4_lasts_1 : decode cX4_lasts 1 = .ok (.getfield 10, 3) := by decide +kernel
theorem dX4_lasts_4 : decode cX4_lasts 4 = .ok (.iload_n 1, 1) := by decide +kernel
theorem dX4_lasts_5 : decode cX4_lasts 5 = .ok (.invokevirtual 85, 3) := by decide +kernel
theorem dX4_lasts_8 : decode cX4_lasts 8 = .ok (.astore_n 2, 1) := by decide +kernel
theorem dX4_lasts_9 : decode cX4_lasts 9 = .ok (.aload_n 2, 1) := by decide +kernel
theorem dX4_lasts_10 : decode cX4_lasts 10 = .ok (.ifnonnull 5, 3) := by decide +kernel
theorem dX4_lasts_13 : decode cX4_lasts 13 = .ok (.iconst (-1), 1) := by decide +kernel
theorem dX4_lasts_14 : decode cX4_lasts 14 = .ok (.ireturn, 1) := by decide +kernel
theorem dX4_lasts_15 : decode cX4_lasts 15 = .ok (.aload_n 2, 1) := by decide +kernel
theorem dX4_lasts_16 : decode cX4_lasts 16 = .ok (.getfield 139, 3) := by decide +kernel
theorem dX4_lasts_19 : decode cX4_lasts 19 = .ok (.i2l, 1) := by decide +kernel
theorem dX4_lasts_20 : decode cX4_lasts 20 = .ok (.aload_n 2, 1) := by decide +kernel
theorem dX4_lasts_21 : decode cX4_lasts 21 = .ok (.getfield 142, 3) := by decide +kernel
theorem dX4_lasts_24 : decode cX4_lasts 24 = .ok (.i2l, 1) := by decide +kernel
theorem dX4_lasts_25 : decode cX4_lasts 25 = .ok (.lsub, 1) := by decide +kernel
theorem dX4_lasts_26 : decode cX4_lasts 26 = .ok (.lstore_n 3, 1) := by decide +kernel
theorem dX4_lasts_27 : decode cX4_lasts 27 = .ok (.iconst 0, 1) := by decide +kernel
theorem dX4_lasts_28 : decode cX4_lasts 28 = .ok (.istore 5, 2) := by decide +kernel
theorem dX4_lasts_30 : decode cX4_lasts 30 = .ok (.iload 5, 2) := by decide +kernel
theorem dX4_lasts_32 : decode cX4_lasts 32 = .ok (.bipush 12, 2) := by decide +kernel
theorem dX4_lasts_34 : decode cX4_lasts 34 = .ok (.if_icmp .ge 29, 3) := by decide +kernel
theorem dX4_lasts_37 : decode cX4_lasts 37 = .ok (.lload_n 3, 1) := by decide +kernel
theorem dX4_lasts_38 : decode cX4_lasts 38 = .ok (.aload_n 2, 1) := by decide +kernel
theorem dX4_lasts_39 : decode cX4_lasts 39 = .ok (.getfield 92, 3) := by decide +kernel
theorem dX4_lasts_42 : decode cX4_lasts 42 = .ok (.iload 5, 2) := by decide +kernel
theorem dX4_lasts_44 : decode cX4_lasts 44 = .ok (.iaload, 1) := by decide +kernel
theorem dX4_lasts_45 : decode cX4_lasts 45 = .ok (.i2l, 1) := by decide +kernel
theorem dX4_lasts_46 : decode cX4_lasts 46 = .ok (.lsub, 1) := by decide +kernel
theorem dX4_lasts_47 : decode cX4_lasts 47 = .ok (.lstore_n 3, 1) := by decide +kernel
theorem dX4_lasts_48 : decode cX4_lasts 48 = .ok (.lload_n 3, 1) := by decide +kernel
theorem dX4_lasts_49 : decode cX4_lasts 49 = .ok (.lconst 0, 1) := by decide +kernel
theorem dX4_lasts_50 : decode cX4_lasts 50 = .ok (.lcmp, 1) := by decide +kernel
theorem dX4_lasts_51 : decode cX4_lasts 51 = .ok (.ifCond .ge 6, 3) := by decide +kernel
theorem dX4_lasts_54 : decode cX4_lasts 54 = .ok (.iload 5, 2) := by decide +kernel
theorem dX4_lasts_56 : decode cX4_lasts 56 = .ok (.ireturn, 1) := by decide +kernel
theorem dX4_lasts_57 : decode cX4_lasts 57 = .ok (.iinc 5 1, 3) := by decide +kernel
theorem dX4_lasts_60 : decode cX4_lasts 60 = .ok (.goto (-30), 3) := by decide +kernel
theorem dX4_lasts_63 : decode cX4_lasts 63 = .ok (.bipush 12, 2) := by decide +kernel
theorem dX4_lasts_65 : decode cX4_lasts 65 = .ok (.ireturn, 1) := by decide +kernel
theorem dX4_leastHours_0 : decode cX4_leastHours 0 = .ok (.aload_n 0, 1) := by decide +kernel
theorem dX4_leastHours_1 : decode cX4_leastHours 1 = .ok (.getfield 16, 3) := by decide +kernel
theorem dX4_leastHours_4 : decode cX4_leastHours 4 = .ok (.aload_n 0, 1) := by decide +kernel
theorem dX4_leastHours_5 : decode cX4_leastHours 5 = .ok (.getfield 10, 3) := by decide +kernel
theorem dX4_leastHours_8 : decode cX4_leastHours 8 = .ok (.invokevirtual 203, 3) := by decide +kernel
theorem dX4_leastHours_11 : decode cX4_leastHours 11 = .ok (.iconst 0, 1) := by decide +kernel
theorem dX4_leastHours_12 : decode cX4_leastHours 12 = .ok (.istore_n 1, 1) := by decide +kernel
theorem dX4_leastHours_13 : decode cX4_leastHours 13 = .ok (.iload_n 1, 1) := by decide +kernel
theorem dX4_leastHours_14 : decode cX4_leastHours 14 = .ok (.sipush 1000, 3) := by decide +kernel
theorem dX4_leastHours_17 : decode cX4_leastHours 17 = .ok (.if_icmp .gt 30, 3) := by decide +kernel
theorem dX4_leastHours_20 : decode cX4_leastHours 20 = .ok (.aload_n 0, 1) := by decide +kernel
theorem dX4_leastHours_21 : decode cX4_leastHours 21 = .ok (.getfield 16, 3) := by decide +kernel
theorem dX4_leastHours_24 : decode cX4_leastHours 24 = .ok (.iconst 0, 1) := by decide +kernel
theorem dX4_leastHours_25 : decode cX4_leastHours 25 = .ok (.iload_n 1, 1) := by decide +kernel
theorem dX4_leastHours_26 : decode cX4_leastHours 26 = .ok (.invokevirtual 60, 3) := by decide +kernel
theorem dX4_leastHours_29 : decode cX4_leastHours 29 = .ok (.aload_n 0, 1) := by decide +kernel
theorem dX4_leastHours_30 : decode cX4_leastHours 30 = .ok (.getfield 16, 3) := by decide +kernel
theorem dX4_leastHours_33 : decode cX4_leastHours 33 = .ok (.invokevirtual 206, 3) := by decide +kernel
theorem dX4_leastHours_36 : decode cX4_leastHours 36 = .ok (.ifCond .eq 5, 3) := by decide +kernel
theorem dX4_leastHours_39 : decode cX4_leastHours 39 = .ok (.iload_n 1, 1) := by decide +kernel
theorem dX4_leastHours_40 : decode cX4_leastHours 40 = .ok (.ireturn, 1) := by decide +kernel
theorem dX4_leastHours_41 : decode cX4_leastHours 41 = .ok (.iinc 1 10, 3) := by decide +kernel
theorem dX4_leastHours_44 : decode cX4_leastHours 44 = .ok (.goto (-31), 3) := by decide +kernel
theorem dX4_leastHours_47 : decode cX4_leastHours 47 = .ok (.bipush (-6), 2) := by decide +kernel
theorem dX4_leastHours_49 : decode cX4_leastHours 49 = .ok (.ireturn, 1) := by decide +kernel
theorem dX4_costs_0 : decode cX4_costs 0 = .ok (.iload_n 1, 1) := by decide +kernel
theorem dX4_costs_1 : decode cX4_costs 1 = .ok (.iconst 0, 1) := by decide +kernel
theorem dX4_costs_2 : decode cX4_costs 2 = .ok (.bipush 8, 2) := by decide +kernel
theorem dX4_costs_4 : decode cX4_costs 4 = .ok (.invokestatic 41, 3) := by decide +kernel
theorem dX4_costs_7 : decode cX4_costs 7 = .ok (.ifCond .eq 13, 3) := by decide +kernel
theorem dX4_costs_10 : decode cX4_costs 10 = .ok (.iload_n 2, 1) := by decide +kernel
theorem dX4_costs_11 : decode cX4_costs 11 = .ok (.iconst 1, 1) := by decide +kernel
theorem dX4_costs_12 : decode cX4_costs 12 = .ok (.bipush 12, 2) := by decide +kernel
theorem dX4_costs_14 : decode cX4_costs 14 = .ok (.invokestatic 41, 3) := by decide +kernel
theorem dX4_costs_17 : decode cX4_costs 17 = .ok (.ifCond .ne 7, 3) := by decide +kernel
theorem dX4_costs_20 : decode cX4_costs 20 = .ok (.ldc2_w 201, 3) := by decide +kernel
theorem dX4_costs_23 : decode cX4_costs 23 = .ok (.lreturn, 1) := by decide +kernel
theorem dX4_costs_24 : decode cX4_costs 24 = .ok (.aload_n 0, 1) := by decide +kernel
theorem dX4_costs_25 : decode cX4_costs 25 = .ok (.getfield 16, 3) := by decide +kernel
theorem dX4_costs_28 : decode cX4_costs 28 = .ok (.aload_n 0, 1) := by decide +kernel
theorem dX4_costs_29 : decode cX4_costs 29 = .ok (.getfield 10, 3) := by decide +kernel
theorem dX4_costs_32 : decode cX4_costs 32 = .ok (.invokevirtual 203, 3) := by decide +kernel
theorem dX4_costs_35 : decode cX4_costs 35 = .ok (.aload_n 0, 1) := by decide +kernel
theorem dX4_costs_36 : decode cX4_costs 36 = .ok (.getfield 16, 3) := by decide +kernel
theorem dX4_costs_39 : decode cX4_costs 39 = .ok (.iconst 2, 1) := by decide +kernel
theorem dX4_costs_40 : decode cX4_costs 40 = .ok (.iload_n 1, 1) := by decide +kernel
theorem dX4_costs_41 : decode cX4_costs 41 = .ok (.invokevirtual 60, 3) := by decide +kernel
theorem dX4_costs_44 : decode cX4_costs 44 = .ok (.aload_n 0, 1) := by decide +kernel
theorem dX4_costs_45 : decode cX4_costs 45 = .ok (.getfield 16, 3) := by decide +kernel
theorem dX4_costs_48 : decode cX4_costs 48 = .ok (.invokevirtual 210, 3) := by decide +kernel
theorem dX4_costs_51 : decode cX4_costs 51 = .ok (.aload_n 0, 1) := by decide +kernel
theorem dX4_costs_52 : decode cX4_costs 52 = .ok (.getfield 16, 3) := by decide +kernel
theorem dX4_costs_55 : decode cX4_costs 55 = .ok (.invokevirtual 115, 3) := by decide +kernel
theorem dX4_costs_58 : decode cX4_costs 58 = .ok (.iconst 0, 1) := by decide +kernel
theorem dX4_costs_59 : decode cX4_costs 59 = .ok (.istore_n 3, 1) := by decide +kernel
theorem dX4_costs_60 : decode cX4_costs 60 = .ok (.iload_n 3, 1) := by decide +kernel
theorem dX4_costs_61 : decode cX4_costs 61 = .ok (.iload_n 2, 1) := by decide +kernel
theorem dX4_costs_62 : decode cX4_costs 62 = .ok (.if_icmp .ge 23, 3) := by decide +kernel
theorem dX4_costs_65 : decode cX4_costs 65 = .ok (.aload_n 0, 1) := by decide +kernel
theorem dX4_costs_66 : decode cX4_costs 66 = .ok (.getfield 16, 3) := by decide +kernel
theorem dX4_costs_69 : decode cX4_costs 69 = .ok (.invokevirtual 121, 3) := by decide +kernel
theorem dX4_costs_72 : decode cX4_costs 72 = .ok (.aload_n 0, 1) := by decide +kernel
theorem dX4_costs_73 : decode cX4_costs 73 = .ok (.getfield 16, 3) := by decide +kernel
theorem dX4_costs_76 : decode cX4_costs 76 = .ok (.invokevirtual 115, 3) := by decide +kernel
theorem dX4_costs_79 : decode cX4_costs 79 = .ok (.iinc 3 1, 3) := by decide +kernel
theorem dX4_costs_82 : decode cX4_costs 82 = .ok (.goto (-22), 3) := by decide +kernel
theorem dX4_costs_85 : decode cX4_costs 85 = .ok (.aload_n 0, 1) := by decide +kernel
theorem dX4_costs_86 : decode cX4_costs 86 = .ok (.getfield 16, 3) := by decide +kernel
theorem dX4_costs_89 : decode cX4_costs 89 = .ok (.getfield 185, 3) := by decide +kernel
theorem dX4_costs_92 : decode cX4_costs 92 = .ok (.aload_n 0, 1) := by decide +kernel
theorem dX4_costs_93 : decode cX4_costs 93 = .ok (.getfield 10, 3) := by decide +kernel
theorem dX4_costs_96 : decode cX4_costs 96 = .ok (.getfield 185, 3) := by decide +kernel
theorem dX4_costs_99 : decode cX4_costs 99 = .ok (.lsub, 1) := by decide +kernel
theorem dX4_costs_100 : decode cX4_costs 100 = .ok (.lreturn, 1) := by decide +kernel
theorem dX4_bestFence_0 : decode cX4_bestFence 0 = .ok (.iload_n 1, 1) := by decide +kernel
theorem dX4_bestFence_1 : decode cX4_bestFence 1 = .ok (.iconst 1, 1) := by decide +kernel
theorem dX4_bestFence_2 : decode cX4_bestFence 2 = .ok (.bipush 12, 2) := by decide +kernel
theorem dX4_bestFence_4 : decode cX4_bestFence 4 = .ok (.invokestatic 41, 3) := by decide +kernel
theorem dX4_bestFence_7 : decode cX4_bestFence 7 = .ok (.ifCond .ne 6, 3) := by decide +kernel
theorem dX4_bestFence_10 : decode cX4_bestFence 10 = .ok (.bipush (-2), 2) := by decide +kernel
theorem dX4_bestFence_12 : decode cX4_bestFence 12 = .ok (.ireturn, 1) := by decide +kernel
theorem dX4_bestFence_13 : decode cX4_bestFence 13 = .ok (.iconst 0, 1) := by decide +kernel
theorem dX4_bestFence_14 : decode cX4_bestFence 14 = .ok (.istore_n 2, 1) := by decide +kernel
theorem dX4_bestFence_15 : decode cX4_bestFence 15 = .ok (.aload_n 0, 1) := by decide +kernel
theorem dX4_bestFence_16 : decode cX4_bestFence 16 = .ok (.iconst 0, 1) := by decide +kernel
theorem dX4_bestFence_17 : decode cX4_bestFence 17 = .ok (.iload_n 1, 1) := by decide +kernel
theorem dX4_bestFence_18 : decode cX4_bestFence 18 = .ok (.invokevirtual 213, 3) := by decide +kernel
theorem dX4_bestFence_21 : decode cX4_bestFence 21 = .ok (.lstore_n 3, 1) := by decide +kernel
theorem dX4_bestFence_22 : decode cX4_bestFence 22 = .ok (.iconst 1, 1) := by decide +kernel
theorem dX4_bestFence_23 : decode cX4_bestFence 23 = .ok (.istore 5, 2) := by decide +kernel
theorem dX4_bestFence_25 : decode cX4_bestFence 25 = .ok (.iload 5, 2) := by decide +kernel
theorem dX4_bestFence_27 : decode cX4_bestFence 27 = .ok (.bipush 8, 2) := by decide +kernel
theorem dX4_bestFence_29 : decode cX4_bestFence 29 = .ok (.if_icmp .gt 31, 3) := by decide +kernel
theorem dX4_bestFence_32 : decode cX4_bestFence 32 = .ok (.aload_n 0, 1) := by decide +kernel
theorem dX4_bestFence_33 : decode cX4_bestFence 33 = .ok (.iload 5, 2) := by decide +kernel
theorem dX4_bestFence_35 : decode cX4_bestFence 35 = .ok (.iload_n 1, 1) := by decide +kernel
theorem dX4_bestFence_36 : decode cX4_bestFence 36 = .ok (.invokevirtual 213, 3) := by decide +kernel
theorem dX4_bestFence_39 : decode cX4_bestFence 39 = .ok (.lstore 6, 2) := by decide +kernel
theorem dX4_bestFence_41 : decode cX4_bestFence 41 = .ok (.lload 6, 2) := by decide +kernel
theorem dX4_bestFence_43 : decode cX4_bestFence 43 = .ok (.lload_n 3, 1) := by decide +kernel
theorem dX4_bestFence_44 : decode cX4_bestFence 44 = .ok (.lcmp, 1) := by decide +kernel
theorem dX4_bestFence_45 : decode cX4_bestFence 45 = .ok (.ifCond .gt 9, 3) := by decide +kernel
theorem dX4_bestFence_48 : decode cX4_bestFence 48 = .ok (.iload 5, 2) := by decide +kernel
theorem dX4_bestFence_50 : decode cX4_bestFence 50 = .ok (.istore_n 2, 1) := by decide +kernel
theorem dX4_bestFence_51 : decode cX4_bestFence 51 = .ok (.lload 6, 2) := by decide +kernel
theorem dX4_bestFence_53 : decode cX4_bestFence 53 = .ok (.lstore_n 3, 1) := by decide +kernel
theorem dX4_bestFence_54 : decode cX4_bestFence 54 = .ok (.iinc 5 1, 3) := by decide +kernel
theorem dX4_bestFence_57 : decode cX4_bestFence 57 = .ok (.goto (-32), 3) := by decide +kernel
theorem dX4_bestFence_60 : decode cX4_bestFence 60 = .ok (.iload_n 2, 1) := by decide +kernel
theorem dX4_bestFence_61 : decode cX4_bestFence 61 = .ok (.ireturn, 1) := by decide +kernel
theorem dX4_roomFor_0 : decode cX4_roomFor 0 = .ok (.aload_n 0, 1) := by decide +kernel
theorem dX4_roomFor_1 : decode cX4_roomFor 1 = .ok (.getfield 10, 3) := by decide +kernel
theorem dX4_roomFor_4 : decode cX4_roomFor 4 = .ok (.iload_n 1, 1) := by decide +kernel
theorem dX4_roomFor_5 : decode cX4_roomFor 5 = .ok (.invokevirtual 85, 3) := by decide +kernel
theorem dX4_roomFor_8 : decode cX4_roomFor 8 = .ok (.astore_n 3, 1) := by decide +kernel
theorem dX4_roomFor_9 : decode cX4_roomFor 9 = .ok (.aload_n 3, 1) := by decide +kernel
theorem dX4_roomFor_10 : decode cX4_roomFor 10 = .ok (.ifnull 10, 3) := by decide +kernel
theorem dX4_roomFor_13 : decode cX4_roomFor 13 = .ok (.iload_n 2, 1) := by decide +kernel
theorem dX4_roomFor_14 : decode cX4_roomFor 14 = .ok (.invokestatic 89, 3) := by decide +kernel
theorem dX4_roomFor_17 : decode cX4_roomFor 17 = .ok (.ifCond .ne 5, 3) := by decide +kernel
theorem dX4_roomFor_20 : decode cX4_roomFor 20 = .ok (.iconst (-1), 1) := by decide +kernel
theorem dX4_roomFor_21 : decode cX4_roomFor 21 = .ok (.ireturn, 1) := by decide +kernel
theorem dX4_roomFor_22 : decode cX4_roomFor 22 = .ok (.aload_n 3, 1) := by decide +kernel
theorem dX4_roomFor_23 : decode cX4_roomFor 23 = .ok (.getfield 112, 3) := by decide +kernel
theorem dX4_roomFor_26 : decode cX4_roomFor 26 = .ok (.iload_n 2, 1) := by decide +kernel
theorem dX4_roomFor_27 : decode cX4_roomFor 27 = .ok (.iaload, 1) := by decide +kernel
theorem dX4_roomFor_28 : decode cX4_roomFor 28 = .ok (.istore 4, 2) := by decide +kernel
theorem dX4_roomFor_30 : decode cX4_roomFor 30 = .ok (.aload_n 0, 1) := by decide +kernel
theorem dX4_roomFor_31 : decode cX4_roomFor 31 = .ok (.getfield 10, 3) := by decide +kernel
theorem dX4_roomFor_34 : decode cX4_roomFor 34 = .ok (.invokevirtual 105, 3) := by decide +kernel
theorem dX4_roomFor_37 : decode cX4_roomFor 37 = .ok (.aload_n 0, 1) := by decide +kernel
theorem dX4_roomFor_38 : decode cX4_roomFor 38 = .ok (.getfield 10, 3) := by decide +kernel
theorem dX4_roomFor_41 : decode cX4_roomFor 41 = .ok (.iload_n 2, 1) := by decide +kernel
theorem dX4_roomFor_42 : decode cX4_roomFor 42 = .ok (.aload_n 3, 1) := by decide +kernel
theorem dX4_roomFor_43 : decode cX4_roomFor 43 = .ok (.iload 4, 2) := by decide +kernel
theorem dX4_roomFor_45 : decode cX4_roomFor 45 = .ok (.iconst 1, 1) := by decide +kernel
theorem dX4_roomFor_46 : decode cX4_roomFor 46 = .ok (.iadd, 1) := by decide +kernel
theorem dX4_roomFor_47 : decode cX4_roomFor 47 = .ok (.invokevirtual 98, 3) := by decide +kernel
theorem dX4_roomFor_50 : decode cX4_roomFor 50 = .ok (.isub, 1) := by decide +kernel
theorem dX4_roomFor_51 : decode cX4_roomFor 51 = .ok (.istore 5, 2) := by decide +kernel
theorem dX4_roomFor_53 : decode cX4_roomFor 53 = .ok (.iload 5, 2) := by decide +kernel
theorem dX4_roomFor_55 : decode cX4_roomFor 55 = .ok (.ifCond .lt 11, 3) := by decide +kernel
theorem dX4_roomFor_58 : decode cX4_roomFor 58 = .ok (.aload_n 3, 1) := by decide +kernel
theorem dX4_roomFor_59 : decode cX4_roomFor 59 = .ok (.getfield 133, 3) := by decide +kernel
theorem dX4_roomFor_62 : decode cX4_roomFor 62 = .ok (.iconst 1, 1) := by decide +kernel
theorem dX4_roomFor_63 : decode cX4_roomFor 63 = .ok (.if_icmp .ge 5, 3) := by decide +kernel
theorem dX4_roomFor_66 : decode cX4_roomFor 66 = .ok (.iconst 0, 1) := by decide +kernel
theorem dX4_roomFor_67 : decode cX4_roomFor 67 = .ok (.ireturn, 1) := by decide +kernel
theorem dX4_roomFor_68 : decode cX4_roomFor 68 = .ok (.iconst 1, 1) := by decide +kernel
theorem dX4_roomFor_69 : decode cX4_roomFor 69 = .ok (.iload 5, 2) := by decide +kernel
theorem dX4_roomFor_71 : decode cX4_roomFor 71 = .ok (.aload_n 3, 1) := by decide +kernel
theorem dX4_roomFor_72 : decode cX4_roomFor 72 = .ok (.getfield 133, 3) := by decide +kernel
theorem dX4_roomFor_75 : decode cX4_roomFor 75 = .ok (.idiv, 1) := by decide +kernel
theorem dX4_roomFor_76 : decode cX4_roomFor 76 = .ok (.iadd, 1) := by decide +kernel
theorem dX4_roomFor_77 : decode cX4_roomFor 77 = .ok (.sipush 1000, 3) := by decide +kernel
theorem dX4_roomFor_80 : decode cX4_roomFor 80 = .ok (.iload 4, 2) := by decide +kernel
theorem dX4_roomFor_82 : decode cX4_roomFor 82 = .ok (.isub, 1) := by decide +kernel
theorem dX4_roomFor_83 : decode cX4_roomFor 83 = .ok (.invokestatic 217, 3) := by decide +kernel
theorem dX4_roomFor_86 : decode cX4_roomFor 86 = .ok (.ireturn, 1) := by decide +kernel
theorem dX4_put_0 : decode cX4_put 0 = .ok (.lload_n 1, 1) := by decide +kernel
theorem dX4_put_1 : decode cX4_put 1 = .ok (.invokestatic 223, 3) := by decide +kernel
theorem dX4_put_4 : decode cX4_put 4 = .ok (.istore_n 3, 1) := by decide +kernel
theorem dX4_put_5 : decode cX4_put 5 = .ok (.iload_n 3, 1) := by decide +kernel
theorem dX4_put_6 : decode cX4_put 6 = .ok (.ifCond .ne 6, 3) := by decide +kernel
theorem dX4_put_9 : decode cX4_put 9 = .ok (.bipush (-2), 2) := by decide +kernel
theorem dX4_put_11 : decode cX4_put 11 = .ok (.ireturn, 1) := by decide +kernel
theorem dX4_put_12 : decode cX4_put 12 = .ok (.aload_n 0, 1) := by decide +kernel
theorem dX4_put_13 : decode cX4_put 13 = .ok (.getfield 22, 3) := by decide +kernel
theorem dX4_put_16 : decode cX4_put 16 = .ok (.getfield 195, 3) := by decide +kernel
theorem dX4_put_19 : decode cX4_put 19 = .ok (.iload_n 3, 1) := by decide +kernel
theorem dX4_put_20 : decode cX4_put 20 = .ok (.iadd, 1) := by decide +kernel
theorem dX4_put_21 : decode cX4_put 21 = .ok (.bipush 80, 2) := by decide +kernel
theorem dX4_put_23 : decode cX4_put 23 = .ok (.if_icmp .le 6, 3) := by decide +kernel
theorem dX4_put_26 : decode cX4_put 26 = .ok (.bipush (-4), 2) := by decide +kernel
theorem dX4_put_28 : decode cX4_put 28 = .ok (.ireturn, 1) := by decide +kernel
theorem dX4_put_29 : decode cX4_put 29 = .ok (.aload_n 0, 1) := by decide +kernel
theorem dX4_put_30 : decode cX4_put 30 = .ok (.getfield 22, 3) := by decide +kernel
theorem dX4_put_33 : decode cX4_put 33 = .ok (.lload_n 1, 1) := by decide +kernel
theorem dX4_put_34 : decode cX4_put 34 = .ok (.iload_n 3, 1) := by decide +kernel
theorem dX4_put_35 : decode cX4_put 35 = .ok (.invokevirtual 227, 3) := by decide +kernel
theorem dX4_put_38 : decode cX4_put 38 = .ok (.aload_n 0, 1) := by decide +kernel
theorem dX4_put_39 : decode cX4_put 39 = .ok (.getfield 22, 3) := by decide +kernel
theorem dX4_put_42 : decode cX4_put 42 = .ok (.getfield 195, 3) := by decide +kernel
theorem dX4_put_45 : decode cX4_put 45 = .ok (.ireturn, 1) := by decide +kernel
theorem dX4_wipe_0 : decode cX4_wipe 0 = .ok (.aload_n 0, 1) := by decide +kernel
theorem dX4_wipe_1 : decode cX4_wipe 1 = .ok (.getfield 22, 3) := by decide +kernel
theorem dX4_wipe_4 : decode cX4_wipe 4 = .ok (.getfield 195, 3) := by decide +kernel
theorem dX4_wipe_7 : decode cX4_wipe 7 = .ok (.istore_n 1, 1) := by decide +kernel
theorem dX4_wipe_8 : decode cX4_wipe 8 = .ok (.aload_n 0, 1) := by decide +kernel
theorem dX4_wipe_9 : decode cX4_wipe 9 = .ok (.getfield 22, 3) := by decide +kernel
theorem dX4_wipe_12 : decode cX4_wipe 12 = .ok (.iconst 0, 1) := by decide +kernel
theorem dX4_wipe_13 : decode cX4_wipe 13 = .ok (.putfield 195, 3) := by decide +kernel
theorem dX4_wipe_16 : decode cX4_wipe 16 = .ok (.iload_n 1, 1) := by decide +kernel
theorem dX4_wipe_17 : decode cX4_wipe 17 = .ok (.ireturn, 1) := by decide +kernel
theorem dX4_fault_0 : decode cX4_fault 0 = .ok (.aload_n 0, 1) := by decide +kernel
theorem dX4_fault_1 : decode cX4_fault 1 = .ok (.getfield 22, 3) := by decide +kernel
theorem dX4_fault_4 : decode cX4_fault 4 = .ok (.invokevirtual 231, 3) := by decide +kernel
theorem dX4_fault_7 : decode cX4_fault 7 = .ok (.iconst 0, 1) := by decide +kernel
theorem dX4_fault_8 : decode cX4_fault 8 = .ok (.istore_n 1, 1) := by decide +kernel
theorem dX4_fault_9 : decode cX4_fault 9 = .ok (.iload_n 1, 1) := by decide +kernel
theorem dX4_fault_10 : decode cX4_fault 10 = .ok (.bipush 80, 2) := by decide +kernel
theorem dX4_fault_12 : decode cX4_fault 12 = .ok (.if_icmp .ge 60, 3) := by decide +kernel
theorem dX4_fault_15 : decode cX4_fault 15 = .ok (.aload_n 0, 1) := by decide +kernel
theorem dX4_fault_16 : decode cX4_fault 16 = .ok (.getfield 22, 3) := by decide +kernel
theorem dX4_fault_19 : decode cX4_fault 19 = .ok (.invokevirtual 234, 3) := by decide +kernel
theorem dX4_fault_22 : decode cX4_fault 22 = .ok (.ifCond .ne 11, 3) := by decide +kernel
theorem dX4_fault_25 : decode cX4_fault 25 = .ok (.aload_n 0, 1) := by decide +kernel
theorem dX4_fault_26 : decode cX4_fault 26 = .ok (.getfield 22, 3) := by decide +kernel
theorem dX4_fault_29 : decode cX4_fault 29 = .ok (.getfield 237, 3) := by decide +kernel
theorem dX4_fault_32 : decode cX4_fault 32 = .ok (.ireturn, 1) := by decide +kernel
theorem dX4_fault_33 : decode cX4_fault 33 = .ok (.aload_n 0, 1) := by decide +kernel
theorem dX4_fault_34 : decode cX4_fault 34 = .ok (.getfield 22, 3) := by decide +kernel
theorem dX4_fault_37 : decode cX4_fault 37 = .ok (.invokevirtual 240, 3) := by decide +kernel
theorem dX4_fault_40 : decode cX4_fault 40 = .ok (.ifCond .eq 6, 3) := by decide +kernel
theorem dX4_fault_43 : decode cX4_fault 43 = .ok (.bipush (-6), 2) := by decide +kernel
theorem dX4_fault_45 : decode cX4_fault 45 = .ok (.ireturn, 1) := by decide +kernel
theorem dX4_fault_46 : decode cX4_fault 46 = .ok (.aload_n 0, 1) := by decide +kernel
theorem dX4_fault_47 : decode cX4_fault 47 = .ok (.getfield 22, 3) := by decide +kernel
theorem dX4_fault_50 : decode cX4_fault 50 = .ok (.bipush 59, 2) := by decide +kernel
theorem dX4_fault_52 : decode cX4_fault 52 = .ok (.invokevirtual 243, 3) := by decide +kernel
theorem dX4_fault_55 : decode cX4_fault 55 = .ok (.ifCond .ne 11, 3) := by decide +kernel
theorem dX4_fault_58 : decode cX4_fault 58 = .ok (.aload_n 0, 1) := by decide +kernel
theorem dX4_fault_59 : decode cX4_fault 59 = .ok (.getfield 22, 3) := by decide +kernel
theorem dX4_fault_62 : decode cX4_fault 62 = .ok (.getfield 237, 3) := by decide +kernel
theorem dX4_fault_65 : decode cX4_fault 65 = .ok (.ireturn, 1) := by decide +kernel
theorem dX4_fault_66 : decode cX4_fault 66 = .ok (.iinc 1 1, 3) := by decide +kernel
theorem dX4_fault_69 : decode cX4_fault 69 = .ok (.goto (-60), 3) := by decide +kernel
theorem dX4_fault_72 : decode cX4_fault 72 = .ok (.aload_n 0, 1) := by decide +kernel
theorem dX4_fault_73 : decode cX4_fault 73 = .ok (.getfield 22, 3) := by decide +kernel
theorem dX4_fault_76 : decode cX4_fault 76 = .ok (.getfield 237, 3) := by decide +kernel
theorem dX4_fault_79 : decode cX4_fault 79 = .ok (.ireturn, 1) := by decide +kernel
theorem dX4_carryOut_0 : decode cX4_carryOut 0 = .ok (.aload_n 0, 1) := by decide +kernel
theorem dX4_carryOut_1 : decode cX4_carryOut 1 = .ok (.invokevirtual 247, 3) := by decide +kernel
theorem dX4_carryOut_4 : decode cX4_carryOut 4 = .ok (.bipush (-6), 2) := by decide +kernel
theorem dX4_carryOut_6 : decode cX4_carryOut 6 = .ok (.if_icmp .eq 6, 3) := by decide +kernel
theorem dX4_carryOut_9 : decode cX4_carryOut 9 = .ok (.bipush (-3), 2) := by decide +kernel
theorem dX4_carryOut_11 : decode cX4_carryOut 11 = .ok (.ireturn, 1) := by decide +kernel
theorem dX4_carryOut_12 : decode cX4_carryOut 12 = .ok (.aload_n 0, 1) := by decide +kernel
theorem dX4_carryOut_13 : decode cX4_carryOut 13 = .ok (.getfield 29, 3) := by decide +kernel
theorem dX4_carryOut_16 : decode cX4_carryOut 16 = .ok (.aload_n 0, 1) := by decide +kernel
theorem dX4_carryOut_17 : decode cX4_carryOut 17 = .ok (.getfield 10, 3) := by decide +kernel
theorem dX4_carryOut_20 : decode cX4_carryOut 20 = .ok (.invokevirtual 52, 3) := by decide +kernel
theorem dX4_carryOut_23 : decode cX4_carryOut 23 = .ok (.aload_n 0, 1) := by decide +kernel
theorem dX4_carryOut_24 : decode cX4_carryOut 24 = .ok (.getfield 29, 3) := by decide +kernel
theorem dX4_carryOut_27 : decode cX4_carryOut 27 = .ok (.iconst 1, 1) := by decide +kernel
theorem dX4_carryOut_28 : decode cX4_carryOut 28 = .ok (.putfield 250, 3) := by decide +kernel
theorem dX4_carryOut_31 : decode cX4_carryOut 31 = .ok (.aload_n 0, 1) := by decide +kernel
theorem dX4_carryOut_32 : decode cX4_carryOut 32 = .ok (.getfield 22, 3) := by decide +kernel
theorem dX4_carryOut_35 : decode cX4_carryOut 35 = .ok (.invokevirtual 231, 3) := by decide +kernel
theorem dX4_carryOut_38 : decode cX4_carryOut 38 = .ok (.iconst 0, 1) := by decide +kernel
theorem dX4_carryOut_39 : decode cX4_carryOut 39 = .ok (.istore_n 1, 1) := by decide +kernel
theorem dX4_carryOut_40 : decode cX4_carryOut 40 = .ok (.iload_n 1, 1) := by decide +kernel
theorem dX4_carryOut_41 : decode cX4_carryOut 41 = .ok (.bipush 80, 2) := by decide +kernel
theorem dX4_carryOut_43 : decode cX4_carryOut 43 = .ok (.if_icmp .ge 41, 3) := by decide +kernel
theorem dX4_carryOut_46 : decode cX4_carryOut 46 = .ok (.aload_n 0, 1) := by decide +kernel
theorem dX4_carryOut_47 : decode cX4_carryOut 47 = .ok (.getfield 22, 3) := by decide +kernel
theorem dX4_carryOut_50 : decode cX4_carryOut 50 = .ok (.invokevirtual 234, 3) := by decide +kernel
theorem dX4_carryOut_53 : decode cX4_carryOut 53 = .ok (.ifCond .eq 31, 3) := by decide +kernel
theorem dX4_carryOut_56 : decode cX4_carryOut 56 = .ok (.aload_n 0, 1) := by decide +kernel
theorem dX4_carryOut_57 : decode cX4_carryOut 57 = .ok (.invokevirtual 254, 3) := by decide +kernel
theorem dX4_carryOut_60 : decode cX4_carryOut 60 = .ok (.invokestatic 257, 3) := by decide +kernel
theorem dX4_carryOut_63 : decode cX4_carryOut 63 = .ok (.ifCond .ne 21, 3) := by decide +kernel
theorem dX4_carryOut_66 : decode cX4_carryOut 66 = .ok (.iinc 1 1, 3) := by decide +kernel
theorem dX4_carryOut_69 : decode cX4_carryOut 69 = .ok (.aload_n 0, 1) := by decide +kernel
theorem dX4_carryOut_70 : decode cX4_carryOut 70 = .ok (.getfield 22, 3) := by decide +kernel
theorem dX4_carryOut_73 : decode cX4_carryOut 73 = .ok (.bipush 59, 2) := by decide +kernel
theorem dX4_carryOut_75 : decode cX4_carryOut 75 = .ok (.invokevirtual 243, 3) := by decide +kernel
theorem dX4_carryOut_78 : decode cX4_carryOut 78 = .ok (.ifCond .ne (-38), 3) := by decide +kernel
theorem dX4_carryOut_81 : decode cX4_carryOut 81 = .ok (.goto 3, 3) := by decide +kernel
theorem dX4_carryOut_84 : decode cX4_carryOut 84 = .ok (.aload_n 0, 1) := by decide +kernel
theorem dX4_carryOut_85 : decode cX4_carryOut 85 = .ok (.getfield 29, 3) := by decide +kernel
theorem dX4_carryOut_88 : decode cX4_carryOut 88 = .ok (.iconst 0, 1) := by decide +kernel
theorem dX4_carryOut_89 : decode cX4_carryOut 89 = .ok (.putfield 250, 3) := by decide +kernel
theorem dX4_carryOut_92 : decode cX4_carryOut 92 = .ok (.aload_n 0, 1) := by decide +kernel
theorem dX4_carryOut_93 : decode cX4_carryOut 93 = .ok (.getfield 22, 3) := by decide +kernel
theorem dX4_carryOut_96 : decode cX4_carryOut 96 = .ok (.iconst 0, 1) := by decide +kernel
theorem dX4_carryOut_97 : decode cX4_carryOut 97 = .ok (.putfield 195, 3) := by decide +kernel
theorem dX4_carryOut_100 : decode cX4_carryOut 100 = .ok (.iload_n 1, 1) := by decide +kernel
theorem dX4_carryOut_101 : decode cX4_carryOut 101 = .ok (.ireturn, 1) := by decide +kernel
theorem dX4_undo_0 : decode cX4_undo 0 = .ok (.aload_n 0, 1) := by decide +kernel
theorem dX4_undo_1 : decode cX4_undo 1 = .ok (.getfield 29, 3) := by decide +kernel
theorem dX4_undo_4 : decode cX4_undo 4 = .ok (.getfield 198, 3) := by decide +kernel
theorem dX4_undo_7 : decode cX4_undo 7 = .ok (.ifCond .ne 6, 3) := by decide +kernel
theorem dX4_undo_10 : decode cX4_undo 10 = .ok (.bipush (-5), 2) := by decide +kernel
theorem dX4_undo_12 : decode cX4_undo 12 = .ok (.ireturn, 1) := by decide +kernel
theorem dX4_undo_13 : decode cX4_undo 13 = .ok (.aload_n 0, 1) := by decide +kernel
theorem dX4_undo_14 : decode cX4_undo 14 = .ok (.getfield 29, 3) := by decide +kernel
theorem dX4_undo_17 : decode cX4_undo 17 = .ok (.aload_n 0, 1) := by decide +kernel
theorem dX4_undo_18 : decode cX4_undo 18 = .ok (.getfield 10, 3) := by decide +kernel
theorem dX4_undo_21 : decode cX4_undo 21 = .ok (.invokevirtual 260, 3) := by decide +kernel
theorem dX4_undo_24 : decode cX4_undo 24 = .ok (.aload_n 0, 1) := by decide +kernel
theorem dX4_undo_25 : decode cX4_undo 25 = .ok (.getfield 29, 3) := by decide +kernel
theorem dX4_undo_28 : decode cX4_undo 28 = .ok (.getfield 198, 3) := by decide +kernel
theorem dX4_undo_31 : decode cX4_undo 31 = .ok (.ireturn, 1) := by decide +kernel
theorem dX4_save_0 : decode cX4_save 0 = .ok (.iload_n 1, 1) := by decide +kernel
theorem dX4_save_1 : decode cX4_save 1 = .ok (.iconst 0, 1) := by decide +kernel
theorem dX4_save_2 : decode cX4_save 2 = .ok (.iconst 1, 1) := by decide +kernel
theorem dX4_save_3 : decode cX4_save 3 = .ok (.invokestatic 41, 3) := by decide +kernel
theorem dX4_save_6 : decode cX4_save 6 = .ok (.ifCond .ne 6, 3) := by decide +kernel
theorem dX4_save_9 : decode cX4_save 9 = .ok (.bipush (-2), 2) := by decide +kernel
theorem dX4_save_11 : decode cX4_save 11 = .ok (.ireturn, 1) := by decide +kernel
theorem dX4_save_12 : decode cX4_save 12 = .ok (.aload_n 0, 1) := by decide +kernel
theorem dX4_save_13 : decode cX4_save 13 = .ok (.getfield 33, 3) := by decide +kernel
theorem dX4_save_16 : decode cX4_save 16 = .ok (.iload_n 1, 1) := by decide +kernel
theorem dX4_save_17 : decode cX4_save 17 = .ok (.aaload, 1) := by decide +kernel
theorem dX4_save_18 : decode cX4_save 18 = .ok (.astore_n 2, 1) := by decide +kernel
theorem dX4_save_19 : decode cX4_save 19 = .ok (.aload_n 2, 1) := by decide +kernel
theorem dX4_save_20 : decode cX4_save 20 = .ok (.ifnull 18, 3) := by decide +kernel
theorem dX4_save_23 : decode cX4_save 23 = .ok (.aload_n 2, 1) := by decide +kernel
theorem dX4_save_24 : decode cX4_save 24 = .ok (.aload_n 0, 1) := by decide +kernel
theorem dX4_save_25 : decode cX4_save 25 = .ok (.getfield 10, 3) := by decide +kernel
theorem dX4_save_28 : decode cX4_save 28 = .ok (.invokevirtual 203, 3) := by decide +kernel
theorem dX4_save_31 : decode cX4_save 31 = .ok (.aload_n 0, 1) := by decide +kernel
theorem dX4_save_32 : decode cX4_save 32 = .ok (.getfield 37, 3) := by decide +kernel
theorem dX4_save_35 : decode cX4_save 35 = .ok (.iload_n 1, 1) := by decide +kernel
theorem dX4_save_36 : decode cX4_save 36 = .ok (.iconst 1, 1) := by decide +kernel
theorem dX4_save_37 : decode cX4_save 37 = .ok (.bastore, 1) := by decide +kernel
theorem dX4_save_38 : decode cX4_save 38 = .ok (.aload_n 0, 1) := by decide +kernel
theorem dX4_save_39 : decode cX4_save 39 = .ok (.getfield 10, 3) := by decide +kernel
theorem dX4_save_42 : decode cX4_save 42 = .ok (.getfield 124, 3) := by decide +kernel
theorem dX4_save_45 : decode cX4_save 45 = .ok (.ireturn, 1) := by decide +kernel
theorem dX4_restore_0 : decode cX4_restore 0 = .ok (.iload_n 1, 1) := by decide +kernel
theorem dX4_restore_1 : decode cX4_restore 1 = .ok (.iconst 0, 1) := by decide +kernel
theorem dX4_restore_2 : decode cX4_restore 2 = .ok (.iconst 1, 1) := by decide +kernel
theorem dX4_restore_3 : decode cX4_restore 3 = .ok (.invokestatic 41, 3) := by decide +kernel
theorem dX4_restore_6 : decode cX4_restore 6 = .ok (.ifCond .ne 6, 3) := by decide +kernel
theorem dX4_restore_9 : decode cX4_restore 9 = .ok (.bipush (-2), 2) := by decide +kernel
theorem dX4_restore_11 : decode cX4_restore 11 = .ok (.ireturn, 1) := by decide +kernel
theorem dX4_restore_12 : decode cX4_restore 12 = .ok (.aload_n 0, 1) := by decide +kernel
theorem dX4_restore_13 : decode cX4_restore 13 = .ok (.getfield 37, 3) := by decide +kernel
theorem dX4_restore_16 : decode cX4_restore 16 = .ok (.iload_n 1, 1) := by decide +kernel
theorem dX4_restore_17 : decode cX4_restore 17 = .ok (.baload, 1) := by decide +kernel
theorem dX4_restore_18 : decode cX4_restore 18 = .ok (.ifCond .ne 6, 3) := by decide +kernel
theorem dX4_restore_21 : decode cX4_restore 21 = .ok (.bipush (-5), 2) := by decide +kernel
theorem dX4_restore_23 : decode cX4_restore 23 = .ok (.ireturn, 1) := by decide +kernel
theorem dX4_restore_24 : decode cX4_restore 24 = .ok (.aload_n 0, 1) := by decide +kernel
theorem dX4_restore_25 : decode cX4_restore 25 = .ok (.getfield 29, 3) := by decide +kernel
theorem dX4_restore_28 : decode cX4_restore 28 = .ok (.aload_n 0, 1) := by decide +kernel
theorem dX4_restore_29 : decode cX4_restore 29 = .ok (.getfield 10, 3) := by decide +kernel
theorem dX4_restore_32 : decode cX4_restore 32 = .ok (.invokevirtual 52, 3) := by decide +kernel
theorem dX4_restore_35 : decode cX4_restore 35 = .ok (.aload_n 0, 1) := by decide +kernel
theorem dX4_restore_36 : decode cX4_restore 36 = .ok (.getfield 10, 3) := by decide +kernel
theorem dX4_restore_39 : decode cX4_restore 39 = .ok (.aload_n 0, 1) := by decide +kernel
theorem dX4_restore_40 : decode cX4_restore 40 = .ok (.getfield 33, 3) := by decide +kernel
theorem dX4_restore_43 : decode cX4_restore 43 = .ok (.iload_n 1, 1) := by decide +kernel
theorem dX4_restore_44 : decode cX4_restore 44 = .ok (.aaload, 1) := by decide +kernel
theorem dX4_restore_45 : decode cX4_restore 45 = .ok (.invokevirtual 203, 3) := by decide +kernel
theorem dX4_restore_48 : decode cX4_restore 48 = .ok (.aload_n 0, 1) := by decide +kernel
theorem dX4_restore_49 : decode cX4_restore 49 = .ok (.getfield 10, 3) := by decide +kernel
theorem dX4_restore_52 : decode cX4_restore 52 = .ok (.getfield 124, 3) := by decide +kernel
theorem dX4_restore_55 : decode cX4_restore 55 = .ok (.ireturn, 1) := by decide +kernel
theorem dX4_carryAct_0 : decode cX4_carryAct 0 = .ok (.aload_n 0, 1) := by decide +kernel
theorem dX4_carryAct_1 : decode cX4_carryAct 1 = .ok (.getfield 22, 3) := by decide +kernel
theorem dX4_carryAct_4 : decode cX4_carryAct 4 = .ok (.getfield 263, 3) := by decide +kernel
theorem dX4_carryAct_7 : decode cX4_carryAct 7 = .ok (.bipush 102, 2) := by decide +kernel
theorem dX4_carryAct_9 : decode cX4_carryAct 9 = .ok (.if_icmp .ne 29, 3) := by decide +kernel
theorem dX4_carryAct_12 : decode cX4_carryAct 12 = .ok (.aload_n 0, 1) := by decide +kernel
theorem dX4_carryAct_13 : decode cX4_carryAct 13 = .ok (.aload_n 0, 1) := by decide +kernel
theorem dX4_carryAct_14 : decode cX4_carryAct 14 = .ok (.getfield 22, 3) := by decide +kernel
theorem dX4_carryAct_17 : decode cX4_carryAct 17 = .ok (.getfield 267, 3) := by decide +kernel
theorem dX4_carryAct_20 : decode cX4_carryAct 20 = .ok (.aload_n 0, 1) := by decide +kernel
theorem dX4_carryAct_21 : decode cX4_carryAct 21 = .ok (.getfield 22, 3) := by decide +kernel
theorem dX4_carryAct_24 : decode cX4_carryAct 24 = .ok (.getfield 270, 3) := by decide +kernel
theorem dX4_carryAct_27 : decode cX4_carryAct 27 = .ok (.aload_n 0, 1) := by decide +kernel
theorem dX4_carryAct_28 : decode cX4_carryAct 28 = .ok (.getfield 22, 3) := by decide +kernel
theorem dX4_carryAct_31 : decode cX4_carryAct 31 = .ok (.getfield 273, 3) := by decide +kernel
theorem dX4_carryAct_34 : decode cX4_carryAct 34 = .ok (.invokevirtual 276, 3) := by decide +kernel
theorem dX4_carryAct_37 : decode cX4_carryAct 37 = .ok (.ireturn, 1) := by decide +kernel
theorem dX4_carryAct_38 : decode cX4_carryAct 38 = .ok (.aload_n 0, 1) := by decide +kernel
theorem dX4_carryAct_39 : decode cX4_carryAct 39 = .ok (.getfield 22, 3) := by decide +kernel
theorem dX4_carryAct_42 : decode cX4_carryAct 42 = .ok (.getfield 263, 3) := by decide +kernel
theorem dX4_carryAct_45 : decode cX4_carryAct 45 = .ok (.bipush 97, 2) := by decide +kernel
theorem dX4_carryAct_47 : decode cX4_carryAct 47 = .ok (.if_icmp .ne 22, 3) := by decide +kernel
theorem dX4_carryAct_50 : decode cX4_carryAct 50 = .ok (.aload_n 0, 1) := by decide +kernel
theorem dX4_carryAct_51 : decode cX4_carryAct 51 = .ok (.aload_n 0, 1) := by decide +kernel
theorem dX4_carryAct_52 : decode cX4_carryAct 52 = .ok (.getfield 22, 3) := by decide +kernel
theorem dX4_carryAct_55 : decode cX4_carryAct 55 = .ok (.getfield 267, 3) := by decide +kernel
theorem dX4_carryAct_58 : decode cX4_carryAct 58 = .ok (.aload_n 0, 1) := by decide +kernel
theorem dX4_carryAct_59 : decode cX4_carryAct 59 = .ok (.getfield 22, 3) := by decide +kernel
theorem dX4_carryAct_62 : decode cX4_carryAct 62 = .ok (.getfield 273, 3) := by decide +kernel
theorem dX4_carryAct_65 : decode cX4_carryAct 65 = .ok (.invokevirtual 280, 3) := by decide +kernel
theorem dX4_carryAct_68 : decode cX4_carryAct 68 = .ok (.ireturn, 1) := by decide +kernel
theorem dX4_carryAct_69 : decode cX4_carryAct 69 = .ok (.aload_n 0, 1) := by decide +kernel
theorem dX4_carryAct_70 : decode cX4_carryAct 70 = .ok (.getfield 22, 3) := by decide +kernel
theorem dX4_carryAct_73 : decode cX4_carryAct 73 = .ok (.getfield 263, 3) := by decide +kernel
theorem dX4_carryAct_76 : decode cX4_carryAct 76 = .ok (.bipush 108, 2) := by decide +kernel
theorem dX4_carryAct_78 : decode cX4_carryAct 78 = .ok (.if_icmp .ne 29, 3) := by decide +kernel
theorem dX4_carryAct_81 : decode cX4_carryAct 81 = .ok (.aload_n 0, 1) := by decide +kernel
theorem dX4_carryAct_82 : decode cX4_carryAct 82 = .ok (.aload_n 0, 1) := by decide +kernel
theorem dX4_carryAct_83 : decode cX4_carryAct 83 = .ok (.getfield 22, 3) := by decide +kernel
theorem dX4_carryAct_86 : decode cX4_carryAct 86 = .ok (.getfield 267, 3) := by decide +kernel
theorem dX4_carryAct_89 : decode cX4_carryAct 89 = .ok (.aload_n 0, 1) := by decide +kernel
theorem dX4_carryAct_90 : decode cX4_carryAct 90 = .ok (.getfield 22, 3) := by decide +kernel
theorem dX4_carryAct_93 : decode cX4_carryAct 93 = .ok (.getfield 270, 3) := by decide +kernel
theorem dX4_carryAct_96 : decode cX4_carryAct 96 = .ok (.aload_n 0, 1) := by decide +kernel
theorem dX4_carryAct_97 : decode cX4_carryAct 97 = .ok (.getfield 22, 3) := by decide +kernel
theorem dX4_carryAct_100 : decode cX4_carryAct 100 = .ok (.getfield 273, 3) := by decide +kernel
theorem dX4_carryAct_103 : decode cX4_carryAct 103 = .ok (.invokevirtual 283, 3) := by decide +kernel
theorem dX4_carryAct_106 : decode cX4_carryAct 106 = .ok (.ireturn, 1) := by decide +kernel
theorem dX4_carryAct_107 : decode cX4_carryAct 107 = .ok (.aload_n 0, 1) := by decide +kernel
theorem dX4_carryAct_108 : decode cX4_carryAct 108 = .ok (.getfield 22, 3) := by decide +kernel
theorem dX4_carryAct_111 : decode cX4_carryAct 111 = .ok (.getfield 263, 3) := by decide +kernel
theorem dX4_carryAct_114 : decode cX4_carryAct 114 = .ok (.bipush 112, 2) := by decide +kernel
theorem dX4_carryAct_116 : decode cX4_carryAct 116 = .ok (.if_icmp .ne 10, 3) := by decide +kernel
theorem dX4_carryAct_119 : decode cX4_carryAct 119 = .ok (.aload_n 0, 1) := by decide +kernel
theorem dX4_carryAct_120 : decode cX4_carryAct 120 = .ok (.invokevirtual 285, 3) := by decide +kernel
theorem dX4_carryAct_123 : decode cX4_carryAct 123 = .ok (.goto 14, 3) := by decide +kernel
theorem dX4_carryAct_126 : decode cX4_carryAct 126 = .ok (.aload_n 0, 1) := by decide +kernel
theorem dX4_carryAct_127 : decode cX4_carryAct 127 = .ok (.aload_n 0, 1) := by decide +kernel
theorem dX4_carryAct_128 : decode cX4_carryAct 128 = .ok (.getfield 22, 3) := by decide +kernel
theorem dX4_carryAct_131 : decode cX4_carryAct 131 = .ok (.getfield 273, 3) := by decide +kernel
theorem dX4_carryAct_134 : decode cX4_carryAct 134 = .ok (.invokevirtual 288, 3) := by decide +kernel
theorem dX4_carryAct_137 : decode cX4_carryAct 137 = .ok (.ireturn, 1) := by decide +kernel
theorem dX4_isError_0 : decode cX4_isError 0 = .ok (.iload_n 0, 1) := by decide +kernel
theorem dX4_isError_1 : decode cX4_isError 1 = .ok (.ifCond .ge 13, 3) := by decide +kernel
theorem dX4_isError_4 : decode cX4_isError 4 = .ok (.iload_n 0, 1) := by decide +kernel
theorem dX4_isError_5 : decode cX4_isError 5 = .ok (.bipush (-6), 2) := by decide +kernel
theorem dX4_isError_7 : decode cX4_isError 7 = .ok (.if_icmp .eq 7, 3) := by decide +kernel
theorem dX4_isError_10 : decode cX4_isError 10 = .ok (.iconst 1, 1) := by decide +kernel
theorem dX4_isError_11 : decode cX4_isError 11 = .ok (.goto 4, 3) := by decide +kernel
theorem dX4_isError_14 : decode cX4_isError 14 = .ok (.iconst 0, 1) := by decide +kernel
theorem dX4_isError_15 : decode cX4_isError 15 = .ok (.ireturn, 1) := by decide +kernel
theorem dX4_isIn_0 : decode cX4_isIn 0 = .ok (.iload_n 0, 1) := by decide +kernel
theorem dX4_isIn_1 : decode cX4_isIn 1 = .ok (.iload_n 1, 1) := by decide +kernel
theorem dX4_isIn_2 : decode cX4_isIn 2 = .ok (.if_icmp .lt 12, 3) := by decide +kernel
theorem dX4_isIn_5 : decode cX4_isIn 5 = .ok (.iload_n 0, 1) := by decide +kernel
theorem dX4_isIn_6 : decode cX4_isIn 6 = .ok (.iload_n 2, 1) := by decide +kernel
theorem dX4_isIn_7 : decode cX4_isIn 7 = .ok (.if_icmp .gt 7, 3) := by decide +kernel
theorem dX4_isIn_10 : decode cX4_isIn 10 = .ok (.iconst 1, 1) := by decide +kernel
theorem dX4_isIn_11 : decode cX4_isIn 11 = .ok (.goto 4, 3) := by decide +kernel
theorem dX4_isIn_14 : decode cX4_isIn 14 = .ok (.iconst 0, 1) := by decide +kernel
theorem dX4_isIn_15 : decode cX4_isIn 15 = .ok (.ireturn, 1) := by decide +kernel
theorem dX4_isWeek_0 : decode cX4_isWeek 0 = .ok (.iload_n 0, 1) := by decide +kernel
theorem dX4_isWeek_1 : decode cX4_isWeek 1 = .ok (.ifCond .lt 13, 3) := by decide +kernel
theorem dX4_isWeek_4 : decode cX4_isWeek 4 = .ok (.iload_n 0, 1) := by decide +kernel
theorem dX4_isWeek_5 : decode cX4_isWeek 5 = .ok (.bipush 12, 2) := by decide +kernel
theorem dX4_isWeek_7 : decode cX4_isWeek 7 = .ok (.if_icmp .ge 7, 3) := by decide +kernel
theorem dX4_isWeek_10 : decode cX4_isWeek 10 = .ok (.iconst 1, 1) := by decide +kernel
theorem dX4_isWeek_11 : decode cX4_isWeek 11 = .ok (.goto 4, 3) := by decide +kernel
theorem dX4_isWeek_14 : decode cX4_isWeek 14 = .ok (.iconst 0, 1) := by decide +kernel
theorem dX4_isWeek_15 : decode cX4_isWeek 15 = .ok (.ireturn, 1) := by decide +kernel
theorem dX4_isFamily_0 : decode cX4_isFamily 0 = .ok (.iload_n 0, 1) := by decide +kernel
theorem dX4_isFamily_1 : decode cX4_isFamily 1 = .ok (.ifCond .lt 12, 3) := by decide +kernel
theorem dX4_isFamily_4 : decode cX4_isFamily 4 = .ok (.iload_n 0, 1) := by decide +kernel
theorem dX4_isFamily_5 : decode cX4_isFamily 5 = .ok (.iconst 4, 1) := by decide +kernel
theorem dX4_isFamily_6 : decode cX4_isFamily 6 = .ok (.if_icmp .ge 7, 3) := by decide +kernel
theorem dX4_isFamily_9 : decode cX4_isFamily 9 = .ok (.iconst 1, 1) := by decide +kernel
theorem dX4_isFamily_10 : decode cX4_isFamily 10 = .ok (.goto 4, 3) := by decide +kernel
theorem dX4_isFamily_13 : decode cX4_isFamily 13 = .ok (.iconst 0, 1) := by decide +kernel
theorem dX4_isFamily_14 : decode cX4_isFamily 14 = .ok (.ireturn, 1) := by decide +kernel
theorem dX5_init_0 : decode cX5_init 0 = .ok (.aload_n 0, 1) := by decide +kernel
theorem dX5_init_1 : decode cX5_init 1 = .ok (.invokespecial 1, 3) := by decide +kernel
theorem dX5_init_4 : decode cX5_init 4 = .ok (.aload_n 0, 1) := by decide +kernel
theorem dX5_init_5 : decode cX5_init 5 = .ok (.sipush 378, 3) := by decide +kernel
theorem dX5_init_8 : decode cX5_init 8 = .ok (.newarray .long, 2) := by decide +kernel
theorem dX5_init_10 : decode cX5_init 10 = .ok (.putfield 7, 3) := by decide +kernel
theorem dX5_init_13 : decode cX5_init 13 = .ok (.aload_n 0, 1) := by decide +kernel
theorem dX5_init_14 : decode cX5_init 14 = .ok (.sipush 3402, 3) := by decide +kernel
theorem dX5_init_17 : decode cX5_init 17 = .ok (.newarray .long, 2) := by decide +kernel
theorem dX5_init_19 : decode cX5_init 19 = .ok (.putfield 13, 3) := by decide +kernel
theorem dX5_init_22 : decode cX5_init 22 = .ok (.aload_n 0, 1) := by decide +kernel
theorem dX5_init_23 : decode cX5_init 23 = .ok (.iconst 2, 1) := by decide +kernel
theorem dX5_init_24 : decode cX5_init 24 = .ok (.newarray .int, 2) := by decide +kernel
theorem dX5_init_26 : decode cX5_init 26 = .ok (.putfield 16, 3) := by decide +kernel
theorem dX5_init_29 : decode cX5_init 29 = .ok (.aload_n 0, 1) := by decide +kernel
theorem dX5_init_30 : decode cX5_init 30 = .ok (.bipush 80, 2) := by decide +kernel
theorem dX5_init_32 : decode cX5_init 32 = .ok (.newarray .int, 2) := by decide +kernel
theorem dX5_init_34 : decode cX5_init 34 = .ok (.putfield 20, 3) := by decide +kernel
theorem dX5_init_37 : decode cX5_init 37 = .ok (.aload_n 0, 1) := by decide +kernel
theorem dX5_init_38 : decode cX5_init 38 = .ok (.getfield 7, 3) := by decide +kernel
theorem dX5_init_41 : decode cX5_init 41 = .ok (.iconst 5, 1) := by decide +kernel
theorem dX5_init_42 : decode cX5_init 42 = .ok (.ldc2_w 23, 3) := by decide +kernel
theorem dX5_init_45 : decode cX5_init 45 = .ok (.lastore, 1) := by decide +kernel
theorem dX5_init_46 : decode cX5_init 46 = .ok (.aload_n 0, 1) := by decide +kernel
theorem dX5_init_47 : decode cX5_init 47 = .ok (.getfield 7, 3) := by decide +kernel
theorem dX5_init_50 : decode cX5_init 50 = .ok (.bipush 6, 2) := by decide +kernel
theorem dX5_init_52 : decode cX5_init 52 = .ok (.ldc2_w 25, 3) := by decide +kernel
theorem dX5_init_55 : decode cX5_init 55 = .ok (.lastore, 1) := by decide +kernel
theorem dX5_init_56 : decode cX5_init 56 = .ok (.aload_n 0, 1) := by decide +kernel
theorem dX5_init_57 : decode cX5_init 57 = .ok (.getfield 7, 3) := by decide +kernel
theorem dX5_init_60 : decode cX5_init 60 = .ok (.bipush 7, 2) := by decide +kernel
theorem dX5_init_62 : decode cX5_init 62 = .ok (.ldc2_w 27, 3) := by decide +kernel
theorem dX5_init_65 : decode cX5_init 65 = .ok (.lastore, 1) := by decide +kernel
theorem dX5_init_66 : decode cX5_init 66 = .ok (.aload_n 0, 1) := by decide +kernel
theorem dX5_init_67 : decode cX5_init 67 = .ok (.getfield 7, 3) := by decide +kernel
theorem dX5_init_70 : decode cX5_init 70 = .ok (.bipush 8, 2) := by decide +kernel
theorem dX5_init_72 : decode cX5_init 72 = .ok (.ldc2_w 27, 3) := by decide +kernel
theorem dX5_init_75 : decode cX5_init 75 = .ok (.lastore, 1) := by decide +kernel
theorem dX5_init_76 : decode cX5_init 76 = .ok (.aload_n 0, 1) := by decide +kernel
theorem dX5_init_77 : decode cX5_init 77 = .ok (.getfield 7, 3) := by decide +kernel
theorem dX5_init_80 : decode cX5_init 80 = .ok (.bipush 9, 2) := by decide +kernel
theorem dX5_init_82 : decode cX5_init 82 = .ok (.ldc2_w 23, 3) := by decide +kernel
theorem dX5_init_85 : decode cX5_init 85 = .ok (.lastore, 1) := by decide +kernel
theorem dX5_init_86 : decode cX5_init 86 = .ok (.aload_n 0, 1) := by decide +kernel
theorem dX5_init_87 : decode cX5_init 87 = .ok (.getfield 7, 3) := by decide +kernel
theorem dX5_init_90 : decode cX5_init 90 = .ok (.bipush 10, 2) := by decide +kernel
theorem dX5_init_92 : decode cX5_init 92 = .ok (.ldc2_w 29, 3) := by decide +kernel
theorem dX5_init_95 : decode cX5_init 95 = .ok (.lastore, 1) := by decide +kernel
theorem dX5_init_96 : decode cX5_init 96 = .ok (.aload_n 0, 1) := by decide +kernel
theorem dX5_init_97 : decode cX5_init 97 = .ok (.getfield 7, 3) := by decide +kernel
theorem dX5_init_100 : decode cX5_init 100 = .ok (.bipush 11, 2) := by decide +kernel
theorem dX5_init_102 : decode cX5_init 102 = .ok (.lconst 1, 1) := by decide +kernel
theorem dX5_init_103 : decode cX5_init 103 = .ok (.lastore, 1) := by decide +kernel
theorem dX5_init_104 : decode cX5_init 104 = .ok (.aload_n 0, 1) := by decide +kernel
theorem dX5_init_105 : decode cX5_init 105 = .ok (.getfield 7, 3) := by decide +kernel
theorem dX5_init_108 : decode cX5_init 108 = .ok (.bipush 12, 2) := by decide +kernel
theorem dX5_init_110 : decode cX5_init 110 = .ok (.ldc2_w 31, 3) := by decide +kernel
theorem dX5_init_113 : decode cX5_init 113 = .ok (.lastore, 1) := by decide +kernel
theorem dX5_init_114 : decode cX5_init 114 = .ok (.aload_n 0, 1) := by decide +kernel
theorem dX5_init_115 : decode cX5_init 115 = .ok (.getfield 7, 3) := by decide +kernel
theorem dX5_init_118 : decode cX5_init 118 = .ok (.bipush 13, 2) := by decide +kernel
theorem dX5_init_120 : decode cX5_init 120 = .ok (.ldc2_w 33, 3) := by decide +kernel
theorem dX5_init_123 : decode cX5_init 123 = .ok (.lastore, 1) := by decide +kernel
theorem dX5_init_124 : decode cX5_init 124 = .ok (.iconst 0, 1) := by decide +kernel
theorem dX5_init_125 : decode cX5_init 125 = .ok (.istore_n 1, 1) := by decide +kernel
theorem dX5_init_126 : decode cX5_init 126 = .ok (.iload_n 1, 1) := by decide +kernel
theorem dX5_init_127 : decode cX5_init 127 = .ok (.iconst 4, 1) := by decide +kernel
theorem dX5_init_128 : decode cX5_init 128 = .ok (.if_icmp .ge 21, 3) := by decide +kernel
theorem dX5_init_131 : decode cX5_init 131 = .ok (.aload_n 0, 1) := by decide +kernel
theorem dX5_init_132 : decode cX5_init 132 = .ok (.getfield 7, 3) := by decide +kernel
theorem dX5_init_135 : decode cX5_init 135 = .ok (.bipush 14, 2) := by decide +kernel
theorem dX5_init_137 : decode cX5_init 137 = .ok (.iload_n 1, 1) := by decide +kernel
theorem dX5_init_138 : decode cX5_init 138 = .ok (.iadd, 1) := by decide +kernel
theorem dX5_init_139 : decode cX5_init 139 = .ok (.ldc2_w 31, 3) := by decide +kernel
theorem dX5_init_142 : decode cX5_init 142 = .ok (.lastore, 1) := by decide +kernel
theorem dX5_init_143 : decode cX5_init 143 = .ok (.iinc 1 1, 3) := by decide +kernel
theorem dX5_init_146 : decode cX5_init 146 = .ok (.goto (-20), 3) := by decide +kernel
theorem dX5_init_149 : decode cX5_init 149 = .ok (.return_, 1) := by decide +kernel
theorem dX5_isIn_0 : decode cX5_isIn 0 = .ok (.lload_n 0, 1) := by decide +kernel
theorem dX5_isIn_1 : decode cX5_isIn 1 = .ok (.lload_n 2, 1) := by decide +kernel
theorem dX5_isIn_2 : decode cX5_isIn 2 = .ok (.lcmp, 1) := by decide +kernel
theorem dX5_isIn_3 : decode cX5_isIn 3 = .ok (.ifCond .lt 14, 3) := by decide +kernel
theorem dX5_isIn_6 : decode cX5_isIn 6 = .ok (.lload_n 0, 1) := by decide +kernel
theorem dX5_isIn_7 : decode cX5_isIn 7 = .ok (.lload 4, 2) := by decide +kernel
theorem dX5_isIn_9 : decode cX5_isIn 9 = .ok (.lcmp, 1) := by decide +kernel
theorem dX5_isIn_10 : decode cX5_isIn 10 = .ok (.ifCond .gt 7, 3) := by decide +kernel
theorem dX5_isIn_13 : decode cX5_isIn 13 = .ok (.iconst 1, 1) := by decide +kernel
theorem dX5_isIn_14 : decode cX5_isIn 14 = .ok (.goto 4, 3) := by decide +kernel
theorem dX5_isIn_17 : decode cX5_isIn 17 = .ok (.iconst 0, 1) := by decide +kernel
theorem dX5_isIn_18 : decode cX5_isIn 18 = .ok (.ireturn, 1) := by decide +kernel
theorem dX5_isProduct_0 : decode cX5_isProduct 0 = .ok (.iload_n 1, 1) := by decide +kernel
theorem dX5_isProduct_1 : decode cX5_isProduct 1 = .ok (.i2l, 1) := by decide +kernel
theorem dX5_isProduct_2 : decode cX5_isProduct 2 = .ok (.lconst 0, 1) := by decide +kernel
theorem dX5_isProduct_3 : decode cX5_isProduct 3 = .ok (.aload_n 0, 1) := by decide +kernel
theorem dX5_isProduct_4 : decode cX5_isProduct 4 = .ok (.getfield 7, 3) := by decide +kernel
theorem dX5_isProduct_7 : decode cX5_isProduct 7 = .ok (.iconst 1, 1) := by decide +kernel
theorem dX5_isProduct_8 : decode cX5_isProduct 8 = .ok (.laload, 1) := by decide +kernel
theorem dX5_isProduct_9 : decode cX5_isProduct 9 = .ok (.lconst 1, 1) := by decide +kernel
theorem dX5_isProduct_10 : decode cX5_isProduct 10 = .ok (.lsub, 1) := by decide +kernel
theorem dX5_isProduct_11 : decode cX5_isProduct 11 = .ok (.invokestatic 35, 3) := by decide +kernel
theorem dX5_isProduct_14 : decode cX5_isProduct 14 = .ok (.ireturn, 1) := by decide +kernel
theorem dX5_isWeek_0 : decode cX5_isWeek 0 = .ok (.iload_n 0, 1) := by decide +kernel
theorem dX5_isWeek_1 : decode cX5_isWeek 1 = .ok (.i2l, 1) := by decide +kernel
theorem dX5_isWeek_2 : decode cX5_isWeek 2 = .ok (.lconst 0, 1) := by decide +kernel
theorem dX5_isWeek_3 : decode cX5_isWeek 3 = .ok (.ldc2_w 39, 3) := by decide +kernel
theorem dX5_isWeek_6 : decode cX5_isWeek 6 = .ok (.invokestatic 35, 3) := by decide +kernel
theorem dX5_isWeek_9 : decode cX5_isWeek 9 = .ok (.ireturn, 1) := by decide +kernel
theorem dX5_ofP_0 : decode cX5_ofP 0 = .ok (.aload_n 0, 1) := by decide +kernel
theorem dX5_ofP_1 : decode cX5_ofP 1 = .ok (.getfield 7, 3) := by decide +kernel
theorem dX5_ofP_4 : decode cX5_ofP 4 = .ok (.bipush 18, 2) := by decide +kernel
theorem dX5_ofP_6 : decode cX5_ofP 6 = .ok (.bipush 36, 2) := by decide +kernel
theorem dX5_ofP_8 : decode cX5_ofP 8 = .ok (.iload_n 1, 1) := by decide +kernel
theorem dX5_ofP_9 : decode cX5_ofP 9 = .ok (.imul, 1) := by decide +kernel
theorem dX5_ofP_10 : decode cX5_ofP 10 = .ok (.iadd, 1) := by decide +kernel
theorem dX5_ofP_11 : decode cX5_ofP 11 = .ok (.iload_n 2, 1) := by decide +kernel
theorem dX5_ofP_12 : decode cX5_ofP 12 = .ok (.iadd, 1) := by decide +kernel
theorem dX5_ofP_13 : decode cX5_ofP 13 = .ok (.laload, 1) := by decide +kernel
theorem dX5_ofP_14 : decode cX5_ofP 14 = .ok (.lreturn, 1) := by decide +kernel
theorem dX5_becomes_0 : decode cX5_becomes 0 = .ok (.aload_n 0, 1) := by decide +kernel
theorem dX5_becomes_1 : decode cX5_becomes 1 = .ok (.getfield 7, 3) := by decide +kernel
theorem dX5_becomes_4 : decode cX5_becomes 4 = .ok (.bipush 18, 2) := by decide +kernel
theorem dX5_becomes_6 : decode cX5_becomes 6 = .ok (.bipush 36, 2) := by decide +kernel
theorem dX5_becomes_8 : decode cX5_becomes 8 = .ok (.iload_n 1, 1) := by decide +kernel
theorem dX5_becomes_9 : decode cX5_becomes 9 = .ok (.imul, 1) := by decide +kernel
theorem dX5_becomes_10 : decode cX5_becomes 10 = .ok (.iadd, 1) := by decide +kernel
theorem dX5_becomes_11 : decode cX5_becomes 11 = .ok (.iload_n 2, 1) := by decide +kernel
theorem dX5_becomes_12 : decode cX5_becomes 12 = .ok (.iadd, 1) := by decide +kernel
theorem dX5_becomes_13 : decode cX5_becomes 13 = .ok (.lload_n 3, 1) := by decide +kernel
theorem dX5_becomes_14 : decode cX5_becomes 14 = .ok (.lastore, 1) := by decide +kernel
theorem dX5_becomes_15 : decode cX5_becomes 15 = .ok (.return_, 1) := by decide +kernel
theorem dX5_setting_0 : decode cX5_setting 0 = .ok (.aload_n 0, 1) := by decide +kernel
theorem dX5_setting_1 : decode cX5_setting 1 = .ok (.getfield 7, 3) := by decide +kernel
theorem dX5_setting_4 : decode cX5_setting 4 = .ok (.iconst 5, 1) := by decide +kernel
theorem dX5_setting_5 : decode cX5_setting 5 = .ok (.iload_n 1, 1) := by decide +kernel
theorem dX5_setting_6 : decode cX5_setting 6 = .ok (.iadd, 1) := by decide +kernel
theorem dX5_setting_7 : decode cX5_setting 7 = .ok (.laload, 1) := by decide +kernel
theorem dX5_setting_8 : decode cX5_setting 8 = .ok (.lreturn, 1) := by decide +kernel
theorem dX5_fence_0 : decode cX5_fence 0 = .ok (.aload_n 0, 1) := by decide +kernel
theorem dX5_fence_1 : decode cX5_fence 1 = .ok (.iconst 2, 1) := by decide +kernel
theorem dX5_fence_2 : decode cX5_fence 2 = .ok (.invokevirtual 41, 3) := by decide +kernel
theorem dX5_fence_5 : decode cX5_fence 5 = .ok (.l2i, 1) := by decide +kernel
theorem dX5_fence_6 : decode cX5_fence 6 = .ok (.ireturn, 1) := by decide +kernel
theorem dX5_keeps_0 : decode cX5_keeps 0 = .ok (.iconst 0, 1) := by decide +kernel
theorem dX5_keeps_1 : decode cX5_keeps 1 = .ok (.istore_n 2, 1) := by decide +kernel
theorem dX5_keeps_2 : decode cX5_keeps 2 = .ok (.iload_n 2, 1) := by decide +kernel
theorem dX5_keeps_3 : decode cX5_keeps 3 = .ok (.sipush 378, 3) := by decide +kernel
theorem dX5_keeps_6 : decode cX5_keeps 6 = .ok (.if_icmp .ge 27, 3) := by decide +kernel
theorem dX5_keeps_9 : decode cX5_keeps 9 = .ok (.aload_n 0, 1) := by decide +kernel
theorem dX5_keeps_10 : decode cX5_keeps 10 = .ok (.getfield 13, 3) := by decide +kernel
theorem dX5_keeps_13 : decode cX5_keeps 13 = .ok (.iload_n 1, 1) := by decide +kernel
theorem dX5_keeps_14 : decode cX5_keeps 14 = .ok (.sipush 378, 3) := by decide +kernel
theorem dX5_keeps_17 : decode cX5_keeps 17 = .ok (.imul, 1) := by decide +kernel
theorem dX5_keeps_18 : decode cX5_keeps 18 = .ok (.iload_n 2, 1) := by decide +kernel
theorem dX5_keeps_19 : decode cX5_keeps 19 = .ok (.iadd, 1) := by decide +kernel
theorem dX5_keeps_20 : decode cX5_keeps 20 = .ok (.aload_n 0, 1) := by decide +kernel
theorem dX5_keeps_21 : decode cX5_keeps 21 = .ok (.getfield 7, 3) := by decide +kernel
theorem dX5_keeps_24 : decode cX5_keeps 24 = .ok (.iload_n 2, 1) := by decide +kernel
theorem dX5_keeps_25 : decode cX5_keeps 25 = .ok (.laload, 1) := by decide +kernel
theorem dX5_keeps_26 : decode cX5_keeps 26 = .ok (.lastore, 1) := by decide +kernel
theorem dX5_keeps_27 : decode cX5_keeps 27 = .ok (.iinc 2 1, 3) := by decide +kernel
theorem dX5_keeps_30 : decode cX5_keeps 30 = .ok (.goto (-28), 3) := by decide +kernel
theorem dX5_keeps_33 : decode cX5_keeps 33 = .ok (.return_, 1) := by decide +kernel
theorem dX5_brings_0 : decode cX5_brings 0 = .ok (.iconst 0, 1) := by decide +kernel
theorem dX5_brings_1 : decode cX5_brings 1 = .ok (.istore_n 2, 1) := by decide +kernel
theorem dX5_brings_2 : decode cX5_brings 2 = .ok (.iload_n 2, 1) := by decide +kernel
theorem dX5_brings_3 : decode cX5_brings 3 = .ok (.sipush 378, 3) := by decide +kernel
theorem dX5_brings_6 : decode cX5_brings 6 = .ok (.if_icmp .ge 27, 3) := by decide +kernel
theorem dX5_brings_9 : decode cX5_brings 9 = .ok (.aload_n 0, 1) := by decide +kernel
theorem dX5_brings_10 : decode cX5_brings 10 = .ok (.getfield 7, 3) := by decide +kernel
theorem dX5_brings_13 : decode cX5_brings 13 = .ok (.iload_n 2, 1) := by decide +kernel
theorem dX5_brings_14 : decode cX5_brings 14 = .ok (.aload_n 0, 1) := by decide +kernel
theorem dX5_brings_15 : decode cX5_brings 15 = .ok (.getfield 13, 3) := by decide +kernel
theorem dX5_brings_18 : decode cX5_brings 18 = .ok (.iload_n 1, 1) := by decide +kernel
theorem dX5_brings_19 : decode cX5_brings 19 = .ok (.sipush 378, 3) := by decide +kernel
theorem dX5_brings_22 : decode cX5_brings 22 = .ok (.imul, 1) := by decide +kernel
theorem dX5_brings_23 : decode cX5_brings 23 = .ok (.iload_n 2, 1) := by decide +kernel
theorem dX5_brings_24 : decode cX5_brings 24 = .ok (.iadd, 1) := by decide +kernel
theorem dX5_brings_25 : decode cX5_brings 25 = .ok (.laload, 1) := by decide +kernel
theorem dX5_brings_26 : decode cX5_brings 26 = .ok (.lastore, 1) := by decide +kernel
theorem dX5_brings_27 : decode cX5_brings 27 = .ok (.iinc 2 1, 3) := by decide +kernel
theorem dX5_brings_30 : decode cX5_brings 30 = .ok (.goto (-28), 3) := by decide +kernel
theorem dX5_brings_33 : decode cX5_brings 33 = .ok (.return_, 1) := by decide +kernel
theorem dX5_records_0 : decode cX5_records 0 = .ok (.aload_n 0, 1) := by decide +kernel
theorem dX5_records_1 : decode cX5_records 1 = .ok (.getfield 45, 3) := by decide +kernel
theorem dX5_records_4 : decode cX5_records 4 = .ok (.bipush 6, 2) := by decide +kernel
theorem dX5_records_6 : decode cX5_records 6 = .ok (.if_icmp .ne 44, 3) := by decide +kernel
theorem dX5_records_9 : decode cX5_records 9 = .ok (.iconst 0, 1) := by decide +kernel
theorem dX5_records_10 : decode cX5_records 10 = .ok (.istore_n 1, 1) := by decide +kernel
theorem dX5_records_11 : decode cX5_records 11 = .ok (.iload_n 1, 1) := by decide +kernel
theorem dX5_records_12 : decode cX5_records 12 = .ok (.sipush 1890, 3) := by decide +kernel
theorem dX5_records_15 : decode cX5_records 15 = .ok (.if_icmp .ge 25, 3) := by decide +kernel
theorem dX5_records_18 : decode cX5_records 18 = .ok (.aload_n 0, 1) := by decide +kernel
theorem dX5_records_19 : decode cX5_records 19 = .ok (.getfield 13, 3) := by decide +kernel
theorem dX5_records_22 : decode cX5_records 22 = .ok (.iload_n 1, 1) := by decide +kernel
theorem dX5_records_23 : decode cX5_records 23 = .ok (.aload_n 0, 1) := by decide +kernel
theorem dX5_records_24 : decode cX5_records 24 = .ok (.getfield 13, 3) := by decide +kernel
theorem dX5_records_27 : decode cX5_records 27 = .ok (.iload_n 1, 1) := by decide +kernel
theorem dX5_records_28 : decode cX5_records 28 = .ok (.sipush 378, 3) := by decide +kernel
theorem dX5_records_31 : decode cX5_records 31 = .ok (.iadd, 1) := by decide +kernel
theorem dX5_records_32 : decode cX5_records 32 = .ok (.laload, 1) := by decide +kernel
theorem dX5_records_33 : decode cX5_records 33 = .ok (.lastore, 1) := by decide +kernel
theorem dX5_records_34 : decode cX5_records 34 = .ok (.iinc 1 1, 3) := by decide +kernel
theorem dX5_records_37 : decode cX5_records 37 = .ok (.goto (-26), 3) := by decide +kernel
theorem dX5_records_40 : decode cX5_records 40 = .ok (.aload_n 0, 1) := by decide +kernel
theorem dX5_records_41 : decode cX5_records 41 = .ok (.dup, 1) := by decide +kernel
theorem dX5_records_42 : decode cX5_records 42 = .ok (.getfield 45, 3) := by decide +kernel
theorem dX5_records_45 : decode cX5_records 45 = .ok (.iconst 1, 1) := by decide +kernel
theorem dX5_records_46 : decode cX5_records 46 = .ok (.isub, 1) := by decide +kernel
theorem dX5_records_47 : decode cX5_records 47 = .ok (.putfield 45, 3) := by decide +kernel
theorem dX5_records_50 : decode cX5_records 50 = .ok (.aload_n 0, 1) := by decide +kernel
theorem dX5_records_51 : decode cX5_records 51 = .ok (.aload_n 0, 1) := by decide +kernel
theorem dX5_records_52 : decode cX5_records 52 = .ok (.getfield 45, 3) := by decide +kernel
theorem dX5_records_55 : decode cX5_records 55 = .ok (.invokevirtual 49, 3) := by decide +kernel
theorem dX5_records_58 : decode cX5_records 58 = .ok (.aload_n 0, 1) := by decide +kernel
theorem dX5_records_59 : decode cX5_records 59 = .ok (.dup, 1) := by decide +kernel
theorem dX5_records_60 : decode cX5_records 60 = .ok (.getfield 45, 3) := by decide +kernel
theorem dX5_records_63 : decode cX5_records 63 = .ok (.iconst 1, 1) := by decide +kernel
theorem dX5_records_64 : decode cX5_records 64 = .ok (.iadd, 1) := by decide +kernel
theorem dX5_records_65 : decode cX5_records 65 = .ok (.putfield 45, 3) := by decide +kernel
theorem dX5_records_68 : decode cX5_records 68 = .ok (.return_, 1) := by decide +kernel
theorem dX5_undo_0 : decode cX5_undo 0 = .ok (.aload_n 0, 1) := by decide +kernel
theorem dX5_undo_1 : decode cX5_undo 1 = .ok (.getfield 45, 3) := by decide +kernel
theorem dX5_undo_4 : decode cX5_undo 4 = .ok (.ifCond .ne 6, 3) := by decide +kernel
theorem dX5_undo_7 : decode cX5_undo 7 = .ok (.bipush (-5), 2) := by decide +kernel
theorem dX5_undo_9 : decode cX5_undo 9 = .ok (.ireturn, 1) := by decide +kernel
theorem dX5_undo_10 : decode cX5_undo 10 = .ok (.aload_n 0, 1) := by decide +kernel
theorem dX5_undo_11 : decode cX5_undo 11 = .ok (.dup, 1) := by decide +kernel
theorem dX5_undo_12 : decode cX5_undo 12 = .ok (.getfield 45, 3) := by decide +kernel
theorem dX5_undo_15 : decode cX5_undo 15 = .ok (.iconst 1, 1) := by decide +kernel
theorem dX5_undo_16 : decode cX5_undo 16 = .ok (.isub, 1) := by decide +kernel
theorem dX5_undo_17 : decode cX5_undo 17 = .ok (.putfield 45, 3) := by decide +kernel
theorem dX5_undo_20 : decode cX5_undo 20 = .ok (.aload_n 0, 1) := by decide +kernel
theorem dX5_undo_21 : decode cX5_undo 21 = .ok (.aload_n 0, 1) := by decide +kernel
theorem dX5_undo_22 : decode cX5_undo 22 = .ok (.getfield 45, 3) := by decide +kernel
theorem dX5_undo_25 : decode cX5_undo 25 = .ok (.invokevirtual 53, 3) := by decide +kernel
theorem dX5_undo_28 : decode cX5_undo 28 = .ok (.aload_n 0, 1) := by decide +kernel
theorem dX5_undo_29 : decode cX5_undo 29 = .ok (.getfield 45, 3) := by decide +kernel
theorem dX5_undo_32 : decode cX5_undo 32 = .ok (.ireturn, 1) := by decide +kernel
theorem dX5_save_0 : decode cX5_save 0 = .ok (.iload_n 1, 1) := by decide +kernel
theorem dX5_save_1 : decode cX5_save 1 = .ok (.i2l, 1) := by decide +kernel
theorem dX5_save_2 : decode cX5_save 2 = .ok (.lconst 0, 1) := by decide +kernel
theorem dX5_save_3 : decode cX5_save 3 = .ok (.lconst 1, 1) := by decide +kernel
theorem dX5_save_4 : decode cX5_save 4 = .ok (.invokestatic 35, 3) := by decide +kernel
theorem dX5_save_7 : decode cX5_save 7 = .ok (.ifCond .ne 6, 3) := by decide +kernel
theorem dX5_save_10 : decode cX5_save 10 = .ok (.bipush (-2), 2) := by decide +kernel
theorem dX5_save_12 : decode cX5_save 12 = .ok (.ireturn, 1) := by decide +kernel
theorem dX5_save_13 : decode cX5_save 13 = .ok (.aload_n 0, 1) := by decide +kernel
theorem dX5_save_14 : decode cX5_save 14 = .ok (.bipush 6, 2) := by decide +kernel
theorem dX5_save_16 : decode cX5_save 16 = .ok (.iload_n 1, 1) := by decide +kernel
theorem dX5_save_17 : decode cX5_save 17 = .ok (.iadd, 1) := by decide +kernel
theorem dX5_save_18 : decode cX5_save 18 = .ok (.invokevirtual 49, 3) := by decide +kernel
theorem dX5_save_21 : decode cX5_save 21 = .ok (.aload_n 0, 1) := by decide +kernel
theorem dX5_save_22 : decode cX5_save 22 = .ok (.getfield 16, 3) := by decide +kernel
theorem dX5_save_25 : decode cX5_save 25 = .ok (.iload_n 1, 1) := by decide +kernel
theorem dX5_save_26 : decode cX5_save 26 = .ok (.iconst 1, 1) := by decide +kernel
theorem dX5_save_27 : decode cX5_save 27 = .ok (.iastore, 1) := by decide +kernel
theorem dX5_save_28 : decode cX5_save 28 = .ok (.aload_n 0, 1) := by decide +kernel
theorem dX5_save_29 : decode cX5_save 29 = .ok (.getfield 7, 3) := by decide +kernel
theorem dX5_save_32 : decode cX5_save 32 = .ok (.iconst 0, 1) := by decide +kernel
theorem dX5_save_33 : decode cX5_save 33 = .ok (.laload, 1) := by decide +kernel
theorem dX5_save_34 : decode cX5_save 34 = .ok (.l2i, 1) := by decide +kernel
theorem dX5_save_35 : decode cX5_save 35 = .ok (.ireturn, 1) := by decide +kernel
theorem dX5_restore_0 : decode cX5_restore 0 = .ok (.iload_n 1, 1) := by decide +kernel
theorem dX5_restore_1 : decode cX5_restore 1 = .ok (.i2l, 1) := by decide +kernel
theorem dX5_restore_2 : decode cX5_restore 2 = .ok (.lconst 0, 1) := by decide +kernel
theorem dX5_restore_3 : decode cX5_restore 3 = .ok (.lconst 1, 1) := by decide +kernel
theorem dX5_restore_4 : decode cX5_restore 4 = .ok (.invokestatic 35, 3) := by decide +kernel
theorem dX5_restore_7 : decode cX5_restore 7 = .ok (.ifCond .ne 6, 3) := by decide +kernel
theorem dX5_restore_10 : decode cX5_restore 10 = .ok (.bipush (-2), 2) := by decide +kernel
theorem dX5_restore_12 : decode cX5_restore 12 = .ok (.ireturn, 1) := by decide +kernel
theorem dX5_restore_13 : decode cX5_restore 13 = .ok (.aload_n 0, 1) := by decide +kernel
theorem dX5_restore_14 : decode cX5_restore 14 = .ok (.getfield 16, 3) := by decide +kernel
theorem dX5_restore_17 : decode cX5_restore 17 = .ok (.iload_n 1, 1) := by decide +kernel
theorem dX5_restore_18 : decode cX5_restore 18 = .ok (.iaload, 1) := by decide +kernel
theorem dX5_restore_19 : decode cX5_restore 19 = .ok (.ifCond .ne 6, 3) := by decide +kernel
theorem dX5_restore_22 : decode cX5_restore 22 = .ok (.bipush (-5), 2) := by decide +kernel
theorem dX5_restore_24 : decode cX5_restore 24 = .ok (.ireturn, 1) := by decide +kernel
theorem dX5_restore_25 : decode cX5_restore 25 = .ok (.aload_n 0, 1) := by decide +kernel
theorem dX5_restore_26 : decode cX5_restore 26 = .ok (.invokevirtual 56, 3) := by decide +kernel
theorem dX5_restore_29 : decode cX5_restore 29 = .ok (.aload_n 0, 1) := by decide +kernel
theorem dX5_restore_30 : decode cX5_restore 30 = .ok (.bipush 6, 2) := by decide +kernel
theorem dX5_restore_32 : decode cX5_restore 32 = .ok (.iload_n 1, 1) := by decide +kernel
theorem dX5_restore_33 : decode cX5_restore 33 = .ok (.iadd, 1) := by decide +kernel
theorem dX5_restore_34 : decode cX5_restore 34 = .ok (.invokevirtual 53, 3) := by decide +kernel
theorem dX5_restore_37 : decode cX5_restore 37 = .ok (.aload_n 0, 1) := by decide +kernel
theorem dX5_restore_38 : decode cX5_restore 38 = .ok (.getfield 7, 3) := by decide +kernel
theorem dX5_restore_41 : decode cX5_restore 41 = .ok (.iconst 0, 1) := by decide +kernel
theorem dX5_restore_42 : decode cX5_restore 42 = .ok (.laload, 1) := by decide +kernel
theorem dX5_restore_43 : decode cX5_restore 43 = .ok (.l2i, 1) := by decide +kernel
theorem dX5_restore_44 : decode cX5_restore 44 = .ok (.ireturn, 1) := by decide +kernel
theorem dX5_leastOf_0 : decode cX5_leastOf 0 = .ok (.iload_n 0, 1) := by decide +kernel
theorem dX5_leastOf_1 : decode cX5_leastOf 1 = .ok (.iconst 3, 1) := by decide +kernel
theorem dX5_leastOf_2 : decode cX5_leastOf 2 = .ok (.if_icmp .ne 7, 3) := by decide +kernel
theorem dX5_leastOf_5 : decode cX5_leastOf 5 = .ok (.iconst 1, 1) := by decide +kernel
theorem dX5_leastOf_6 : decode cX5_leastOf 6 = .ok (.goto 4, 3) := by decide +kernel
theorem dX5_leastOf_9 : decode cX5_leastOf 9 = .ok (.iconst 0, 1) := by decide +kernel
theorem dX5_leastOf_10 : decode cX5_leastOf 10 = .ok (.ireturn, 1) := by decide +kernel
theorem dX5_mostOf_0 : decode cX5_mostOf 0 = .ok (.iload_n 0, 1) := by decide +kernel
theorem dX5_mostOf_1 : decode cX5_mostOf 1 = .ok (.tableswitch 57 0 5 #[39, 43, 47, 50, 53, 39], 39) := by decide +kernel
theorem dX5_mostOf_40 : decode cX5_mostOf 40 = .ok (.sipush 1000, 3) := by decide +kernel
theorem dX5_mostOf_43 : decode cX5_mostOf 43 = .ok (.ireturn, 1) := by decide +kernel
theorem dX5_mostOf_44 : decode cX5_mostOf 44 = .ok (.sipush 500, 3) := by decide +kernel
theorem dX5_mostOf_47 : decode cX5_mostOf 47 = .ok (.ireturn, 1) := by decide +kernel
theorem dX5_mostOf_48 : decode cX5_mostOf 48 = .ok (.bipush 8, 2) := by decide +kernel
theorem dX5_mostOf_50 : decode cX5_mostOf 50 = .ok (.ireturn, 1) := by decide +kernel
theorem dX5_mostOf_51 : decode cX5_mostOf 51 = .ok (.bipush 6, 2) := by decide +kernel
theorem dX5_mostOf_53 : decode cX5_mostOf 53 = .ok (.ireturn, 1) := by decide +kernel
theorem dX5_mostOf_54 : decode cX5_mostOf 54 = .ok (.sipush 400, 3) := by decide +kernel
theorem dX5_mostOf_57 : decode cX5_mostOf 57 = .ok (.ireturn, 1) := by decide +kernel
theorem dX5_mostOf_58 : decode cX5_mostOf 58 = .ok (.bipush 100, 2) := by decide +kernel
theorem dX5_mostOf_60 : decode cX5_mostOf 60 = .ok (.ireturn, 1) := by decide +kernel
theorem dX5_set_0 : decode cX5_set 0 = .ok (.iload_n 1, 1) := by decide +kernel
theorem dX5_set_1 : decode cX5_set 1 = .ok (.i2l, 1) := by decide +kernel
theorem dX5_set_2 : decode cX5_set 2 = .ok (.lconst 0, 1) := by decide +kernel
theorem dX5_set_3 : decode cX5_set 3 = .ok (.ldc2_w 59, 3) := by decide +kernel
theorem dX5_set_6 : decode cX5_set 6 = .ok (.invokestatic 35, 3) := by decide +kernel
theorem dX5_set_9 : decode cX5_set 9 = .ok (.ifCond .eq 21, 3) := by decide +kernel
theorem dX5_set_12 : decode cX5_set 12 = .ok (.iload_n 2, 1) := by decide +kernel
theorem dX5_set_13 : decode cX5_set 13 = .ok (.i2l, 1) := by decide +kernel
theorem dX5_set_14 : decode cX5_set 14 = .ok (.iload_n 1, 1) := by decide +kernel
theorem dX5_set_15 : decode cX5_set 15 = .ok (.invokestatic 61, 3) := by decide +kernel
theorem dX5_set_18 : decode cX5_set 18 = .ok (.i2l, 1) := by decide +kernel
theorem dX5_set_19 : decode cX5_set 19 = .ok (.iload_n 1, 1) := by decide +kernel
theorem dX5_set_20 : decode cX5_set 20 = .ok (.invokestatic 65, 3) := by decide +kernel
theorem dX5_set_23 : decode cX5_set 23 = .ok (.i2l, 1) := by decide +kernel
theorem dX5_set_24 : decode cX5_set 24 = .ok (.invokestatic 35, 3) := by decide +kernel
theorem dX5_set_27 : decode cX5_set 27 = .ok (.ifCond .ne 6, 3) := by decide +kernel
theorem dX5_set_30 : decode cX5_set 30 = .ok (.bipush (-2), 2) := by decide +kernel
theorem dX5_set_32 : decode cX5_set 32 = .ok (.ireturn, 1) := by decide +kernel
theorem dX5_set_33 : decode cX5_set 33 = .ok (.aload_n 0, 1) := by decide +kernel
theorem dX5_set_34 : decode cX5_set 34 = .ok (.invokevirtual 56, 3) := by decide +kernel
theorem dX5_set_37 : decode cX5_set 37 = .ok (.aload_n 0, 1) := by decide +kernel
theorem dX5_set_38 : decode cX5_set 38 = .ok (.iload_n 1, 1) := by decide +kernel
theorem dX5_set_39 : decode cX5_set 39 = .ok (.invokevirtual 41, 3) := by decide +kernel
theorem dX5_set_42 : decode cX5_set 42 = .ok (.l2i, 1) := by decide +kernel
theorem dX5_set_43 : decode cX5_set 43 = .ok (.istore_n 3, 1) := by decide +kernel
theorem dX5_set_44 : decode cX5_set 44 = .ok (.aload_n 0, 1) := by decide +kernel
theorem dX5_set_45 : decode cX5_set 45 = .ok (.getfield 7, 3) := by decide +kernel
theorem dX5_set_48 : decode cX5_set 48 = .ok (.iconst 5, 1) := by decide +kernel
theorem dX5_set_49 : decode cX5_set 49 = .ok (.iload_n 1, 1) := by decide +kernel
theorem dX5_set_50 : decode cX5_set 50 = .ok (.iadd, 1) := by decide +kernel
theorem dX5_set_51 : decode cX5_set 51 = .ok (.iload_n 2, 1) := by decide +kernel
theorem dX5_set_52 : decode cX5_set 52 = .ok (.i2l, 1) := by decide +kernel
theorem dX5_set_53 : decode cX5_set 53 = .ok (.lastore, 1) := by decide +kernel
theorem dX5_set_54 : decode cX5_set 54 = .ok (.iload_n 3, 1) := by decide +kernel
theorem dX5_set_55 : decode cX5_set 55 = .ok (.ireturn, 1) := by decide +kernel
theorem dX5_product_0 : decode cX5_product 0 = .ok (.iload_n 2, 1) := by decide +kernel
theorem dX5_product_1 : decode cX5_product 1 = .ok (.i2l, 1) := by decide +kernel
theorem dX5_product_2 : decode cX5_product 2 = .ok (.lconst 1, 1) := by decide +kernel
theorem dX5_product_3 : decode cX5_product 3 = .ok (.ldc2_w 23, 3) := by decide +kernel
theorem dX5_product_6 : decode cX5_product 6 = .ok (.invokestatic 35, 3) := by decide +kernel
theorem dX5_product_9 : decode cX5_product 9 = .ok (.ifCond .eq 19, 3) := by decide +kernel
theorem dX5_product_12 : decode cX5_product 12 = .ok (.iload_n 3, 1) := by decide +kernel
theorem dX5_product_13 : decode cX5_product 13 = .ok (.i2l, 1) := by decide +kernel
theorem dX5_product_14 : decode cX5_product 14 = .ok (.lconst 1, 1) := by decide +kernel
theorem dX5_product_15 : decode cX5_product 15 = .ok (.ldc2_w 29, 3) := by decide +kernel
theorem dX5_product_18 : decode cX5_product 18 = .ok (.invokestatic 35, 3) := by decide +kernel
theorem dX5_product_21 : decode cX5_product 21 = .ok (.ifCond .eq 7, 3) := by decide +kernel
theorem dX5_product_24 : decode cX5_product 24 = .ok (.iconst 1, 1) := by decide +kernel
theorem dX5_product_25 : decode cX5_product 25 = .ok (.goto 4, 3) := by decide +kernel
theorem dX5_product_28 : decode cX5_product 28 = .ok (.iconst 0, 1) := by decide +kernel
theorem dX5_product_29 : decode cX5_product 29 = .ok (.istore 6, 2) := by decide +kernel
theorem dX5_product_31 : decode cX5_product 31 = .ok (.iload_n 1, 1) := by decide +kernel
theorem dX5_product_32 : decode cX5_product 32 = .ok (.i2l, 1) := by decide +kernel
theorem dX5_product_33 : decode cX5_product 33 = .ok (.lconst 0, 1) := by decide +kernel
theorem dX5_product_34 : decode cX5_product 34 = .ok (.ldc2_w 33, 3) := by decide +kernel
theorem dX5_product_37 : decode cX5_product 37 = .ok (.invokestatic 35, 3) := by decide +kernel
theorem dX5_product_40 : decode cX5_product 40 = .ok (.ifCond .eq 34, 3) := by decide +kernel
theorem dX5_product_43 : decode cX5_product 43 = .ok (.iload 6, 2) := by decide +kernel
theorem dX5_product_45 : decode cX5_product 45 = .ok (.ifCond .eq 29, 3) := by decide +kernel
theorem dX5_product_48 : decode cX5_product 48 = .ok (.iload 4, 2) := by decide +kernel
theorem dX5_product_50 : decode cX5_product 50 = .ok (.i2l, 1) := by decide +kernel
theorem dX5_product_51 : decode cX5_product 51 = .ok (.lconst 0, 1) := by decide +kernel
theorem dX5_product_52 : decode cX5_product 52 = .ok (.ldc2_w 25, 3) := by decide +kernel
theorem dX5_product_55 : decode cX5_product 55 = .ok (.invokestatic 35, 3) := by decide +kernel
theorem dX5_product_58 : decode cX5_product 58 = .ok (.ifCond .eq 16, 3) := by decide +kernel
theorem dX5_product_61 : decode cX5_product 61 = .ok (.iload 5, 2) := by decide +kernel
theorem dX5_product_63 : decode cX5_product 63 = .ok (.i2l, 1) := by decide +kernel
theorem dX5_product_64 : decode cX5_product 64 = .ok (.lconst 0, 1) := by decide +kernel
theorem dX5_product_65 : decode cX5_product 65 = .ok (.ldc2_w 68, 3) := by decide +kernel
theorem dX5_product_68 : decode cX5_product 68 = .ok (.invokestatic 35, 3) := by decide +kernel
theorem dX5_product_71 : decode cX5_product 71 = .ok (.ifCond .ne 6, 3) := by decide +kernel
theorem dX5_product_74 : decode cX5_product 74 = .ok (.bipush (-2), 2) := by decide +kernel
theorem dX5_product_76 : decode cX5_product 76 = .ok (.ireturn, 1) := by decide +kernel
theorem dX5_product_77 : decode cX5_product 77 = .ok (.aload_n 0, 1) := by decide +kernel
theorem dX5_product_78 : decode cX5_product 78 = .ok (.getfield 7, 3) := by decide +kernel
theorem dX5_product_81 : decode cX5_product 81 = .ok (.iconst 1, 1) := by decide +kernel
theorem dX5_product_82 : decode cX5_product 82 = .ok (.laload, 1) := by decide +kernel
theorem dX5_product_83 : decode cX5_product 83 = .ok (.ldc2_w 70, 3) := by decide +kernel
theorem dX5_product_86 : decode cX5_product 86 = .ok (.lcmp, 1) := by decide +kernel
theorem dX5_product_87 : decode cX5_product 87 = .ok (.ifCond .ne 6, 3) := by decide +kernel
theorem dX5_product_90 : decode cX5_product 90 = .ok (.bipush (-4), 2) := by decide +kernel
theorem dX5_product_92 : decode cX5_product 92 = .ok (.ireturn, 1) := by decide +kernel
theorem dX5_product_93 : decode cX5_product 93 = .ok (.aload_n 0, 1) := by decide +kernel
theorem dX5_product_94 : decode cX5_product 94 = .ok (.invokevirtual 56, 3) := by decide +kernel
theorem dX5_product_97 : decode cX5_product 97 = .ok (.aload_n 0, 1) := by decide +kernel
theorem dX5_product_98 : decode cX5_product 98 = .ok (.getfield 7, 3) := by decide +kernel
theorem dX5_product_101 : decode cX5_product 101 = .ok (.iconst 1, 1) := by decide +kernel
theorem dX5_product_102 : decode cX5_product 102 = .ok (.laload, 1) := by decide +kernel
theorem dX5_product_103 : decode cX5_product 103 = .ok (.l2i, 1) := by decide +kernel
theorem dX5_product_104 : decode cX5_product 104 = .ok (.istore 7, 2) := by decide +kernel
theorem dX5_product_106 : decode cX5_product 106 = .ok (.aload_n 0, 1) := by decide +kernel
theorem dX5_product_107 : decode cX5_product 107 = .ok (.getfield 7, 3) := by decide +kernel
theorem dX5_product_110 : decode cX5_product 110 = .ok (.iconst 1, 1) := by decide +kernel
theorem dX5_product_111 : decode cX5_product 111 = .ok (.dup2, 1) := by decide +kernel
theorem dX5_product_112 : decode cX5_product 112 = .ok (.laload, 1) := by decide +kernel
theorem dX5_product_113 : decode cX5_product 113 = .ok (.lconst 1, 1) := by decide +kernel
theorem dX5_product_114 : decode cX5_product 114 = .ok (.ladd, 1) := by decide +kernel
theorem dX5_product_115 : decode cX5_product 115 = .ok (.lastore, 1) := by decide +kernel
theorem dX5_product_116 : decode cX5_product 116 = .ok (.iconst 0, 1) := by decide +kernel
theorem dX5_product_117 : decode cX5_product 117 = .ok (.istore 8, 2) := by decide +kernel
theorem dX5_product_119 : decode cX5_product 119 = .ok (.iload 8, 2) := by decide +kernel
theorem dX5_product_121 : decode cX5_product 121 = .ok (.bipush 36, 2) := by decide +kernel
theorem dX5_product_123 : decode cX5_product 123 = .ok (.if_icmp .ge 18, 3) := by decide +kernel
theorem dX5_product_126 : decode cX5_product 126 = .ok (.aload_n 0, 1) := by decide +kernel
theorem dX5_product_127 : decode cX5_product 127 = .ok (.iload 7, 2) := by decide +kernel
theorem dX5_product_129 : decode cX5_product 129 = .ok (.iload 8, 2) := by decide +kernel
theorem dX5_product_131 : decode cX5_product 131 = .ok (.lconst 0, 1) := by decide +kernel
theorem dX5_product_132 : decode cX5_product 132 = .ok (.invokevirtual 72, 3) := by decide +kernel
theorem dX5_product_135 : decode cX5_product 135 = .ok (.iinc 8 1, 3) := by decide +kernel
theorem dX5_product_138 : decode cX5_product 138 = .ok (.goto (-19), 3) := by decide +kernel
theorem dX5_product_141 : decode cX5_product 141 = .ok (.aload_n 0, 1) := by decide +kernel
theorem dX5_product_142 : decode cX5_product 142 = .ok (.iload 7, 2) := by decide +kernel
theorem dX5_product_144 : decode cX5_product 144 = .ok (.iconst 0, 1) := by decide +kernel
theorem dX5_product_145 : decode cX5_product 145 = .ok (.iload_n 1, 1) := by decide +kernel
theorem dX5_product_146 : decode cX5_product 146 = .ok (.i2l, 1) := by decide +kernel
theorem dX5_product_147 : decode cX5_product 147 = .ok (.invokevirtual 72, 3) := by decide +kernel
theorem dX5_product_150 : decode cX5_product 150 = .ok (.aload_n 0, 1) := by decide +kernel
theorem dX5_product_151 : decode cX5_product 151 = .ok (.iload 7, 2) := by decide +kernel
theorem dX5_product_153 : decode cX5_product 153 = .ok (.iconst 1, 1) := by decide +kernel
theorem dX5_product_154 : decode cX5_product 154 = .ok (.iload_n 2, 1) := by decide +kernel
theorem dX5_product_155 : decode cX5_product 155 = .ok (.i2l, 1) := by decide +kernel
theorem dX5_product_156 : decode cX5_product 156 = .ok (.invokevirtual 72, 3) := by decide +kernel
theorem dX5_product_159 : decode cX5_product 159 = .ok (.aload_n 0, 1) := by decide +kernel
theorem dX5_product_160 : decode cX5_product 160 = .ok (.iload 7, 2) := by decide +kernel
theorem dX5_product_162 : decode cX5_product 162 = .ok (.iconst 2, 1) := by decide +kernel
theorem dX5_product_163 : decode cX5_product 163 = .ok (.iload_n 3, 1) := by decide +kernel
theorem dX5_product_164 : decode cX5_product 164 = .ok (.i2l, 1) := by decide +kernel
theorem dX5_product_165 : decode cX5_product 165 = .ok (.invokevirtual 72, 3) := by decide +kernel
theorem dX5_product_168 : decode cX5_product 168 = .ok (.aload_n 0, 1) := by decide +kernel
theorem dX5_product_169 : decode cX5_product 169 = .ok (.iload 7, 2) := by decide +kernel
theorem dX5_product_171 : decode cX5_product 171 = .ok (.iconst 3, 1) := by decide +kernel
theorem dX5_product_172 : decode cX5_product 172 = .ok (.iload 4, 2) := by decide +kernel
theorem dX5_product_174 : decode cX5_product 174 = .ok (.i2l, 1) := by decide +kernel
theorem dX5_product_175 : decode cX5_product 175 = .ok (.invokevirtual 72, 3) := by decide +kernel
theorem dX5_product_178 : decode cX5_product 178 = .ok (.aload_n 0, 1) := by decide +kernel
theorem dX5_product_179 : decode cX5_product 179 = .ok (.iload 7, 2) := by decide +kernel
theorem dX5_product_181 : decode cX5_product 181 = .ok (.iconst 4, 1) := by decide +kernel
theorem dX5_product_182 : decode cX5_product 182 = .ok (.iload 5, 2) := by decide +kernel
theorem dX5_product_184 : decode cX5_product 184 = .ok (.i2l, 1) := by decide +kernel
theorem dX5_product_185 : decode cX5_product 185 = .ok (.invokevirtual 72, 3) := by decide +kernel
theorem dX5_product_188 : decode cX5_product 188 = .ok (.aload_n 0, 1) := by decide +kernel
theorem dX5_product_189 : decode cX5_product 189 = .ok (.iload 7, 2) := by decide +kernel
theorem dX5_product_191 : decode cX5_product 191 = .ok (.bipush 11, 2) := by decide +kernel
theorem dX5_product_193 : decode cX5_product 193 = .ok (.iload 5, 2) := by decide +kernel
theorem dX5_product_195 : decode cX5_product 195 = .ok (.i2l, 1) := by decide +kernel
theorem dX5_product_196 : decode cX5_product 196 = .ok (.invokevirtual 72, 3) := by decide +kernel
theorem dX5_product_199 : decode cX5_product 199 = .ok (.aload_n 0, 1) := by decide +kernel
theorem dX5_product_200 : decode cX5_product 200 = .ok (.iload 7, 2) := by decide +kernel
theorem dX5_product_202 : decode cX5_product 202 = .ok (.bipush 7, 2) := by decide +kernel
theorem dX5_product_204 : decode cX5_product 204 = .ok (.ldc2_w 76, 3) := by decide +kernel
theorem dX5_product_207 : decode cX5_product 207 = .ok (.invokevirtual 72, 3) := by decide +kernel
theorem dX5_product_210 : decode cX5_product 210 = .ok (.iload 7, 2) := by decide +kernel
theorem dX5_product_212 : decode cX5_product 212 = .ok (.ireturn, 1) := by decide +kernel
theorem dX5_family_0 : decode cX5_family 0 = .ok (.iload_n 1, 1) := by decide +kernel
theorem dX5_family_1 : decode cX5_family 1 = .ok (.i2l, 1) := by decide +kernel
theorem dX5_family_2 : decode cX5_family 2 = .ok (.lconst 0, 1) := by decide +kernel
theorem dX5_family_3 : decode cX5_family 3 = .ok (.ldc2_w 33, 3) := by decide +kernel
theorem dX5_family_6 : decode cX5_family 6 = .ok (.invokestatic 35, 3) := by decide +kernel
theorem dX5_family_9 : decode cX5_family 9 = .ok (.ifCond .ne 5, 3) := by decide +kernel
theorem dX5_family_12 : decode cX5_family 12 = .ok (.iconst (-1), 1) := by decide +kernel
theorem dX5_family_13 : decode cX5_family 13 = .ok (.ireturn, 1) := by decide +kernel
theorem dX5_family_14 : decode cX5_family 14 = .ok (.iload_n 2, 1) := by decide +kernel
theorem dX5_family_15 : decode cX5_family 15 = .ok (.i2l, 1) := by decide +kernel
theorem dX5_family_16 : decode cX5_family 16 = .ok (.lconst 0, 1) := by decide +kernel
theorem dX5_family_17 : decode cX5_family 17 = .ok (.ldc2_w 29, 3) := by decide +kernel
theorem dX5_family_20 : decode cX5_family 20 = .ok (.invokestatic 35, 3) := by decide +kernel
theorem dX5_family_23 : decode cX5_family 23 = .ok (.ifCond .ne 6, 3) := by decide +kernel
theorem dX5_family_26 : decode cX5_family 26 = .ok (.bipush (-2), 2) := by decide +kernel
theorem dX5_family_28 : decode cX5_family 28 = .ok (.ireturn, 1) := by decide +kernel
theorem dX5_family_29 : decode cX5_family 29 = .ok (.aload_n 0, 1) := by decide +kernel
theorem dX5_family_30 : decode cX5_family 30 = .ok (.invokevirtual 56, 3) := by decide +kernel
theorem dX5_family_33 : decode cX5_family 33 = .ok (.aload_n 0, 1) := by decide +kernel
theorem dX5_family_34 : decode cX5_family 34 = .ok (.getfield 7, 3) := by decide +kernel
theorem dX5_family_37 : decode cX5_family 37 = .ok (.bipush 14, 2) := by decide +kernel
theorem dX5_family_39 : decode cX5_family 39 = .ok (.iload_n 1, 1) := by decide +kernel
theorem dX5_family_40 : decode cX5_family 40 = .ok (.iadd, 1) := by decide +kernel
theorem dX5_family_41 : decode cX5_family 41 = .ok (.laload, 1) := by decide +kernel
theorem dX5_family_42 : decode cX5_family 42 = .ok (.l2i, 1) := by decide +kernel
theorem dX5_family_43 : decode cX5_family 43 = .ok (.istore_n 3, 1) := by decide +kernel
theorem dX5_family_44 : decode cX5_family 44 = .ok (.aload_n 0, 1) := by decide +kernel
theorem dX5_family_45 : decode cX5_family 45 = .ok (.getfield 7, 3) := by decide +kernel
theorem dX5_family_48 : decode cX5_family 48 = .ok (.bipush 14, 2) := by decide +kernel
theorem dX5_family_50 : decode cX5_family 50 = .ok (.iload_n 1, 1) := by decide +kernel
theorem dX5_family_51 : decode cX5_family 51 = .ok (.iadd, 1) := by decide +kernel
theorem dX5_family_52 : decode cX5_family 52 = .ok (.iload_n 2, 1) := by decide +kernel
theorem dX5_family_53 : decode cX5_family 53 = .ok (.i2l, 1) := by decide +kernel
theorem dX5_family_54 : decode cX5_family 54 = .ok (.lastore, 1) := by decide +kernel
theorem dX5_family_55 : decode cX5_family 55 = .ok (.iload_n 3, 1) := by decide +kernel
theorem dX5_family_56 : decode cX5_family 56 = .ok (.ireturn, 1) := by decide +kernel
theorem dX5_isMade_0 : decode cX5_isMade 0 = .ok (.aload_n 0, 1) := by decide +kernel
theorem dX5_isMade_1 : decode cX5_isMade 1 = .ok (.iload_n 1, 1) := by decide +kernel
theorem dX5_isMade_2 : decode cX5_isMade 2 = .ok (.bipush 24, 2) := by decide +kernel
theorem dX5_isMade_4 : decode cX5_isMade 4 = .ok (.iload_n 2, 1) := by decide +kernel
theorem dX5_isMade_5 : decode cX5_isMade 5 = .ok (.iadd, 1) := by decide +kernel
theorem dX5_isMade_6 : decode cX5_isMade 6 = .ok (.invokevirtual 78, 3) := by decide +kernel
theorem dX5_isMade_9 : decode cX5_isMade 9 = .ok (.lconst 0, 1) := by decide +kernel
theorem dX5_isMade_10 : decode cX5_isMade 10 = .ok (.lcmp, 1) := by decide +kernel
theorem dX5_isMade_11 : decode cX5_isMade 11 = .ok (.ifCond .le 7, 3) := by decide +kernel
theorem dX5_isMade_14 : decode cX5_isMade 14 = .ok (.iconst 1, 1) := by decide +kernel
theorem dX5_isMade_15 : decode cX5_isMade 15 = .ok (.goto 4, 3) := by decide +kernel
theorem dX5_isMade_18 : decode cX5_isMade 18 = .ok (.iconst 0, 1) := by decide +kernel
theorem dX5_isMade_19 : decode cX5_isMade 19 = .ok (.ireturn, 1) := by decide +kernel
theorem dX5_familiesIn_0 : decode cX5_familiesIn 0 = .ok (.iconst 0, 1) := by decide +kernel
theorem dX5_familiesIn_1 : decode cX5_familiesIn 1 = .ok (.istore_n 2, 1) := by decide +kernel
theorem dX5_familiesIn_2 : decode cX5_familiesIn 2 = .ok (.iconst 0, 1) := by decide +kernel
theorem dX5_familiesIn_3 : decode cX5_familiesIn 3 = .ok (.istore_n 3, 1) := by decide +kernel
theorem dX5_familiesIn_4 : decode cX5_familiesIn 4 = .ok (.iload_n 3, 1) := by decide +kernel
theorem dX5_familiesIn_5 : decode cX5_familiesIn 5 = .ok (.i2l, 1) := by decide +kernel
theorem dX5_familiesIn_6 : decode cX5_familiesIn 6 = .ok (.aload_n 0, 1) := by decide +kernel
theorem dX5_familiesIn_7 : decode cX5_familiesIn 7 = .ok (.getfield 7, 3) := by decide +kernel
theorem dX5_familiesIn_10 : decode cX5_familiesIn 10 = .ok (.iconst 1, 1) := by decide +kernel
theorem dX5_familiesIn_11 : decode cX5_familiesIn 11 = .ok (.laload, 1) := by decide +kernel
theorem dX5_familiesIn_12 : decode cX5_familiesIn 12 = .ok (.lcmp, 1) := by decide +kernel
theorem dX5_familiesIn_13 : decode cX5_familiesIn 13 = .ok (.ifCond .ge 34, 3) := by decide +kernel
theorem dX5_familiesIn_16 : decode cX5_familiesIn 16 = .ok (.iload_n 2, 1) := by decide +kernel
theorem dX5_familiesIn_17 : decode cX5_familiesIn 17 = .ok (.aload_n 0, 1) := by decide +kernel
theorem dX5_familiesIn_18 : decode cX5_familiesIn 18 = .ok (.iload_n 3, 1) := by decide +kernel
theorem dX5_familiesIn_19 : decode cX5_familiesIn 19 = .ok (.iload_n 1, 1) := by decide +kernel
theorem dX5_familiesIn_20 : decode cX5_familiesIn 20 = .ok (.invokevirtual 82, 3) := by decide +kernel
theorem dX5_familiesIn_23 : decode cX5_familiesIn 23 = .ok (.ifCond .eq 15, 3) := by decide +kernel
theorem dX5_familiesIn_26 : decode cX5_familiesIn 26 = .ok (.iconst 1, 1) := by decide +kernel
theorem dX5_familiesIn_27 : decode cX5_familiesIn 27 = .ok (.aload_n 0, 1) := by decide +kernel
theorem dX5_familiesIn_28 : decode cX5_familiesIn 28 = .ok (.iload_n 3, 1) := by decide +kernel
theorem dX5_familiesIn_29 : decode cX5_familiesIn 29 = .ok (.iconst 0, 1) := by decide +kernel
theorem dX5_familiesIn_30 : decode cX5_familiesIn 30 = .ok (.invokevirtual 78, 3) := by decide +kernel
theorem dX5_familiesIn_33 : decode cX5_familiesIn 33 = .ok (.l2i, 1) := by decide +kernel
theorem dX5_familiesIn_34 : decode cX5_familiesIn 34 = .ok (.ishl, 1) := by decide +kernel
theorem dX5_familiesIn_35 : decode cX5_familiesIn 35 = .ok (.goto 4, 3) := by decide +kernel
theorem dX5_familiesIn_38 : decode cX5_familiesIn 38 = .ok (.iconst 0, 1) := by decide +kernel
theorem dX5_familiesIn_39 : decode cX5_familiesIn 39 = .ok (.ior, 1) := by decide +kernel
theorem dX5_familiesIn_40 : decode cX5_familiesIn 40 = .ok (.istore_n 2, 1) := by decide +kernel
theorem dX5_familiesIn_41 : decode cX5_familiesIn 41 = .ok (.iinc 3 1, 3) := by decide +kernel
theorem dX5_familiesIn_44 : decode cX5_familiesIn 44 = .ok (.goto (-40), 3) := by decide +kernel
theorem dX5_familiesIn_47 : decode cX5_familiesIn 47 = .ok (.iload_n 2, 1) := by decide +kernel
theorem dX5_familiesIn_48 : decode cX5_familiesIn 48 = .ok (.ireturn, 1) := by decide +kernel
theorem dX5_hoursOf_0 : decode cX5_hoursOf 0 = .ok (.lconst 0, 1) := by decide +kernel
theorem dX5_hoursOf_1 : decode cX5_hoursOf 1 = .ok (.lstore_n 2, 1) := by decide +kernel
theorem dX5_hoursOf_2 : decode cX5_hoursOf 2 = .ok (.iconst 0, 1) := by decide +kernel
theorem dX5_hoursOf_3 : decode cX5_hoursOf 3 = .ok (.istore 4, 2) := by decide +kernel
theorem dX5_hoursOf_5 : decode cX5_hoursOf 5 = .ok (.iload 4, 2) := by decide +kernel
theorem dX5_hoursOf_7 : decode cX5_hoursOf 7 = .ok (.i2l, 1) := by decide +kernel
theorem dX5_hoursOf_8 : decode cX5_hoursOf 8 = .ok (.aload_n 0, 1) := by decide +kernel
theorem dX5_hoursOf_9 : decode cX5_hoursOf 9 = .ok (.getfield 7, 3) := by decide +kernel
theorem dX5_hoursOf_12 : decode cX5_hoursOf 12 = .ok (.iconst 1, 1) := by decide +kernel
theorem dX5_hoursOf_13 : decode cX5_hoursOf 13 = .ok (.laload, 1) := by decide +kernel
theorem dX5_hoursOf_14 : decode cX5_hoursOf 14 = .ok (.lcmp, 1) := by decide +kernel
theorem dX5_hoursOf_15 : decode cX5_hoursOf 15 = .ok (.ifCond .ge 52, 3) := by decide +kernel
theorem dX5_hoursOf_18 : decode cX5_hoursOf 18 = .ok (.lload_n 2, 1) := by decide +kernel
theorem dX5_hoursOf_19 : decode cX5_hoursOf 19 = .ok (.aload_n 0, 1) := by decide +kernel
theorem dX5_hoursOf_20 : decode cX5_hoursOf 20 = .ok (.iload 4, 2) := by decide +kernel
theorem dX5_hoursOf_22 : decode cX5_hoursOf 22 = .ok (.iload_n 1, 1) := by decide +kernel
theorem dX5_hoursOf_23 : decode cX5_hoursOf 23 = .ok (.invokevirtual 82, 3) := by decide +kernel
theorem dX5_hoursOf_26 : decode cX5_hoursOf 26 = .ok (.ifCond .eq 32, 3) := by decide +kernel
theorem dX5_hoursOf_29 : decode cX5_hoursOf 29 = .ok (.aload_n 0, 1) := by decide +kernel
theorem dX5_hoursOf_30 : decode cX5_hoursOf 30 = .ok (.iload 4, 2) := by decide +kernel
theorem dX5_hoursOf_32 : decode cX5_hoursOf 32 = .ok (.iconst 3, 1) := by decide +kernel
theorem dX5_hoursOf_33 : decode cX5_hoursOf 33 = .ok (.invokevirtual 78, 3) := by decide +kernel
theorem dX5_hoursOf_36 : decode cX5_hoursOf 36 = .ok (.aload_n 0, 1) := by decide +kernel
theorem dX5_hoursOf_37 : decode cX5_hoursOf 37 = .ok (.iload 4, 2) := by decide +kernel
theorem dX5_hoursOf_39 : decode cX5_hoursOf 39 = .ok (.bipush 24, 2) := by decide +kernel
theorem dX5_hoursOf_41 : decode cX5_hoursOf 41 = .ok (.iload_n 1, 1) := by decide +kernel
theorem dX5_hoursOf_42 : decode cX5_hoursOf 42 = .ok (.iadd, 1) := by decide +kernel
theorem dX5_hoursOf_43 : decode cX5_hoursOf 43 = .ok (.invokevirtual 78, 3) := by decide +kernel
theorem dX5_hoursOf_46 : decode cX5_hoursOf 46 = .ok (.aload_n 0, 1) := by decide +kernel
theorem dX5_hoursOf_47 : decode cX5_hoursOf 47 = .ok (.iload 4, 2) := by decide +kernel
theorem dX5_hoursOf_49 : decode cX5_hoursOf 49 = .ok (.iconst 2, 1) := by decide +kernel
theorem dX5_hoursOf_50 : decode cX5_hoursOf 50 = .ok (.invokevirtual 78, 3) := by decide +kernel
theorem dX5_hoursOf_53 : decode cX5_hoursOf 53 = .ok (.lmul, 1) := by decide +kernel
theorem dX5_hoursOf_54 : decode cX5_hoursOf 54 = .ok (.ladd, 1) := by decide +kernel
theorem dX5_hoursOf_55 : decode cX5_hoursOf 55 = .ok (.goto 4, 3) := by decide +kernel
theorem dX5_hoursOf_58 : decode cX5_hoursOf 58 = .ok (.lconst 0, 1) := by decide +kernel
theorem dX5_hoursOf_59 : decode cX5_hoursOf 59 = .ok (.ladd, 1) := by decide +kernel
theorem dX5_hoursOf_60 : decode cX5_hoursOf 60 = .ok (.lstore_n 2, 1) := by decide +kernel
theorem dX5_hoursOf_61 : decode cX5_hoursOf 61 = .ok (.iinc 4 1, 3) := by decide +kernel
theorem dX5_hoursOf_64 : decode cX5_hoursOf 64 = .ok (.goto (-59), 3) := by decide +kernel
theorem dX5_hoursOf_67 : decode cX5_hoursOf 67 = .ok (.aload_n 0, 1) := by decide +kernel
theorem dX5_hoursOf_68 : decode cX5_hoursOf 68 = .ok (.iload_n 1, 1) := by decide +kernel
theorem dX5_hoursOf_69 : decode cX5_hoursOf 69 = .ok (.invokevirtual 86, 3) := by decide +kernel
theorem dX5_hoursOf_72 : decode cX5_hoursOf 72 = .ok (.istore 4, 2) := by decide +kernel
theorem dX5_hoursOf_74 : decode cX5_hoursOf 74 = .ok (.iconst 0, 1) := by decide +kernel
theorem dX5_hoursOf_75 : decode cX5_hoursOf 75 = .ok (.istore 5, 2) := by decide +kernel
theorem dX5_hoursOf_77 : decode cX5_hoursOf 77 = .ok (.iload 5, 2) := by decide +kernel
theorem dX5_hoursOf_79 : decode cX5_hoursOf 79 = .ok (.iconst 4, 1) := by decide +kernel
theorem dX5_hoursOf_80 : decode cX5_hoursOf 80 = .ok (.if_icmp .ge 37, 3) := by decide +kernel
theorem dX5_hoursOf_83 : decode cX5_hoursOf 83 = .ok (.lload_n 2, 1) := by decide +kernel
theorem dX5_hoursOf_84 : decode cX5_hoursOf 84 = .ok (.iload 4, 2) := by decide +kernel
theorem dX5_hoursOf_86 : decode cX5_hoursOf 86 = .ok (.iload 5, 2) := by decide +kernel
theorem dX5_hoursOf_88 : decode cX5_hoursOf 88 = .ok (.ishr, 1) := by decide +kernel
theorem dX5_hoursOf_89 : decode cX5_hoursOf 89 = .ok (.iconst 1, 1) := by decide +kernel
theorem dX5_hoursOf_90 : decode cX5_hoursOf 90 = .ok (.iand, 1) := by decide +kernel
theorem dX5_hoursOf_91 : decode cX5_hoursOf 91 = .ok (.iconst 1, 1) := by decide +kernel
theorem dX5_hoursOf_92 : decode cX5_hoursOf 92 = .ok (.if_icmp .ne 16, 3) := by decide +kernel
theorem dX5_hoursOf_95 : decode cX5_hoursOf 95 = .ok (.aload_n 0, 1) := by decide +kernel
theorem dX5_hoursOf_96 : decode cX5_hoursOf 96 = .ok (.getfield 7, 3) := by decide +kernel
theorem dX5_hoursOf_99 : decode cX5_hoursOf 99 = .ok (.bipush 14, 2) := by decide +kernel
theorem dX5_hoursOf_101 : decode cX5_hoursOf 101 = .ok (.iload 5, 2) := by decide +kernel
theorem dX5_hoursOf_103 : decode cX5_hoursOf 103 = .ok (.iadd, 1) := by decide +kernel
theorem dX5_hoursOf_104 : decode cX5_hoursOf 104 = .ok (.laload, 1) := by decide +kernel
theorem dX5_hoursOf_105 : decode cX5_hoursOf 105 = .ok (.goto 4, 3) := by decide +kernel
theorem dX5_hoursOf_108 : decode cX5_hoursOf 108 = .ok (.lconst 0, 1) := by decide +kernel
theorem dX5_hoursOf_109 : decode cX5_hoursOf 109 = .ok (.ladd, 1) := by decide +kernel
theorem dX5_hoursOf_110 : decode cX5_hoursOf 110 = .ok (.lstore_n 2, 1) := by decide +kernel
theorem dX5_hoursOf_111 : decode cX5_hoursOf 111 = .ok (.iinc 5 1, 3) := by decide +kernel
theorem dX5_hoursOf_114 : decode cX5_hoursOf 114 = .ok (.goto (-37), 3) := by decide +kernel
theorem dX5_hoursOf_117 : decode cX5_hoursOf 117 = .ok (.lload_n 2, 1) := by decide +kernel
theorem dX5_hoursOf_118 : decode cX5_hoursOf 118 = .ok (.lreturn, 1) := by decide +kernel
theorem dX5_setupsOf_0 : decode cX5_setupsOf 0 = .ok (.iconst 0, 1) := by decide +kernel
theorem dX5_setupsOf_1 : decode cX5_setupsOf 1 = .ok (.istore_n 2, 1) := by decide +kernel
theorem dX5_setupsOf_2 : decode cX5_setupsOf 2 = .ok (.iconst 0, 1) := by decide +kernel
theorem dX5_setupsOf_3 : decode cX5_setupsOf 3 = .ok (.istore_n 3, 1) := by decide +kernel
theorem dX5_setupsOf_4 : decode cX5_setupsOf 4 = .ok (.iload_n 3, 1) := by decide +kernel
theorem dX5_setupsOf_5 : decode cX5_setupsOf 5 = .ok (.i2l, 1) := by decide +kernel
theorem dX5_setupsOf_6 : decode cX5_setupsOf 6 = .ok (.aload_n 0, 1) := by decide +kernel
theorem dX5_setupsOf_7 : decode cX5_setupsOf 7 = .ok (.getfield 7, 3) := by decide +kernel
theorem dX5_setupsOf_10 : decode cX5_setupsOf 10 = .ok (.iconst 1, 1) := by decide +kernel
theorem dX5_setupsOf_11 : decode cX5_setupsOf 11 = .ok (.laload, 1) := by decide +kernel
theorem dX5_setupsOf_12 : decode cX5_setupsOf 12 = .ok (.lcmp, 1) := by decide +kernel
theorem dX5_setupsOf_13 : decode cX5_setupsOf 13 = .ok (.ifCond .ge 26, 3) := by decide +kernel
theorem dX5_setupsOf_16 : decode cX5_setupsOf 16 = .ok (.iload_n 2, 1) := by decide +kernel
theorem dX5_setupsOf_17 : decode cX5_setupsOf 17 = .ok (.aload_n 0, 1) := by decide +kernel
theorem dX5_setupsOf_18 : decode cX5_setupsOf 18 = .ok (.iload_n 3, 1) := by decide +kernel
theorem dX5_setupsOf_19 : decode cX5_setupsOf 19 = .ok (.iload_n 1, 1) := by decide +kernel
theorem dX5_setupsOf_20 : decode cX5_setupsOf 20 = .ok (.invokevirtual 82, 3) := by decide +kernel
theorem dX5_setupsOf_23 : decode cX5_setupsOf 23 = .ok (.ifCond .eq 7, 3) := by decide +kernel
theorem dX5_setupsOf_26 : decode cX5_setupsOf 26 = .ok (.iconst 1, 1) := by decide +kernel
theorem dX5_setupsOf_27 : decode cX5_setupsOf 27 = .ok (.goto 4, 3) := by decide +kernel
theorem dX5_setupsOf_30 : decode cX5_setupsOf 30 = .ok (.iconst 0, 1) := by decide +kernel
theorem dX5_setupsOf_31 : decode cX5_setupsOf 31 = .ok (.iadd, 1) := by decide +kernel
theorem dX5_setupsOf_32 : decode cX5_setupsOf 32 = .ok (.istore_n 2, 1) := by decide +kernel
theorem dX5_setupsOf_33 : decode cX5_setupsOf 33 = .ok (.iinc 3 1, 3) := by decide +kernel
theorem dX5_setupsOf_36 : decode cX5_setupsOf 36 = .ok (.goto (-32), 3) := by decide +kernel
theorem dX5_setupsOf_39 : decode cX5_setupsOf 39 = .ok (.aload_n 0, 1) := by decide +kernel
theorem dX5_setupsOf_40 : decode cX5_setupsOf 40 = .ok (.iload_n 1, 1) := by decide +kernel
theorem dX5_setupsOf_41 : decode cX5_setupsOf 41 = .ok (.invokevirtual 86, 3) := by decide +kernel
theorem dX5_setupsOf_44 : decode cX5_setupsOf 44 = .ok (.istore_n 3, 1) := by decide +kernel
theorem dX5_setupsOf_45 : decode cX5_setupsOf 45 = .ok (.iconst 0, 1) := by decide +kernel
theorem dX5_setupsOf_46 : decode cX5_setupsOf 46 = .ok (.istore 4, 2) := by decide +kernel
theorem dX5_setupsOf_48 : decode cX5_setupsOf 48 = .ok (.iload 4, 2) := by decide +kernel
theorem dX5_setupsOf_50 : decode cX5_setupsOf 50 = .ok (.iconst 4, 1) := by decide +kernel
theorem dX5_setupsOf_51 : decode cX5_setupsOf 51 = .ok (.if_icmp .ge 18, 3) := by decide +kernel
theorem dX5_setupsOf_54 : decode cX5_setupsOf 54 = .ok (.iload_n 2, 1) := by decide +kernel
theorem dX5_setupsOf_55 : decode cX5_setupsOf 55 = .ok (.iload_n 3, 1) := by decide +kernel
theorem dX5_setupsOf_56 : decode cX5_setupsOf 56 = .ok (.iload 4, 2) := by decide +kernel
theorem dX5_setupsOf_58 : decode cX5_setupsOf 58 = .ok (.ishr, 1) := by decide +kernel
theorem dX5_setupsOf_59 : decode cX5_setupsOf 59 = .ok (.iconst 1, 1) := by decide +kernel
theorem dX5_setupsOf_60 : decode cX5_setupsOf 60 = .ok (.iand, 1) := by decide +kernel
theorem dX5_setupsOf_61 : decode cX5_setupsOf 61 = .ok (.iadd, 1) := by decide +kernel
theorem dX5_setupsOf_62 : decode cX5_setupsOf 62 = .ok (.istore_n 2, 1) := by decide +kernel
theorem dX5_setupsOf_63 : decode cX5_setupsOf 63 = .ok (.iinc 4 1, 3) := by decide +kernel
theorem dX5_setupsOf_66 : decode cX5_setupsOf 66 = .ok (.goto (-18), 3) := by decide +kernel
theorem dX5_setupsOf_69 : decode cX5_setupsOf 69 = .ok (.iload_n 2, 1) := by decide +kernel
theorem dX5_setupsOf_70 : decode cX5_setupsOf 70 = .ok (.ireturn, 1) := by decide +kernel
theorem dX5_overtimeOf_0 : decode cX5_overtimeOf 0 = .ok (.aload_n 0, 1) := by decide +kernel
theorem dX5_overtimeOf_1 : decode cX5_overtimeOf 1 = .ok (.iload_n 1, 1) := by decide +kernel
theorem dX5_overtimeOf_2 : decode cX5_overtimeOf 2 = .ok (.invokevirtual 89, 3) := by decide +kernel
theorem dX5_overtimeOf_5 : decode cX5_overtimeOf 5 = .ok (.aload_n 0, 1) := by decide +kernel
theorem dX5_overtimeOf_6 : decode cX5_overtimeOf 6 = .ok (.iconst 0, 1) := by decide +kernel
theorem dX5_overtimeOf_7 : decode cX5_overtimeOf 7 = .ok (.invokevirtual 41, 3) := by decide +kernel
theorem dX5_overtimeOf_10 : decode cX5_overtimeOf 10 = .ok (.lsub, 1) := by decide +kernel
theorem dX5_overtimeOf_11 : decode cX5_overtimeOf 11 = .ok (.lstore_n 2, 1) := by decide +kernel
theorem dX5_overtimeOf_12 : decode cX5_overtimeOf 12 = .ok (.lload_n 2, 1) := by decide +kernel
theorem dX5_overtimeOf_13 : decode cX5_overtimeOf 13 = .ok (.lconst 0, 1) := by decide +kernel
theorem dX5_overtimeOf_14 : decode cX5_overtimeOf 14 = .ok (.lcmp, 1) := by decide +kernel
theorem dX5_overtimeOf_15 : decode cX5_overtimeOf 15 = .ok (.ifCond .le 7, 3) := by decide +kernel
theorem dX5_overtimeOf_18 : decode cX5_overtimeOf 18 = .ok (.lload_n 2, 1) := by decide +kernel
theorem dX5_overtimeOf_19 : decode cX5_overtimeOf 19 = .ok (.goto 4, 3) := by decide +kernel
theorem dX5_overtimeOf_22 : decode cX5_overtimeOf 22 = .ok (.lconst 0, 1) := by decide +kernel
theorem dX5_overtimeOf_23 : decode cX5_overtimeOf 23 = .ok (.lreturn, 1) := by decide +kernel
theorem dX5_mostHours_0 : decode cX5_mostHours 0 = .ok (.aload_n 0, 1) := by decide +kernel
theorem dX5_mostHours_1 : decode cX5_mostHours 1 = .ok (.iconst 0, 1) := by decide +kernel
theorem dX5_mostHours_2 : decode cX5_mostHours 2 = .ok (.invokevirtual 41, 3) := by decide +kernel
theorem dX5_mostHours_5 : decode cX5_mostHours 5 = .ok (.aload_n 0, 1) := by decide +kernel
theorem dX5_mostHours_6 : decode cX5_mostHours 6 = .ok (.iconst 1, 1) := by decide +kernel
theorem dX5_mostHours_7 : decode cX5_mostHours 7 = .ok (.invokevirtual 41, 3) := by decide +kernel
theorem dX5_mostHours_10 : decode cX5_mostHours 10 = .ok (.ladd, 1) := by decide +kernel
theorem dX5_mostHours_11 : decode cX5_mostHours 11 = .ok (.lreturn, 1) := by decide +kernel
theorem dX5_project_0 : decode cX5_project 0 = .ok (.aload_n 0, 1) := by decide +kernel
theorem dX5_project_1 : decode cX5_project 1 = .ok (.iload_n 1, 1) := by decide +kernel
theorem dX5_project_2 : decode cX5_project 2 = .ok (.iconst 4, 1) := by decide +kernel
theorem dX5_project_3 : decode cX5_project 3 = .ok (.invokevirtual 78, 3) := by decide +kernel
theorem dX5_project_6 : decode cX5_project 6 = .ok (.aload_n 0, 1) := by decide +kernel
theorem dX5_project_7 : decode cX5_project 7 = .ok (.iload_n 1, 1) := by decide +kernel
theorem dX5_project_8 : decode cX5_project 8 = .ok (.iconst 5, 1) := by decide +kernel
theorem dX5_project_9 : decode cX5_project 9 = .ok (.invokevirtual 78, 3) := by decide +kernel
theorem dX5_project_12 : decode cX5_project 12 = .ok (.lsub, 1) := by decide +kernel
theorem dX5_project_13 : decode cX5_project 13 = .ok (.lstore_n 3, 1) := by decide +kernel
theorem dX5_project_14 : decode cX5_project 14 = .ok (.iconst 0, 1) := by decide +kernel
theorem dX5_project_15 : decode cX5_project 15 = .ok (.istore 5, 2) := by decide +kernel
theorem dX5_project_17 : decode cX5_project 17 = .ok (.iload 5, 2) := by decide +kernel
theorem dX5_project_19 : decode cX5_project 19 = .ok (.iload_n 2, 1) := by decide +kernel
theorem dX5_project_20 : decode cX5_project 20 = .ok (.if_icmp .gt 40, 3) := by decide +kernel
theorem dX5_project_23 : decode cX5_project 23 = .ok (.lload_n 3, 1) := by decide +kernel
theorem dX5_project_24 : decode cX5_project 24 = .ok (.aload_n 0, 1) := by decide +kernel
theorem dX5_project_25 : decode cX5_project 25 = .ok (.iload_n 1, 1) := by decide +kernel
theorem dX5_project_26 : decode cX5_project 26 = .ok (.bipush 24, 2) := by decide +kernel
theorem dX5_project_28 : decode cX5_project 28 = .ok (.iload 5, 2) := by decide +kernel
theorem dX5_project_30 : decode cX5_project 30 = .ok (.iadd, 1) := by decide +kernel
theorem dX5_project_31 : decode cX5_project 31 = .ok (.invokevirtual 78, 3) := by decide +kernel
theorem dX5_project_34 : decode cX5_project 34 = .ok (.aload_n 0, 1) := by decide +kernel
theorem dX5_project_35 : decode cX5_project 35 = .ok (.iload_n 1, 1) := by decide +kernel
theorem dX5_project_36 : decode cX5_project 36 = .ok (.iconst 1, 1) := by decide +kernel
theorem dX5_project_37 : decode cX5_project 37 = .ok (.invokevirtual 78, 3) := by decide +kernel
theorem dX5_project_40 : decode cX5_project 40 = .ok (.lmul, 1) := by decide +kernel
theorem dX5_project_41 : decode cX5_project 41 = .ok (.aload_n 0, 1) := by decide +kernel
theorem dX5_project_42 : decode cX5_project 42 = .ok (.iload_n 1, 1) := by decide +kernel
theorem dX5_project_43 : decode cX5_project 43 = .ok (.bipush 12, 2) := by decide +kernel
theorem dX5_project_45 : decode cX5_project 45 = .ok (.iload 5, 2) := by decide +kernel
theorem dX5_project_47 : decode cX5_project 47 = .ok (.iadd, 1) := by decide +kernel
theorem dX5_project_48 : decode cX5_project 48 = .ok (.invokevirtual 78, 3) := by decide +kernel
theorem dX5_project_51 : decode cX5_project 51 = .ok (.lsub, 1) := by decide +kernel
theorem dX5_project_52 : decode cX5_project 52 = .ok (.ladd, 1) := by decide +kernel
theorem dX5_project_53 : decode cX5_project 53 = .ok (.lstore_n 3, 1) := by decide +kernel
theorem dX5_project_54 : decode cX5_project 54 = .ok (.iinc 5 1, 3) := by decide +kernel
theorem dX5_project_57 : decode cX5_project 57 = .ok (.goto (-40), 3) := by decide +kernel
theorem dX5_project_60 : decode cX5_project 60 = .ok (.lload_n 3, 1) := by decide +kernel
theorem dX5_project_61 : decode cX5_project 61 = .ok (.lreturn, 1) := by decide +kernel
theorem dX5_cover_0 : decode cX5_cover 0 = .ok (.aload_n 0, 1) := by decide +kernel
theorem dX5_cover_1 : decode cX5_cover 1 = .ok (.iload_n 1, 1) := by decide +kernel
theorem dX5_cover_2 : decode cX5_cover 2 = .ok (.bipush 6, 2) := by decide +kernel
theorem dX5_cover_4 : decode cX5_cover 4 = .ok (.invokevirtual 78, 3) := by decide +kernel
theorem dX5_cover_7 : decode cX5_cover 7 = .ok (.aload_n 0, 1) := by decide +kernel
theorem dX5_cover_8 : decode cX5_cover 8 = .ok (.iconst 4, 1) := by decide +kernel
theorem dX5_cover_9 : decode cX5_cover 9 = .ok (.invokevirtual 41, 3) := by decide +kernel
theorem dX5_cover_12 : decode cX5_cover 12 = .ok (.lmul, 1) := by decide +kernel
theorem dX5_cover_13 : decode cX5_cover 13 = .ok (.ldc2_w 23, 3) := by decide +kernel
theorem dX5_cover_16 : decode cX5_cover 16 = .ok (.ldiv, 1) := by decide +kernel
theorem dX5_cover_17 : decode cX5_cover 17 = .ok (.lreturn, 1) := by decide +kernel
theorem dX5_room_0 : decode cX5_room 0 = .ok (.aload_n 0, 1) := by decide +kernel
theorem dX5_room_1 : decode cX5_room 1 = .ok (.invokevirtual 92, 3) := by decide +kernel
theorem dX5_room_4 : decode cX5_room 4 = .ok (.aload_n 0, 1) := by decide +kernel
theorem dX5_room_5 : decode cX5_room 5 = .ok (.iload_n 2, 1) := by decide +kernel
theorem dX5_room_6 : decode cX5_room 6 = .ok (.invokevirtual 89, 3) := by decide +kernel
theorem dX5_room_9 : decode cX5_room 9 = .ok (.lsub, 1) := by decide +kernel
theorem dX5_room_10 : decode cX5_room 10 = .ok (.lstore_n 3, 1) := by decide +kernel
theorem dX5_room_11 : decode cX5_room 11 = .ok (.aload_n 0, 1) := by decide +kernel
theorem dX5_room_12 : decode cX5_room 12 = .ok (.iload_n 1, 1) := by decide +kernel
theorem dX5_room_13 : decode cX5_room 13 = .ok (.iload_n 2, 1) := by decide +kernel
theorem dX5_room_14 : decode cX5_room 14 = .ok (.invokevirtual 82, 3) := by decide +kernel
theorem dX5_room_17 : decode cX5_room 17 = .ok (.ifCond .ne 50, 3) := by decide +kernel
theorem dX5_room_20 : decode cX5_room 20 = .ok (.aload_n 0, 1) := by decide +kernel
theorem dX5_room_21 : decode cX5_room 21 = .ok (.iload_n 1, 1) := by decide +kernel
theorem dX5_room_22 : decode cX5_room 22 = .ok (.iconst 0, 1) := by decide +kernel
theorem dX5_room_23 : decode cX5_room 23 = .ok (.invokevirtual 78, 3) := by decide +kernel
theorem dX5_room_26 : decode cX5_room 26 = .ok (.l2i, 1) := by decide +kernel
theorem dX5_room_27 : decode cX5_room 27 = .ok (.istore 5, 2) := by decide +kernel
theorem dX5_room_29 : decode cX5_room 29 = .ok (.lload_n 3, 1) := by decide +kernel
theorem dX5_room_30 : decode cX5_room 30 = .ok (.aload_n 0, 1) := by decide +kernel
theorem dX5_room_31 : decode cX5_room 31 = .ok (.iload_n 1, 1) := by decide +kernel
theorem dX5_room_32 : decode cX5_room 32 = .ok (.iconst 3, 1) := by decide +kernel
theorem dX5_room_33 : decode cX5_room 33 = .ok (.invokevirtual 78, 3) := by decide +kernel
theorem dX5_room_36 : decode cX5_room 36 = .ok (.aload_n 0, 1) := by decide +kernel
theorem dX5_room_37 : decode cX5_room 37 = .ok (.iload_n 2, 1) := by decide +kernel
theorem dX5_room_38 : decode cX5_room 38 = .ok (.invokevirtual 86, 3) := by decide +kernel
theorem dX5_room_41 : decode cX5_room 41 = .ok (.iload 5, 2) := by decide +kernel
theorem dX5_room_43 : decode cX5_room 43 = .ok (.ishr, 1) := by decide +kernel
theorem dX5_room_44 : decode cX5_room 44 = .ok (.iconst 1, 1) := by decide +kernel
theorem dX5_room_45 : decode cX5_room 45 = .ok (.iand, 1) := by decide +kernel
theorem dX5_room_46 : decode cX5_room 46 = .ok (.iconst 1, 1) := by decide +kernel
theorem dX5_room_47 : decode cX5_room 47 = .ok (.if_icmp .ne 7, 3) := by decide +kernel
theorem dX5_room_50 : decode cX5_room 50 = .ok (.lconst 0, 1) := by decide +kernel
theorem dX5_room_51 : decode cX5_room 51 = .ok (.goto 13, 3) := by decide +kernel
theorem dX5_room_54 : decode cX5_room 54 = .ok (.aload_n 0, 1) := by decide +kernel
theorem dX5_room_55 : decode cX5_room 55 = .ok (.getfield 7, 3) := by decide +kernel
theorem dX5_room_58 : decode cX5_room 58 = .ok (.bipush 14, 2) := by decide +kernel
theorem dX5_room_60 : decode cX5_room 60 = .ok (.iload 5, 2) := by decide +kernel
theorem dX5_room_62 : decode cX5_room 62 = .ok (.iadd, 1) := by decide +kernel
theorem dX5_room_63 : decode cX5_room 63 = .ok (.laload, 1) := by decide +kernel
theorem dX5_room_64 : decode cX5_room 64 = .ok (.ladd, 1) := by decide +kernel
theorem dX5_room_65 : decode cX5_room 65 = .ok (.lsub, 1) := by decide +kernel
theorem dX5_room_66 : decode cX5_room 66 = .ok (.lstore_n 3, 1) := by decide +kernel
theorem dX5_room_67 : decode cX5_room 67 = .ok (.lload_n 3, 1) := by decide +kernel
theorem dX5_room_68 : decode cX5_room 68 = .ok (.lconst 0, 1) := by decide +kernel
theorem dX5_room_69 : decode cX5_room 69 = .ok (.lcmp, 1) := by decide +kernel
theorem dX5_room_70 : decode cX5_room 70 = .ok (.ifCond .le 14, 3) := by decide +kernel
theorem dX5_room_73 : decode cX5_room 73 = .ok (.lload_n 3, 1) := by decide +kernel
theorem dX5_room_74 : decode cX5_room 74 = .ok (.aload_n 0, 1) := by decide +kernel
theorem dX5_room_75 : decode cX5_room 75 = .ok (.iload_n 1, 1) := by decide +kernel
theorem dX5_room_76 : decode cX5_room 76 = .ok (.iconst 2, 1) := by decide +kernel
theorem dX5_room_77 : decode cX5_room 77 = .ok (.invokevirtual 78, 3) := by decide +kernel
theorem dX5_room_80 : decode cX5_room 80 = .ok (.ldiv, 1) := by decide +kernel
theorem dX5_room_81 : decode cX5_room 81 = .ok (.goto 4, 3) := by decide +kernel
theorem dX5_room_84 : decode cX5_room 84 = .ok (.lconst 0, 1) := by decide +kernel
theorem dX5_room_85 : decode cX5_room 85 = .ok (.lstore 5, 2) := by decide +kernel
theorem dX5_room_87 : decode cX5_room 87 = .ok (.ldc2_w 96, 3) := by decide +kernel
theorem dX5_room_90 : decode cX5_room 90 = .ok (.aload_n 0, 1) := by decide +kernel
theorem dX5_room_91 : decode cX5_room 91 = .ok (.iload_n 1, 1) := by decide +kernel
theorem dX5_room_92 : decode cX5_room 92 = .ok (.bipush 24, 2) := by decide +kernel
theorem dX5_room_94 : decode cX5_room 94 = .ok (.iload_n 2, 1) := by decide +kernel
theorem dX5_room_95 : decode cX5_room 95 = .ok (.iadd, 1) := by decide +kernel
theorem dX5_room_96 : decode cX5_room 96 = .ok (.invokevirtual 78, 3) := by decide +kernel
theorem dX5_room_99 : decode cX5_room 99 = .ok (.lsub, 1) := by decide +kernel
theorem dX5_room_100 : decode cX5_room 100 = .ok (.lstore 7, 2) := by decide +kernel
theorem dX5_room_102 : decode cX5_room 102 = .ok (.lload 5, 2) := by decide +kernel
theorem dX5_room_104 : decode cX5_room 104 = .ok (.lload 7, 2) := by decide +kernel
theorem dX5_room_106 : decode cX5_room 106 = .ok (.lcmp, 1) := by decide +kernel
theorem dX5_room_107 : decode cX5_room 107 = .ok (.ifCond .ge 8, 3) := by decide +kernel
theorem dX5_room_110 : decode cX5_room 110 = .ok (.lload 5, 2) := by decide +kernel
theorem dX5_room_112 : decode cX5_room 112 = .ok (.goto 5, 3) := by decide +kernel
theorem dX5_room_115 : decode cX5_room 115 = .ok (.lload 7, 2) := by decide +kernel
theorem dX5_room_117 : decode cX5_room 117 = .ok (.lreturn, 1) := by decide +kernel
theorem dX5_wanted_0 : decode cX5_wanted 0 = .ok (.aload_n 0, 1) := by decide +kernel
theorem dX5_wanted_1 : decode cX5_wanted 1 = .ok (.iload_n 1, 1) := by decide +kernel
theorem dX5_wanted_2 : decode cX5_wanted 2 = .ok (.invokevirtual 98, 3) := by decide +kernel
theorem dX5_wanted_5 : decode cX5_wanted 5 = .ok (.aload_n 0, 1) := by decide +kernel
theorem dX5_wanted_6 : decode cX5_wanted 6 = .ok (.iload_n 1, 1) := by decide +kernel
theorem dX5_wanted_7 : decode cX5_wanted 7 = .ok (.iload_n 2, 1) := by decide +kernel
theorem dX5_wanted_8 : decode cX5_wanted 8 = .ok (.invokevirtual 101, 3) := by decide +kernel
theorem dX5_wanted_11 : decode cX5_wanted 11 = .ok (.lsub, 1) := by decide +kernel
theorem dX5_wanted_12 : decode cX5_wanted 12 = .ok (.lstore_n 3, 1) := by decide +kernel
theorem dX5_wanted_13 : decode cX5_wanted 13 = .ok (.iload_n 2, 1) := by decide +kernel
theorem dX5_wanted_14 : decode cX5_wanted 14 = .ok (.iconst 1, 1) := by decide +kernel
theorem dX5_wanted_15 : decode cX5_wanted 15 = .ok (.iadd, 1) := by decide +kernel
theorem dX5_wanted_16 : decode cX5_wanted 16 = .ok (.istore 5, 2) := by decide +kernel
theorem dX5_wanted_18 : decode cX5_wanted 18 = .ok (.iload 5, 2) := by decide +kernel
theorem dX5_wanted_20 : decode cX5_wanted 20 = .ok (.bipush 12, 2) := by decide +kernel
theorem dX5_wanted_22 : decode cX5_wanted 22 = .ok (.if_icmp .ge 37, 3) := by decide +kernel
theorem dX5_wanted_25 : decode cX5_wanted 25 = .ok (.iload 5, 2) := by decide +kernel
theorem dX5_wanted_27 : decode cX5_wanted 27 = .ok (.i2l, 1) := by decide +kernel
theorem dX5_wanted_28 : decode cX5_wanted 28 = .ok (.iload_n 2, 1) := by decide +kernel
theorem dX5_wanted_29 : decode cX5_wanted 29 = .ok (.i2l, 1) := by decide +kernel
theorem dX5_wanted_30 : decode cX5_wanted 30 = .ok (.aload_n 0, 1) := by decide +kernel
theorem dX5_wanted_31 : decode cX5_wanted 31 = .ok (.iconst 3, 1) := by decide +kernel
theorem dX5_wanted_32 : decode cX5_wanted 32 = .ok (.invokevirtual 41, 3) := by decide +kernel
theorem dX5_wanted_35 : decode cX5_wanted 35 = .ok (.ladd, 1) := by decide +kernel
theorem dX5_wanted_36 : decode cX5_wanted 36 = .ok (.lcmp, 1) := by decide +kernel
theorem dX5_wanted_37 : decode cX5_wanted 37 = .ok (.ifCond .ge 22, 3) := by decide +kernel
theorem dX5_wanted_40 : decode cX5_wanted 40 = .ok (.lload_n 3, 1) := by decide +kernel
theorem dX5_wanted_41 : decode cX5_wanted 41 = .ok (.aload_n 0, 1) := by decide +kernel
theorem dX5_wanted_42 : decode cX5_wanted 42 = .ok (.iload_n 1, 1) := by decide +kernel
theorem dX5_wanted_43 : decode cX5_wanted 43 = .ok (.bipush 12, 2) := by decide +kernel
theorem dX5_wanted_45 : decode cX5_wanted 45 = .ok (.iload 5, 2) := by decide +kernel
theorem dX5_wanted_47 : decode cX5_wanted 47 = .ok (.iadd, 1) := by decide +kernel
theorem dX5_wanted_48 : decode cX5_wanted 48 = .ok (.invokevirtual 78, 3) := by decide +kernel
theorem dX5_wanted_51 : decode cX5_wanted 51 = .ok (.ladd, 1) := by decide +kernel
theorem dX5_wanted_52 : decode cX5_wanted 52 = .ok (.lstore_n 3, 1) := by decide +kernel
theorem dX5_wanted_53 : decode cX5_wanted 53 = .ok (.iinc 5 1, 3) := by decide +kernel
theorem dX5_wanted_56 : decode cX5_wanted 56 = .ok (.goto (-38), 3) := by decide +kernel
theorem dX5_wanted_59 : decode cX5_wanted 59 = .ok (.aload_n 0, 1) := by decide +kernel
theorem dX5_wanted_60 : decode cX5_wanted 60 = .ok (.iload_n 1, 1) := by decide +kernel
theorem dX5_wanted_61 : decode cX5_wanted 61 = .ok (.iconst 1, 1) := by decide +kernel
theorem dX5_wanted_62 : decode cX5_wanted 62 = .ok (.invokevirtual 78, 3) := by decide +kernel
theorem dX5_wanted_65 : decode cX5_wanted 65 = .ok (.lstore 5, 2) := by decide +kernel
theorem dX5_wanted_67 : decode cX5_wanted 67 = .ok (.lload_n 3, 1) := by decide +kernel
theorem dX5_wanted_68 : decode cX5_wanted 68 = .ok (.lload 5, 2) := by decide +kernel
theorem dX5_wanted_70 : decode cX5_wanted 70 = .ok (.ladd, 1) := by decide +kernel
theorem dX5_wanted_71 : decode cX5_wanted 71 = .ok (.lconst 1, 1) := by decide +kernel
theorem dX5_wanted_72 : decode cX5_wanted 72 = .ok (.lsub, 1) := by decide +kernel
theorem dX5_wanted_73 : decode cX5_wanted 73 = .ok (.lload 5, 2) := by decide +kernel
theorem dX5_wanted_75 : decode cX5_wanted 75 = .ok (.ldiv, 1) := by decide +kernel
theorem dX5_wanted_76 : decode cX5_wanted 76 = .ok (.lreturn, 1) := by decide +kernel
theorem dX5_nextOf_0 : decode cX5_nextOf 0 = .ok (.bipush (-6), 2) := by decide +kernel
theorem dX5_nextOf_2 : decode cX5_nextOf 2 = .ok (.istore_n 3, 1) := by decide +kernel
theorem dX5_nextOf_3 : decode cX5_nextOf 3 = .ok (.iconst 0, 1) := by decide +kernel
theorem dX5_nextOf_4 : decode cX5_nextOf 4 = .ok (.istore 4, 2) := by decide +kernel
theorem dX5_nextOf_6 : decode cX5_nextOf 6 = .ok (.iload 4, 2) := by decide +kernel
theorem dX5_nextOf_8 : decode cX5_nextOf 8 = .ok (.i2l, 1) := by decide +kernel
theorem dX5_nextOf_9 : decode cX5_nextOf 9 = .ok (.aload_n 0, 1) := by decide +kernel
theorem dX5_nextOf_10 : decode cX5_nextOf 10 = .ok (.getfield 7, 3) := by decide +kernel
theorem dX5_nextOf_13 : decode cX5_nextOf 13 = .ok (.iconst 1, 1) := by decide +kernel
theorem dX5_nextOf_14 : decode cX5_nextOf 14 = .ok (.laload, 1) := by decide +kernel
theorem dX5_nextOf_15 : decode cX5_nextOf 15 = .ok (.lcmp, 1) := by decide +kernel
theorem dX5_nextOf_16 : decode cX5_nextOf 16 = .ok (.ifCond .ge 77, 3) := by decide +kernel
theorem dX5_nextOf_19 : decode cX5_nextOf 19 = .ok (.iload_n 2, 1) := by decide +kernel
theorem dX5_nextOf_20 : decode cX5_nextOf 20 = .ok (.iload 4, 2) := by decide +kernel
theorem dX5_nextOf_22 : decode cX5_nextOf 22 = .ok (.ishr, 1) := by decide +kernel
theorem dX5_nextOf_23 : decode cX5_nextOf 23 = .ok (.iconst 1, 1) := by decide +kernel
theorem dX5_nextOf_24 : decode cX5_nextOf 24 = .ok (.iand, 1) := by decide +kernel
theorem dX5_nextOf_25 : decode cX5_nextOf 25 = .ok (.ifCond .ne 24, 3) := by decide +kernel
theorem dX5_nextOf_28 : decode cX5_nextOf 28 = .ok (.aload_n 0, 1) := by decide +kernel
theorem dX5_nextOf_29 : decode cX5_nextOf 29 = .ok (.iload 4, 2) := by decide +kernel
theorem dX5_nextOf_31 : decode cX5_nextOf 31 = .ok (.iload_n 1, 1) := by decide +kernel
theorem dX5_nextOf_32 : decode cX5_nextOf 32 = .ok (.invokevirtual 101, 3) := by decide +kernel
theorem dX5_nextOf_35 : decode cX5_nextOf 35 = .ok (.aload_n 0, 1) := by decide +kernel
theorem dX5_nextOf_36 : decode cX5_nextOf 36 = .ok (.iload 4, 2) := by decide +kernel
theorem dX5_nextOf_38 : decode cX5_nextOf 38 = .ok (.invokevirtual 98, 3) := by decide +kernel
theorem dX5_nextOf_41 : decode cX5_nextOf 41 = .ok (.lcmp, 1) := by decide +kernel
theorem dX5_nextOf_42 : decode cX5_nextOf 42 = .ok (.ifCond .ge 7, 3) := by decide +kernel
theorem dX5_nextOf_45 : decode cX5_nextOf 45 = .ok (.iconst 1, 1) := by decide +kernel
theorem dX5_nextOf_46 : decode cX5_nextOf 46 = .ok (.goto 4, 3) := by decide +kernel
theorem dX5_nextOf_49 : decode cX5_nextOf 49 = .ok (.iconst 0, 1) := by decide +kernel
theorem dX5_nextOf_50 : decode cX5_nextOf 50 = .ok (.istore 5, 2) := by decide +kernel
theorem dX5_nextOf_52 : decode cX5_nextOf 52 = .ok (.iload 5, 2) := by decide +kernel
theorem dX5_nextOf_54 : decode cX5_nextOf 54 = .ok (.ifCond .eq 31, 3) := by decide +kernel
theorem dX5_nextOf_57 : decode cX5_nextOf 57 = .ok (.iload_n 3, 1) := by decide +kernel
theorem dX5_nextOf_58 : decode cX5_nextOf 58 = .ok (.bipush (-6), 2) := by decide +kernel
theorem dX5_nextOf_60 : decode cX5_nextOf 60 = .ok (.if_icmp .eq 20, 3) := by decide +kernel
theorem dX5_nextOf_63 : decode cX5_nextOf 63 = .ok (.aload_n 0, 1) := by decide +kernel
theorem dX5_nextOf_64 : decode cX5_nextOf 64 = .ok (.iload 4, 2) := by decide +kernel
theorem dX5_nextOf_66 : decode cX5_nextOf 66 = .ok (.iload_n 1, 1) := by decide +kernel
theorem dX5_nextOf_67 : decode cX5_nextOf 67 = .ok (.invokevirtual 101, 3) := by decide +kernel
theorem dX5_nextOf_70 : decode cX5_nextOf 70 = .ok (.aload_n 0, 1) := by decide +kernel
theorem dX5_nextOf_71 : decode cX5_nextOf 71 = .ok (.iload_n 3, 1) := by decide +kernel
theorem dX5_nextOf_72 : decode cX5_nextOf 72 = .ok (.iload_n 1, 1) := by decide +kernel
theorem dX5_nextOf_73 : decode cX5_nextOf 73 = .ok (.invokevirtual 101, 3) := by decide +kernel
theorem dX5_nextOf_76 : decode cX5_nextOf 76 = .ok (.lcmp, 1) := by decide +kernel
theorem dX5_nextOf_77 : decode cX5_nextOf 77 = .ok (.ifCond .ge 8, 3) := by decide +kernel
theorem dX5_nextOf_80 : decode cX5_nextOf 80 = .ok (.iload 4, 2) := by decide +kernel
theorem dX5_nextOf_82 : decode cX5_nextOf 82 = .ok (.goto 4, 3) := by decide +kernel
theorem dX5_nextOf_85 : decode cX5_nextOf 85 = .ok (.iload_n 3, 1) := by decide +kernel
theorem dX5_nextOf_86 : decode cX5_nextOf 86 = .ok (.istore_n 3, 1) := by decide +kernel
theorem dX5_nextOf_87 : decode cX5_nextOf 87 = .ok (.iinc 4 1, 3) := by decide +kernel
theorem dX5_nextOf_90 : decode cX5_nextOf 90 = .ok (.goto (-84), 3) := by decide +kernel
theorem dX5_nextOf_93 : decode cX5_nextOf 93 = .ok (.iload_n 3, 1) := by decide +kernel
theorem dX5_nextOf_94 : decode cX5_nextOf 94 = .ok (.ireturn, 1) := by decide +kernel
theorem dX5_plansWeek_0 : decode cX5_plansWeek 0 = .ok (.iconst 0, 1) := by decide +kernel
theorem dX5_plansWeek_1 : decode cX5_plansWeek 1 = .ok (.istore_n 2, 1) := by decide +kernel
theorem dX5_plansWeek_2 : decode cX5_plansWeek 2 = .ok (.aload_n 0, 1) := by decide +kernel
theorem dX5_plansWeek_3 : decode cX5_plansWeek 3 = .ok (.iload_n 1, 1) := by decide +kernel
theorem dX5_plansWeek_4 : decode cX5_plansWeek 4 = .ok (.iload_n 2, 1) := by decide +kernel
theorem dX5_plansWeek_5 : decode cX5_plansWeek 5 = .ok (.invokevirtual 104, 3) := by decide +kernel
theorem dX5_plansWeek_8 : decode cX5_plansWeek 8 = .ok (.istore_n 3, 1) := by decide +kernel
theorem dX5_plansWeek_9 : decode cX5_plansWeek 9 = .ok (.iload_n 3, 1) := by decide +kernel
theorem dX5_plansWeek_10 : decode cX5_plansWeek 10 = .ok (.bipush (-6), 2) := by decide +kernel
theorem dX5_plansWeek_12 : decode cX5_plansWeek 12 = .ok (.if_icmp .eq 59, 3) := by decide +kernel
theorem dX5_plansWeek_15 : decode cX5_plansWeek 15 = .ok (.iload_n 2, 1) := by decide +kernel
theorem dX5_plansWeek_16 : decode cX5_plansWeek 16 = .ok (.iconst 1, 1) := by decide +kernel
theorem dX5_plansWeek_17 : decode cX5_plansWeek 17 = .ok (.iload_n 3, 1) := by decide +kernel
theorem dX5_plansWeek_18 : decode cX5_plansWeek 18 = .ok (.ishl, 1) := by decide +kernel
theorem dX5_plansWeek_19 : decode cX5_plansWeek 19 = .ok (.ior, 1) := by decide +kernel
theorem dX5_plansWeek_20 : decode cX5_plansWeek 20 = .ok (.istore_n 2, 1) := by decide +kernel
theorem dX5_plansWeek_21 : decode cX5_plansWeek 21 = .ok (.aload_n 0, 1) := by decide +kernel
theorem dX5_plansWeek_22 : decode cX5_plansWeek 22 = .ok (.iload_n 3, 1) := by decide +kernel
theorem dX5_plansWeek_23 : decode cX5_plansWeek 23 = .ok (.iload_n 1, 1) := by decide +kernel
theorem dX5_plansWeek_24 : decode cX5_plansWeek 24 = .ok (.invokevirtual 108, 3) := by decide +kernel
theorem dX5_plansWeek_27 : decode cX5_plansWeek 27 = .ok (.lstore 4, 2) := by decide +kernel
theorem dX5_plansWeek_29 : decode cX5_plansWeek 29 = .ok (.aload_n 0, 1) := by decide +kernel
theorem dX5_plansWeek_30 : decode cX5_plansWeek 30 = .ok (.iload_n 3, 1) := by decide +kernel
theorem dX5_plansWeek_31 : decode cX5_plansWeek 31 = .ok (.iload_n 1, 1) := by decide +kernel
theorem dX5_plansWeek_32 : decode cX5_plansWeek 32 = .ok (.invokevirtual 111, 3) := by decide +kernel
theorem dX5_plansWeek_35 : decode cX5_plansWeek 35 = .ok (.lstore 6, 2) := by decide +kernel
theorem dX5_plansWeek_37 : decode cX5_plansWeek 37 = .ok (.aload_n 0, 1) := by decide +kernel
theorem dX5_plansWeek_38 : decode cX5_plansWeek 38 = .ok (.iload_n 3, 1) := by decide +kernel
theorem dX5_plansWeek_39 : decode cX5_plansWeek 39 = .ok (.bipush 24, 2) := by decide +kernel
theorem dX5_plansWeek_41 : decode cX5_plansWeek 41 = .ok (.iload_n 1, 1) := by decide +kernel
theorem dX5_plansWeek_42 : decode cX5_plansWeek 42 = .ok (.iadd, 1) := by decide +kernel
theorem dX5_plansWeek_43 : decode cX5_plansWeek 43 = .ok (.lload 4, 2) := by decide +kernel
theorem dX5_plansWeek_45 : decode cX5_plansWeek 45 = .ok (.lload 6, 2) := by decide +kernel
theorem dX5_plansWeek_47 : decode cX5_plansWeek 47 = .ok (.lcmp, 1) := by decide +kernel
theorem dX5_plansWeek_48 : decode cX5_plansWeek 48 = .ok (.ifCond .ge 8, 3) := by decide +kernel
theorem dX5_plansWeek_51 : decode cX5_plansWeek 51 = .ok (.lload 4, 2) := by decide +kernel
theorem dX5_plansWeek_53 : decode cX5_plansWeek 53 = .ok (.goto 5, 3) := by decide +kernel
theorem dX5_plansWeek_56 : decode cX5_plansWeek 56 = .ok (.lload 6, 2) := by decide +kernel
theorem dX5_plansWeek_58 : decode cX5_plansWeek 58 = .ok (.invokevirtual 72, 3) := by decide +kernel
theorem dX5_plansWeek_61 : decode cX5_plansWeek 61 = .ok (.aload_n 0, 1) := by decide +kernel
theorem dX5_plansWeek_62 : decode cX5_plansWeek 62 = .ok (.iload_n 1, 1) := by decide +kernel
theorem dX5_plansWeek_63 : decode cX5_plansWeek 63 = .ok (.iload_n 2, 1) := by decide +kernel
theorem dX5_plansWeek_64 : decode cX5_plansWeek 64 = .ok (.invokevirtual 104, 3) := by decide +kernel
theorem dX5_plansWeek_67 : decode cX5_plansWeek 67 = .ok (.istore_n 3, 1) := by decide +kernel
theorem dX5_plansWeek_68 : decode cX5_plansWeek 68 = .ok (.goto (-59), 3) := by decide +kernel
theorem dX5_plansWeek_71 : decode cX5_plansWeek 71 = .ok (.return_, 1) := by decide +kernel
theorem dX5_plans_0 : decode cX5_plans 0 = .ok (.iconst 0, 1) := by decide +kernel
theorem dX5_plans_1 : decode cX5_plans 1 = .ok (.istore_n 1, 1) := by decide +kernel
theorem dX5_plans_2 : decode cX5_plans 2 = .ok (.iload_n 1, 1) := by decide +kernel
theorem dX5_plans_3 : decode cX5_plans 3 = .ok (.i2l, 1) := by decide +kernel
theorem dX5_plans_4 : decode cX5_plans 4 = .ok (.aload_n 0, 1) := by decide +kernel
theorem dX5_plans_5 : decode cX5_plans 5 = .ok (.getfield 7, 3) := by decide +kernel
theorem dX5_plans_8 : decode cX5_plans 8 = .ok (.iconst 1, 1) := by decide +kernel
theorem dX5_plans_9 : decode cX5_plans 9 = .ok (.laload, 1) := by decide +kernel
theorem dX5_plans_10 : decode cX5_plans 10 = .ok (.lcmp, 1) := by decide +kernel
theorem dX5_plans_11 : decode cX5_plans 11 = .ok (.ifCond .ge 36, 3) := by decide +kernel
theorem dX5_plans_14 : decode cX5_plans 14 = .ok (.aload_n 0, 1) := by decide +kernel
theorem dX5_plans_15 : decode cX5_plans 15 = .ok (.invokevirtual 114, 3) := by decide +kernel
theorem dX5_plans_18 : decode cX5_plans 18 = .ok (.istore_n 2, 1) := by decide +kernel
theorem dX5_plans_19 : decode cX5_plans 19 = .ok (.iload_n 2, 1) := by decide +kernel
theorem dX5_plans_20 : decode cX5_plans 20 = .ok (.bipush 12, 2) := by decide +kernel
theorem dX5_plans_22 : decode cX5_plans 22 = .ok (.if_icmp .ge 19, 3) := by decide +kernel
theorem dX5_plans_25 : decode cX5_plans 25 = .ok (.aload_n 0, 1) := by decide +kernel
theorem dX5_plans_26 : decode cX5_plans 26 = .ok (.iload_n 1, 1) := by decide +kernel
theorem dX5_plans_27 : decode cX5_plans 27 = .ok (.bipush 24, 2) := by decide +kernel
theorem dX5_plans_29 : decode cX5_plans 29 = .ok (.iload_n 2, 1) := by decide +kernel
theorem dX5_plans_30 : decode cX5_plans 30 = .ok (.iadd, 1) := by decide +kernel
theorem dX5_plans_31 : decode cX5_plans 31 = .ok (.lconst 0, 1) := by decide +kernel
theorem dX5_plans_32 : decode cX5_plans 32 = .ok (.invokevirtual 72, 3) := by decide +kernel
theorem dX5_plans_35 : decode cX5_plans 35 = .ok (.iinc 2 1, 3) := by decide +kernel
theorem dX5_plans_38 : decode cX5_plans 38 = .ok (.goto (-19), 3) := by decide +kernel
theorem dX5_plans_41 : decode cX5_plans 41 = .ok (.iinc 1 1, 3) := by decide +kernel
theorem dX5_plans_44 : decode cX5_plans 44 = .ok (.goto (-42), 3) := by decide +kernel
theorem dX5_plans_47 : decode cX5_plans 47 = .ok (.aload_n 0, 1) := by decide +kernel
theorem dX5_plans_48 : decode cX5_plans 48 = .ok (.invokevirtual 114, 3) := by decide +kernel
theorem dX5_plans_51 : decode cX5_plans 51 = .ok (.istore_n 1, 1) := by decide +kernel
theorem dX5_plans_52 : decode cX5_plans 52 = .ok (.iload_n 1, 1) := by decide +kernel
theorem dX5_plans_53 : decode cX5_plans 53 = .ok (.bipush 12, 2) := by decide +kernel
theorem dX5_plans_55 : decode cX5_plans 55 = .ok (.if_icmp .ge 14, 3) := by decide +kernel
theorem dX5_plans_58 : decode cX5_plans 58 = .ok (.aload_n 0, 1) := by decide +kernel
theorem dX5_plans_59 : decode cX5_plans 59 = .ok (.iload_n 1, 1) := by decide +kernel
theorem dX5_plans_60 : decode cX5_plans 60 = .ok (.invokevirtual 118, 3) := by decide +kernel
theorem dX5_plans_63 : decode cX5_plans 63 = .ok (.iinc 1 1, 3) := by decide +kernel
theorem dX5_plans_66 : decode cX5_plans 66 = .ok (.goto (-14), 3) := by decide +kernel
theorem dX5_plans_69 : decode cX5_plans 69 = .ok (.return_, 1) := by decide +kernel
theorem dX5_lotsInAll_0 : decode cX5_lotsInAll 0 = .ok (.lconst 0, 1) := by decide +kernel
theorem dX5_lotsInAll_1 : decode cX5_lotsInAll 1 = .ok (.lstore_n 1, 1) := by decide +kernel
theorem dX5_lotsInAll_2 : decode cX5_lotsInAll 2 = .ok (.iconst 0, 1) := by decide +kernel
theorem dX5_lotsInAll_3 : decode cX5_lotsInAll 3 = .ok (.istore_n 3, 1) := by decide +kernel
theorem dX5_lotsInAll_4 : decode cX5_lotsInAll 4 = .ok (.iload_n 3, 1) := by decide +kernel
theorem dX5_lotsInAll_5 : decode cX5_lotsInAll 5 = .ok (.i2l, 1) := by decide +kernel
theorem dX5_lotsInAll_6 : decode cX5_lotsInAll 6 = .ok (.aload_n 0, 1) := by decide +kernel
theorem dX5_lotsInAll_7 : decode cX5_lotsInAll 7 = .ok (.getfield 7, 3) := by decide +kernel
theorem dX5_lotsInAll_10 : decode cX5_lotsInAll 10 = .ok (.iconst 1, 1) := by decide +kernel
theorem dX5_lotsInAll_11 : decode cX5_lotsInAll 11 = .ok (.laload, 1) := by decide +kernel
theorem dX5_lotsInAll_12 : decode cX5_lotsInAll 12 = .ok (.lcmp, 1) := by decide +kernel
theorem dX5_lotsInAll_13 : decode cX5_lotsInAll 13 = .ok (.ifCond .ge 38, 3) := by decide +kernel
theorem dX5_lotsInAll_16 : decode cX5_lotsInAll 16 = .ok (.iconst 0, 1) := by decide +kernel
theorem dX5_lotsInAll_17 : decode cX5_lotsInAll 17 = .ok (.istore 4, 2) := by decide +kernel
theorem dX5_lotsInAll_19 : decode cX5_lotsInAll 19 = .ok (.iload 4, 2) := by decide +kernel
theorem dX5_lotsInAll_21 : decode cX5_lotsInAll 21 = .ok (.bipush 12, 2) := by decide +kernel
theorem dX5_lotsInAll_23 : decode cX5_lotsInAll 23 = .ok (.if_icmp .ge 22, 3) := by decide +kernel
theorem dX5_lotsInAll_26 : decode cX5_lotsInAll 26 = .ok (.lload_n 1, 1) := by decide +kernel
theorem dX5_lotsInAll_27 : decode cX5_lotsInAll 27 = .ok (.aload_n 0, 1) := by decide +kernel
theorem dX5_lotsInAll_28 : decode cX5_lotsInAll 28 = .ok (.iload_n 3, 1) := by decide +kernel
theorem dX5_lotsInAll_29 : decode cX5_lotsInAll 29 = .ok (.bipush 24, 2) := by decide +kernel
theorem dX5_lotsInAll_31 : decode cX5_lotsInAll 31 = .ok (.iload 4, 2) := by decide +kernel
theorem dX5_lotsInAll_33 : decode cX5_lotsInAll 33 = .ok (.iadd, 1) := by decide +kernel
theorem dX5_lotsInAll_34 : decode cX5_lotsInAll 34 = .ok (.invokevirtual 78, 3) := by decide +kernel
theorem dX5_lotsInAll_37 : decode cX5_lotsInAll 37 = .ok (.ladd, 1) := by decide +kernel
theorem dX5_lotsInAll_38 : decode cX5_lotsInAll 38 = .ok (.lstore_n 1, 1) := by decide +kernel
theorem dX5_lotsInAll_39 : decode cX5_lotsInAll 39 = .ok (.iinc 4 1, 3) := by decide +kernel
theorem dX5_lotsInAll_42 : decode cX5_lotsInAll 42 = .ok (.goto (-23), 3) := by decide +kernel
theorem dX5_lotsInAll_45 : decode cX5_lotsInAll 45 = .ok (.iinc 3 1, 3) := by decide +kernel
theorem dX5_lotsInAll_48 : decode cX5_lotsInAll 48 = .ok (.goto (-44), 3) := by decide +kernel
theorem dX5_lotsInAll_51 : decode cX5_lotsInAll 51 = .ok (.lload_n 1, 1) := by decide +kernel
theorem dX5_lotsInAll_52 : decode cX5_lotsInAll 52 = .ok (.l2i, 1) := by decide +kernel
theorem dX5_lotsInAll_53 : decode cX5_lotsInAll 53 = .ok (.ireturn, 1) := by decide +kernel
theorem dX5_plan_0 : decode cX5_plan 0 = .ok (.aload_n 0, 1) := by decide +kernel
theorem dX5_plan_1 : decode cX5_plan 1 = .ok (.invokevirtual 56, 3) := by decide +kernel
theorem dX5_plan_4 : decode cX5_plan 4 = .ok (.aload_n 0, 1) := by decide +kernel
theorem dX5_plan_5 : decode cX5_plan 5 = .ok (.invokevirtual 121, 3) := by decide +kernel
theorem dX5_plan_8 : decode cX5_plan 8 = .ok (.aload_n 0, 1) := by decide +kernel
theorem dX5_plan_9 : decode cX5_plan 9 = .ok (.invokevirtual 124, 3) := by decide +kernel
theorem dX5_plan_12 : decode cX5_plan 12 = .ok (.ireturn, 1) := by decide +kernel
theorem dX5_forecastError_0 : decode cX5_forecastError 0 = .ok (.aload_n 0, 1) := by decide +kernel
theorem dX5_forecastError_1 : decode cX5_forecastError 1 = .ok (.iload_n 1, 1) := by decide +kernel
theorem dX5_forecastError_2 : decode cX5_forecastError 2 = .ok (.invokevirtual 127, 3) := by decide +kernel
theorem dX5_forecastError_5 : decode cX5_forecastError 5 = .ok (.ifCond .eq 10, 3) := by decide +kernel
theorem dX5_forecastError_8 : decode cX5_forecastError 8 = .ok (.iload_n 2, 1) := by decide +kernel
theorem dX5_forecastError_9 : decode cX5_forecastError 9 = .ok (.invokestatic 131, 3) := by decide +kernel
theorem dX5_forecastError_12 : decode cX5_forecastError 12 = .ok (.ifCond .ne 5, 3) := by decide +kernel
theorem dX5_forecastError_15 : decode cX5_forecastError 15 = .ok (.iconst (-1), 1) := by decide +kernel
theorem dX5_forecastError_16 : decode cX5_forecastError 16 = .ok (.ireturn, 1) := by decide +kernel
theorem dX5_forecastError_17 : decode cX5_forecastError 17 = .ok (.iload_n 3, 1) := by decide +kernel
theorem dX5_forecastError_18 : decode cX5_forecastError 18 = .ok (.i2l, 1) := by decide +kernel
theorem dX5_forecastError_19 : decode cX5_forecastError 19 = .ok (.lconst 0, 1) := by decide +kernel
theorem dX5_forecastError_20 : decode cX5_forecastError 20 = .ok (.ldc2_w 96, 3) := by decide +kernel
theorem dX5_forecastError_23 : decode cX5_forecastError 23 = .ok (.invokestatic 35, 3) := by decide +kernel
theorem dX5_forecastError_26 : decode cX5_forecastError 26 = .ok (.ifCond .eq 7, 3) := by decide +kernel
theorem dX5_forecastError_29 : decode cX5_forecastError 29 = .ok (.iconst 0, 1) := by decide +kernel
theorem dX5_forecastError_30 : decode cX5_forecastError 30 = .ok (.goto 5, 3) := by decide +kernel
theorem dX5_forecastError_33 : decode cX5_forecastError 33 = .ok (.bipush (-2), 2) := by decide +kernel
theorem dX5_forecastError_35 : decode cX5_forecastError 35 = .ok (.ireturn, 1) := by decide +kernel
theorem dX5_forecasts_0 : decode cX5_forecasts 0 = .ok (.aload_n 0, 1) := by decide +kernel
theorem dX5_forecasts_1 : decode cX5_forecasts 1 = .ok (.iload_n 1, 1) := by decide +kernel
theorem dX5_forecasts_2 : decode cX5_forecasts 2 = .ok (.bipush 12, 2) := by decide +kernel
theorem dX5_forecasts_4 : decode cX5_forecasts 4 = .ok (.iload_n 2, 1) := by decide +kernel
theorem dX5_forecasts_5 : decode cX5_forecasts 5 = .ok (.iadd, 1) := by decide +kernel
theorem dX5_forecasts_6 : decode cX5_forecasts 6 = .ok (.invokevirtual 78, 3) := by decide +kernel
theorem dX5_forecasts_9 : decode cX5_forecasts 9 = .ok (.l2i, 1) := by decide +kernel
theorem dX5_forecasts_10 : decode cX5_forecasts 10 = .ok (.istore 4, 2) := by decide +kernel
theorem dX5_forecasts_12 : decode cX5_forecasts 12 = .ok (.aload_n 0, 1) := by decide +kernel
theorem dX5_forecasts_13 : decode cX5_forecasts 13 = .ok (.iload_n 1, 1) := by decide +kernel
theorem dX5_forecasts_14 : decode cX5_forecasts 14 = .ok (.bipush 12, 2) := by decide +kernel
theorem dX5_forecasts_16 : decode cX5_forecasts 16 = .ok (.iload_n 2, 1) := by decide +kernel
theorem dX5_forecasts_17 : decode cX5_forecasts 17 = .ok (.iadd, 1) := by decide +kernel
theorem dX5_forecasts_18 : decode cX5_forecasts 18 = .ok (.iload_n 3, 1) := by decide +kernel
theorem dX5_forecasts_19 : decode cX5_forecasts 19 = .ok (.i2l, 1) := by decide +kernel
theorem dX5_forecasts_20 : decode cX5_forecasts 20 = .ok (.invokevirtual 72, 3) := by decide +kernel
theorem dX5_forecasts_23 : decode cX5_forecasts 23 = .ok (.iload 4, 2) := by decide +kernel
theorem dX5_forecasts_25 : decode cX5_forecasts 25 = .ok (.ireturn, 1) := by decide +kernel
theorem dX5_forecast_0 : decode cX5_forecast 0 = .ok (.aload_n 0, 1) := by decide +kernel
theorem dX5_forecast_1 : decode cX5_forecast 1 = .ok (.iload_n 1, 1) := by decide +kernel
theorem dX5_forecast_2 : decode cX5_forecast 2 = .ok (.iload_n 2, 1) := by decide +kernel
theorem dX5_forecast_3 : decode cX5_forecast 3 = .ok (.iload_n 3, 1) := by decide +kernel
theorem dX5_forecast_4 : decode cX5_forecast 4 = .ok (.invokevirtual 134, 3) := by decide +kernel
theorem dX5_forecast_7 : decode cX5_forecast 7 = .ok (.istore 4, 2) := by decide +kernel
theorem dX5_forecast_9 : decode cX5_forecast 9 = .ok (.iload 4, 2) := by decide +kernel
theorem dX5_forecast_11 : decode cX5_forecast 11 = .ok (.ifCond .eq 6, 3) := by decide +kernel
theorem dX5_forecast_14 : decode cX5_forecast 14 = .ok (.iload 4, 2) := by decide +kernel
theorem dX5_forecast_16 : decode cX5_forecast 16 = .ok (.ireturn, 1) := by decide +kernel
theorem dX5_forecast_17 : decode cX5_forecast 17 = .ok (.aload_n 0, 1) := by decide +kernel
theorem dX5_forecast_18 : decode cX5_forecast 18 = .ok (.invokevirtual 56, 3) := by decide +kernel
theorem dX5_forecast_21 : decode cX5_forecast 21 = .ok (.aload_n 0, 1) := by decide +kernel
theorem dX5_forecast_22 : decode cX5_forecast 22 = .ok (.iload_n 1, 1) := by decide +kernel
theorem dX5_forecast_23 : decode cX5_forecast 23 = .ok (.iload_n 2, 1) := by decide +kernel
theorem dX5_forecast_24 : decode cX5_forecast 24 = .ok (.iload_n 3, 1) := by decide +kernel
theorem dX5_forecast_25 : decode cX5_forecast 25 = .ok (.invokevirtual 138, 3) := by decide +kernel
theorem dX5_forecast_28 : decode cX5_forecast 28 = .ok (.ireturn, 1) := by decide +kernel
theorem dX5_actualError_0 : decode cX5_actualError 0 = .ok (.aload_n 0, 1) := by decide +kernel
theorem dX5_actualError_1 : decode cX5_actualError 1 = .ok (.iload_n 1, 1) := by decide +kernel
theorem dX5_actualError_2 : decode cX5_actualError 2 = .ok (.invokevirtual 127, 3) := by decide +kernel
theorem dX5_actualError_5 : decode cX5_actualError 5 = .ok (.ifCond .ne 5, 3) := by decide +kernel
theorem dX5_actualError_8 : decode cX5_actualError 8 = .ok (.iconst (-1), 1) := by decide +kernel
theorem dX5_actualError_9 : decode cX5_actualError 9 = .ok (.ireturn, 1) := by decide +kernel
theorem dX5_actualError_10 : decode cX5_actualError 10 = .ok (.iload_n 2, 1) := by decide +kernel
theorem dX5_actualError_11 : decode cX5_actualError 11 = .ok (.bipush (-6), 2) := by decide +kernel
theorem dX5_actualError_13 : decode cX5_actualError 13 = .ok (.if_icmp .eq 15, 3) := by decide +kernel
theorem dX5_actualError_16 : decode cX5_actualError 16 = .ok (.iload_n 2, 1) := by decide +kernel
theorem dX5_actualError_17 : decode cX5_actualError 17 = .ok (.i2l, 1) := by decide +kernel
theorem dX5_actualError_18 : decode cX5_actualError 18 = .ok (.lconst 0, 1) := by decide +kernel
theorem dX5_actualError_19 : decode cX5_actualError 19 = .ok (.ldc2_w 141, 3) := by decide +kernel
theorem dX5_actualError_22 : decode cX5_actualError 22 = .ok (.invokestatic 35, 3) := by decide +kernel
theorem dX5_actualError_25 : decode cX5_actualError 25 = .ok (.ifCond .eq 7, 3) := by decide +kernel
theorem dX5_actualError_28 : decode cX5_actualError 28 = .ok (.iconst 0, 1) := by decide +kernel
theorem dX5_actualError_29 : decode cX5_actualError 29 = .ok (.goto 5, 3) := by decide +kernel
theorem dX5_actualError_32 : decode cX5_actualError 32 = .ok (.bipush (-2), 2) := by decide +kernel
theorem dX5_actualError_34 : decode cX5_actualError 34 = .ok (.ireturn, 1) := by decide +kernel
theorem dX5_tells_0 : decode cX5_tells 0 = .ok (.aload_n 0, 1) := by decide +kernel
theorem dX5_tells_1 : decode cX5_tells 1 = .ok (.iload_n 1, 1) := by decide +kernel
theorem dX5_tells_2 : decode cX5_tells 2 = .ok (.bipush 7, 2) := by decide +kernel
theorem dX5_tells_4 : decode cX5_tells 4 = .ok (.invokevirtual 78, 3) := by decide +kernel
theorem dX5_tells_7 : decode cX5_tells 7 = .ok (.l2i, 1) := by decide +kernel
theorem dX5_tells_8 : decode cX5_tells 8 = .ok (.istore_n 3, 1) := by decide +kernel
theorem dX5_tells_9 : decode cX5_tells 9 = .ok (.aload_n 0, 1) := by decide +kernel
theorem dX5_tells_10 : decode cX5_tells 10 = .ok (.iload_n 1, 1) := by decide +kernel
theorem dX5_tells_11 : decode cX5_tells 11 = .ok (.bipush 7, 2) := by decide +kernel
theorem dX5_tells_13 : decode cX5_tells 13 = .ok (.iload_n 2, 1) := by decide +kernel
theorem dX5_tells_14 : decode cX5_tells 14 = .ok (.i2l, 1) := by decide +kernel
theorem dX5_tells_15 : decode cX5_tells 15 = .ok (.invokevirtual 72, 3) := by decide +kernel
theorem dX5_tells_18 : decode cX5_tells 18 = .ok (.iload_n 3, 1) := by decide +kernel
theorem dX5_tells_19 : decode cX5_tells 19 = .ok (.ireturn, 1) := by decide +kernel
theorem dX5_actual_0 : decode cX5_actual 0 = .ok (.aload_n 0, 1) := by decide +kernel
theorem dX5_actual_1 : decode cX5_actual 1 = .ok (.iload_n 1, 1) := by decide +kernel
theorem dX5_actual_2 : decode cX5_actual 2 = .ok (.iload_n 2, 1) := by decide +kernel
theorem dX5_actual_3 : decode cX5_actual 3 = .ok (.invokevirtual 143, 3) := by decide +kernel
theorem dX5_actual_6 : decode cX5_actual 6 = .ok (.istore_n 3, 1) := by decide +kernel
theorem dX5_actual_7 : decode cX5_actual 7 = .ok (.iload_n 3, 1) := by decide +kernel
theorem dX5_actual_8 : decode cX5_actual 8 = .ok (.ifCond .eq 5, 3) := by decide +kernel
theorem dX5_actual_11 : decode cX5_actual 11 = .ok (.iload_n 3, 1) := by decide +kernel
theorem dX5_actual_12 : decode cX5_actual 12 = .ok (.ireturn, 1) := by decide +kernel
theorem dX5_actual_13 : decode cX5_actual 13 = .ok (.aload_n 0, 1) := by decide +kernel
theorem dX5_actual_14 : decode cX5_actual 14 = .ok (.invokevirtual 56, 3) := by decide +kernel
theorem dX5_actual_17 : decode cX5_actual 17 = .ok (.aload_n 0, 1) := by decide +kernel
theorem dX5_actual_18 : decode cX5_actual 18 = .ok (.iload_n 1, 1) := by decide +kernel
theorem dX5_actual_19 : decode cX5_actual 19 = .ok (.iload_n 2, 1) := by decide +kernel
theorem dX5_actual_20 : decode cX5_actual 20 = .ok (.invokevirtual 146, 3) := by decide +kernel
theorem dX5_actual_23 : decode cX5_actual 23 = .ok (.ireturn, 1) := by decide +kernel
theorem dX5_lotsError_0 : decode cX5_lotsError 0 = .ok (.aload_n 0, 1) := by decide +kernel
theorem dX5_lotsError_1 : decode cX5_lotsError 1 = .ok (.iload_n 1, 1) := by decide +kernel
theorem dX5_lotsError_2 : decode cX5_lotsError 2 = .ok (.invokevirtual 127, 3) := by decide +kernel
theorem dX5_lotsError_5 : decode cX5_lotsError 5 = .ok (.ifCond .eq 10, 3) := by decide +kernel
theorem dX5_lotsError_8 : decode cX5_lotsError 8 = .ok (.iload_n 2, 1) := by decide +kernel
theorem dX5_lotsError_9 : decode cX5_lotsError 9 = .ok (.invokestatic 131, 3) := by decide +kernel
theorem dX5_lotsError_12 : decode cX5_lotsError 12 = .ok (.ifCond .ne 5, 3) := by decide +kernel
theorem dX5_lotsError_15 : decode cX5_lotsError 15 = .ok (.iconst (-1), 1) := by decide +kernel
theorem dX5_lotsError_16 : decode cX5_lotsError 16 = .ok (.ireturn, 1) := by decide +kernel
theorem dX5_lotsError_17 : decode cX5_lotsError 17 = .ok (.iload_n 3, 1) := by decide +kernel
theorem dX5_lotsError_18 : decode cX5_lotsError 18 = .ok (.i2l, 1) := by decide +kernel
theorem dX5_lotsError_19 : decode cX5_lotsError 19 = .ok (.lconst 0, 1) := by decide +kernel
theorem dX5_lotsError_20 : decode cX5_lotsError 20 = .ok (.ldc2_w 96, 3) := by decide +kernel
theorem dX5_lotsError_23 : decode cX5_lotsError 23 = .ok (.invokestatic 35, 3) := by decide +kernel
theorem dX5_lotsError_26 : decode cX5_lotsError 26 = .ok (.ifCond .ne 6, 3) := by decide +kernel
theorem dX5_lotsError_29 : decode cX5_lotsError 29 = .ok (.bipush (-2), 2) := by decide +kernel
theorem dX5_lotsError_31 : decode cX5_lotsError 31 = .ok (.ireturn, 1) := by decide +kernel
theorem dX5_lotsError_32 : decode cX5_lotsError 32 = .ok (.aload_n 0, 1) := by decide +kernel
theorem dX5_lotsError_33 : decode cX5_lotsError 33 = .ok (.iload_n 2, 1) := by decide +kernel
theorem dX5_lotsError_34 : decode cX5_lotsError 34 = .ok (.invokevirtual 89, 3) := by decide +kernel
theorem dX5_lotsError_37 : decode cX5_lotsError 37 = .ok (.lstore 4, 2) := by decide +kernel
theorem dX5_lotsError_39 : decode cX5_lotsError 39 = .ok (.aload_n 0, 1) := by decide +kernel
theorem dX5_lotsError_40 : decode cX5_lotsError 40 = .ok (.iload_n 1, 1) := by decide +kernel
theorem dX5_lotsError_41 : decode cX5_lotsError 41 = .ok (.bipush 24, 2) := by decide +kernel
theorem dX5_lotsError_43 : decode cX5_lotsError 43 = .ok (.iload_n 2, 1) := by decide +kernel
theorem dX5_lotsError_44 : decode cX5_lotsError 44 = .ok (.iadd, 1) := by decide +kernel
theorem dX5_lotsError_45 : decode cX5_lotsError 45 = .ok (.invokevirtual 78, 3) := by decide +kernel
theorem dX5_lotsError_48 : decode cX5_lotsError 48 = .ok (.lstore 6, 2) := by decide +kernel
theorem dX5_lotsError_50 : decode cX5_lotsError 50 = .ok (.aload_n 0, 1) := by decide +kernel
theorem dX5_lotsError_51 : decode cX5_lotsError 51 = .ok (.iload_n 1, 1) := by decide +kernel
theorem dX5_lotsError_52 : decode cX5_lotsError 52 = .ok (.bipush 24, 2) := by decide +kernel
theorem dX5_lotsError_54 : decode cX5_lotsError 54 = .ok (.iload_n 2, 1) := by decide +kernel
theorem dX5_lotsError_55 : decode cX5_lotsError 55 = .ok (.iadd, 1) := by decide +kernel
theorem dX5_lotsError_56 : decode cX5_lotsError 56 = .ok (.iload_n 3, 1) := by decide +kernel
theorem dX5_lotsError_57 : decode cX5_lotsError 57 = .ok (.i2l, 1) := by decide +kernel
theorem dX5_lotsError_58 : decode cX5_lotsError 58 = .ok (.invokevirtual 72, 3) := by decide +kernel
theorem dX5_lotsError_61 : decode cX5_lotsError 61 = .ok (.aload_n 0, 1) := by decide +kernel
theorem dX5_lotsError_62 : decode cX5_lotsError 62 = .ok (.iload_n 2, 1) := by decide +kernel
theorem dX5_lotsError_63 : decode cX5_lotsError 63 = .ok (.invokevirtual 89, 3) := by decide +kernel
theorem dX5_lotsError_66 : decode cX5_lotsError 66 = .ok (.lstore 8, 2) := by decide +kernel
theorem dX5_lotsError_68 : decode cX5_lotsError 68 = .ok (.aload_n 0, 1) := by decide +kernel
theorem dX5_lotsError_69 : decode cX5_lotsError 69 = .ok (.iload_n 1, 1) := by decide +kernel
theorem dX5_lotsError_70 : decode cX5_lotsError 70 = .ok (.bipush 24, 2) := by decide +kernel
theorem dX5_lotsError_72 : decode cX5_lotsError 72 = .ok (.iload_n 2, 1) := by decide +kernel
theorem dX5_lotsError_73 : decode cX5_lotsError 73 = .ok (.iadd, 1) := by decide +kernel
theorem dX5_lotsError_74 : decode cX5_lotsError 74 = .ok (.lload 6, 2) := by decide +kernel
theorem dX5_lotsError_76 : decode cX5_lotsError 76 = .ok (.invokevirtual 72, 3) := by decide +kernel
theorem dX5_lotsError_79 : decode cX5_lotsError 79 = .ok (.iload_n 2, 1) := by decide +kernel
theorem dX5_lotsError_80 : decode cX5_lotsError 80 = .ok (.aload_n 0, 1) := by decide +kernel
theorem dX5_lotsError_81 : decode cX5_lotsError 81 = .ok (.invokevirtual 114, 3) := by decide +kernel
theorem dX5_lotsError_84 : decode cX5_lotsError 84 = .ok (.if_icmp .lt 21, 3) := by decide +kernel
theorem dX5_lotsError_87 : decode cX5_lotsError 87 = .ok (.lload 8, 2) := by decide +kernel
theorem dX5_lotsError_89 : decode cX5_lotsError 89 = .ok (.aload_n 0, 1) := by decide +kernel
theorem dX5_lotsError_90 : decode cX5_lotsError 90 = .ok (.invokevirtual 92, 3) := by decide +kernel
theorem dX5_lotsError_93 : decode cX5_lotsError 93 = .ok (.lcmp, 1) := by decide +kernel
theorem dX5_lotsError_94 : decode cX5_lotsError 94 = .ok (.ifCond .le 16, 3) := by decide +kernel
theorem dX5_lotsError_97 : decode cX5_lotsError 97 = .ok (.lload 8, 2) := by decide +kernel
theorem dX5_lotsError_99 : decode cX5_lotsError 99 = .ok (.lload 4, 2) := by decide +kernel
theorem dX5_lotsError_101 : decode cX5_lotsError 101 = .ok (.lcmp, 1) := by decide +kernel
theorem dX5_lotsError_102 : decode cX5_lotsError 102 = .ok (.ifCond .le 8, 3) := by decide +kernel
theorem dX5_lotsError_105 : decode cX5_lotsError 105 = .ok (.bipush (-5), 2) := by decide +kernel
theorem dX5_lotsError_107 : decode cX5_lotsError 107 = .ok (.goto 4, 3) := by decide +kernel
theorem dX5_lotsError_110 : decode cX5_lotsError 110 = .ok (.iconst 0, 1) := by decide +kernel
theorem dX5_lotsError_111 : decode cX5_lotsError 111 = .ok (.ireturn, 1) := by decide +kernel
theorem dX5_plansLots_0 : decode cX5_plansLots 0 = .ok (.aload_n 0, 1) := by decide +kernel
theorem dX5_plansLots_1 : decode cX5_plansLots 1 = .ok (.iload_n 1, 1) := by decide +kernel
theorem dX5_plansLots_2 : decode cX5_plansLots 2 = .ok (.bipush 24, 2) := by decide +kernel
theorem dX5_plansLots_4 : decode cX5_plansLots 4 = .ok (.iload_n 2, 1) := by decide +kernel
theorem dX5_plansLots_5 : decode cX5_plansLots 5 = .ok (.iadd, 1) := by decide +kernel
theorem dX5_plansLots_6 : decode cX5_plansLots 6 = .ok (.invokevirtual 78, 3) := by decide +kernel
theorem dX5_plansLots_9 : decode cX5_plansLots 9 = .ok (.l2i, 1) := by decide +kernel
theorem dX5_plansLots_10 : decode cX5_plansLots 10 = .ok (.istore 4, 2) := by decide +kernel
theorem dX5_plansLots_12 : decode cX5_plansLots 12 = .ok (.aload_n 0, 1) := by decide +kernel
theorem dX5_plansLots_13 : decode cX5_plansLots 13 = .ok (.iload_n 1, 1) := by decide +kernel
theorem dX5_plansLots_14 : decode cX5_plansLots 14 = .ok (.bipush 24, 2) := by decide +kernel
theorem dX5_plansLots_16 : decode cX5_plansLots 16 = .ok (.iload_n 2, 1) := by decide +kernel
theorem dX5_plansLots_17 : decode cX5_plansLots 17 = .ok (.iadd, 1) := by decide +kernel
theorem dX5_plansLots_18 : decode cX5_plansLots 18 = .ok (.iload_n 3, 1) := by decide +kernel
theorem dX5_plansLots_19 : decode cX5_plansLots 19 = .ok (.i2l, 1) := by decide +kernel
theorem dX5_plansLots_20 : decode cX5_plansLots 20 = .ok (.invokevirtual 72, 3) := by decide +kernel
theorem dX5_plansLots_23 : decode cX5_plansLots 23 = .ok (.iload 4, 2) := by decide +kernel
theorem dX5_plansLots_25 : decode cX5_plansLots 25 = .ok (.ireturn, 1) := by decide +kernel
theorem dX5_lots_0 : decode cX5_lots 0 = .ok (.aload_n 0, 1) := by decide +kernel
theorem dX5_lots_1 : decode cX5_lots 1 = .ok (.iload_n 1, 1) := by decide +kernel
theorem dX5_lots_2 : decode cX5_lots 2 = .ok (.iload_n 2, 1) := by decide +kernel
theorem dX5_lots_3 : decode cX5_lots 3 = .ok (.iload_n 3, 1) := by decide +kernel
theorem dX5_lots_4 : decode cX5_lots 4 = .ok (.invokevirtual 149, 3) := by decide +kernel
theorem dX5_lots_7 : decode cX5_lots 7 = .ok (.istore 4, 2) := by decide +kernel
theorem dX5_lots_9 : decode cX5_lots 9 = .ok (.iload 4, 2) := by decide +kernel
theorem dX5_lots_11 : decode cX5_lots 11 = .ok (.ifCond .eq 6, 3) := by decide +kernel
theorem dX5_lots_14 : decode cX5_lots 14 = .ok (.iload 4, 2) := by decide +kernel
theorem dX5_lots_16 : decode cX5_lots 16 = .ok (.ireturn, 1) := by decide +kernel
theorem dX5_lots_17 : decode cX5_lots 17 = .ok (.aload_n 0, 1) := by decide +kernel
theorem dX5_lots_18 : decode cX5_lots 18 = .ok (.invokevirtual 56, 3) := by decide +kernel
theorem dX5_lots_21 : decode cX5_lots 21 = .ok (.aload_n 0, 1) := by decide +kernel
theorem dX5_lots_22 : decode cX5_lots 22 = .ok (.iload_n 1, 1) := by decide +kernel
theorem dX5_lots_23 : decode cX5_lots 23 = .ok (.iload_n 2, 1) := by decide +kernel
theorem dX5_lots_24 : decode cX5_lots 24 = .ok (.iload_n 3, 1) := by decide +kernel
theorem dX5_lots_25 : decode cX5_lots 25 = .ok (.invokevirtual 152, 3) := by decide +kernel
theorem dX5_lots_28 : decode cX5_lots 28 = .ok (.ireturn, 1) := by decide +kernel
theorem dX5_ships_0 : decode cX5_ships 0 = .ok (.aload_n 0, 1) := by decide +kernel
theorem dX5_ships_1 : decode cX5_ships 1 = .ok (.iload_n 1, 1) := by decide +kernel
theorem dX5_ships_2 : decode cX5_ships 2 = .ok (.bipush 24, 2) := by decide +kernel
theorem dX5_ships_4 : decode cX5_ships 4 = .ok (.invokevirtual 78, 3) := by decide +kernel
theorem dX5_ships_7 : decode cX5_ships 7 = .ok (.aload_n 0, 1) := by decide +kernel
theorem dX5_ships_8 : decode cX5_ships 8 = .ok (.iload_n 1, 1) := by decide +kernel
theorem dX5_ships_9 : decode cX5_ships 9 = .ok (.iconst 1, 1) := by decide +kernel
theorem dX5_ships_10 : decode cX5_ships 10 = .ok (.invokevirtual 78, 3) := by decide +kernel
theorem dX5_ships_13 : decode cX5_ships 13 = .ok (.lmul, 1) := by decide +kernel
theorem dX5_ships_14 : decode cX5_ships 14 = .ok (.lstore_n 2, 1) := by decide +kernel
theorem dX5_ships_15 : decode cX5_ships 15 = .ok (.aload_n 0, 1) := by decide +kernel
theorem dX5_ships_16 : decode cX5_ships 16 = .ok (.iload_n 1, 1) := by decide +kernel
theorem dX5_ships_17 : decode cX5_ships 17 = .ok (.bipush 7, 2) := by decide +kernel
theorem dX5_ships_19 : decode cX5_ships 19 = .ok (.invokevirtual 78, 3) := by decide +kernel
theorem dX5_ships_22 : decode cX5_ships 22 = .ok (.ldc2_w 76, 3) := by decide +kernel
theorem dX5_ships_25 : decode cX5_ships 25 = .ok (.lcmp, 1) := by decide +kernel
theorem dX5_ships_26 : decode cX5_ships 26 = .ok (.ifCond .ne 13, 3) := by decide +kernel
theorem dX5_ships_29 : decode cX5_ships 29 = .ok (.aload_n 0, 1) := by decide +kernel
theorem dX5_ships_30 : decode cX5_ships 30 = .ok (.iload_n 1, 1) := by decide +kernel
theorem dX5_ships_31 : decode cX5_ships 31 = .ok (.bipush 12, 2) := by decide +kernel
theorem dX5_ships_33 : decode cX5_ships 33 = .ok (.invokevirtual 78, 3) := by decide +kernel
theorem dX5_ships_36 : decode cX5_ships 36 = .ok (.goto 10, 3) := by decide +kernel
theorem dX5_ships_39 : decode cX5_ships 39 = .ok (.aload_n 0, 1) := by decide +kernel
theorem dX5_ships_40 : decode cX5_ships 40 = .ok (.iload_n 1, 1) := by decide +kernel
theorem dX5_ships_41 : decode cX5_ships 41 = .ok (.bipush 7, 2) := by decide +kernel
theorem dX5_ships_43 : decode cX5_ships 43 = .ok (.invokevirtual 78, 3) := by decide +kernel
theorem dX5_ships_46 : decode cX5_ships 46 = .ok (.lstore 4, 2) := by decide +kernel
theorem dX5_ships_48 : decode cX5_ships 48 = .ok (.aload_n 0, 1) := by decide +kernel
theorem dX5_ships_49 : decode cX5_ships 49 = .ok (.iload_n 1, 1) := by decide +kernel
theorem dX5_ships_50 : decode cX5_ships 50 = .ok (.iconst 4, 1) := by decide +kernel
theorem dX5_ships_51 : decode cX5_ships 51 = .ok (.invokevirtual 78, 3) := by decide +kernel
theorem dX5_ships_54 : decode cX5_ships 54 = .ok (.lload_n 2, 1) := by decide +kernel
theorem dX5_ships_55 : decode cX5_ships 55 = .ok (.ladd, 1) := by decide +kernel
theorem dX5_ships_56 : decode cX5_ships 56 = .ok (.lstore 6, 2) := by decide +kernel
theorem dX5_ships_58 : decode cX5_ships 58 = .ok (.lload 4, 2) := by decide +kernel
theorem dX5_ships_60 : decode cX5_ships 60 = .ok (.aload_n 0, 1) := by decide +kernel
theorem dX5_ships_61 : decode cX5_ships 61 = .ok (.iload_n 1, 1) := by decide +kernel
theorem dX5_ships_62 : decode cX5_ships 62 = .ok (.iconst 5, 1) := by decide +kernel
theorem dX5_ships_63 : decode cX5_ships 63 = .ok (.invokevirtual 78, 3) := by decide +kernel
theorem dX5_ships_66 : decode cX5_ships 66 = .ok (.ladd, 1) := by decide +kernel
theorem dX5_ships_67 : decode cX5_ships 67 = .ok (.lstore 8, 2) := by decide +kernel
theorem dX5_ships_69 : decode cX5_ships 69 = .ok (.lload 8, 2) := by decide +kernel
theorem dX5_ships_71 : decode cX5_ships 71 = .ok (.lload 6, 2) := by decide +kernel
theorem dX5_ships_73 : decode cX5_ships 73 = .ok (.lcmp, 1) := by decide +kernel
theorem dX5_ships_74 : decode cX5_ships 74 = .ok (.ifCond .ge 8, 3) := by decide +kernel
theorem dX5_ships_77 : decode cX5_ships 77 = .ok (.lload 8, 2) := by decide +kernel
theorem dX5_ships_79 : decode cX5_ships 79 = .ok (.goto 5, 3) := by decide +kernel
theorem dX5_ships_82 : decode cX5_ships 82 = .ok (.lload 6, 2) := by decide +kernel
theorem dX5_ships_84 : decode cX5_ships 84 = .ok (.lstore 10, 2) := by decide +kernel
theorem dX5_ships_86 : decode cX5_ships 86 = .ok (.lload 4, 2) := by decide +kernel
theorem dX5_ships_88 : decode cX5_ships 88 = .ok (.aload_n 0, 1) := by decide +kernel
theorem dX5_ships_89 : decode cX5_ships 89 = .ok (.iload_n 1, 1) := by decide +kernel
theorem dX5_ships_90 : decode cX5_ships 90 = .ok (.bipush 12, 2) := by decide +kernel
theorem dX5_ships_92 : decode cX5_ships 92 = .ok (.invokevirtual 78, 3) := by decide +kernel
theorem dX5_ships_95 : decode cX5_ships 95 = .ok (.lcmp, 1) := by decide +kernel
theorem dX5_ships_96 : decode cX5_ships 96 = .ok (.ifCond .le 16, 3) := by decide +kernel
theorem dX5_ships_99 : decode cX5_ships 99 = .ok (.lload 4, 2) := by decide +kernel
theorem dX5_ships_101 : decode cX5_ships 101 = .ok (.aload_n 0, 1) := by decide +kernel
theorem dX5_ships_102 : decode cX5_ships 102 = .ok (.iload_n 1, 1) := by decide +kernel
theorem dX5_ships_103 : decode cX5_ships 103 = .ok (.bipush 12, 2) := by decide +kernel
theorem dX5_ships_105 : decode cX5_ships 105 = .ok (.invokevirtual 78, 3) := by decide +kernel
theorem dX5_ships_108 : decode cX5_ships 108 = .ok (.lsub, 1) := by decide +kernel
theorem dX5_ships_109 : decode cX5_ships 109 = .ok (.goto 13, 3) := by decide +kernel
theorem dX5_ships_112 : decode cX5_ships 112 = .ok (.aload_n 0, 1) := by decide +kernel
theorem dX5_ships_113 : decode cX5_ships 113 = .ok (.iload_n 1, 1) := by decide +kernel
theorem dX5_ships_114 : decode cX5_ships 114 = .ok (.bipush 12, 2) := by decide +kernel
theorem dX5_ships_116 : decode cX5_ships 116 = .ok (.invokevirtual 78, 3) := by decide +kernel
theorem dX5_ships_119 : decode cX5_ships 119 = .ok (.lload 4, 2) := by decide +kernel
theorem dX5_ships_121 : decode cX5_ships 121 = .ok (.lsub, 1) := by decide +kernel
theorem dX5_ships_122 : decode cX5_ships 122 = .ok (.lstore 12, 2) := by decide +kernel
theorem dX5_ships_124 : decode cX5_ships 124 = .ok (.aload_n 0, 1) := by decide +kernel
theorem dX5_ships_125 : decode cX5_ships 125 = .ok (.iload_n 1, 1) := by decide +kernel
theorem dX5_ships_126 : decode cX5_ships 126 = .ok (.iconst 4, 1) := by decide +kernel
theorem dX5_ships_127 : decode cX5_ships 127 = .ok (.lload 6, 2) := by decide +kernel
theorem dX5_ships_129 : decode cX5_ships 129 = .ok (.lload 10, 2) := by decide +kernel
theorem dX5_ships_131 : decode cX5_ships 131 = .ok (.lsub, 1) := by decide +kernel
theorem dX5_ships_132 : decode cX5_ships 132 = .ok (.invokevirtual 72, 3) := by decide +kernel
theorem dX5_ships_135 : decode cX5_ships 135 = .ok (.aload_n 0, 1) := by decide +kernel
theorem dX5_ships_136 : decode cX5_ships 136 = .ok (.iload_n 1, 1) := by decide +kernel
theorem dX5_ships_137 : decode cX5_ships 137 = .ok (.iconst 5, 1) := by decide +kernel
theorem dX5_ships_138 : decode cX5_ships 138 = .ok (.lload 8, 2) := by decide +kernel
theorem dX5_ships_140 : decode cX5_ships 140 = .ok (.lload 10, 2) := by decide +kernel
theorem dX5_ships_142 : decode cX5_ships 142 = .ok (.lsub, 1) := by decide +kernel
theorem dX5_ships_143 : decode cX5_ships 143 = .ok (.invokevirtual 72, 3) := by decide +kernel
theorem dX5_ships_146 : decode cX5_ships 146 = .ok (.aload_n 0, 1) := by decide +kernel
theorem dX5_ships_147 : decode cX5_ships 147 = .ok (.iload_n 1, 1) := by decide +kernel
theorem dX5_ships_148 : decode cX5_ships 148 = .ok (.bipush 6, 2) := by decide +kernel
theorem dX5_ships_150 : decode cX5_ships 150 = .ok (.ldc2_w 155, 3) := by decide +kernel
theorem dX5_ships_153 : decode cX5_ships 153 = .ok (.aload_n 0, 1) := by decide +kernel
theorem dX5_ships_154 : decode cX5_ships 154 = .ok (.iload_n 1, 1) := by decide +kernel
theorem dX5_ships_155 : decode cX5_ships 155 = .ok (.bipush 6, 2) := by decide +kernel
theorem dX5_ships_157 : decode cX5_ships 157 = .ok (.invokevirtual 78, 3) := by decide +kernel
theorem dX5_ships_160 : decode cX5_ships 160 = .ok (.lmul, 1) := by decide +kernel
theorem dX5_ships_161 : decode cX5_ships 161 = .ok (.lload 12, 2) := by decide +kernel
theorem dX5_ships_163 : decode cX5_ships 163 = .ok (.ladd, 1) := by decide +kernel
theorem dX5_ships_164 : decode cX5_ships 164 = .ok (.ldc2_w 155, 3) := by decide +kernel
theorem dX5_ships_167 : decode cX5_ships 167 = .ok (.ladd, 1) := by decide +kernel
theorem dX5_ships_168 : decode cX5_ships 168 = .ok (.ldc2_w 59, 3) := by decide +kernel
theorem dX5_ships_171 : decode cX5_ships 171 = .ok (.ldiv, 1) := by decide +kernel
theorem dX5_ships_172 : decode cX5_ships 172 = .ok (.invokevirtual 72, 3) := by decide +kernel
theorem dX5_ships_175 : decode cX5_ships 175 = .ok (.aload_n 0, 1) := by decide +kernel
theorem dX5_ships_176 : decode cX5_ships 176 = .ok (.iload_n 1, 1) := by decide +kernel
theorem dX5_ships_177 : decode cX5_ships 177 = .ok (.bipush 8, 2) := by decide +kernel
theorem dX5_ships_179 : decode cX5_ships 179 = .ok (.aload_n 0, 1) := by decide +kernel
theorem dX5_ships_180 : decode cX5_ships 180 = .ok (.iload_n 1, 1) := by decide +kernel
theorem dX5_ships_181 : decode cX5_ships 181 = .ok (.bipush 8, 2) := by decide +kernel
theorem dX5_ships_183 : decode cX5_ships 183 = .ok (.invokevirtual 78, 3) := by decide +kernel
theorem dX5_ships_186 : decode cX5_ships 186 = .ok (.lload_n 2, 1) := by decide +kernel
theorem dX5_ships_187 : decode cX5_ships 187 = .ok (.ladd, 1) := by decide +kernel
theorem dX5_ships_188 : decode cX5_ships 188 = .ok (.invokevirtual 72, 3) := by decide +kernel
theorem dX5_ships_191 : decode cX5_ships 191 = .ok (.aload_n 0, 1) := by decide +kernel
theorem dX5_ships_192 : decode cX5_ships 192 = .ok (.iload_n 1, 1) := by decide +kernel
theorem dX5_ships_193 : decode cX5_ships 193 = .ok (.bipush 9, 2) := by decide +kernel
theorem dX5_ships_195 : decode cX5_ships 195 = .ok (.aload_n 0, 1) := by decide +kernel
theorem dX5_ships_196 : decode cX5_ships 196 = .ok (.iload_n 1, 1) := by decide +kernel
theorem dX5_ships_197 : decode cX5_ships 197 = .ok (.bipush 9, 2) := by decide +kernel
theorem dX5_ships_199 : decode cX5_ships 199 = .ok (.invokevirtual 78, 3) := by decide +kernel
theorem dX5_ships_202 : decode cX5_ships 202 = .ok (.lload 10, 2) := by decide +kernel
theorem dX5_ships_204 : decode cX5_ships 204 = .ok (.ladd, 1) := by decide +kernel
theorem dX5_ships_205 : decode cX5_ships 205 = .ok (.invokevirtual 72, 3) := by decide +kernel
theorem dX5_ships_208 : decode cX5_ships 208 = .ok (.aload_n 0, 1) := by decide +kernel
theorem dX5_ships_209 : decode cX5_ships 209 = .ok (.iload_n 1, 1) := by decide +kernel
theorem dX5_ships_210 : decode cX5_ships 210 = .ok (.bipush 10, 2) := by decide +kernel
theorem dX5_ships_212 : decode cX5_ships 212 = .ok (.aload_n 0, 1) := by decide +kernel
theorem dX5_ships_213 : decode cX5_ships 213 = .ok (.iload_n 1, 1) := by decide +kernel
theorem dX5_ships_214 : decode cX5_ships 214 = .ok (.bipush 10, 2) := by decide +kernel
theorem dX5_ships_216 : decode cX5_ships 216 = .ok (.invokevirtual 78, 3) := by decide +kernel
theorem dX5_ships_219 : decode cX5_ships 219 = .ok (.lload 4, 2) := by decide +kernel
theorem dX5_ships_221 : decode cX5_ships 221 = .ok (.ladd, 1) := by decide +kernel
theorem dX5_ships_222 : decode cX5_ships 222 = .ok (.invokevirtual 72, 3) := by decide +kernel
theorem dX5_ships_225 : decode cX5_ships 225 = .ok (.return_, 1) := by decide +kernel
theorem dX5_rolls_0 : decode cX5_rolls 0 = .ok (.iconst 0, 1) := by decide +kernel
theorem dX5_rolls_1 : decode cX5_rolls 1 = .ok (.istore_n 2, 1) := by decide +kernel
theorem dX5_rolls_2 : decode cX5_rolls 2 = .ok (.iload_n 2, 1) := by decide +kernel
theorem dX5_rolls_3 : decode cX5_rolls 3 = .ok (.bipush 11, 2) := by decide +kernel
theorem dX5_rolls_5 : decode cX5_rolls 5 = .ok (.if_icmp .ge 49, 3) := by decide +kernel
theorem dX5_rolls_8 : decode cX5_rolls 8 = .ok (.aload_n 0, 1) := by decide +kernel
theorem dX5_rolls_9 : decode cX5_rolls 9 = .ok (.iload_n 1, 1) := by decide +kernel
theorem dX5_rolls_10 : decode cX5_rolls 10 = .ok (.bipush 12, 2) := by decide +kernel
theorem dX5_rolls_12 : decode cX5_rolls 12 = .ok (.iload_n 2, 1) := by decide +kernel
theorem dX5_rolls_13 : decode cX5_rolls 13 = .ok (.iadd, 1) := by decide +kernel
theorem dX5_rolls_14 : decode cX5_rolls 14 = .ok (.aload_n 0, 1) := by decide +kernel
theorem dX5_rolls_15 : decode cX5_rolls 15 = .ok (.iload_n 1, 1) := by decide +kernel
theorem dX5_rolls_16 : decode cX5_rolls 16 = .ok (.bipush 12, 2) := by decide +kernel
theorem dX5_rolls_18 : decode cX5_rolls 18 = .ok (.iload_n 2, 1) := by decide +kernel
theorem dX5_rolls_19 : decode cX5_rolls 19 = .ok (.iadd, 1) := by decide +kernel
theorem dX5_rolls_20 : decode cX5_rolls 20 = .ok (.iconst 1, 1) := by decide +kernel
theorem dX5_rolls_21 : decode cX5_rolls 21 = .ok (.iadd, 1) := by decide +kernel
theorem dX5_rolls_22 : decode cX5_rolls 22 = .ok (.invokevirtual 78, 3) := by decide +kernel
theorem dX5_rolls_25 : decode cX5_rolls 25 = .ok (.invokevirtual 72, 3) := by decide +kernel
theorem dX5_rolls_28 : decode cX5_rolls 28 = .ok (.aload_n 0, 1) := by decide +kernel
theorem dX5_rolls_29 : decode cX5_rolls 29 = .ok (.iload_n 1, 1) := by decide +kernel
theorem dX5_rolls_30 : decode cX5_rolls 30 = .ok (.bipush 24, 2) := by decide +kernel
theorem dX5_rolls_32 : decode cX5_rolls 32 = .ok (.iload_n 2, 1) := by decide +kernel
theorem dX5_rolls_33 : decode cX5_rolls 33 = .ok (.iadd, 1) := by decide +kernel
theorem dX5_rolls_34 : decode cX5_rolls 34 = .ok (.aload_n 0, 1) := by decide +kernel
theorem dX5_rolls_35 : decode cX5_rolls 35 = .ok (.iload_n 1, 1) := by decide +kernel
theorem dX5_rolls_36 : decode cX5_rolls 36 = .ok (.bipush 24, 2) := by decide +kernel
theorem dX5_rolls_38 : decode cX5_rolls 38 = .ok (.iload_n 2, 1) := by decide +kernel
theorem dX5_rolls_39 : decode cX5_rolls 39 = .ok (.iadd, 1) := by decide +kernel
theorem dX5_rolls_40 : decode cX5_rolls 40 = .ok (.iconst 1, 1) := by decide +kernel
theorem dX5_rolls_41 : decode cX5_rolls 41 = .ok (.iadd, 1) := by decide +kernel
theorem dX5_rolls_42 : decode cX5_rolls 42 = .ok (.invokevirtual 78, 3) := by decide +kernel
theorem dX5_rolls_45 : decode cX5_rolls 45 = .ok (.invokevirtual 72, 3) := by decide +kernel
theorem dX5_rolls_48 : decode cX5_rolls 48 = .ok (.iinc 2 1, 3) := by decide +kernel
theorem dX5_rolls_51 : decode cX5_rolls 51 = .ok (.goto (-49), 3) := by decide +kernel
theorem dX5_rolls_54 : decode cX5_rolls 54 = .ok (.aload_n 0, 1) := by decide +kernel
theorem dX5_rolls_55 : decode cX5_rolls 55 = .ok (.iload_n 1, 1) := by decide +kernel
theorem dX5_rolls_56 : decode cX5_rolls 56 = .ok (.bipush 35, 2) := by decide +kernel
theorem dX5_rolls_58 : decode cX5_rolls 58 = .ok (.lconst 0, 1) := by decide +kernel
theorem dX5_rolls_59 : decode cX5_rolls 59 = .ok (.invokevirtual 72, 3) := by decide +kernel
theorem dX5_rolls_62 : decode cX5_rolls 62 = .ok (.aload_n 0, 1) := by decide +kernel
theorem dX5_rolls_63 : decode cX5_rolls 63 = .ok (.iload_n 1, 1) := by decide +kernel
theorem dX5_rolls_64 : decode cX5_rolls 64 = .ok (.bipush 7, 2) := by decide +kernel
theorem dX5_rolls_66 : decode cX5_rolls 66 = .ok (.ldc2_w 76, 3) := by decide +kernel
theorem dX5_rolls_69 : decode cX5_rolls 69 = .ok (.invokevirtual 72, 3) := by decide +kernel
theorem dX5_rolls_72 : decode cX5_rolls 72 = .ok (.return_, 1) := by decide +kernel
theorem dX5_sumOf_0 : decode cX5_sumOf 0 = .ok (.lconst 0, 1) := by decide +kernel
theorem dX5_sumOf_1 : decode cX5_sumOf 1 = .ok (.lstore_n 2, 1) := by decide +kernel
theorem dX5_sumOf_2 : decode cX5_sumOf 2 = .ok (.iconst 0, 1) := by decide +kernel
theorem dX5_sumOf_3 : decode cX5_sumOf 3 = .ok (.istore 4, 2) := by decide +kernel
theorem dX5_sumOf_5 : decode cX5_sumOf 5 = .ok (.iload 4, 2) := by decide +kernel
theorem dX5_sumOf_7 : decode cX5_sumOf 7 = .ok (.i2l, 1) := by decide +kernel
theorem dX5_sumOf_8 : decode cX5_sumOf 8 = .ok (.aload_n 0, 1) := by decide +kernel
theorem dX5_sumOf_9 : decode cX5_sumOf 9 = .ok (.getfield 7, 3) := by decide +kernel
theorem dX5_sumOf_12 : decode cX5_sumOf 12 = .ok (.iconst 1, 1) := by decide +kernel
theorem dX5_sumOf_13 : decode cX5_sumOf 13 = .ok (.laload, 1) := by decide +kernel
theorem dX5_sumOf_14 : decode cX5_sumOf 14 = .ok (.lcmp, 1) := by decide +kernel
theorem dX5_sumOf_15 : decode cX5_sumOf 15 = .ok (.ifCond .ge 19, 3) := by decide +kernel
theorem dX5_sumOf_18 : decode cX5_sumOf 18 = .ok (.lload_n 2, 1) := by decide +kernel
theorem dX5_sumOf_19 : decode cX5_sumOf 19 = .ok (.aload_n 0, 1) := by decide +kernel
theorem dX5_sumOf_20 : decode cX5_sumOf 20 = .ok (.iload 4, 2) := by decide +kernel
theorem dX5_sumOf_22 : decode cX5_sumOf 22 = .ok (.iload_n 1, 1) := by decide +kernel
theorem dX5_sumOf_23 : decode cX5_sumOf 23 = .ok (.invokevirtual 78, 3) := by decide +kernel
theorem dX5_sumOf_26 : decode cX5_sumOf 26 = .ok (.ladd, 1) := by decide +kernel
theorem dX5_sumOf_27 : decode cX5_sumOf 27 = .ok (.lstore_n 2, 1) := by decide +kernel
theorem dX5_sumOf_28 : decode cX5_sumOf 28 = .ok (.iinc 4 1, 3) := by decide +kernel
theorem dX5_sumOf_31 : decode cX5_sumOf 31 = .ok (.goto (-26), 3) := by decide +kernel
theorem dX5_sumOf_34 : decode cX5_sumOf 34 = .ok (.lload_n 2, 1) := by decide +kernel
theorem dX5_sumOf_35 : decode cX5_sumOf 35 = .ok (.lreturn, 1) := by decide +kernel
theorem dX5_passes_0 : decode cX5_passes 0 = .ok (.iconst 0, 1) := by decide +kernel
theorem dX5_passes_1 : decode cX5_passes 1 = .ok (.istore_n 1, 1) := by decide +kernel
theorem dX5_passes_2 : decode cX5_passes 2 = .ok (.iload_n 1, 1) := by decide +kernel
theorem dX5_passes_3 : decode cX5_passes 3 = .ok (.i2l, 1) := by decide +kernel
theorem dX5_passes_4 : decode cX5_passes 4 = .ok (.aload_n 0, 1) := by decide +kernel
theorem dX5_passes_5 : decode cX5_passes 5 = .ok (.getfield 7, 3) := by decide +kernel
theorem dX5_passes_8 : decode cX5_passes 8 = .ok (.iconst 1, 1) := by decide +kernel
theorem dX5_passes_9 : decode cX5_passes 9 = .ok (.laload, 1) := by decide +kernel
theorem dX5_passes_10 : decode cX5_passes 10 = .ok (.lcmp, 1) := by decide +kernel
theorem dX5_passes_11 : decode cX5_passes 11 = .ok (.ifCond .ge 14, 3) := by decide +kernel
theorem dX5_passes_14 : decode cX5_passes 14 = .ok (.aload_n 0, 1) := by decide +kernel
theorem dX5_passes_15 : decode cX5_passes 15 = .ok (.iload_n 1, 1) := by decide +kernel
theorem dX5_passes_16 : decode cX5_passes 16 = .ok (.invokevirtual 157, 3) := by decide +kernel
theorem dX5_passes_19 : decode cX5_passes 19 = .ok (.iinc 1 1, 3) := by decide +kernel
theorem dX5_passes_22 : decode cX5_passes 22 = .ok (.goto (-20), 3) := by decide +kernel
theorem dX5_passes_25 : decode cX5_passes 25 = .ok (.aload_n 0, 1) := by decide +kernel
theorem dX5_passes_26 : decode cX5_passes 26 = .ok (.iconst 0, 1) := by decide +kernel
theorem dX5_passes_27 : decode cX5_passes 27 = .ok (.invokevirtual 160, 3) := by decide +kernel
theorem dX5_passes_30 : decode cX5_passes 30 = .ok (.i2l, 1) := by decide +kernel
theorem dX5_passes_31 : decode cX5_passes 31 = .ok (.lstore_n 1, 1) := by decide +kernel
theorem dX5_passes_32 : decode cX5_passes 32 = .ok (.aload_n 0, 1) := by decide +kernel
theorem dX5_passes_33 : decode cX5_passes 33 = .ok (.iconst 0, 1) := by decide +kernel
theorem dX5_passes_34 : decode cX5_passes 34 = .ok (.invokevirtual 163, 3) := by decide +kernel
theorem dX5_passes_37 : decode cX5_passes 37 = .ok (.lstore_n 3, 1) := by decide +kernel
theorem dX5_passes_38 : decode cX5_passes 38 = .ok (.aload_n 0, 1) := by decide +kernel
theorem dX5_passes_39 : decode cX5_passes 39 = .ok (.getfield 7, 3) := by decide +kernel
theorem dX5_passes_42 : decode cX5_passes 42 = .ok (.iconst 2, 1) := by decide +kernel
theorem dX5_passes_43 : decode cX5_passes 43 = .ok (.dup2, 1) := by decide +kernel
theorem dX5_passes_44 : decode cX5_passes 44 = .ok (.laload, 1) := by decide +kernel
theorem dX5_passes_45 : decode cX5_passes 45 = .ok (.lload_n 1, 1) := by decide +kernel
theorem dX5_passes_46 : decode cX5_passes 46 = .ok (.ladd, 1) := by decide +kernel
theorem dX5_passes_47 : decode cX5_passes 47 = .ok (.lastore, 1) := by decide +kernel
theorem dX5_passes_48 : decode cX5_passes 48 = .ok (.aload_n 0, 1) := by decide +kernel
theorem dX5_passes_49 : decode cX5_passes 49 = .ok (.getfield 7, 3) := by decide +kernel
theorem dX5_passes_52 : decode cX5_passes 52 = .ok (.iconst 3, 1) := by decide +kernel
theorem dX5_passes_53 : decode cX5_passes 53 = .ok (.dup2, 1) := by decide +kernel
theorem dX5_passes_54 : decode cX5_passes 54 = .ok (.laload, 1) := by decide +kernel
theorem dX5_passes_55 : decode cX5_passes 55 = .ok (.lload_n 3, 1) := by decide +kernel
theorem dX5_passes_56 : decode cX5_passes 56 = .ok (.ladd, 1) := by decide +kernel
theorem dX5_passes_57 : decode cX5_passes 57 = .ok (.lastore, 1) := by decide +kernel
theorem dX5_passes_58 : decode cX5_passes 58 = .ok (.aload_n 0, 1) := by decide +kernel
theorem dX5_passes_59 : decode cX5_passes 59 = .ok (.getfield 7, 3) := by decide +kernel
theorem dX5_passes_62 : decode cX5_passes 62 = .ok (.iconst 4, 1) := by decide +kernel
theorem dX5_passes_63 : decode cX5_passes 63 = .ok (.dup2, 1) := by decide +kernel
theorem dX5_passes_64 : decode cX5_passes 64 = .ok (.laload, 1) := by decide +kernel
theorem dX5_passes_65 : decode cX5_passes 65 = .ok (.lload_n 1, 1) := by decide +kernel
theorem dX5_passes_66 : decode cX5_passes 66 = .ok (.aload_n 0, 1) := by decide +kernel
theorem dX5_passes_67 : decode cX5_passes 67 = .ok (.iconst 5, 1) := by decide +kernel
theorem dX5_passes_68 : decode cX5_passes 68 = .ok (.invokevirtual 41, 3) := by decide +kernel
theorem dX5_passes_71 : decode cX5_passes 71 = .ok (.lmul, 1) := by decide +kernel
theorem dX5_passes_72 : decode cX5_passes 72 = .ok (.lload_n 3, 1) := by decide +kernel
theorem dX5_passes_73 : decode cX5_passes 73 = .ok (.aload_n 0, 1) := by decide +kernel
theorem dX5_passes_74 : decode cX5_passes 74 = .ok (.bipush 8, 2) := by decide +kernel
theorem dX5_passes_76 : decode cX5_passes 76 = .ok (.invokevirtual 41, 3) := by decide +kernel
theorem dX5_passes_79 : decode cX5_passes 79 = .ok (.lmul, 1) := by decide +kernel
theorem dX5_passes_80 : decode cX5_passes 80 = .ok (.ladd, 1) := by decide +kernel
theorem dX5_passes_81 : decode cX5_passes 81 = .ok (.aload_n 0, 1) := by decide +kernel
theorem dX5_passes_82 : decode cX5_passes 82 = .ok (.iconst 4, 1) := by decide +kernel
theorem dX5_passes_83 : decode cX5_passes 83 = .ok (.invokevirtual 166, 3) := by decide +kernel
theorem dX5_passes_86 : decode cX5_passes 86 = .ok (.aload_n 0, 1) := by decide +kernel
theorem dX5_passes_87 : decode cX5_passes 87 = .ok (.bipush 6, 2) := by decide +kernel
theorem dX5_passes_89 : decode cX5_passes 89 = .ok (.invokevirtual 41, 3) := by decide +kernel
theorem dX5_passes_92 : decode cX5_passes 92 = .ok (.lmul, 1) := by decide +kernel
theorem dX5_passes_93 : decode cX5_passes 93 = .ok (.ladd, 1) := by decide +kernel
theorem dX5_passes_94 : decode cX5_passes 94 = .ok (.aload_n 0, 1) := by decide +kernel
theorem dX5_passes_95 : decode cX5_passes 95 = .ok (.iconst 5, 1) := by decide +kernel
theorem dX5_passes_96 : decode cX5_passes 96 = .ok (.invokevirtual 166, 3) := by decide +kernel
theorem dX5_passes_99 : decode cX5_passes 99 = .ok (.aload_n 0, 1) := by decide +kernel
theorem dX5_passes_100 : decode cX5_passes 100 = .ok (.bipush 7, 2) := by decide +kernel
theorem dX5_passes_102 : decode cX5_passes 102 = .ok (.invokevirtual 41, 3) := by decide +kernel
theorem dX5_passes_105 : decode cX5_passes 105 = .ok (.lmul, 1) := by decide +kernel
theorem dX5_passes_106 : decode cX5_passes 106 = .ok (.ladd, 1) := by decide +kernel
theorem dX5_passes_107 : decode cX5_passes 107 = .ok (.ladd, 1) := by decide +kernel
theorem dX5_passes_108 : decode cX5_passes 108 = .ok (.lastore, 1) := by decide +kernel
theorem dX5_passes_109 : decode cX5_passes 109 = .ok (.iconst 0, 1) := by decide +kernel
theorem dX5_passes_110 : decode cX5_passes 110 = .ok (.istore 5, 2) := by decide +kernel
theorem dX5_passes_112 : decode cX5_passes 112 = .ok (.iload 5, 2) := by decide +kernel
theorem dX5_passes_114 : decode cX5_passes 114 = .ok (.i2l, 1) := by decide +kernel
theorem dX5_passes_115 : decode cX5_passes 115 = .ok (.aload_n 0, 1) := by decide +kernel
theorem dX5_passes_116 : decode cX5_passes 116 = .ok (.getfield 7, 3) := by decide +kernel
theorem dX5_passes_119 : decode cX5_passes 119 = .ok (.iconst 1, 1) := by decide +kernel
theorem dX5_passes_120 : decode cX5_passes 120 = .ok (.laload, 1) := by decide +kernel
theorem dX5_passes_121 : decode cX5_passes 121 = .ok (.lcmp, 1) := by decide +kernel
theorem dX5_passes_122 : decode cX5_passes 122 = .ok (.ifCond .ge 15, 3) := by decide +kernel
theorem dX5_passes_125 : decode cX5_passes 125 = .ok (.aload_n 0, 1) := by decide +kernel
theorem dX5_passes_126 : decode cX5_passes 126 = .ok (.iload 5, 2) := by decide +kernel
theorem dX5_passes_128 : decode cX5_passes 128 = .ok (.invokevirtual 169, 3) := by decide +kernel
theorem dX5_passes_131 : decode cX5_passes 131 = .ok (.iinc 5 1, 3) := by decide +kernel
theorem dX5_passes_134 : decode cX5_passes 134 = .ok (.goto (-22), 3) := by decide +kernel
theorem dX5_passes_137 : decode cX5_passes 137 = .ok (.aload_n 0, 1) := by decide +kernel
theorem dX5_passes_138 : decode cX5_passes 138 = .ok (.getfield 7, 3) := by decide +kernel
theorem dX5_passes_141 : decode cX5_passes 141 = .ok (.iconst 0, 1) := by decide +kernel
theorem dX5_passes_142 : decode cX5_passes 142 = .ok (.dup2, 1) := by decide +kernel
theorem dX5_passes_143 : decode cX5_passes 143 = .ok (.laload, 1) := by decide +kernel
theorem dX5_passes_144 : decode cX5_passes 144 = .ok (.lconst 1, 1) := by decide +kernel
theorem dX5_passes_145 : decode cX5_passes 145 = .ok (.ladd, 1) := by decide +kernel
theorem dX5_passes_146 : decode cX5_passes 146 = .ok (.lastore, 1) := by decide +kernel
theorem dX5_passes_147 : decode cX5_passes 147 = .ok (.aload_n 0, 1) := by decide +kernel
theorem dX5_passes_148 : decode cX5_passes 148 = .ok (.invokevirtual 121, 3) := by decide +kernel
theorem dX5_passes_151 : decode cX5_passes 151 = .ok (.return_, 1) := by decide +kernel
theorem dX5_passesWeeks_0 : decode cX5_passesWeeks 0 = .ok (.iconst 0, 1) := by decide +kernel
theorem dX5_passesWeeks_1 : decode cX5_passesWeeks 1 = .ok (.istore_n 2, 1) := by decide +kernel
theorem dX5_passesWeeks_2 : decode cX5_passesWeeks 2 = .ok (.iload_n 2, 1) := by decide +kernel
theorem dX5_passesWeeks_3 : decode cX5_passesWeeks 3 = .ok (.iload_n 1, 1) := by decide +kernel
theorem dX5_passesWeeks_4 : decode cX5_passesWeeks 4 = .ok (.if_icmp .ge 13, 3) := by decide +kernel
theorem dX5_passesWeeks_7 : decode cX5_passesWeeks 7 = .ok (.aload_n 0, 1) := by decide +kernel
theorem dX5_passesWeeks_8 : decode cX5_passesWeeks 8 = .ok (.invokevirtual 172, 3) := by decide +kernel
theorem dX5_passesWeeks_11 : decode cX5_passesWeeks 11 = .ok (.iinc 2 1, 3) := by decide +kernel
theorem dX5_passesWeeks_14 : decode cX5_passesWeeks 14 = .ok (.goto (-12), 3) := by decide +kernel
theorem dX5_passesWeeks_17 : decode cX5_passesWeeks 17 = .ok (.aload_n 0, 1) := by decide +kernel
theorem dX5_passesWeeks_18 : decode cX5_passesWeeks 18 = .ok (.getfield 7, 3) := by decide +kernel
theorem dX5_passesWeeks_21 : decode cX5_passesWeeks 21 = .ok (.iconst 0, 1) := by decide +kernel
theorem dX5_passesWeeks_22 : decode cX5_passesWeeks 22 = .ok (.laload, 1) := by decide +kernel
theorem dX5_passesWeeks_23 : decode cX5_passesWeeks 23 = .ok (.l2i, 1) := by decide +kernel
theorem dX5_passesWeeks_24 : decode cX5_passesWeeks 24 = .ok (.ireturn, 1) := by decide +kernel
theorem dX5_weeks_0 : decode cX5_weeks 0 = .ok (.iload_n 1, 1) := by decide +kernel
theorem dX5_weeks_1 : decode cX5_weeks 1 = .ok (.i2l, 1) := by decide +kernel
theorem dX5_weeks_2 : decode cX5_weeks 2 = .ok (.lconst 1, 1) := by decide +kernel
theorem dX5_weeks_3 : decode cX5_weeks 3 = .ok (.ldc2_w 175, 3) := by decide +kernel
theorem dX5_weeks_6 : decode cX5_weeks 6 = .ok (.invokestatic 35, 3) := by decide +kernel
theorem dX5_weeks_9 : decode cX5_weeks 9 = .ok (.ifCond .ne 6, 3) := by decide +kernel
theorem dX5_weeks_12 : decode cX5_weeks 12 = .ok (.bipush (-2), 2) := by decide +kernel
theorem dX5_weeks_14 : decode cX5_weeks 14 = .ok (.ireturn, 1) := by decide +kernel
theorem dX5_weeks_15 : decode cX5_weeks 15 = .ok (.aload_n 0, 1) := by decide +kernel
theorem dX5_weeks_16 : decode cX5_weeks 16 = .ok (.invokevirtual 56, 3) := by decide +kernel
theorem dX5_weeks_19 : decode cX5_weeks 19 = .ok (.aload_n 0, 1) := by decide +kernel
theorem dX5_weeks_20 : decode cX5_weeks 20 = .ok (.iload_n 1, 1) := by decide +kernel
theorem dX5_weeks_21 : decode cX5_weeks 21 = .ok (.invokevirtual 177, 3) := by decide +kernel
theorem dX5_weeks_24 : decode cX5_weeks 24 = .ok (.ireturn, 1) := by decide +kernel
theorem dX5_ofProduct_0 : decode cX5_ofProduct 0 = .ok (.aload_n 0, 1) := by decide +kernel
theorem dX5_ofProduct_1 : decode cX5_ofProduct 1 = .ok (.iload_n 1, 1) := by decide +kernel
theorem dX5_ofProduct_2 : decode cX5_ofProduct 2 = .ok (.invokevirtual 127, 3) := by decide +kernel
theorem dX5_ofProduct_5 : decode cX5_ofProduct 5 = .ok (.ifCond .ne 5, 3) := by decide +kernel
theorem dX5_ofProduct_8 : decode cX5_ofProduct 8 = .ok (.iconst (-1), 1) := by decide +kernel
theorem dX5_ofProduct_9 : decode cX5_ofProduct 9 = .ok (.ireturn, 1) := by decide +kernel
theorem dX5_ofProduct_10 : decode cX5_ofProduct 10 = .ok (.iload_n 2, 1) := by decide +kernel
theorem dX5_ofProduct_11 : decode cX5_ofProduct 11 = .ok (.i2l, 1) := by decide +kernel
theorem dX5_ofProduct_12 : decode cX5_ofProduct 12 = .ok (.lconst 0, 1) := by decide +kernel
theorem dX5_ofProduct_13 : decode cX5_ofProduct 13 = .ok (.ldc2_w 180, 3) := by decide +kernel
theorem dX5_ofProduct_16 : decode cX5_ofProduct 16 = .ok (.invokestatic 35, 3) := by decide +kernel
theorem dX5_ofProduct_19 : decode cX5_ofProduct 19 = .ok (.ifCond .ne 6, 3) := by decide +kernel
theorem dX5_ofProduct_22 : decode cX5_ofProduct 22 = .ok (.bipush (-2), 2) := by decide +kernel
theorem dX5_ofProduct_24 : decode cX5_ofProduct 24 = .ok (.ireturn, 1) := by decide +kernel
theorem dX5_ofProduct_25 : decode cX5_ofProduct 25 = .ok (.iload_n 2, 1) := by decide +kernel
theorem dX5_ofProduct_26 : decode cX5_ofProduct 26 = .ok (.bipush 7, 2) := by decide +kernel
theorem dX5_ofProduct_28 : decode cX5_ofProduct 28 = .ok (.if_icmp .ge 11, 3) := by decide +kernel
theorem dX5_ofProduct_31 : decode cX5_ofProduct 31 = .ok (.aload_n 0, 1) := by decide +kernel
theorem dX5_ofProduct_32 : decode cX5_ofProduct 32 = .ok (.iload_n 1, 1) := by decide +kernel
theorem dX5_ofProduct_33 : decode cX5_ofProduct 33 = .ok (.iload_n 2, 1) := by decide +kernel
theorem dX5_ofProduct_34 : decode cX5_ofProduct 34 = .ok (.invokevirtual 78, 3) := by decide +kernel
theorem dX5_ofProduct_37 : decode cX5_ofProduct 37 = .ok (.l2i, 1) := by decide +kernel
theorem dX5_ofProduct_38 : decode cX5_ofProduct 38 = .ok (.ireturn, 1) := by decide +kernel
theorem dX5_ofProduct_39 : decode cX5_ofProduct 39 = .ok (.iload_n 2, 1) := by decide +kernel
theorem dX5_ofProduct_40 : decode cX5_ofProduct 40 = .ok (.bipush 7, 2) := by decide +kernel
theorem dX5_ofProduct_42 : decode cX5_ofProduct 42 = .ok (.if_icmp .ne 11, 3) := by decide +kernel
theorem dX5_ofProduct_45 : decode cX5_ofProduct 45 = .ok (.aload_n 0, 1) := by decide +kernel
theorem dX5_ofProduct_46 : decode cX5_ofProduct 46 = .ok (.iload_n 1, 1) := by decide +kernel
theorem dX5_ofProduct_47 : decode cX5_ofProduct 47 = .ok (.invokevirtual 98, 3) := by decide +kernel
theorem dX5_ofProduct_50 : decode cX5_ofProduct 50 = .ok (.goto 11, 3) := by decide +kernel
theorem dX5_ofProduct_53 : decode cX5_ofProduct 53 = .ok (.aload_n 0, 1) := by decide +kernel
theorem dX5_ofProduct_54 : decode cX5_ofProduct 54 = .ok (.iload_n 1, 1) := by decide +kernel
theorem dX5_ofProduct_55 : decode cX5_ofProduct 55 = .ok (.iload_n 2, 1) := by decide +kernel
theorem dX5_ofProduct_56 : decode cX5_ofProduct 56 = .ok (.iconst 1, 1) := by decide +kernel
theorem dX5_ofProduct_57 : decode cX5_ofProduct 57 = .ok (.isub, 1) := by decide +kernel
theorem dX5_ofProduct_58 : decode cX5_ofProduct 58 = .ok (.invokevirtual 78, 3) := by decide +kernel
theorem dX5_ofProduct_61 : decode cX5_ofProduct 61 = .ok (.l2i, 1) := by decide +kernel
theorem dX5_ofProduct_62 : decode cX5_ofProduct 62 = .ok (.ireturn, 1) := by decide +kernel
theorem dX5_at_0 : decode cX5_at 0 = .ok (.aload_n 0, 1) := by decide +kernel
theorem dX5_at_1 : decode cX5_at 1 = .ok (.iload_n 1, 1) := by decide +kernel
theorem dX5_at_2 : decode cX5_at 2 = .ok (.invokevirtual 127, 3) := by decide +kernel
theorem dX5_at_5 : decode cX5_at 5 = .ok (.ifCond .eq 10, 3) := by decide +kernel
theorem dX5_at_8 : decode cX5_at 8 = .ok (.iload_n 2, 1) := by decide +kernel
theorem dX5_at_9 : decode cX5_at 9 = .ok (.invokestatic 131, 3) := by decide +kernel
theorem dX5_at_12 : decode cX5_at 12 = .ok (.ifCond .ne 5, 3) := by decide +kernel
theorem dX5_at_15 : decode cX5_at 15 = .ok (.iconst (-1), 1) := by decide +kernel
theorem dX5_at_16 : decode cX5_at 16 = .ok (.ireturn, 1) := by decide +kernel
theorem dX5_at_17 : decode cX5_at 17 = .ok (.iload_n 3, 1) := by decide +kernel
theorem dX5_at_18 : decode cX5_at 18 = .ok (.i2l, 1) := by decide +kernel
theorem dX5_at_19 : decode cX5_at 19 = .ok (.lconst 0, 1) := by decide +kernel
theorem dX5_at_20 : decode cX5_at 20 = .ok (.lconst 1, 1) := by decide +kernel
theorem dX5_at_21 : decode cX5_at 21 = .ok (.invokestatic 35, 3) := by decide +kernel
theorem dX5_at_24 : decode cX5_at 24 = .ok (.ifCond .ne 6, 3) := by decide +kernel
theorem dX5_at_27 : decode cX5_at 27 = .ok (.bipush (-2), 2) := by decide +kernel
theorem dX5_at_29 : decode cX5_at 29 = .ok (.ireturn, 1) := by decide +kernel
theorem dX5_at_30 : decode cX5_at 30 = .ok (.aload_n 0, 1) := by decide +kernel
theorem dX5_at_31 : decode cX5_at 31 = .ok (.iload_n 1, 1) := by decide +kernel
theorem dX5_at_32 : decode cX5_at 32 = .ok (.iload_n 3, 1) := by decide +kernel
theorem dX5_at_33 : decode cX5_at 33 = .ok (.ifCond .ne 8, 3) := by decide +kernel
theorem dX5_at_36 : decode cX5_at 36 = .ok (.bipush 12, 2) := by decide +kernel
theorem dX5_at_38 : decode cX5_at 38 = .ok (.goto 5, 3) := by decide +kernel
theorem dX5_at_41 : decode cX5_at 41 = .ok (.bipush 24, 2) := by decide +kernel
theorem dX5_at_43 : decode cX5_at 43 = .ok (.iload_n 2, 1) := by decide +kernel
theorem dX5_at_44 : decode cX5_at 44 = .ok (.iadd, 1) := by decide +kernel
theorem dX5_at_45 : decode cX5_at 45 = .ok (.invokevirtual 78, 3) := by decide +kernel
theorem dX5_at_48 : decode cX5_at 48 = .ok (.l2i, 1) := by decide +kernel
theorem dX5_at_49 : decode cX5_at 49 = .ok (.ireturn, 1) := by decide +kernel
theorem dX5_projection_0 : decode cX5_projection 0 = .ok (.aload_n 0, 1) := by decide +kernel
theorem dX5_projection_1 : decode cX5_projection 1 = .ok (.iload_n 1, 1) := by decide +kernel
theorem dX5_projection_2 : decode cX5_projection 2 = .ok (.invokevirtual 127, 3) := by decide +kernel
theorem dX5_projection_5 : decode cX5_projection 5 = .ok (.ifCond .eq 19, 3) := by decide +kernel
theorem dX5_projection_8 : decode cX5_projection 8 = .ok (.iload_n 2, 1) := by decide +kernel
theorem dX5_projection_9 : decode cX5_projection 9 = .ok (.invokestatic 131, 3) := by decide +kernel
theorem dX5_projection_12 : decode cX5_projection 12 = .ok (.ifCond .eq 12, 3) := by decide +kernel
theorem dX5_projection_15 : decode cX5_projection 15 = .ok (.aload_n 0, 1) := by decide +kernel
theorem dX5_projection_16 : decode cX5_projection 16 = .ok (.iload_n 1, 1) := by decide +kernel
theorem dX5_projection_17 : decode cX5_projection 17 = .ok (.iload_n 2, 1) := by decide +kernel
theorem dX5_projection_18 : decode cX5_projection 18 = .ok (.invokevirtual 101, 3) := by decide +kernel
theorem dX5_projection_21 : decode cX5_projection 21 = .ok (.goto 6, 3) := by decide +kernel
theorem dX5_projection_24 : decode cX5_projection 24 = .ok (.ldc2_w 182, 3) := by decide +kernel
theorem dX5_projection_27 : decode cX5_projection 27 = .ok (.lreturn, 1) := by decide +kernel
theorem dX5_ofWeek_0 : decode cX5_ofWeek 0 = .ok (.iload_n 1, 1) := by decide +kernel
theorem dX5_ofWeek_1 : decode cX5_ofWeek 1 = .ok (.invokestatic 131, 3) := by decide +kernel
theorem dX5_ofWeek_4 : decode cX5_ofWeek 4 = .ok (.ifCond .ne 5, 3) := by decide +kernel
theorem dX5_ofWeek_7 : decode cX5_ofWeek 7 = .ok (.iconst (-1), 1) := by decide +kernel
theorem dX5_ofWeek_8 : decode cX5_ofWeek 8 = .ok (.ireturn, 1) := by decide +kernel
theorem dX5_ofWeek_9 : decode cX5_ofWeek 9 = .ok (.iload_n 2, 1) := by decide +kernel
theorem dX5_ofWeek_10 : decode cX5_ofWeek 10 = .ok (.tableswitch 74 0 4 #[34, 41, 47, 54, 60], 34) := by decide +kernel
theorem dX5_ofWeek_44 : decode cX5_ofWeek 44 = .ok (.aload_n 0, 1) := by decide +kernel
theorem dX5_ofWeek_45 : decode cX5_ofWeek 45 = .ok (.iload_n 1, 1) := by decide +kernel
theorem dX5_ofWeek_46 : decode cX5_ofWeek 46 = .ok (.invokevirtual 89, 3) := by decide +kernel
theorem dX5_ofWeek_49 : decode cX5_ofWeek 49 = .ok (.l2i, 1) := by decide +kernel
theorem dX5_ofWeek_50 : decode cX5_ofWeek 50 = .ok (.ireturn, 1) := by decide +kernel
theorem dX5_ofWeek_51 : decode cX5_ofWeek 51 = .ok (.aload_n 0, 1) := by decide +kernel
theorem dX5_ofWeek_52 : decode cX5_ofWeek 52 = .ok (.iload_n 1, 1) := by decide +kernel
theorem dX5_ofWeek_53 : decode cX5_ofWeek 53 = .ok (.invokevirtual 160, 3) := by decide +kernel
theorem dX5_ofWeek_56 : decode cX5_ofWeek 56 = .ok (.ireturn, 1) := by decide +kernel
theorem dX5_ofWeek_57 : decode cX5_ofWeek 57 = .ok (.aload_n 0, 1) := by decide +kernel
theorem dX5_ofWeek_58 : decode cX5_ofWeek 58 = .ok (.iload_n 1, 1) := by decide +kernel
theorem dX5_ofWeek_59 : decode cX5_ofWeek 59 = .ok (.invokevirtual 163, 3) := by decide +kernel
theorem dX5_ofWeek_62 : decode cX5_ofWeek 62 = .ok (.l2i, 1) := by decide +kernel
theorem dX5_ofWeek_63 : decode cX5_ofWeek 63 = .ok (.ireturn, 1) := by decide +kernel
theorem dX5_ofWeek_64 : decode cX5_ofWeek 64 = .ok (.aload_n 0, 1) := by decide +kernel
theorem dX5_ofWeek_65 : decode cX5_ofWeek 65 = .ok (.iload_n 1, 1) := by decide +kernel
theorem dX5_ofWeek_66 : decode cX5_ofWeek 66 = .ok (.invokevirtual 86, 3) := by decide +kernel
theorem dX5_ofWeek_69 : decode cX5_ofWeek 69 = .ok (.ireturn, 1) := by decide +kernel
theorem dX5_ofWeek_70 : decode cX5_ofWeek 70 = .ok (.iload_n 1, 1) := by decide +kernel
theorem dX5_ofWeek_71 : decode cX5_ofWeek 71 = .ok (.aload_n 0, 1) := by decide +kernel
theorem dX5_ofWeek_72 : decode cX5_ofWeek 72 = .ok (.invokevirtual 114, 3) := by decide +kernel
theorem dX5_ofWeek_75 : decode cX5_ofWeek 75 = .ok (.if_icmp .ge 7, 3) := by decide +kernel
theorem dX5_ofWeek_78 : decode cX5_ofWeek 78 = .ok (.iconst 1, 1) := by decide +kernel
theorem dX5_ofWeek_79 : decode cX5_ofWeek 79 = .ok (.goto 4, 3) := by decide +kernel
theorem dX5_ofWeek_82 : decode cX5_ofWeek 82 = .ok (.iconst 0, 1) := by decide +kernel
theorem dX5_ofWeek_83 : decode cX5_ofWeek 83 = .ok (.ireturn, 1) := by decide +kernel
theorem dX5_ofWeek_84 : decode cX5_ofWeek 84 = .ok (.bipush (-2), 2) := by decide +kernel
theorem dX5_ofWeek_86 : decode cX5_ofWeek 86 = .ok (.ireturn, 1) := by decide +kernel
theorem dX5_count_0 : decode cX5_count 0 = .ok (.iload_n 1, 1) := by decide +kernel
theorem dX5_count_1 : decode cX5_count 1 = .ok (.i2l, 1) := by decide +kernel
theorem dX5_count_2 : decode cX5_count 2 = .ok (.lconst 0, 1) := by decide +kernel
theorem dX5_count_3 : decode cX5_count 3 = .ok (.ldc2_w 184, 3) := by decide +kernel
theorem dX5_count_6 : decode cX5_count 6 = .ok (.invokestatic 35, 3) := by decide +kernel
theorem dX5_count_9 : decode cX5_count 9 = .ok (.ifCond .eq 10, 3) := by decide +kernel
theorem dX5_count_12 : decode cX5_count 12 = .ok (.aload_n 0, 1) := by decide +kernel
theorem dX5_count_13 : decode cX5_count 13 = .ok (.getfield 7, 3) := by decide +kernel
theorem dX5_count_16 : decode cX5_count 16 = .ok (.iload_n 1, 1) := by decide +kernel
theorem dX5_count_17 : decode cX5_count 17 = .ok (.laload, 1) := by decide +kernel
theorem dX5_count_18 : decode cX5_count 18 = .ok (.lreturn, 1) := by decide +kernel
theorem dX5_count_19 : decode cX5_count 19 = .ok (.iload_n 1, 1) := by decide +kernel
theorem dX5_count_20 : decode cX5_count 20 = .ok (.i2l, 1) := by decide +kernel
theorem dX5_count_21 : decode cX5_count 21 = .ok (.ldc2_w 70, 3) := by decide +kernel
theorem dX5_count_24 : decode cX5_count 24 = .ok (.ldc2_w 186, 3) := by decide +kernel
theorem dX5_count_27 : decode cX5_count 27 = .ok (.invokestatic 35, 3) := by decide +kernel
theorem dX5_count_30 : decode cX5_count 30 = .ok (.ifCond .eq 15, 3) := by decide +kernel
theorem dX5_count_33 : decode cX5_count 33 = .ok (.aload_n 0, 1) := by decide +kernel
theorem dX5_count_34 : decode cX5_count 34 = .ok (.getfield 7, 3) := by decide +kernel
theorem dX5_count_37 : decode cX5_count 37 = .ok (.iconst 5, 1) := by decide +kernel
theorem dX5_count_38 : decode cX5_count 38 = .ok (.iload_n 1, 1) := by decide +kernel
theorem dX5_count_39 : decode cX5_count 39 = .ok (.iadd, 1) := by decide +kernel
theorem dX5_count_40 : decode cX5_count 40 = .ok (.bipush 10, 2) := by decide +kernel
theorem dX5_count_42 : decode cX5_count 42 = .ok (.isub, 1) := by decide +kernel
theorem dX5_count_43 : decode cX5_count 43 = .ok (.laload, 1) := by decide +kernel
theorem dX5_count_44 : decode cX5_count 44 = .ok (.lreturn, 1) := by decide +kernel
theorem dX5_count_45 : decode cX5_count 45 = .ok (.iload_n 1, 1) := by decide +kernel
theorem dX5_count_46 : decode cX5_count 46 = .ok (.tableswitch 64 5 9 #[34, 40, 46, 52, 58], 34) := by decide +kernel
theorem dX5_count_80 : decode cX5_count 80 = .ok (.aload_n 0, 1) := by decide +kernel
theorem dX5_count_81 : decode cX5_count 81 = .ok (.invokevirtual 124, 3) := by decide +kernel
theorem dX5_count_84 : decode cX5_count 84 = .ok (.i2l, 1) := by decide +kernel
theorem dX5_count_85 : decode cX5_count 85 = .ok (.lreturn, 1) := by decide +kernel
theorem dX5_count_86 : decode cX5_count 86 = .ok (.aload_n 0, 1) := by decide +kernel
theorem dX5_count_87 : decode cX5_count 87 = .ok (.iconst 4, 1) := by decide +kernel
theorem dX5_count_88 : decode cX5_count 88 = .ok (.invokevirtual 166, 3) := by decide +kernel
theorem dX5_count_91 : decode cX5_count 91 = .ok (.lreturn, 1) := by decide +kernel
theorem dX5_count_92 : decode cX5_count 92 = .ok (.aload_n 0, 1) := by decide +kernel
theorem dX5_count_93 : decode cX5_count 93 = .ok (.iconst 5, 1) := by decide +kernel
theorem dX5_count_94 : decode cX5_count 94 = .ok (.invokevirtual 166, 3) := by decide +kernel
theorem dX5_count_97 : decode cX5_count 97 = .ok (.lreturn, 1) := by decide +kernel
theorem dX5_count_98 : decode cX5_count 98 = .ok (.aload_n 0, 1) := by decide +kernel
theorem dX5_count_99 : decode cX5_count 99 = .ok (.getfield 188, 3) := by decide +kernel
theorem dX5_count_102 : decode cX5_count 102 = .ok (.i2l, 1) := by decide +kernel
theorem dX5_count_103 : decode cX5_count 103 = .ok (.lreturn, 1) := by decide +kernel
theorem dX5_count_104 : decode cX5_count 104 = .ok (.aload_n 0, 1) := by decide +kernel
theorem dX5_count_105 : decode cX5_count 105 = .ok (.getfield 45, 3) := by decide +kernel
theorem dX5_count_108 : decode cX5_count 108 = .ok (.i2l, 1) := by decide +kernel
theorem dX5_count_109 : decode cX5_count 109 = .ok (.lreturn, 1) := by decide +kernel
theorem dX5_count_110 : decode cX5_count 110 = .ok (.ldc2_w 191, 3) := by decide +kernel
theorem dX5_count_113 : decode cX5_count 113 = .ok (.lreturn, 1) := by decide +kernel
theorem dX5_firstShort_0 : decode cX5_firstShort 0 = .ok (.aload_n 0, 1) := by decide +kernel
theorem dX5_firstShort_1 : decode cX5_firstShort 1 = .ok (.iload_n 1, 1) := by decide +kernel
theorem dX5_firstShort_2 : decode cX5_firstShort 2 = .ok (.invokevirtual 127, 3) := by decide +kernel
theorem dX5_firstShort_5 : decode cX5_firstShort 5 = .ok (.ifCond .ne 5, 3) := by decide +kernel
theorem dX5_firstShort_8 : decode cX5_firstShort 8 = .ok (.iconst (-1), 1) := by decide +kernel
theorem dX5_firstShort_9 : decode cX5_firstShort 9 = .ok (.ireturn, 1) := by decide +kernel
theorem dX5_firstShort_10 : decode cX5_firstShort 10 = .ok (.iconst 0, 1) := by decide +kernel
theorem dX5_firstShort_11 : decode cX5_firstShort 11 = .ok (.istore_n 2, 1) := by decide +kernel
theorem dX5_firstShort_12 : decode cX5_firstShort 12 = .ok (.iload_n 2, 1) := by decide +kernel
theorem dX5_firstShort_13 : decode cX5_firstShort 13 = .ok (.bipush 12, 2) := by decide +kernel
theorem dX5_firstShort_15 : decode cX5_firstShort 15 = .ok (.if_icmp .ge 22, 3) := by decide +kernel
theorem dX5_firstShort_18 : decode cX5_firstShort 18 = .ok (.aload_n 0, 1) := by decide +kernel
theorem dX5_firstShort_19 : decode cX5_firstShort 19 = .ok (.iload_n 1, 1) := by decide +kernel
theorem dX5_firstShort_20 : decode cX5_firstShort 20 = .ok (.iload_n 2, 1) := by decide +kernel
theorem dX5_firstShort_21 : decode cX5_firstShort 21 = .ok (.invokevirtual 101, 3) := by decide +kernel
theorem dX5_firstShort_24 : decode cX5_firstShort 24 = .ok (.lconst 0, 1) := by decide +kernel
theorem dX5_firstShort_25 : decode cX5_firstShort 25 = .ok (.lcmp, 1) := by decide +kernel
theorem dX5_firstShort_26 : decode cX5_firstShort 26 = .ok (.ifCond .ge 5, 3) := by decide +kernel
theorem dX5_firstShort_29 : decode cX5_firstShort 29 = .ok (.iload_n 2, 1) := by decide +kernel
theorem dX5_firstShort_30 : decode cX5_firstShort 30 = .ok (.ireturn, 1) := by decide +kernel
theorem dX5_firstShort_31 : decode cX5_firstShort 31 = .ok (.iinc 2 1, 3) := by decide +kernel
theorem dX5_firstShort_34 : decode cX5_firstShort 34 = .ok (.goto (-22), 3) := by decide +kernel
theorem dX5_firstShort_37 : decode cX5_firstShort 37 = .ok (.bipush (-6), 2) := by decide +kernel
theorem dX5_firstShort_39 : decode cX5_firstShort 39 = .ok (.ireturn, 1) := by decide +kernel
theorem dX5_lasts_0 : decode cX5_lasts 0 = .ok (.aload_n 0, 1) := by decide +kernel
theorem dX5_lasts_1 : decode cX5_lasts 1 = .ok (.iload_n 1, 1) := by decide +kernel
theorem dX5_lasts_2 : decode cX5_lasts 2 = .ok (.invokevirtual 127, 3) := by decide +kernel
theorem dX5_lasts_5 : decode cX5_lasts 5 = .ok (.ifCond .ne 5, 3) := by decide +kernel
theorem dX5_lasts_8 : decode cX5_lasts 8 = .ok (.iconst (-1), 1) := by decide +kernel
theorem dX5_lasts_9 : decode cX5_lasts 9 = .ok (.ireturn, 1) := by decide +kernel
theorem dX5_lasts_10 : decode cX5_lasts 10 = .ok (.aload_n 0, 1) := by decide +kernel
theorem dX5_lasts_11 : decode cX5_lasts 11 = .ok (.iload_n 1, 1) := by decide +kernel
theorem dX5_lasts_12 : decode cX5_lasts 12 = .ok (.iconst 4, 1) := by decide +kernel
theorem dX5_lasts_13 : decode cX5_lasts 13 = .ok (.invokevirtual 78, 3) := by decide +kernel
theorem dX5_lasts_16 : decode cX5_lasts 16 = .ok (.aload_n 0, 1) := by decide +kernel
theorem dX5_lasts_17 : decode cX5_lasts 17 = .ok (.iload_n 1, 1) := by decide +kernel
theorem dX5_lasts_18 : decode cX5_lasts 18 = .ok (.iconst 5, 1) := by decide +kernel
theorem dX5_lasts_19 : decode cX5_lasts 19 = .ok (.invokevirtual 78, 3) := by decide +kernel
theorem dX5_lasts_22 : decode cX5_lasts 22 = .ok (.lsub, 1) := by decide +kernel
theorem dX5_lasts_23 : decode cX5_lasts 23 = .ok (.lstore_n 2, 1) := by decide +kernel
theorem dX5_lasts_24 : decode cX5_lasts 24 = .ok (.iconst 0, 1) := by decide +kernel
theorem dX5_lasts_25 : decode cX5_lasts 25 = .ok (.istore 4, 2) := by decide +kernel
theorem dX5_lasts_27 : decode cX5_lasts 27 = .ok (.iload 4, 2) := by decide +kernel
theorem dX5_lasts_29 : decode cX5_lasts 29 = .ok (.bipush 12, 2) := by decide +kernel
theorem dX5_lasts_31 : decode cX5_lasts 31 = .ok (.if_icmp .ge 37, 3) := by decide +kernel
theorem dX5_lasts_34 : decode cX5_lasts 34 = .ok (.lload_n 2, 1) := by decide +kernel
theorem dX5_lasts_35 : decode cX5_lasts 35 = .ok (.aload_n 0, 1) := by decide +kernel
theorem dX5_lasts_36 : decode cX5_lasts 36 = .ok (.iload_n 1, 1) := by decide +kernel
theorem dX5_lasts_37 : decode cX5_lasts 37 = .ok (.bipush 12, 2) := by decide +kernel
theorem dX5_lasts_39 : decode cX5_lasts 39 = .ok (.iload 4, 2) := by decide +kernel
theorem dX5_lasts_41 : decode cX5_lasts 41 = .ok (.iadd, 1) := by decide +kernel
theorem dX5_lasts_42 : decode cX5_lasts 42 = .ok (.invokevirtual 78, 3) := by decide +kernel
theorem dX5_lasts_45 : decode cX5_lasts 45 = .ok (.lcmp, 1) := by decide +kernel
theorem dX5_lasts_46 : decode cX5_lasts 46 = .ok (.ifCond .lt 22, 3) := by decide +kernel
theorem dX5_lasts_49 : decode cX5_lasts 49 = .ok (.lload_n 2, 1) := by decide +kernel
theorem dX5_lasts_50 : decode cX5_lasts 50 = .ok (.aload_n 0, 1) := by decide +kernel
theorem dX5_lasts_51 : decode cX5_lasts 51 = .ok (.iload_n 1, 1) := by decide +kernel
theorem dX5_lasts_52 : decode cX5_lasts 52 = .ok (.bipush 12, 2) := by decide +kernel
theorem dX5_lasts_54 : decode cX5_lasts 54 = .ok (.iload 4, 2) := by decide +kernel
theorem dX5_lasts_56 : decode cX5_lasts 56 = .ok (.iadd, 1) := by decide +kernel
theorem dX5_lasts_57 : decode cX5_lasts 57 = .ok (.invokevirtual 78, 3) := by decide +kernel
theorem dX5_lasts_60 : decode cX5_lasts 60 = .ok (.lsub, 1) := by decide +kernel
theorem dX5_lasts_61 : decode cX5_lasts 61 = .ok (.lstore_n 2, 1) := by decide +kernel
theorem dX5_lasts_62 : decode cX5_lasts 62 = .ok (.iinc 4 1, 3) := by decide +kernel
theorem dX5_lasts_65 : decode cX5_lasts 65 = .ok (.goto (-38), 3) := by decide +kernel
theorem dX5_lasts_68 : decode cX5_lasts 68 = .ok (.iload 4, 2) := by decide +kernel
theorem dX5_lasts_70 : decode cX5_lasts 70 = .ok (.ireturn, 1) := by decide +kernel
theorem dX5_does_0 : decode cX5_does 0 = .ok (.iconst 1, 1) := by decide +kernel
theorem dX5_does_1 : decode cX5_does 1 = .ok (.istore_n 1, 1) := by decide +kernel
theorem dX5_does_2 : decode cX5_does 2 = .ok (.iconst 0, 1) := by decide +kernel
theorem dX5_does_3 : decode cX5_does 3 = .ok (.istore_n 2, 1) := by decide +kernel
theorem dX5_does_4 : decode cX5_does 4 = .ok (.iload_n 2, 1) := by decide +kernel
theorem dX5_does_5 : decode cX5_does 5 = .ok (.i2l, 1) := by decide +kernel
theorem dX5_does_6 : decode cX5_does 6 = .ok (.aload_n 0, 1) := by decide +kernel
theorem dX5_does_7 : decode cX5_does 7 = .ok (.getfield 7, 3) := by decide +kernel
theorem dX5_does_10 : decode cX5_does 10 = .ok (.iconst 1, 1) := by decide +kernel
theorem dX5_does_11 : decode cX5_does 11 = .ok (.laload, 1) := by decide +kernel
theorem dX5_does_12 : decode cX5_does 12 = .ok (.lcmp, 1) := by decide +kernel
theorem dX5_does_13 : decode cX5_does 13 = .ok (.ifCond .ge 47, 3) := by decide +kernel
theorem dX5_does_16 : decode cX5_does 16 = .ok (.aload_n 0, 1) := by decide +kernel
theorem dX5_does_17 : decode cX5_does 17 = .ok (.invokevirtual 114, 3) := by decide +kernel
theorem dX5_does_20 : decode cX5_does 20 = .ok (.istore_n 3, 1) := by decide +kernel
theorem dX5_does_21 : decode cX5_does 21 = .ok (.iload_n 3, 1) := by decide +kernel
theorem dX5_does_22 : decode cX5_does 22 = .ok (.bipush 12, 2) := by decide +kernel
theorem dX5_does_24 : decode cX5_does 24 = .ok (.if_icmp .ge 30, 3) := by decide +kernel
theorem dX5_does_27 : decode cX5_does 27 = .ok (.iload_n 1, 1) := by decide +kernel
theorem dX5_does_28 : decode cX5_does 28 = .ok (.ifCond .eq 18, 3) := by decide +kernel
theorem dX5_does_31 : decode cX5_does 31 = .ok (.aload_n 0, 1) := by decide +kernel
theorem dX5_does_32 : decode cX5_does 32 = .ok (.iload_n 2, 1) := by decide +kernel
theorem dX5_does_33 : decode cX5_does 33 = .ok (.iload_n 3, 1) := by decide +kernel
theorem dX5_does_34 : decode cX5_does 34 = .ok (.invokevirtual 101, 3) := by decide +kernel
theorem dX5_does_37 : decode cX5_does 37 = .ok (.lconst 0, 1) := by decide +kernel
theorem dX5_does_38 : decode cX5_does 38 = .ok (.lcmp, 1) := by decide +kernel
theorem dX5_does_39 : decode cX5_does 39 = .ok (.ifCond .lt 7, 3) := by decide +kernel
theorem dX5_does_42 : decode cX5_does 42 = .ok (.iconst 1, 1) := by decide +kernel
theorem dX5_does_43 : decode cX5_does 43 = .ok (.goto 4, 3) := by decide +kernel
theorem dX5_does_46 : decode cX5_does 46 = .ok (.iconst 0, 1) := by decide +kernel
theorem dX5_does_47 : decode cX5_does 47 = .ok (.istore_n 1, 1) := by decide +kernel
theorem dX5_does_48 : decode cX5_does 48 = .ok (.iinc 3 1, 3) := by decide +kernel
theorem dX5_does_51 : decode cX5_does 51 = .ok (.goto (-30), 3) := by decide +kernel
theorem dX5_does_54 : decode cX5_does 54 = .ok (.iinc 2 1, 3) := by decide +kernel
theorem dX5_does_57 : decode cX5_does 57 = .ok (.goto (-53), 3) := by decide +kernel
theorem dX5_does_60 : decode cX5_does 60 = .ok (.iload_n 1, 1) := by decide +kernel
theorem dX5_does_61 : decode cX5_does 61 = .ok (.ireturn, 1) := by decide +kernel
theorem dX5_leastHours_0 : decode cX5_leastHours 0 = .ok (.aload_n 0, 1) := by decide +kernel
theorem dX5_leastHours_1 : decode cX5_leastHours 1 = .ok (.bipush 8, 2) := by decide +kernel
theorem dX5_leastHours_3 : decode cX5_leastHours 3 = .ok (.invokevirtual 49, 3) := by decide +kernel
theorem dX5_leastHours_6 : decode cX5_leastHours 6 = .ok (.bipush (-6), 2) := by decide +kernel
theorem dX5_leastHours_8 : decode cX5_leastHours 8 = .ok (.istore_n 1, 1) := by decide +kernel
theorem dX5_leastHours_9 : decode cX5_leastHours 9 = .ok (.iconst 0, 1) := by decide +kernel
theorem dX5_leastHours_10 : decode cX5_leastHours 10 = .ok (.istore_n 2, 1) := by decide +kernel
theorem dX5_leastHours_11 : decode cX5_leastHours 11 = .ok (.iload_n 2, 1) := by decide +kernel
theorem dX5_leastHours_12 : decode cX5_leastHours 12 = .ok (.sipush 1000, 3) := by decide +kernel
theorem dX5_leastHours_15 : decode cX5_leastHours 15 = .ok (.if_icmp .gt 41, 3) := by decide +kernel
theorem dX5_leastHours_18 : decode cX5_leastHours 18 = .ok (.iload_n 1, 1) := by decide +kernel
theorem dX5_leastHours_19 : decode cX5_leastHours 19 = .ok (.bipush (-6), 2) := by decide +kernel
theorem dX5_leastHours_21 : decode cX5_leastHours 21 = .ok (.if_icmp .ne 35, 3) := by decide +kernel
theorem dX5_leastHours_24 : decode cX5_leastHours 24 = .ok (.aload_n 0, 1) := by decide +kernel
theorem dX5_leastHours_25 : decode cX5_leastHours 25 = .ok (.getfield 7, 3) := by decide +kernel
theorem dX5_leastHours_28 : decode cX5_leastHours 28 = .ok (.iconst 5, 1) := by decide +kernel
theorem dX5_leastHours_29 : decode cX5_leastHours 29 = .ok (.iload_n 2, 1) := by decide +kernel
theorem dX5_leastHours_30 : decode cX5_leastHours 30 = .ok (.i2l, 1) := by decide +kernel
theorem dX5_leastHours_31 : decode cX5_leastHours 31 = .ok (.lastore, 1) := by decide +kernel
theorem dX5_leastHours_32 : decode cX5_leastHours 32 = .ok (.aload_n 0, 1) := by decide +kernel
theorem dX5_leastHours_33 : decode cX5_leastHours 33 = .ok (.invokevirtual 121, 3) := by decide +kernel
theorem dX5_leastHours_36 : decode cX5_leastHours 36 = .ok (.aload_n 0, 1) := by decide +kernel
theorem dX5_leastHours_37 : decode cX5_leastHours 37 = .ok (.invokevirtual 193, 3) := by decide +kernel
theorem dX5_leastHours_40 : decode cX5_leastHours 40 = .ok (.ifCond .eq 7, 3) := by decide +kernel
theorem dX5_leastHours_43 : decode cX5_leastHours 43 = .ok (.iload_n 2, 1) := by decide +kernel
theorem dX5_leastHours_44 : decode cX5_leastHours 44 = .ok (.goto 5, 3) := by decide +kernel
theorem dX5_leastHours_47 : decode cX5_leastHours 47 = .ok (.bipush (-6), 2) := by decide +kernel
theorem dX5_leastHours_49 : decode cX5_leastHours 49 = .ok (.istore_n 1, 1) := by decide +kernel
theorem dX5_leastHours_50 : decode cX5_leastHours 50 = .ok (.iinc 2 10, 3) := by decide +kernel
theorem dX5_leastHours_53 : decode cX5_leastHours 53 = .ok (.goto (-42), 3) := by decide +kernel
theorem dX5_leastHours_56 : decode cX5_leastHours 56 = .ok (.aload_n 0, 1) := by decide +kernel
theorem dX5_leastHours_57 : decode cX5_leastHours 57 = .ok (.bipush 8, 2) := by decide +kernel
theorem dX5_leastHours_59 : decode cX5_leastHours 59 = .ok (.invokevirtual 53, 3) := by decide +kernel
theorem dX5_leastHours_62 : decode cX5_leastHours 62 = .ok (.iload_n 1, 1) := by decide +kernel
theorem dX5_leastHours_63 : decode cX5_leastHours 63 = .ok (.ireturn, 1) := by decide +kernel
theorem dX5_costsBy_0 : decode cX5_costsBy 0 = .ok (.aload_n 0, 1) := by decide +kernel
theorem dX5_costsBy_1 : decode cX5_costsBy 1 = .ok (.bipush 8, 2) := by decide +kernel
theorem dX5_costsBy_3 : decode cX5_costsBy 3 = .ok (.invokevirtual 49, 3) := by decide +kernel
theorem dX5_costsBy_6 : decode cX5_costsBy 6 = .ok (.aload_n 0, 1) := by decide +kernel
theorem dX5_costsBy_7 : decode cX5_costsBy 7 = .ok (.getfield 7, 3) := by decide +kernel
theorem dX5_costsBy_10 : decode cX5_costsBy 10 = .ok (.iconst 4, 1) := by decide +kernel
theorem dX5_costsBy_11 : decode cX5_costsBy 11 = .ok (.laload, 1) := by decide +kernel
theorem dX5_costsBy_12 : decode cX5_costsBy 12 = .ok (.lstore_n 3, 1) := by decide +kernel
theorem dX5_costsBy_13 : decode cX5_costsBy 13 = .ok (.aload_n 0, 1) := by decide +kernel
theorem dX5_costsBy_14 : decode cX5_costsBy 14 = .ok (.getfield 7, 3) := by decide +kernel
theorem dX5_costsBy_17 : decode cX5_costsBy 17 = .ok (.bipush 7, 2) := by decide +kernel
theorem dX5_costsBy_19 : decode cX5_costsBy 19 = .ok (.iload_n 1, 1) := by decide +kernel
theorem dX5_costsBy_20 : decode cX5_costsBy 20 = .ok (.i2l, 1) := by decide +kernel
theorem dX5_costsBy_21 : decode cX5_costsBy 21 = .ok (.lastore, 1) := by decide +kernel
theorem dX5_costsBy_22 : decode cX5_costsBy 22 = .ok (.iconst 0, 1) := by decide +kernel
theorem dX5_costsBy_23 : decode cX5_costsBy 23 = .ok (.istore 5, 2) := by decide +kernel
theorem dX5_costsBy_25 : decode cX5_costsBy 25 = .ok (.iload 5, 2) := by decide +kernel
theorem dX5_costsBy_27 : decode cX5_costsBy 27 = .ok (.i2l, 1) := by decide +kernel
theorem dX5_costsBy_28 : decode cX5_costsBy 28 = .ok (.aload_n 0, 1) := by decide +kernel
theorem dX5_costsBy_29 : decode cX5_costsBy 29 = .ok (.getfield 7, 3) := by decide +kernel
theorem dX5_costsBy_32 : decode cX5_costsBy 32 = .ok (.iconst 1, 1) := by decide +kernel
theorem dX5_costsBy_33 : decode cX5_costsBy 33 = .ok (.laload, 1) := by decide +kernel
theorem dX5_costsBy_34 : decode cX5_costsBy 34 = .ok (.lcmp, 1) := by decide +kernel
theorem dX5_costsBy_35 : decode cX5_costsBy 35 = .ok (.ifCond .ge 20, 3) := by decide +kernel
theorem dX5_costsBy_38 : decode cX5_costsBy 38 = .ok (.aload_n 0, 1) := by decide +kernel
theorem dX5_costsBy_39 : decode cX5_costsBy 39 = .ok (.iload 5, 2) := by decide +kernel
theorem dX5_costsBy_41 : decode cX5_costsBy 41 = .ok (.bipush 7, 2) := by decide +kernel
theorem dX5_costsBy_43 : decode cX5_costsBy 43 = .ok (.ldc2_w 76, 3) := by decide +kernel
theorem dX5_costsBy_46 : decode cX5_costsBy 46 = .ok (.invokevirtual 72, 3) := by decide +kernel
theorem dX5_costsBy_49 : decode cX5_costsBy 49 = .ok (.iinc 5 1, 3) := by decide +kernel
theorem dX5_costsBy_52 : decode cX5_costsBy 52 = .ok (.goto (-27), 3) := by decide +kernel
theorem dX5_costsBy_55 : decode cX5_costsBy 55 = .ok (.aload_n 0, 1) := by decide +kernel
theorem dX5_costsBy_56 : decode cX5_costsBy 56 = .ok (.invokevirtual 121, 3) := by decide +kernel
theorem dX5_costsBy_59 : decode cX5_costsBy 59 = .ok (.aload_n 0, 1) := by decide +kernel
theorem dX5_costsBy_60 : decode cX5_costsBy 60 = .ok (.iload_n 2, 1) := by decide +kernel
theorem dX5_costsBy_61 : decode cX5_costsBy 61 = .ok (.invokevirtual 177, 3) := by decide +kernel
theorem dX5_costsBy_64 : decode cX5_costsBy 64 = .ok (.ifCond .ge 7, 3) := by decide +kernel
theorem dX5_costsBy_67 : decode cX5_costsBy 67 = .ok (.lconst 0, 1) := by decide +kernel
theorem dX5_costsBy_68 : decode cX5_costsBy 68 = .ok (.goto 11, 3) := by decide +kernel
theorem dX5_costsBy_71 : decode cX5_costsBy 71 = .ok (.aload_n 0, 1) := by decide +kernel
theorem dX5_costsBy_72 : decode cX5_costsBy 72 = .ok (.getfield 7, 3) := by decide +kernel
theorem dX5_costsBy_75 : decode cX5_costsBy 75 = .ok (.iconst 4, 1) := by decide +kernel
theorem dX5_costsBy_76 : decode cX5_costsBy 76 = .ok (.laload, 1) := by decide +kernel
theorem dX5_costsBy_77 : decode cX5_costsBy 77 = .ok (.lload_n 3, 1) := by decide +kernel
theorem dX5_costsBy_78 : decode cX5_costsBy 78 = .ok (.lsub, 1) := by decide +kernel
theorem dX5_costsBy_79 : decode cX5_costsBy 79 = .ok (.lstore 5, 2) := by decide +kernel
theorem dX5_costsBy_81 : decode cX5_costsBy 81 = .ok (.aload_n 0, 1) := by decide +kernel
theorem dX5_costsBy_82 : decode cX5_costsBy 82 = .ok (.bipush 8, 2) := by decide +kernel
theorem dX5_costsBy_84 : decode cX5_costsBy 84 = .ok (.invokevirtual 53, 3) := by decide +kernel
theorem dX5_costsBy_87 : decode cX5_costsBy 87 = .ok (.lload 5, 2) := by decide +kernel
theorem dX5_costsBy_89 : decode cX5_costsBy 89 = .ok (.lreturn, 1) := by decide +kernel
theorem dX5_costs_0 : decode cX5_costs 0 = .ok (.iload_n 1, 1) := by decide +kernel
theorem dX5_costs_1 : decode cX5_costs 1 = .ok (.i2l, 1) := by decide +kernel
theorem dX5_costs_2 : decode cX5_costs 2 = .ok (.lconst 0, 1) := by decide +kernel
theorem dX5_costs_3 : decode cX5_costs 3 = .ok (.ldc2_w 59, 3) := by decide +kernel
theorem dX5_costs_6 : decode cX5_costs 6 = .ok (.invokestatic 35, 3) := by decide +kernel
theorem dX5_costs_9 : decode cX5_costs 9 = .ok (.ifCond .eq 24, 3) := by decide +kernel
theorem dX5_costs_12 : decode cX5_costs 12 = .ok (.iload_n 2, 1) := by decide +kernel
theorem dX5_costs_13 : decode cX5_costs 13 = .ok (.i2l, 1) := by decide +kernel
theorem dX5_costs_14 : decode cX5_costs 14 = .ok (.lconst 1, 1) := by decide +kernel
theorem dX5_costs_15 : decode cX5_costs 15 = .ok (.ldc2_w 180, 3) := by decide +kernel
theorem dX5_costs_18 : decode cX5_costs 18 = .ok (.invokestatic 35, 3) := by decide +kernel
theorem dX5_costs_21 : decode cX5_costs 21 = .ok (.ifCond .eq 12, 3) := by decide +kernel
theorem dX5_costs_24 : decode cX5_costs 24 = .ok (.aload_n 0, 1) := by decide +kernel
theorem dX5_costs_25 : decode cX5_costs 25 = .ok (.iload_n 1, 1) := by decide +kernel
theorem dX5_costs_26 : decode cX5_costs 26 = .ok (.iload_n 2, 1) := by decide +kernel
theorem dX5_costs_27 : decode cX5_costs 27 = .ok (.invokevirtual 197, 3) := by decide +kernel
theorem dX5_costs_30 : decode cX5_costs 30 = .ok (.goto 6, 3) := by decide +kernel
theorem dX5_costs_33 : decode cX5_costs 33 = .ok (.ldc2_w 191, 3) := by decide +kernel
theorem dX5_costs_36 : decode cX5_costs 36 = .ok (.lreturn, 1) := by decide +kernel
theorem dX5_bestFence_0 : decode cX5_bestFence 0 = .ok (.iload_n 1, 1) := by decide +kernel
theorem dX5_bestFence_1 : decode cX5_bestFence 1 = .ok (.i2l, 1) := by decide +kernel
theorem dX5_bestFence_2 : decode cX5_bestFence 2 = .ok (.lconst 1, 1) := by decide +kernel
theorem dX5_bestFence_3 : decode cX5_bestFence 3 = .ok (.ldc2_w 180, 3) := by decide +kernel
theorem dX5_bestFence_6 : decode cX5_bestFence 6 = .ok (.invokestatic 35, 3) := by decide +kernel
theorem dX5_bestFence_9 : decode cX5_bestFence 9 = .ok (.ifCond .ne 6, 3) := by decide +kernel
theorem dX5_bestFence_12 : decode cX5_bestFence 12 = .ok (.bipush (-2), 2) := by decide +kernel
theorem dX5_bestFence_14 : decode cX5_bestFence 14 = .ok (.ireturn, 1) := by decide +kernel
theorem dX5_bestFence_15 : decode cX5_bestFence 15 = .ok (.iconst 0, 1) := by decide +kernel
theorem dX5_bestFence_16 : decode cX5_bestFence 16 = .ok (.istore_n 2, 1) := by decide +kernel
theorem dX5_bestFence_17 : decode cX5_bestFence 17 = .ok (.aload_n 0, 1) := by decide +kernel
theorem dX5_bestFence_18 : decode cX5_bestFence 18 = .ok (.iconst 0, 1) := by decide +kernel
theorem dX5_bestFence_19 : decode cX5_bestFence 19 = .ok (.iload_n 1, 1) := by decide +kernel
theorem dX5_bestFence_20 : decode cX5_bestFence 20 = .ok (.invokevirtual 197, 3) := by decide +kernel
theorem dX5_bestFence_23 : decode cX5_bestFence 23 = .ok (.lstore_n 3, 1) := by decide +kernel
theorem dX5_bestFence_24 : decode cX5_bestFence 24 = .ok (.iconst 1, 1) := by decide +kernel
theorem dX5_bestFence_25 : decode cX5_bestFence 25 = .ok (.istore 5, 2) := by decide +kernel
theorem dX5_bestFence_27 : decode cX5_bestFence 27 = .ok (.iload 5, 2) := by decide +kernel
theorem dX5_bestFence_29 : decode cX5_bestFence 29 = .ok (.bipush 8, 2) := by decide +kernel
theorem dX5_bestFence_31 : decode cX5_bestFence 31 = .ok (.if_icmp .gt 46, 3) := by decide +kernel
theorem dX5_bestFence_34 : decode cX5_bestFence 34 = .ok (.aload_n 0, 1) := by decide +kernel
theorem dX5_bestFence_35 : decode cX5_bestFence 35 = .ok (.iload 5, 2) := by decide +kernel
theorem dX5_bestFence_37 : decode cX5_bestFence 37 = .ok (.iload_n 1, 1) := by decide +kernel
theorem dX5_bestFence_38 : decode cX5_bestFence 38 = .ok (.invokevirtual 197, 3) := by decide +kernel
theorem dX5_bestFence_41 : decode cX5_bestFence 41 = .ok (.lstore 6, 2) := by decide +kernel
theorem dX5_bestFence_43 : decode cX5_bestFence 43 = .ok (.lload 6, 2) := by decide +kernel
theorem dX5_bestFence_45 : decode cX5_bestFence 45 = .ok (.lload_n 3, 1) := by decide +kernel
theorem dX5_bestFence_46 : decode cX5_bestFence 46 = .ok (.lcmp, 1) := by decide +kernel
theorem dX5_bestFence_47 : decode cX5_bestFence 47 = .ok (.ifCond .gt 8, 3) := by decide +kernel
theorem dX5_bestFence_50 : decode cX5_bestFence 50 = .ok (.iload 5, 2) := by decide +kernel
theorem dX5_bestFence_52 : decode cX5_bestFence 52 = .ok (.goto 4, 3) := by decide +kernel
theorem dX5_bestFence_55 : decode cX5_bestFence 55 = .ok (.iload_n 2, 1) := by decide +kernel
theorem dX5_bestFence_56 : decode cX5_bestFence 56 = .ok (.istore_n 2, 1) := by decide +kernel
theorem dX5_bestFence_57 : decode cX5_bestFence 57 = .ok (.lload 6, 2) := by decide +kernel
theorem dX5_bestFence_59 : decode cX5_bestFence 59 = .ok (.lload_n 3, 1) := by decide +kernel
theorem dX5_bestFence_60 : decode cX5_bestFence 60 = .ok (.lcmp, 1) := by decide +kernel
theorem dX5_bestFence_61 : decode cX5_bestFence 61 = .ok (.ifCond .gt 8, 3) := by decide +kernel
theorem dX5_bestFence_64 : decode cX5_bestFence 64 = .ok (.lload 6, 2) := by decide +kernel
theorem dX5_bestFence_66 : decode cX5_bestFence 66 = .ok (.goto 4, 3) := by decide +kernel
theorem dX5_bestFence_69 : decode cX5_bestFence 69 = .ok (.lload_n 3, 1) := by decide +kernel
theorem dX5_bestFence_70 : decode cX5_bestFence 70 = .ok (.lstore_n 3, 1) := by decide +kernel
theorem dX5_bestFence_71 : decode cX5_bestFence 71 = .ok (.iinc 5 1, 3) := by decide +kernel
theorem dX5_bestFence_74 : decode cX5_bestFence 74 = .ok (.goto (-47), 3) := by decide +kernel
theorem dX5_bestFence_77 : decode cX5_bestFence 77 = .ok (.iload_n 2, 1) := by decide +kernel
theorem dX5_bestFence_78 : decode cX5_bestFence 78 = .ok (.ireturn, 1) := by decide +kernel
theorem dX5_roomFor_0 : decode cX5_roomFor 0 = .ok (.aload_n 0, 1) := by decide +kernel
theorem dX5_roomFor_1 : decode cX5_roomFor 1 = .ok (.iload_n 1, 1) := by decide +kernel
theorem dX5_roomFor_2 : decode cX5_roomFor 2 = .ok (.invokevirtual 127, 3) := by decide +kernel
theorem dX5_roomFor_5 : decode cX5_roomFor 5 = .ok (.ifCond .eq 20, 3) := by decide +kernel
theorem dX5_roomFor_8 : decode cX5_roomFor 8 = .ok (.iload_n 2, 1) := by decide +kernel
theorem dX5_roomFor_9 : decode cX5_roomFor 9 = .ok (.invokestatic 131, 3) := by decide +kernel
theorem dX5_roomFor_12 : decode cX5_roomFor 12 = .ok (.ifCond .eq 13, 3) := by decide +kernel
theorem dX5_roomFor_15 : decode cX5_roomFor 15 = .ok (.aload_n 0, 1) := by decide +kernel
theorem dX5_roomFor_16 : decode cX5_roomFor 16 = .ok (.iload_n 1, 1) := by decide +kernel
theorem dX5_roomFor_17 : decode cX5_roomFor 17 = .ok (.iload_n 2, 1) := by decide +kernel
theorem dX5_roomFor_18 : decode cX5_roomFor 18 = .ok (.invokevirtual 111, 3) := by decide +kernel
theorem dX5_roomFor_21 : decode cX5_roomFor 21 = .ok (.l2i, 1) := by decide +kernel
theorem dX5_roomFor_22 : decode cX5_roomFor 22 = .ok (.goto 4, 3) := by decide +kernel
theorem dX5_roomFor_25 : decode cX5_roomFor 25 = .ok (.iconst (-1), 1) := by decide +kernel
theorem dX5_roomFor_26 : decode cX5_roomFor 26 = .ok (.ireturn, 1) := by decide +kernel
theorem dX5_put_0 : decode cX5_put 0 = .ok (.iconst 0, 1) := by decide +kernel
theorem dX5_put_1 : decode cX5_put 1 = .ok (.istore_n 3, 1) := by decide +kernel
theorem dX5_put_2 : decode cX5_put 2 = .ok (.iload_n 3, 1) := by decide +kernel
theorem dX5_put_3 : decode cX5_put 3 = .ok (.bipush 8, 2) := by decide +kernel
theorem dX5_put_5 : decode cX5_put 5 = .ok (.if_icmp .ge 55, 3) := by decide +kernel
theorem dX5_put_8 : decode cX5_put 8 = .ok (.lload_n 1, 1) := by decide +kernel
theorem dX5_put_9 : decode cX5_put 9 = .ok (.bipush 8, 2) := by decide +kernel
theorem dX5_put_11 : decode cX5_put 11 = .ok (.iload_n 3, 1) := by decide +kernel
theorem dX5_put_12 : decode cX5_put 12 = .ok (.imul, 1) := by decide +kernel
theorem dX5_put_13 : decode cX5_put 13 = .ok (.lshr, 1) := by decide +kernel
theorem dX5_put_14 : decode cX5_put 14 = .ok (.ldc2_w 200, 3) := by decide +kernel
theorem dX5_put_17 : decode cX5_put 17 = .ok (.land, 1) := by decide +kernel
theorem dX5_put_18 : decode cX5_put 18 = .ok (.lconst 0, 1) := by decide +kernel
theorem dX5_put_19 : decode cX5_put 19 = .ok (.lcmp, 1) := by decide +kernel
theorem dX5_put_20 : decode cX5_put 20 = .ok (.ifCond .eq 40, 3) := by decide +kernel
theorem dX5_put_23 : decode cX5_put 23 = .ok (.lload_n 1, 1) := by decide +kernel
theorem dX5_put_24 : decode cX5_put 24 = .ok (.bipush 8, 2) := by decide +kernel
theorem dX5_put_26 : decode cX5_put 26 = .ok (.iload_n 3, 1) := by decide +kernel
theorem dX5_put_27 : decode cX5_put 27 = .ok (.imul, 1) := by decide +kernel
theorem dX5_put_28 : decode cX5_put 28 = .ok (.lshr, 1) := by decide +kernel
theorem dX5_put_29 : decode cX5_put 29 = .ok (.ldc2_w 200, 3) := by decide +kernel
theorem dX5_put_32 : decode cX5_put 32 = .ok (.land, 1) := by decide +kernel
theorem dX5_put_33 : decode cX5_put 33 = .ok (.l2i, 1) := by decide +kernel
theorem dX5_put_34 : decode cX5_put 34 = .ok (.istore 4, 2) := by decide +kernel
theorem dX5_put_36 : decode cX5_put 36 = .ok (.iload 4, 2) := by decide +kernel
theorem dX5_put_38 : decode cX5_put 38 = .ok (.i2l, 1) := by decide +kernel
theorem dX5_put_39 : decode cX5_put 39 = .ok (.ldc2_w 202, 3) := by decide +kernel
theorem dX5_put_42 : decode cX5_put 42 = .ok (.ldc2_w 204, 3) := by decide +kernel
theorem dX5_put_45 : decode cX5_put 45 = .ok (.invokestatic 35, 3) := by decide +kernel
theorem dX5_put_48 : decode cX5_put 48 = .ok (.ifCond .ne 6, 3) := by decide +kernel
theorem dX5_put_51 : decode cX5_put 51 = .ok (.bipush (-2), 2) := by decide +kernel
theorem dX5_put_53 : decode cX5_put 53 = .ok (.ireturn, 1) := by decide +kernel
theorem dX5_put_54 : decode cX5_put 54 = .ok (.iinc 3 1, 3) := by decide +kernel
theorem dX5_put_57 : decode cX5_put 57 = .ok (.goto (-55), 3) := by decide +kernel
theorem dX5_put_60 : decode cX5_put 60 = .ok (.iload_n 3, 1) := by decide +kernel
theorem dX5_put_61 : decode cX5_put 61 = .ok (.ifCond .eq 20, 3) := by decide +kernel
theorem dX5_put_64 : decode cX5_put 64 = .ok (.iload_n 3, 1) := by decide +kernel
theorem dX5_put_65 : decode cX5_put 65 = .ok (.bipush 8, 2) := by decide +kernel
theorem dX5_put_67 : decode cX5_put 67 = .ok (.if_icmp .ge 17, 3) := by decide +kernel
theorem dX5_put_70 : decode cX5_put 70 = .ok (.lload_n 1, 1) := by decide +kernel
theorem dX5_put_71 : decode cX5_put 71 = .ok (.bipush 8, 2) := by decide +kernel
theorem dX5_put_73 : decode cX5_put 73 = .ok (.iload_n 3, 1) := by decide +kernel
theorem dX5_put_74 : decode cX5_put 74 = .ok (.imul, 1) := by decide +kernel
theorem dX5_put_75 : decode cX5_put 75 = .ok (.lshr, 1) := by decide +kernel
theorem dX5_put_76 : decode cX5_put 76 = .ok (.lconst 0, 1) := by decide +kernel
theorem dX5_put_77 : decode cX5_put 77 = .ok (.lcmp, 1) := by decide +kernel
theorem dX5_put_78 : decode cX5_put 78 = .ok (.ifCond .eq 6, 3) := by decide +kernel
theorem dX5_put_81 : decode cX5_put 81 = .ok (.bipush (-2), 2) := by decide +kernel
theorem dX5_put_83 : decode cX5_put 83 = .ok (.ireturn, 1) := by decide +kernel
theorem dX5_put_84 : decode cX5_put 84 = .ok (.aload_n 0, 1) := by decide +kernel
theorem dX5_put_85 : decode cX5_put 85 = .ok (.getfield 188, 3) := by decide +kernel
theorem dX5_put_88 : decode cX5_put 88 = .ok (.iload_n 3, 1) := by decide +kernel
theorem dX5_put_89 : decode cX5_put 89 = .ok (.iadd, 1) := by decide +kernel
theorem dX5_put_90 : decode cX5_put 90 = .ok (.bipush 80, 2) := by decide +kernel
theorem dX5_put_92 : decode cX5_put 92 = .ok (.if_icmp .le 6, 3) := by decide +kernel
theorem dX5_put_95 : decode cX5_put 95 = .ok (.bipush (-4), 2) := by decide +kernel
theorem dX5_put_97 : decode cX5_put 97 = .ok (.ireturn, 1) := by decide +kernel
theorem dX5_put_98 : decode cX5_put 98 = .ok (.iload_n 3, 1) := by decide +kernel
theorem dX5_put_99 : decode cX5_put 99 = .ok (.iconst 1, 1) := by decide +kernel
theorem dX5_put_100 : decode cX5_put 100 = .ok (.isub, 1) := by decide +kernel
theorem dX5_put_101 : decode cX5_put 101 = .ok (.istore 4, 2) := by decide +kernel
theorem dX5_put_103 : decode cX5_put 103 = .ok (.iload 4, 2) := by decide +kernel
theorem dX5_put_105 : decode cX5_put 105 = .ok (.ifCond .lt 40, 3) := by decide +kernel
theorem dX5_put_108 : decode cX5_put 108 = .ok (.aload_n 0, 1) := by decide +kernel
theorem dX5_put_109 : decode cX5_put 109 = .ok (.getfield 20, 3) := by decide +kernel
theorem dX5_put_112 : decode cX5_put 112 = .ok (.aload_n 0, 1) := by decide +kernel
theorem dX5_put_113 : decode cX5_put 113 = .ok (.getfield 188, 3) := by decide +kernel
theorem dX5_put_116 : decode cX5_put 116 = .ok (.lload_n 1, 1) := by decide +kernel
theorem dX5_put_117 : decode cX5_put 117 = .ok (.bipush 8, 2) := by decide +kernel
theorem dX5_put_119 : decode cX5_put 119 = .ok (.iload 4, 2) := by decide +kernel
theorem dX5_put_121 : decode cX5_put 121 = .ok (.imul, 1) := by decide +kernel
theorem dX5_put_122 : decode cX5_put 122 = .ok (.lshr, 1) := by decide +kernel
theorem dX5_put_123 : decode cX5_put 123 = .ok (.ldc2_w 200, 3) := by decide +kernel
theorem dX5_put_126 : decode cX5_put 126 = .ok (.land, 1) := by decide +kernel
theorem dX5_put_127 : decode cX5_put 127 = .ok (.l2i, 1) := by decide +kernel
theorem dX5_put_128 : decode cX5_put 128 = .ok (.iastore, 1) := by decide +kernel
theorem dX5_put_129 : decode cX5_put 129 = .ok (.aload_n 0, 1) := by decide +kernel
theorem dX5_put_130 : decode cX5_put 130 = .ok (.dup, 1) := by decide +kernel
theorem dX5_put_131 : decode cX5_put 131 = .ok (.getfield 188, 3) := by decide +kernel
theorem dX5_put_134 : decode cX5_put 134 = .ok (.iconst 1, 1) := by decide +kernel
theorem dX5_put_135 : decode cX5_put 135 = .ok (.iadd, 1) := by decide +kernel
theorem dX5_put_136 : decode cX5_put 136 = .ok (.putfield 188, 3) := by decide +kernel
theorem dX5_put_139 : decode cX5_put 139 = .ok (.iinc 4 (-1), 3) := by decide +kernel
theorem dX5_put_142 : decode cX5_put 142 = .ok (.goto (-39), 3) := by decide +kernel
theorem dX5_put_145 : decode cX5_put 145 = .ok (.aload_n 0, 1) := by decide +kernel
theorem dX5_put_146 : decode cX5_put 146 = .ok (.getfield 188, 3) := by decide +kernel
theorem dX5_put_149 : decode cX5_put 149 = .ok (.ireturn, 1) := by decide +kernel
theorem dX5_wipe_0 : decode cX5_wipe 0 = .ok (.aload_n 0, 1) := by decide +kernel
theorem dX5_wipe_1 : decode cX5_wipe 1 = .ok (.getfield 188, 3) := by decide +kernel
theorem dX5_wipe_4 : decode cX5_wipe 4 = .ok (.istore_n 1, 1) := by decide +kernel
theorem dX5_wipe_5 : decode cX5_wipe 5 = .ok (.aload_n 0, 1) := by decide +kernel
theorem dX5_wipe_6 : decode cX5_wipe 6 = .ok (.iconst 0, 1) := by decide +kernel
theorem dX5_wipe_7 : decode cX5_wipe 7 = .ok (.putfield 188, 3) := by decide +kernel
theorem dX5_wipe_10 : decode cX5_wipe 10 = .ok (.iload_n 1, 1) := by decide +kernel
theorem dX5_wipe_11 : decode cX5_wipe 11 = .ok (.ireturn, 1) := by decide +kernel
theorem dX5_isHere_0 : decode cX5_isHere 0 = .ok (.aload_n 0, 1) := by decide +kernel
theorem dX5_isHere_1 : decode cX5_isHere 1 = .ok (.getfield 206, 3) := by decide +kernel
theorem dX5_isHere_4 : decode cX5_isHere 4 = .ok (.aload_n 0, 1) := by decide +kernel
theorem dX5_isHere_5 : decode cX5_isHere 5 = .ok (.getfield 188, 3) := by decide +kernel
theorem dX5_isHere_8 : decode cX5_isHere 8 = .ok (.if_icmp .ge 27, 3) := by decide +kernel
theorem dX5_isHere_11 : decode cX5_isHere 11 = .ok (.aload_n 0, 1) := by decide +kernel
theorem dX5_isHere_12 : decode cX5_isHere 12 = .ok (.getfield 20, 3) := by decide +kernel
theorem dX5_isHere_15 : decode cX5_isHere 15 = .ok (.aload_n 0, 1) := by decide +kernel
theorem dX5_isHere_16 : decode cX5_isHere 16 = .ok (.getfield 206, 3) := by decide +kernel
theorem dX5_isHere_19 : decode cX5_isHere 19 = .ok (.iaload, 1) := by decide +kernel
theorem dX5_isHere_20 : decode cX5_isHere 20 = .ok (.i2l, 1) := by decide +kernel
theorem dX5_isHere_21 : decode cX5_isHere 21 = .ok (.iload_n 1, 1) := by decide +kernel
theorem dX5_isHere_22 : decode cX5_isHere 22 = .ok (.i2l, 1) := by decide +kernel
theorem dX5_isHere_23 : decode cX5_isHere 23 = .ok (.iload_n 2, 1) := by decide +kernel
theorem dX5_isHere_24 : decode cX5_isHere 24 = .ok (.i2l, 1) := by decide +kernel
theorem dX5_isHere_25 : decode cX5_isHere 25 = .ok (.invokestatic 35, 3) := by decide +kernel
theorem dX5_isHere_28 : decode cX5_isHere 28 = .ok (.ifCond .eq 7, 3) := by decide +kernel
theorem dX5_isHere_31 : decode cX5_isHere 31 = .ok (.iconst 1, 1) := by decide +kernel
theorem dX5_isHere_32 : decode cX5_isHere 32 = .ok (.goto 4, 3) := by decide +kernel
theorem dX5_isHere_35 : decode cX5_isHere 35 = .ok (.iconst 0, 1) := by decide +kernel
theorem dX5_isHere_36 : decode cX5_isHere 36 = .ok (.ireturn, 1) := by decide +kernel
theorem dX5_passesOne_0 : decode cX5_passesOne 0 = .ok (.aload_n 0, 1) := by decide +kernel
theorem dX5_passesOne_1 : decode cX5_passesOne 1 = .ok (.iload_n 1, 1) := by decide +kernel
theorem dX5_passesOne_2 : decode cX5_passesOne 2 = .ok (.iload_n 2, 1) := by decide +kernel
theorem dX5_passesOne_3 : decode cX5_passesOne 3 = .ok (.invokevirtual 209, 3) := by decide +kernel
theorem dX5_passesOne_6 : decode cX5_passesOne 6 = .ok (.ifCond .ne 5, 3) := by decide +kernel
theorem dX5_passesOne_9 : decode cX5_passesOne 9 = .ok (.iconst 0, 1) := by decide +kernel
theorem dX5_passesOne_10 : decode cX5_passesOne 10 = .ok (.ireturn, 1) := by decide +kernel
theorem dX5_passesOne_11 : decode cX5_passesOne 11 = .ok (.aload_n 0, 1) := by decide +kernel
theorem dX5_passesOne_12 : decode cX5_passesOne 12 = .ok (.aload_n 0, 1) := by decide +kernel
theorem dX5_passesOne_13 : decode cX5_passesOne 13 = .ok (.getfield 20, 3) := by decide +kernel
theorem dX5_passesOne_16 : decode cX5_passesOne 16 = .ok (.aload_n 0, 1) := by decide +kernel
theorem dX5_passesOne_17 : decode cX5_passesOne 17 = .ok (.getfield 206, 3) := by decide +kernel
theorem dX5_passesOne_20 : decode cX5_passesOne 20 = .ok (.iaload, 1) := by decide +kernel
theorem dX5_passesOne_21 : decode cX5_passesOne 21 = .ok (.bipush 48, 2) := by decide +kernel
theorem dX5_passesOne_23 : decode cX5_passesOne 23 = .ok (.isub, 1) := by decide +kernel
theorem dX5_passesOne_24 : decode cX5_passesOne 24 = .ok (.putfield 212, 3) := by decide +kernel
theorem dX5_passesOne_27 : decode cX5_passesOne 27 = .ok (.aload_n 0, 1) := by decide +kernel
theorem dX5_passesOne_28 : decode cX5_passesOne 28 = .ok (.dup, 1) := by decide +kernel
theorem dX5_passesOne_29 : decode cX5_passesOne 29 = .ok (.getfield 206, 3) := by decide +kernel
theorem dX5_passesOne_32 : decode cX5_passesOne 32 = .ok (.iconst 1, 1) := by decide +kernel
theorem dX5_passesOne_33 : decode cX5_passesOne 33 = .ok (.iadd, 1) := by decide +kernel
theorem dX5_passesOne_34 : decode cX5_passesOne 34 = .ok (.putfield 206, 3) := by decide +kernel
theorem dX5_passesOne_37 : decode cX5_passesOne 37 = .ok (.iconst 1, 1) := by decide +kernel
theorem dX5_passesOne_38 : decode cX5_passesOne 38 = .ok (.ireturn, 1) := by decide +kernel
theorem dX5_passesNumber_0 : decode cX5_passesNumber 0 = .ok (.aload_n 0, 1) := by decide +kernel
theorem dX5_passesNumber_1 : decode cX5_passesNumber 1 = .ok (.bipush 48, 2) := by decide +kernel
theorem dX5_passesNumber_3 : decode cX5_passesNumber 3 = .ok (.bipush 57, 2) := by decide +kernel
theorem dX5_passesNumber_5 : decode cX5_passesNumber 5 = .ok (.invokevirtual 215, 3) := by decide +kernel
theorem dX5_passesNumber_8 : decode cX5_passesNumber 8 = .ok (.ifCond .ne 5, 3) := by decide +kernel
theorem dX5_passesNumber_11 : decode cX5_passesNumber 11 = .ok (.iconst 0, 1) := by decide +kernel
theorem dX5_passesNumber_12 : decode cX5_passesNumber 12 = .ok (.ireturn, 1) := by decide +kernel
theorem dX5_passesNumber_13 : decode cX5_passesNumber 13 = .ok (.aload_n 0, 1) := by decide +kernel
theorem dX5_passesNumber_14 : decode cX5_passesNumber 14 = .ok (.getfield 212, 3) := by decide +kernel
theorem dX5_passesNumber_17 : decode cX5_passesNumber 17 = .ok (.istore_n 1, 1) := by decide +kernel
theorem dX5_passesNumber_18 : decode cX5_passesNumber 18 = .ok (.iload_n 1, 1) := by decide +kernel
theorem dX5_passesNumber_19 : decode cX5_passesNumber 19 = .ok (.ifCond .le 56, 3) := by decide +kernel
theorem dX5_passesNumber_22 : decode cX5_passesNumber 22 = .ok (.aload_n 0, 1) := by decide +kernel
theorem dX5_passesNumber_23 : decode cX5_passesNumber 23 = .ok (.bipush 48, 2) := by decide +kernel
theorem dX5_passesNumber_25 : decode cX5_passesNumber 25 = .ok (.bipush 57, 2) := by decide +kernel
theorem dX5_passesNumber_27 : decode cX5_passesNumber 27 = .ok (.invokevirtual 209, 3) := by decide +kernel
theorem dX5_passesNumber_30 : decode cX5_passesNumber 30 = .ok (.ifCond .eq 45, 3) := by decide +kernel
theorem dX5_passesNumber_33 : decode cX5_passesNumber 33 = .ok (.bipush 10, 2) := by decide +kernel
theorem dX5_passesNumber_35 : decode cX5_passesNumber 35 = .ok (.iload_n 1, 1) := by decide +kernel
theorem dX5_passesNumber_36 : decode cX5_passesNumber 36 = .ok (.imul, 1) := by decide +kernel
theorem dX5_passesNumber_37 : decode cX5_passesNumber 37 = .ok (.aload_n 0, 1) := by decide +kernel
theorem dX5_passesNumber_38 : decode cX5_passesNumber 38 = .ok (.getfield 20, 3) := by decide +kernel
theorem dX5_passesNumber_41 : decode cX5_passesNumber 41 = .ok (.aload_n 0, 1) := by decide +kernel
theorem dX5_passesNumber_42 : decode cX5_passesNumber 42 = .ok (.getfield 206, 3) := by decide +kernel
theorem dX5_passesNumber_45 : decode cX5_passesNumber 45 = .ok (.iaload, 1) := by decide +kernel
theorem dX5_passesNumber_46 : decode cX5_passesNumber 46 = .ok (.iadd, 1) := by decide +kernel
theorem dX5_passesNumber_47 : decode cX5_passesNumber 47 = .ok (.bipush 48, 2) := by decide +kernel
theorem dX5_passesNumber_49 : decode cX5_passesNumber 49 = .ok (.isub, 1) := by decide +kernel
theorem dX5_passesNumber_50 : decode cX5_passesNumber 50 = .ok (.istore_n 2, 1) := by decide +kernel
theorem dX5_passesNumber_51 : decode cX5_passesNumber 51 = .ok (.iload_n 2, 1) := by decide +kernel
theorem dX5_passesNumber_52 : decode cX5_passesNumber 52 = .ok (.sipush 9999, 3) := by decide +kernel
theorem dX5_passesNumber_55 : decode cX5_passesNumber 55 = .ok (.if_icmp .le 5, 3) := by decide +kernel
theorem dX5_passesNumber_58 : decode cX5_passesNumber 58 = .ok (.iconst 0, 1) := by decide +kernel
theorem dX5_passesNumber_59 : decode cX5_passesNumber 59 = .ok (.ireturn, 1) := by decide +kernel
theorem dX5_passesNumber_60 : decode cX5_passesNumber 60 = .ok (.iload_n 2, 1) := by decide +kernel
theorem dX5_passesNumber_61 : decode cX5_passesNumber 61 = .ok (.istore_n 1, 1) := by decide +kernel
theorem dX5_passesNumber_62 : decode cX5_passesNumber 62 = .ok (.aload_n 0, 1) := by decide +kernel
theorem dX5_passesNumber_63 : decode cX5_passesNumber 63 = .ok (.dup, 1) := by decide +kernel
theorem dX5_passesNumber_64 : decode cX5_passesNumber 64 = .ok (.getfield 206, 3) := by decide +kernel
theorem dX5_passesNumber_67 : decode cX5_passesNumber 67 = .ok (.iconst 1, 1) := by decide +kernel
theorem dX5_passesNumber_68 : decode cX5_passesNumber 68 = .ok (.iadd, 1) := by decide +kernel
theorem dX5_passesNumber_69 : decode cX5_passesNumber 69 = .ok (.putfield 206, 3) := by decide +kernel
theorem dX5_passesNumber_72 : decode cX5_passesNumber 72 = .ok (.goto (-54), 3) := by decide +kernel
theorem dX5_passesNumber_75 : decode cX5_passesNumber 75 = .ok (.aload_n 0, 1) := by decide +kernel
theorem dX5_passesNumber_76 : decode cX5_passesNumber 76 = .ok (.iload_n 1, 1) := by decide +kernel
theorem dX5_passesNumber_77 : decode cX5_passesNumber 77 = .ok (.putfield 212, 3) := by decide +kernel
theorem dX5_passesNumber_80 : decode cX5_passesNumber 80 = .ok (.iconst 1, 1) := by decide +kernel
theorem dX5_passesNumber_81 : decode cX5_passesNumber 81 = .ok (.ireturn, 1) := by decide +kernel
theorem dX5_passesNumbers_0 : decode cX5_passesNumbers 0 = .ok (.aload_n 0, 1) := by decide +kernel
theorem dX5_passesNumbers_1 : decode cX5_passesNumbers 1 = .ok (.bipush 48, 2) := by decide +kernel
theorem dX5_passesNumbers_3 : decode cX5_passesNumbers 3 = .ok (.bipush 57, 2) := by decide +kernel
theorem dX5_passesNumbers_5 : decode cX5_passesNumbers 5 = .ok (.invokevirtual 215, 3) := by decide +kernel
theorem dX5_passesNumbers_8 : decode cX5_passesNumbers 8 = .ok (.ifCond .ne 5, 3) := by decide +kernel
theorem dX5_passesNumbers_11 : decode cX5_passesNumbers 11 = .ok (.iconst 0, 1) := by decide +kernel
theorem dX5_passesNumbers_12 : decode cX5_passesNumbers 12 = .ok (.ireturn, 1) := by decide +kernel
theorem dX5_passesNumbers_13 : decode cX5_passesNumbers 13 = .ok (.aload_n 0, 1) := by decide +kernel
theorem dX5_passesNumbers_14 : decode cX5_passesNumbers 14 = .ok (.aload_n 0, 1) := by decide +kernel
theorem dX5_passesNumbers_15 : decode cX5_passesNumbers 15 = .ok (.getfield 212, 3) := by decide +kernel
theorem dX5_passesNumbers_18 : decode cX5_passesNumbers 18 = .ok (.putfield 218, 3) := by decide +kernel
theorem dX5_passesNumbers_21 : decode cX5_passesNumbers 21 = .ok (.iload_n 1, 1) := by decide +kernel
theorem dX5_passesNumbers_22 : decode cX5_passesNumbers 22 = .ok (.ifCond .eq 31, 3) := by decide +kernel
theorem dX5_passesNumbers_25 : decode cX5_passesNumbers 25 = .ok (.aload_n 0, 1) := by decide +kernel
theorem dX5_passesNumbers_26 : decode cX5_passesNumbers 26 = .ok (.bipush 64, 2) := by decide +kernel
theorem dX5_passesNumbers_28 : decode cX5_passesNumbers 28 = .ok (.bipush 64, 2) := by decide +kernel
theorem dX5_passesNumbers_30 : decode cX5_passesNumbers 30 = .ok (.invokevirtual 215, 3) := by decide +kernel
theorem dX5_passesNumbers_33 : decode cX5_passesNumbers 33 = .ok (.ifCond .eq 10, 3) := by decide +kernel
theorem dX5_passesNumbers_36 : decode cX5_passesNumbers 36 = .ok (.aload_n 0, 1) := by decide +kernel
theorem dX5_passesNumbers_37 : decode cX5_passesNumbers 37 = .ok (.invokevirtual 221, 3) := by decide +kernel
theorem dX5_passesNumbers_40 : decode cX5_passesNumbers 40 = .ok (.ifCond .ne 5, 3) := by decide +kernel
theorem dX5_passesNumbers_43 : decode cX5_passesNumbers 43 = .ok (.iconst 0, 1) := by decide +kernel
theorem dX5_passesNumbers_44 : decode cX5_passesNumbers 44 = .ok (.ireturn, 1) := by decide +kernel
theorem dX5_passesNumbers_45 : decode cX5_passesNumbers 45 = .ok (.aload_n 0, 1) := by decide +kernel
theorem dX5_passesNumbers_46 : decode cX5_passesNumbers 46 = .ok (.aload_n 0, 1) := by decide +kernel
theorem dX5_passesNumbers_47 : decode cX5_passesNumbers 47 = .ok (.getfield 212, 3) := by decide +kernel
theorem dX5_passesNumbers_50 : decode cX5_passesNumbers 50 = .ok (.putfield 224, 3) := by decide +kernel
theorem dX5_passesNumbers_53 : decode cX5_passesNumbers 53 = .ok (.aload_n 0, 1) := by decide +kernel
theorem dX5_passesNumbers_54 : decode cX5_passesNumbers 54 = .ok (.bipush 42, 2) := by decide +kernel
theorem dX5_passesNumbers_56 : decode cX5_passesNumbers 56 = .ok (.bipush 42, 2) := by decide +kernel
theorem dX5_passesNumbers_58 : decode cX5_passesNumbers 58 = .ok (.invokevirtual 215, 3) := by decide +kernel
theorem dX5_passesNumbers_61 : decode cX5_passesNumbers 61 = .ok (.ifCond .eq 10, 3) := by decide +kernel
theorem dX5_passesNumbers_64 : decode cX5_passesNumbers 64 = .ok (.aload_n 0, 1) := by decide +kernel
theorem dX5_passesNumbers_65 : decode cX5_passesNumbers 65 = .ok (.invokevirtual 221, 3) := by decide +kernel
theorem dX5_passesNumbers_68 : decode cX5_passesNumbers 68 = .ok (.ifCond .ne 5, 3) := by decide +kernel
theorem dX5_passesNumbers_71 : decode cX5_passesNumbers 71 = .ok (.iconst 0, 1) := by decide +kernel
theorem dX5_passesNumbers_72 : decode cX5_passesNumbers 72 = .ok (.ireturn, 1) := by decide +kernel
theorem dX5_passesNumbers_73 : decode cX5_passesNumbers 73 = .ok (.aload_n 0, 1) := by decide +kernel
theorem dX5_passesNumbers_74 : decode cX5_passesNumbers 74 = .ok (.aload_n 0, 1) := by decide +kernel
theorem dX5_passesNumbers_75 : decode cX5_passesNumbers 75 = .ok (.getfield 212, 3) := by decide +kernel
theorem dX5_passesNumbers_78 : decode cX5_passesNumbers 78 = .ok (.putfield 227, 3) := by decide +kernel
theorem dX5_passesNumbers_81 : decode cX5_passesNumbers 81 = .ok (.iconst 1, 1) := by decide +kernel
theorem dX5_passesNumbers_82 : decode cX5_passesNumbers 82 = .ok (.ireturn, 1) := by decide +kernel
theorem dX5_passesAct_0 : decode cX5_passesAct 0 = .ok (.aload_n 0, 1) := by decide +kernel
theorem dX5_passesAct_1 : decode cX5_passesAct 1 = .ok (.aload_n 0, 1) := by decide +kernel
theorem dX5_passesAct_2 : decode cX5_passesAct 2 = .ok (.getfield 206, 3) := by decide +kernel
theorem dX5_passesAct_5 : decode cX5_passesAct 5 = .ok (.aload_n 0, 1) := by decide +kernel
theorem dX5_passesAct_6 : decode cX5_passesAct 6 = .ok (.getfield 188, 3) := by decide +kernel
theorem dX5_passesAct_9 : decode cX5_passesAct 9 = .ok (.if_icmp .ge 15, 3) := by decide +kernel
theorem dX5_passesAct_12 : decode cX5_passesAct 12 = .ok (.aload_n 0, 1) := by decide +kernel
theorem dX5_passesAct_13 : decode cX5_passesAct 13 = .ok (.getfield 20, 3) := by decide +kernel
theorem dX5_passesAct_16 : decode cX5_passesAct 16 = .ok (.aload_n 0, 1) := by decide +kernel
theorem dX5_passesAct_17 : decode cX5_passesAct 17 = .ok (.getfield 206, 3) := by decide +kernel
theorem dX5_passesAct_20 : decode cX5_passesAct 20 = .ok (.iaload, 1) := by decide +kernel
theorem dX5_passesAct_21 : decode cX5_passesAct 21 = .ok (.goto 4, 3) := by decide +kernel
theorem dX5_passesAct_24 : decode cX5_passesAct 24 = .ok (.iconst 0, 1) := by decide +kernel
theorem dX5_passesAct_25 : decode cX5_passesAct 25 = .ok (.putfield 230, 3) := by decide +kernel
theorem dX5_passesAct_28 : decode cX5_passesAct 28 = .ok (.aload_n 0, 1) := by decide +kernel
theorem dX5_passesAct_29 : decode cX5_passesAct 29 = .ok (.getfield 230, 3) := by decide +kernel
theorem dX5_passesAct_32 : decode cX5_passesAct 32 = .ok (.bipush 102, 2) := by decide +kernel
theorem dX5_passesAct_34 : decode cX5_passesAct 34 = .ok (.if_icmp .eq 41, 3) := by decide +kernel
theorem dX5_passesAct_37 : decode cX5_passesAct 37 = .ok (.aload_n 0, 1) := by decide +kernel
theorem dX5_passesAct_38 : decode cX5_passesAct 38 = .ok (.getfield 230, 3) := by decide +kernel
theorem dX5_passesAct_41 : decode cX5_passesAct 41 = .ok (.bipush 97, 2) := by decide +kernel
theorem dX5_passesAct_43 : decode cX5_passesAct 43 = .ok (.if_icmp .eq 32, 3) := by decide +kernel
theorem dX5_passesAct_46 : decode cX5_passesAct 46 = .ok (.aload_n 0, 1) := by decide +kernel
theorem dX5_passesAct_47 : decode cX5_passesAct 47 = .ok (.getfield 230, 3) := by decide +kernel
theorem dX5_passesAct_50 : decode cX5_passesAct 50 = .ok (.bipush 108, 2) := by decide +kernel
theorem dX5_passesAct_52 : decode cX5_passesAct 52 = .ok (.if_icmp .eq 23, 3) := by decide +kernel
theorem dX5_passesAct_55 : decode cX5_passesAct 55 = .ok (.aload_n 0, 1) := by decide +kernel
theorem dX5_passesAct_56 : decode cX5_passesAct 56 = .ok (.getfield 230, 3) := by decide +kernel
theorem dX5_passesAct_59 : decode cX5_passesAct 59 = .ok (.bipush 112, 2) := by decide +kernel
theorem dX5_passesAct_61 : decode cX5_passesAct 61 = .ok (.if_icmp .eq 14, 3) := by decide +kernel
theorem dX5_passesAct_64 : decode cX5_passesAct 64 = .ok (.aload_n 0, 1) := by decide +kernel
theorem dX5_passesAct_65 : decode cX5_passesAct 65 = .ok (.getfield 230, 3) := by decide +kernel
theorem dX5_passesAct_68 : decode cX5_passesAct 68 = .ok (.bipush 110, 2) := by decide +kernel
theorem dX5_passesAct_70 : decode cX5_passesAct 70 = .ok (.if_icmp .eq 5, 3) := by decide +kernel
theorem dX5_passesAct_73 : decode cX5_passesAct 73 = .ok (.iconst 0, 1) := by decide +kernel
theorem dX5_passesAct_74 : decode cX5_passesAct 74 = .ok (.ireturn, 1) := by decide +kernel
theorem dX5_passesAct_75 : decode cX5_passesAct 75 = .ok (.aload_n 0, 1) := by decide +kernel
theorem dX5_passesAct_76 : decode cX5_passesAct 76 = .ok (.dup, 1) := by decide +kernel
theorem dX5_passesAct_77 : decode cX5_passesAct 77 = .ok (.getfield 206, 3) := by decide +kernel
theorem dX5_passesAct_80 : decode cX5_passesAct 80 = .ok (.iconst 1, 1) := by decide +kernel
theorem dX5_passesAct_81 : decode cX5_passesAct 81 = .ok (.iadd, 1) := by decide +kernel
theorem dX5_passesAct_82 : decode cX5_passesAct 82 = .ok (.putfield 206, 3) := by decide +kernel
theorem dX5_passesAct_85 : decode cX5_passesAct 85 = .ok (.aload_n 0, 1) := by decide +kernel
theorem dX5_passesAct_86 : decode cX5_passesAct 86 = .ok (.getfield 230, 3) := by decide +kernel
theorem dX5_passesAct_89 : decode cX5_passesAct 89 = .ok (.bipush 110, 2) := by decide +kernel
theorem dX5_passesAct_91 : decode cX5_passesAct 91 = .ok (.if_icmp .ne 18, 3) := by decide +kernel
theorem dX5_passesAct_94 : decode cX5_passesAct 94 = .ok (.aload_n 0, 1) := by decide +kernel
theorem dX5_passesAct_95 : decode cX5_passesAct 95 = .ok (.invokevirtual 221, 3) := by decide +kernel
theorem dX5_passesAct_98 : decode cX5_passesAct 98 = .ok (.istore_n 1, 1) := by decide +kernel
theorem dX5_passesAct_99 : decode cX5_passesAct 99 = .ok (.aload_n 0, 1) := by decide +kernel
theorem dX5_passesAct_100 : decode cX5_passesAct 100 = .ok (.aload_n 0, 1) := by decide +kernel
theorem dX5_passesAct_101 : decode cX5_passesAct 101 = .ok (.getfield 212, 3) := by decide +kernel
theorem dX5_passesAct_104 : decode cX5_passesAct 104 = .ok (.putfield 218, 3) := by decide +kernel
theorem dX5_passesAct_107 : decode cX5_passesAct 107 = .ok (.iload_n 1, 1) := by decide +kernel
theorem dX5_passesAct_108 : decode cX5_passesAct 108 = .ok (.ireturn, 1) := by decide +kernel
theorem dX5_passesAct_109 : decode cX5_passesAct 109 = .ok (.aload_n 0, 1) := by decide +kernel
theorem dX5_passesAct_110 : decode cX5_passesAct 110 = .ok (.getfield 230, 3) := by decide +kernel
theorem dX5_passesAct_113 : decode cX5_passesAct 113 = .ok (.bipush 112, 2) := by decide +kernel
theorem dX5_passesAct_115 : decode cX5_passesAct 115 = .ok (.if_icmp .eq 24, 3) := by decide +kernel
theorem dX5_passesAct_118 : decode cX5_passesAct 118 = .ok (.aload_n 0, 1) := by decide +kernel
theorem dX5_passesAct_119 : decode cX5_passesAct 119 = .ok (.aload_n 0, 1) := by decide +kernel
theorem dX5_passesAct_120 : decode cX5_passesAct 120 = .ok (.getfield 230, 3) := by decide +kernel
theorem dX5_passesAct_123 : decode cX5_passesAct 123 = .ok (.bipush 97, 2) := by decide +kernel
theorem dX5_passesAct_125 : decode cX5_passesAct 125 = .ok (.if_icmp .eq 7, 3) := by decide +kernel
theorem dX5_passesAct_128 : decode cX5_passesAct 128 = .ok (.iconst 1, 1) := by decide +kernel
theorem dX5_passesAct_129 : decode cX5_passesAct 129 = .ok (.goto 4, 3) := by decide +kernel
theorem dX5_passesAct_132 : decode cX5_passesAct 132 = .ok (.iconst 0, 1) := by decide +kernel
theorem dX5_passesAct_133 : decode cX5_passesAct 133 = .ok (.invokevirtual 233, 3) := by decide +kernel
theorem dX5_passesAct_136 : decode cX5_passesAct 136 = .ok (.ifCond .eq 7, 3) := by decide +kernel
theorem dX5_passesAct_139 : decode cX5_passesAct 139 = .ok (.iconst 1, 1) := by decide +kernel
theorem dX5_passesAct_140 : decode cX5_passesAct 140 = .ok (.goto 4, 3) := by decide +kernel
theorem dX5_passesAct_143 : decode cX5_passesAct 143 = .ok (.iconst 0, 1) := by decide +kernel
theorem dX5_passesAct_144 : decode cX5_passesAct 144 = .ok (.ireturn, 1) := by decide +kernel
theorem dX5_fault_0 : decode cX5_fault 0 = .ok (.aload_n 0, 1) := by decide +kernel
theorem dX5_fault_1 : decode cX5_fault 1 = .ok (.iconst 0, 1) := by decide +kernel
theorem dX5_fault_2 : decode cX5_fault 2 = .ok (.putfield 206, 3) := by decide +kernel
theorem dX5_fault_5 : decode cX5_fault 5 = .ok (.aload_n 0, 1) := by decide +kernel
theorem dX5_fault_6 : decode cX5_fault 6 = .ok (.invokevirtual 237, 3) := by decide +kernel
theorem dX5_fault_9 : decode cX5_fault 9 = .ok (.ifCond .ne 8, 3) := by decide +kernel
theorem dX5_fault_12 : decode cX5_fault 12 = .ok (.aload_n 0, 1) := by decide +kernel
theorem dX5_fault_13 : decode cX5_fault 13 = .ok (.getfield 206, 3) := by decide +kernel
theorem dX5_fault_16 : decode cX5_fault 16 = .ok (.ireturn, 1) := by decide +kernel
theorem dX5_fault_17 : decode cX5_fault 17 = .ok (.aload_n 0, 1) := by decide +kernel
theorem dX5_fault_18 : decode cX5_fault 18 = .ok (.getfield 206, 3) := by decide +kernel
theorem dX5_fault_21 : decode cX5_fault 21 = .ok (.aload_n 0, 1) := by decide +kernel
theorem dX5_fault_22 : decode cX5_fault 22 = .ok (.getfield 188, 3) := by decide +kernel
theorem dX5_fault_25 : decode cX5_fault 25 = .ok (.if_icmp .ge 26, 3) := by decide +kernel
theorem dX5_fault_28 : decode cX5_fault 28 = .ok (.aload_n 0, 1) := by decide +kernel
theorem dX5_fault_29 : decode cX5_fault 29 = .ok (.bipush 59, 2) := by decide +kernel
theorem dX5_fault_31 : decode cX5_fault 31 = .ok (.bipush 59, 2) := by decide +kernel
theorem dX5_fault_33 : decode cX5_fault 33 = .ok (.invokevirtual 215, 3) := by decide +kernel
theorem dX5_fault_36 : decode cX5_fault 36 = .ok (.ifCond .eq 10, 3) := by decide +kernel
theorem dX5_fault_39 : decode cX5_fault 39 = .ok (.aload_n 0, 1) := by decide +kernel
theorem dX5_fault_40 : decode cX5_fault 40 = .ok (.invokevirtual 237, 3) := by decide +kernel
theorem dX5_fault_43 : decode cX5_fault 43 = .ok (.ifCond .ne (-26), 3) := by decide +kernel
theorem dX5_fault_46 : decode cX5_fault 46 = .ok (.aload_n 0, 1) := by decide +kernel
theorem dX5_fault_47 : decode cX5_fault 47 = .ok (.getfield 206, 3) := by decide +kernel
theorem dX5_fault_50 : decode cX5_fault 50 = .ok (.ireturn, 1) := by decide +kernel
theorem dX5_fault_51 : decode cX5_fault 51 = .ok (.bipush (-6), 2) := by decide +kernel
theorem dX5_fault_53 : decode cX5_fault 53 = .ok (.ireturn, 1) := by decide +kernel
theorem dX5_acts_0 : decode cX5_acts 0 = .ok (.iconst 0, 1) := by decide +kernel
theorem dX5_acts_1 : decode cX5_acts 1 = .ok (.istore_n 2, 1) := by decide +kernel
theorem dX5_acts_2 : decode cX5_acts 2 = .ok (.aload_n 0, 1) := by decide +kernel
theorem dX5_acts_3 : decode cX5_acts 3 = .ok (.getfield 230, 3) := by decide +kernel
theorem dX5_acts_6 : decode cX5_acts 6 = .ok (.bipush 102, 2) := by decide +kernel
theorem dX5_acts_8 : decode cX5_acts 8 = .ok (.if_icmp .ne 50, 3) := by decide +kernel
theorem dX5_acts_11 : decode cX5_acts 11 = .ok (.aload_n 0, 1) := by decide +kernel
theorem dX5_acts_12 : decode cX5_acts 12 = .ok (.aload_n 0, 1) := by decide +kernel
theorem dX5_acts_13 : decode cX5_acts 13 = .ok (.getfield 218, 3) := by decide +kernel
theorem dX5_acts_16 : decode cX5_acts 16 = .ok (.aload_n 0, 1) := by decide +kernel
theorem dX5_acts_17 : decode cX5_acts 17 = .ok (.getfield 224, 3) := by decide +kernel
theorem dX5_acts_20 : decode cX5_acts 20 = .ok (.aload_n 0, 1) := by decide +kernel
theorem dX5_acts_21 : decode cX5_acts 21 = .ok (.getfield 227, 3) := by decide +kernel
theorem dX5_acts_24 : decode cX5_acts 24 = .ok (.invokevirtual 134, 3) := by decide +kernel
theorem dX5_acts_27 : decode cX5_acts 27 = .ok (.istore_n 1, 1) := by decide +kernel
theorem dX5_acts_28 : decode cX5_acts 28 = .ok (.iload_n 2, 1) := by decide +kernel
theorem dX5_acts_29 : decode cX5_acts 29 = .ok (.iload_n 1, 1) := by decide +kernel
theorem dX5_acts_30 : decode cX5_acts 30 = .ok (.ifCond .eq 7, 3) := by decide +kernel
theorem dX5_acts_33 : decode cX5_acts 33 = .ok (.iconst 0, 1) := by decide +kernel
theorem dX5_acts_34 : decode cX5_acts 34 = .ok (.goto 19, 3) := by decide +kernel
theorem dX5_acts_37 : decode cX5_acts 37 = .ok (.aload_n 0, 1) := by decide +kernel
theorem dX5_acts_38 : decode cX5_acts 38 = .ok (.aload_n 0, 1) := by decide +kernel
theorem dX5_acts_39 : decode cX5_acts 39 = .ok (.getfield 218, 3) := by decide +kernel
theorem dX5_acts_42 : decode cX5_acts 42 = .ok (.aload_n 0, 1) := by decide +kernel
theorem dX5_acts_43 : decode cX5_acts 43 = .ok (.getfield 224, 3) := by decide +kernel
theorem dX5_acts_46 : decode cX5_acts 46 = .ok (.aload_n 0, 1) := by decide +kernel
theorem dX5_acts_47 : decode cX5_acts 47 = .ok (.getfield 227, 3) := by decide +kernel
theorem dX5_acts_50 : decode cX5_acts 50 = .ok (.invokevirtual 138, 3) := by decide +kernel
theorem dX5_acts_53 : decode cX5_acts 53 = .ok (.iadd, 1) := by decide +kernel
theorem dX5_acts_54 : decode cX5_acts 54 = .ok (.istore_n 2, 1) := by decide +kernel
theorem dX5_acts_55 : decode cX5_acts 55 = .ok (.goto 166, 3) := by decide +kernel
theorem dX5_acts_58 : decode cX5_acts 58 = .ok (.aload_n 0, 1) := by decide +kernel
theorem dX5_acts_59 : decode cX5_acts 59 = .ok (.getfield 230, 3) := by decide +kernel
theorem dX5_acts_62 : decode cX5_acts 62 = .ok (.bipush 97, 2) := by decide +kernel
theorem dX5_acts_64 : decode cX5_acts 64 = .ok (.if_icmp .ne 42, 3) := by decide +kernel
theorem dX5_acts_67 : decode cX5_acts 67 = .ok (.aload_n 0, 1) := by decide +kernel
theorem dX5_acts_68 : decode cX5_acts 68 = .ok (.aload_n 0, 1) := by decide +kernel
theorem dX5_acts_69 : decode cX5_acts 69 = .ok (.getfield 218, 3) := by decide +kernel
theorem dX5_acts_72 : decode cX5_acts 72 = .ok (.aload_n 0, 1) := by decide +kernel
theorem dX5_acts_73 : decode cX5_acts 73 = .ok (.getfield 227, 3) := by decide +kernel
theorem dX5_acts_76 : decode cX5_acts 76 = .ok (.invokevirtual 143, 3) := by decide +kernel
theorem dX5_acts_79 : decode cX5_acts 79 = .ok (.istore_n 1, 1) := by decide +kernel
theorem dX5_acts_80 : decode cX5_acts 80 = .ok (.iload_n 2, 1) := by decide +kernel
theorem dX5_acts_81 : decode cX5_acts 81 = .ok (.iload_n 1, 1) := by decide +kernel
theorem dX5_acts_82 : decode cX5_acts 82 = .ok (.ifCond .eq 7, 3) := by decide +kernel
theorem dX5_acts_85 : decode cX5_acts 85 = .ok (.iconst 0, 1) := by decide +kernel
theorem dX5_acts_86 : decode cX5_acts 86 = .ok (.goto 15, 3) := by decide +kernel
theorem dX5_acts_89 : decode cX5_acts 89 = .ok (.aload_n 0, 1) := by decide +kernel
theorem dX5_acts_90 : decode cX5_acts 90 = .ok (.aload_n 0, 1) := by decide +kernel
theorem dX5_acts_91 : decode cX5_acts 91 = .ok (.getfield 218, 3) := by decide +kernel
theorem dX5_acts_94 : decode cX5_acts 94 = .ok (.aload_n 0, 1) := by decide +kernel
theorem dX5_acts_95 : decode cX5_acts 95 = .ok (.getfield 227, 3) := by decide +kernel
theorem dX5_acts_98 : decode cX5_acts 98 = .ok (.invokevirtual 146, 3) := by decide +kernel
theorem dX5_acts_101 : decode cX5_acts 101 = .ok (.iadd, 1) := by decide +kernel
theorem dX5_acts_102 : decode cX5_acts 102 = .ok (.istore_n 2, 1) := by decide +kernel
theorem dX5_acts_103 : decode cX5_acts 103 = .ok (.goto 118, 3) := by decide +kernel
theorem dX5_acts_106 : decode cX5_acts 106 = .ok (.aload_n 0, 1) := by decide +kernel
theorem dX5_acts_107 : decode cX5_acts 107 = .ok (.getfield 230, 3) := by decide +kernel
theorem dX5_acts_110 : decode cX5_acts 110 = .ok (.bipush 108, 2) := by decide +kernel
theorem dX5_acts_112 : decode cX5_acts 112 = .ok (.if_icmp .ne 50, 3) := by decide +kernel
theorem dX5_acts_115 : decode cX5_acts 115 = .ok (.aload_n 0, 1) := by decide +kernel
theorem dX5_acts_116 : decode cX5_acts 116 = .ok (.aload_n 0, 1) := by decide +kernel
theorem dX5_acts_117 : decode cX5_acts 117 = .ok (.getfield 218, 3) := by decide +kernel
theorem dX5_acts_120 : decode cX5_acts 120 = .ok (.aload_n 0, 1) := by decide +kernel
theorem dX5_acts_121 : decode cX5_acts 121 = .ok (.getfield 224, 3) := by decide +kernel
theorem dX5_acts_124 : decode cX5_acts 124 = .ok (.aload_n 0, 1) := by decide +kernel
theorem dX5_acts_125 : decode cX5_acts 125 = .ok (.getfield 227, 3) := by decide +kernel
theorem dX5_acts_128 : decode cX5_acts 128 = .ok (.invokevirtual 149, 3) := by decide +kernel
theorem dX5_acts_131 : decode cX5_acts 131 = .ok (.istore_n 1, 1) := by decide +kernel
theorem dX5_acts_132 : decode cX5_acts 132 = .ok (.iload_n 2, 1) := by decide +kernel
theorem dX5_acts_133 : decode cX5_acts 133 = .ok (.iload_n 1, 1) := by decide +kernel
theorem dX5_acts_134 : decode cX5_acts 134 = .ok (.ifCond .eq 7, 3) := by decide +kernel
theorem dX5_acts_137 : decode cX5_acts 137 = .ok (.iconst 0, 1) := by decide +kernel
theorem dX5_acts_138 : decode cX5_acts 138 = .ok (.goto 19, 3) := by decide +kernel
theorem dX5_acts_141 : decode cX5_acts 141 = .ok (.aload_n 0, 1) := by decide +kernel
theorem dX5_acts_142 : decode cX5_acts 142 = .ok (.aload_n 0, 1) := by decide +kernel
theorem dX5_acts_143 : decode cX5_acts 143 = .ok (.getfield 218, 3) := by decide +kernel
theorem dX5_acts_146 : decode cX5_acts 146 = .ok (.aload_n 0, 1) := by decide +kernel
theorem dX5_acts_147 : decode cX5_acts 147 = .ok (.getfield 224, 3) := by decide +kernel
theorem dX5_acts_150 : decode cX5_acts 150 = .ok (.aload_n 0, 1) := by decide +kernel
theorem dX5_acts_151 : decode cX5_acts 151 = .ok (.getfield 227, 3) := by decide +kernel
theorem dX5_acts_154 : decode cX5_acts 154 = .ok (.invokevirtual 152, 3) := by decide +kernel
theorem dX5_acts_157 : decode cX5_acts 157 = .ok (.iadd, 1) := by decide +kernel
theorem dX5_acts_158 : decode cX5_acts 158 = .ok (.istore_n 2, 1) := by decide +kernel
theorem dX5_acts_159 : decode cX5_acts 159 = .ok (.goto 62, 3) := by decide +kernel
theorem dX5_acts_162 : decode cX5_acts 162 = .ok (.aload_n 0, 1) := by decide +kernel
theorem dX5_acts_163 : decode cX5_acts 163 = .ok (.getfield 230, 3) := by decide +kernel
theorem dX5_acts_166 : decode cX5_acts 166 = .ok (.bipush 110, 2) := by decide +kernel
theorem dX5_acts_168 : decode cX5_acts 168 = .ok (.if_icmp .ne 47, 3) := by decide +kernel
theorem dX5_acts_171 : decode cX5_acts 171 = .ok (.aload_n 0, 1) := by decide +kernel
theorem dX5_acts_172 : decode cX5_acts 172 = .ok (.getfield 218, 3) := by decide +kernel
theorem dX5_acts_175 : decode cX5_acts 175 = .ok (.i2l, 1) := by decide +kernel
theorem dX5_acts_176 : decode cX5_acts 176 = .ok (.lconst 1, 1) := by decide +kernel
theorem dX5_acts_177 : decode cX5_acts 177 = .ok (.ldc2_w 175, 3) := by decide +kernel
theorem dX5_acts_180 : decode cX5_acts 180 = .ok (.invokestatic 35, 3) := by decide +kernel
theorem dX5_acts_183 : decode cX5_acts 183 = .ok (.ifCond .eq 7, 3) := by decide +kernel
theorem dX5_acts_186 : decode cX5_acts 186 = .ok (.iconst 0, 1) := by decide +kernel
theorem dX5_acts_187 : decode cX5_acts 187 = .ok (.goto 5, 3) := by decide +kernel
theorem dX5_acts_190 : decode cX5_acts 190 = .ok (.bipush (-2), 2) := by decide +kernel
theorem dX5_acts_192 : decode cX5_acts 192 = .ok (.istore_n 1, 1) := by decide +kernel
theorem dX5_acts_193 : decode cX5_acts 193 = .ok (.iload_n 2, 1) := by decide +kernel
theorem dX5_acts_194 : decode cX5_acts 194 = .ok (.iload_n 1, 1) := by decide +kernel
theorem dX5_acts_195 : decode cX5_acts 195 = .ok (.ifCond .eq 7, 3) := by decide +kernel
theorem dX5_acts_198 : decode cX5_acts 198 = .ok (.iconst 0, 1) := by decide +kernel
theorem dX5_acts_199 : decode cX5_acts 199 = .ok (.goto 11, 3) := by decide +kernel
theorem dX5_acts_202 : decode cX5_acts 202 = .ok (.aload_n 0, 1) := by decide +kernel
theorem dX5_acts_203 : decode cX5_acts 203 = .ok (.aload_n 0, 1) := by decide +kernel
theorem dX5_acts_204 : decode cX5_acts 204 = .ok (.getfield 218, 3) := by decide +kernel
theorem dX5_acts_207 : decode cX5_acts 207 = .ok (.invokevirtual 177, 3) := by decide +kernel
theorem dX5_acts_210 : decode cX5_acts 210 = .ok (.iadd, 1) := by decide +kernel
theorem dX5_acts_211 : decode cX5_acts 211 = .ok (.istore_n 2, 1) := by decide +kernel
theorem dX5_acts_212 : decode cX5_acts 212 = .ok (.goto 9, 3) := by decide +kernel
theorem dX5_acts_215 : decode cX5_acts 215 = .ok (.iconst 0, 1) := by decide +kernel
theorem dX5_acts_216 : decode cX5_acts 216 = .ok (.istore_n 1, 1) := by decide +kernel
theorem dX5_acts_217 : decode cX5_acts 217 = .ok (.aload_n 0, 1) := by decide +kernel
theorem dX5_acts_218 : decode cX5_acts 218 = .ok (.invokevirtual 121, 3) := by decide +kernel
theorem dX5_acts_221 : decode cX5_acts 221 = .ok (.iload_n 1, 1) := by decide +kernel
theorem dX5_acts_222 : decode cX5_acts 222 = .ok (.ireturn, 1) := by decide +kernel
theorem dX5_carryOut_0 : decode cX5_carryOut 0 = .ok (.aload_n 0, 1) := by decide +kernel
theorem dX5_carryOut_1 : decode cX5_carryOut 1 = .ok (.invokevirtual 240, 3) := by decide +kernel
theorem dX5_carryOut_4 : decode cX5_carryOut 4 = .ok (.bipush (-6), 2) := by decide +kernel
theorem dX5_carryOut_6 : decode cX5_carryOut 6 = .ok (.if_icmp .eq 6, 3) := by decide +kernel
theorem dX5_carryOut_9 : decode cX5_carryOut 9 = .ok (.bipush (-3), 2) := by decide +kernel
theorem dX5_carryOut_11 : decode cX5_carryOut 11 = .ok (.ireturn, 1) := by decide +kernel
theorem dX5_carryOut_12 : decode cX5_carryOut 12 = .ok (.aload_n 0, 1) := by decide +kernel
theorem dX5_carryOut_13 : decode cX5_carryOut 13 = .ok (.invokevirtual 56, 3) := by decide +kernel
theorem dX5_carryOut_16 : decode cX5_carryOut 16 = .ok (.iconst 0, 1) := by decide +kernel
theorem dX5_carryOut_17 : decode cX5_carryOut 17 = .ok (.istore_n 1, 1) := by decide +kernel
theorem dX5_carryOut_18 : decode cX5_carryOut 18 = .ok (.iconst 1, 1) := by decide +kernel
theorem dX5_carryOut_19 : decode cX5_carryOut 19 = .ok (.istore_n 2, 1) := by decide +kernel
theorem dX5_carryOut_20 : decode cX5_carryOut 20 = .ok (.aload_n 0, 1) := by decide +kernel
theorem dX5_carryOut_21 : decode cX5_carryOut 21 = .ok (.iconst 0, 1) := by decide +kernel
theorem dX5_carryOut_22 : decode cX5_carryOut 22 = .ok (.putfield 206, 3) := by decide +kernel
theorem dX5_carryOut_25 : decode cX5_carryOut 25 = .ok (.iload_n 2, 1) := by decide +kernel
theorem dX5_carryOut_26 : decode cX5_carryOut 26 = .ok (.ifCond .eq 69, 3) := by decide +kernel
theorem dX5_carryOut_29 : decode cX5_carryOut 29 = .ok (.aload_n 0, 1) := by decide +kernel
theorem dX5_carryOut_30 : decode cX5_carryOut 30 = .ok (.invokevirtual 237, 3) := by decide +kernel
theorem dX5_carryOut_33 : decode cX5_carryOut 33 = .ok (.ifCond .eq 14, 3) := by decide +kernel
theorem dX5_carryOut_36 : decode cX5_carryOut 36 = .ok (.aload_n 0, 1) := by decide +kernel
theorem dX5_carryOut_37 : decode cX5_carryOut 37 = .ok (.invokevirtual 243, 3) := by decide +kernel
theorem dX5_carryOut_40 : decode cX5_carryOut 40 = .ok (.ifCond .ne 7, 3) := by decide +kernel
theorem dX5_carryOut_43 : decode cX5_carryOut 43 = .ok (.iconst 1, 1) := by decide +kernel
theorem dX5_carryOut_44 : decode cX5_carryOut 44 = .ok (.goto 4, 3) := by decide +kernel
theorem dX5_carryOut_47 : decode cX5_carryOut 47 = .ok (.iconst 0, 1) := by decide +kernel
theorem dX5_carryOut_48 : decode cX5_carryOut 48 = .ok (.istore_n 2, 1) := by decide +kernel
theorem dX5_carryOut_49 : decode cX5_carryOut 49 = .ok (.iload_n 1, 1) := by decide +kernel
theorem dX5_carryOut_50 : decode cX5_carryOut 50 = .ok (.iload_n 2, 1) := by decide +kernel
theorem dX5_carryOut_51 : decode cX5_carryOut 51 = .ok (.ifCond .eq 7, 3) := by decide +kernel
theorem dX5_carryOut_54 : decode cX5_carryOut 54 = .ok (.iconst 1, 1) := by decide +kernel
theorem dX5_carryOut_55 : decode cX5_carryOut 55 = .ok (.goto 4, 3) := by decide +kernel
theorem dX5_carryOut_58 : decode cX5_carryOut 58 = .ok (.iconst 0, 1) := by decide +kernel
theorem dX5_carryOut_59 : decode cX5_carryOut 59 = .ok (.iadd, 1) := by decide +kernel
theorem dX5_carryOut_60 : decode cX5_carryOut 60 = .ok (.istore_n 1, 1) := by decide +kernel
theorem dX5_carryOut_61 : decode cX5_carryOut 61 = .ok (.iload_n 2, 1) := by decide +kernel
theorem dX5_carryOut_62 : decode cX5_carryOut 62 = .ok (.ifCond .eq 18, 3) := by decide +kernel
theorem dX5_carryOut_65 : decode cX5_carryOut 65 = .ok (.aload_n 0, 1) := by decide +kernel
theorem dX5_carryOut_66 : decode cX5_carryOut 66 = .ok (.getfield 206, 3) := by decide +kernel
theorem dX5_carryOut_69 : decode cX5_carryOut 69 = .ok (.aload_n 0, 1) := by decide +kernel
theorem dX5_carryOut_70 : decode cX5_carryOut 70 = .ok (.getfield 188, 3) := by decide +kernel
theorem dX5_carryOut_73 : decode cX5_carryOut 73 = .ok (.if_icmp .ge 7, 3) := by decide +kernel
theorem dX5_carryOut_76 : decode cX5_carryOut 76 = .ok (.iconst 1, 1) := by decide +kernel
theorem dX5_carryOut_77 : decode cX5_carryOut 77 = .ok (.goto 4, 3) := by decide +kernel
theorem dX5_carryOut_80 : decode cX5_carryOut 80 = .ok (.iconst 0, 1) := by decide +kernel
theorem dX5_carryOut_81 : decode cX5_carryOut 81 = .ok (.istore_n 2, 1) := by decide +kernel
theorem dX5_carryOut_82 : decode cX5_carryOut 82 = .ok (.aload_n 0, 1) := by decide +kernel
theorem dX5_carryOut_83 : decode cX5_carryOut 83 = .ok (.dup, 1) := by decide +kernel
theorem dX5_carryOut_84 : decode cX5_carryOut 84 = .ok (.getfield 206, 3) := by decide +kernel
theorem dX5_carryOut_87 : decode cX5_carryOut 87 = .ok (.iconst 1, 1) := by decide +kernel
theorem dX5_carryOut_88 : decode cX5_carryOut 88 = .ok (.iadd, 1) := by decide +kernel
theorem dX5_carryOut_89 : decode cX5_carryOut 89 = .ok (.putfield 206, 3) := by decide +kernel
theorem dX5_carryOut_92 : decode cX5_carryOut 92 = .ok (.goto (-67), 3) := by decide +kernel
theorem dX5_carryOut_95 : decode cX5_carryOut 95 = .ok (.aload_n 0, 1) := by decide +kernel
theorem dX5_carryOut_96 : decode cX5_carryOut 96 = .ok (.iconst 0, 1) := by decide +kernel
theorem dX5_carryOut_97 : decode cX5_carryOut 97 = .ok (.putfield 188, 3) := by decide +kernel
theorem dX5_carryOut_100 : decode cX5_carryOut 100 = .ok (.iload_n 1, 1) := by decide +kernel
theorem dX5_carryOut_101 : decode cX5_carryOut 101 = .ok (.ireturn, 1) := by decide +kernel
theorem dJ6_bitCount_0f7a4_0 : decode cJ6_bitCount_0f7a4 0 = .ok (.iload_n 0, 1) := by decide +kernel
theorem dJ6_bitCount_0f7a4_1 : decode cJ6_bitCount_0f7a4 1 = .ok (.iload_n 0, 1) := by decide +kernel
theorem dJ6_bitCount_0f7a4_2 : decode cJ6_bitCount_0f7a4 2 = .ok (.iconst 1, 1) := by decide +kernel
theorem dJ6_bitCount_0f7a4_3 : decode cJ6_bitCount_0f7a4 3 = .ok (.iushr, 1) := by decide +kernel
theorem dJ6_bitCount_0f7a4_4 : decode cJ6_bitCount_0f7a4 4 = .ok (.ldc_w 265, 3) := by decide +kernel
theorem dJ6_bitCount_0f7a4_7 : decode cJ6_bitCount_0f7a4 7 = .ok (.iand, 1) := by decide +kernel
theorem dJ6_bitCount_0f7a4_8 : decode cJ6_bitCount_0f7a4 8 = .ok (.isub, 1) := by decide +kernel
theorem dJ6_bitCount_0f7a4_9 : decode cJ6_bitCount_0f7a4 9 = .ok (.istore_n 0, 1) := by decide +kernel
theorem dJ6_bitCount_0f7a4_10 : decode cJ6_bitCount_0f7a4 10 = .ok (.iload_n 0, 1) := by decide +kernel
theorem dJ6_bitCount_0f7a4_11 : decode cJ6_bitCount_0f7a4 11 = .ok (.ldc_w 266, 3) := by decide +kernel
theorem dJ6_bitCount_0f7a4_14 : decode cJ6_bitCount_0f7a4 14 = .ok (.iand, 1) := by decide +kernel
theorem dJ6_bitCount_0f7a4_15 : decode cJ6_bitCount_0f7a4 15 = .ok (.iload_n 0, 1) := by decide +kernel
theorem dJ6_bitCount_0f7a4_16 : decode cJ6_bitCount_0f7a4 16 = .ok (.iconst 2, 1) := by decide +kernel
theorem dJ6_bitCount_0f7a4_17 : decode cJ6_bitCount_0f7a4 17 = .ok (.iushr, 1) := by decide +kernel
theorem dJ6_bitCount_0f7a4_18 : decode cJ6_bitCount_0f7a4 18 = .ok (.ldc_w 266, 3) := by decide +kernel
theorem dJ6_bitCount_0f7a4_21 : decode cJ6_bitCount_0f7a4 21 = .ok (.iand, 1) := by decide +kernel
theorem dJ6_bitCount_0f7a4_22 : decode cJ6_bitCount_0f7a4 22 = .ok (.iadd, 1) := by decide +kernel
theorem dJ6_bitCount_0f7a4_23 : decode cJ6_bitCount_0f7a4 23 = .ok (.istore_n 0, 1) := by decide +kernel
theorem dJ6_bitCount_0f7a4_24 : decode cJ6_bitCount_0f7a4 24 = .ok (.iload_n 0, 1) := by decide +kernel
theorem dJ6_bitCount_0f7a4_25 : decode cJ6_bitCount_0f7a4 25 = .ok (.iload_n 0, 1) := by decide +kernel
theorem dJ6_bitCount_0f7a4_26 : decode cJ6_bitCount_0f7a4 26 = .ok (.iconst 4, 1) := by decide +kernel
theorem dJ6_bitCount_0f7a4_27 : decode cJ6_bitCount_0f7a4 27 = .ok (.iushr, 1) := by decide +kernel
theorem dJ6_bitCount_0f7a4_28 : decode cJ6_bitCount_0f7a4 28 = .ok (.iadd, 1) := by decide +kernel
theorem dJ6_bitCount_0f7a4_29 : decode cJ6_bitCount_0f7a4 29 = .ok (.ldc_w 267, 3) := by decide +kernel
theorem dJ6_bitCount_0f7a4_32 : decode cJ6_bitCount_0f7a4 32 = .ok (.iand, 1) := by decide +kernel
theorem dJ6_bitCount_0f7a4_33 : decode cJ6_bitCount_0f7a4 33 = .ok (.istore_n 0, 1) := by decide +kernel
theorem dJ6_bitCount_0f7a4_34 : decode cJ6_bitCount_0f7a4 34 = .ok (.iload_n 0, 1) := by decide +kernel
theorem dJ6_bitCount_0f7a4_35 : decode cJ6_bitCount_0f7a4 35 = .ok (.iload_n 0, 1) := by decide +kernel
theorem dJ6_bitCount_0f7a4_36 : decode cJ6_bitCount_0f7a4 36 = .ok (.bipush 8, 2) := by decide +kernel
theorem dJ6_bitCount_0f7a4_38 : decode cJ6_bitCount_0f7a4 38 = .ok (.iushr, 1) := by decide +kernel
theorem dJ6_bitCount_0f7a4_39 : decode cJ6_bitCount_0f7a4 39 = .ok (.iadd, 1) := by decide +kernel
theorem dJ6_bitCount_0f7a4_40 : decode cJ6_bitCount_0f7a4 40 = .ok (.istore_n 0, 1) := by decide +kernel
theorem dJ6_bitCount_0f7a4_41 : decode cJ6_bitCount_0f7a4 41 = .ok (.iload_n 0, 1) := by decide +kernel
theorem dJ6_bitCount_0f7a4_42 : decode cJ6_bitCount_0f7a4 42 = .ok (.iload_n 0, 1) := by decide +kernel
theorem dJ6_bitCount_0f7a4_43 : decode cJ6_bitCount_0f7a4 43 = .ok (.bipush 16, 2) := by decide +kernel
theorem dJ6_bitCount_0f7a4_45 : decode cJ6_bitCount_0f7a4 45 = .ok (.iushr, 1) := by decide +kernel
theorem dJ6_bitCount_0f7a4_46 : decode cJ6_bitCount_0f7a4 46 = .ok (.iadd, 1) := by decide +kernel
theorem dJ6_bitCount_0f7a4_47 : decode cJ6_bitCount_0f7a4 47 = .ok (.istore_n 0, 1) := by decide +kernel
theorem dJ6_bitCount_0f7a4_48 : decode cJ6_bitCount_0f7a4 48 = .ok (.iload_n 0, 1) := by decide +kernel
theorem dJ6_bitCount_0f7a4_49 : decode cJ6_bitCount_0f7a4 49 = .ok (.bipush 63, 2) := by decide +kernel
theorem dJ6_bitCount_0f7a4_51 : decode cJ6_bitCount_0f7a4 51 = .ok (.iand, 1) := by decide +kernel
theorem dJ6_bitCount_0f7a4_52 : decode cJ6_bitCount_0f7a4 52 = .ok (.ireturn, 1) := by decide +kernel
theorem dJ9_abs_0f7a4_0 : decode cJ9_abs_0f7a4 0 = .ok (.iload_n 0, 1) := by decide +kernel
theorem dJ9_abs_0f7a4_1 : decode cJ9_abs_0f7a4 1 = .ok (.ifCond .ge 8, 3) := by decide +kernel
theorem dJ9_abs_0f7a4_4 : decode cJ9_abs_0f7a4 4 = .ok (.iload_n 0, 1) := by decide +kernel
theorem dJ9_abs_0f7a4_5 : decode cJ9_abs_0f7a4 5 = .ok (.ineg, 1) := by decide +kernel
theorem dJ9_abs_0f7a4_6 : decode cJ9_abs_0f7a4 6 = .ok (.goto 4, 3) := by decide +kernel
theorem dJ9_abs_0f7a4_9 : decode cJ9_abs_0f7a4 9 = .ok (.iload_n 0, 1) := by decide +kernel
theorem dJ9_abs_0f7a4_10 : decode cJ9_abs_0f7a4 10 = .ok (.ireturn, 1) := by decide +kernel
theorem dJ9_max_7cf53_0 : decode cJ9_max_7cf53 0 = .ok (.iload_n 0, 1) := by decide +kernel
theorem dJ9_max_7cf53_1 : decode cJ9_max_7cf53 1 = .ok (.iload_n 1, 1) := by decide +kernel
theorem dJ9_max_7cf53_2 : decode cJ9_max_7cf53 2 = .ok (.if_icmp .lt 7, 3) := by decide +kernel
theorem dJ9_max_7cf53_5 : decode cJ9_max_7cf53 5 = .ok (.iload_n 0, 1) := by decide +kernel
theorem dJ9_max_7cf53_6 : decode cJ9_max_7cf53 6 = .ok (.goto 4, 3) := by decide +kernel
theorem dJ9_max_7cf53_9 : decode cJ9_max_7cf53 9 = .ok (.iload_n 1, 1) := by decide +kernel
theorem dJ9_max_7cf53_10 : decode cJ9_max_7cf53 10 = .ok (.ireturn, 1) := by decide +kernel
theorem dJ9_min_7cf53_0 : decode cJ9_min_7cf53 0 = .ok (.iload_n 0, 1) := by decide +kernel
theorem dJ9_min_7cf53_1 : decode cJ9_min_7cf53 1 = .ok (.iload_n 1, 1) := by decide +kernel
theorem dJ9_min_7cf53_2 : decode cJ9_min_7cf53 2 = .ok (.if_icmp .gt 7, 3) := by decide +kernel
theorem dJ9_min_7cf53_5 : decode cJ9_min_7cf53 5 = .ok (.iload_n 0, 1) := by decide +kernel
theorem dJ9_min_7cf53_6 : decode cJ9_min_7cf53 6 = .ok (.goto 4, 3) := by decide +kernel
theorem dJ9_min_7cf53_9 : decode cJ9_min_7cf53 9 = .ok (.iload_n 1, 1) := by decide +kernel
theorem dJ9_min_7cf53_10 : decode cJ9_min_7cf53 10 = .ok (.ireturn, 1) := by decide +kernel
theorem dJ9_min_f86c9_0 : decode cJ9_min_f86c9 0 = .ok (.lload_n 0, 1) := by decide +kernel
theorem dJ9_min_f86c9_1 : decode cJ9_min_f86c9 1 = .ok (.lload_n 2, 1) := by decide +kernel
theorem dJ9_min_f86c9_2 : decode cJ9_min_f86c9 2 = .ok (.lcmp, 1) := by decide +kernel
theorem dJ9_min_f86c9_3 : decode cJ9_min_f86c9 3 = .ok (.ifCond .gt 7, 3) := by decide +kernel
theorem dJ9_min_f86c9_6 : decode cJ9_min_f86c9 6 = .ok (.lload_n 0, 1) := by decide +kernel
theorem dJ9_min_f86c9_7 : decode cJ9_min_f86c9 7 = .ok (.goto 4, 3) := by decide +kernel
theorem dJ9_min_f86c9_10 : decode cJ9_min_f86c9 10 = .ok (.lload_n 2, 1) := by decide +kernel
theorem dJ9_min_f86c9_11 : decode cJ9_min_f86c9 11 = .ok (.lreturn, 1) := by decide +kernel
theorem dJ7_fill_53178_0 : decode cJ7_fill_53178 0 = .ok (.iconst 0, 1) := by decide +kernel
theorem dJ7_fill_53178_1 : decode cJ7_fill_53178 1 = .ok (.istore_n 2, 1) := by decide +kernel
theorem dJ7_fill_53178_2 : decode cJ7_fill_53178 2 = .ok (.aload_n 0, 1) := by decide +kernel
theorem dJ7_fill_53178_3 : decode cJ7_fill_53178 3 = .ok (.arraylength, 1) := by decide +kernel
theorem dJ7_fill_53178_4 : decode cJ7_fill_53178 4 = .ok (.istore_n 3, 1) := by decide +kernel
theorem dJ7_fill_53178_5 : decode cJ7_fill_53178 5 = .ok (.iload_n 2, 1) := by decide +kernel
theorem dJ7_fill_53178_6 : decode cJ7_fill_53178 6 = .ok (.iload_n 3, 1) := by decide +kernel
theorem dJ7_fill_53178_7 : decode cJ7_fill_53178 7 = .ok (.if_icmp .ge 13, 3) := by decide +kernel
theorem dJ7_fill_53178_10 : decode cJ7_fill_53178 10 = .ok (.aload_n 0, 1) := by decide +kernel
theorem dJ7_fill_53178_11 : decode cJ7_fill_53178 11 = .ok (.iload_n 2, 1) := by decide +kernel
theorem dJ7_fill_53178_12 : decode cJ7_fill_53178 12 = .ok (.iload_n 1, 1) := by decide +kernel
theorem dJ7_fill_53178_13 : decode cJ7_fill_53178 13 = .ok (.iastore, 1) := by decide +kernel
theorem dJ7_fill_53178_14 : decode cJ7_fill_53178 14 = .ok (.iinc 2 1, 3) := by decide +kernel
theorem dJ7_fill_53178_17 : decode cJ7_fill_53178 17 = .ok (.goto (-12), 3) := by decide +kernel
theorem dJ7_fill_53178_20 : decode cJ7_fill_53178 20 = .ok (.return_, 1) := by decide +kernel
theorem dL_law_0 : decode cL_law 0 = .ok (.new 7, 3) := by decide +kernel
theorem dL_law_3 : decode cL_law 3 = .ok (.dup, 1) := by decide +kernel
theorem dL_law_4 : decode cL_law 4 = .ok (.invokespecial 9, 3) := by decide +kernel
theorem dL_law_7 : decode cL_law 7 = .ok (.astore_n 1, 1) := by decide +kernel
theorem dL_law_8 : decode cL_law 8 = .ok (.new 10, 3) := by decide +kernel
theorem dL_law_11 : decode cL_law 11 = .ok (.dup, 1) := by decide +kernel
theorem dL_law_12 : decode cL_law 12 = .ok (.invokespecial 12, 3) := by decide +kernel
theorem dL_law_15 : decode cL_law 15 = .ok (.astore_n 2, 1) := by decide +kernel
theorem dL_law_16 : decode cL_law 16 = .ok (.iconst 0, 1) := by decide +kernel
theorem dL_law_17 : decode cL_law 17 = .ok (.istore_n 3, 1) := by decide +kernel
theorem dL_law_18 : decode cL_law 18 = .ok (.iload_n 3, 1) := by decide +kernel
theorem dL_law_19 : decode cL_law 19 = .ok (.aload_n 0, 1) := by decide +kernel
theorem dL_law_20 : decode cL_law 20 = .ok (.arraylength, 1) := by decide +kernel
theorem dL_law_21 : decode cL_law 21 = .ok (.bipush 6, 2) := by decide +kernel
theorem dL_law_23 : decode cL_law 23 = .ok (.isub, 1) := by decide +kernel
theorem dL_law_24 : decode cL_law 24 = .ok (.if_icmp .gt 885, 3) := by decide +kernel
theorem dL_law_27 : decode cL_law 27 = .ok (.aload_n 0, 1) := by decide +kernel
theorem dL_law_28 : decode cL_law 28 = .ok (.iload_n 3, 1) := by decide +kernel
theorem dL_law_29 : decode cL_law 29 = .ok (.iaload, 1) := by decide +kernel
theorem dL_law_30 : decode cL_law 30 = .ok (.bipush 31, 2) := by decide +kernel
theorem dL_law_32 : decode cL_law 32 = .ok (.iand, 1) := by decide +kernel
theorem dL_law_33 : decode cL_law 33 = .ok (.tableswitch 870 0 25 #[119, 152, 215, 248, 291, 324, 367, 380, 403, 436, 479, 513, 546, 570, 593, 616, 629, 663, 686, 719, 772, 785, 798, 811, 824, 847], 119) := by decide +kernel
theorem dL_law_152 : decode cL_law 152 = .ok (.aload_n 1, 1) := by decide +kernel
theorem dL_law_153 : decode cL_law 153 = .ok (.aload_n 0, 1) := by decide +kernel
theorem dL_law_154 : decode cL_law 154 = .ok (.iload_n 3, 1) := by decide +kernel
theorem dL_law_155 : decode cL_law 155 = .ok (.iconst 1, 1) := by decide +kernel
theorem dL_law_156 : decode cL_law 156 = .ok (.iadd, 1) := by decide +kernel
theorem dL_law_157 : decode cL_law 157 = .ok (.iaload, 1) := by decide +kernel
theorem dL_law_158 : decode cL_law 158 = .ok (.aload_n 0, 1) := by decide +kernel
theorem dL_law_159 : decode cL_law 159 = .ok (.iload_n 3, 1) := by decide +kernel
theorem dL_law_160 : decode cL_law 160 = .ok (.iconst 2, 1) := by decide +kernel
theorem dL_law_161 : decode cL_law 161 = .ok (.iadd, 1) := by decide +kernel
theorem dL_law_162 : decode cL_law 162 = .ok (.iaload, 1) := by decide +kernel
theorem dL_law_163 : decode cL_law 163 = .ok (.invokevirtual 13, 3) := by decide +kernel
theorem dL_law_166 : decode cL_law 166 = .ok (.aload_n 2, 1) := by decide +kernel
theorem dL_law_167 : decode cL_law 167 = .ok (.aload_n 0, 1) := by decide +kernel
theorem dL_law_168 : decode cL_law 168 = .ok (.iload_n 3, 1) := by decide +kernel
theorem dL_law_169 : decode cL_law 169 = .ok (.iconst 1, 1) := by decide +kernel
theorem dL_law_170 : decode cL_law 170 = .ok (.iadd, 1) := by decide +kernel
theorem dL_law_171 : decode cL_law 171 = .ok (.iaload, 1) := by decide +kernel
theorem dL_law_172 : decode cL_law 172 = .ok (.aload_n 0, 1) := by decide +kernel
theorem dL_law_173 : decode cL_law 173 = .ok (.iload_n 3, 1) := by decide +kernel
theorem dL_law_174 : decode cL_law 174 = .ok (.iconst 2, 1) := by decide +kernel
theorem dL_law_175 : decode cL_law 175 = .ok (.iadd, 1) := by decide +kernel
theorem dL_law_176 : decode cL_law 176 = .ok (.iaload, 1) := by decide +kernel
theorem dL_law_177 : decode cL_law 177 = .ok (.invokevirtual 17, 3) := by decide +kernel
theorem dL_law_180 : decode cL_law 180 = .ok (.if_icmp .eq 723, 3) := by decide +kernel
theorem dL_law_183 : decode cL_law 183 = .ok (.iconst 0, 1) := by decide +kernel
theorem dL_law_184 : decode cL_law 184 = .ok (.ireturn, 1) := by decide +kernel
theorem dL_law_185 : decode cL_law 185 = .ok (.aload_n 1, 1) := by decide +kernel
theorem dL_law_186 : decode cL_law 186 = .ok (.aload_n 0, 1) := by decide +kernel
theorem dL_law_187 : decode cL_law 187 = .ok (.iload_n 3, 1) := by decide +kernel
theorem dL_law_188 : decode cL_law 188 = .ok (.iconst 1, 1) := by decide +kernel
theorem dL_law_189 : decode cL_law 189 = .ok (.iadd, 1) := by decide +kernel
theorem dL_law_190 : decode cL_law 190 = .ok (.iaload, 1) := by decide +kernel
theorem dL_law_191 : decode cL_law 191 = .ok (.aload_n 0, 1) := by decide +kernel
theorem dL_law_192 : decode cL_law 192 = .ok (.iload_n 3, 1) := by decide +kernel
theorem dL_law_193 : decode cL_law 193 = .ok (.iconst 2, 1) := by decide +kernel
theorem dL_law_194 : decode cL_law 194 = .ok (.iadd, 1) := by decide +kernel
theorem dL_law_195 : decode cL_law 195 = .ok (.iaload, 1) := by decide +kernel
theorem dL_law_196 : decode cL_law 196 = .ok (.aload_n 0, 1) := by decide +kernel
theorem dL_law_197 : decode cL_law 197 = .ok (.iload_n 3, 1) := by decide +kernel
theorem dL_law_198 : decode cL_law 198 = .ok (.iconst 3, 1) := by decide +kernel
theorem dL_law_199 : decode cL_law 199 = .ok (.iadd, 1) := by decide +kernel
theorem dL_law_200 : decode cL_law 200 = .ok (.iaload, 1) := by decide +kernel
theorem dL_law_201 : decode cL_law 201 = .ok (.aload_n 0, 1) := by decide +kernel
theorem dL_law_202 : decode cL_law 202 = .ok (.iload_n 3, 1) := by decide +kernel
theorem dL_law_203 : decode cL_law 203 = .ok (.iconst 4, 1) := by decide +kernel
theorem dL_law_204 : decode cL_law 204 = .ok (.iadd, 1) := by decide +kernel
theorem dL_law_205 : decode cL_law 205 = .ok (.iaload, 1) := by decide +kernel
theorem dL_law_206 : decode cL_law 206 = .ok (.aload_n 0, 1) := by decide +kernel
theorem dL_law_207 : decode cL_law 207 = .ok (.iload_n 3, 1) := by decide +kernel
theorem dL_law_208 : decode cL_law 208 = .ok (.iconst 5, 1) := by decide +kernel
theorem dL_law_209 : decode cL_law 209 = .ok (.iadd, 1) := by decide +kernel
theorem dL_law_210 : decode cL_law 210 = .ok (.iaload, 1) := by decide +kernel
theorem dL_law_211 : decode cL_law 211 = .ok (.invokevirtual 18, 3) := by decide +kernel
theorem dL_law_214 : decode cL_law 214 = .ok (.aload_n 2, 1) := by decide +kernel
theorem dL_law_215 : decode cL_law 215 = .ok (.aload_n 0, 1) := by decide +kernel
theorem dL_law_216 : decode cL_law 216 = .ok (.iload_n 3, 1) := by decide +kernel
theorem dL_law_217 : decode cL_law 217 = .ok (.iconst 1, 1) := by decide +kernel
theorem dL_law_218 : decode cL_law 218 = .ok (.iadd, 1) := by decide +kernel
theorem dL_law_219 : decode cL_law 219 = .ok (.iaload, 1) := by decide +kernel
theorem dL_law_220 : decode cL_law 220 = .ok (.aload_n 0, 1) := by decide +kernel
theorem dL_law_221 : decode cL_law 221 = .ok (.iload_n 3, 1) := by decide +kernel
theorem dL_law_222 : decode cL_law 222 = .ok (.iconst 2, 1) := by decide +kernel
theorem dL_law_223 : decode cL_law 223 = .ok (.iadd, 1) := by decide +kernel
theorem dL_law_224 : decode cL_law 224 = .ok (.iaload, 1) := by decide +kernel
theorem dL_law_225 : decode cL_law 225 = .ok (.aload_n 0, 1) := by decide +kernel
theorem dL_law_226 : decode cL_law 226 = .ok (.iload_n 3, 1) := by decide +kernel
theorem dL_law_227 : decode cL_law 227 = .ok (.iconst 3, 1) := by decide +kernel
theorem dL_law_228 : decode cL_law 228 = .ok (.iadd, 1) := by decide +kernel
theorem dL_law_229 : decode cL_law 229 = .ok (.iaload, 1) := by decide +kernel
theorem dL_law_230 : decode cL_law 230 = .ok (.aload_n 0, 1) := by decide +kernel
theorem dL_law_231 : decode cL_law 231 = .ok (.iload_n 3, 1) := by decide +kernel
theorem dL_law_232 : decode cL_law 232 = .ok (.iconst 4, 1) := by decide +kernel
theorem dL_law_233 : decode cL_law 233 = .ok (.iadd, 1) := by decide +kernel
theorem dL_law_234 : decode cL_law 234 = .ok (.iaload, 1) := by decide +kernel
theorem dL_law_235 : decode cL_law 235 = .ok (.aload_n 0, 1) := by decide +kernel
theorem dL_law_236 : decode cL_law 236 = .ok (.iload_n 3, 1) := by decide +kernel
theorem dL_law_237 : decode cL_law 237 = .ok (.iconst 5, 1) := by decide +kernel
theorem dL_law_238 : decode cL_law 238 = .ok (.iadd, 1) := by decide +kernel
theorem dL_law_239 : decode cL_law 239 = .ok (.iaload, 1) := by decide +kernel
theorem dL_law_240 : decode cL_law 240 = .ok (.invokevirtual 22, 3) := by decide +kernel
theorem dL_law_243 : decode cL_law 243 = .ok (.if_icmp .eq 660, 3) := by decide +kernel
theorem dL_law_246 : decode cL_law 246 = .ok (.iconst 0, 1) := by decide +kernel
theorem dL_law_247 : decode cL_law 247 = .ok (.ireturn, 1) := by decide +kernel
theorem dL_law_248 : decode cL_law 248 = .ok (.aload_n 1, 1) := by decide +kernel
theorem dL_law_249 : decode cL_law 249 = .ok (.aload_n 0, 1) := by decide +kernel
theorem dL_law_250 : decode cL_law 250 = .ok (.iload_n 3, 1) := by decide +kernel
theorem dL_law_251 : decode cL_law 251 = .ok (.iconst 1, 1) := by decide +kernel
theorem dL_law_252 : decode cL_law 252 = .ok (.iadd, 1) := by decide +kernel
theorem dL_law_253 : decode cL_law 253 = .ok (.iaload, 1) := by decide +kernel
theorem dL_law_254 : decode cL_law 254 = .ok (.aload_n 0, 1) := by decide +kernel
theorem dL_law_255 : decode cL_law 255 = .ok (.iload_n 3, 1) := by decide +kernel
theorem dL_law_256 : decode cL_law 256 = .ok (.iconst 2, 1) := by decide +kernel
theorem dL_law_257 : decode cL_law 257 = .ok (.iadd, 1) := by decide +kernel
theorem dL_law_258 : decode cL_law 258 = .ok (.iaload, 1) := by decide +kernel
theorem dL_law_259 : decode cL_law 259 = .ok (.invokevirtual 23, 3) := by decide +kernel
theorem dL_law_262 : decode cL_law 262 = .ok (.aload_n 2, 1) := by decide +kernel
theorem dL_law_263 : decode cL_law 263 = .ok (.aload_n 0, 1) := by decide +kernel
theorem dL_law_264 : decode cL_law 264 = .ok (.iload_n 3, 1) := by decide +kernel
theorem dL_law_265 : decode cL_law 265 = .ok (.iconst 1, 1) := by decide +kernel
theorem dL_law_266 : decode cL_law 266 = .ok (.iadd, 1) := by decide +kernel
theorem dL_law_267 : decode cL_law 267 = .ok (.iaload, 1) := by decide +kernel
theorem dL_law_268 : decode cL_law 268 = .ok (.aload_n 0, 1) := by decide +kernel
theorem dL_law_269 : decode cL_law 269 = .ok (.iload_n 3, 1) := by decide +kernel
theorem dL_law_270 : decode cL_law 270 = .ok (.iconst 2, 1) := by decide +kernel
theorem dL_law_271 : decode cL_law 271 = .ok (.iadd, 1) := by decide +kernel
theorem dL_law_272 : decode cL_law 272 = .ok (.iaload, 1) := by decide +kernel
theorem dL_law_273 : decode cL_law 273 = .ok (.invokevirtual 26, 3) := by decide +kernel
theorem dL_law_276 : decode cL_law 276 = .ok (.if_icmp .eq 627, 3) := by decide +kernel
theorem dL_law_279 : decode cL_law 279 = .ok (.iconst 0, 1) := by decide +kernel
theorem dL_law_280 : decode cL_law 280 = .ok (.ireturn, 1) := by decide +kernel
theorem dL_law_281 : decode cL_law 281 = .ok (.aload_n 1, 1) := by decide +kernel
theorem dL_law_282 : decode cL_law 282 = .ok (.aload_n 0, 1) := by decide +kernel
theorem dL_law_283 : decode cL_law 283 = .ok (.iload_n 3, 1) := by decide +kernel
theorem dL_law_284 : decode cL_law 284 = .ok (.iconst 1, 1) := by decide +kernel
theorem dL_law_285 : decode cL_law 285 = .ok (.iadd, 1) := by decide +kernel
theorem dL_law_286 : decode cL_law 286 = .ok (.iaload, 1) := by decide +kernel
theorem dL_law_287 : decode cL_law 287 = .ok (.aload_n 0, 1) := by decide +kernel
theorem dL_law_288 : decode cL_law 288 = .ok (.iload_n 3, 1) := by decide +kernel
theorem dL_law_289 : decode cL_law 289 = .ok (.iconst 2, 1) := by decide +kernel
theorem dL_law_290 : decode cL_law 290 = .ok (.iadd, 1) := by decide +kernel
theorem dL_law_291 : decode cL_law 291 = .ok (.iaload, 1) := by decide +kernel
theorem dL_law_292 : decode cL_law 292 = .ok (.aload_n 0, 1) := by decide +kernel
theorem dL_law_293 : decode cL_law 293 = .ok (.iload_n 3, 1) := by decide +kernel
theorem dL_law_294 : decode cL_law 294 = .ok (.iconst 3, 1) := by decide +kernel
theorem dL_law_295 : decode cL_law 295 = .ok (.iadd, 1) := by decide +kernel
theorem dL_law_296 : decode cL_law 296 = .ok (.iaload, 1) := by decide +kernel
theorem dL_law_297 : decode cL_law 297 = .ok (.invokevirtual 27, 3) := by decide +kernel
theorem dL_law_300 : decode cL_law 300 = .ok (.aload_n 2, 1) := by decide +kernel
theorem dL_law_301 : decode cL_law 301 = .ok (.aload_n 0, 1) := by decide +kernel
theorem dL_law_302 : decode cL_law 302 = .ok (.iload_n 3, 1) := by decide +kernel
theorem dL_law_303 : decode cL_law 303 = .ok (.iconst 1, 1) := by decide +kernel
theorem dL_law_304 : decode cL_law 304 = .ok (.iadd, 1) := by decide +kernel
theorem dL_law_305 : decode cL_law 305 = .ok (.iaload, 1) := by decide +kernel
theorem dL_law_306 : decode cL_law 306 = .ok (.aload_n 0, 1) := by decide +kernel
theorem dL_law_307 : decode cL_law 307 = .ok (.iload_n 3, 1) := by decide +kernel
theorem dL_law_308 : decode cL_law 308 = .ok (.iconst 2, 1) := by decide +kernel
theorem dL_law_309 : decode cL_law 309 = .ok (.iadd, 1) := by decide +kernel
theorem dL_law_310 : decode cL_law 310 = .ok (.iaload, 1) := by decide +kernel
theorem dL_law_311 : decode cL_law 311 = .ok (.aload_n 0, 1) := by decide +kernel
theorem dL_law_312 : decode cL_law 312 = .ok (.iload_n 3, 1) := by decide +kernel
theorem dL_law_313 : decode cL_law 313 = .ok (.iconst 3, 1) := by decide +kernel
theorem dL_law_314 : decode cL_law 314 = .ok (.iadd, 1) := by decide +kernel
theorem dL_law_315 : decode cL_law 315 = .ok (.iaload, 1) := by decide +kernel
theorem dL_law_316 : decode cL_law 316 = .ok (.invokevirtual 31, 3) := by decide +kernel
theorem dL_law_319 : decode cL_law 319 = .ok (.if_icmp .eq 584, 3) := by decide +kernel
theorem dL_law_322 : decode cL_law 322 = .ok (.iconst 0, 1) := by decide +kernel
theorem dL_law_323 : decode cL_law 323 = .ok (.ireturn, 1) := by decide +kernel
theorem dL_law_324 : decode cL_law 324 = .ok (.aload_n 1, 1) := by decide +kernel
theorem dL_law_325 : decode cL_law 325 = .ok (.aload_n 0, 1) := by decide +kernel
theorem dL_law_326 : decode cL_law 326 = .ok (.iload_n 3, 1) := by decide +kernel
theorem dL_law_327 : decode cL_law 327 = .ok (.iconst 1, 1) := by decide +kernel
theorem dL_law_328 : decode cL_law 328 = .ok (.iadd, 1) := by decide +kernel
theorem dL_law_329 : decode cL_law 329 = .ok (.iaload, 1) := by decide +kernel
theorem dL_law_330 : decode cL_law 330 = .ok (.aload_n 0, 1) := by decide +kernel
theorem dL_law_331 : decode cL_law 331 = .ok (.iload_n 3, 1) := by decide +kernel
theorem dL_law_332 : decode cL_law 332 = .ok (.iconst 2, 1) := by decide +kernel
theorem dL_law_333 : decode cL_law 333 = .ok (.iadd, 1) := by decide +kernel
theorem dL_law_334 : decode cL_law 334 = .ok (.iaload, 1) := by decide +kernel
theorem dL_law_335 : decode cL_law 335 = .ok (.invokevirtual 32, 3) := by decide +kernel
theorem dL_law_338 : decode cL_law 338 = .ok (.aload_n 2, 1) := by decide +kernel
theorem dL_law_339 : decode cL_law 339 = .ok (.aload_n 0, 1) := by decide +kernel
theorem dL_law_340 : decode cL_law 340 = .ok (.iload_n 3, 1) := by decide +kernel
theorem dL_law_341 : decode cL_law 341 = .ok (.iconst 1, 1) := by decide +kernel
theorem dL_law_342 : decode cL_law 342 = .ok (.iadd, 1) := by decide +kernel
theorem dL_law_343 : decode cL_law 343 = .ok (.iaload, 1) := by decide +kernel
theorem dL_law_344 : decode cL_law 344 = .ok (.aload_n 0, 1) := by decide +kernel
theorem dL_law_345 : decode cL_law 345 = .ok (.iload_n 3, 1) := by decide +kernel
theorem dL_law_346 : decode cL_law 346 = .ok (.iconst 2, 1) := by decide +kernel
theorem dL_law_347 : decode cL_law 347 = .ok (.iadd, 1) := by decide +kernel
theorem dL_law_348 : decode cL_law 348 = .ok (.iaload, 1) := by decide +kernel
theorem dL_law_349 : decode cL_law 349 = .ok (.invokevirtual 35, 3) := by decide +kernel
theorem dL_law_352 : decode cL_law 352 = .ok (.if_icmp .eq 551, 3) := by decide +kernel
theorem dL_law_355 : decode cL_law 355 = .ok (.iconst 0, 1) := by decide +kernel
theorem dL_law_356 : decode cL_law 356 = .ok (.ireturn, 1) := by decide +kernel
theorem dL_law_357 : decode cL_law 357 = .ok (.aload_n 1, 1) := by decide +kernel
theorem dL_law_358 : decode cL_law 358 = .ok (.aload_n 0, 1) := by decide +kernel
theorem dL_law_359 : decode cL_law 359 = .ok (.iload_n 3, 1) := by decide +kernel
theorem dL_law_360 : decode cL_law 360 = .ok (.iconst 1, 1) := by decide +kernel
theorem dL_law_361 : decode cL_law 361 = .ok (.iadd, 1) := by decide +kernel
theorem dL_law_362 : decode cL_law 362 = .ok (.iaload, 1) := by decide +kernel
theorem dL_law_363 : decode cL_law 363 = .ok (.aload_n 0, 1) := by decide +kernel
theorem dL_law_364 : decode cL_law 364 = .ok (.iload_n 3, 1) := by decide +kernel
theorem dL_law_365 : decode cL_law 365 = .ok (.iconst 2, 1) := by decide +kernel
theorem dL_law_366 : decode cL_law 366 = .ok (.iadd, 1) := by decide +kernel
theorem dL_law_367 : decode cL_law 367 = .ok (.iaload, 1) := by decide +kernel
theorem dL_law_368 : decode cL_law 368 = .ok (.aload_n 0, 1) := by decide +kernel
theorem dL_law_369 : decode cL_law 369 = .ok (.iload_n 3, 1) := by decide +kernel
theorem dL_law_370 : decode cL_law 370 = .ok (.iconst 3, 1) := by decide +kernel
theorem dL_law_371 : decode cL_law 371 = .ok (.iadd, 1) := by decide +kernel
theorem dL_law_372 : decode cL_law 372 = .ok (.iaload, 1) := by decide +kernel
theorem dL_law_373 : decode cL_law 373 = .ok (.invokevirtual 36, 3) := by decide +kernel
theorem dL_law_376 : decode cL_law 376 = .ok (.aload_n 2, 1) := by decide +kernel
theorem dL_law_377 : decode cL_law 377 = .ok (.aload_n 0, 1) := by decide +kernel
theorem dL_law_378 : decode cL_law 378 = .ok (.iload_n 3, 1) := by decide +kernel
theorem dL_law_379 : decode cL_law 379 = .ok (.iconst 1, 1) := by decide +kernel
theorem dL_law_380 : decode cL_law 380 = .ok (.iadd, 1) := by decide +kernel
theorem dL_law_381 : decode cL_law 381 = .ok (.iaload, 1) := by decide +kernel
theorem dL_law_382 : decode cL_law 382 = .ok (.aload_n 0, 1) := by decide +kernel
theorem dL_law_383 : decode cL_law 383 = .ok (.iload_n 3, 1) := by decide +kernel
theorem dL_law_384 : decode cL_law 384 = .ok (.iconst 2, 1) := by decide +kernel
theorem dL_law_385 : decode cL_law 385 = .ok (.iadd, 1) := by decide +kernel
theorem dL_law_386 : decode cL_law 386 = .ok (.iaload, 1) := by decide +kernel
theorem dL_law_387 : decode cL_law 387 = .ok (.aload_n 0, 1) := by decide +kernel
theorem dL_law_388 : decode cL_law 388 = .ok (.iload_n 3, 1) := by decide +kernel
theorem dL_law_389 : decode cL_law 389 = .ok (.iconst 3, 1) := by decide +kernel
theorem dL_law_390 : decode cL_law 390 = .ok (.iadd, 1) := by decide +kernel
theorem dL_law_391 : decode cL_law 391 = .ok (.iaload, 1) := by decide +kernel
theorem dL_law_392 : decode cL_law 392 = .ok (.invokevirtual 39, 3) := by decide +kernel
theorem dL_law_395 : decode cL_law 395 = .ok (.if_icmp .eq 508, 3) := by decide +kernel
theorem dL_law_398 : decode cL_law 398 = .ok (.iconst 0, 1) := by decide +kernel
theorem dL_law_399 : decode cL_law 399 = .ok (.ireturn, 1) := by decide +kernel
theorem dL_law_400 : decode cL_law 400 = .ok (.aload_n 1, 1) := by decide +kernel
theorem dL_law_401 : decode cL_law 401 = .ok (.invokevirtual 40, 3) := by decide +kernel
theorem dL_law_404 : decode cL_law 404 = .ok (.aload_n 2, 1) := by decide +kernel
theorem dL_law_405 : decode cL_law 405 = .ok (.invokevirtual 44, 3) := by decide +kernel
theorem dL_law_408 : decode cL_law 408 = .ok (.if_icmp .eq 495, 3) := by decide +kernel
theorem dL_law_411 : decode cL_law 411 = .ok (.iconst 0, 1) := by decide +kernel
theorem dL_law_412 : decode cL_law 412 = .ok (.ireturn, 1) := by decide +kernel
theorem dL_law_413 : decode cL_law 413 = .ok (.aload_n 1, 1) := by decide +kernel
theorem dL_law_414 : decode cL_law 414 = .ok (.aload_n 0, 1) := by decide +kernel
theorem dL_law_415 : decode cL_law 415 = .ok (.iload_n 3, 1) := by decide +kernel
theorem dL_law_416 : decode cL_law 416 = .ok (.iconst 1, 1) := by decide +kernel
theorem dL_law_417 : decode cL_law 417 = .ok (.iadd, 1) := by decide +kernel
theorem dL_law_418 : decode cL_law 418 = .ok (.iaload, 1) := by decide +kernel
theorem dL_law_419 : decode cL_law 419 = .ok (.invokevirtual 45, 3) := by decide +kernel
theorem dL_law_422 : decode cL_law 422 = .ok (.aload_n 2, 1) := by decide +kernel
theorem dL_law_423 : decode cL_law 423 = .ok (.aload_n 0, 1) := by decide +kernel
theorem dL_law_424 : decode cL_law 424 = .ok (.iload_n 3, 1) := by decide +kernel
theorem dL_law_425 : decode cL_law 425 = .ok (.iconst 1, 1) := by decide +kernel
theorem dL_law_426 : decode cL_law 426 = .ok (.iadd, 1) := by decide +kernel
theorem dL_law_427 : decode cL_law 427 = .ok (.iaload, 1) := by decide +kernel
theorem dL_law_428 : decode cL_law 428 = .ok (.invokevirtual 49, 3) := by decide +kernel
theorem dL_law_431 : decode cL_law 431 = .ok (.if_icmp .eq 472, 3) := by decide +kernel
theorem dL_law_434 : decode cL_law 434 = .ok (.iconst 0, 1) := by decide +kernel
theorem dL_law_435 : decode cL_law 435 = .ok (.ireturn, 1) := by decide +kernel
theorem dL_law_436 : decode cL_law 436 = .ok (.aload_n 1, 1) := by decide +kernel
theorem dL_law_437 : decode cL_law 437 = .ok (.aload_n 0, 1) := by decide +kernel
theorem dL_law_438 : decode cL_law 438 = .ok (.iload_n 3, 1) := by decide +kernel
theorem dL_law_439 : decode cL_law 439 = .ok (.iconst 1, 1) := by decide +kernel
theorem dL_law_440 : decode cL_law 440 = .ok (.iadd, 1) := by decide +kernel
theorem dL_law_441 : decode cL_law 441 = .ok (.iaload, 1) := by decide +kernel
theorem dL_law_442 : decode cL_law 442 = .ok (.aload_n 0, 1) := by decide +kernel
theorem dL_law_443 : decode cL_law 443 = .ok (.iload_n 3, 1) := by decide +kernel
theorem dL_law_444 : decode cL_law 444 = .ok (.iconst 2, 1) := by decide +kernel
theorem dL_law_445 : decode cL_law 445 = .ok (.iadd, 1) := by decide +kernel
theorem dL_law_446 : decode cL_law 446 = .ok (.iaload, 1) := by decide +kernel
theorem dL_law_447 : decode cL_law 447 = .ok (.invokevirtual 50, 3) := by decide +kernel
theorem dL_law_450 : decode cL_law 450 = .ok (.aload_n 2, 1) := by decide +kernel
theorem dL_law_451 : decode cL_law 451 = .ok (.aload_n 0, 1) := by decide +kernel
theorem dL_law_452 : decode cL_law 452 = .ok (.iload_n 3, 1) := by decide +kernel
theorem dL_law_453 : decode cL_law 453 = .ok (.iconst 1, 1) := by decide +kernel
theorem dL_law_454 : decode cL_law 454 = .ok (.iadd, 1) := by decide +kernel
theorem dL_law_455 : decode cL_law 455 = .ok (.iaload, 1) := by decide +kernel
theorem dL_law_456 : decode cL_law 456 = .ok (.aload_n 0, 1) := by decide +kernel
theorem dL_law_457 : decode cL_law 457 = .ok (.iload_n 3, 1) := by decide +kernel
theorem dL_law_458 : decode cL_law 458 = .ok (.iconst 2, 1) := by decide +kernel
theorem dL_law_459 : decode cL_law 459 = .ok (.iadd, 1) := by decide +kernel
theorem dL_law_460 : decode cL_law 460 = .ok (.iaload, 1) := by decide +kernel
theorem dL_law_461 : decode cL_law 461 = .ok (.invokevirtual 53, 3) := by decide +kernel
theorem dL_law_464 : decode cL_law 464 = .ok (.if_icmp .eq 439, 3) := by decide +kernel
theorem dL_law_467 : decode cL_law 467 = .ok (.iconst 0, 1) := by decide +kernel
theorem dL_law_468 : decode cL_law 468 = .ok (.ireturn, 1) := by decide +kernel
theorem dL_law_469 : decode cL_law 469 = .ok (.aload_n 1, 1) := by decide +kernel
theorem dL_law_470 : decode cL_law 470 = .ok (.aload_n 0, 1) := by decide +kernel
theorem dL_law_471 : decode cL_law 471 = .ok (.iload_n 3, 1) := by decide +kernel
theorem dL_law_472 : decode cL_law 472 = .ok (.iconst 1, 1) := by decide +kernel
theorem dL_law_473 : decode cL_law 473 = .ok (.iadd, 1) := by decide +kernel
theorem dL_law_474 : decode cL_law 474 = .ok (.iaload, 1) := by decide +kernel
theorem dL_law_475 : decode cL_law 475 = .ok (.aload_n 0, 1) := by decide +kernel
theorem dL_law_476 : decode cL_law 476 = .ok (.iload_n 3, 1) := by decide +kernel
theorem dL_law_477 : decode cL_law 477 = .ok (.iconst 2, 1) := by decide +kernel
theorem dL_law_478 : decode cL_law 478 = .ok (.iadd, 1) := by decide +kernel
theorem dL_law_479 : decode cL_law 479 = .ok (.iaload, 1) := by decide +kernel
theorem dL_law_480 : decode cL_law 480 = .ok (.aload_n 0, 1) := by decide +kernel
theorem dL_law_481 : decode cL_law 481 = .ok (.iload_n 3, 1) := by decide +kernel
theorem dL_law_482 : decode cL_law 482 = .ok (.iconst 3, 1) := by decide +kernel
theorem dL_law_483 : decode cL_law 483 = .ok (.iadd, 1) := by decide +kernel
theorem dL_law_484 : decode cL_law 484 = .ok (.iaload, 1) := by decide +kernel
theorem dL_law_485 : decode cL_law 485 = .ok (.invokevirtual 54, 3) := by decide +kernel
theorem dL_law_488 : decode cL_law 488 = .ok (.aload_n 2, 1) := by decide +kernel
theorem dL_law_489 : decode cL_law 489 = .ok (.aload_n 0, 1) := by decide +kernel
theorem dL_law_490 : decode cL_law 490 = .ok (.iload_n 3, 1) := by decide +kernel
theorem dL_law_491 : decode cL_law 491 = .ok (.iconst 1, 1) := by decide +kernel
theorem dL_law_492 : decode cL_law 492 = .ok (.iadd, 1) := by decide +kernel
theorem dL_law_493 : decode cL_law 493 = .ok (.iaload, 1) := by decide +kernel
theorem dL_law_494 : decode cL_law 494 = .ok (.aload_n 0, 1) := by decide +kernel
theorem dL_law_495 : decode cL_law 495 = .ok (.iload_n 3, 1) := by decide +kernel
theorem dL_law_496 : decode cL_law 496 = .ok (.iconst 2, 1) := by decide +kernel
theorem dL_law_497 : decode cL_law 497 = .ok (.iadd, 1) := by decide +kernel
theorem dL_law_498 : decode cL_law 498 = .ok (.iaload, 1) := by decide +kernel
theorem dL_law_499 : decode cL_law 499 = .ok (.aload_n 0, 1) := by decide +kernel
theorem dL_law_500 : decode cL_law 500 = .ok (.iload_n 3, 1) := by decide +kernel
theorem dL_law_501 : decode cL_law 501 = .ok (.iconst 3, 1) := by decide +kernel
theorem dL_law_502 : decode cL_law 502 = .ok (.iadd, 1) := by decide +kernel
theorem dL_law_503 : decode cL_law 503 = .ok (.iaload, 1) := by decide +kernel
theorem dL_law_504 : decode cL_law 504 = .ok (.invokevirtual 57, 3) := by decide +kernel
theorem dL_law_507 : decode cL_law 507 = .ok (.if_icmp .eq 396, 3) := by decide +kernel
theorem dL_law_510 : decode cL_law 510 = .ok (.iconst 0, 1) := by decide +kernel
theorem dL_law_511 : decode cL_law 511 = .ok (.ireturn, 1) := by decide +kernel
theorem dL_law_512 : decode cL_law 512 = .ok (.aload_n 1, 1) := by decide +kernel
theorem dL_law_513 : decode cL_law 513 = .ok (.aload_n 0, 1) := by decide +kernel
theorem dL_law_514 : decode cL_law 514 = .ok (.iload_n 3, 1) := by decide +kernel
theorem dL_law_515 : decode cL_law 515 = .ok (.iconst 1, 1) := by decide +kernel
theorem dL_law_516 : decode cL_law 516 = .ok (.iadd, 1) := by decide +kernel
theorem dL_law_517 : decode cL_law 517 = .ok (.iaload, 1) := by decide +kernel
theorem dL_law_518 : decode cL_law 518 = .ok (.aload_n 0, 1) := by decide +kernel
theorem dL_law_519 : decode cL_law 519 = .ok (.iload_n 3, 1) := by decide +kernel
theorem dL_law_520 : decode cL_law 520 = .ok (.iconst 2, 1) := by decide +kernel
theorem dL_law_521 : decode cL_law 521 = .ok (.iadd, 1) := by decide +kernel
theorem dL_law_522 : decode cL_law 522 = .ok (.iaload, 1) := by decide +kernel
theorem dL_law_523 : decode cL_law 523 = .ok (.invokevirtual 58, 3) := by decide +kernel
theorem dL_law_526 : decode cL_law 526 = .ok (.aload_n 2, 1) := by decide +kernel
theorem dL_law_527 : decode cL_law 527 = .ok (.aload_n 0, 1) := by decide +kernel
theorem dL_law_528 : decode cL_law 528 = .ok (.iload_n 3, 1) := by decide +kernel
theorem dL_law_529 : decode cL_law 529 = .ok (.iconst 1, 1) := by decide +kernel
theorem dL_law_530 : decode cL_law 530 = .ok (.iadd, 1) := by decide +kernel
theorem dL_law_531 : decode cL_law 531 = .ok (.iaload, 1) := by decide +kernel
theorem dL_law_532 : decode cL_law 532 = .ok (.aload_n 0, 1) := by decide +kernel
theorem dL_law_533 : decode cL_law 533 = .ok (.iload_n 3, 1) := by decide +kernel
theorem dL_law_534 : decode cL_law 534 = .ok (.iconst 2, 1) := by decide +kernel
theorem dL_law_535 : decode cL_law 535 = .ok (.iadd, 1) := by decide +kernel
theorem dL_law_536 : decode cL_law 536 = .ok (.iaload, 1) := by decide +kernel
theorem dL_law_537 : decode cL_law 537 = .ok (.invokevirtual 62, 3) := by decide +kernel
theorem dL_law_540 : decode cL_law 540 = .ok (.lcmp, 1) := by decide +kernel
theorem dL_law_541 : decode cL_law 541 = .ok (.ifCond .eq 362, 3) := by decide +kernel
theorem dL_law_544 : decode cL_law 544 = .ok (.iconst 0, 1) := by decide +kernel
theorem dL_law_545 : decode cL_law 545 = .ok (.ireturn, 1) := by decide +kernel
theorem dL_law_546 : decode cL_law 546 = .ok (.aload_n 1, 1) := by decide +kernel
theorem dL_law_547 : decode cL_law 547 = .ok (.aload_n 0, 1) := by decide +kernel
theorem dL_law_548 : decode cL_law 548 = .ok (.iload_n 3, 1) := by decide +kernel
theorem dL_law_549 : decode cL_law 549 = .ok (.iconst 1, 1) := by decide +kernel
theorem dL_law_550 : decode cL_law 550 = .ok (.iadd, 1) := by decide +kernel
theorem dL_law_551 : decode cL_law 551 = .ok (.iaload, 1) := by decide +kernel
theorem dL_law_552 : decode cL_law 552 = .ok (.aload_n 0, 1) := by decide +kernel
theorem dL_law_553 : decode cL_law 553 = .ok (.iload_n 3, 1) := by decide +kernel
theorem dL_law_554 : decode cL_law 554 = .ok (.iconst 2, 1) := by decide +kernel
theorem dL_law_555 : decode cL_law 555 = .ok (.iadd, 1) := by decide +kernel
theorem dL_law_556 : decode cL_law 556 = .ok (.iaload, 1) := by decide +kernel
theorem dL_law_557 : decode cL_law 557 = .ok (.invokevirtual 63, 3) := by decide +kernel
theorem dL_law_560 : decode cL_law 560 = .ok (.aload_n 2, 1) := by decide +kernel
theorem dL_law_561 : decode cL_law 561 = .ok (.aload_n 0, 1) := by decide +kernel
theorem dL_law_562 : decode cL_law 562 = .ok (.iload_n 3, 1) := by decide +kernel
theorem dL_law_563 : decode cL_law 563 = .ok (.iconst 1, 1) := by decide +kernel
theorem dL_law_564 : decode cL_law 564 = .ok (.iadd, 1) := by decide +kernel
theorem dL_law_565 : decode cL_law 565 = .ok (.iaload, 1) := by decide +kernel
theorem dL_law_566 : decode cL_law 566 = .ok (.aload_n 0, 1) := by decide +kernel
theorem dL_law_567 : decode cL_law 567 = .ok (.iload_n 3, 1) := by decide +kernel
theorem dL_law_568 : decode cL_law 568 = .ok (.iconst 2, 1) := by decide +kernel
theorem dL_law_569 : decode cL_law 569 = .ok (.iadd, 1) := by decide +kernel
theorem dL_law_570 : decode cL_law 570 = .ok (.iaload, 1) := by decide +kernel
theorem dL_law_571 : decode cL_law 571 = .ok (.invokevirtual 66, 3) := by decide +kernel
theorem dL_law_574 : decode cL_law 574 = .ok (.if_icmp .eq 329, 3) := by decide +kernel
theorem dL_law_577 : decode cL_law 577 = .ok (.iconst 0, 1) := by decide +kernel
theorem dL_law_578 : decode cL_law 578 = .ok (.ireturn, 1) := by decide +kernel
theorem dL_law_579 : decode cL_law 579 = .ok (.aload_n 1, 1) := by decide +kernel
theorem dL_law_580 : decode cL_law 580 = .ok (.aload_n 0, 1) := by decide +kernel
theorem dL_law_581 : decode cL_law 581 = .ok (.iload_n 3, 1) := by decide +kernel
theorem dL_law_582 : decode cL_law 582 = .ok (.iconst 1, 1) := by decide +kernel
theorem dL_law_583 : decode cL_law 583 = .ok (.iadd, 1) := by decide +kernel
theorem dL_law_584 : decode cL_law 584 = .ok (.iaload, 1) := by decide +kernel
theorem dL_law_585 : decode cL_law 585 = .ok (.invokevirtual 67, 3) := by decide +kernel
theorem dL_law_588 : decode cL_law 588 = .ok (.aload_n 2, 1) := by decide +kernel
theorem dL_law_589 : decode cL_law 589 = .ok (.aload_n 0, 1) := by decide +kernel
theorem dL_law_590 : decode cL_law 590 = .ok (.iload_n 3, 1) := by decide +kernel
theorem dL_law_591 : decode cL_law 591 = .ok (.iconst 1, 1) := by decide +kernel
theorem dL_law_592 : decode cL_law 592 = .ok (.iadd, 1) := by decide +kernel
theorem dL_law_593 : decode cL_law 593 = .ok (.iaload, 1) := by decide +kernel
theorem dL_law_594 : decode cL_law 594 = .ok (.invokevirtual 71, 3) := by decide +kernel
theorem dL_law_597 : decode cL_law 597 = .ok (.lcmp, 1) := by decide +kernel
theorem dL_law_598 : decode cL_law 598 = .ok (.ifCond .eq 305, 3) := by decide +kernel
theorem dL_law_601 : decode cL_law 601 = .ok (.iconst 0, 1) := by decide +kernel
theorem dL_law_602 : decode cL_law 602 = .ok (.ireturn, 1) := by decide +kernel
theorem dL_law_603 : decode cL_law 603 = .ok (.aload_n 1, 1) := by decide +kernel
theorem dL_law_604 : decode cL_law 604 = .ok (.aload_n 0, 1) := by decide +kernel
theorem dL_law_605 : decode cL_law 605 = .ok (.iload_n 3, 1) := by decide +kernel
theorem dL_law_606 : decode cL_law 606 = .ok (.iconst 1, 1) := by decide +kernel
theorem dL_law_607 : decode cL_law 607 = .ok (.iadd, 1) := by decide +kernel
theorem dL_law_608 : decode cL_law 608 = .ok (.iaload, 1) := by decide +kernel
theorem dL_law_609 : decode cL_law 609 = .ok (.invokevirtual 72, 3) := by decide +kernel
theorem dL_law_612 : decode cL_law 612 = .ok (.aload_n 2, 1) := by decide +kernel
theorem dL_law_613 : decode cL_law 613 = .ok (.aload_n 0, 1) := by decide +kernel
theorem dL_law_614 : decode cL_law 614 = .ok (.iload_n 3, 1) := by decide +kernel
theorem dL_law_615 : decode cL_law 615 = .ok (.iconst 1, 1) := by decide +kernel
theorem dL_law_616 : decode cL_law 616 = .ok (.iadd, 1) := by decide +kernel
theorem dL_law_617 : decode cL_law 617 = .ok (.iaload, 1) := by decide +kernel
theorem dL_law_618 : decode cL_law 618 = .ok (.invokevirtual 75, 3) := by decide +kernel
theorem dL_law_621 : decode cL_law 621 = .ok (.if_icmp .eq 282, 3) := by decide +kernel
theorem dL_law_624 : decode cL_law 624 = .ok (.iconst 0, 1) := by decide +kernel
theorem dL_law_625 : decode cL_law 625 = .ok (.ireturn, 1) := by decide +kernel
theorem dL_law_626 : decode cL_law 626 = .ok (.aload_n 1, 1) := by decide +kernel
theorem dL_law_627 : decode cL_law 627 = .ok (.aload_n 0, 1) := by decide +kernel
theorem dL_law_628 : decode cL_law 628 = .ok (.iload_n 3, 1) := by decide +kernel
theorem dL_law_629 : decode cL_law 629 = .ok (.iconst 1, 1) := by decide +kernel
theorem dL_law_630 : decode cL_law 630 = .ok (.iadd, 1) := by decide +kernel
theorem dL_law_631 : decode cL_law 631 = .ok (.iaload, 1) := by decide +kernel
theorem dL_law_632 : decode cL_law 632 = .ok (.invokevirtual 76, 3) := by decide +kernel
theorem dL_law_635 : decode cL_law 635 = .ok (.aload_n 2, 1) := by decide +kernel
theorem dL_law_636 : decode cL_law 636 = .ok (.aload_n 0, 1) := by decide +kernel
theorem dL_law_637 : decode cL_law 637 = .ok (.iload_n 3, 1) := by decide +kernel
theorem dL_law_638 : decode cL_law 638 = .ok (.iconst 1, 1) := by decide +kernel
theorem dL_law_639 : decode cL_law 639 = .ok (.iadd, 1) := by decide +kernel
theorem dL_law_640 : decode cL_law 640 = .ok (.iaload, 1) := by decide +kernel
theorem dL_law_641 : decode cL_law 641 = .ok (.invokevirtual 79, 3) := by decide +kernel
theorem dL_law_644 : decode cL_law 644 = .ok (.if_icmp .eq 259, 3) := by decide +kernel
theorem dL_law_647 : decode cL_law 647 = .ok (.iconst 0, 1) := by decide +kernel
theorem dL_law_648 : decode cL_law 648 = .ok (.ireturn, 1) := by decide +kernel
theorem dL_law_649 : decode cL_law 649 = .ok (.aload_n 1, 1) := by decide +kernel
theorem dL_law_650 : decode cL_law 650 = .ok (.invokevirtual 80, 3) := by decide +kernel
theorem dL_law_653 : decode cL_law 653 = .ok (.aload_n 2, 1) := by decide +kernel
theorem dL_law_654 : decode cL_law 654 = .ok (.invokevirtual 83, 3) := by decide +kernel
theorem dL_law_657 : decode cL_law 657 = .ok (.if_icmp .eq 246, 3) := by decide +kernel
theorem dL_law_660 : decode cL_law 660 = .ok (.iconst 0, 1) := by decide +kernel
theorem dL_law_661 : decode cL_law 661 = .ok (.ireturn, 1) := by decide +kernel
theorem dL_law_662 : decode cL_law 662 = .ok (.aload_n 1, 1) := by decide +kernel
theorem dL_law_663 : decode cL_law 663 = .ok (.aload_n 0, 1) := by decide +kernel
theorem dL_law_664 : decode cL_law 664 = .ok (.iload_n 3, 1) := by decide +kernel
theorem dL_law_665 : decode cL_law 665 = .ok (.iconst 1, 1) := by decide +kernel
theorem dL_law_666 : decode cL_law 666 = .ok (.iadd, 1) := by decide +kernel
theorem dL_law_667 : decode cL_law 667 = .ok (.iaload, 1) := by decide +kernel
theorem dL_law_668 : decode cL_law 668 = .ok (.aload_n 0, 1) := by decide +kernel
theorem dL_law_669 : decode cL_law 669 = .ok (.iload_n 3, 1) := by decide +kernel
theorem dL_law_670 : decode cL_law 670 = .ok (.iconst 2, 1) := by decide +kernel
theorem dL_law_671 : decode cL_law 671 = .ok (.iadd, 1) := by decide +kernel
theorem dL_law_672 : decode cL_law 672 = .ok (.iaload, 1) := by decide +kernel
theorem dL_law_673 : decode cL_law 673 = .ok (.invokevirtual 84, 3) := by decide +kernel
theorem dL_law_676 : decode cL_law 676 = .ok (.aload_n 2, 1) := by decide +kernel
theorem dL_law_677 : decode cL_law 677 = .ok (.aload_n 0, 1) := by decide +kernel
theorem dL_law_678 : decode cL_law 678 = .ok (.iload_n 3, 1) := by decide +kernel
theorem dL_law_679 : decode cL_law 679 = .ok (.iconst 1, 1) := by decide +kernel
theorem dL_law_680 : decode cL_law 680 = .ok (.iadd, 1) := by decide +kernel
theorem dL_law_681 : decode cL_law 681 = .ok (.iaload, 1) := by decide +kernel
theorem dL_law_682 : decode cL_law 682 = .ok (.aload_n 0, 1) := by decide +kernel
theorem dL_law_683 : decode cL_law 683 = .ok (.iload_n 3, 1) := by decide +kernel
theorem dL_law_684 : decode cL_law 684 = .ok (.iconst 2, 1) := by decide +kernel
theorem dL_law_685 : decode cL_law 685 = .ok (.iadd, 1) := by decide +kernel
theorem dL_law_686 : decode cL_law 686 = .ok (.iaload, 1) := by decide +kernel
theorem dL_law_687 : decode cL_law 687 = .ok (.invokevirtual 87, 3) := by decide +kernel
theorem dL_law_690 : decode cL_law 690 = .ok (.lcmp, 1) := by decide +kernel
theorem dL_law_691 : decode cL_law 691 = .ok (.ifCond .eq 212, 3) := by decide +kernel
theorem dL_law_694 : decode cL_law 694 = .ok (.iconst 0, 1) := by decide +kernel
theorem dL_law_695 : decode cL_law 695 = .ok (.ireturn, 1) := by decide +kernel
theorem dL_law_696 : decode cL_law 696 = .ok (.aload_n 1, 1) := by decide +kernel
theorem dL_law_697 : decode cL_law 697 = .ok (.aload_n 0, 1) := by decide +kernel
theorem dL_law_698 : decode cL_law 698 = .ok (.iload_n 3, 1) := by decide +kernel
theorem dL_law_699 : decode cL_law 699 = .ok (.iconst 1, 1) := by decide +kernel
theorem dL_law_700 : decode cL_law 700 = .ok (.iadd, 1) := by decide +kernel
theorem dL_law_701 : decode cL_law 701 = .ok (.iaload, 1) := by decide +kernel
theorem dL_law_702 : decode cL_law 702 = .ok (.invokevirtual 88, 3) := by decide +kernel
theorem dL_law_705 : decode cL_law 705 = .ok (.aload_n 2, 1) := by decide +kernel
theorem dL_law_706 : decode cL_law 706 = .ok (.aload_n 0, 1) := by decide +kernel
theorem dL_law_707 : decode cL_law 707 = .ok (.iload_n 3, 1) := by decide +kernel
theorem dL_law_708 : decode cL_law 708 = .ok (.iconst 1, 1) := by decide +kernel
theorem dL_law_709 : decode cL_law 709 = .ok (.iadd, 1) := by decide +kernel
theorem dL_law_710 : decode cL_law 710 = .ok (.iaload, 1) := by decide +kernel
theorem dL_law_711 : decode cL_law 711 = .ok (.invokevirtual 91, 3) := by decide +kernel
theorem dL_law_714 : decode cL_law 714 = .ok (.if_icmp .eq 189, 3) := by decide +kernel
theorem dL_law_717 : decode cL_law 717 = .ok (.iconst 0, 1) := by decide +kernel
theorem dL_law_718 : decode cL_law 718 = .ok (.ireturn, 1) := by decide +kernel
theorem dL_law_719 : decode cL_law 719 = .ok (.aload_n 1, 1) := by decide +kernel
theorem dL_law_720 : decode cL_law 720 = .ok (.aload_n 0, 1) := by decide +kernel
theorem dL_law_721 : decode cL_law 721 = .ok (.iload_n 3, 1) := by decide +kernel
theorem dL_law_722 : decode cL_law 722 = .ok (.iconst 1, 1) := by decide +kernel
theorem dL_law_723 : decode cL_law 723 = .ok (.iadd, 1) := by decide +kernel
theorem dL_law_724 : decode cL_law 724 = .ok (.iaload, 1) := by decide +kernel
theorem dL_law_725 : decode cL_law 725 = .ok (.aload_n 0, 1) := by decide +kernel
theorem dL_law_726 : decode cL_law 726 = .ok (.iload_n 3, 1) := by decide +kernel
theorem dL_law_727 : decode cL_law 727 = .ok (.iconst 2, 1) := by decide +kernel
theorem dL_law_728 : decode cL_law 728 = .ok (.iadd, 1) := by decide +kernel
theorem dL_law_729 : decode cL_law 729 = .ok (.iaload, 1) := by decide +kernel
theorem dL_law_730 : decode cL_law 730 = .ok (.invokevirtual 92, 3) := by decide +kernel
theorem dL_law_733 : decode cL_law 733 = .ok (.aload_n 2, 1) := by decide +kernel
theorem dL_law_734 : decode cL_law 734 = .ok (.aload_n 0, 1) := by decide +kernel
theorem dL_law_735 : decode cL_law 735 = .ok (.iload_n 3, 1) := by decide +kernel
theorem dL_law_736 : decode cL_law 736 = .ok (.iconst 1, 1) := by decide +kernel
theorem dL_law_737 : decode cL_law 737 = .ok (.iadd, 1) := by decide +kernel
theorem dL_law_738 : decode cL_law 738 = .ok (.iaload, 1) := by decide +kernel
theorem dL_law_739 : decode cL_law 739 = .ok (.aload_n 0, 1) := by decide +kernel
theorem dL_law_740 : decode cL_law 740 = .ok (.iload_n 3, 1) := by decide +kernel
theorem dL_law_741 : decode cL_law 741 = .ok (.iconst 2, 1) := by decide +kernel
theorem dL_law_742 : decode cL_law 742 = .ok (.iadd, 1) := by decide +kernel
theorem dL_law_743 : decode cL_law 743 = .ok (.iaload, 1) := by decide +kernel
theorem dL_law_744 : decode cL_law 744 = .ok (.invokevirtual 95, 3) := by decide +kernel
theorem dL_law_747 : decode cL_law 747 = .ok (.if_icmp .eq 156, 3) := by decide +kernel
theorem dL_law_750 : decode cL_law 750 = .ok (.iconst 0, 1) := by decide +kernel
theorem dL_law_751 : decode cL_law 751 = .ok (.ireturn, 1) := by decide +kernel
theorem dL_law_752 : decode cL_law 752 = .ok (.aload_n 1, 1) := by decide +kernel
theorem dL_law_753 : decode cL_law 753 = .ok (.aload_n 0, 1) := by decide +kernel
theorem dL_law_754 : decode cL_law 754 = .ok (.iload_n 3, 1) := by decide +kernel
theorem dL_law_755 : decode cL_law 755 = .ok (.iconst 1, 1) := by decide +kernel
theorem dL_law_756 : decode cL_law 756 = .ok (.iadd, 1) := by decide +kernel
theorem dL_law_757 : decode cL_law 757 = .ok (.iaload, 1) := by decide +kernel
theorem dL_law_758 : decode cL_law 758 = .ok (.i2l, 1) := by decide +kernel
theorem dL_law_759 : decode cL_law 759 = .ok (.bipush 32, 2) := by decide +kernel
theorem dL_law_761 : decode cL_law 761 = .ok (.lshl, 1) := by decide +kernel
theorem dL_law_762 : decode cL_law 762 = .ok (.aload_n 0, 1) := by decide +kernel
theorem dL_law_763 : decode cL_law 763 = .ok (.iload_n 3, 1) := by decide +kernel
theorem dL_law_764 : decode cL_law 764 = .ok (.iconst 2, 1) := by decide +kernel
theorem dL_law_765 : decode cL_law 765 = .ok (.iadd, 1) := by decide +kernel
theorem dL_law_766 : decode cL_law 766 = .ok (.iaload, 1) := by decide +kernel
theorem dL_law_767 : decode cL_law 767 = .ok (.i2l, 1) := by decide +kernel
theorem dL_law_768 : decode cL_law 768 = .ok (.ldc2_w 96, 3) := by decide +kernel
theorem dL_law_771 : decode cL_law 771 = .ok (.land, 1) := by decide +kernel
theorem dL_law_772 : decode cL_law 772 = .ok (.lor, 1) := by decide +kernel
theorem dL_law_773 : decode cL_law 773 = .ok (.invokevirtual 98, 3) := by decide +kernel
theorem dL_law_776 : decode cL_law 776 = .ok (.aload_n 2, 1) := by decide +kernel
theorem dL_law_777 : decode cL_law 777 = .ok (.aload_n 0, 1) := by decide +kernel
theorem dL_law_778 : decode cL_law 778 = .ok (.iload_n 3, 1) := by decide +kernel
theorem dL_law_779 : decode cL_law 779 = .ok (.iconst 1, 1) := by decide +kernel
theorem dL_law_780 : decode cL_law 780 = .ok (.iadd, 1) := by decide +kernel
theorem dL_law_781 : decode cL_law 781 = .ok (.iaload, 1) := by decide +kernel
theorem dL_law_782 : decode cL_law 782 = .ok (.i2l, 1) := by decide +kernel
theorem dL_law_783 : decode cL_law 783 = .ok (.bipush 32, 2) := by decide +kernel
theorem dL_law_785 : decode cL_law 785 = .ok (.lshl, 1) := by decide +kernel
theorem dL_law_786 : decode cL_law 786 = .ok (.aload_n 0, 1) := by decide +kernel
theorem dL_law_787 : decode cL_law 787 = .ok (.iload_n 3, 1) := by decide +kernel
theorem dL_law_788 : decode cL_law 788 = .ok (.iconst 2, 1) := by decide +kernel
theorem dL_law_789 : decode cL_law 789 = .ok (.iadd, 1) := by decide +kernel
theorem dL_law_790 : decode cL_law 790 = .ok (.iaload, 1) := by decide +kernel
theorem dL_law_791 : decode cL_law 791 = .ok (.i2l, 1) := by decide +kernel
theorem dL_law_792 : decode cL_law 792 = .ok (.ldc2_w 96, 3) := by decide +kernel
theorem dL_law_795 : decode cL_law 795 = .ok (.land, 1) := by decide +kernel
theorem dL_law_796 : decode cL_law 796 = .ok (.lor, 1) := by decide +kernel
theorem dL_law_797 : decode cL_law 797 = .ok (.invokevirtual 102, 3) := by decide +kernel
theorem dL_law_800 : decode cL_law 800 = .ok (.if_icmp .eq 103, 3) := by decide +kernel
theorem dL_law_803 : decode cL_law 803 = .ok (.iconst 0, 1) := by decide +kernel
theorem dL_law_804 : decode cL_law 804 = .ok (.ireturn, 1) := by decide +kernel
theorem dL_law_805 : decode cL_law 805 = .ok (.aload_n 1, 1) := by decide +kernel
theorem dL_law_806 : decode cL_law 806 = .ok (.invokevirtual 103, 3) := by decide +kernel
theorem dL_law_809 : decode cL_law 809 = .ok (.aload_n 2, 1) := by decide +kernel
theorem dL_law_810 : decode cL_law 810 = .ok (.invokevirtual 106, 3) := by decide +kernel
theorem dL_law_813 : decode cL_law 813 = .ok (.if_icmp .eq 90, 3) := by decide +kernel
theorem dL_law_816 : decode cL_law 816 = .ok (.iconst 0, 1) := by decide +kernel
theorem dL_law_817 : decode cL_law 817 = .ok (.ireturn, 1) := by decide +kernel
theorem dL_law_818 : decode cL_law 818 = .ok (.aload_n 1, 1) := by decide +kernel
theorem dL_law_819 : decode cL_law 819 = .ok (.invokevirtual 107, 3) := by decide +kernel
theorem dL_law_822 : decode cL_law 822 = .ok (.aload_n 2, 1) := by decide +kernel
theorem dL_law_823 : decode cL_law 823 = .ok (.invokevirtual 110, 3) := by decide +kernel
theorem dL_law_826 : decode cL_law 826 = .ok (.if_icmp .eq 77, 3) := by decide +kernel
theorem dL_law_829 : decode cL_law 829 = .ok (.iconst 0, 1) := by decide +kernel
theorem dL_law_830 : decode cL_law 830 = .ok (.ireturn, 1) := by decide +kernel
theorem dL_law_831 : decode cL_law 831 = .ok (.aload_n 1, 1) := by decide +kernel
theorem dL_law_832 : decode cL_law 832 = .ok (.invokevirtual 111, 3) := by decide +kernel
theorem dL_law_835 : decode cL_law 835 = .ok (.aload_n 2, 1) := by decide +kernel
theorem dL_law_836 : decode cL_law 836 = .ok (.invokevirtual 114, 3) := by decide +kernel
theorem dL_law_839 : decode cL_law 839 = .ok (.if_icmp .eq 64, 3) := by decide +kernel
theorem dL_law_842 : decode cL_law 842 = .ok (.iconst 0, 1) := by decide +kernel
theorem dL_law_843 : decode cL_law 843 = .ok (.ireturn, 1) := by decide +kernel
theorem dL_law_844 : decode cL_law 844 = .ok (.aload_n 1, 1) := by decide +kernel
theorem dL_law_845 : decode cL_law 845 = .ok (.invokevirtual 115, 3) := by decide +kernel
theorem dL_law_848 : decode cL_law 848 = .ok (.aload_n 2, 1) := by decide +kernel
theorem dL_law_849 : decode cL_law 849 = .ok (.invokevirtual 118, 3) := by decide +kernel
theorem dL_law_852 : decode cL_law 852 = .ok (.if_icmp .eq 51, 3) := by decide +kernel
theorem dL_law_855 : decode cL_law 855 = .ok (.iconst 0, 1) := by decide +kernel
theorem dL_law_856 : decode cL_law 856 = .ok (.ireturn, 1) := by decide +kernel
theorem dL_law_857 : decode cL_law 857 = .ok (.aload_n 1, 1) := by decide +kernel
theorem dL_law_858 : decode cL_law 858 = .ok (.aload_n 0, 1) := by decide +kernel
theorem dL_law_859 : decode cL_law 859 = .ok (.iload_n 3, 1) := by decide +kernel
theorem dL_law_860 : decode cL_law 860 = .ok (.iconst 1, 1) := by decide +kernel
theorem dL_law_861 : decode cL_law 861 = .ok (.iadd, 1) := by decide +kernel
theorem dL_law_862 : decode cL_law 862 = .ok (.iaload, 1) := by decide +kernel
theorem dL_law_863 : decode cL_law 863 = .ok (.invokevirtual 119, 3) := by decide +kernel
theorem dL_law_866 : decode cL_law 866 = .ok (.aload_n 2, 1) := by decide +kernel
theorem dL_law_867 : decode cL_law 867 = .ok (.aload_n 0, 1) := by decide +kernel
theorem dL_law_868 : decode cL_law 868 = .ok (.iload_n 3, 1) := by decide +kernel
theorem dL_law_869 : decode cL_law 869 = .ok (.iconst 1, 1) := by decide +kernel
theorem dL_law_870 : decode cL_law 870 = .ok (.iadd, 1) := by decide +kernel
theorem dL_law_871 : decode cL_law 871 = .ok (.iaload, 1) := by decide +kernel
theorem dL_law_872 : decode cL_law 872 = .ok (.invokevirtual 122, 3) := by decide +kernel
theorem dL_law_875 : decode cL_law 875 = .ok (.if_icmp .eq 28, 3) := by decide +kernel
theorem dL_law_878 : decode cL_law 878 = .ok (.iconst 0, 1) := by decide +kernel
theorem dL_law_879 : decode cL_law 879 = .ok (.ireturn, 1) := by decide +kernel
theorem dL_law_880 : decode cL_law 880 = .ok (.aload_n 1, 1) := by decide +kernel
theorem dL_law_881 : decode cL_law 881 = .ok (.aload_n 0, 1) := by decide +kernel
theorem dL_law_882 : decode cL_law 882 = .ok (.iload_n 3, 1) := by decide +kernel
theorem dL_law_883 : decode cL_law 883 = .ok (.iconst 1, 1) := by decide +kernel
theorem dL_law_884 : decode cL_law 884 = .ok (.iadd, 1) := by decide +kernel
theorem dL_law_885 : decode cL_law 885 = .ok (.iaload, 1) := by decide +kernel
theorem dL_law_886 : decode cL_law 886 = .ok (.invokevirtual 123, 3) := by decide +kernel
theorem dL_law_889 : decode cL_law 889 = .ok (.aload_n 2, 1) := by decide +kernel
theorem dL_law_890 : decode cL_law 890 = .ok (.aload_n 0, 1) := by decide +kernel
theorem dL_law_891 : decode cL_law 891 = .ok (.iload_n 3, 1) := by decide +kernel
theorem dL_law_892 : decode cL_law 892 = .ok (.iconst 1, 1) := by decide +kernel
theorem dL_law_893 : decode cL_law 893 = .ok (.iadd, 1) := by decide +kernel
theorem dL_law_894 : decode cL_law 894 = .ok (.iaload, 1) := by decide +kernel
theorem dL_law_895 : decode cL_law 895 = .ok (.invokevirtual 126, 3) := by decide +kernel
theorem dL_law_898 : decode cL_law 898 = .ok (.if_icmp .eq 5, 3) := by decide +kernel
theorem dL_law_901 : decode cL_law 901 = .ok (.iconst 0, 1) := by decide +kernel
theorem dL_law_902 : decode cL_law 902 = .ok (.ireturn, 1) := by decide +kernel
theorem dL_law_903 : decode cL_law 903 = .ok (.iinc 3 6, 3) := by decide +kernel
theorem dL_law_906 : decode cL_law 906 = .ok (.goto (-888), 3) := by decide +kernel
theorem dL_law_909 : decode cL_law 909 = .ok (.iconst 1, 1) := by decide +kernel
theorem dL_law_910 : decode cL_law 910 = .ok (.ireturn, 1) := by decide +kernel
end
section
/-! ===== the world of whole: abstract addresses, one memory of whole numbers ===== -/
abbrev xD : Type := Nat → Nat → Int
abbrev xR : Type := Nat → Nat → Option Nat
/-- class numbers and slots; array classes; the specials' addresses; the first own address -/
abbrev xW : Type := va_G × (Nat → ClassId) × (Nat → Nat) × Nat
abbrev vi (e : Int) : Value := .int (Int32.ofInt e)
abbrev vl (e : Int) : Value := .long (Int64.ofInt e)
def xad (ω : xW) (k : Nat) : Nat := if k < 4 then ω.2.2.1 k else ω.2.2.2 + (k - 4)
def xtr (ω : xW) : Value → Value
  | .ref k => .ref (xad ω k)
  | v => v
def xN : Nat → Nat
  | 0 => 3 | 1 => 7 | 2 => 17 | 3 => 10 | 4 => 6 | _ => 12
def xty : Nat → Nat → FieldType
  | 0 => tyX0 | 1 => tyX1 | 2 => tyX2 | 3 => tyX3 | 4 => tyX4 | _ => tyX5
def xkd : FieldType → Nat
  | .long => 1 | .object _ => 2 | .array _ => 2 | _ => 0
def xwsh (i : Nat) : Nat × Nat := if i = 0 then (3, 0) else if i = 1 then (10, 9) else if i = 2 then (10, 4) else if i = 3 then (15, 10) else if (i - 4) % 3 = 0 then (2, 0) else (10, 12)
/-- the kind of each cell (0 to 5: an object of that class; 10 int[], 11 long[], 12 char[], 13 boolean[], 14 Works[], 15 Product[]) and its length -/
def xSH (k : Nat) : Nat × Nat :=
  if k < 4 then (10, 9) else if k = 4 then (4, 0) else if k < 73 then xwsh ((k - 5) % 34) else if k = 73 then (1, 0) else if k = 74 then (12, 80)
  else if k = 75 then (0, 0) else if k = 76 then (14, 6) else if k < 281 then xwsh ((k - 77) % 34) else if k = 281 then (14, 2) else if k = 282 then (13, 2)
  else if k < 351 then xwsh ((k - 283) % 34) else if k = 351 then (5, 0) else if k = 352 then (11, 378) else if k = 353 then (11, 3402) else if k = 354 then (10, 2) else if k = 355 then (10, 80) else (10, 0)
def xfv (ω : xW) (ci : Nat) (D : xD) (r : xR) (a j : Nat) : Value := match xkd (xty ci j) with
  | 0 => vi (D a j)
  | 1 => vl (D a j)
  | _ => va_rf ((r a j).map (xad ω))
def xarr (ω : xW) (c : Nat) (D : xD) (r : xR) (k : Nat) : (Nat → Int32) ⊕ (Nat → Int64) ⊕ (Nat → UInt32) ⊕ (Nat → UInt64) ⊕ (Nat → Option Nat) :=
  if c = 11 then .inr (.inl fun j => Int64.ofInt (D k j)) else if c < 14 then .inl (fun j => Int32.ofInt (D k j)) else .inr (.inr (.inr (.inr fun j => (r k j).map (xad ω))))
def xent (ω : xW) (D : xD) (r : xR) (k : Nat) : va_E :=
  if (xSH k).1 < 6 then .inr ((xSH k).1, (List.range (xN (xSH k).1)).map (xfv ω (xSH k).1 D r k))
  else .inl (ω.2.1 (xSH k).1, ((xSH k).2, xarr ω (xSH k).1 D r k))
def xws (ω : xW) (n : Nat) (D : xD) (r : xR) : va_W := (List.range (n - 4)).map (fun i => (xad ω (i + 4), xent ω D r (i + 4)))
def xaty : Nat → FieldType
  | 10 => .int | 11 => .long | 12 => .char | 13 => .boolean | 14 => .object RX3 | _ => .object RX2
abbrev xtys (ω : xW) : List (ClassId × FieldType) := [(ω.2.1 10, .int), (ω.2.1 11, .long), (ω.2.1 12, .char), (ω.2.1 13, .boolean), (ω.2.1 14, .object RX3), (ω.2.1 15, .object RX2)]
def xA (ω : xW) : Nat → Prop := fun q => ω.2.2.2 ≤ q
/-- what the class's own static rows hold -/
def xst : Nat → Nat → Int
  | 1, j => [0, 0, 0, 1, 0, 0, 0, 0, 0].getD j 0
  | 2, j => [1000, 500, 8, 6, 400, 1000, 100, 100, 100].getD j 0
  | _, j => [100, 20, 2, 2, 100, 50, 1, 5, 3].getD j 0
def xnm : Nat → String
  | 1 => "LEAST_SETTINGS" | 2 => "MOST_SETTINGS" | _ => "FIRST_SETTINGS"
/-- a static row of nine ints at its cell -/
def xTS (ω : xW) (k : Nat) (U : State) (H : Heap) : Prop := ∃ cell : Cell, H[ω.2.2.1 k]? = some cell ∧ U.isArrayOf cell .int ∧ cell.vm ≠ .unknown ∧ cell.slots.size = 9 ∧ (∀ j : Nat, j < 9 → cell.slots[j]? = some (vi (xst k j))) ∧ ¬ xA ω (ω.2.2.1 k) ∧ U.vm.findClass "[I" = some cell.cls
theorem xTS.moved {ω : xW} {k : Nat} {u U : State} {H : Heap} (hvm : u.vm.Alike U.vm) (h : xTS ω k u H) : xTS ω k U H := by
  obtain ⟨cell, h1, h2, h3, h4, h5, h6, h7⟩ := h
  exact ⟨cell, h1, State.isArrayOf_alike hvm h2, h3, h4, h5, h6, by rw [hvm.findClass]; exact h7⟩
theorem xTS.kept {ω : xW} {k : Nat} {U : State} {H H1 : Heap} (h : xTS ω k U H) (hq : ∀ a : Nat, a < H.size → ¬ xA ω a → H1[a]? = H[a]?) : xTS ω k U H1 := by
  obtain ⟨cell, h1, h2, h3, h4, h5, h6, h7⟩ := h
  exact ⟨cell, by rw [hq _ (Array.getElem?_eq_some_iff.mp h1).1 h6]; exact h1, h2, h3, h4, h5, h6, h7⟩
/-- what of the tables and of the statics a method is given beside its words -/
def xKF (ω : xW) (U : State) (H : Heap) : Prop :=
  va_K ω.1 vwCl (xtys ω) U ∧ va_AO RX3 U ∧ va_AO RX2 U
  ∧ va_Nw (.methodLinkNest RX4 21 yX1_init "LotFences") U ∧ va_Nw (.methodLinkNest RX3 38 yX2_init "LotFences") U ∧ va_Nw (.methodLinkNest RX3 159 yX4_isFamily "LotFences") U
  ∧ va_Nw (.fieldLinkNest RX3 9 "LotFences" "FIRST_SETTINGS" "[I" "LotFences") U ∧ va_Nw (.castable "[I" "java/lang/Cloneable") U
  ∧ ∀ k, 1 ≤ k → k < 4 → va_Z "LotFences" (xnm k) "[I" (.ref (ω.2.2.1 k)) (xA ω) U H ∧ xTS ω k U H
/-- the tables' words that every state keeps -/
def xtb : List Cond := lw_tbl.filter goodWord
theorem xtb_in {w : Cond} (i : Nat) (h : lw_tbl[i]? = some w) (hg : goodWord w = true) : w ∈ xtb := List.mem_filter.mpr ⟨List.mem_of_getElem? h, hg⟩
theorem xtb_tbl : ∀ w ∈ xtb, w ∈ lw_tbl := fun _ h => (List.mem_filter.mp h).1
theorem xtb_good : ∀ w ∈ xtb, (w.onTables && w.keeps) = true ∨ ∃ ty, w = .arrayClass ty := fun _ h => good_of_word (List.mem_filter.mp h).2
theorem xlg_len (vs : List Value) : (lg_sl vs).length ≤ (vs.map Value.category).sum := by
  induction vs with
  | nil => simp [lg_sl]
  | cons v vs ih =>
    have h : lg_sl (v :: vs) = (if v.category = 2 then [.val v, .second] else [.val v]) ++ lg_sl vs := by simp [lg_sl]
    rw [h, List.map_cons, List.sum_cons, List.length_append]
    have hv : 1 ≤ v.category := by cases v <;> simp [Value.category]
    split
    · rename_i h2; rw [h2]; simp; omega
    · simp; omega
/-! ===== locals ===== -/
def xlg : List (Option Value) → Nat → Option Value
  | [], _ => none
  | x :: _, 0 => x
  | _ :: xs, n + 1 => xlg xs n
def xclr : Option Value → Option Value
  | some (.long _) => none
  | some (.double _) => none
  | x => x
/-- a value of one slot is put at a place -/
def xs1 : List (Option Value) → Nat → Value → List (Option Value)
  | [], _, _ => []
  | _ :: xs, 0, v => some v :: xs
  | x :: _ :: xs, 1, v => xclr x :: some v :: xs
  | [x], 1, _ => [x]
  | x :: xs, n + 2, v => x :: xs1 xs (n + 1) v
/-- a value of two slots -/
def xs2 : List (Option Value) → Nat → Value → List (Option Value)
  | [], _, _ => []
  | _ :: _ :: xs, 0, v => some v :: none :: xs
  | [x], 0, _ => [x]
  | x :: _ :: _ :: xs, 1, v => xclr x :: some v :: none :: xs
  | x :: xs, 1, _ => x :: xs
  | x :: xs, n + 2, v => x :: xs2 xs (n + 1) v
def xll (ω : xW) : Nat → List (Option Value) → List (Nat × Value)
  | _, [] => []
  | i, some v :: xs => (i, xtr ω v) :: xll ω (i + 1) xs
  | i, none :: xs => xll ω (i + 1) xs
def xLH (ω : xW) (ls : Array Slot) (nL : Nat) (pl : List (Option Value)) : Prop := lv_has ls nL (xll ω 0 pl)
theorem xcat (ω : xW) (v : Value) : (xtr ω v).category = v.category := by cases v <;> rfl
theorem xll_mem {ω : xW} : ∀ (pl : List (Option Value)) (i : Nat) (q : Nat × Value), q ∈ xll ω i pl ↔ ∃ k v, q.1 = i + k ∧ xlg pl k = some v ∧ q.2 = xtr ω v := by
  intro pl
  induction pl with
  | nil => intro i q; simp [xll, xlg]
  | cons x xs ih =>
    intro i q
    cases x with
    | none =>
      simp only [xll, ih]
      constructor
      · rintro ⟨k, v, h1, h2, h3⟩; exact ⟨k + 1, v, by omega, h2, h3⟩
      · rintro ⟨k, v, h1, h2, h3⟩
        cases k with
        | zero => simp [xlg] at h2
        | succ k => exact ⟨k, v, by omega, h2, h3⟩
    | some w =>
      simp only [xll, List.mem_cons, ih]
      constructor
      · rintro (h | ⟨k, v, h1, h2, h3⟩)
        · exact ⟨0, w, by rw [h]; rfl, rfl, by rw [h]⟩
        · exact ⟨k + 1, v, by omega, h2, h3⟩
      · rintro ⟨k, v, h1, h2, h3⟩
        cases k with
        | zero =>
          left
          simp only [xlg, Option.some.injEq] at h2
          subst h2
          exact Prod.ext h1 h3
        | succ k => right; exact ⟨k, v, by omega, h2, h3⟩
theorem xLH.get {ω : xW} {ls : Array Slot} {nL : Nat} {pl : List (Option Value)} (h : xLH ω ls nL pl) {i : Nat} {v : Value} (hi : xlg pl i = some v) : ls[i]? = some (.val (xtr ω v)) :=
  h.2.2 (i, xtr ω v) ((xll_mem pl 0 _).mpr ⟨i, v, by simp, hi, rfl⟩)
theorem xclr_some {x : Option Value} {v : Value} (h : xclr x = some v) : x = some v ∧ v.category ≠ 2 := by
  cases x with
  | none => simp [xclr] at h
  | some w => cases w <;> simp [xclr] at h <;> subst h <;> simp [Value.category]
theorem xs1_get : ∀ (pl : List (Option Value)) (i : Nat) (v : Value) (k : Nat) (w : Value), xlg (xs1 pl i v) k = some w → (k = i ∧ w = v) ∨ (k ≠ i ∧ xlg pl k = some w ∧ ¬ (k + 1 = i ∧ w.category = 2)) ∨ (pl.length ≤ i ∧ xlg pl k = some w) := by
  intro pl
  induction pl with
  | nil => intro i v k w h; simp [xs1, xlg] at h
  | cons x xs ih =>
    intro i v k w h
    match i, k, h with
    | 0, 0, h => left; simp [xs1, xlg] at h; exact ⟨rfl, h.symm⟩
    | 0, k + 1, h => right; left; exact ⟨by omega, h, by omega⟩
    | 1, k, h =>
      cases xs with
      | nil => right; right; exact ⟨by simp, h⟩
      | cons y ys =>
        match k, h with
        | 0, h =>
          right; left
          obtain ⟨h1, h2⟩ := xclr_some (show xclr x = some w from h)
          exact ⟨by omega, h1, fun z => h2 z.2⟩
        | 1, h => left; simp [xs1, xlg] at h; exact ⟨rfl, h.symm⟩
        | k + 2, h => right; left; exact ⟨by omega, h, by omega⟩
    | i + 2, 0, h => right; left; exact ⟨by omega, by cases xs <;> exact h, by omega⟩
    | i + 2, k + 1, h =>
      have h' : xlg (xs1 xs (i + 1) v) k = some w := by cases xs <;> exact h
      rcases ih (i + 1) v k w h' with ⟨h1, h2⟩ | ⟨h1, h2, h3⟩ | ⟨h1, h2⟩
      · left; exact ⟨by omega, h2⟩
      · right; left; exact ⟨by omega, h2, fun z => h3 ⟨by omega, z.2⟩⟩
      · right; right; exact ⟨by simp; omega, h2⟩
theorem xs2_get : ∀ (pl : List (Option Value)) (i : Nat) (v : Value) (k : Nat) (w : Value), xlg (xs2 pl i v) k = some w → (k = i ∧ w = v) ∨ (k ≠ i ∧ k ≠ i + 1 ∧ xlg pl k = some w ∧ ¬ (k + 1 = i ∧ w.category = 2)) ∨ (pl.length ≤ i + 1 ∧ xlg pl k = some w) := by
  intro pl
  induction pl with
  | nil => intro i v k w h; simp [xs2, xlg] at h
  | cons x xs ih =>
    intro i v k w h
    match i, k, h with
    | 0, k, h =>
      cases xs with
      | nil => right; right; exact ⟨by simp, h⟩
      | cons y ys =>
        match k, h with
        | 0, h => left; simp [xs2, xlg] at h; exact ⟨rfl, h.symm⟩
        | 1, h => simp [xs2, xlg] at h
        | k + 2, h => right; left; exact ⟨by omega, by omega, h, by omega⟩
    | 1, k, h =>
      match xs, h with
      | [], h => right; right; exact ⟨by simp, h⟩
      | [y], h => right; right; exact ⟨by simp, h⟩
      | y :: z :: zs, h =>
        match k, h with
        | 0, h =>
          right; left
          obtain ⟨h1, h2⟩ := xclr_some (show xclr x = some w from h)
          exact ⟨by omega, by omega, h1, fun z => h2 z.2⟩
        | 1, h => left; simp [xs2, xlg] at h; exact ⟨rfl, h.symm⟩
        | 2, h => simp [xs2, xlg] at h
        | k + 3, h => right; left; exact ⟨by omega, by omega, h, by omega⟩
    | i + 2, 0, h => right; left; exact ⟨by omega, by omega, by match xs with | [] => exact h | [_] => exact h | _ :: _ :: _ => exact h, by omega⟩
    | i + 2, k + 1, h =>
      have h' : xlg (xs2 xs (i + 1) v) k = some w := by match xs with | [] => exact h | [_] => exact h | _ :: _ :: _ => exact h
      rcases ih (i + 1) v k w h' with ⟨h1, h2⟩ | ⟨h1, h1', h2, h3⟩ | ⟨h1, h2⟩
      · left; exact ⟨by omega, h2⟩
      · right; left; exact ⟨by omega, by omega, h2, fun z => h3 ⟨by omega, z.2⟩⟩
      · right; right; exact ⟨by simp; omega, h2⟩
/-- what a store of the machine leaves is what xs1 says -/
theorem xLH.put1 {ω : xW} {nL : Nat} {pl : List (Option Value)} {i : Nat} {v : Value} (hn : i < pl.length) {ls' : Array Slot}
    (h : lv_has ls' nL ((i, xtr ω v) :: (xll ω 0 pl).filter (fun q => !(q.1 == i) && !(q.1 + 1 == i && q.2.category == 2)))) : xLH ω ls' nL (xs1 pl i v) := by
  refine ⟨h.1, h.2.1, fun q hq => h.2.2 q ?_⟩
  obtain ⟨k, w, h1, h2, h3⟩ := (xll_mem _ 0 q).mp hq
  rcases xs1_get pl i v k w h2 with ⟨e1, e2⟩ | ⟨e1, e2, e3⟩ | ⟨e1, -⟩
  · subst e1; subst e2
    exact List.mem_cons.mpr (Or.inl (Prod.ext (by simpa using h1) h3))
  · refine List.mem_cons.mpr (Or.inr (List.mem_filter.mpr ⟨(xll_mem pl 0 q).mpr ⟨k, w, h1, e2, h3⟩, ?_⟩))
    have h4 : q.1 = k := by omega
    have h5 : q.2.category = w.category := by rw [h3, xcat]
    rw [h4, h5]
    have : ¬ (k + 1 = i ∧ w.category = 2) := e3
    simp [e1]
    omega
  · omega
theorem xLH.put2 {ω : xW} {nL : Nat} {pl : List (Option Value)} {i : Nat} {v : Value} (hn : i + 1 < pl.length) {ls' : Array Slot}
    (h : lv_has ls' nL ((i, xtr ω v) :: (xll ω 0 pl).filter (fun q => !(q.1 == i) && (!(q.1 == i + 1) && !(q.1 + 1 == i && q.2.category == 2))))) : xLH ω ls' nL (xs2 pl i v) := by
  refine ⟨h.1, h.2.1, fun q hq => h.2.2 q ?_⟩
  obtain ⟨k, w, h1, h2, h3⟩ := (xll_mem _ 0 q).mp hq
  rcases xs2_get pl i v k w h2 with ⟨e1, e2⟩ | ⟨e1, e1', e2, e3⟩ | ⟨e1, -⟩
  · subst e1; subst e2
    exact List.mem_cons.mpr (Or.inl (Prod.ext (by simpa using h1) h3))
  · refine List.mem_cons.mpr (Or.inr (List.mem_filter.mpr ⟨(xll_mem pl 0 q).mpr ⟨k, w, h1, e2, h3⟩, ?_⟩))
    have h4 : q.1 = k := by omega
    have h5 : q.2.category = w.category := by rw [h3, xcat]
    rw [h4, h5]
    have : ¬ (k + 1 = i ∧ w.category = 2) := e3
    simp [e1, e1']
    omega
  · omega
/-- the locals at a method's entry -/
def xen : List Value → Nat → List (Option Value)
  | _, 0 => []
  | [], n + 1 => none :: xen [] n
  | .long v :: vs, n + 2 => some (.long v) :: none :: xen vs n
  | .double v :: vs, n + 2 => some (.double v) :: none :: xen vs n
  | v :: vs, n + 1 => some v :: xen vs n
theorem xen_args (ω : xW) : ∀ (av : List Value) (n i : Nat) (q : Nat × Value), q ∈ xll ω i (xen av n) → q ∈ lv_args i (av.map (xtr ω)) := by
  intro av
  induction av with
  | nil =>
    intro n
    induction n with
    | zero => intro i q h; simp [xen, xll] at h
    | succ n ih => intro i q h; simp only [xen, xll] at h; have := ih (i + 1) q h; simp [lv_args] at this
  | cons v vs ih =>
    intro n i q h
    have hc : (xtr ω v).category = v.category := xcat ω v
    cases n with
    | zero => simp [xen, xll] at h
    | succ n =>
      cases v with
      | long x =>
        cases n with
        | zero =>
          simp only [xen, xll, List.mem_cons, List.not_mem_nil, or_false] at h
          subst h
          exact List.mem_cons_self
        | succ n =>
          simp only [xen, xll, List.mem_cons] at h
          rcases h with h | h
          · subst h; exact List.mem_cons_self
          · exact List.mem_cons_of_mem _ (ih n (i + 1 + 1) q h)
      | double x =>
        cases n with
        | zero =>
          simp only [xen, xll, List.mem_cons, List.not_mem_nil, or_false] at h
          subst h
          exact List.mem_cons_self
        | succ n =>
          simp only [xen, xll, List.mem_cons] at h
          rcases h with h | h
          · subst h; exact List.mem_cons_self
          · exact List.mem_cons_of_mem _ (ih n (i + 1 + 1) q h)
      | _ =>
        simp only [xen, xll, List.mem_cons] at h
        rcases h with h | h
        · subst h; exact List.mem_cons_self
        · exact List.mem_cons_of_mem _ (ih n (i + 1) q h)
theorem xLH.entry {ω : xW} {ls : Array Slot} {nL : Nat} {av : List Value} (h : lv_has ls nL (lv_args 0 (av.map (xtr ω)))) {pl : List (Option Value)} (hp : xen av nL = pl) : xLH ω ls nL pl := by
  subst hp
  exact ⟨h.1, h.2.1, fun q hq => h.2.2 q (xen_args ω av nL 0 q hq)⟩
/-! ===== the heap ===== -/
theorem xad_ge (ω : xW) {k : Nat} (h : 4 ≤ k) : xad ω k = ω.2.2.2 + (k - 4) := if_neg (by omega)
theorem xws_at (ω : xW) {n k : Nat} (D : xD) (r : xR) (h : 4 ≤ k) (hk : k < n) : (xws ω n D r)[k - 4]? = some (xad ω k, xent ω D r k) := by
  have h1 : k - 4 < n - 4 := by omega
  have h2 : k - 4 + 4 = k := by omega
  simp [xws, List.getElem?_map, List.getElem?_range h1, h2]
theorem xws_get (ω : xW) {n i : Nat} {D : xD} {r : xR} {q : Nat × va_E} (h : (xws ω n D r)[i]? = some q) : i < n - 4 ∧ q = (xad ω (i + 4), xent ω D r (i + 4)) := by
  simp only [xws, List.getElem?_map] at h
  by_cases hi : i < n - 4
  · rw [List.getElem?_range hi] at h
    exact ⟨hi, (Option.some.inj h).symm⟩
  · rw [List.getElem?_eq_none (by simp; omega)] at h
    cases h
theorem xws_D (ω : xW) (n : Nat) (D : xD) (r : xR) : va_D (xA ω) (xws ω n D r) := by
  refine ⟨fun i j p q hi hj h => ?_, fun k q h => ?_⟩
  · obtain ⟨-, rfl⟩ := xws_get ω hi
    obtain ⟨-, rfl⟩ := xws_get ω hj
    simp only [xad_ge ω (show 4 ≤ i + 4 by omega), xad_ge ω (show 4 ≤ j + 4 by omega)] at h
    omega
  · obtain ⟨-, rfl⟩ := xws_get ω h
    show ω.2.2.2 ≤ xad ω (k + 4)
    rw [xad_ge ω (by omega)]
    omega
theorem xent_congr (ω : xW) {D D' : xD} {r r' : xR} {k : Nat} (h : D' k = D k) (h' : r' k = r k) : xent ω D' r' k = xent ω D r k := by
  unfold xent xarr
  rw [show xfv ω (xSH k).1 D' r' k = xfv ω (xSH k).1 D r k from funext fun j => by unfold xfv; rw [h, h'], h, h']
theorem xws_set (ω : xW) {n k : Nat} {D D' : xD} {r r' : xR} {e : va_E} (h : 4 ≤ k) (hk : k < n) (he : e = xent ω D' r' k) (hD : ∀ q, q ≠ k → D' q = D q) (hr : ∀ q, q ≠ k → r' q = r q) : (xws ω n D r).set (k - 4) (xad ω k, e) = xws ω n D' r' := by
  subst he
  apply List.ext_getElem?
  intro i
  by_cases hik : i = k - 4
  · subst hik
    rw [xws_at ω D' r' h hk, List.getElem?_set_self]
    simp [xws]; omega
  · rw [List.getElem?_set_ne (Ne.symm hik)]
    simp only [xws, List.getElem?_map]
    by_cases hi : i < n - 4
    · rw [List.getElem?_range hi]
      simp only [Option.map_some, Option.some.injEq, Prod.mk.injEq, true_and]
      exact (xent_congr ω (hD _ (by omega)) (hr _ (by omega))).symm
    · rw [List.getElem?_eq_none (by simp; omega)]; rfl
def xRep (ω : xW) (n : Nat) (D : xD) (r : xR) (H : Heap) : Prop := (n < 356 → H.size = xad ω n) ∧ 4 ≤ n ∧ va_P ω.1 vwCl (xws ω n D r) H
theorem xent_obj (ω : xW) {D : xD} {r : xR} {k ci z : Nat} (hs : xSH k = (ci, z)) (hc : ci < 6) : xent ω D r k = .inr (ci, (List.range (xN ci)).map (xfv ω ci D r k)) := by
  unfold xent; rw [hs]; exact if_pos hc
theorem xent_arr (ω : xW) {D : xD} {r : xR} {k c z : Nat} (hs : xSH k = (c, z)) (hc : ¬ c < 6) : xent ω D r k = .inl (ω.2.1 c, (z, xarr ω c D r k)) := by
  unfold xent; rw [hs]; exact if_neg hc
/-- one number of the memory becomes another -/
def xu (D : xD) (a j : Nat) (e : Int) : xD := fun a' => if a' = a then (fun j' => if j' = j then e else D a' j') else D a'
theorem xu_at (D : xD) (a j : Nat) (e : Int) : xu D a j e a j = e := by simp [xu]
theorem xu_ne (D : xD) (a j : Nat) (e : Int) {a' j' : Nat} (h : a' ≠ a ∨ j' ≠ j) : xu D a j e a' j' = D a' j' := by
  unfold xu
  by_cases h1 : a' = a
  · rw [if_pos h1]; exact if_neg (h.resolve_left (not_not_intro h1))
  · rw [if_neg h1]
theorem xu_row (D : xD) (a j : Nat) (e : Int) {a' : Nat} (h : a' ≠ a) : xu D a j e a' = D a' := if_neg h
def xur (r : xR) (a j : Nat) (e : Option Nat) : xR := fun a' => if a' = a then (fun j' => if j' = j then e else r a' j') else r a'
theorem xur_at (D : xR) (a j : Nat) (e : Option Nat) : xur D a j e a j = e := by simp [xur]
theorem xur_ne (D : xR) (a j : Nat) (e : Option Nat) {a' j' : Nat} (h : a' ≠ a ∨ j' ≠ j) : xur D a j e a' j' = D a' j' := by
  unfold xur
  by_cases h1 : a' = a
  · rw [if_pos h1]; exact if_neg (h.resolve_left (not_not_intro h1))
  · rw [if_neg h1]
theorem xur_row (D : xR) (a j : Nat) (e : Option Nat) {a' : Nat} (h : a' ≠ a) : xur D a j e a' = D a' := if_neg h
theorem xfs_get (ω : xW) {ci j : Nat} {D : xD} {r : xR} {a : Nat} (hj : j < xN ci) : ((List.range (xN ci)).map (xfv ω ci D r a))[j]? = some (xfv ω ci D r a j) := by
  rw [List.getElem?_map, List.getElem?_range hj]; rfl
theorem xfs_set (ω : xW) {ci j : Nat} {D D' : xD} {r r' : xR} {a : Nat} (v : Value) (hj : j < xN ci) (hv : v = xfv ω ci D' r' a j) (hD : ∀ i, i ≠ j → D' a i = D a i) (hr : ∀ i, i ≠ j → r' a i = r a i) : ((List.range (xN ci)).map (xfv ω ci D r a)).set j v = (List.range (xN ci)).map (xfv ω ci D' r' a) := by
  subst hv
  apply List.ext_getElem?
  intro i
  by_cases hi : i = j
  · subst hi
    rw [xfs_get ω hj, List.getElem?_set_self (by simpa using hj)]
  · rw [List.getElem?_set_ne (Ne.symm hi)]
    simp only [List.getElem?_map]
    by_cases h : i < xN ci
    · rw [List.getElem?_range h]
      simp only [Option.map_some, Option.some.injEq]
      unfold xfv
      rw [hD i hi, hr i hi]
    · rw [List.getElem?_eq_none (by simpa using h)]; rfl
/-! ===== numbers ===== -/
theorem xi_in {k n : Nat} (h : k < n) (hn : n ≤ 100000) : vp_in (Int32.ofInt (k : Int)) n ∧ (Int32.ofInt (k : Int)).toNatClampNeg = k := by
  have h1 : (Int32.ofInt (k : Int)).toNatClampNeg = k := by
    rw [Int32.toNatClampNeg_ofInt_of_le (by omega) (by omega)]; simp
  refine ⟨fun z => ?_, h1⟩
  rcases z with z | z
  · rw [Int32.lt_iff_toInt_lt, Int32.toInt_ofInt_of_le (by omega) (by omega)] at z
    exact absurd z (by simp)
  · rw [h1] at z; omega
abbrev xI (a : Int) : Prop := -2147483648 ≤ a ∧ a < 2147483648
abbrev xJ (a : Int) : Prop := -9223372036854775808 ≤ a ∧ a < 9223372036854775808
theorem xti {a : Int} (h : xI a) : (Int32.ofInt a).toInt = a := Int32.toInt_ofInt_of_le h.1 h.2
theorem xtl {a : Int} (h : xJ a) : (Int64.ofInt a).toInt = a := Int64.toInt_ofInt_of_le h.1 h.2
theorem xi_lt {a b : Int} (ha : xI a) (hb : xI b) : Int32.ofInt a < Int32.ofInt b ↔ a < b := by rw [Int32.lt_iff_toInt_lt, xti ha, xti hb]
theorem xi_le {a b : Int} (ha : xI a) (hb : xI b) : Int32.ofInt a ≤ Int32.ofInt b ↔ a ≤ b := by rw [Int32.le_iff_toInt_le, xti ha, xti hb]
theorem xi_eq {a b : Int} (ha : xI a) (hb : xI b) : Int32.ofInt a = Int32.ofInt b ↔ a = b := by rw [← Int32.toInt_inj, xti ha, xti hb]
theorem xl_lt {a b : Int} (ha : xJ a) (hb : xJ b) : Int64.ofInt a < Int64.ofInt b ↔ a < b := by rw [Int64.lt_iff_toInt_lt, xtl ha, xtl hb]
theorem xl_eq {a b : Int} (ha : xJ a) (hb : xJ b) : Int64.ofInt a = Int64.ofInt b ↔ a = b := by rw [← Int64.toInt_inj, xtl ha, xtl hb]
/-! ===== the judgements ===== -/
abbrev xC : Type := Program × Launch × Env × Room × State × MethodId × Array Value × List Frame × Method × Code × (State → Prop) × xW × Nat × Nat × Nat × Nat
def xV (γ : xC) (pc : Nat) (pl : List (Option Value)) (st : List Value) (σ : Nat × Nat) (D : xD) (r : xR) : Prop := match γ with
  | (p, l, e, R, s, m, args, below, meth, c, Q, ω, n0, z0, n1, z1) =>
    n0 ≤ σ.1 → z0 ≤ σ.2 → σ.1 ≤ n1 → σ.2 ≤ z1 → ∀ (H : Heap) (locs : List Loc) (ls : Array Slot), xRep ω σ.1 D r H → va_S (xA ω) s.heap H locs → xLH ω ls c.maxLocals pl →
      W p l e R s m args below meth c H locs (σ.1 - n0) (σ.2 - z0) Q (F0 m pc ls (st.map (xtr ω)))
def xX (γ : xC) (cc : ByteArray) (nL : Nat) (y : MethodName) (d : Nat) : Prop := match γ with
  | (p, _, _, R, s, m, args, _, meth, c, _, ω, n0, z0, n1, z1) =>
    p.tables.exec = Jvm.exec ∧ c.code = cc ∧ c.maxLocals = nL ∧ s.vm.findClass y.cls = some m.cls ∧ (∀ w ∈ xtb, w.before args s = true) ∧ xKF ω s s.heap ∧ (∀ q, s.heap.size ≤ q → xA ω q)
      ∧ d ≤ R.frames ∧ 40 * d ≤ R.locals ∧ n1 - n0 ≤ R.cells ∧ z1 - z0 ≤ R.slots ∧ meth.name = y.name
abbrev xM : Type := MethodName × ByteArray × Nat × Option FieldType
def xMW (μ : xM) : List Cond := .code μ.1 μ.2.1 μ.2.2.1 μ.2.2.2 :: xtb
def xQ (ω : xW) (σ' : Nat × Nat) (P : Option Value → xD → xR → Prop) : Array Value → State → Outcome → State → Prop := fun _ st o t =>
  (∃ (v : Option Value) (D' : xD) (r' : xR), o = .returned (v.map (xtr ω)) ∧ P v D' r' ∧ xRep ω σ'.1 D' r' t.heap) ∧ va_F (xA ω) st t
def MX (d : Nat) (μ : xM) (av : List Value) (σ : Nat × Nat) (D : xD) (r : xR) (σ' : Nat × Nat) (P : Option Value → xD → xR → Prop) : Prop := ∀ (l : Launch) (ω : xW),
  Met l μ.1 (xMW μ) ({ frames := d, cells := σ'.1 - σ.1, slots := σ'.2 - σ.2, locals := 40 * d } : Room) (va_Pc (av.map (xtr ω)) (fun U => (xRep ω σ.1 D r U.heap ∧ σ.1 ≤ σ'.1 ∧ σ.2 ≤ σ'.2 ∧ ω.2.2.2 ≤ U.heap.size) ∧ xKF ω U U.heap)) (xQ ω σ' P) (σ'.1 - σ.1) (σ'.2 - σ.2) (xA ω)
def xRX (γ : xC) (rt : Option FieldType) (σ' : Nat × Nat) (P : Option Value → xD → xR → Prop) : Prop := match γ with
  | (_, _, _, _, s, _, args, below, meth, _, Q, ω, n0, z0, n1, z1) => Q = MQ below (xQ ω σ' P) args s (n1 - n0) (z1 - z0) (xA ω) ∧ meth.sig.returnType = rt ∧ meth.locks = false ∧ n1 = σ'.1 ∧ z1 = σ'.2
theorem xKF.moved {ω : xW} {s U : State} {H0 H : Heap} (hW : s.WarmedH U.vm) (h : xKF ω s H0) (hq : ∀ a : Nat, a < H0.size → ¬ xA ω a → H[a]? = H0[a]?) : xKF ω U H := by
  obtain ⟨h1, h2, h3, h4, h5, h6, h7, h8, h9⟩ := h
  exact ⟨va_K.moved hW.alike h1, h2.moved hW.alike, h3.moved hW.alike, va_Nw.warmM hW h4, va_Nw.warmM hW h5, va_Nw.warmM hW h6, va_Nw.warmF hW h7, va_Nw.warmC hW h8,
    fun k a b => ⟨((h9 k a b).1.kept hq).moved hW.alike, ((h9 k a b).2.kept hq).moved hW.alike⟩⟩
theorem xKF.same {ω : xW} {s U : State} {H : Heap} (hv : s.vm = U.vm) (h : xKF ω s H) : xKF ω U H := by
  obtain ⟨h1, h2, h3, h4, h5, h6, h7, h8, h9⟩ := h
  have ha : s.vm.Alike U.vm := hv ▸ Vm.Alike.refl s.vm
  exact ⟨va_K.moved ha h1, h2.moved ha, h3.moved ha, va_Nw.same rfl hv h4, va_Nw.same rfl hv h5, va_Nw.same rfl hv h6, va_Nw.same rfl hv h7, va_Nw.same rfl hv h8,
    fun k a b => ⟨(h9 k a b).1.moved ha, (h9 k a b).2.moved ha⟩⟩
set_option maxHeartbeats 4000000 in
/-- a method's contract out of the walk of its body -/
theorem MX.of {d : Nat} {y : MethodName} {cc : ByteArray} {nL : Nat} {rt : Option FieldType} {av : List Value} {σ σ' : Nat × Nat} {D : xD} {r : xR} {P : Option Value → xD → xR → Prop} (hy : plainName y.cls = true) (pl : List (Option Value)) (hpl : xen av nL = pl) (hlen : (av.map Value.category).sum ≤ nL)
    (h : ∀ γ : xC, xX γ cc nL y d → xRX γ rt σ' P → xV γ 0 pl [] σ D r) : MX d (y, cc, nL, rt) av σ D r σ' P := by
  intro l ω
  refine Met.ofW (cc := cc) (maxL := nL) (ret := rt) hy rfl ?_
  intro p e s m args below meth c s₁ B hml hv
  obtain ⟨rfl, ⟨hRep, hn, hz, hbase⟩, hKF⟩ := hv
  have hts0 := atoms_spec (ws := xMW (y, cc, nL, rt)) B.pre
  have hts : ∀ w ∈ xtb, w.before (av.map (xtr ω)).toArray s = true := fun w hw => hts0 w (List.mem_cons_of_mem _ hw)
  have hown : s.vm.findClass y.cls = some m.cls := findClass_of_methodNamed B.named
  have hin : meth.name = y.name := (name_of_methodNamed B.named B.method).1
  have hl := lv_entry (av.map (xtr ω)) (n := nL) (Nat.le_trans (xlg_len _) (by rw [List.map_map, show (Value.category ∘ xtr ω) = Value.category from funext fun v => xcat ω v]; exact hlen))
  rw [lg_entry_eq]
  generalize (lg_sl (av.map (xtr ω)) ++ List.replicate (nL - (lg_sl (av.map (xtr ω))).length) Slot.unset).toArray = ls at hl ⊢
  have hV := h (p, l, e, (headSpec (xMW (y, cc, nL, rt)) ({ frames := d, cells := σ'.1 - σ.1, slots := σ'.2 - σ.2, locals := 40 * d } : Room)).room, s, m, (av.map (xtr ω)).toArray, below, meth, c, _, ω, σ.1, σ.2, σ'.1, σ'.2)
    ⟨B.exec, B.bytes, hml, hown, hts, hKF, fun q hq => Nat.le_trans hbase hq, Nat.le_refl _, Nat.le_refl _, Nat.le_refl _, Nat.le_refl _, hin⟩
    ⟨rfl, B.returns, B.notSynchronized, rfl, rfl⟩ (Nat.le_refl _) (Nat.le_refl _) hn hz s.heap [] ls hRep va_S.rf (by rw [hml]; exact xLH.entry hl hpl)
  rw [Nat.sub_self, Nat.sub_self] at hV
  exact hV
end
section
theorem xl_le {a b : Int} (ha : xJ a) (hb : xJ b) : Int64.ofInt a ≤ Int64.ofInt b ↔ a ≤ b := by rw [Int64.le_iff_toInt_le, xtl ha, xtl hb]
theorem xi_min {a : Int} (h : xI a) : Int32.minValue.toInt ≤ a ∧ a ≤ Int32.maxValue.toInt := by
  have h1 : Int32.minValue.toInt = -2147483648 := by decide
  have h2 : Int32.maxValue.toInt = 2147483647 := by decide
  rw [h1, h2]; exact ⟨h.1, Int.le_of_lt_add_one h.2⟩
theorem xl_min {a : Int} (h : xJ a) : Int64.minValue.toInt ≤ a ∧ a ≤ Int64.maxValue.toInt := by
  have h1 : Int64.minValue.toInt = -9223372036854775808 := by decide
  have h2 : Int64.maxValue.toInt = 9223372036854775807 := by decide
  rw [h1, h2]; exact ⟨h.1, Int.le_of_lt_add_one h.2⟩
section XV
variable {γ : xC} {cc : ByteArray} {nL d : Nat} {y : MethodName} {pc q : Nat} {pl : List (Option Value)} {st : List Value} {σ : Nat × Nat} {D : xD} {r : xR}
theorem v_iconst (hX : xX γ cc nL y d) {n : Int} (hd : decode cc pc = .ok (.iconst n, 1)) (hq : pc + 1 = q) (k : xV γ q pl (vi n :: st) σ D r) : xV γ pc pl (st) σ D r := by
  subst hq
  obtain ⟨p, l, e, R, s, m, args, below, meth, c, Q, ω, n0, z0, n1, z1⟩ := γ
  obtain ⟨hx, hb, hml, hown, hts, hKF, hA, hfr, hlo, hce, hsl, hnm⟩ := hX
  intro g1 g2 g3 g4 H locs ls hR hS hL
  exact lv_iconst hx hb hd rfl (k g1 g2 g3 g4 H locs ls hR hS hL)
theorem v_bipush (hX : xX γ cc nL y d) {n : Int} (hv : (Int8.ofInt n).toInt32 = Int32.ofInt n) (hd : decode cc pc = .ok (.bipush n, 2)) (hq : pc + 2 = q) (k : xV γ q pl (vi n :: st) σ D r) : xV γ pc pl (st) σ D r := by
  subst hq
  obtain ⟨p, l, e, R, s, m, args, below, meth, c, Q, ω, n0, z0, n1, z1⟩ := γ
  obtain ⟨hx, hb, hml, hown, hts, hKF, hA, hfr, hlo, hce, hsl, hnm⟩ := hX
  intro g1 g2 g3 g4 H locs ls hR hS hL
  exact lv_bipush hx hb hd hv (k g1 g2 g3 g4 H locs ls hR hS hL)
theorem v_sipush (hX : xX γ cc nL y d) {n : Int} (hv : (Int16.ofInt n).toInt32 = Int32.ofInt n) (hd : decode cc pc = .ok (.sipush n, 3)) (hq : pc + 3 = q) (k : xV γ q pl (vi n :: st) σ D r) : xV γ pc pl (st) σ D r := by
  subst hq
  obtain ⟨p, l, e, R, s, m, args, below, meth, c, Q, ω, n0, z0, n1, z1⟩ := γ
  obtain ⟨hx, hb, hml, hown, hts, hKF, hA, hfr, hlo, hce, hsl, hnm⟩ := hX
  intro g1 g2 g3 g4 H locs ls hR hS hL
  exact lv_sipush hx hb hd hv (k g1 g2 g3 g4 H locs ls hR hS hL)
theorem v_lconst (hX : xX γ cc nL y d) {n : Fin 2} {e : Int} (hv : Int64.ofNat (n : Nat) = Int64.ofInt e) (hd : decode cc pc = .ok (.lconst n, 1)) (hq : pc + 1 = q) (k : xV γ q pl (vl e :: st) σ D r) : xV γ pc pl (st) σ D r := by
  subst hq
  obtain ⟨p, l, e, R, s, m, args, below, meth, c, Q, ω, n0, z0, n1, z1⟩ := γ
  obtain ⟨hx, hb, hml, hown, hts, hKF, hA, hfr, hlo, hce, hsl, hnm⟩ := hX
  intro g1 g2 g3 g4 H locs ls hR hS hL
  exact lv_lconst hx hb hd hv (k g1 g2 g3 g4 H locs ls hR hS hL)
theorem v_ldc2 (hX : xX γ cc nL y d) {i : Nat} {v : Int64} {e : Int} (hv : v = Int64.ofInt e) (hw : Cond.constantLong y.cls i v ∈ xtb) (hd : decode cc pc = .ok (.ldc2_w i, 3)) (hq : pc + 3 = q) (k : xV γ q pl (vl e :: st) σ D r) : xV γ pc pl (st) σ D r := by
  subst hq
  obtain ⟨p, l, e, R, s, m, args, below, meth, c, Q, ω, n0, z0, n1, z1⟩ := γ
  obtain ⟨hx, hb, hml, hown, hts, hKF, hA, hfr, hlo, hce, hsl, hnm⟩ := hX
  intro g1 g2 g3 g4 H locs ls hR hS hL
  exact lv_ldc2 hx hb hown (hts _ (hv ▸ hw)) hd (k g1 g2 g3 g4 H locs ls hR hS hL)
theorem v_null (hX : xX γ cc nL y d)  (hd : decode cc pc = .ok (.aconst_null, 1)) (hq : pc + 1 = q) (k : xV γ q pl (.null :: st) σ D r) : xV γ pc pl (st) σ D r := by
  subst hq
  obtain ⟨p, l, e, R, s, m, args, below, meth, c, Q, ω, n0, z0, n1, z1⟩ := γ
  obtain ⟨hx, hb, hml, hown, hts, hKF, hA, hfr, hlo, hce, hsl, hnm⟩ := hX
  intro g1 g2 g3 g4 H locs ls hR hS hL
  exact lv_null hx hb hd (k g1 g2 g3 g4 H locs ls hR hS hL)
theorem v_iload_n (hX : xX γ cc nL y d) {kk : Fin 4} {i : Nat} {x : Int32} (hd : decode cc pc = .ok (.iload_n kk, 1)) (hi : (kk : Nat) = i) (hl : xlg pl i = some (.int x)) (hq : pc + 1 = q) (k : xV γ q pl (.int x :: st) σ D r) : xV γ pc pl (st) σ D r := by
  subst hq
  obtain ⟨p, l, e, R, s, m, args, below, meth, c, Q, ω, n0, z0, n1, z1⟩ := γ
  obtain ⟨hx, hb, hml, hown, hts, hKF, hA, hfr, hlo, hce, hsl, hnm⟩ := hX
  intro g1 g2 g3 g4 H locs ls hR hS hL
  exact lv_iload_n hx hb hd hi (hL.get hl) (k g1 g2 g3 g4 H locs ls hR hS hL)
theorem v_iload (hX : xX γ cc nL y d) {i : Nat} {x : Int32} (hd : decode cc pc = .ok (.iload i, 2)) (hl : xlg pl i = some (.int x)) (hq : pc + 2 = q) (k : xV γ q pl (.int x :: st) σ D r) : xV γ pc pl (st) σ D r := by
  subst hq
  obtain ⟨p, l, e, R, s, m, args, below, meth, c, Q, ω, n0, z0, n1, z1⟩ := γ
  obtain ⟨hx, hb, hml, hown, hts, hKF, hA, hfr, hlo, hce, hsl, hnm⟩ := hX
  intro g1 g2 g3 g4 H locs ls hR hS hL
  exact lv_iload hx hb hd (hL.get hl) (k g1 g2 g3 g4 H locs ls hR hS hL)
theorem v_lload_n (hX : xX γ cc nL y d) {kk : Fin 4} {i : Nat} {x : Int64} (hd : decode cc pc = .ok (.lload_n kk, 1)) (hi : (kk : Nat) = i) (hl : xlg pl i = some (.long x)) (hq : pc + 1 = q) (k : xV γ q pl (.long x :: st) σ D r) : xV γ pc pl (st) σ D r := by
  subst hq
  obtain ⟨p, l, e, R, s, m, args, below, meth, c, Q, ω, n0, z0, n1, z1⟩ := γ
  obtain ⟨hx, hb, hml, hown, hts, hKF, hA, hfr, hlo, hce, hsl, hnm⟩ := hX
  intro g1 g2 g3 g4 H locs ls hR hS hL
  exact lv_lload_n hx hb hd hi (hL.get hl) (k g1 g2 g3 g4 H locs ls hR hS hL)
theorem v_lload (hX : xX γ cc nL y d) {i : Nat} {x : Int64} (hd : decode cc pc = .ok (.lload i, 2)) (hl : xlg pl i = some (.long x)) (hq : pc + 2 = q) (k : xV γ q pl (.long x :: st) σ D r) : xV γ pc pl (st) σ D r := by
  subst hq
  obtain ⟨p, l, e, R, s, m, args, below, meth, c, Q, ω, n0, z0, n1, z1⟩ := γ
  obtain ⟨hx, hb, hml, hown, hts, hKF, hA, hfr, hlo, hce, hsl, hnm⟩ := hX
  intro g1 g2 g3 g4 H locs ls hR hS hL
  exact lv_lload hx hb hd (hL.get hl) (k g1 g2 g3 g4 H locs ls hR hS hL)
theorem v_aload_n (hX : xX γ cc nL y d) {kk : Fin 4} {i : Nat} {x : Nat} (hd : decode cc pc = .ok (.aload_n kk, 1)) (hi : (kk : Nat) = i) (hl : xlg pl i = some (.ref x)) (hq : pc + 1 = q) (k : xV γ q pl (.ref x :: st) σ D r) : xV γ pc pl (st) σ D r := by
  subst hq
  obtain ⟨p, l, e, R, s, m, args, below, meth, c, Q, ω, n0, z0, n1, z1⟩ := γ
  obtain ⟨hx, hb, hml, hown, hts, hKF, hA, hfr, hlo, hce, hsl, hnm⟩ := hX
  intro g1 g2 g3 g4 H locs ls hR hS hL
  exact lv_aload_n hx hb hd hi (hL.get hl) (k g1 g2 g3 g4 H locs ls hR hS hL)
theorem v_aload (hX : xX γ cc nL y d) {i : Nat} {x : Nat} (hd : decode cc pc = .ok (.aload i, 2)) (hl : xlg pl i = some (.ref x)) (hq : pc + 2 = q) (k : xV γ q pl (.ref x :: st) σ D r) : xV γ pc pl (st) σ D r := by
  subst hq
  obtain ⟨p, l, e, R, s, m, args, below, meth, c, Q, ω, n0, z0, n1, z1⟩ := γ
  obtain ⟨hx, hb, hml, hown, hts, hKF, hA, hfr, hlo, hce, hsl, hnm⟩ := hX
  intro g1 g2 g3 g4 H locs ls hR hS hL
  exact lv_aload hx hb hd (hL.get hl) (k g1 g2 g3 g4 H locs ls hR hS hL)
theorem v_aloadN_n (hX : xX γ cc nL y d) {kk : Fin 4} {i : Nat}  (hd : decode cc pc = .ok (.aload_n kk, 1)) (hi : (kk : Nat) = i) (hl : xlg pl i = some (.null)) (hq : pc + 1 = q) (k : xV γ q pl (.null :: st) σ D r) : xV γ pc pl (st) σ D r := by
  subst hq
  obtain ⟨p, l, e, R, s, m, args, below, meth, c, Q, ω, n0, z0, n1, z1⟩ := γ
  obtain ⟨hx, hb, hml, hown, hts, hKF, hA, hfr, hlo, hce, hsl, hnm⟩ := hX
  intro g1 g2 g3 g4 H locs ls hR hS hL
  exact lv_aload_nN hx hb hd hi (hL.get hl) (k g1 g2 g3 g4 H locs ls hR hS hL)
theorem v_aloadN (hX : xX γ cc nL y d) {i : Nat}  (hd : decode cc pc = .ok (.aload i, 2)) (hl : xlg pl i = some (.null)) (hq : pc + 2 = q) (k : xV γ q pl (.null :: st) σ D r) : xV γ pc pl (st) σ D r := by
  subst hq
  obtain ⟨p, l, e, R, s, m, args, below, meth, c, Q, ω, n0, z0, n1, z1⟩ := γ
  obtain ⟨hx, hb, hml, hown, hts, hKF, hA, hfr, hlo, hce, hsl, hnm⟩ := hX
  intro g1 g2 g3 g4 H locs ls hR hS hL
  exact lv_aloadN hx hb hd (hL.get hl) (k g1 g2 g3 g4 H locs ls hR hS hL)
theorem v_istore_n (hX : xX γ cc nL y d) {kk : Fin 4} {i : Nat} {x : Int32} (hd : decode cc pc = .ok (.istore_n kk, 1)) (hi : (kk : Nat) = i) (hn1 : i < pl.length) (hn2 : i < nL) (hq : pc + 1 = q) (k : xV γ q (xs1 pl i (.int x)) (st) σ D r) : xV γ pc pl (.int x :: st) σ D r := by
  subst hq
  obtain ⟨p, l, e, R, s, m, args, below, meth, c, Q, ω, n0, z0, n1, z1⟩ := γ
  obtain ⟨hx, hb, hml, hown, hts, hKF, hA, hfr, hlo, hce, hsl, hnm⟩ := hX
  intro g1 g2 g3 g4 H locs ls hR hS hL
  exact lv_istore_n hx hb hd hi hL (by rw [hml]; exact hn2) rfl (fun ls' hl' => k g1 g2 g3 g4 H locs ls' hR hS (xLH.put1 hn1 hl'))
theorem v_istore (hX : xX γ cc nL y d) {i : Nat} {x : Int32} (hd : decode cc pc = .ok (.istore i, 2)) (hn1 : i < pl.length) (hn2 : i < nL) (hq : pc + 2 = q) (k : xV γ q (xs1 pl i (.int x)) (st) σ D r) : xV γ pc pl (.int x :: st) σ D r := by
  subst hq
  obtain ⟨p, l, e, R, s, m, args, below, meth, c, Q, ω, n0, z0, n1, z1⟩ := γ
  obtain ⟨hx, hb, hml, hown, hts, hKF, hA, hfr, hlo, hce, hsl, hnm⟩ := hX
  intro g1 g2 g3 g4 H locs ls hR hS hL
  exact lv_istore hx hb hd hL (by rw [hml]; exact hn2) rfl (fun ls' hl' => k g1 g2 g3 g4 H locs ls' hR hS (xLH.put1 hn1 hl'))
theorem v_lstore_n (hX : xX γ cc nL y d) {kk : Fin 4} {i : Nat} {x : Int64} (hd : decode cc pc = .ok (.lstore_n kk, 1)) (hi : (kk : Nat) = i) (hn1 : i + 1 < pl.length) (hn2 : i + 1 < nL) (hq : pc + 1 = q) (k : xV γ q (xs2 pl i (.long x)) (st) σ D r) : xV γ pc pl (.long x :: st) σ D r := by
  subst hq
  obtain ⟨p, l, e, R, s, m, args, below, meth, c, Q, ω, n0, z0, n1, z1⟩ := γ
  obtain ⟨hx, hb, hml, hown, hts, hKF, hA, hfr, hlo, hce, hsl, hnm⟩ := hX
  intro g1 g2 g3 g4 H locs ls hR hS hL
  exact lv_lstore_n hx hb hd hi hL (by rw [hml]; exact hn2) rfl (fun ls' hl' => k g1 g2 g3 g4 H locs ls' hR hS (xLH.put2 hn1 hl'))
theorem v_lstore (hX : xX γ cc nL y d) {i : Nat} {x : Int64} (hd : decode cc pc = .ok (.lstore i, 2)) (hn1 : i + 1 < pl.length) (hn2 : i + 1 < nL) (hq : pc + 2 = q) (k : xV γ q (xs2 pl i (.long x)) (st) σ D r) : xV γ pc pl (.long x :: st) σ D r := by
  subst hq
  obtain ⟨p, l, e, R, s, m, args, below, meth, c, Q, ω, n0, z0, n1, z1⟩ := γ
  obtain ⟨hx, hb, hml, hown, hts, hKF, hA, hfr, hlo, hce, hsl, hnm⟩ := hX
  intro g1 g2 g3 g4 H locs ls hR hS hL
  exact lv_lstore hx hb hd hL (by rw [hml]; exact hn2) rfl (fun ls' hl' => k g1 g2 g3 g4 H locs ls' hR hS (xLH.put2 hn1 hl'))
theorem v_astore_n (hX : xX γ cc nL y d) {kk : Fin 4} {i : Nat} {x : Nat} (hd : decode cc pc = .ok (.astore_n kk, 1)) (hi : (kk : Nat) = i) (hn1 : i < pl.length) (hn2 : i < nL) (hq : pc + 1 = q) (k : xV γ q (xs1 pl i (.ref x)) (st) σ D r) : xV γ pc pl (.ref x :: st) σ D r := by
  subst hq
  obtain ⟨p, l, e, R, s, m, args, below, meth, c, Q, ω, n0, z0, n1, z1⟩ := γ
  obtain ⟨hx, hb, hml, hown, hts, hKF, hA, hfr, hlo, hce, hsl, hnm⟩ := hX
  intro g1 g2 g3 g4 H locs ls hR hS hL
  exact lv_astore_n hx hb hd hi hL (by rw [hml]; exact hn2) rfl (fun ls' hl' => k g1 g2 g3 g4 H locs ls' hR hS (xLH.put1 hn1 hl'))
theorem v_astore (hX : xX γ cc nL y d) {i : Nat} {x : Nat} (hd : decode cc pc = .ok (.astore i, 2)) (hn1 : i < pl.length) (hn2 : i < nL) (hq : pc + 2 = q) (k : xV γ q (xs1 pl i (.ref x)) (st) σ D r) : xV γ pc pl (.ref x :: st) σ D r := by
  subst hq
  obtain ⟨p, l, e, R, s, m, args, below, meth, c, Q, ω, n0, z0, n1, z1⟩ := γ
  obtain ⟨hx, hb, hml, hown, hts, hKF, hA, hfr, hlo, hce, hsl, hnm⟩ := hX
  intro g1 g2 g3 g4 H locs ls hR hS hL
  exact lv_astore hx hb hd hL (by rw [hml]; exact hn2) rfl (fun ls' hl' => k g1 g2 g3 g4 H locs ls' hR hS (xLH.put1 hn1 hl'))
theorem v_astoreN_n (hX : xX γ cc nL y d) {kk : Fin 4} {i : Nat}  (hd : decode cc pc = .ok (.astore_n kk, 1)) (hi : (kk : Nat) = i) (hn1 : i < pl.length) (hn2 : i < nL) (hq : pc + 1 = q) (k : xV γ q (xs1 pl i (.null)) (st) σ D r) : xV γ pc pl (.null :: st) σ D r := by
  subst hq
  obtain ⟨p, l, e, R, s, m, args, below, meth, c, Q, ω, n0, z0, n1, z1⟩ := γ
  obtain ⟨hx, hb, hml, hown, hts, hKF, hA, hfr, hlo, hce, hsl, hnm⟩ := hX
  intro g1 g2 g3 g4 H locs ls hR hS hL
  exact lv_astore_nN hx hb hd hi hL (by rw [hml]; exact hn2) rfl (fun ls' hl' => k g1 g2 g3 g4 H locs ls' hR hS (xLH.put1 hn1 hl'))
theorem v_astoreN (hX : xX γ cc nL y d) {i : Nat}  (hd : decode cc pc = .ok (.astore i, 2)) (hn1 : i < pl.length) (hn2 : i < nL) (hq : pc + 2 = q) (k : xV γ q (xs1 pl i (.null)) (st) σ D r) : xV γ pc pl (.null :: st) σ D r := by
  subst hq
  obtain ⟨p, l, e, R, s, m, args, below, meth, c, Q, ω, n0, z0, n1, z1⟩ := γ
  obtain ⟨hx, hb, hml, hown, hts, hKF, hA, hfr, hlo, hce, hsl, hnm⟩ := hX
  intro g1 g2 g3 g4 H locs ls hR hS hL
  exact lv_astoreN hx hb hd hL (by rw [hml]; exact hn2) rfl (fun ls' hl' => k g1 g2 g3 g4 H locs ls' hR hS (xLH.put1 hn1 hl'))
theorem v_iinc (hX : xX γ cc nL y d) {i : Nat} {n a : Int} (hd : decode cc pc = .ok (.iinc i n, 3)) (hl : xlg pl i = some (vi a)) (hn1 : i < pl.length) (hn2 : i < nL) (hq : pc + 3 = q) (k : xV γ q (xs1 pl i (vi (a + n))) (st) σ D r) : xV γ pc pl (st) σ D r := by
  subst hq
  obtain ⟨p, l, e, R, s, m, args, below, meth, c, Q, ω, n0, z0, n1, z1⟩ := γ
  obtain ⟨hx, hb, hml, hown, hts, hKF, hA, hfr, hlo, hce, hsl, hnm⟩ := hX
  intro g1 g2 g3 g4 H locs ls hR hS hL
  have hm : (i, Value.int (Int32.ofInt a)) ∈ xll ω 0 pl := (xll_mem pl 0 _).mpr ⟨i, vi a, by simp, hl, rfl⟩
  obtain ⟨j, hj⟩ := List.getElem?_of_mem hm
  exact lv_iinc (v := Int32.ofInt (a + n)) hx hb hd hL hj (Int32.ofInt_add a n).symm (by rw [hml]; exact hn2) rfl (fun ls' hl' => k g1 g2 g3 g4 H locs ls' hR hS (xLH.put1 (v := vi (a + n)) hn1 hl'))
theorem v_iadd (hX : xX γ cc nL y d) {a b : Int} (hd : decode cc pc = .ok (.iadd, 1)) (hq : pc + 1 = q) (k : xV γ q pl (vi (a + b) :: st) σ D r) : xV γ pc pl (vi b :: vi a :: st) σ D r := by
  have k : xV γ q pl ((.int (Int32.ofInt a + Int32.ofInt b) : Value) :: st) σ D r := by rw [← Int32.ofInt_add]; exact k
  subst hq
  obtain ⟨p, l, e, R, s, m, args, below, meth, c, Q, ω, n0, z0, n1, z1⟩ := γ
  obtain ⟨hx, hb, hml, hown, hts, hKF, hA, hfr, hlo, hce, hsl, hnm⟩ := hX
  intro g1 g2 g3 g4 H locs ls hR hS hL
  exact lv_iadd hx hb hd (k g1 g2 g3 g4 H locs ls hR hS hL)
theorem v_isub (hX : xX γ cc nL y d) {a b : Int} (hd : decode cc pc = .ok (.isub, 1)) (hq : pc + 1 = q) (k : xV γ q pl (vi (a - b) :: st) σ D r) : xV γ pc pl (vi b :: vi a :: st) σ D r := by
  have k : xV γ q pl ((.int (Int32.ofInt a - Int32.ofInt b) : Value) :: st) σ D r := by rw [← Int32.ofInt_sub]; exact k
  subst hq
  obtain ⟨p, l, e, R, s, m, args, below, meth, c, Q, ω, n0, z0, n1, z1⟩ := γ
  obtain ⟨hx, hb, hml, hown, hts, hKF, hA, hfr, hlo, hce, hsl, hnm⟩ := hX
  intro g1 g2 g3 g4 H locs ls hR hS hL
  exact lv_isub hx hb hd (k g1 g2 g3 g4 H locs ls hR hS hL)
theorem v_imul (hX : xX γ cc nL y d) {a b : Int} (hd : decode cc pc = .ok (.imul, 1)) (hq : pc + 1 = q) (k : xV γ q pl (vi (a * b) :: st) σ D r) : xV γ pc pl (vi b :: vi a :: st) σ D r := by
  have k : xV γ q pl ((.int (Int32.ofInt a * Int32.ofInt b) : Value) :: st) σ D r := by rw [← Int32.ofInt_mul]; exact k
  subst hq
  obtain ⟨p, l, e, R, s, m, args, below, meth, c, Q, ω, n0, z0, n1, z1⟩ := γ
  obtain ⟨hx, hb, hml, hown, hts, hKF, hA, hfr, hlo, hce, hsl, hnm⟩ := hX
  intro g1 g2 g3 g4 H locs ls hR hS hL
  exact lv_imul hx hb hd (k g1 g2 g3 g4 H locs ls hR hS hL)
theorem v_ladd (hX : xX γ cc nL y d) {a b : Int} (hd : decode cc pc = .ok (.ladd, 1)) (hq : pc + 1 = q) (k : xV γ q pl (vl (a + b) :: st) σ D r) : xV γ pc pl (vl b :: vl a :: st) σ D r := by
  have k : xV γ q pl ((.long (Int64.ofInt a + Int64.ofInt b) : Value) :: st) σ D r := by rw [← Int64.ofInt_add]; exact k
  subst hq
  obtain ⟨p, l, e, R, s, m, args, below, meth, c, Q, ω, n0, z0, n1, z1⟩ := γ
  obtain ⟨hx, hb, hml, hown, hts, hKF, hA, hfr, hlo, hce, hsl, hnm⟩ := hX
  intro g1 g2 g3 g4 H locs ls hR hS hL
  exact lv_ladd hx hb hd (k g1 g2 g3 g4 H locs ls hR hS hL)
theorem v_lsub (hX : xX γ cc nL y d) {a b : Int} (hd : decode cc pc = .ok (.lsub, 1)) (hq : pc + 1 = q) (k : xV γ q pl (vl (a - b) :: st) σ D r) : xV γ pc pl (vl b :: vl a :: st) σ D r := by
  have k : xV γ q pl ((.long (Int64.ofInt a - Int64.ofInt b) : Value) :: st) σ D r := by rw [← Int64.ofInt_sub]; exact k
  subst hq
  obtain ⟨p, l, e, R, s, m, args, below, meth, c, Q, ω, n0, z0, n1, z1⟩ := γ
  obtain ⟨hx, hb, hml, hown, hts, hKF, hA, hfr, hlo, hce, hsl, hnm⟩ := hX
  intro g1 g2 g3 g4 H locs ls hR hS hL
  exact lv_lsub hx hb hd (k g1 g2 g3 g4 H locs ls hR hS hL)
theorem v_lmul (hX : xX γ cc nL y d) {a b : Int} (hd : decode cc pc = .ok (.lmul, 1)) (hq : pc + 1 = q) (k : xV γ q pl (vl (a * b) :: st) σ D r) : xV γ pc pl (vl b :: vl a :: st) σ D r := by
  have k : xV γ q pl ((.long (Int64.ofInt a * Int64.ofInt b) : Value) :: st) σ D r := by rw [← Int64.ofInt_mul]; exact k
  subst hq
  obtain ⟨p, l, e, R, s, m, args, below, meth, c, Q, ω, n0, z0, n1, z1⟩ := γ
  obtain ⟨hx, hb, hml, hown, hts, hKF, hA, hfr, hlo, hce, hsl, hnm⟩ := hX
  intro g1 g2 g3 g4 H locs ls hR hS hL
  exact lv_lmul hx hb hd (k g1 g2 g3 g4 H locs ls hR hS hL)
theorem v_idiv (hX : xX γ cc nL y d) {a b : Int} (ha : 0 ≤ a) (ha2 : xI a) (hb0 : 0 < b) (hb2 : xI b) (hd : decode cc pc = .ok (.idiv, 1)) (hq : pc + 1 = q) (k : xV γ q pl (vi (a / b) :: st) σ D r) : xV γ pc pl (vi b :: vi a :: st) σ D r := by
  have h1 : Int32.ofInt (a / b) = Int32.ofInt a / Int32.ofInt b := by
    rw [← Int.tdiv_eq_ediv_of_nonneg ha]
    exact Int32.ofInt_tdiv (xi_min ha2).1 (xi_min ha2).2 (xi_min hb2).1 (xi_min hb2).2
  have k : xV γ q pl ((.int (Int32.ofInt a / Int32.ofInt b) : Value) :: st) σ D r := by rw [← h1]; exact k
  have hne : ¬ Int32.ofInt b = 0 := by
    rw [show (0 : Int32) = Int32.ofInt 0 from rfl, xi_eq hb2 (by decide)]; omega
  subst hq
  obtain ⟨p, l, e, R, s, m, args, below, meth, c, Q, ω, n0, z0, n1, z1⟩ := γ
  obtain ⟨hx, hb, hml, hown, hts, hKF, hA, hfr, hlo, hce, hsl, hnm⟩ := hX
  intro g1 g2 g3 g4 H locs ls hR hS hL
  exact lv_idiv hx hb hd hne (k g1 g2 g3 g4 H locs ls hR hS hL)
theorem v_ldiv (hX : xX γ cc nL y d) {a b : Int} (ha : 0 ≤ a) (ha2 : xJ a) (hb0 : 0 < b) (hb2 : xJ b) (hd : decode cc pc = .ok (.ldiv, 1)) (hq : pc + 1 = q) (k : xV γ q pl (vl (a / b) :: st) σ D r) : xV γ pc pl (vl b :: vl a :: st) σ D r := by
  have h1 : Int64.ofInt (a / b) = Int64.ofInt a / Int64.ofInt b := by
    rw [← Int.tdiv_eq_ediv_of_nonneg ha]
    exact Int64.ofInt_tdiv (xl_min ha2).1 (xl_min ha2).2 (xl_min hb2).1 (xl_min hb2).2
  have k : xV γ q pl ((.long (Int64.ofInt a / Int64.ofInt b) : Value) :: st) σ D r := by rw [← h1]; exact k
  have hne : ¬ Int64.ofInt b = 0 := by
    rw [show (0 : Int64) = Int64.ofInt 0 from rfl, xl_eq hb2 (by decide)]; omega
  subst hq
  obtain ⟨p, l, e, R, s, m, args, below, meth, c, Q, ω, n0, z0, n1, z1⟩ := γ
  obtain ⟨hx, hb, hml, hown, hts, hKF, hA, hfr, hlo, hce, hsl, hnm⟩ := hX
  intro g1 g2 g3 g4 H locs ls hR hS hL
  exact lv_ldiv hx hb hd hne (k g1 g2 g3 g4 H locs ls hR hS hL)
theorem v_iand (hX : xX γ cc nL y d) {a b : Int} (e : Int) (he : Int32.ofInt a &&& Int32.ofInt b = Int32.ofInt e) (hd : decode cc pc = .ok (.iand, 1)) (hq : pc + 1 = q) (k : xV γ q pl (vi e :: st) σ D r) : xV γ pc pl (vi b :: vi a :: st) σ D r := by
  have k : xV γ q pl ((.int (Int32.ofInt a &&& Int32.ofInt b) : Value) :: st) σ D r := by rw [he]; exact k
  subst hq
  obtain ⟨p, l, e, R, s, m, args, below, meth, c, Q, ω, n0, z0, n1, z1⟩ := γ
  obtain ⟨hx, hb, hml, hown, hts, hKF, hA, hfr, hlo, hce, hsl, hnm⟩ := hX
  intro g1 g2 g3 g4 H locs ls hR hS hL
  exact lv_iand hx hb hd (k g1 g2 g3 g4 H locs ls hR hS hL)
theorem v_ior (hX : xX γ cc nL y d) {a b : Int} (e : Int) (he : Int32.ofInt a ||| Int32.ofInt b = Int32.ofInt e) (hd : decode cc pc = .ok (.ior, 1)) (hq : pc + 1 = q) (k : xV γ q pl (vi e :: st) σ D r) : xV γ pc pl (vi b :: vi a :: st) σ D r := by
  have k : xV γ q pl ((.int (Int32.ofInt a ||| Int32.ofInt b) : Value) :: st) σ D r := by rw [he]; exact k
  subst hq
  obtain ⟨p, l, e, R, s, m, args, below, meth, c, Q, ω, n0, z0, n1, z1⟩ := γ
  obtain ⟨hx, hb, hml, hown, hts, hKF, hA, hfr, hlo, hce, hsl, hnm⟩ := hX
  intro g1 g2 g3 g4 H locs ls hR hS hL
  exact lv_ior hx hb hd (k g1 g2 g3 g4 H locs ls hR hS hL)
theorem v_ishl (hX : xX γ cc nL y d) {a b : Int} (e : Int) (he : Int32.ofInt a <<< (Int32.ofInt b &&& 31) = Int32.ofInt e) (hd : decode cc pc = .ok (.ishl, 1)) (hq : pc + 1 = q) (k : xV γ q pl (vi e :: st) σ D r) : xV γ pc pl (vi b :: vi a :: st) σ D r := by
  have k : xV γ q pl ((.int (Int32.ofInt a <<< (Int32.ofInt b &&& 31)) : Value) :: st) σ D r := by rw [he]; exact k
  subst hq
  obtain ⟨p, l, e, R, s, m, args, below, meth, c, Q, ω, n0, z0, n1, z1⟩ := γ
  obtain ⟨hx, hb, hml, hown, hts, hKF, hA, hfr, hlo, hce, hsl, hnm⟩ := hX
  intro g1 g2 g3 g4 H locs ls hR hS hL
  exact lv_ishl hx hb hd (k g1 g2 g3 g4 H locs ls hR hS hL)
theorem v_ishr (hX : xX γ cc nL y d) {a b : Int} (e : Int) (he : Int32.ofInt a >>> (Int32.ofInt b &&& 31) = Int32.ofInt e) (hd : decode cc pc = .ok (.ishr, 1)) (hq : pc + 1 = q) (k : xV γ q pl (vi e :: st) σ D r) : xV γ pc pl (vi b :: vi a :: st) σ D r := by
  have k : xV γ q pl ((.int (Int32.ofInt a >>> (Int32.ofInt b &&& 31)) : Value) :: st) σ D r := by rw [he]; exact k
  subst hq
  obtain ⟨p, l, e, R, s, m, args, below, meth, c, Q, ω, n0, z0, n1, z1⟩ := γ
  obtain ⟨hx, hb, hml, hown, hts, hKF, hA, hfr, hlo, hce, hsl, hnm⟩ := hX
  intro g1 g2 g3 g4 H locs ls hR hS hL
  exact lv_ishr hx hb hd (k g1 g2 g3 g4 H locs ls hR hS hL)
theorem v_land (hX : xX γ cc nL y d) {a b : Int} (e : Int) (he : Int64.ofInt a &&& Int64.ofInt b = Int64.ofInt e) (hd : decode cc pc = .ok (.land, 1)) (hq : pc + 1 = q) (k : xV γ q pl (vl e :: st) σ D r) : xV γ pc pl (vl b :: vl a :: st) σ D r := by
  have k : xV γ q pl ((.long (Int64.ofInt a &&& Int64.ofInt b) : Value) :: st) σ D r := by rw [he]; exact k
  subst hq
  obtain ⟨p, l, e, R, s, m, args, below, meth, c, Q, ω, n0, z0, n1, z1⟩ := γ
  obtain ⟨hx, hb, hml, hown, hts, hKF, hA, hfr, hlo, hce, hsl, hnm⟩ := hX
  intro g1 g2 g3 g4 H locs ls hR hS hL
  exact lv_land hx hb hd (k g1 g2 g3 g4 H locs ls hR hS hL)
theorem v_lor (hX : xX γ cc nL y d) {a b : Int} (e : Int) (he : Int64.ofInt a ||| Int64.ofInt b = Int64.ofInt e) (hd : decode cc pc = .ok (.lor, 1)) (hq : pc + 1 = q) (k : xV γ q pl (vl e :: st) σ D r) : xV γ pc pl (vl b :: vl a :: st) σ D r := by
  have k : xV γ q pl ((.long (Int64.ofInt a ||| Int64.ofInt b) : Value) :: st) σ D r := by rw [he]; exact k
  subst hq
  obtain ⟨p, l, e, R, s, m, args, below, meth, c, Q, ω, n0, z0, n1, z1⟩ := γ
  obtain ⟨hx, hb, hml, hown, hts, hKF, hA, hfr, hlo, hce, hsl, hnm⟩ := hX
  intro g1 g2 g3 g4 H locs ls hR hS hL
  exact lv_lor hx hb hd (k g1 g2 g3 g4 H locs ls hR hS hL)
theorem v_lushr (hX : xX γ cc nL y d) {a b : Int} (e : Int) (he : ((Int64.ofInt a).toUInt64 >>> ((Int32.ofInt b).toInt64.toUInt64 &&& Int64.toUInt64 63)).toInt64 = Int64.ofInt e) (hd : decode cc pc = .ok (.lushr, 1)) (hq : pc + 1 = q) (k : xV γ q pl (vl e :: st) σ D r) : xV γ pc pl (vi b :: vl a :: st) σ D r := by
  subst hq
  obtain ⟨p, l, e, R, s, m, args, below, meth, c, Q, ω, n0, z0, n1, z1⟩ := γ
  obtain ⟨hx, hb, hml, hown, hts, hKF, hA, hfr, hlo, hce, hsl, hnm⟩ := hX
  intro g1 g2 g3 g4 H locs ls hR hS hL
  exact lv_lushr hx hb hd he (k g1 g2 g3 g4 H locs ls hR hS hL)
theorem v_lshl (hX : xX γ cc nL y d) {a b : Int} (e : Int) (he : Int64.ofInt a <<< ((Int32.ofInt b).toInt64 &&& 63) = Int64.ofInt e) (hd : decode cc pc = .ok (.lshl, 1)) (hq : pc + 1 = q) (k : xV γ q pl (vl e :: st) σ D r) : xV γ pc pl (vi b :: vl a :: st) σ D r := by
  subst hq
  obtain ⟨p, l, e, R, s, m, args, below, meth, c, Q, ω, n0, z0, n1, z1⟩ := γ
  obtain ⟨hx, hb, hml, hown, hts, hKF, hA, hfr, hlo, hce, hsl, hnm⟩ := hX
  intro g1 g2 g3 g4 H locs ls hR hS hL
  exact lv_lshl hx hb hd he (k g1 g2 g3 g4 H locs ls hR hS hL)
theorem v_lshr (hX : xX γ cc nL y d) {a b : Int} (e : Int) (he : Int64.ofInt a >>> ((Int32.ofInt b).toInt64 &&& 63) = Int64.ofInt e) (hd : decode cc pc = .ok (.lshr, 1)) (hq : pc + 1 = q) (k : xV γ q pl (vl e :: st) σ D r) : xV γ pc pl (vi b :: vl a :: st) σ D r := by
  subst hq
  obtain ⟨p, l, e, R, s, m, args, below, meth, c, Q, ω, n0, z0, n1, z1⟩ := γ
  obtain ⟨hx, hb, hml, hown, hts, hKF, hA, hfr, hlo, hce, hsl, hnm⟩ := hX
  intro g1 g2 g3 g4 H locs ls hR hS hL
  exact lv_lshr hx hb hd he (k g1 g2 g3 g4 H locs ls hR hS hL)
theorem v_i2l (hX : xX γ cc nL y d) {a : Int} (ha : xI a) (hd : decode cc pc = .ok (.i2l, 1)) (hq : pc + 1 = q) (k : xV γ q pl (vl a :: st) σ D r) : xV γ pc pl (vi a :: st) σ D r := by
  subst hq
  obtain ⟨p, l, e, R, s, m, args, below, meth, c, Q, ω, n0, z0, n1, z1⟩ := γ
  obtain ⟨hx, hb, hml, hown, hts, hKF, hA, hfr, hlo, hce, hsl, hnm⟩ := hX
  intro g1 g2 g3 g4 H locs ls hR hS hL
  exact lv_i2l hx hb hd (Int32.toInt64_ofInt (xi_min ha).1 (xi_min ha).2) (k g1 g2 g3 g4 H locs ls hR hS hL)
theorem v_l2i (hX : xX γ cc nL y d) {a : Int} (hd : decode cc pc = .ok (.l2i, 1)) (hq : pc + 1 = q) (k : xV γ q pl (vi a :: st) σ D r) : xV γ pc pl (vl a :: st) σ D r := by
  subst hq
  obtain ⟨p, l, e, R, s, m, args, below, meth, c, Q, ω, n0, z0, n1, z1⟩ := γ
  obtain ⟨hx, hb, hml, hown, hts, hKF, hA, hfr, hlo, hce, hsl, hnm⟩ := hX
  intro g1 g2 g3 g4 H locs ls hR hS hL
  exact lv_l2i hx hb hd Int64.toInt32_ofInt (k g1 g2 g3 g4 H locs ls hR hS hL)
theorem v_i2c (hX : xX γ cc nL y d) {a : Int} (e : Int) (he : ((Int32.ofInt a).toUInt32 % 65536).toInt32 = Int32.ofInt e) (hd : decode cc pc = .ok (.i2c, 1)) (hq : pc + 1 = q) (k : xV γ q pl (vi e :: st) σ D r) : xV γ pc pl (vi a :: st) σ D r := by
  subst hq
  obtain ⟨p, l, e, R, s, m, args, below, meth, c, Q, ω, n0, z0, n1, z1⟩ := γ
  obtain ⟨hx, hb, hml, hown, hts, hKF, hA, hfr, hlo, hce, hsl, hnm⟩ := hX
  intro g1 g2 g3 g4 H locs ls hR hS hL
  exact lv_i2c hx hb hd he (k g1 g2 g3 g4 H locs ls hR hS hL)
theorem v_dup (hX : xX γ cc nL y d) {v : Value} (hv : v.category = 1) (hd : decode cc pc = .ok (.dup, 1)) (hq : pc + 1 = q) (k : xV γ q pl (v :: v :: st) σ D r) : xV γ pc pl (v :: st) σ D r := by
  subst hq
  obtain ⟨p, l, e, R, s, m, args, below, meth, c, Q, ω, n0, z0, n1, z1⟩ := γ
  obtain ⟨hx, hb, hml, hown, hts, hKF, hA, hfr, hlo, hce, hsl, hnm⟩ := hX
  intro g1 g2 g3 g4 H locs ls hR hS hL
  exact lv_dup hx hb hd (by rw [xcat]; exact hv) (k g1 g2 g3 g4 H locs ls hR hS hL)
theorem v_dup2_11 (hX : xX γ cc nL y d) {v w : Value} (hv : v.category = 1) (hw : w.category = 1) (hd : decode cc pc = .ok (.dup2, 1)) (hq : pc + 1 = q) (k : xV γ q pl (v :: w :: v :: w :: st) σ D r) : xV γ pc pl (v :: w :: st) σ D r := by
  subst hq
  obtain ⟨p, l, e, R, s, m, args, below, meth, c, Q, ω, n0, z0, n1, z1⟩ := γ
  obtain ⟨hx, hb, hml, hown, hts, hKF, hA, hfr, hlo, hce, hsl, hnm⟩ := hX
  intro g1 g2 g3 g4 H locs ls hR hS hL
  exact lv_dup2_11 hx hb hd (by rw [xcat]; exact hv) (by rw [xcat]; exact hw) (k g1 g2 g3 g4 H locs ls hR hS hL)
theorem v_goto (hX : xX γ cc nL y d) {off : Int} {tgt : Nat} (hd : decode cc pc = .ok (.goto off, 3)) (ht : (pc : Int) + off = (tgt : Int)) (k : xV γ tgt pl (st) σ D r) : xV γ pc pl (st) σ D r := by
  obtain ⟨p, l, e, R, s, m, args, below, meth, c, Q, ω, n0, z0, n1, z1⟩ := γ
  obtain ⟨hx, hb, hml, hown, hts, hKF, hA, hfr, hlo, hce, hsl, hnm⟩ := hX
  intro g1 g2 g3 g4 H locs ls hR hS hL
  exact lv_goto hx hb hd ht (k g1 g2 g3 g4 H locs ls hR hS hL)
theorem v_icmp_eq (hX : xX γ cc nL y d) {a b : Int} {off : Int} {tgt : Nat} (ha : xI a) (hb2 : xI b) (hd : decode cc pc = .ok (.if_icmp .eq off, 3)) (ht : (pc : Int) + off = (tgt : Int)) (hq : pc + 3 = q) (kt : a = b → xV γ tgt pl (st) σ D r) (kf : a ≠ b → xV γ q pl (st) σ D r) : xV γ pc pl (vi b :: vi a :: st) σ D r := by
  have H1 : Int32.ofInt a = Int32.ofInt b → a = b := fun h => (xi_eq ha hb2).mp h
  have H2 : ¬ (Int32.ofInt a = Int32.ofInt b) → a ≠ b := fun h z => h ((xi_eq ha hb2).mpr z)
  subst hq
  obtain ⟨p, l, e, R, s, m, args, below, meth, c, Q, ω, n0, z0, n1, z1⟩ := γ
  obtain ⟨hx, hb, hml, hown, hts, hKF, hA, hfr, hlo, hce, hsl, hnm⟩ := hX
  intro g1 g2 g3 g4 H locs ls hR hS hL
  exact lv_icmp_eq hx hb hd ht (fun h => kt (H1 h) g1 g2 g3 g4 H locs ls hR hS hL) (fun h => kf (H2 h) g1 g2 g3 g4 H locs ls hR hS hL)
theorem v_if_eq (hX : xX γ cc nL y d) {a : Int} {off : Int} {tgt : Nat} (ha : xI a) (hd : decode cc pc = .ok (.ifCond .eq off, 3)) (ht : (pc : Int) + off = (tgt : Int)) (hq : pc + 3 = q) (kt : a = (0 : Int) → xV γ tgt pl (st) σ D r) (kf : a ≠ (0 : Int) → xV γ q pl (st) σ D r) : xV γ pc pl (vi a :: st) σ D r := by
  have H1 : Int32.ofInt a = Int32.ofInt 0 → a = (0 : Int) := fun h => (xi_eq ha (show xI 0 by decide)).mp h
  have H2 : ¬ (Int32.ofInt a = Int32.ofInt 0) → a ≠ (0 : Int) := fun h z => h ((xi_eq ha (show xI 0 by decide)).mpr z)
  subst hq
  obtain ⟨p, l, e, R, s, m, args, below, meth, c, Q, ω, n0, z0, n1, z1⟩ := γ
  obtain ⟨hx, hb, hml, hown, hts, hKF, hA, hfr, hlo, hce, hsl, hnm⟩ := hX
  intro g1 g2 g3 g4 H locs ls hR hS hL
  exact lv_if_eq hx hb hd ht (fun h => kt (H1 h) g1 g2 g3 g4 H locs ls hR hS hL) (fun h => kf (H2 h) g1 g2 g3 g4 H locs ls hR hS hL)
theorem v_lcmp_eq (hX : xX γ cc nL y d) {a b : Int} {off : Int} {tgt : Nat} (ha : xJ a) (hb2 : xJ b) (hd : decode cc pc = .ok (.lcmp, 1)) (hd2 : decode cc (pc + 1) = .ok (.ifCond .eq off, 3)) (ht : ((pc + 1 : Nat) : Int) + off = (tgt : Int)) (hq : pc + 1 + 3 = q) (kt : a = b → xV γ tgt pl (st) σ D r) (kf : a ≠ b → xV γ q pl (st) σ D r) : xV γ pc pl (vl b :: vl a :: st) σ D r := by
  have H1 : lg_cmp (Int64.ofInt a) (Int64.ofInt b) = 0 → a = b := fun h => (((lg_cmp_eq (Int64.ofInt a) (Int64.ofInt b))).trans (xl_eq ha hb2)).mp h
  have H2 : ¬ (lg_cmp (Int64.ofInt a) (Int64.ofInt b) = 0) → a ≠ b := fun h z => h ((((lg_cmp_eq (Int64.ofInt a) (Int64.ofInt b))).trans (xl_eq ha hb2)).mpr z)
  subst hq
  obtain ⟨p, l, e, R, s, m, args, below, meth, c, Q, ω, n0, z0, n1, z1⟩ := γ
  obtain ⟨hx, hb, hml, hown, hts, hKF, hA, hfr, hlo, hce, hsl, hnm⟩ := hX
  intro g1 g2 g3 g4 H locs ls hR hS hL
  refine W.lcmp hx hb hd ?_
  exact lv_if_eq hx hb hd2 ht (fun h => kt (H1 h) g1 g2 g3 g4 H locs ls hR hS hL) (fun h => kf (H2 h) g1 g2 g3 g4 H locs ls hR hS hL)
theorem v_icmp_ne (hX : xX γ cc nL y d) {a b : Int} {off : Int} {tgt : Nat} (ha : xI a) (hb2 : xI b) (hd : decode cc pc = .ok (.if_icmp .ne off, 3)) (ht : (pc : Int) + off = (tgt : Int)) (hq : pc + 3 = q) (kt : a ≠ b → xV γ tgt pl (st) σ D r) (kf : a = b → xV γ q pl (st) σ D r) : xV γ pc pl (vi b :: vi a :: st) σ D r := by
  have H1 : ¬ Int32.ofInt a = Int32.ofInt b → a ≠ b := fun h => fun z => h ((xi_eq ha hb2).mpr z)
  have H2 : Int32.ofInt a = Int32.ofInt b → a = b := fun h => (xi_eq ha hb2).mp h
  subst hq
  obtain ⟨p, l, e, R, s, m, args, below, meth, c, Q, ω, n0, z0, n1, z1⟩ := γ
  obtain ⟨hx, hb, hml, hown, hts, hKF, hA, hfr, hlo, hce, hsl, hnm⟩ := hX
  intro g1 g2 g3 g4 H locs ls hR hS hL
  exact lv_icmp_ne hx hb hd ht (fun h => kt (H1 h) g1 g2 g3 g4 H locs ls hR hS hL) (fun h => kf (H2 h) g1 g2 g3 g4 H locs ls hR hS hL)
theorem v_if_ne (hX : xX γ cc nL y d) {a : Int} {off : Int} {tgt : Nat} (ha : xI a) (hd : decode cc pc = .ok (.ifCond .ne off, 3)) (ht : (pc : Int) + off = (tgt : Int)) (hq : pc + 3 = q) (kt : a ≠ (0 : Int) → xV γ tgt pl (st) σ D r) (kf : a = (0 : Int) → xV γ q pl (st) σ D r) : xV γ pc pl (vi a :: st) σ D r := by
  have H1 : ¬ Int32.ofInt a = Int32.ofInt 0 → a ≠ (0 : Int) := fun h => fun z => h ((xi_eq ha (show xI 0 by decide)).mpr z)
  have H2 : Int32.ofInt a = Int32.ofInt 0 → a = (0 : Int) := fun h => (xi_eq ha (show xI 0 by decide)).mp h
  subst hq
  obtain ⟨p, l, e, R, s, m, args, below, meth, c, Q, ω, n0, z0, n1, z1⟩ := γ
  obtain ⟨hx, hb, hml, hown, hts, hKF, hA, hfr, hlo, hce, hsl, hnm⟩ := hX
  intro g1 g2 g3 g4 H locs ls hR hS hL
  exact lv_if_ne hx hb hd ht (fun h => kt (H1 h) g1 g2 g3 g4 H locs ls hR hS hL) (fun h => kf (H2 h) g1 g2 g3 g4 H locs ls hR hS hL)
theorem v_lcmp_ne (hX : xX γ cc nL y d) {a b : Int} {off : Int} {tgt : Nat} (ha : xJ a) (hb2 : xJ b) (hd : decode cc pc = .ok (.lcmp, 1)) (hd2 : decode cc (pc + 1) = .ok (.ifCond .ne off, 3)) (ht : ((pc + 1 : Nat) : Int) + off = (tgt : Int)) (hq : pc + 1 + 3 = q) (kt : a ≠ b → xV γ tgt pl (st) σ D r) (kf : a = b → xV γ q pl (st) σ D r) : xV γ pc pl (vl b :: vl a :: st) σ D r := by
  have H1 : ¬ lg_cmp (Int64.ofInt a) (Int64.ofInt b) = 0 → a ≠ b := fun h => fun z => h ((((lg_cmp_eq (Int64.ofInt a) (Int64.ofInt b))).trans (xl_eq ha hb2)).mpr z)
  have H2 : lg_cmp (Int64.ofInt a) (Int64.ofInt b) = 0 → a = b := fun h => (((lg_cmp_eq (Int64.ofInt a) (Int64.ofInt b))).trans (xl_eq ha hb2)).mp h
  subst hq
  obtain ⟨p, l, e, R, s, m, args, below, meth, c, Q, ω, n0, z0, n1, z1⟩ := γ
  obtain ⟨hx, hb, hml, hown, hts, hKF, hA, hfr, hlo, hce, hsl, hnm⟩ := hX
  intro g1 g2 g3 g4 H locs ls hR hS hL
  refine W.lcmp hx hb hd ?_
  exact lv_if_ne hx hb hd2 ht (fun h => kt (H1 h) g1 g2 g3 g4 H locs ls hR hS hL) (fun h => kf (H2 h) g1 g2 g3 g4 H locs ls hR hS hL)
theorem v_icmp_lt (hX : xX γ cc nL y d) {a b : Int} {off : Int} {tgt : Nat} (ha : xI a) (hb2 : xI b) (hd : decode cc pc = .ok (.if_icmp .lt off, 3)) (ht : (pc : Int) + off = (tgt : Int)) (hq : pc + 3 = q) (kt : a < b → xV γ tgt pl (st) σ D r) (kf : b ≤ a → xV γ q pl (st) σ D r) : xV γ pc pl (vi b :: vi a :: st) σ D r := by
  have H1 : Int32.ofInt a < Int32.ofInt b → a < b := fun h => (xi_lt ha hb2).mp h
  have H2 : ¬ (Int32.ofInt a < Int32.ofInt b) → b ≤ a := fun h => Int.not_lt.mp (fun z => h ((xi_lt ha hb2).mpr z))
  subst hq
  obtain ⟨p, l, e, R, s, m, args, below, meth, c, Q, ω, n0, z0, n1, z1⟩ := γ
  obtain ⟨hx, hb, hml, hown, hts, hKF, hA, hfr, hlo, hce, hsl, hnm⟩ := hX
  intro g1 g2 g3 g4 H locs ls hR hS hL
  exact lv_icmp_lt hx hb hd ht (fun h => kt (H1 h) g1 g2 g3 g4 H locs ls hR hS hL) (fun h => kf (H2 h) g1 g2 g3 g4 H locs ls hR hS hL)
theorem v_if_lt (hX : xX γ cc nL y d) {a : Int} {off : Int} {tgt : Nat} (ha : xI a) (hd : decode cc pc = .ok (.ifCond .lt off, 3)) (ht : (pc : Int) + off = (tgt : Int)) (hq : pc + 3 = q) (kt : a < (0 : Int) → xV γ tgt pl (st) σ D r) (kf : (0 : Int) ≤ a → xV γ q pl (st) σ D r) : xV γ pc pl (vi a :: st) σ D r := by
  have H1 : Int32.ofInt a < Int32.ofInt 0 → a < (0 : Int) := fun h => (xi_lt ha (show xI 0 by decide)).mp h
  have H2 : ¬ (Int32.ofInt a < Int32.ofInt 0) → (0 : Int) ≤ a := fun h => Int.not_lt.mp (fun z => h ((xi_lt ha (show xI 0 by decide)).mpr z))
  subst hq
  obtain ⟨p, l, e, R, s, m, args, below, meth, c, Q, ω, n0, z0, n1, z1⟩ := γ
  obtain ⟨hx, hb, hml, hown, hts, hKF, hA, hfr, hlo, hce, hsl, hnm⟩ := hX
  intro g1 g2 g3 g4 H locs ls hR hS hL
  exact lv_if_lt hx hb hd ht (fun h => kt (H1 h) g1 g2 g3 g4 H locs ls hR hS hL) (fun h => kf (H2 h) g1 g2 g3 g4 H locs ls hR hS hL)
theorem v_lcmp_lt (hX : xX γ cc nL y d) {a b : Int} {off : Int} {tgt : Nat} (ha : xJ a) (hb2 : xJ b) (hd : decode cc pc = .ok (.lcmp, 1)) (hd2 : decode cc (pc + 1) = .ok (.ifCond .lt off, 3)) (ht : ((pc + 1 : Nat) : Int) + off = (tgt : Int)) (hq : pc + 1 + 3 = q) (kt : a < b → xV γ tgt pl (st) σ D r) (kf : b ≤ a → xV γ q pl (st) σ D r) : xV γ pc pl (vl b :: vl a :: st) σ D r := by
  have H1 : lg_cmp (Int64.ofInt a) (Int64.ofInt b) < 0 → a < b := fun h => (((lg_cmp_lt (Int64.ofInt a) (Int64.ofInt b))).trans (xl_lt ha hb2)).mp h
  have H2 : ¬ (lg_cmp (Int64.ofInt a) (Int64.ofInt b) < 0) → b ≤ a := fun h => Int.not_lt.mp (fun z => h ((((lg_cmp_lt (Int64.ofInt a) (Int64.ofInt b))).trans (xl_lt ha hb2)).mpr z))
  subst hq
  obtain ⟨p, l, e, R, s, m, args, below, meth, c, Q, ω, n0, z0, n1, z1⟩ := γ
  obtain ⟨hx, hb, hml, hown, hts, hKF, hA, hfr, hlo, hce, hsl, hnm⟩ := hX
  intro g1 g2 g3 g4 H locs ls hR hS hL
  refine W.lcmp hx hb hd ?_
  exact lv_if_lt hx hb hd2 ht (fun h => kt (H1 h) g1 g2 g3 g4 H locs ls hR hS hL) (fun h => kf (H2 h) g1 g2 g3 g4 H locs ls hR hS hL)
theorem v_icmp_ge (hX : xX γ cc nL y d) {a b : Int} {off : Int} {tgt : Nat} (ha : xI a) (hb2 : xI b) (hd : decode cc pc = .ok (.if_icmp .ge off, 3)) (ht : (pc : Int) + off = (tgt : Int)) (hq : pc + 3 = q) (kt : b ≤ a → xV γ tgt pl (st) σ D r) (kf : a < b → xV γ q pl (st) σ D r) : xV γ pc pl (vi b :: vi a :: st) σ D r := by
  have H1 : Int32.ofInt b ≤ Int32.ofInt a → b ≤ a := fun h => (xi_le hb2 ha).mp h
  have H2 : ¬ (Int32.ofInt b ≤ Int32.ofInt a) → a < b := fun h => Int.not_le.mp (fun z => h ((xi_le hb2 ha).mpr z))
  subst hq
  obtain ⟨p, l, e, R, s, m, args, below, meth, c, Q, ω, n0, z0, n1, z1⟩ := γ
  obtain ⟨hx, hb, hml, hown, hts, hKF, hA, hfr, hlo, hce, hsl, hnm⟩ := hX
  intro g1 g2 g3 g4 H locs ls hR hS hL
  exact lv_icmp_ge hx hb hd ht (fun h => kt (H1 h) g1 g2 g3 g4 H locs ls hR hS hL) (fun h => kf (H2 h) g1 g2 g3 g4 H locs ls hR hS hL)
theorem v_if_ge (hX : xX γ cc nL y d) {a : Int} {off : Int} {tgt : Nat} (ha : xI a) (hd : decode cc pc = .ok (.ifCond .ge off, 3)) (ht : (pc : Int) + off = (tgt : Int)) (hq : pc + 3 = q) (kt : (0 : Int) ≤ a → xV γ tgt pl (st) σ D r) (kf : a < (0 : Int) → xV γ q pl (st) σ D r) : xV γ pc pl (vi a :: st) σ D r := by
  have H1 : Int32.ofInt 0 ≤ Int32.ofInt a → (0 : Int) ≤ a := fun h => (xi_le (show xI 0 by decide) ha).mp h
  have H2 : ¬ (Int32.ofInt 0 ≤ Int32.ofInt a) → a < (0 : Int) := fun h => Int.not_le.mp (fun z => h ((xi_le (show xI 0 by decide) ha).mpr z))
  subst hq
  obtain ⟨p, l, e, R, s, m, args, below, meth, c, Q, ω, n0, z0, n1, z1⟩ := γ
  obtain ⟨hx, hb, hml, hown, hts, hKF, hA, hfr, hlo, hce, hsl, hnm⟩ := hX
  intro g1 g2 g3 g4 H locs ls hR hS hL
  exact lv_if_ge hx hb hd ht (fun h => kt (H1 h) g1 g2 g3 g4 H locs ls hR hS hL) (fun h => kf (H2 h) g1 g2 g3 g4 H locs ls hR hS hL)
theorem v_lcmp_ge (hX : xX γ cc nL y d) {a b : Int} {off : Int} {tgt : Nat} (ha : xJ a) (hb2 : xJ b) (hd : decode cc pc = .ok (.lcmp, 1)) (hd2 : decode cc (pc + 1) = .ok (.ifCond .ge off, 3)) (ht : ((pc + 1 : Nat) : Int) + off = (tgt : Int)) (hq : pc + 1 + 3 = q) (kt : b ≤ a → xV γ tgt pl (st) σ D r) (kf : a < b → xV γ q pl (st) σ D r) : xV γ pc pl (vl b :: vl a :: st) σ D r := by
  have H1 : 0 ≤ lg_cmp (Int64.ofInt a) (Int64.ofInt b) → b ≤ a := fun h => (((lg_cmp_ge (Int64.ofInt a) (Int64.ofInt b))).trans (xl_le hb2 ha)).mp h
  have H2 : ¬ (0 ≤ lg_cmp (Int64.ofInt a) (Int64.ofInt b)) → a < b := fun h => Int.not_le.mp (fun z => h ((((lg_cmp_ge (Int64.ofInt a) (Int64.ofInt b))).trans (xl_le hb2 ha)).mpr z))
  subst hq
  obtain ⟨p, l, e, R, s, m, args, below, meth, c, Q, ω, n0, z0, n1, z1⟩ := γ
  obtain ⟨hx, hb, hml, hown, hts, hKF, hA, hfr, hlo, hce, hsl, hnm⟩ := hX
  intro g1 g2 g3 g4 H locs ls hR hS hL
  refine W.lcmp hx hb hd ?_
  exact lv_if_ge hx hb hd2 ht (fun h => kt (H1 h) g1 g2 g3 g4 H locs ls hR hS hL) (fun h => kf (H2 h) g1 g2 g3 g4 H locs ls hR hS hL)
theorem v_icmp_gt (hX : xX γ cc nL y d) {a b : Int} {off : Int} {tgt : Nat} (ha : xI a) (hb2 : xI b) (hd : decode cc pc = .ok (.if_icmp .gt off, 3)) (ht : (pc : Int) + off = (tgt : Int)) (hq : pc + 3 = q) (kt : b < a → xV γ tgt pl (st) σ D r) (kf : a ≤ b → xV γ q pl (st) σ D r) : xV γ pc pl (vi b :: vi a :: st) σ D r := by
  have H1 : Int32.ofInt b < Int32.ofInt a → b < a := fun h => (xi_lt hb2 ha).mp h
  have H2 : ¬ (Int32.ofInt b < Int32.ofInt a) → a ≤ b := fun h => Int.not_lt.mp (fun z => h ((xi_lt hb2 ha).mpr z))
  subst hq
  obtain ⟨p, l, e, R, s, m, args, below, meth, c, Q, ω, n0, z0, n1, z1⟩ := γ
  obtain ⟨hx, hb, hml, hown, hts, hKF, hA, hfr, hlo, hce, hsl, hnm⟩ := hX
  intro g1 g2 g3 g4 H locs ls hR hS hL
  exact lv_icmp_gt hx hb hd ht (fun h => kt (H1 h) g1 g2 g3 g4 H locs ls hR hS hL) (fun h => kf (H2 h) g1 g2 g3 g4 H locs ls hR hS hL)
theorem v_if_gt (hX : xX γ cc nL y d) {a : Int} {off : Int} {tgt : Nat} (ha : xI a) (hd : decode cc pc = .ok (.ifCond .gt off, 3)) (ht : (pc : Int) + off = (tgt : Int)) (hq : pc + 3 = q) (kt : (0 : Int) < a → xV γ tgt pl (st) σ D r) (kf : a ≤ (0 : Int) → xV γ q pl (st) σ D r) : xV γ pc pl (vi a :: st) σ D r := by
  have H1 : Int32.ofInt 0 < Int32.ofInt a → (0 : Int) < a := fun h => (xi_lt (show xI 0 by decide) ha).mp h
  have H2 : ¬ (Int32.ofInt 0 < Int32.ofInt a) → a ≤ (0 : Int) := fun h => Int.not_lt.mp (fun z => h ((xi_lt (show xI 0 by decide) ha).mpr z))
  subst hq
  obtain ⟨p, l, e, R, s, m, args, below, meth, c, Q, ω, n0, z0, n1, z1⟩ := γ
  obtain ⟨hx, hb, hml, hown, hts, hKF, hA, hfr, hlo, hce, hsl, hnm⟩ := hX
  intro g1 g2 g3 g4 H locs ls hR hS hL
  exact lv_if_gt hx hb hd ht (fun h => kt (H1 h) g1 g2 g3 g4 H locs ls hR hS hL) (fun h => kf (H2 h) g1 g2 g3 g4 H locs ls hR hS hL)
theorem v_lcmp_gt (hX : xX γ cc nL y d) {a b : Int} {off : Int} {tgt : Nat} (ha : xJ a) (hb2 : xJ b) (hd : decode cc pc = .ok (.lcmp, 1)) (hd2 : decode cc (pc + 1) = .ok (.ifCond .gt off, 3)) (ht : ((pc + 1 : Nat) : Int) + off = (tgt : Int)) (hq : pc + 1 + 3 = q) (kt : b < a → xV γ tgt pl (st) σ D r) (kf : a ≤ b → xV γ q pl (st) σ D r) : xV γ pc pl (vl b :: vl a :: st) σ D r := by
  have H1 : 0 < lg_cmp (Int64.ofInt a) (Int64.ofInt b) → b < a := fun h => (((lg_cmp_gt (Int64.ofInt a) (Int64.ofInt b))).trans (xl_lt hb2 ha)).mp h
  have H2 : ¬ (0 < lg_cmp (Int64.ofInt a) (Int64.ofInt b)) → a ≤ b := fun h => Int.not_lt.mp (fun z => h ((((lg_cmp_gt (Int64.ofInt a) (Int64.ofInt b))).trans (xl_lt hb2 ha)).mpr z))
  subst hq
  obtain ⟨p, l, e, R, s, m, args, below, meth, c, Q, ω, n0, z0, n1, z1⟩ := γ
  obtain ⟨hx, hb, hml, hown, hts, hKF, hA, hfr, hlo, hce, hsl, hnm⟩ := hX
  intro g1 g2 g3 g4 H locs ls hR hS hL
  refine W.lcmp hx hb hd ?_
  exact lv_if_gt hx hb hd2 ht (fun h => kt (H1 h) g1 g2 g3 g4 H locs ls hR hS hL) (fun h => kf (H2 h) g1 g2 g3 g4 H locs ls hR hS hL)
theorem v_icmp_le (hX : xX γ cc nL y d) {a b : Int} {off : Int} {tgt : Nat} (ha : xI a) (hb2 : xI b) (hd : decode cc pc = .ok (.if_icmp .le off, 3)) (ht : (pc : Int) + off = (tgt : Int)) (hq : pc + 3 = q) (kt : a ≤ b → xV γ tgt pl (st) σ D r) (kf : b < a → xV γ q pl (st) σ D r) : xV γ pc pl (vi b :: vi a :: st) σ D r := by
  have H1 : Int32.ofInt a ≤ Int32.ofInt b → a ≤ b := fun h => (xi_le ha hb2).mp h
  have H2 : ¬ (Int32.ofInt a ≤ Int32.ofInt b) → b < a := fun h => Int.not_le.mp (fun z => h ((xi_le ha hb2).mpr z))
  subst hq
  obtain ⟨p, l, e, R, s, m, args, below, meth, c, Q, ω, n0, z0, n1, z1⟩ := γ
  obtain ⟨hx, hb, hml, hown, hts, hKF, hA, hfr, hlo, hce, hsl, hnm⟩ := hX
  intro g1 g2 g3 g4 H locs ls hR hS hL
  exact lv_icmp_le hx hb hd ht (fun h => kt (H1 h) g1 g2 g3 g4 H locs ls hR hS hL) (fun h => kf (H2 h) g1 g2 g3 g4 H locs ls hR hS hL)
theorem v_if_le (hX : xX γ cc nL y d) {a : Int} {off : Int} {tgt : Nat} (ha : xI a) (hd : decode cc pc = .ok (.ifCond .le off, 3)) (ht : (pc : Int) + off = (tgt : Int)) (hq : pc + 3 = q) (kt : a ≤ (0 : Int) → xV γ tgt pl (st) σ D r) (kf : (0 : Int) < a → xV γ q pl (st) σ D r) : xV γ pc pl (vi a :: st) σ D r := by
  have H1 : Int32.ofInt a ≤ Int32.ofInt 0 → a ≤ (0 : Int) := fun h => (xi_le ha (show xI 0 by decide)).mp h
  have H2 : ¬ (Int32.ofInt a ≤ Int32.ofInt 0) → (0 : Int) < a := fun h => Int.not_le.mp (fun z => h ((xi_le ha (show xI 0 by decide)).mpr z))
  subst hq
  obtain ⟨p, l, e, R, s, m, args, below, meth, c, Q, ω, n0, z0, n1, z1⟩ := γ
  obtain ⟨hx, hb, hml, hown, hts, hKF, hA, hfr, hlo, hce, hsl, hnm⟩ := hX
  intro g1 g2 g3 g4 H locs ls hR hS hL
  exact lv_if_le hx hb hd ht (fun h => kt (H1 h) g1 g2 g3 g4 H locs ls hR hS hL) (fun h => kf (H2 h) g1 g2 g3 g4 H locs ls hR hS hL)
theorem v_lcmp_le (hX : xX γ cc nL y d) {a b : Int} {off : Int} {tgt : Nat} (ha : xJ a) (hb2 : xJ b) (hd : decode cc pc = .ok (.lcmp, 1)) (hd2 : decode cc (pc + 1) = .ok (.ifCond .le off, 3)) (ht : ((pc + 1 : Nat) : Int) + off = (tgt : Int)) (hq : pc + 1 + 3 = q) (kt : a ≤ b → xV γ tgt pl (st) σ D r) (kf : b < a → xV γ q pl (st) σ D r) : xV γ pc pl (vl b :: vl a :: st) σ D r := by
  have H1 : lg_cmp (Int64.ofInt a) (Int64.ofInt b) ≤ 0 → a ≤ b := fun h => (((lg_cmp_le (Int64.ofInt a) (Int64.ofInt b))).trans (xl_le ha hb2)).mp h
  have H2 : ¬ (lg_cmp (Int64.ofInt a) (Int64.ofInt b) ≤ 0) → b < a := fun h => Int.not_le.mp (fun z => h ((((lg_cmp_le (Int64.ofInt a) (Int64.ofInt b))).trans (xl_le ha hb2)).mpr z))
  subst hq
  obtain ⟨p, l, e, R, s, m, args, below, meth, c, Q, ω, n0, z0, n1, z1⟩ := γ
  obtain ⟨hx, hb, hml, hown, hts, hKF, hA, hfr, hlo, hce, hsl, hnm⟩ := hX
  intro g1 g2 g3 g4 H locs ls hR hS hL
  refine W.lcmp hx hb hd ?_
  exact lv_if_le hx hb hd2 ht (fun h => kt (H1 h) g1 g2 g3 g4 H locs ls hR hS hL) (fun h => kf (H2 h) g1 g2 g3 g4 H locs ls hR hS hL)
theorem v_ifnonnull (hX : xX γ cc nL y d) {x : Nat} {off : Int} {tgt : Nat} (hd : decode cc pc = .ok (.ifnonnull off, 3)) (ht : (pc : Int) + off = (tgt : Int)) (k : xV γ tgt pl (st) σ D r) : xV γ pc pl (.ref x :: st) σ D r := by
  obtain ⟨p, l, e, R, s, m, args, below, meth, c, Q, ω, n0, z0, n1, z1⟩ := γ
  obtain ⟨hx, hb, hml, hown, hts, hKF, hA, hfr, hlo, hce, hsl, hnm⟩ := hX
  intro g1 g2 g3 g4 H locs ls hR hS hL
  exact lv_ifnonnull hx hb hd ht (k g1 g2 g3 g4 H locs ls hR hS hL)
theorem v_ifnull (hX : xX γ cc nL y d) {x : Nat} {off : Int} (hd : decode cc pc = .ok (.ifnull off, 3)) (hq : pc + 3 = q) (k : xV γ q pl (st) σ D r) : xV γ pc pl (.ref x :: st) σ D r := by
  subst hq
  obtain ⟨p, l, e, R, s, m, args, below, meth, c, Q, ω, n0, z0, n1, z1⟩ := γ
  obtain ⟨hx, hb, hml, hown, hts, hKF, hA, hfr, hlo, hce, hsl, hnm⟩ := hX
  intro g1 g2 g3 g4 H locs ls hR hS hL
  exact lv_ifnull hx hb hd (k g1 g2 g3 g4 H locs ls hR hS hL)
theorem v_ifnullN (hX : xX γ cc nL y d) {off : Int} {tgt : Nat} (hd : decode cc pc = .ok (.ifnull off, 3)) (ht : (pc : Int) + off = (tgt : Int)) (k : xV γ tgt pl (st) σ D r) : xV γ pc pl (.null :: st) σ D r := by
  obtain ⟨p, l, e, R, s, m, args, below, meth, c, Q, ω, n0, z0, n1, z1⟩ := γ
  obtain ⟨hx, hb, hml, hown, hts, hKF, hA, hfr, hlo, hce, hsl, hnm⟩ := hX
  intro g1 g2 g3 g4 H locs ls hR hS hL
  exact lv_ifnullN hx hb hd ht (k g1 g2 g3 g4 H locs ls hR hS hL)
theorem v_ifnonnullN (hX : xX γ cc nL y d) {off : Int} (hd : decode cc pc = .ok (.ifnonnull off, 3)) (hq : pc + 3 = q) (k : xV γ q pl (st) σ D r) : xV γ pc pl (.null :: st) σ D r := by
  subst hq
  obtain ⟨p, l, e, R, s, m, args, below, meth, c, Q, ω, n0, z0, n1, z1⟩ := γ
  obtain ⟨hx, hb, hml, hown, hts, hKF, hA, hfr, hlo, hce, hsl, hnm⟩ := hX
  intro g1 g2 g3 g4 H locs ls hR hS hL
  exact lv_ifnonnullN hx hb hd (k g1 g2 g3 g4 H locs ls hR hS hL)
theorem v_acmp_ne (hX : xX γ cc nL y d) {x w : Nat} {off : Int} {tgt : Nat} (hxa : 4 ≤ x) (hwa : 4 ≤ w) (hd : decode cc pc = .ok (.if_acmp .ne off, 3)) (ht : (pc : Int) + off = (tgt : Int)) (hq : pc + 3 = q) (kt : x ≠ w → xV γ tgt pl (st) σ D r) (kf : x = w → xV γ q pl (st) σ D r) : xV γ pc pl (.ref w :: .ref x :: st) σ D r := by
  subst hq
  obtain ⟨p, l, e, R, s, m, args, below, meth, c, Q, ω, n0, z0, n1, z1⟩ := γ
  obtain ⟨hx, hb, hml, hown, hts, hKF, hA, hfr, hlo, hce, hsl, hnm⟩ := hX
  intro g1 g2 g3 g4 H locs ls hR hS hL
  have inj : xad ω x = xad ω w → x = w := fun h => by rw [xad_ge ω hxa, xad_ge ω hwa] at h; omega
  exact lv_acmp_ne (rx := some (xad ω x)) (ry := some (xad ω w)) hx hb hd ht (fun h => kt (fun z => h (by rw [z])) g1 g2 g3 g4 H locs ls hR hS hL) (fun h => kf (inj (Option.some.inj h)) g1 g2 g3 g4 H locs ls hR hS hL)
theorem v_acmp_neN (hX : xX γ cc nL y d) {x : Nat} {off : Int} {tgt : Nat} (hd : decode cc pc = .ok (.if_acmp .ne off, 3)) (ht : (pc : Int) + off = (tgt : Int)) (k : xV γ tgt pl (st) σ D r) : xV γ pc pl (.null :: .ref x :: st) σ D r := by
  obtain ⟨p, l, e, R, s, m, args, below, meth, c, Q, ω, n0, z0, n1, z1⟩ := γ
  obtain ⟨hx, hb, hml, hown, hts, hKF, hA, hfr, hlo, hce, hsl, hnm⟩ := hX
  intro g1 g2 g3 g4 H locs ls hR hS hL
  exact lv_acmp_ne (rx := some (xad ω x)) (ry := none) hx hb hd ht (fun _ => (k g1 g2 g3 g4 H locs ls hR hS hL)) (fun h => by cases h)
theorem v_tableIn (hX : xX γ cc nL y d) {dflt lo hi : Int} {offs : Array Int} {len : Nat} {x off : Int} {tgt : Nat} (hxr : xI x) (hd : decode cc pc = .ok (.tableswitch dflt lo hi offs, len)) (h1 : lo ≤ x) (h2 : x ≤ hi) (ho : offs[(x - lo).toNat]? = some off) (ht : (pc : Int) + off = (tgt : Int)) (k : xV γ tgt pl (st) σ D r) : xV γ pc pl (vi x :: st) σ D r := by
  obtain ⟨p, l, e, R, s, m, args, below, meth, c, Q, ω, n0, z0, n1, z1⟩ := γ
  obtain ⟨hx, hb, hml, hown, hts, hKF, hA, hfr, hlo, hce, hsl, hnm⟩ := hX
  intro g1 g2 g3 g4 H locs ls hR hS hL
  exact lv_tableIn hx hb hd (by rw [xti hxr]; omega) (by rw [xti hxr]; omega) (by rw [xti hxr]; exact ho) ht (k g1 g2 g3 g4 H locs ls hR hS hL)
theorem v_tableOut (hX : xX γ cc nL y d) {dflt lo hi : Int} {offs : Array Int} {len : Nat} {x : Int} {tgt : Nat} (hxr : xI x) (hd : decode cc pc = .ok (.tableswitch dflt lo hi offs, len)) (h : x < lo ∨ hi < x) (ht : (pc : Int) + dflt = (tgt : Int)) (k : xV γ tgt pl (st) σ D r) : xV γ pc pl (vi x :: st) σ D r := by
  obtain ⟨p, l, e, R, s, m, args, below, meth, c, Q, ω, n0, z0, n1, z1⟩ := γ
  obtain ⟨hx, hb, hml, hown, hts, hKF, hA, hfr, hlo, hce, hsl, hnm⟩ := hX
  intro g1 g2 g3 g4 H locs ls hR hS hL
  exact lv_tableOut hx hb hd (by rw [xti hxr]; exact h) ht (k g1 g2 g3 g4 H locs ls hR hS hL)
theorem v_ireturn (hX : xX γ cc nL y d) {rt : Option FieldType} {σ' : Nat × Nat} {P : Option Value → xD → xR → Prop} (hRX : xRX γ rt σ' P) {a : Int} {ty : FieldType} (hty : rt = some ty) (hn : narrow ty (vi a) = vi a) (hd : decode cc pc = .ok (.ireturn, 1)) (hσ : σ.1 = σ'.1) (hP : P (some (vi a)) D r) : xV γ pc pl ([vi a]) σ D r := by
  obtain ⟨p, l, e, R, s, m, args, below, meth, c, Q, ω, n0, z0, n1, z1⟩ := γ
  obtain ⟨hx, hb, hml, hown, hts, hKF, hA, hfr, hlo, hce, hsl, hnm⟩ := hX
  obtain ⟨hQ, hrt, hlk, e1, e2⟩ := hRX
  subst hQ
  intro g1 g2 g3 g4 H locs ls hR hS hL
  refine W.widen (k := n1 - n0) (n := z1 - z0) (Nat.sub_le_sub_right g3 n0) (Nat.sub_le_sub_right g4 z0) ?_
  exact W.zret (v := Int32.ofInt a) hx hb (hrt.trans hty) hn (fun t ht hW => ⟨⟨some (vi a), D, r, rfl, hP, by rw [ht, ← hσ]; exact hR⟩, hS.F ht⟩) hS.2.2 hd hlk
theorem v_lreturn (hX : xX γ cc nL y d) {rt : Option FieldType} {σ' : Nat × Nat} {P : Option Value → xD → xR → Prop} (hRX : xRX γ rt σ' P) {a : Int} (hty : rt = some .long) (hd : decode cc pc = .ok (.lreturn, 1)) (hσ : σ.1 = σ'.1) (hP : P (some (vl a)) D r) : xV γ pc pl ([vl a]) σ D r := by
  obtain ⟨p, l, e, R, s, m, args, below, meth, c, Q, ω, n0, z0, n1, z1⟩ := γ
  obtain ⟨hx, hb, hml, hown, hts, hKF, hA, hfr, hlo, hce, hsl, hnm⟩ := hX
  obtain ⟨hQ, hrt, hlk, e1, e2⟩ := hRX
  subst hQ
  intro g1 g2 g3 g4 H locs ls hR hS hL
  refine W.widen (k := n1 - n0) (n := z1 - z0) (Nat.sub_le_sub_right g3 n0) (Nat.sub_le_sub_right g4 z0) ?_
  exact W.lret (v := Int64.ofInt a) hx hb (hrt.trans hty) (fun t ht hW => ⟨⟨some (vl a), D, r, rfl, hP, by rw [ht, ← hσ]; exact hR⟩, hS.F ht⟩) hS.2.2 hd hlk
theorem v_vreturn (hX : xX γ cc nL y d) {rt : Option FieldType} {σ' : Nat × Nat} {P : Option Value → xD → xR → Prop} (hRX : xRX γ rt σ' P) (hty : rt = none) (hd : decode cc pc = .ok (.return_, 1)) (hσ : σ.1 = σ'.1) (hP : P (none) D r) : xV γ pc pl ([]) σ D r := by
  obtain ⟨p, l, e, R, s, m, args, below, meth, c, Q, ω, n0, z0, n1, z1⟩ := γ
  obtain ⟨hx, hb, hml, hown, hts, hKF, hA, hfr, hlo, hce, hsl, hnm⟩ := hX
  obtain ⟨hQ, hrt, hlk, e1, e2⟩ := hRX
  subst hQ
  intro g1 g2 g3 g4 H locs ls hR hS hL
  refine W.widen (k := n1 - n0) (n := z1 - z0) (Nat.sub_le_sub_right g3 n0) (Nat.sub_le_sub_right g4 z0) ?_
  exact W.vret hx hb (hrt.trans hty) (fun t ht hW => ⟨⟨none, D, r, rfl, hP, by rw [ht, ← hσ]; exact hR⟩, hS.F ht⟩) hS.2.2 hd hlk
theorem v_areturn (hX : xX γ cc nL y d) {rt : Option FieldType} {σ' : Nat × Nat} {P : Option Value → xD → xR → Prop} (hRX : xRX γ rt σ' P) {x : Nat} {nm : String} (hty : rt = some (.object nm)) (hd : decode cc pc = .ok (.areturn, 1)) (hσ : σ.1 = σ'.1) (hP : P (some (.ref x)) D r) : xV γ pc pl ([.ref x]) σ D r := by
  obtain ⟨p, l, e, R, s, m, args, below, meth, c, Q, ω, n0, z0, n1, z1⟩ := γ
  obtain ⟨hx, hb, hml, hown, hts, hKF, hA, hfr, hlo, hce, hsl, hnm⟩ := hX
  obtain ⟨hQ, hrt, hlk, e1, e2⟩ := hRX
  subst hQ
  intro g1 g2 g3 g4 H locs ls hR hS hL
  refine W.widen (k := n1 - n0) (n := z1 - z0) (Nat.sub_le_sub_right g3 n0) (Nat.sub_le_sub_right g4 z0) ?_
  exact W.aret (v := .ref (xad ω x)) hx hb (hrt.trans hty) (Or.inl ⟨nm, rfl⟩) (Or.inr ⟨_, rfl⟩) (fun t ht hW => ⟨⟨some (.ref x), D, r, rfl, hP, by rw [ht, ← hσ]; exact hR⟩, hS.F ht⟩) hS.2.2 hd hlk
theorem v_areturnN (hX : xX γ cc nL y d) {rt : Option FieldType} {σ' : Nat × Nat} {P : Option Value → xD → xR → Prop} (hRX : xRX γ rt σ' P) {nm : String} (hty : rt = some (.object nm)) (hd : decode cc pc = .ok (.areturn, 1)) (hσ : σ.1 = σ'.1) (hP : P (some .null) D r) : xV γ pc pl ([.null]) σ D r := by
  obtain ⟨p, l, e, R, s, m, args, below, meth, c, Q, ω, n0, z0, n1, z1⟩ := γ
  obtain ⟨hx, hb, hml, hown, hts, hKF, hA, hfr, hlo, hce, hsl, hnm⟩ := hX
  obtain ⟨hQ, hrt, hlk, e1, e2⟩ := hRX
  subst hQ
  intro g1 g2 g3 g4 H locs ls hR hS hL
  refine W.widen (k := n1 - n0) (n := z1 - z0) (Nat.sub_le_sub_right g3 n0) (Nat.sub_le_sub_right g4 z0) ?_
  exact W.aret (v := .null) hx hb (hrt.trans hty) (Or.inl ⟨nm, rfl⟩) (Or.inl rfl) (fun t ht hW => ⟨⟨some .null, D, r, rfl, hP, by rw [ht, ← hσ]; exact hR⟩, hS.F ht⟩) hS.2.2 hd hlk
end XV
end
section
/-! ===== the heap's rows ===== -/
def xcn : Nat → String
  | 0 => RX0 | 1 => RX1 | 2 => RX2 | 3 => RX3 | 4 => RX4 | _ => RX5
/-- a link of the pool of 'own' that names the field j of the class ci -/
def xFL (own : String) (idx ci j : Nat) (fin : Bool) : Prop := ∃ (T : u_T), ci < 6 ∧ vwCl[ci]? = some (xcn ci, T, xN ci) ∧ j < xN ci ∧ (∀ w ∈ u_ws (xcn ci) T (xN ci), w ∈ xtb) ∧ (∀ k, k < xN ci → parseFieldDescriptor (T k).2.2.1 = some (xty ci k))
  ∧ (∀ a, a < xN ci → ∀ b, b < xN ci → a ≠ b → (T a).2.1 ≠ (T b).2.1) ∧ Cond.fieldLink own idx (T j).1 (T j).2.1 (T j).2.2.1 ∈ xtb ∧ (T j).2.2.2 = fin ∧ (T j).1 = xcn ci
theorem xRep.put {ω : xW} {n : Nat} {D D' : xD} {r r' : xR} {H H1 : Heap} {k : Nat} (hR : xRep ω n D r H) (hk : 4 ≤ k) (hkn : k < n) (z : H1.size = H.size) (oq : ∀ q : Nat, q ≠ xad ω k → H1[q]? = H[q]?) (hat : va_at ω.1 vwCl (xad ω k, xent ω D' r' k) H1)
    (hD : ∀ q, q ≠ k → D' q = D q) (hr : ∀ q, q ≠ k → r' q = r q) : xRep ω n D' r' H1 := by
  refine ⟨fun hn => by rw [z]; exact hR.1 hn, hR.2.1, ?_⟩
  have h := hR.2.2.set (xws_D ω n D r) (xws_at ω D r hk hkn) hat oq
  rwa [xws_set ω hk hkn rfl hD hr] at h
theorem xRep.cell {ω : xW} {n : Nat} {D : xD} {r : xR} {H : Heap} (hR : xRep ω n D r H) {k c z : Nat} (hk : 4 ≤ k) (hkn : k < n) (hs : xSH k = (c, z)) (hc : ¬ c < 6) : H[xad ω k]? = some (vp_cell (ω.2.1 c) (z, xarr ω c D r k)) := by
  have h := hR.2.2 _ _ (xws_at ω D r hk hkn)
  rw [xent_arr ω hs hc] at h
  exact h
theorem xA_ad (ω : xW) {k : Nat} (h : 4 ≤ k) : xA ω (xad ω k) := by
  show ω.2.2.2 ≤ xad ω k
  rw [xad_ge ω h]; omega
section XH
variable {γ : xC} {cc : ByteArray} {nL d : Nat} {y : MethodName} {pc q : Nat} {pl : List (Option Value)} {st : List Value} {σ : Nat × Nat} {D : xD} {r : xR}
theorem v_getX (hX : xX γ cc nL y d) {idx ci j a z : Nat} {fin : Bool} (hf : xFL y.cls idx ci j fin) (hs : xSH a = (ci, z)) (ha : 4 ≤ a) (han : a < σ.1) {v : Value} (hv : ∀ ω, xfv ω ci D r a j = xtr ω v) (hd : decode cc pc = .ok (.getfield idx, 3)) (hq : pc + 3 = q)
    (k : xV γ q pl (v :: st) σ D r) : xV γ pc pl (.ref a :: st) σ D r := by
  subst hq
  obtain ⟨p, l, e, R, s, m, args, below, meth, c, Q, ω, n0, z0, n1, z1⟩ := γ
  obtain ⟨hx, hb, hml, hown, hts, hKF, hA, hfr, hlo, hce, hsl, hnm⟩ := hX
  obtain ⟨T, h6, hcl, hj, hws, hty, hnn, hlk, hfin, hcn⟩ := hf
  intro g1 g2 g3 g4 H locs ls hR hS hL
  have h0 := xws_at ω D r ha han
  rw [xent_obj ω hs h6] at h0
  have hk := k g1 g2 g3 g4 H locs ls hR hS hL
  rw [List.map_cons, ← hv ω] at hk
  exact va_get (D := ω.1) (ci := ci) (C := xcn ci) (T := T) (N := xN ci) hx hb hts hws hown hKF.1 hR.2.2 (a - 4) h0 hcl j hj (hts _ hlk) (fun _ h9 => by rw [← hcn] at *; exact h9) (xfs_get ω hj) hd hk
theorem v_getI (hX : xX γ cc nL y d) {idx ci j a z : Nat} {fin : Bool} (hf : xFL y.cls idx ci j fin) (hk : xkd (xty ci j) = 0) (hs : xSH a = (ci, z)) (ha : 4 ≤ a) (han : a < σ.1) (hd : decode cc pc = .ok (.getfield idx, 3)) (hq : pc + 3 = q)
    (k : xV γ q pl (vi (D a j) :: st) σ D r) : xV γ pc pl (.ref a :: st) σ D r := v_getX hX hf hs ha han (v := vi (D a j)) (fun ω => by unfold xfv; rw [hk]; rfl) hd hq k
theorem v_getL (hX : xX γ cc nL y d) {idx ci j a z : Nat} {fin : Bool} (hf : xFL y.cls idx ci j fin) (hk : xkd (xty ci j) = 1) (hs : xSH a = (ci, z)) (ha : 4 ≤ a) (han : a < σ.1) (hd : decode cc pc = .ok (.getfield idx, 3)) (hq : pc + 3 = q)
    (k : xV γ q pl (vl (D a j) :: st) σ D r) : xV γ pc pl (.ref a :: st) σ D r := v_getX hX hf hs ha han (v := vl (D a j)) (fun ω => by unfold xfv; rw [hk]; rfl) hd hq k
theorem v_getR (hX : xX γ cc nL y d) {idx ci j a z : Nat} {fin : Bool} (hf : xFL y.cls idx ci j fin) (hk : xkd (xty ci j) = 2) (hs : xSH a = (ci, z)) (ha : 4 ≤ a) (han : a < σ.1) {b : Nat} (hr : r a j = some b) (hd : decode cc pc = .ok (.getfield idx, 3)) (hq : pc + 3 = q)
    (k : xV γ q pl (.ref b :: st) σ D r) : xV γ pc pl (.ref a :: st) σ D r := v_getX hX hf hs ha han (v := .ref b) (fun ω => by unfold xfv; rw [hk]; show va_rf ((r a j).map (xad ω)) = _; rw [hr]; rfl) hd hq k
theorem v_putX (hX : xX γ cc nL y d) {idx ci j a z : Nat} (hf : xFL y.cls idx ci j false) (hs : xSH a = (ci, z)) (ha : 4 ≤ a) (han : a < σ.1) {v : Value} {D' : xD} {r' : xR} (hv : ∀ ω, xfv ω ci D' r' a j = xtr ω v) (hn : ∀ ω, narrow (xty ci j) (xtr ω v) = xtr ω v) (hfit : ∀ ω, fits (xty ci j) (xtr ω v) = true)
    (hD : ∀ q, q ≠ a → D' q = D q) (hr : ∀ q, q ≠ a → r' q = r q) (hD2 : ∀ i, i ≠ j → D' a i = D a i) (hr2 : ∀ i, i ≠ j → r' a i = r a i) (hd : decode cc pc = .ok (.putfield idx, 3)) (hq : pc + 3 = q)
    (k : xV γ q pl st σ D' r') : xV γ pc pl (v :: .ref a :: st) σ D r := by
  subst hq
  obtain ⟨p, l, e, R, s, m, args, below, meth, c, Q, ω, n0, z0, n1, z1⟩ := γ
  obtain ⟨hx, hb, hml, hown, hts, hKF, hA, hfr, hlo, hce, hsl, hnm⟩ := hX
  obtain ⟨T, h6, hcl, hj, hws, hty, hnn, hlk, hfin, hcn⟩ := hf
  intro g1 g2 g3 g4 H locs ls hR hS hL
  have h0 := xws_at ω D r ha han
  rw [xent_obj ω hs h6] at h0
  have hap := va_apart (own := y.cls) hts hws (xty ci) hty hnn hKF.1 hcl
  obtain ⟨rr, h1, cell, q1, q2, q3, q4⟩ := hR.2.2 _ _ h0
  obtain rfl : rr = (xcn ci, T, xN ci) := Option.some.inj (h1.symm.trans hcl)
  obtain ⟨hSl, hfc, kC, hkC, hkind⟩ := hKF.1.1 ci _ hcl
  obtain ⟨cf, kf, fi, f, hi, hsl2⟩ := hSl j hj
  have hlay := hts _ (hws _ (u_in_lay hj))
  unfold u_lay at hlay
  rw [if_neg (by rw [hfin]; decide)] at hlay
  refine W.putK hx hb (f := f) ⟨hown, hts _ hlk, ⟨_, _, _, hi⟩, (u_facts hfc hkC (u_lays hts hws hj) hi).1⟩ (by rw [q2]; exact u_store hfc hkC hkind hlay hi (hty j hj) (hn ω) (hfit ω)) q1 q3 (by rw [hsl2]; exact k2_hasslot (q4 j hj)) rfl rfl hd fun H' e1 e2 e3 => ?_
  rw [hsl2] at e1 ⊢
  refine k g1 g2 g3 g4 H' _ ls (hR.put ha han e2 e3 ?_ hD hr) (hS.put e2 e3 (xA_ad ω ha)) hL
  rw [xent_obj ω hs h6, ← xfs_set ω (D := D) (r := r) (xtr ω v) hj (hv ω).symm hD2 hr2]
  exact ⟨_, hcl, t_OB.to (V := updV (vp_V ((List.range (xN ci)).map (xfv ω ci D r a))) j (xtr ω v)) ⟨_, e1, q2, q3, t_set q4 hap hj (xtr ω v)⟩ (fun i _ => vp_updV_set (by simpa using hj) (xtr ω v) i)⟩
theorem v_putI (hX : xX γ cc nL y d) {idx ci j a z : Nat} {e : Int} (hf : xFL y.cls idx ci j false) (hk : xkd (xty ci j) = 0) (hn : narrow (xty ci j) (vi e) = vi e) (hfit : fits (xty ci j) (vi e) = true) (hs : xSH a = (ci, z)) (ha : 4 ≤ a) (han : a < σ.1) (hd : decode cc pc = .ok (.putfield idx, 3)) (hq : pc + 3 = q)
    (k : xV γ q pl st σ (xu D a j e) r) : xV γ pc pl (vi e :: .ref a :: st) σ D r :=
  v_putX hX hf hs ha han (v := vi e) (D' := xu D a j e) (r' := r) (fun ω => by unfold xfv; rw [hk]; show vi (xu D a j e a j) = _; rw [xu_at]; rfl) (fun _ => hn) (fun _ => hfit) (fun _ h => xu_row D a j e h) (fun _ _ => rfl) (fun _ h => xu_ne D a j e (Or.inr h)) (fun _ _ => rfl) hd hq k
theorem v_putL (hX : xX γ cc nL y d) {idx ci j a z : Nat} {e : Int} (hf : xFL y.cls idx ci j false) (hk : xty ci j = .long) (hs : xSH a = (ci, z)) (ha : 4 ≤ a) (han : a < σ.1) (hd : decode cc pc = .ok (.putfield idx, 3)) (hq : pc + 3 = q)
    (k : xV γ q pl st σ (xu D a j e) r) : xV γ pc pl (vl e :: .ref a :: st) σ D r :=
  v_putX hX hf hs ha han (v := vl e) (D' := xu D a j e) (r' := r) (fun ω => by unfold xfv; rw [hk]; show vl (xu D a j e a j) = _; rw [xu_at]; rfl) (fun _ => by rw [hk]; rfl) (fun _ => by rw [hk]; rfl) (fun _ h => xu_row D a j e h) (fun _ _ => rfl) (fun _ h => xu_ne D a j e (Or.inr h)) (fun _ _ => rfl) hd hq k
/-- a final field of the object that its constructor makes -/
theorem v_putF (hX : xX γ cc nL y d) {idx ci j a z b : Nat} (hf : xFL y.cls idx ci j true) (hk : xkd (xty ci j) = 2) (hn : ∀ b : Nat, narrow (xty ci j) (.ref b) = .ref b) (hfit : ∀ b : Nat, fits (xty ci j) (.ref b) = true) (hy : y.cls = xcn ci) (hy2 : y.name = "<init>") (hs : xSH a = (ci, z)) (ha : 4 ≤ a) (han : a < σ.1) (hd : decode cc pc = .ok (.putfield idx, 3)) (hq : pc + 3 = q)
    (k : xV γ q pl st σ D (xur r a j (some b))) : xV γ pc pl (.ref b :: .ref a :: st) σ D r := by
  subst hq
  obtain ⟨p, l, e, R, s, m, args, below, meth, c, Q, ω, n0, z0, n1, z1⟩ := γ
  obtain ⟨hx, hb, hml, hown, hts, hKF, hA, hfr, hlo, hce, hsl, hnm⟩ := hX
  obtain ⟨T, h6, hcl, hj, hws, hty, hnn, hlk, hfin, hcn⟩ := hf
  intro g1 g2 g3 g4 H locs ls hR hS hL
  have h0 := xws_at ω D r ha han
  rw [xent_obj ω hs h6] at h0
  have hap := va_apart (own := y.cls) hts hws (xty ci) hty hnn hKF.1 hcl
  obtain ⟨rr, h1, cell, q1, q2, q3, q4⟩ := hR.2.2 _ _ h0
  obtain rfl : rr = (xcn ci, T, xN ci) := Option.some.inj (h1.symm.trans hcl)
  obtain ⟨hSl, hfc, kC, hkC, hkind⟩ := hKF.1.1 ci _ hcl
  obtain ⟨cf, kf, fi, f, hi, hsl2⟩ := hSl j hj
  have hlay := hts _ (hws _ (u_in_lay hj))
  unfold u_lay at hlay
  rw [if_pos hfin] at hlay
  have hcf : m.cls = cf := by
    obtain ⟨_, _, c', _, _, _, -, -, hf', -, -, -, hown2, -⟩ := Cond.laysFinal_spec hlay
    have e1 : c' = cf := by have := hi.symm.trans hf'; simp at this; exact this.1.symm
    rw [hcn, ← hy] at hown2
    rw [← e1]; exact Option.some.inj (hown.symm.trans hown2)
  refine W.putFinK hx hb hown (hts _ hlk) hi (u_facts hfc hkC (u_lays hts hws hj) hi).1 hcf (hnm.trans hy2) (by rw [q2]; exact u_fits hfc hkC hkind (Or.inr hlay) hi (hty j hj) (hn (xad ω b)) (hfit (xad ω b))) q1 q3 (by rw [hsl2]; exact k2_hasslot (q4 j hj)) rfl rfl hd fun H' e1 e2 e3 => ?_
  rw [hsl2] at e1 ⊢
  refine k g1 g2 g3 g4 H' _ ls (hR.put ha han e2 e3 ?_ (fun _ _ => rfl) (fun _ h => xur_row r a j _ h)) (hS.put e2 e3 (xA_ad ω ha)) hL
  rw [xent_obj ω hs h6, ← xfs_set ω (D := D) (r := r) (.ref (xad ω b)) hj (by unfold xfv; rw [hk, xur_at]; rfl) (fun _ _ => rfl) (fun _ h => xur_ne r a j _ (Or.inr h))]
  exact ⟨_, hcl, t_OB.to (V := updV (vp_V ((List.range (xN ci)).map (xfv ω ci D r a))) j (.ref (xad ω b))) ⟨_, e1, q2, q3, t_set q4 hap hj (.ref (xad ω b))⟩ (fun i _ => vp_updV_set (by simpa using hj) (.ref (xad ω b)) i)⟩
theorem v_iaload (hX : xX γ cc nL y d) {a kk z : Nat} {i : Int} (hi : i = (kk : Int)) (hk : kk < z) (hz : z ≤ 100000) (hs : xSH a = (10, z)) (ha : 4 ≤ a) (han : a < σ.1) (hd : decode cc pc = .ok (.iaload, 1)) (hq : pc + 1 = q)
    (k : xV γ q pl (vi (D a kk) :: st) σ D r) : xV γ pc pl (vi i :: .ref a :: st) σ D r := by
  subst hq; subst hi
  obtain ⟨p, l, e, R, s, m, args, below, meth, c, Q, ω, n0, z0, n1, z1⟩ := γ
  obtain ⟨hx, hb, hml, hown, hts, hKF, hA, hfr, hlo, hce, hsl, hnm⟩ := hX
  intro g1 g2 g3 g4 H locs ls hR hS hL
  obtain ⟨hin, hto⟩ := xi_in hk hz
  have h0 := xws_at ω D r ha han
  rw [xent_arr ω hs (by decide)] at h0
  have hk2 := k g1 g2 g3 g4 H locs ls hR hS hL
  refine va_iald hx hb hKF.1 hR.2.2 (a - 4) 0 h0 rfl hin hd ?_
  rw [hto]
  exact hk2
theorem v_laload (hX : xX γ cc nL y d) {a kk z : Nat} {i : Int} (hi : i = (kk : Int)) (hk : kk < z) (hz : z ≤ 100000) (hs : xSH a = (11, z)) (ha : 4 ≤ a) (han : a < σ.1) (hd : decode cc pc = .ok (.laload, 1)) (hq : pc + 1 = q)
    (k : xV γ q pl (vl (D a kk) :: st) σ D r) : xV γ pc pl (vi i :: .ref a :: st) σ D r := by
  subst hq; subst hi
  obtain ⟨p, l, e, R, s, m, args, below, meth, c, Q, ω, n0, z0, n1, z1⟩ := γ
  obtain ⟨hx, hb, hml, hown, hts, hKF, hA, hfr, hlo, hce, hsl, hnm⟩ := hX
  intro g1 g2 g3 g4 H locs ls hR hS hL
  obtain ⟨hin, hto⟩ := xi_in hk hz
  have h0 := xws_at ω D r ha han
  rw [xent_arr ω hs (by decide)] at h0
  have hk2 := k g1 g2 g3 g4 H locs ls hR hS hL
  refine va_lald hx hb hKF.1 hR.2.2 (a - 4) 1 h0 rfl hin hd ?_
  rw [hto]
  exact hk2
theorem v_caload (hX : xX γ cc nL y d) {a kk z : Nat} {i : Int} (hi : i = (kk : Int)) (hk : kk < z) (hz : z ≤ 100000) (hs : xSH a = (12, z)) (ha : 4 ≤ a) (han : a < σ.1) (hd : decode cc pc = .ok (.caload, 1)) (hq : pc + 1 = q)
    (k : xV γ q pl (vi (D a kk) :: st) σ D r) : xV γ pc pl (vi i :: .ref a :: st) σ D r := by
  subst hq; subst hi
  obtain ⟨p, l, e, R, s, m, args, below, meth, c, Q, ω, n0, z0, n1, z1⟩ := γ
  obtain ⟨hx, hb, hml, hown, hts, hKF, hA, hfr, hlo, hce, hsl, hnm⟩ := hX
  intro g1 g2 g3 g4 H locs ls hR hS hL
  obtain ⟨hin, hto⟩ := xi_in hk hz
  have h0 := xws_at ω D r ha han
  rw [xent_arr ω hs (by decide)] at h0
  have hk2 := k g1 g2 g3 g4 H locs ls hR hS hL
  refine va_cald hx hb hKF.1 hR.2.2 (a - 4) 2 h0 rfl hin hd ?_
  rw [hto]
  exact hk2
theorem v_baload (hX : xX γ cc nL y d) {a kk z : Nat} {i : Int} (hi : i = (kk : Int)) (hk : kk < z) (hz : z ≤ 100000) (hs : xSH a = (13, z)) (ha : 4 ≤ a) (han : a < σ.1) (hd : decode cc pc = .ok (.baload, 1)) (hq : pc + 1 = q)
    (k : xV γ q pl (vi (D a kk) :: st) σ D r) : xV γ pc pl (vi i :: .ref a :: st) σ D r := by
  subst hq; subst hi
  obtain ⟨p, l, e, R, s, m, args, below, meth, c, Q, ω, n0, z0, n1, z1⟩ := γ
  obtain ⟨hx, hb, hml, hown, hts, hKF, hA, hfr, hlo, hce, hsl, hnm⟩ := hX
  intro g1 g2 g3 g4 H locs ls hR hS hL
  obtain ⟨hin, hto⟩ := xi_in hk hz
  have h0 := xws_at ω D r ha han
  rw [xent_arr ω hs (by decide)] at h0
  have hk2 := k g1 g2 g3 g4 H locs ls hR hS hL
  refine va_zald hx hb hKF.1 hR.2.2 (a - 4) 3 h0 rfl hin hd ?_
  rw [hto]
  exact hk2
theorem v_aaload (hX : xX γ cc nL y d) {a kk z b c0 : Nat} {i : Int} (hi : i = (kk : Int)) (hk : kk < z) (hz : z ≤ 100000) (hs : xSH a = (c0, z)) (hc0 : c0 = 14 ∨ c0 = 15) (ha : 4 ≤ a) (han : a < σ.1) (hr : r a kk = some b) (hd : decode cc pc = .ok (.aaload, 1)) (hq : pc + 1 = q)
    (k : xV γ q pl (.ref b :: st) σ D r) : xV γ pc pl (vi i :: .ref a :: st) σ D r := by
  subst hq; subst hi
  obtain ⟨p, l, e, R, s, m, args, below, meth, c, Q, ω, n0, z0, n1, z1⟩ := γ
  obtain ⟨hx, hb, hml, hown, hts, hKF, hA, hfr, hlo, hce, hsl, hnm⟩ := hX
  intro g1 g2 g3 g4 H locs ls hR hS hL
  obtain ⟨hin, hto⟩ := xi_in hk hz
  have h0 := xws_at ω D r ha han
  have hk2 := k g1 g2 g3 g4 H locs ls hR hS hL
  rcases hc0 with rfl | rfl
  · rw [xent_arr ω hs (by decide)] at h0
    refine va_aldq hx hb hKF.1 hR.2.2 (a - 4) 4 h0 rfl hin hd ?_
    rw [hto, hr]
    exact hk2
  · rw [xent_arr ω hs (by decide)] at h0
    refine va_aldq hx hb hKF.1 hR.2.2 (a - 4) 5 h0 rfl hin hd ?_
    rw [hto, hr]
    exact hk2
theorem v_iastore (hX : xX γ cc nL y d) {a kk z : Nat} {i v : Int} (hi : i = (kk : Int)) (hk : kk < z) (hz : z ≤ 100000) (hs : xSH a = (10, z)) (ha : 4 ≤ a) (han : a < σ.1) (hd : decode cc pc = .ok (.iastore, 1)) (hq : pc + 1 = q)
    (k : xV γ q pl st σ (xu D a kk v) r) : xV γ pc pl (vi v :: vi i :: .ref a :: st) σ D r := by
  subst hq; subst hi
  obtain ⟨p, l, e, R, s, m, args, below, meth, c, Q, ω, n0, z0, n1, z1⟩ := γ
  obtain ⟨hx, hb, hml, hown, hts, hKF, hA, hfr, hlo, hce, hsl, hnm⟩ := hX
  intro g1 g2 g3 g4 H locs ls hR hS hL
  obtain ⟨hin, hto⟩ := xi_in hk hz
  have h0 := hR.cell ha han hs (by decide)
  refine W.iast hx hb h0 ((hKF.1.2 0 _ rfl).1 z (fun j => .int (Int32.ofInt (D a j)))) (fun h => by cases h) (by show ¬ (_ ∨ (arrV _ _ _).slots.size ≤ _); rw [arrV_size]; exact hin) rfl rfl hd fun H1 e1 e2 e3 => ?_
  refine k g1 g2 g3 g4 H1 _ ls (hR.put ha han e2 e3 ?_ (fun _ h => xu_row D a kk v h) (fun _ _ => rfl)) (hS.put e2 e3 (xA_ad ω ha)) hL
  rw [xent_arr ω hs (by decide)]
  show H1[xad ω a]? = some (arrV (ω.2.1 10) z (fun j => .int (Int32.ofInt (xu D a kk v a j))))
  rw [e1, hto]
  show some ((arrV (ω.2.1 10) z (fun j => .int (Int32.ofInt (D a j)))).setSlot kk _) = _
  rw [arrV_store]
  congr 2
  funext j
  unfold updV xu
  by_cases hj : j = kk
  · simp [hj]
  · simp [hj]
theorem v_lastore (hX : xX γ cc nL y d) {a kk z : Nat} {i v : Int} (hi : i = (kk : Int)) (hk : kk < z) (hz : z ≤ 100000) (hs : xSH a = (11, z)) (ha : 4 ≤ a) (han : a < σ.1) (hd : decode cc pc = .ok (.lastore, 1)) (hq : pc + 1 = q)
    (k : xV γ q pl st σ (xu D a kk v) r) : xV γ pc pl (vl v :: vi i :: .ref a :: st) σ D r := by
  subst hq; subst hi
  obtain ⟨p, l, e, R, s, m, args, below, meth, c, Q, ω, n0, z0, n1, z1⟩ := γ
  obtain ⟨hx, hb, hml, hown, hts, hKF, hA, hfr, hlo, hce, hsl, hnm⟩ := hX
  intro g1 g2 g3 g4 H locs ls hR hS hL
  obtain ⟨hin, hto⟩ := xi_in hk hz
  have h0 := hR.cell ha han hs (by decide)
  refine W.last hx hb h0 ((hKF.1.2 1 _ rfl).1 z (fun j => .long (Int64.ofInt (D a j)))) (fun h => by cases h) (by show ¬ (_ ∨ (arrV _ _ _).slots.size ≤ _); rw [arrV_size]; exact hin) rfl rfl hd fun H1 e1 e2 e3 => ?_
  refine k g1 g2 g3 g4 H1 _ ls (hR.put ha han e2 e3 ?_ (fun _ h => xu_row D a kk v h) (fun _ _ => rfl)) (hS.put e2 e3 (xA_ad ω ha)) hL
  rw [xent_arr ω hs (by decide)]
  show H1[xad ω a]? = some (arrV (ω.2.1 11) z (fun j => .long (Int64.ofInt (xu D a kk v a j))))
  rw [e1, hto]
  show some ((arrV (ω.2.1 11) z (fun j => .long (Int64.ofInt (D a j)))).setSlot kk _) = _
  rw [arrV_store]
  congr 2
  funext j
  unfold updV xu
  by_cases hj : j = kk
  · simp [hj]
  · simp [hj]
theorem v_castore (hX : xX γ cc nL y d) {a kk z : Nat} {i v : Int} (hi : i = (kk : Int)) (hk : kk < z) (hz : z ≤ 100000) (hn : narrow .char (vi v) = vi v) (hs : xSH a = (12, z)) (ha : 4 ≤ a) (han : a < σ.1) (hd : decode cc pc = .ok (.castore, 1)) (hq : pc + 1 = q)
    (k : xV γ q pl st σ (xu D a kk v) r) : xV γ pc pl (vi v :: vi i :: .ref a :: st) σ D r := by
  subst hq; subst hi
  obtain ⟨p, l, e, R, s, m, args, below, meth, c, Q, ω, n0, z0, n1, z1⟩ := γ
  obtain ⟨hx, hb, hml, hown, hts, hKF, hA, hfr, hlo, hce, hsl, hnm⟩ := hX
  intro g1 g2 g3 g4 H locs ls hR hS hL
  obtain ⟨hin, hto⟩ := xi_in hk hz
  have h0 := hR.cell ha han hs (by decide)
  refine W.cast hx hb h0 ((hKF.1.2 2 _ rfl).1 z (fun j => .int (Int32.ofInt (D a j)))) (fun h => by cases h) (by show ¬ (_ ∨ (arrV _ _ _).slots.size ≤ _); rw [arrV_size]; exact hin) rfl rfl hd fun H1 e1 e2 e3 => ?_
  rw [hn] at e1
  refine k g1 g2 g3 g4 H1 _ ls (hR.put ha han e2 e3 ?_ (fun _ h => xu_row D a kk v h) (fun _ _ => rfl)) (hS.put e2 e3 (xA_ad ω ha)) hL
  rw [xent_arr ω hs (by decide)]
  show H1[xad ω a]? = some (arrV (ω.2.1 12) z (fun j => .int (Int32.ofInt (xu D a kk v a j))))
  rw [e1, hto]
  show some ((arrV (ω.2.1 12) z (fun j => .int (Int32.ofInt (D a j)))).setSlot kk _) = _
  rw [arrV_store]
  congr 2
  funext j
  unfold updV xu
  by_cases hj : j = kk
  · simp [hj]
  · simp [hj]
theorem v_bastore (hX : xX γ cc nL y d) {a kk z : Nat} {i v : Int} (hi : i = (kk : Int)) (hk : kk < z) (hz : z ≤ 100000) (hn : narrow .boolean (vi v) = vi v) (hs : xSH a = (13, z)) (ha : 4 ≤ a) (han : a < σ.1) (hd : decode cc pc = .ok (.bastore, 1)) (hq : pc + 1 = q)
    (k : xV γ q pl st σ (xu D a kk v) r) : xV γ pc pl (vi v :: vi i :: .ref a :: st) σ D r := by
  subst hq; subst hi
  obtain ⟨p, l, e, R, s, m, args, below, meth, c, Q, ω, n0, z0, n1, z1⟩ := γ
  obtain ⟨hx, hb, hml, hown, hts, hKF, hA, hfr, hlo, hce, hsl, hnm⟩ := hX
  intro g1 g2 g3 g4 H locs ls hR hS hL
  obtain ⟨hin, hto⟩ := xi_in hk hz
  have h0 := hR.cell ha han hs (by decide)
  refine W.zast hx hb h0 ((hKF.1.2 3 _ rfl).1 z (fun j => .int (Int32.ofInt (D a j)))) (fun h => by cases h) (by show ¬ (_ ∨ (arrV _ _ _).slots.size ≤ _); rw [arrV_size]; exact hin) rfl rfl hd fun H1 e1 e2 e3 => ?_
  rw [hn] at e1
  refine k g1 g2 g3 g4 H1 _ ls (hR.put ha han e2 e3 ?_ (fun _ h => xu_row D a kk v h) (fun _ _ => rfl)) (hS.put e2 e3 (xA_ad ω ha)) hL
  rw [xent_arr ω hs (by decide)]
  show H1[xad ω a]? = some (arrV (ω.2.1 13) z (fun j => .int (Int32.ofInt (xu D a kk v a j))))
  rw [e1, hto]
  show some ((arrV (ω.2.1 13) z (fun j => .int (Int32.ofInt (D a j)))).setSlot kk _) = _
  rw [arrV_store]
  congr 2
  funext j
  unfold updV xu
  by_cases hj : j = kk
  · simp [hj]
  · simp [hj]
end XH
end
section
/-! ===== calls ===== -/
theorem xcl_at : ∀ ci, ci < 6 → ∃ T : u_T, vwCl[ci]? = some (xcn ci, T, xN ci) := by
  intro ci h
  match ci, h with
  | 0, _ => exact ⟨_, rfl⟩
  | 1, _ => exact ⟨_, rfl⟩
  | 2, _ => exact ⟨_, rfl⟩
  | 3, _ => exact ⟨_, rfl⟩
  | 4, _ => exact ⟨_, rfl⟩
  | 5, _ => exact ⟨_, rfl⟩
def xMD (μ : xM) (n : Nat) : Prop := (μ.1.cls ≠ "java/lang/invoke/MethodHandle" ∧ μ.1.cls ≠ "java/lang/invoke/VarHandle" ∧ (parseMethodDescriptor μ.1.desc).map (fun d => d.parameters.length) = some n) ∧ μ.2.2.1 ≤ 21
/-- a method that a virtual call finds, of n parameters -/
def xMV (μ : xM) (n : Nat) : Prop := .instanceMethod μ.1 ∈ xtb ∧ .selects μ.1.cls μ.1 μ.1 ∈ xtb ∧ .initialized μ.1.cls ∈ xtb ∧ .code μ.1 μ.2.1 μ.2.2.1 μ.2.2.2 ∈ xtb ∧ xMD μ n
def xMS (μ : xM) (n : Nat) : Prop := .static μ.1 ∈ xtb ∧ .initialized μ.1.cls ∈ xtb ∧ .code μ.1 μ.2.1 μ.2.2.1 μ.2.2.2 ∈ xtb ∧ xMD μ n
def xMI (μ : xM) (n : Nat) : Prop := .instanceMethod μ.1 ∈ xtb ∧ .initialized μ.1.cls ∈ xtb ∧ .code μ.1 μ.2.1 μ.2.2.1 μ.2.2.2 ∈ xtb ∧ xMD μ n ∧ μ.2.2.2 = none ∧ μ.1.name = "<init>"
theorem xgood {w : Cond} (h : w ∈ xtb) : w ∈ xtb ∧ ((w.onTables && w.keeps) = true ∨ ∃ ty, w = .arrayClass ty) := ⟨h, xtb_good w h⟩
theorem xMW_good {μ : xM} (h : Cond.code μ.1 μ.2.1 μ.2.2.1 μ.2.2.2 ∈ xtb) : GoodIn xtb (xMW μ) := fun w hw => by
  rcases List.mem_cons.mp hw with rfl | hw
  · exact xgood h
  · exact xgood hw
def xGB (γ : xC) (σf : Nat × Nat) : Prop := match γ with
  | (_, _, _, _, _, _, _, _, _, _, _, _, _, _, n1, z1) => n1 = σf.1 ∧ z1 = σf.2
theorem xRX.gb {γ : xC} {rt : Option FieldType} {σf : Nat × Nat} {P : Option Value → xD → xR → Prop} (h : xRX γ rt σf P) : xGB γ σf := by
  obtain ⟨p, l, e, R, s, m, args, below, meth, c, Q, ω, n0, z0, n1, z1⟩ := γ
  exact ⟨h.2.2.2.1, h.2.2.2.2⟩
abbrev xP (w : Value) (D : xD) (r : xR) : Option Value → xD → xR → Prop := fun v D' r' => v = some w ∧ D' = D ∧ r' = r
section XCALL
variable {p : Program} {l : Launch} {e : Env} {R : Room} {s : State} {m : MethodId} {args : Array Value} {below : List Frame} {meth : Method} {c : Code} {H : Heap} {locs : List Loc} {cells slots mc ms : Nat} {Q : State → Prop} {pc : Nat} {ls : Array Slot} {rest st0 : List Value}
theorem xblind {ω : xW} {n : Nat} {D : xD} {r : xR} {av : List Value} {X Y : Prop} : FrameBlind (va_Pc av (fun U => (xRep ω n D r U.heap ∧ X ∧ Y ∧ ω.2.2.2 ≤ U.heap.size) ∧ xKF ω U U.heap)) := fun a U g mk q => by
  obtain ⟨q0, q1, q2⟩ := q
  exact ⟨q0, q1, xKF.same (U := U.calling g mk a) rfl q2⟩
theorem xcall {ω : xW} {σ' : Nat × Nat} {P : Option Value → xD → xR → Prop} {a : Array Value} (hr : va_Run p l e R s m args below meth c H locs cells slots mc ms (F0 m pc ls st0) rest (xQ ω σ' P a) (xA ω)) (hS : va_S (xA ω) s.heap H locs)
    (kk : ∀ (v : Option Value) (D' : xD) (r' : xR) (H1 : Heap) (locs1 : List Loc), P v D' r' → xRep ω σ'.1 D' r' H1 → va_S (xA ω) s.heap H1 locs1 → W p l e R s m args below meth c H1 locs1 (cells + mc) (slots + ms) Q (F0 m (pc + 3) ls ((v.map (xtr ω)).toList ++ rest))) :
    W p l e R s m args below meth c H locs cells slots Q (F0 m pc ls st0) := by
  intro T hT X
  obtain ⟨v, st₀, t, T', L, h0, X', hL, e1, e2, ⟨⟨v', D', r', hv, hp, hR⟩, hz, hk⟩, st⟩ := hr T hT X
  cases hv
  rw [h0] at hz hk
  obtain ⟨t2, a1, b1⟩ := kk v' D' r' T'.heap (locs ++ L) hp (by rw [e1]; exact hR)
    ⟨Nat.le_trans hS.1 (by rw [e1]; exact hz), fun q h1 h2 => by rw [e1, hk q (Nat.lt_of_lt_of_le h1 hS.1) h2]; exact hS.2.1 q h1 h2, fun q hq => by
      rcases List.mem_append.mp hq with h | h
      · exact hS.2.2 q h
      · exact hL q h⟩ T' rfl X'
  exact ⟨t2, st t2 a1, b1⟩
end XCALL
theorem xtr_toList (ω : xW) (v : Option Value) (rest : List Value) : (v.map (xtr ω)).toList ++ rest.map (xtr ω) = (v.toList ++ rest).map (xtr ω) := by cases v <;> rfl
theorem xcat_sum (ω : xW) (rest : List Value) : ((rest.map (xtr ω)).map fun v => v.category).sum = (rest.map Value.category).sum := by
  rw [List.map_map]
  congr 1
  exact List.map_congr_left fun v _ => xcat ω v
section XC2
variable {γ : xC} {cc : ByteArray} {nL d : Nat} {y : MethodName} {pc q : Nat} {pl : List (Option Value)} {st rest As : List Value} {σ σ' σf : Nat × Nat} {D : xD} {r : xR} {μ : xM} {d' n a idx : Nat} {P : Option Value → xD → xR → Prop}
theorem v_callV (hX : xX γ cc nL y d) (hM : MX d' μ (.ref a :: As) σ D r σ P) (hst : st = As.reverse ++ .ref a :: rest) (hμ : xMV μ n) (hn : As.length = n) (hdd : d' + 1 ≤ d) (hlk : Cond.methodLink y.cls idx μ.1 ∈ xtb) {ci z : Nat} (hci : ci < 6) (hcn : xcn ci = μ.1.cls) (hs : xSH a = (ci, z)) (ha : 4 ≤ a) (han : a < σ.1)
    (hrest : (rest.map Value.category).sum ≤ 8) (hd : decode cc pc = .ok (.invokevirtual idx, 3)) (hq : pc + 3 = q) (k : ∀ v D' r', P v D' r' → xV γ q pl (v.toList ++ rest) σ D' r') : xV γ pc pl st σ D r := by
  subst hq; subst hst
  obtain ⟨p, l, e, R, s, m, args, below, meth, c, Q, ω, n0, z0, n1, z1⟩ := γ
  obtain ⟨hx, hb, hml, hown, hts, hKF, hA, hfr, hlo, hce, hsl, hnm⟩ := hX
  obtain ⟨m1, m2, m3, m4, m5, m6⟩ := hμ
  intro g1 g2 g3 g4 H locs ls hR hS hL
  obtain ⟨T, hcl⟩ := xcl_at ci hci
  have h0 := xws_at ω D r ha han
  rw [xent_obj ω hs hci] at h0
  have hG : GoodIn xtb (wsV y.cls idx μ.1.cls μ.1 (xMW μ)) := by
    intro w hw
    rcases List.mem_append.mp hw with hw | hw
    · simp only [List.mem_cons, List.not_mem_nil, or_false] at hw
      rcases hw with rfl | rfl | rfl | rfl
      · exact xgood hlk
      · exact xgood m1
      · exact xgood m2
      · exact xgood m3
    · exact xMW_good m4 w hw
  have cw := cwV (R := R) (s := s) (args := args) (own := y.cls) (index := idx) (C := μ.1.cls) (y := μ.1) (bytes := μ.2.1) (maxL := μ.2.2.1) (ret := μ.2.2.2) (rm := ({ frames := d', cells := σ.1 - σ.1, slots := σ.2 - σ.2, locals := 40 * d' } : Room)) (mc := σ.1 - σ.1) (ms := σ.2 - σ.2) n hts hG rfl rfl rfl ⟨rfl, m5⟩ ⟨by show d' + 1 ≤ R.frames; omega, by show 8 + (μ.2.2.1 + 11) + 40 * d' ≤ R.locals; omega⟩
  have hrun := va_runV (As := As.map (xtr ω)) (rest := rest.map (xtr ω)) (b := xad ω a) (g := F0 m pc ls ((As.reverse ++ .ref a :: rest).map (xtr ω))) (locs := locs) (cells := σ.1 - n0) (slots := σ.2 - z0) (H := H) (p := p) (e := e) (R := R) (s := s) (below := below) (meth := meth) ⟨hx, hb, hml, hown, hts⟩ (hM l ω) cw
    ⟨xblind, by have := va_recv hKF.1 hR.2.2 hcl h0; rw [show (xcn ci, T, xN ci).1 = μ.1.cls from hcn] at this; exact this, fun U hU hW => ⟨rfl, ⟨by rw [hU]; exact hR, Nat.le_refl _, Nat.le_refl _, by rw [hU]; exact Nat.le_trans (hA _ (Nat.le_refl _)) hS.1⟩, xKF.moved hW hKF (by rw [hU]; exact hS.2.1)⟩⟩
    rfl (by simpa using hn) (hL.1.trans hml) (by simp [xtr]) (lv_room (by rw [xcat_sum]; exact hrest)) hd ⟨by omega, by omega⟩
  refine xcall hrun hS fun v D' r' H1 locs1 hp hR1 hS1 => ?_
  have hk := k v D' r' hp g1 g2 g3 g4 H1 locs1 ls hR1 hS1 hL
  rw [xtr_toList]
  rw [show σ.1 - n0 + (σ.1 - σ.1) = σ.1 - n0 by omega, show σ.2 - z0 + (σ.2 - σ.2) = σ.2 - z0 by omega]
  exact hk
theorem v_callS (hX : xX γ cc nL y d) (hM : MX d' μ As σ D r σ P) (hst : st = As.reverse ++ rest) (hμ : xMS μ n) (hn : As.length = n) (hdd : d' + 1 ≤ d) (hlk : Cond.methodLink y.cls idx μ.1 ∈ xtb)
    (hrest : (rest.map Value.category).sum ≤ 8) (hd : decode cc pc = .ok (.invokestatic idx, 3)) (hq : pc + 3 = q) (k : ∀ v D' r', P v D' r' → xV γ q pl (v.toList ++ rest) σ D' r') : xV γ pc pl st σ D r := by
  subst hq; subst hst
  obtain ⟨p, l, e, R, s, m, args, below, meth, c, Q, ω, n0, z0, n1, z1⟩ := γ
  obtain ⟨hx, hb, hml, hown, hts, hKF, hA, hfr, hlo, hce, hsl, hnm⟩ := hX
  obtain ⟨m1, m3, m4, m5, m6⟩ := hμ
  intro g1 g2 g3 g4 H locs ls hR hS hL
  have hG : GoodIn xtb (va_wsS y.cls idx μ.1 (xMW μ)) := by
    intro w hw
    rcases List.mem_append.mp hw with hw | hw
    · simp only [List.mem_cons, List.not_mem_nil, or_false] at hw
      rcases hw with rfl | rfl | rfl
      · exact xgood hlk
      · exact xgood m1
      · exact xgood m3
    · exact xMW_good m4 w hw
  have cw := va_cwS (R := R) (s := s) (args := args) (own := y.cls) (index := idx) (y := μ.1) (bytes := μ.2.1) (maxL := μ.2.2.1) (ret := μ.2.2.2) (rm := ({ frames := d', cells := σ.1 - σ.1, slots := σ.2 - σ.2, locals := 40 * d' } : Room)) (mc := σ.1 - σ.1) (ms := σ.2 - σ.2) n hts hG rfl rfl rfl m5 ⟨by show d' + 1 ≤ R.frames; omega, by show 8 + (μ.2.2.1 + 11) + 40 * d' ≤ R.locals; omega⟩
  have hrun := va_runS (As := As.map (xtr ω)) (rest := rest.map (xtr ω)) (g := F0 m pc ls ((As.reverse ++ rest).map (xtr ω))) (locs := locs) (cells := σ.1 - n0) (slots := σ.2 - z0) (H := H) (p := p) (e := e) (R := R) (s := s) (below := below) (meth := meth) ⟨hx, hb, hml, hown, hts⟩ (hM l ω) cw
    ⟨xblind, fun U hU hW => ⟨rfl, ⟨by rw [hU]; exact hR, Nat.le_refl _, Nat.le_refl _, by rw [hU]; exact Nat.le_trans (hA _ (Nat.le_refl _)) hS.1⟩, xKF.moved hW hKF (by rw [hU]; exact hS.2.1)⟩⟩
    rfl (by simpa using hn) (hL.1.trans hml) (by simp) (lv_room (by rw [xcat_sum]; exact hrest)) hd ⟨by omega, by omega⟩
  refine xcall hrun hS fun v D' r' H1 locs1 hp hR1 hS1 => ?_
  have hk := k v D' r' hp g1 g2 g3 g4 H1 locs1 ls hR1 hS1 hL
  rw [xtr_toList]
  rw [show σ.1 - n0 + (σ.1 - σ.1) = σ.1 - n0 by omega, show σ.2 - z0 + (σ.2 - σ.2) = σ.2 - z0 by omega]
  exact hk
/-- a constructor; it may make cells -/
theorem v_callI (hX : xX γ cc nL y d) (hG0 : xGB γ σf) (hM : MX d' μ (.ref a :: As) σ D r σ' P) (hst : st = As.reverse ++ .ref a :: rest) (hμ : xMI μ n) (hn : As.length = n) (hdd : d' + 1 ≤ d) (hlk : Cond.methodLink y.cls idx μ.1 ∈ xtb)
    (hσ : σ.1 ≤ σ'.1 ∧ σ.2 ≤ σ'.2) (hσf : σ'.1 ≤ σf.1 ∧ σ'.2 ≤ σf.2)
    (hrest : (rest.map Value.category).sum ≤ 8) (hd : decode cc pc = .ok (.invokespecial idx, 3)) (hq : pc + 3 = q) (k : ∀ v D' r', P v D' r' → xV γ q pl (v.toList ++ rest) σ' D' r') : xV γ pc pl st σ D r := by
  subst hq; subst hst
  obtain ⟨p, l, e, R, s, m, args, below, meth, c, Q, ω, n0, z0, n1, z1⟩ := γ
  obtain ⟨hx, hb, hml, hown, hts, hKF, hA, hfr, hlo, hce, hsl, hnm⟩ := hX
  obtain ⟨rfl, rfl⟩ := hG0
  obtain ⟨m1, m3, m4, ⟨m5, m6⟩, m7, m8⟩ := hμ
  obtain ⟨y', b', nl', rt'⟩ := μ
  obtain rfl : rt' = none := m7
  intro g1 g2 g3 g4 H locs ls hR hS hL
  have cw := cwI (R := R) (s := s) (args := args) (own := y.cls) (index := idx) (y := y') (bytes := b') (maxL := nl') (ws := xMW (y', b', nl', none)) (rm := ({ frames := d', cells := σ'.1 - σ.1, slots := σ'.2 - σ.2, locals := 40 * d' } : Room)) (mc := σ'.1 - σ.1) (ms := σ'.2 - σ.2) n hts (xMW_good m4) rfl rfl rfl (hts _ m3) (hts _ hlk) (hts _ m1) m8 m5 ⟨by show d' + 1 ≤ R.frames; omega, by show 8 + (nl' + 11) + 40 * d' ≤ R.locals; have h9 : nl' ≤ 21 := m6; omega⟩
  have hrun := va_runI (As := As.map (xtr ω)) (rest := rest.map (xtr ω)) (b := xad ω a) (g := F0 m pc ls ((As.reverse ++ .ref a :: rest).map (xtr ω))) (locs := locs) (cells := σ.1 - n0) (slots := σ.2 - z0) (H := H) (p := p) (e := e) (R := R) (s := s) (below := below) (meth := meth) ⟨hx, hb, hml, hown, hts⟩ (hM l ω) cw
    ⟨xblind, fun U hU hW => ⟨rfl, ⟨by rw [hU]; exact hR, hσ.1, hσ.2, by rw [hU]; exact Nat.le_trans (hA _ (Nat.le_refl _)) hS.1⟩, xKF.moved hW hKF (by rw [hU]; exact hS.2.1)⟩⟩
    rfl (by simpa using hn) (hL.1.trans hml) (by simp [xtr]) (lv_room (by rw [xcat_sum]; exact hrest)) hd ⟨by omega, by omega⟩
  refine xcall hrun hS fun v D' r' H1 locs1 hp hR1 hS1 => ?_
  have hk := k v D' r' hp (by omega) (by omega) hσf.1 hσf.2 H1 locs1 ls hR1 hS1 hL
  rw [xtr_toList]
  rw [show σ.1 - n0 + (σ'.1 - σ.1) = σ'.1 - n0 by omega, show σ.2 - z0 + (σ'.2 - σ.2) = σ'.2 - z0 by omega]
  exact hk
/-- a private constructor of a nest mate -/
theorem v_callIN (hX : xX γ cc nL y d) (hG0 : xGB γ σf) (hM : MX d' μ (.ref a :: As) σ D r σ' P) (hst : st = As.reverse ++ .ref a :: rest) (hμ : xMI μ n) (hn : As.length = n) (hdd : d' + 1 ≤ d)
    (hlk : ∀ ω U H, xKF ω U H → va_Nw (.methodLinkNest y.cls idx μ.1 "LotFences") U) (hσ : σ.1 ≤ σ'.1 ∧ σ.2 ≤ σ'.2) (hσf : σ'.1 ≤ σf.1 ∧ σ'.2 ≤ σf.2)
    (hrest : (rest.map Value.category).sum ≤ 8) (hd : decode cc pc = .ok (.invokespecial idx, 3)) (hq : pc + 3 = q) (k : ∀ v D' r', P v D' r' → xV γ q pl (v.toList ++ rest) σ' D' r') : xV γ pc pl st σ D r := by
  subst hq; subst hst
  obtain ⟨p, l, e, R, s, m, args, below, meth, c, Q, ω, n0, z0, n1, z1⟩ := γ
  obtain ⟨hx, hb, hml, hown, hts, hKF, hA, hfr, hlo, hce, hsl, hnm⟩ := hX
  obtain ⟨rfl, rfl⟩ := hG0
  obtain ⟨m1, m3, m4, ⟨m5, m6⟩, m7, m8⟩ := hμ
  obtain ⟨y', b', nl', rt'⟩ := μ
  obtain rfl : rt' = none := m7
  intro g1 g2 g3 g4 H locs ls hR hS hL
  have cw := va_cnB (R := R) (s := s) (args := args) (own := y.cls) (host := "LotFences") (index := idx) (y := y') (bytes := b') (maxL := nl') (ret := none) (ws := xMW (y', b', nl', none)) (rm := ({ frames := d', cells := σ'.1 - σ.1, slots := σ'.2 - σ.2, locals := 40 * d' } : Room)) (mc := σ'.1 - σ.1) (ms := σ'.2 - σ.2) n hts (xMW_good m4) rfl rfl rfl (hlk ω s _ hKF) (hts _ m3) m5 ⟨by show d' + 1 ≤ R.frames; omega, by show 8 + (nl' + 11) + 40 * d' ≤ R.locals; have h9 : nl' ≤ 21 := m6; omega⟩
  have hrun := va_runIN (As := As.map (xtr ω)) (rest := rest.map (xtr ω)) (b := xad ω a) (g := F0 m pc ls ((As.reverse ++ .ref a :: rest).map (xtr ω))) (locs := locs) (cells := σ.1 - n0) (slots := σ.2 - z0) (H := H) (p := p) (e := e) (R := R) (s := s) (below := below) (meth := meth) ⟨hx, hb, hml, hown, hts⟩ (hM l ω) ⟨cw, m8, hts _ m1⟩
    ⟨xblind, fun U hU hW => ⟨rfl, ⟨by rw [hU]; exact hR, hσ.1, hσ.2, by rw [hU]; exact Nat.le_trans (hA _ (Nat.le_refl _)) hS.1⟩, xKF.moved hW hKF (by rw [hU]; exact hS.2.1)⟩⟩
    rfl (by simpa using hn) (hL.1.trans hml) (by simp [xtr]) (lv_room (by rw [xcat_sum]; exact hrest)) hd ⟨by omega, by omega⟩
  refine xcall hrun hS fun v D' r' H1 locs1 hp hR1 hS1 => ?_
  have hk := k v D' r' hp (by omega) (by omega) hσf.1 hσf.2 H1 locs1 ls hR1 hS1 hL
  rw [xtr_toList]
  rw [show σ.1 - n0 + (σ'.1 - σ.1) = σ'.1 - n0 by omega, show σ.2 - z0 + (σ'.2 - σ.2) = σ'.2 - z0 by omega]
  exact hk
/-- a private static method of a nest mate -/
theorem v_callSN (hX : xX γ cc nL y d) (hM : MX d' μ As σ D r σ P) (hst : st = As.reverse ++ rest) (hμ : xMS μ n) (hn : As.length = n) (hdd : d' + 1 ≤ d) (hlk : ∀ ω U H, xKF ω U H → va_Nw (.methodLinkNest y.cls idx μ.1 "LotFences") U)
    (hrest : (rest.map Value.category).sum ≤ 8) (hd : decode cc pc = .ok (.invokestatic idx, 3)) (hq : pc + 3 = q) (k : ∀ v D' r', P v D' r' → xV γ q pl (v.toList ++ rest) σ D' r') : xV γ pc pl st σ D r := by
  subst hq; subst hst
  obtain ⟨p, l, e, R, s, m, args, below, meth, c, Q, ω, n0, z0, n1, z1⟩ := γ
  obtain ⟨hx, hb, hml, hown, hts, hKF, hA, hfr, hlo, hce, hsl, hnm⟩ := hX
  obtain ⟨m1, m3, m4, m5, m6⟩ := hμ
  intro g1 g2 g3 g4 H locs ls hR hS hL
  have cw := va_cnB (R := R) (s := s) (args := args) (own := y.cls) (host := "LotFences") (index := idx) (y := μ.1) (bytes := μ.2.1) (maxL := μ.2.2.1) (ret := μ.2.2.2) (ws := xMW μ) (rm := ({ frames := d', cells := σ.1 - σ.1, slots := σ.2 - σ.2, locals := 40 * d' } : Room)) (mc := σ.1 - σ.1) (ms := σ.2 - σ.2) n hts (xMW_good m4) rfl rfl rfl (hlk ω s _ hKF) (hts _ m3) m5 ⟨by show d' + 1 ≤ R.frames; omega, by show 8 + (μ.2.2.1 + 11) + 40 * d' ≤ R.locals; omega⟩
  have hrun := va_runSN (As := As.map (xtr ω)) (rest := rest.map (xtr ω)) (g := F0 m pc ls ((As.reverse ++ rest).map (xtr ω))) (locs := locs) (cells := σ.1 - n0) (slots := σ.2 - z0) (H := H) (p := p) (e := e) (R := R) (s := s) (below := below) (meth := meth) ⟨hx, hb, hml, hown, hts⟩ (hM l ω) ⟨cw, hts _ m1, trivial⟩
    ⟨xblind, fun U hU hW => ⟨rfl, ⟨by rw [hU]; exact hR, Nat.le_refl _, Nat.le_refl _, by rw [hU]; exact Nat.le_trans (hA _ (Nat.le_refl _)) hS.1⟩, xKF.moved hW hKF (by rw [hU]; exact hS.2.1)⟩⟩
    rfl (by simpa using hn) (hL.1.trans hml) (by simp) (lv_room (by rw [xcat_sum]; exact hrest)) hd ⟨by omega, by omega⟩
  refine xcall hrun hS fun v D' r' H1 locs1 hp hR1 hS1 => ?_
  have hk := k v D' r' hp g1 g2 g3 g4 H1 locs1 ls hR1 hS1 hL
  rw [xtr_toList]
  rw [show σ.1 - n0 + (σ.1 - σ.1) = σ.1 - n0 by omega, show σ.2 - z0 + (σ.2 - σ.2) = σ.2 - z0 by omega]
  exact hk
end XC2
end
section
/-! ===== making cells, statics, copies, the JDK's small functions ===== -/
theorem xty_ok : ∀ ci, ci < 6 → ∀ j, j < xN ci → xty ci j ≠ .float ∧ xty ci j ≠ .double := by decide +kernel
theorem xfv_zero (ω : xW) {ci j : Nat} {D : xD} {r : xR} {a : Nat} (h1 : D a j = 0) (h2 : r a j = none) (h3 : xty ci j ≠ .float ∧ xty ci j ≠ .double) : defaultValue (xty ci j) = xfv ω ci D r a j := by
  unfold xfv
  rw [h1, h2]
  generalize xty ci j = t at h3 ⊢
  cases t <;> first | rfl | exact absurd rfl h3.1 | exact absurd rfl h3.2
theorem xws_push (ω : xW) (n : Nat) (D : xD) (r : xR) (h : 4 ≤ n) : xws ω (n + 1) D r = xws ω n D r ++ [(xad ω n, xent ω D r n)] := by
  unfold xws
  rw [show n + 1 - 4 = (n - 4) + 1 by omega, List.range_succ, List.map_append, List.map_singleton, show n - 4 + 4 = n by omega]
theorem xRep.push {ω : xW} {n : Nat} {D : xD} {r : xR} {H H1 : Heap} (hR : xRep ω n D r H) (z : H1.size = H.size + 1) (hn : n < 356) (oq : ∀ q : Nat, q < H.size → H1[q]? = H[q]?) (hat : va_at ω.1 vwCl (xad ω n, xent ω D r n) H1) : xRep ω (n + 1) D r H1 := by
  refine ⟨fun _ => by rw [z, hR.1 hn, xad_ge ω hR.2.1, xad_ge ω (Nat.le_succ_of_le hR.2.1)]; have := hR.2.1; omega, Nat.le_succ_of_le hR.2.1, ?_⟩
  rw [xws_push ω n D r hR.2.1]
  refine va_P.app (hR.2.2.kept fun k x hx => oq x.1 ((hR.2.2 k x hx).lt)) fun k x hx => ?_
  have hz : k < 1 := (List.getElem?_eq_some_iff.mp hx).1
  rw [show k = 0 by omega] at hx
  cases hx
  exact hat
section XN
variable {γ : xC} {cc : ByteArray} {nL d : Nat} {y : MethodName} {pc q : Nat} {pl : List (Option Value)} {st : List Value} {σf : Nat × Nat} {n z n' z' : Nat} {D : xD} {r : xR}
theorem v_new (hX : xX γ cc nL y d) (hG0 : xGB γ σf) {idx ci : Nat} (hci : ci < 6) (hs : xSH n = (ci, 0)) (hlk : Cond.classLink y.cls idx (xcn ci) ∈ xtb) (hin : Cond.instantiable (xcn ci) (xN ci) ∈ xtb) (hini : Cond.initialized (xcn ci) ∈ xtb) (hws : ∀ w ∈ u_ws (xcn ci) (vwCl.getD ci default).2.1 (xN ci), w ∈ xtb) (hty : ∀ k, k < xN ci → parseFieldDescriptor ((vwCl.getD ci default).2.1 k).2.2.1 = some (xty ci k))
    (hn : n < 356) (hD : ∀ j, D n j = 0) (hr : ∀ j, r n j = none) (e1 : n + 1 = n') (e2 : z + xN ci = z') (hf : n' ≤ σf.1 ∧ z' ≤ σf.2) (hd : decode cc pc = .ok (.new idx, 3)) (hq : pc + 3 = q) (k : xV γ q pl (.ref n :: st) (n', z') D r) : xV γ pc pl st (n, z) D r := by
  subst hq; subst e1; subst e2
  obtain ⟨p, l, e, R, s, m, args, below, meth, c, Q, ω, n0, z0, n1, z1⟩ := γ
  obtain ⟨hx, hb, hml, hown, hts, hKF, hA, hfr, hlo, hce, hsl, hnm⟩ := hX
  obtain ⟨rfl, rfl⟩ := hG0
  intro g1 g2 g3 g4 H locs ls hR hS hL
  dsimp only at g1 g2 g3 g4 hR hf
  obtain ⟨T, hcl⟩ := xcl_at ci hci
  have hT : (vwCl.getD ci default).2.1 = T := by rw [List.getD_eq_getElem?_getD, hcl]; rfl
  rw [hT] at hws hty
  have hKn := hKF.1.1 ci _ hcl
  have hsz := hR.1 hn
  show W p l e R s m args below meth c H locs (n - n0) (z - z0) Q (F0 m pc ls (st.map (xtr ω)))
  refine W.newcK hx hb hown (hts _ hlk) (hts _ hin) (hts _ hini) rfl hd (by omega) (by omega) hKn.2.1 hsz fun H1 kC hkC e1 z1' o1 => ?_
  have hk := k (by dsimp only; omega) (by dsimp only; omega) (by dsimp only; omega) (by dsimp only; omega) H1 locs ls (hR.push (by rw [z1', hsz]) hn (fun q hq => o1 q (by rw [← hsz]; exact hq)) (by
    rw [xent_obj ω hs hci]
    exact ⟨_, hcl, (u_born (xty ci) hts hws hKn hkC e1 hty).to fun j hj => by
      unfold vp_V
      rw [List.getD_eq_getElem?_getD, xfs_get ω hj]
      exact xfv_zero ω (hD j) (hr j) (xty_ok ci hci j hj)⟩)) ⟨Nat.le_trans hS.1 (by rw [z1', hsz]; omega), fun x h1 h2 => (o1 x (by rw [← hsz]; exact Nat.lt_of_lt_of_le h1 hS.1)).trans (hS.2.1 x h1 h2), hS.2.2⟩ hL
  dsimp only at hk
  rw [show n - n0 + 1 = n + 1 - n0 by omega, show z - z0 + xN ci = z + xN ci - z0 by omega]
  exact hk
theorem xarr_name {U : State} {cA cB : ClassId} {ty : FieldType} (h1 : va_RA U cB ty) (hp : ∀ C, ty ≠ .object C) (h2 : U.vm.findClass ("[" ++ ty.toString) = some cA) : cA = cB := by
  have h3 : U.vm.findClass ("[" ++ ty.toString) = some cB := by
    cases ty <;> first | exact h1 | exact absurd rfl (hp _)
  exact Option.some.inj (h2.symm.trans h3)
theorem v_newarr (hX : xX γ cc nL y d) (hG0 : xGB γ σf) {atype : ArrayType} {ty : FieldType} {cd len pi : Nat} {i : Int} (hcd : (cd, ty, pi) = (10, .int, 0) ∨ (cd, ty, pi) = (11, .long, 1) ∨ (cd, ty, pi) = (12, .char, 2) ∨ (cd, ty, pi) = (13, .boolean, 3)) (hat : newarray.typeOf atype = ty) (hs : xSH n = (cd, len)) (hi : i = (len : Int)) (hlen : len < 100000) (hac : Cond.arrayClass ty ∈ xtb)
    (hn : n < 356) (hD : ∀ j, D n j = 0) (e1 : n + 1 = n') (e2 : z + len = z') (hf : n' ≤ σf.1 ∧ z' ≤ σf.2) (hd : decode cc pc = .ok (.newarray atype, 2)) (hq : pc + 2 = q) (k : xV γ q pl (.ref n :: st) (n', z') D r) : xV γ pc pl (vi i :: st) (n, z) D r := by
  subst hq; subst e1; subst e2; subst hi; subst hat
  obtain ⟨p, l, e, R, s, m, args, below, meth, c, Q, ω, n0, z0, n1, z1⟩ := γ
  obtain ⟨hx, hb, hml, hown, hts, hKF, hA, hfr, hlo, hce, hsl, hnm⟩ := hX
  obtain ⟨rfl, rfl⟩ := hG0
  intro g1 g2 g3 g4 H locs ls hR hS hL
  dsimp only at g1 g2 g3 g4 hR hf
  have hsz := hR.1 hn
  have hto : (Int32.ofInt (len : Int)).toNatClampNeg = len := (xi_in (k := len) (n := len + 1) (by omega) (by omega)).2
  have hng : ¬ Int32.ofInt (len : Int) < 0 := fun h => (xi_in (k := len) (n := len + 1) (by omega) (by omega)).1 (Or.inl h)
  have hcb : componentBytes (newarray.typeOf atype) ≤ 8 := by cases atype <;> decide
  show W p l e R s m args below meth c H locs (n - n0) (z - z0) Q (F0 m pc ls ((vi (len : Int) :: st).map (xtr ω)))
  refine va_newaK hx hb (hts _ hac) rfl hd rfl hng hto (Nat.le_trans (Nat.mul_le_mul (Nat.le_of_lt hlen) hcb) (by decide)) (by omega) (by omega) hsz fun H1 cA f1 f2 f3 f4 f5 => ?_
  have hcA : cA = ω.2.1 cd := by
    rcases hcd with h | h | h | h <;> (injection h with h1 h2; injection h2 with h2 h3; subst h1; subst h3)
    · exact xarr_name (ty := newarray.typeOf atype) (by rw [h2]; exact (hKF.1.2 0 _ rfl).2) (by rw [h2]; intro C hC; cases hC) f5
    · exact xarr_name (ty := newarray.typeOf atype) (by rw [h2]; exact (hKF.1.2 1 _ rfl).2) (by rw [h2]; intro C hC; cases hC) f5
    · exact xarr_name (ty := newarray.typeOf atype) (by rw [h2]; exact (hKF.1.2 2 _ rfl).2) (by rw [h2]; intro C hC; cases hC) f5
    · exact xarr_name (ty := newarray.typeOf atype) (by rw [h2]; exact (hKF.1.2 3 _ rfl).2) (by rw [h2]; intro C hC; cases hC) f5
  have hk := k (by dsimp only; omega) (by dsimp only; omega) (by dsimp only; omega) (by dsimp only; omega) H1 locs ls (hR.push (by rw [f2, hsz]) hn (fun q hq => f3 q (by rw [← hsz]; exact hq)) (by
    have h6 : ¬ cd < 6 := by rcases hcd with h | h | h | h <;> (injection h with h1 h2; omega)
    rw [xent_arr ω hs h6]
    show H1[xad ω n]? = some _
    rw [f1, hcA]
    rcases hcd with h | h | h | h <;> (injection h with h1 h2; injection h2 with h2 h3; subst h1; rw [h2])
    · show _ = some (arrV (ω.2.1 10) len (fun j => .int (Int32.ofInt (D n j))))
      simp only [hD]; rfl
    · show _ = some (arrV (ω.2.1 11) len (fun j => .long (Int64.ofInt (D n j))))
      simp only [hD]; rfl
    · show _ = some (arrV (ω.2.1 12) len (fun j => .int (Int32.ofInt (D n j))))
      simp only [hD]; rfl
    · show _ = some (arrV (ω.2.1 13) len (fun j => .int (Int32.ofInt (D n j))))
      simp only [hD]; rfl)) ⟨Nat.le_trans hS.1 (by rw [f2, hsz]; omega), fun x h1 h2 => (f3 x (by rw [← hsz]; exact Nat.lt_of_lt_of_le h1 hS.1)).trans (hS.2.1 x h1 h2), hS.2.2⟩ hL
  dsimp only at hk
  rw [show n - n0 + 1 = n + 1 - n0 by omega, show z - z0 + len = z + len - z0 by omega]
  exact hk
theorem v_anew (hX : xX γ cc nL y d) (hG0 : xGB γ σf) {idx cd len pi : Nat} {C : String} {i : Int} (hcd : (cd, C, pi) = (14, RX3, 4) ∨ (cd, C, pi) = (15, RX2, 5)) (hs : xSH n = (cd, len)) (hi : i = (len : Int)) (hlen : len < 100000) (hlk : Cond.classLink y.cls idx C ∈ xtb)
    (hn : n < 356) (hr : ∀ j, r n j = none) (e1 : n + 1 = n') (e2 : z + len = z') (hf : n' ≤ σf.1 ∧ z' ≤ σf.2) (hd : decode cc pc = .ok (.anewarray idx, 3)) (hq : pc + 3 = q) (k : xV γ q pl (.ref n :: st) (n', z') D r) : xV γ pc pl (vi i :: st) (n, z) D r := by
  subst hq; subst e1; subst e2; subst hi
  obtain ⟨p, l, e, R, s, m, args, below, meth, c, Q, ω, n0, z0, n1, z1⟩ := γ
  obtain ⟨hx, hb, hml, hown, hts, hKF, hA, hfr, hlo, hce, hsl, hnm⟩ := hX
  obtain ⟨rfl, rfl⟩ := hG0
  intro g1 g2 g3 g4 H locs ls hR hS hL
  dsimp only at g1 g2 g3 g4 hR hf
  have hsz := hR.1 hn
  have hto : (Int32.ofInt (len : Int)).toNatClampNeg = len := (xi_in (k := len) (n := len + 1) (by omega) (by omega)).2
  have hng : ¬ Int32.ofInt (len : Int) < 0 := fun h => (xi_in (k := len) (n := len + 1) (by omega) (by omega)).1 (Or.inl h)
  have hao : va_AO C s := by
    rcases hcd with h | h <;> (injection h with h1 h2; injection h2 with h2 h3; subst h2)
    · exact hKF.2.1
    · exact hKF.2.2.1
  show W p l e R s m args below meth c H locs (n - n0) (z - z0) Q (F0 m pc ls ((vi (len : Int) :: st).map (xtr ω)))
  refine W.anew hx hb hown (hts _ hlk) (va_AO.use hao) rfl hd rfl hng (by rw [hto]; omega) (by omega) (by rw [hto]; omega) fun cA kA comp f1 f2 f3 f4 => ?_
  rw [hto]
  have hcA : cA = ω.2.1 cd := by
    rcases hcd with h | h <;> (injection h with h1 h2; injection h2 with h2 h3; subst h1; subst h2)
    · obtain ⟨_, _, _, _, _, h9⟩ := (hKF.1.2 4 _ rfl).2
      exact Option.some.inj (f1.symm.trans h9)
    · obtain ⟨_, _, _, _, _, h9⟩ := (hKF.1.2 5 _ rfl).2
      exact Option.some.inj (f1.symm.trans h9)
  generalize hH1 : H.push ({ cls := cA, slots := Array.replicate len .null, vm := .none } : Cell) = H1
  have y1 : H1.size = H.size + 1 := by rw [← hH1, Array.size_push]
  have y2 : H1[H.size]? = some (arrV cA len (fun _ => .null)) := by rw [← hH1, Array.getElem?_push_size, ← arrV_new]
  have o1 : ∀ q : Nat, q < H.size → H1[q]? = H[q]? := fun q hq => by rw [← hH1, Array.getElem?_push, if_neg (Nat.ne_of_lt hq)]
  have hk := k (by dsimp only; omega) (by dsimp only; omega) (by dsimp only; omega) (by dsimp only; omega) H1 locs ls (hR.push y1 hn o1 (by
    have h6 : ¬ cd < 6 := by rcases hcd with h | h <;> (injection h with h1 h2; omega)
    rw [xent_arr ω hs h6]
    show H1[xad ω n]? = some _
    rw [← hsz, y2, hcA]
    rcases hcd with h | h <;> (injection h with h1 h2; subst h1)
    · show _ = some (arrV (ω.2.1 14) len (fun j => va_rf ((r n j).map (xad ω))))
      simp only [hr]; rfl
    · show _ = some (arrV (ω.2.1 15) len (fun j => va_rf ((r n j).map (xad ω))))
      simp only [hr]; rfl)) ⟨Nat.le_trans hS.1 (by rw [y1]; omega), fun x h1 h2 => (o1 x (Nat.lt_of_lt_of_le h1 hS.1)).trans (hS.2.1 x h1 h2), hS.2.2⟩ hL
  dsimp only at hk
  rw [show n - n0 + 1 = n + 1 - n0 by omega, show z - z0 + len = z + len - z0 by omega, hsz]
  exact hk
end XN
section XM2
variable {γ : xC} {cc : ByteArray} {nL d : Nat} {y : MethodName} {pc q : Nat} {pl : List (Option Value)} {st : List Value} {σ : Nat × Nat} {D : xD} {r : xR}
theorem v_objInit (hX : xX γ cc nL y d) {idx a : Nat} (hlk : Cond.methodLink y.cls idx Lib.objectInit ∈ xtb) (hin : Cond.instanceMethod Lib.objectInit ∈ xtb) (hcd : Cond.code Lib.objectInit ⟨#[0xb1]⟩ 1 none ∈ xtb) (hd1 : 1 ≤ d) (hst : (st.map Value.category).sum ≤ 8) (hd : decode cc pc = .ok (.invokespecial idx, 3)) (hq : pc + 3 = q)
    (k : xV γ q pl st σ D r) : xV γ pc pl (.ref a :: st) σ D r := by
  subst hq
  obtain ⟨p, l, e, R, s, m, args, below, meth, c, Q, ω, n0, z0, n1, z1⟩ := γ
  obtain ⟨hx, hb, hml, hown, hts, hKF, hA, hfr, hlo, hce, hsl, hnm⟩ := hX
  intro g1 g2 g3 g4 H locs ls hR hS hL
  refine W.objInit hx hb hown (hts _ hlk) (hts _ hin) (hts _ hcd) rfl hL.1 rfl hd (by omega) ?_ ?_
  · show 2 * 0 + _ + 12 ≤ _
    rw [xcat_sum]; omega
  · exact k g1 g2 g3 g4 H locs ls hR hS hL
theorem v_getst (hX : xX γ cc nL y d) {idx kk : Nat} (h1 : 1 ≤ kk) (h4 : kk < 4) (hy : y.cls = "LotFences") (hlk : Cond.fieldLink y.cls idx "LotFences" (xnm kk) "[I" ∈ xtb) (hd : decode cc pc = .ok (.getstatic idx, 3)) (hq : pc + 3 = q)
    (k : xV γ q pl (.ref kk :: st) σ D r) : xV γ pc pl st σ D r := by
  subst hq
  obtain ⟨p, l, e, R, s, m, args, below, meth, c, Q, ω, n0, z0, n1, z1⟩ := γ
  obtain ⟨hx, hb, hml, hown, hts, hKF, hA, hfr, hlo, hce, hsl, hnm⟩ := hX
  intro g1 g2 g3 g4 H locs ls hR hS hL
  have hk := k g1 g2 g3 g4 H locs ls hR hS hL
  have he : xtr ω (.ref kk) = .ref (ω.2.2.1 kk) := by show Value.ref (xad ω kk) = _; unfold xad; rw [if_pos h4]
  rw [List.map_cons, he] at hk
  exact va_gets hx hb (hKF.2.2.2.2.2.2.2.2 kk h1 h4).1 hS hown (hts _ hlk) (fun _ h9 => h9) hd hk
theorem v_stald (hX : xX γ cc nL y d) {a kk : Nat} {i : Int} (h1 : 1 ≤ a) (h4 : a < 4) (hi : i = (kk : Int)) (hk9 : kk < 9) (hd : decode cc pc = .ok (.iaload, 1)) (hq : pc + 1 = q)
    (k : xV γ q pl (vi (xst a kk) :: st) σ D r) : xV γ pc pl (vi i :: .ref a :: st) σ D r := by
  subst hq; subst hi
  obtain ⟨p, l, e, R, s, m, args, below, meth, c, Q, ω, n0, z0, n1, z1⟩ := γ
  obtain ⟨hx, hb, hml, hown, hts, hKF, hA, hfr, hlo, hce, hsl, hnm⟩ := hX
  intro g1 g2 g3 g4 H locs ls hR hS hL
  obtain ⟨cell, c1, c2, c3, c4, c5, c6, c7⟩ := (hKF.2.2.2.2.2.2.2.2 a h1 h4).2
  obtain ⟨hin, hto⟩ := xi_in (k := kk) (n := 9) hk9 (by decide)
  have he : xad ω a = ω.2.2.1 a := by unfold xad; rw [if_pos h4]
  exact W.iald (a := xad ω a) (v := vi (xst a kk)) hx hb (by rw [he, hS.2.1 _ (Array.getElem?_eq_some_iff.mp c1).1 c6]; exact c1) c2 c3 (by rw [c4]; exact hin) (by rw [hto]; exact c5 kk hk9) rfl rfl hd (k g1 g2 g3 g4 H locs ls hR hS hL)
theorem xcpy (D : xD) (a b sp dp len : Nat) : (fun j => Int32.ofInt ((fun q => if q = b then (fun j => if dp ≤ j ∧ j < dp + len then D a (sp + (j - dp)) else D b j) else D q) b j)) = va_cpy (fun j => Int32.ofInt (D a j)) (fun j => Int32.ofInt (D b j)) sp dp len := by
  funext j
  simp only [if_pos]
  unfold va_cpy
  split <;> rfl
/-- a part of a row of ints is put into another one (or the same) -/
def xcp (D : xD) (a sp b dp len : Nat) : xD := fun q => if q = b then (fun j => if dp ≤ j ∧ j < dp + len then D a (sp + (j - dp)) else D b j) else D q
theorem v_copy (hX : xX γ cc nL y d) {idx a b za zb sp dp len : Nat} {i1 i2 i3 : Int} (hσ : 356 ≤ σ.1) (hlk : Cond.methodLink y.cls idx arraycopyName ∈ xtb) (hnat : Cond.native arraycopyName ∈ xtb) (hsta : Cond.static arraycopyName ∈ xtb) (hini : Cond.initialized "java/lang/System" ∈ xtb)
    (e1 : i1 = (sp : Int)) (e2 : i2 = (dp : Int)) (e3 : i3 = (len : Int)) (h1 : sp + len ≤ za) (h2 : dp + len ≤ zb) (hz : za ≤ 10000 ∧ zb ≤ 10000) (hs1 : xSH a = (10, za)) (hs2 : xSH b = (10, zb)) (ha : 4 ≤ a) (han : a < σ.1) (hb4 : 4 ≤ b) (hbn : b < σ.1) (hd1 : 1 ≤ d) (hst : (st.map Value.category).sum ≤ 8)
    (hd : decode cc pc = .ok (.invokestatic idx, 3)) (hq : pc + 3 = q) (k : xV γ q pl st σ (xcp D a sp b dp len) r) : xV γ pc pl (vi i3 :: vi i2 :: .ref b :: vi i1 :: .ref a :: st) σ D r := by
  subst hq; subst e1; subst e2; subst e3
  obtain ⟨p, l, e, R, s, m, args, below, meth, c, Q, ω, n0, z0, n1, z1⟩ := γ
  obtain ⟨hx, hb, hml, hown, hts, hKF, hA, hfr, hlo, hce, hsl, hnm⟩ := hX
  intro g1 g2 g3 g4 H locs ls hR hS hL
  have w1 := xws_at ω D r ha han
  have w2 := xws_at ω D r hb4 hbn
  rw [xent_arr ω hs1 (by decide)] at w1
  rw [xent_arr ω hs2 (by decide)] at w2
  obtain ⟨i1, t1⟩ := xi_in (k := sp) (n := 100000) (by omega) (by omega)
  obtain ⟨i2, t2⟩ := xi_in (k := dp) (n := 100000) (by omega) (by omega)
  obtain ⟨i3, t3⟩ := xi_in (k := len) (n := 100000) (by omega) (by omega)
  refine va_copyi hx hb (hL.1.symm) hown (hts _ hlk) (hts _ hnat) (hts _ hsta) (hts _ hini) hKF.1 hR.2.2 (xws_D ω σ.1 D r) hS (a - 4) (b - 4) 0 0 w1 w2 rfl rfl rfl (fun h => i1 (Or.inl h)) (fun h => i2 (Or.inl h)) (fun h => i3 (Or.inl h)) (by rw [t1, t3]; exact h1) (by rw [t2, t3]; exact h2) (fun i _ => rfl) (by omega) ?_ hd fun H1 locs1 hP hD hS1 => ?_
  · rw [xcat_sum]
    have h9 : nativeFrameWords "java/lang/System" "arraycopy" 5 + 11 ≤ 30 := by decide +kernel
    omega
  · refine k g1 g2 g3 g4 H1 locs1 ls ⟨fun h => by omega, hR.2.1, ?_⟩ hS1 hL
    rw [t1, t2, t3] at hP
    rw [← xws_set ω (D := D) (D' := xcp D a sp b dp len) (r := r) (r' := r) (k := b) hb4 hbn rfl (fun q hq => if_neg hq) (fun _ _ => rfl)]
    rw [xent_arr ω hs2 (by decide)]
    have h8 : xarr ω 10 (xcp D a sp b dp len) r b = .inl (va_cpy (fun j => Int32.ofInt (D a j)) (fun j => Int32.ofInt (D b j)) sp dp len) := by
      show Sum.inl _ = Sum.inl _
      congr 1
      exact xcpy D a b sp dp len
    rw [h8]
    exact hP
theorem v_mmin (hX : xX γ cc nL y d) {idx : Nat} {a b : Int} (ha : xI a) (hb2 : xI b) (hlk : Cond.methodLink y.cls idx Lib.Math.min.name ∈ xtb) (hsta : Cond.static Lib.Math.min.name ∈ xtb) (hini : Cond.initialized "java/lang/Math" ∈ xtb) (hcd : Cond.code Lib.Math.min.name Lib.Math.min.code 2 (some .int) ∈ xtb) (hd1 : 1 ≤ d) (hst : (st.map Value.category).sum ≤ 8) (hd : decode cc pc = .ok (.invokestatic idx, 3)) (hq : pc + 3 = q)
    (k : xV γ q pl (vi (if b < a then b else a) :: st) σ D r) : xV γ pc pl (vi b :: vi a :: st) σ D r := by
  have e0 : Int32.ofInt (if b < a then b else a) = if Int32.ofInt b < Int32.ofInt a then Int32.ofInt b else Int32.ofInt a := by
    simp only [xi_lt hb2 ha]; split <;> rfl
  have k : xV γ q pl ((.int (if Int32.ofInt b < Int32.ofInt a then Int32.ofInt b else Int32.ofInt a) : Value) :: st) σ D r := by rw [← e0]; exact k
  subst hq
  obtain ⟨p, l, e, R, s, m, args, below, meth, c, Q, ω, n0, z0, n1, z1⟩ := γ
  obtain ⟨hx, hb, hml, hown, hts, hKF, hA, hfr, hlo, hce, hsl, hnm⟩ := hX
  intro g1 g2 g3 g4 H locs ls hR hS hL
  exact va_mmin hx hb hL.1.symm hown (hts _ hlk) (hts _ hsta) (hts _ hini) (hts _ hcd) (by omega) (by rw [xcat_sum]; omega) (by omega) (by omega) hd (k g1 g2 g3 g4 H locs ls hR hS hL)
theorem v_mmax (hX : xX γ cc nL y d) {idx : Nat} {a b : Int} (ha : xI a) (hb2 : xI b) (hlk : Cond.methodLink y.cls idx Lib.Math.max.name ∈ xtb) (hsta : Cond.static Lib.Math.max.name ∈ xtb) (hini : Cond.initialized "java/lang/Math" ∈ xtb) (hcd : Cond.code Lib.Math.max.name Lib.Math.max.code 2 (some .int) ∈ xtb) (hd1 : 1 ≤ d) (hst : (st.map Value.category).sum ≤ 8) (hd : decode cc pc = .ok (.invokestatic idx, 3)) (hq : pc + 3 = q)
    (k : xV γ q pl (vi (if a < b then b else a) :: st) σ D r) : xV γ pc pl (vi b :: vi a :: st) σ D r := by
  have e0 : Int32.ofInt (if a < b then b else a) = if Int32.ofInt a < Int32.ofInt b then Int32.ofInt b else Int32.ofInt a := by
    simp only [xi_lt ha hb2]; split <;> rfl
  have k : xV γ q pl ((.int (if Int32.ofInt a < Int32.ofInt b then Int32.ofInt b else Int32.ofInt a) : Value) :: st) σ D r := by rw [← e0]; exact k
  subst hq
  obtain ⟨p, l, e, R, s, m, args, below, meth, c, Q, ω, n0, z0, n1, z1⟩ := γ
  obtain ⟨hx, hb, hml, hown, hts, hKF, hA, hfr, hlo, hce, hsl, hnm⟩ := hX
  intro g1 g2 g3 g4 H locs ls hR hS hL
  exact va_mmax hx hb hL.1.symm hown (hts _ hlk) (hts _ hsta) (hts _ hini) (hts _ hcd) (by omega) (by rw [xcat_sum]; omega) (by omega) (by omega) hd (k g1 g2 g3 g4 H locs ls hR hS hL)
theorem v_mminL (hX : xX γ cc nL y d) {idx : Nat} {a b : Int} (ha : xJ a) (hb2 : xJ b) (hlk : Cond.methodLink y.cls idx Lib.MathLoose.min_long.x ∈ xtb) (hsta : Cond.static Lib.MathLoose.min_long.x ∈ xtb) (hini : Cond.initialized "java/lang/Math" ∈ xtb) (hcd : Cond.code Lib.MathLoose.min_long.x Lib.MathLoose.min_long.code 4 (some .long) ∈ xtb) (hd1 : 1 ≤ d) (hst : (st.map Value.category).sum ≤ 8) (hd : decode cc pc = .ok (.invokestatic idx, 3)) (hq : pc + 3 = q)
    (k : xV γ q pl (vl (if b < a then b else a) :: st) σ D r) : xV γ pc pl (vl b :: vl a :: st) σ D r := by
  have e0 : Int64.ofInt (if b < a then b else a) = if Int64.ofInt b < Int64.ofInt a then Int64.ofInt b else Int64.ofInt a := by
    simp only [xl_lt hb2 ha]; split <;> rfl
  have k : xV γ q pl ((.long (if Int64.ofInt b < Int64.ofInt a then Int64.ofInt b else Int64.ofInt a) : Value) :: st) σ D r := by rw [← e0]; exact k
  subst hq
  obtain ⟨p, l, e, R, s, m, args, below, meth, c, Q, ω, n0, z0, n1, z1⟩ := γ
  obtain ⟨hx, hb, hml, hown, hts, hKF, hA, hfr, hlo, hce, hsl, hnm⟩ := hX
  intro g1 g2 g3 g4 H locs ls hR hS hL
  exact va_mmin_long hx hb hL.1.symm hown (hts _ hlk) (hts _ hsta) (hts _ hini) (hts _ hcd) (by omega) (by rw [xcat_sum]; omega) (by omega) (by omega) hd (k g1 g2 g3 g4 H locs ls hR hS hL)
theorem v_mabs (hX : xX γ cc nL y d) {idx : Nat} {a : Int} (ha : xI a) (hlk : Cond.methodLink y.cls idx Lib.Math.abs.name ∈ xtb) (hsta : Cond.static Lib.Math.abs.name ∈ xtb) (hini : Cond.initialized "java/lang/Math" ∈ xtb) (hcd : Cond.code Lib.Math.abs.name Lib.Math.abs.code 1 (some .int) ∈ xtb) (hd1 : 1 ≤ d) (hst : (st.map Value.category).sum ≤ 8) (hd : decode cc pc = .ok (.invokestatic idx, 3)) (hq : pc + 3 = q)
    (k : xV γ q pl (vi (if 0 ≤ a then a else 0 - a) :: st) σ D r) : xV γ pc pl (vi a :: st) σ D r := by
  have e0 : Int32.ofInt (if 0 ≤ a then a else 0 - a) = if 0 ≤ Int32.ofInt a then Int32.ofInt a else 0 - Int32.ofInt a := by
    rw [show (0 : Int32) = Int32.ofInt 0 from rfl, ← Int32.ofInt_sub]
    simp only [xi_le (show xI 0 by decide) ha]; split <;> rfl
  have k : xV γ q pl ((.int (if 0 ≤ Int32.ofInt a then Int32.ofInt a else 0 - Int32.ofInt a) : Value) :: st) σ D r := by rw [← e0]; exact k
  subst hq
  obtain ⟨p, l, e, R, s, m, args, below, meth, c, Q, ω, n0, z0, n1, z1⟩ := γ
  obtain ⟨hx, hb, hml, hown, hts, hKF, hA, hfr, hlo, hce, hsl, hnm⟩ := hX
  intro g1 g2 g3 g4 H locs ls hR hS hL
  exact va_mabs hx hb hL.1.symm hown (hts _ hlk) (hts _ hsta) (hts _ hini) (hts _ hcd) (by omega) (by rw [xcat_sum]; omega) (by omega) (by omega) hd (k g1 g2 g3 g4 H locs ls hR hS hL)
end XM2
end
section
section XK
variable {γ : xC} {cc : ByteArray} {nL d : Nat} {y : MethodName} {pc q : Nat} {pl : List (Option Value)} {st : List Value} {σf : Nat × Nat} {n z n' z' : Nat} {D : xD} {r : xR}
theorem v_getstN (hX : xX γ cc nL y d) {σ : Nat × Nat} (hy : y.cls = RX3) (hd : decode cc pc = .ok (.getstatic 9, 3)) (hq : pc + 3 = q) (k : xV γ q pl (.ref 3 :: st) σ D r) : xV γ pc pl st σ D r := by
  subst hq
  obtain ⟨p, l, e, R, s, m, args, below, meth, c, Q, ω, n0, z0, n1, z1⟩ := γ
  obtain ⟨hx, hb, hml, hown, hts, hKF, hA, hfr, hlo, hce, hsl, hnm⟩ := hX
  intro g1 g2 g3 g4 H locs ls hR hS hL
  rw [hy] at hown
  have hk := k g1 g2 g3 g4 H locs ls hR hS hL
  have he : xtr ω (.ref 3) = .ref (ω.2.2.1 3) := rfl
  rw [List.map_cons, he] at hk
  exact va_getsN (C := "LotFences") (n := "FIRST_SETTINGS") (d := "[I") (host := "LotFences") hx hb (hKF.2.2.2.2.2.2.2.2 3 (by decide) (by decide)).1 hS hown (va_Nw.use rfl hKF.2.2.2.2.2.2.1) (fun _ h9 => h9) hd hk
/-- the clone of the static row of the first settings -/
theorem v_clone (hX : xX γ cc nL y d) (hG0 : xGB γ σf) {idx : Nat} (hlk : Cond.methodLink y.cls idx ⟨"[I", "clone", "()Ljava/lang/Object;"⟩ ∈ xtb) (hsm : Cond.sameMethod "[I" "java/lang/Object" "clone" "()Ljava/lang/Object;" ∈ xtb) (hnat : Cond.native ⟨"java/lang/Object", "clone", "()Ljava/lang/Object;"⟩ ∈ xtb)
    (hins : Cond.instanceMethod ⟨"java/lang/Object", "clone", "()Ljava/lang/Object;"⟩ ∈ xtb) (hsel : Cond.selects "[I" ⟨"[I", "clone", "()Ljava/lang/Object;"⟩ ⟨"java/lang/Object", "clone", "()Ljava/lang/Object;"⟩ ∈ xtb)
    (hs : xSH n = (10, 9)) (hn : n < 356) (e1 : n + 1 = n') (e2 : z + 9 = z') (hf : n' ≤ σf.1 ∧ z' ≤ σf.2) (hd1 : 1 ≤ d) (hst : (st.map Value.category).sum ≤ 8) {D' : xD} (hD1 : ∀ q, q ≠ n → D' q = D q) (hD2 : ∀ j, j < 9 → D' n j = xst 3 j) (hd : decode cc pc = .ok (.invokevirtual idx, 3)) (hq : pc + 3 = q)
    (k : xV γ q pl (.ref n :: st) (n', z') D' r) : xV γ pc pl (.ref 3 :: st) (n, z) D r := by
  subst hq; subst e1; subst e2
  obtain ⟨p, l, e, R, s, m, args, below, meth, c, Q, ω, n0, z0, n1, z1⟩ := γ
  obtain ⟨hx, hb, hml, hown, hts, hKF, hA, hfr, hlo, hce, hsl, hnm⟩ := hX
  obtain ⟨rfl, rfl⟩ := hG0
  intro g1 g2 g3 g4 H locs ls hR hS hL
  dsimp only at g1 g2 g3 g4 hR hf
  have hsz := hR.1 hn
  have hn4 := hR.2.1
  have he : xad ω 3 = ω.2.2.1 3 := rfl
  obtain ⟨cell, c1, c2, c3, c4, c5, c6, c7⟩ := (hKF.2.2.2.2.2.2.2.2 3 (by decide) (by decide)).2
  have hcH : H[ω.2.2.1 3]? = some cell := by rw [hS.2.1 _ (Array.getElem?_eq_some_iff.mp c1).1 c6]; exact c1
  obtain ⟨c0, t0', f1, f2, f3⟩ := Cond.castable_spec (va_Nw.use (A := args) rfl hKF.2.2.2.2.2.2.2.1)
  cases c7.symm.trans f1
  obtain ⟨hAr, hRA⟩ := hKF.1.2 0 _ rfl
  have hcA : cell.cls = ω.2.1 10 := Option.some.inj (c7.symm.trans hRA)
  intro T hT X
  obtain ⟨-, kA, hkA, comp, hkind⟩ := State.isArrayOf_alike X.warmed.alike (hAr 0 (fun _ => .null))
  obtain ⟨-, kS, hkS, compS, hkindS⟩ := hAr 0 (fun _ => .null)
  obtain ⟨vm', X', st9⟩ := X.cloneArray hx hown (hts _ hlk) (hts _ hsm) (hts _ hnat) (hts _ hins) (hts _ hsel) (a := ω.2.2.1 3) (cell := cell) (by rw [hT]; exact hcH) c2.1 c3 c7 f2 f3
    (fun i v hv => by
      rw [hcA]
      have hk' : T.vm.classes[ω.2.1 10]? = some kA := hkA
      have hi : i < 9 := by rw [← c4]; exact (Array.getElem?_eq_some_iff.mp hv).1
      rw [c5 i hi] at hv
      cases hv
      have hf9 : fits .int (vi (xst 3 i)) = true := rfl
      simpa [State.fitsSlot, State.slotType?, hk', hkind] using hf9)
    (g := F0 m pc ls ((Value.ref 3 :: st).map (xtr ω))) rfl hL.1 rfl (by rw [hb]; exact hd) (by omega) (by show 2 * 0 + _ + 14 ≤ _; rw [xcat_sum]; omega) (by omega) (by rw [c4]; omega) (hloader := by rw [hcA]; exact Vm.clonesLoader_of_array hkS hkindS)
  rw [c4] at X'
  generalize hH1 : H.push ({ cls := cell.cls, slots := cell.slots } : Cell) = H1
  have y1 : H1.size = H.size + 1 := by rw [← hH1, Array.size_push]
  have y2 : H1[H.size]? = some ({ cls := cell.cls, slots := cell.slots } : Cell) := by rw [← hH1, Array.getElem?_push_size]
  have o1 : ∀ q : Nat, q < H.size → H1[q]? = H[q]? := fun q hq => by rw [← hH1, Array.getElem?_push, if_neg (Nat.ne_of_lt hq)]
  have hcell : ({ cls := cell.cls, slots := cell.slots } : Cell) = vp_cell (ω.2.1 10) (9, .inl fun j => Int32.ofInt (D' n j)) := by
    rw [vp_cell_i, hcA]
    have h9 : cell.slots = (arrV (ω.2.1 10) 9 (fun j => .int (Int32.ofInt (D' n j)))).slots := by
      apply Array.ext_getElem?
      intro i
      by_cases hi : i < 9
      · rw [c5 i hi, arrV_read _ _ hi, hD2 i hi]
      · rw [Array.getElem?_eq_none (by omega), Array.getElem?_eq_none (by rw [arrV_size]; omega)]
    rw [h9]
    rfl
  have hRD : xRep ω n D' r H := ⟨hR.1, hR.2.1, by
    have h8 : xws ω n D' r = xws ω n D r := by
      unfold xws
      refine List.map_congr_left fun i hi => ?_
      have := List.mem_range.mp hi
      rw [xent_congr ω (hD1 (i + 4) (by omega)) rfl]
    rw [h8]; exact hR.2.2⟩
  have hk := k (by dsimp only; omega) (by dsimp only; omega) (by dsimp only; omega) (by dsimp only; omega) H1 locs ls (hRD.push y1 hn o1 (by
    rw [xent_arr ω hs (by decide)]
    show H1[xad ω n]? = some _
    rw [← hsz, y2, hcell]
    rfl)) ⟨Nat.le_trans hS.1 (by rw [y1]; omega), fun x h1 h2 => (o1 x (Nat.lt_of_lt_of_le h1 hS.1)).trans (hS.2.1 x h1 h2), hS.2.2⟩ hL
  dsimp only at hk
  rw [show n + 1 - n0 = n - n0 + 1 by omega, show z + 9 - z0 = z - z0 + 9 by omega] at hk
  obtain ⟨t, b1, b2⟩ := hk _ (by rw [← hH1, ← hT]; rfl) X'
  refine ⟨t, st9 t ?_, b2⟩
  have e9 : xtr ω (.ref n) = .ref T.heap.size := by rw [hT, hsz]; rfl
  rw [List.map_cons, e9] at b1
  exact b1
theorem v_cast (hX : xX γ cc nL y d) {σ : Nat × Nat} {idx a len : Nat} (hlk : Cond.classLink y.cls idx "[I" ∈ xtb) (hs : xSH a = (10, len)) (ha : 4 ≤ a) (han : a < σ.1) (hd : decode cc pc = .ok (.checkcast idx, 3)) (hq : pc + 3 = q) (k : xV γ q pl (.ref a :: st) σ D r) : xV γ pc pl (.ref a :: st) σ D r := by
  subst hq
  obtain ⟨p, l, e, R, s, m, args, below, meth, c, Q, ω, n0, z0, n1, z1⟩ := γ
  obtain ⟨hx, hb, hml, hown, hts, hKF, hA, hfr, hlo, hce, hsl, hnm⟩ := hX
  intro g1 g2 g3 g4 H locs ls hR hS hL
  obtain ⟨hAr, hRA⟩ := hKF.1.2 0 _ rfl
  have h0 := xws_at ω D r ha han
  rw [xent_arr ω hs (by decide)] at h0
  exact va_castA hx hb hown (hts _ hlk) hR.2.2 (a - 4) h0 hRA hd (k g1 g2 g3 g4 H locs ls hR hS hL)
end XK
end
section
theorem ixX0 : ∀ w ∈ u_ws RX0 TX0 3, w ∈ xtb := by
  have h : u_ws RX0 TX0 3 = ([258, 260, 262] : List Nat).filterMap (fun i => lw_tbl[i]?) := by decide +kernel
  intro w hw
  rw [h] at hw
  obtain ⟨i, -, hi⟩ := List.mem_filterMap.mp hw
  have hg : (([258, 260, 262] : List Nat).filterMap (fun i => lw_tbl[i]?)).all goodWord = true := by decide +kernel
  exact List.mem_filter.mpr ⟨List.mem_of_getElem? hi, List.all_eq_true.mp hg w hw⟩
theorem ffX0 (own : String) (idx j : Nat) (fin : Bool) (hj : j < 3) (h : Cond.fieldLink own idx (TX0 j).1 (TX0 j).2.1 (TX0 j).2.2.1 ∈ xtb) (hf : (TX0 j).2.2.2 = fin) (hc : (TX0 j).1 = RX0) : xFL own idx 0 j fin := ⟨TX0, by decide, rfl, hj, ixX0, tyX0_ok, nmX0, h, hf, hc⟩
theorem ixX1 : ∀ w ∈ u_ws RX1 TX1 7, w ∈ xtb := by
  have h : u_ws RX1 TX1 7 = ([228, 230, 232, 234, 236, 238, 240] : List Nat).filterMap (fun i => lw_tbl[i]?) := by decide +kernel
  intro w hw
  rw [h] at hw
  obtain ⟨i, -, hi⟩ := List.mem_filterMap.mp hw
  have hg : (([228, 230, 232, 234, 236, 238, 240] : List Nat).filterMap (fun i => lw_tbl[i]?)).all goodWord = true := by decide +kernel
  exact List.mem_filter.mpr ⟨List.mem_of_getElem? hi, List.all_eq_true.mp hg w hw⟩
theorem ffX1 (own : String) (idx j : Nat) (fin : Bool) (hj : j < 7) (h : Cond.fieldLink own idx (TX1 j).1 (TX1 j).2.1 (TX1 j).2.2.1 ∈ xtb) (hf : (TX1 j).2.2.2 = fin) (hc : (TX1 j).1 = RX1) : xFL own idx 1 j fin := ⟨TX1, by decide, rfl, hj, ixX1, tyX1_ok, nmX1, h, hf, hc⟩
theorem ixX2 : ∀ w ∈ u_ws RX2 TX2 17, w ∈ xtb := by
  have h : u_ws RX2 TX2 17 = ([136, 138, 140, 142, 144, 146, 148, 150, 152, 154, 156, 158, 160, 162, 164, 166, 168] : List Nat).filterMap (fun i => lw_tbl[i]?) := by decide +kernel
  intro w hw
  rw [h] at hw
  obtain ⟨i, -, hi⟩ := List.mem_filterMap.mp hw
  have hg : (([136, 138, 140, 142, 144, 146, 148, 150, 152, 154, 156, 158, 160, 162, 164, 166, 168] : List Nat).filterMap (fun i => lw_tbl[i]?)).all goodWord = true := by decide +kernel
  exact List.mem_filter.mpr ⟨List.mem_of_getElem? hi, List.all_eq_true.mp hg w hw⟩
theorem ffX2 (own : String) (idx j : Nat) (fin : Bool) (hj : j < 17) (h : Cond.fieldLink own idx (TX2 j).1 (TX2 j).2.1 (TX2 j).2.2.1 ∈ xtb) (hf : (TX2 j).2.2.2 = fin) (hc : (TX2 j).1 = RX2) : xFL own idx 2 j fin := ⟨TX2, by decide, rfl, hj, ixX2, tyX2_ok, nmX2, h, hf, hc⟩
theorem ixX3 : ∀ w ∈ u_ws RX3 TX3 10, w ∈ xtb := by
  have h : u_ws RX3 TX3 10 = ([188, 190, 192, 194, 196, 198, 200, 202, 204, 206] : List Nat).filterMap (fun i => lw_tbl[i]?) := by decide +kernel
  intro w hw
  rw [h] at hw
  obtain ⟨i, -, hi⟩ := List.mem_filterMap.mp hw
  have hg : (([188, 190, 192, 194, 196, 198, 200, 202, 204, 206] : List Nat).filterMap (fun i => lw_tbl[i]?)).all goodWord = true := by decide +kernel
  exact List.mem_filter.mpr ⟨List.mem_of_getElem? hi, List.all_eq_true.mp hg w hw⟩
theorem ffX3 (own : String) (idx j : Nat) (fin : Bool) (hj : j < 10) (h : Cond.fieldLink own idx (TX3 j).1 (TX3 j).2.1 (TX3 j).2.2.1 ∈ xtb) (hf : (TX3 j).2.2.2 = fin) (hc : (TX3 j).1 = RX3) : xFL own idx 3 j fin := ⟨TX3, by decide, rfl, hj, ixX3, tyX3_ok, nmX3, h, hf, hc⟩
theorem ixX4 : ∀ w ∈ u_ws RX4 TX4 6, w ∈ xtb := by
  have h : u_ws RX4 TX4 6 = ([271, 273, 275, 277, 279, 281] : List Nat).filterMap (fun i => lw_tbl[i]?) := by decide +kernel
  intro w hw
  rw [h] at hw
  obtain ⟨i, -, hi⟩ := List.mem_filterMap.mp hw
  have hg : (([271, 273, 275, 277, 279, 281] : List Nat).filterMap (fun i => lw_tbl[i]?)).all goodWord = true := by decide +kernel
  exact List.mem_filter.mpr ⟨List.mem_of_getElem? hi, List.all_eq_true.mp hg w hw⟩
theorem ffX4 (own : String) (idx j : Nat) (fin : Bool) (hj : j < 6) (h : Cond.fieldLink own idx (TX4 j).1 (TX4 j).2.1 (TX4 j).2.2.1 ∈ xtb) (hf : (TX4 j).2.2.2 = fin) (hc : (TX4 j).1 = RX4) : xFL own idx 4 j fin := ⟨TX4, by decide, rfl, hj, ixX4, tyX4_ok, nmX4, h, hf, hc⟩
theorem ixX5 : ∀ w ∈ u_ws RX5 TX5 12, w ∈ xtb := by
  have h : u_ws RX5 TX5 12 = ([681, 683, 685, 687, 689, 691, 693, 695, 697, 699, 701, 703] : List Nat).filterMap (fun i => lw_tbl[i]?) := by decide +kernel
  intro w hw
  rw [h] at hw
  obtain ⟨i, -, hi⟩ := List.mem_filterMap.mp hw
  have hg : (([681, 683, 685, 687, 689, 691, 693, 695, 697, 699, 701, 703] : List Nat).filterMap (fun i => lw_tbl[i]?)).all goodWord = true := by decide +kernel
  exact List.mem_filter.mpr ⟨List.mem_of_getElem? hi, List.all_eq_true.mp hg w hw⟩
theorem ffX5 (own : String) (idx j : Nat) (fin : Bool) (hj : j < 12) (h : Cond.fieldLink own idx (TX5 j).1 (TX5 j).2.1 (TX5 j).2.2.1 ∈ xtb) (hf : (TX5 j).2.2.2 = fin) (hc : (TX5 j).1 = RX5) : xFL own idx 5 j fin := ⟨TX5, by decide, rfl, hj, ixX5, tyX5_ok, nmX5, h, hf, hc⟩
theorem ii_L : Cond.initialized RL ∈ xtb := xtb_in 53 (by decide +kernel) rfl
theorem ii_X4 : Cond.initialized RX4 ∈ xtb := xtb_in 54 (by decide +kernel) rfl
theorem ii_X3 : Cond.initialized RX3 ∈ xtb := xtb_in 55 (by decide +kernel) rfl
theorem ii_J7 : Cond.initialized RJ7 ∈ xtb := xtb_in 56 (by decide +kernel) rfl
theorem ii_X2 : Cond.initialized RX2 ∈ xtb := xtb_in 57 (by decide +kernel) rfl
theorem ii_X1 : Cond.initialized RX1 ∈ xtb := xtb_in 58 (by decide +kernel) rfl
theorem ii_X0 : Cond.initialized RX0 ∈ xtb := xtb_in 59 (by decide +kernel) rfl
theorem ii_X5 : Cond.initialized RX5 ∈ xtb := xtb_in 60 (by decide +kernel) rfl
theorem ii_J10 : Cond.initialized RJ10 ∈ xtb := xtb_in 61 (by decide +kernel) rfl
theorem ii_J9 : Cond.initialized RJ9 ∈ xtb := xtb_in 62 (by decide +kernel) rfl
theorem ii_J6 : Cond.initialized RJ6 ∈ xtb := xtb_in 63 (by decide +kernel) rfl
theorem ck_L_7 : Cond.classLink RL 7 RX4 ∈ xtb := xtb_in 64 (by decide +kernel) rfl
theorem in_X4 : Cond.instantiable RX4 6 ∈ xtb := xtb_in 65 (by decide +kernel) rfl
theorem lk_L_9 : Cond.methodLink RL 9 yX4_init ∈ xtb := xtb_in 66 (by decide +kernel) rfl
theorem lk_X4_1 : Cond.methodLink RX4 1 Lib.objectInit ∈ xtb := xtb_in 69 (by decide +kernel) rfl
theorem ck_X4_7 : Cond.classLink RX4 7 RX3 ∈ xtb := xtb_in 72 (by decide +kernel) rfl
theorem in_X3 : Cond.instantiable RX3 10 ∈ xtb := xtb_in 73 (by decide +kernel) rfl
theorem lk_X4_9 : Cond.methodLink RX4 9 yX3_init ∈ xtb := xtb_in 74 (by decide +kernel) rfl
theorem lk_X3_3 : Cond.methodLink RX3 3 Lib.objectInit ∈ xtb := xtb_in 77 (by decide +kernel) rfl
theorem lk_X3_13 : Cond.methodLink RX3 13 ⟨"[I", "clone", "()Ljava/lang/Object;"⟩ ∈ xtb := xtb_in 80 (by decide +kernel) rfl
theorem sm_clone : Cond.sameMethod "[I" "java/lang/Object" "clone" "()Ljava/lang/Object;" ∈ xtb := xtb_in 81 (by decide +kernel) rfl
theorem nat_clone : Cond.native ⟨"java/lang/Object", "clone", "()Ljava/lang/Object;"⟩ ∈ xtb := xtb_in 82 (by decide +kernel) rfl
theorem sl_clone : Cond.selects "[I" ⟨"[I", "clone", "()Ljava/lang/Object;"⟩ ⟨"java/lang/Object", "clone", "()Ljava/lang/Object;"⟩ ∈ xtb := xtb_in 84 (by decide +kernel) rfl
theorem ck_X3_14 : Cond.classLink RX3 14 "[I" ∈ xtb := xtb_in 86 (by decide +kernel) rfl
theorem ck_X3_26 : Cond.classLink RX3 26 RX2 ∈ xtb := xtb_in 87 (by decide +kernel) rfl
theorem lk_X3_32 : Cond.methodLink RX3 32 yJ7_fill_53178 ∈ xtb := xtb_in 89 (by decide +kernel) rfl
theorem in_X2 : Cond.instantiable RX2 17 ∈ xtb := xtb_in 92 (by decide +kernel) rfl
theorem lk_X2_3 : Cond.methodLink RX2 3 Lib.objectInit ∈ xtb := xtb_in 96 (by decide +kernel) rfl
theorem fl_X2_18 : xFL RX2 18 2 0 false := ffX2 _ _ _ _ (by decide) (xtb_in 97 (by decide +kernel) rfl) rfl rfl
theorem fl_X3_87 : xFL RX3 87 2 0 false := ffX2 _ _ _ _ (by decide) (xtb_in 98 (by decide +kernel) rfl) rfl rfl
theorem fl_X4_127 : xFL RX4 127 2 0 false := ffX2 _ _ _ _ (by decide) (xtb_in 99 (by decide +kernel) rfl) rfl rfl
theorem fl_X2_22 : xFL RX2 22 2 1 false := ffX2 _ _ _ _ (by decide) (xtb_in 100 (by decide +kernel) rfl) rfl rfl
theorem fl_X4_130 : xFL RX4 130 2 1 false := ffX2 _ _ _ _ (by decide) (xtb_in 101 (by decide +kernel) rfl) rfl rfl
theorem fl_X2_25 : xFL RX2 25 2 2 false := ffX2 _ _ _ _ (by decide) (xtb_in 102 (by decide +kernel) rfl) rfl rfl
theorem fl_X3_84 : xFL RX3 84 2 2 false := ffX2 _ _ _ _ (by decide) (xtb_in 103 (by decide +kernel) rfl) rfl rfl
theorem fl_X4_133 : xFL RX4 133 2 2 false := ffX2 _ _ _ _ (by decide) (xtb_in 104 (by decide +kernel) rfl) rfl rfl
theorem fl_X2_28 : xFL RX2 28 2 3 false := ffX2 _ _ _ _ (by decide) (xtb_in 105 (by decide +kernel) rfl) rfl rfl
theorem fl_X3_81 : xFL RX3 81 2 3 false := ffX2 _ _ _ _ (by decide) (xtb_in 106 (by decide +kernel) rfl) rfl rfl
theorem fl_X4_136 : xFL RX4 136 2 3 false := ffX2 _ _ _ _ (by decide) (xtb_in 107 (by decide +kernel) rfl) rfl rfl
theorem fl_X2_31 : xFL RX2 31 2 4 false := ffX2 _ _ _ _ (by decide) (xtb_in 108 (by decide +kernel) rfl) rfl rfl
theorem fl_X4_160 : xFL RX4 160 2 4 false := ffX2 _ _ _ _ (by decide) (xtb_in 109 (by decide +kernel) rfl) rfl rfl
theorem fl_X2_34 : xFL RX2 34 2 5 false := ffX2 _ _ _ _ (by decide) (xtb_in 110 (by decide +kernel) rfl) rfl rfl
theorem fl_X4_139 : xFL RX4 139 2 5 false := ffX2 _ _ _ _ (by decide) (xtb_in 111 (by decide +kernel) rfl) rfl rfl
theorem fl_X3_108 : xFL RX3 108 2 5 false := ffX2 _ _ _ _ (by decide) (xtb_in 112 (by decide +kernel) rfl) rfl rfl
theorem fl_X2_37 : xFL RX2 37 2 6 false := ffX2 _ _ _ _ (by decide) (xtb_in 113 (by decide +kernel) rfl) rfl rfl
theorem fl_X4_142 : xFL RX4 142 2 6 false := ffX2 _ _ _ _ (by decide) (xtb_in 114 (by decide +kernel) rfl) rfl rfl
theorem fl_X3_111 : xFL RX3 111 2 6 false := ffX2 _ _ _ _ (by decide) (xtb_in 115 (by decide +kernel) rfl) rfl rfl
theorem fl_X2_40 : xFL RX2 40 2 7 false := ffX2 _ _ _ _ (by decide) (xtb_in 116 (by decide +kernel) rfl) rfl rfl
theorem fl_X4_145 : xFL RX4 145 2 7 false := ffX2 _ _ _ _ (by decide) (xtb_in 117 (by decide +kernel) rfl) rfl rfl
theorem fl_X2_43 : xFL RX2 43 2 8 false := ffX2 _ _ _ _ (by decide) (xtb_in 118 (by decide +kernel) rfl) rfl rfl
theorem fl_X4_95 : xFL RX4 95 2 8 false := ffX2 _ _ _ _ (by decide) (xtb_in 119 (by decide +kernel) rfl) rfl rfl
theorem fl_X3_114 : xFL RX3 114 2 8 false := ffX2 _ _ _ _ (by decide) (xtb_in 120 (by decide +kernel) rfl) rfl rfl
theorem fl_X2_46 : xFL RX2 46 2 9 false := ffX2 _ _ _ _ (by decide) (xtb_in 121 (by decide +kernel) rfl) rfl rfl
theorem fl_X4_151 : xFL RX4 151 2 9 false := ffX2 _ _ _ _ (by decide) (xtb_in 122 (by decide +kernel) rfl) rfl rfl
theorem fl_X2_49 : xFL RX2 49 2 10 false := ffX2 _ _ _ _ (by decide) (xtb_in 123 (by decide +kernel) rfl) rfl rfl
theorem fl_X4_154 : xFL RX4 154 2 10 false := ffX2 _ _ _ _ (by decide) (xtb_in 124 (by decide +kernel) rfl) rfl rfl
theorem fl_X2_52 : xFL RX2 52 2 11 false := ffX2 _ _ _ _ (by decide) (xtb_in 125 (by decide +kernel) rfl) rfl rfl
theorem fl_X4_157 : xFL RX4 157 2 11 false := ffX2 _ _ _ _ (by decide) (xtb_in 126 (by decide +kernel) rfl) rfl rfl
theorem fl_X2_9 : xFL RX2 9 2 12 true := ffX2 _ _ _ _ (by decide) (xtb_in 127 (by decide +kernel) rfl) rfl rfl
theorem fl_X4_92 : xFL RX4 92 2 12 true := ffX2 _ _ _ _ (by decide) (xtb_in 128 (by decide +kernel) rfl) rfl rfl
theorem fl_X2_15 : xFL RX2 15 2 13 true := ffX2 _ _ _ _ (by decide) (xtb_in 129 (by decide +kernel) rfl) rfl rfl
theorem fl_X4_112 : xFL RX4 112 2 13 true := ffX2 _ _ _ _ (by decide) (xtb_in 130 (by decide +kernel) rfl) rfl rfl
theorem fl_X2_71 : xFL RX2 71 2 14 false := ffX2 _ _ _ _ (by decide) (xtb_in 131 (by decide +kernel) rfl) rfl rfl
theorem fl_X3_156 : xFL RX3 156 2 14 false := ffX2 _ _ _ _ (by decide) (xtb_in 132 (by decide +kernel) rfl) rfl rfl
theorem fl_X2_85 : xFL RX2 85 2 15 false := ffX2 _ _ _ _ (by decide) (xtb_in 133 (by decide +kernel) rfl) rfl rfl
theorem fl_X2_88 : xFL RX2 88 2 16 false := ffX2 _ _ _ _ (by decide) (xtb_in 134 (by decide +kernel) rfl) rfl rfl
theorem fl_X3_148 : xFL RX3 148 2 16 false := ffX2 _ _ _ _ (by decide) (xtb_in 135 (by decide +kernel) rfl) rfl rfl
theorem ac_int : Cond.arrayClass .int ∈ xtb := xtb_in 171 (by decide +kernel) rfl
theorem fl_X3_18 : xFL RX3 18 3 0 true := ffX3 _ _ _ _ (by decide) (xtb_in 172 (by decide +kernel) rfl) rfl rfl
theorem fl_X3_23 : xFL RX3 23 3 1 true := ffX3 _ _ _ _ (by decide) (xtb_in 173 (by decide +kernel) rfl) rfl rfl
theorem fl_X4_82 : xFL RX4 82 3 1 true := ffX3 _ _ _ _ (by decide) (xtb_in 174 (by decide +kernel) rfl) rfl rfl
theorem fl_X3_28 : xFL RX3 28 3 2 true := ffX3 _ _ _ _ (by decide) (xtb_in 175 (by decide +kernel) rfl) rfl rfl
theorem fl_X3_45 : xFL RX3 45 3 3 false := ffX3 _ _ _ _ (by decide) (xtb_in 176 (by decide +kernel) rfl) rfl rfl
theorem fl_X4_78 : xFL RX4 78 3 3 false := ffX3 _ _ _ _ (by decide) (xtb_in 177 (by decide +kernel) rfl) rfl rfl
theorem fl_X3_57 : xFL RX3 57 3 4 false := ffX3 _ _ _ _ (by decide) (xtb_in 178 (by decide +kernel) rfl) rfl rfl
theorem fl_X4_124 : xFL RX4 124 3 4 false := ffX3 _ _ _ _ (by decide) (xtb_in 179 (by decide +kernel) rfl) rfl rfl
theorem fl_X3_60 : xFL RX3 60 3 5 false := ffX3 _ _ _ _ (by decide) (xtb_in 180 (by decide +kernel) rfl) rfl rfl
theorem fl_X4_178 : xFL RX4 178 3 5 false := ffX3 _ _ _ _ (by decide) (xtb_in 181 (by decide +kernel) rfl) rfl rfl
theorem fl_X3_64 : xFL RX3 64 3 6 false := ffX3 _ _ _ _ (by decide) (xtb_in 182 (by decide +kernel) rfl) rfl rfl
theorem fl_X4_182 : xFL RX4 182 3 6 false := ffX3 _ _ _ _ (by decide) (xtb_in 183 (by decide +kernel) rfl) rfl rfl
theorem fl_X3_67 : xFL RX3 67 3 7 false := ffX3 _ _ _ _ (by decide) (xtb_in 184 (by decide +kernel) rfl) rfl rfl
theorem fl_X4_185 : xFL RX4 185 3 7 false := ffX3 _ _ _ _ (by decide) (xtb_in 185 (by decide +kernel) rfl) rfl rfl
theorem fl_X3_138 : xFL RX3 138 3 8 false := ffX3 _ _ _ _ (by decide) (xtb_in 186 (by decide +kernel) rfl) rfl rfl
theorem fl_X3_141 : xFL RX3 141 3 9 false := ffX3 _ _ _ _ (by decide) (xtb_in 187 (by decide +kernel) rfl) rfl rfl
theorem ck_X4_19 : Cond.classLink RX4 19 RX1 ∈ xtb := xtb_in 209 (by decide +kernel) rfl
theorem in_X1 : Cond.instantiable RX1 7 ∈ xtb := xtb_in 210 (by decide +kernel) rfl
theorem lk_X1_3 : Cond.methodLink RX1 3 Lib.objectInit ∈ xtb := xtb_in 214 (by decide +kernel) rfl
theorem fl_X1_9 : xFL RX1 9 1 0 true := ffX1 _ _ _ _ (by decide) (xtb_in 215 (by decide +kernel) rfl) rfl rfl
theorem fl_X1_27 : xFL RX1 27 1 1 false := ffX1 _ _ _ _ (by decide) (xtb_in 216 (by decide +kernel) rfl) rfl rfl
theorem fl_X4_195 : xFL RX4 195 1 1 false := ffX1 _ _ _ _ (by decide) (xtb_in 217 (by decide +kernel) rfl) rfl rfl
theorem fl_X1_31 : xFL RX1 31 1 2 false := ffX1 _ _ _ _ (by decide) (xtb_in 218 (by decide +kernel) rfl) rfl rfl
theorem fl_X4_237 : xFL RX4 237 1 2 false := ffX1 _ _ _ _ (by decide) (xtb_in 219 (by decide +kernel) rfl) rfl rfl
theorem fl_X1_38 : xFL RX1 38 1 3 false := ffX1 _ _ _ _ (by decide) (xtb_in 220 (by decide +kernel) rfl) rfl rfl
theorem fl_X4_263 : xFL RX4 263 1 3 false := ffX1 _ _ _ _ (by decide) (xtb_in 221 (by decide +kernel) rfl) rfl rfl
theorem fl_X1_60 : xFL RX1 60 1 4 false := ffX1 _ _ _ _ (by decide) (xtb_in 222 (by decide +kernel) rfl) rfl rfl
theorem fl_X4_267 : xFL RX4 267 1 4 false := ffX1 _ _ _ _ (by decide) (xtb_in 223 (by decide +kernel) rfl) rfl rfl
theorem fl_X1_66 : xFL RX1 66 1 5 false := ffX1 _ _ _ _ (by decide) (xtb_in 224 (by decide +kernel) rfl) rfl rfl
theorem fl_X4_270 : xFL RX4 270 1 5 false := ffX1 _ _ _ _ (by decide) (xtb_in 225 (by decide +kernel) rfl) rfl rfl
theorem fl_X1_63 : xFL RX1 63 1 6 false := ffX1 _ _ _ _ (by decide) (xtb_in 226 (by decide +kernel) rfl) rfl rfl
theorem fl_X4_273 : xFL RX4 273 1 6 false := ffX1 _ _ _ _ (by decide) (xtb_in 227 (by decide +kernel) rfl) rfl rfl
theorem ac_char : Cond.arrayClass .char ∈ xtb := xtb_in 243 (by decide +kernel) rfl
theorem ck_X4_26 : Cond.classLink RX4 26 RX0 ∈ xtb := xtb_in 244 (by decide +kernel) rfl
theorem in_X0 : Cond.instantiable RX0 3 ∈ xtb := xtb_in 245 (by decide +kernel) rfl
theorem lk_X4_28 : Cond.methodLink RX4 28 yX0_init ∈ xtb := xtb_in 246 (by decide +kernel) rfl
theorem lk_X0_3 : Cond.methodLink RX0 3 Lib.objectInit ∈ xtb := xtb_in 249 (by decide +kernel) rfl
theorem ck_X0_9 : Cond.classLink RX0 9 RX3 ∈ xtb := xtb_in 250 (by decide +kernel) rfl
theorem lk_X0_17 : Cond.methodLink RX0 17 yX3_init ∈ xtb := xtb_in 252 (by decide +kernel) rfl
theorem fl_X0_11 : xFL RX0 11 0 0 true := ffX0 _ _ _ _ (by decide) (xtb_in 253 (by decide +kernel) rfl) rfl rfl
theorem fl_X0_22 : xFL RX0 22 0 1 false := ffX0 _ _ _ _ (by decide) (xtb_in 254 (by decide +kernel) rfl) rfl rfl
theorem fl_X4_198 : xFL RX4 198 0 1 false := ffX0 _ _ _ _ (by decide) (xtb_in 255 (by decide +kernel) rfl) rfl rfl
theorem fl_X0_18 : xFL RX0 18 0 2 false := ffX0 _ _ _ _ (by decide) (xtb_in 256 (by decide +kernel) rfl) rfl rfl
theorem fl_X4_250 : xFL RX4 250 0 2 false := ffX0 _ _ _ _ (by decide) (xtb_in 257 (by decide +kernel) rfl) rfl rfl
theorem fl_X4_10 : xFL RX4 10 4 0 true := ffX4 _ _ _ _ (by decide) (xtb_in 265 (by decide +kernel) rfl) rfl rfl
theorem fl_X4_16 : xFL RX4 16 4 1 true := ffX4 _ _ _ _ (by decide) (xtb_in 266 (by decide +kernel) rfl) rfl rfl
theorem fl_X4_22 : xFL RX4 22 4 2 true := ffX4 _ _ _ _ (by decide) (xtb_in 267 (by decide +kernel) rfl) rfl rfl
theorem fl_X4_29 : xFL RX4 29 4 3 true := ffX4 _ _ _ _ (by decide) (xtb_in 268 (by decide +kernel) rfl) rfl rfl
theorem fl_X4_33 : xFL RX4 33 4 4 true := ffX4 _ _ _ _ (by decide) (xtb_in 269 (by decide +kernel) rfl) rfl rfl
theorem fl_X4_37 : xFL RX4 37 4 5 true := ffX4 _ _ _ _ (by decide) (xtb_in 270 (by decide +kernel) rfl) rfl rfl
theorem ac_boolean : Cond.arrayClass .boolean ∈ xtb := xtb_in 284 (by decide +kernel) rfl
theorem lk_L_13 : Cond.methodLink RL 13 yX4_set ∈ xtb := xtb_in 285 (by decide +kernel) rfl
theorem lk_X4_41 : Cond.methodLink RX4 41 yX4_isIn ∈ xtb := xtb_in 289 (by decide +kernel) rfl
theorem fl_X4_45 : Cond.fieldLink RX4 45 "LotFences" "LEAST_SETTINGS" "[I" ∈ xtb := xtb_in 292 (by decide +kernel) rfl
theorem fl_X4_49 : Cond.fieldLink RX4 49 "LotFences" "MOST_SETTINGS" "[I" ∈ xtb := xtb_in 294 (by decide +kernel) rfl
theorem lk_X4_52 : Cond.methodLink RX4 52 yX0_remember ∈ xtb := xtb_in 296 (by decide +kernel) rfl
theorem lk_X0_26 : Cond.methodLink RX0 26 yX0_dropOldest ∈ xtb := xtb_in 300 (by decide +kernel) rfl
theorem lk_X0_29 : Cond.methodLink RX0 29 yX3_copyFrom ∈ xtb := xtb_in 304 (by decide +kernel) rfl
theorem lk_X3_39 : Cond.methodLink RX3 39 arraycopyName ∈ xtb := xtb_in 308 (by decide +kernel) rfl
theorem nat_arraycopy : Cond.native arraycopyName ∈ xtb := xtb_in 310 (by decide +kernel) rfl
theorem lk_X3_49 : Cond.methodLink RX3 49 yX3_productAt ∈ xtb := xtb_in 311 (by decide +kernel) rfl
theorem lk_X3_53 : Cond.methodLink RX3 53 yX2_copyFrom ∈ xtb := xtb_in 315 (by decide +kernel) rfl
theorem lk_X2_61 : Cond.methodLink RX2 61 arraycopyName ∈ xtb := xtb_in 319 (by decide +kernel) rfl
theorem lk_X4_56 : Cond.methodLink RX4 56 yX3_setting ∈ xtb := xtb_in 320 (by decide +kernel) rfl
theorem lk_X4_60 : Cond.methodLink RX4 60 yX3_changeSetting ∈ xtb := xtb_in 324 (by decide +kernel) rfl
theorem lk_L_18 : Cond.methodLink RL 18 yX4_product ∈ xtb := xtb_in 328 (by decide +kernel) rfl
theorem lk_X4_64 : Cond.methodLink RX4 64 yX4_isFamily ∈ xtb := xtb_in 332 (by decide +kernel) rfl
theorem lk_X4_68 : Cond.methodLink RX4 68 yX3_spareProduct ∈ xtb := xtb_in 335 (by decide +kernel) rfl
theorem lk_X4_72 : Cond.methodLink RX4 72 yX2_begin ∈ xtb := xtb_in 339 (by decide +kernel) rfl
theorem lk_X2_55 : Cond.methodLink RX2 55 yJ7_fill_53178 ∈ xtb := xtb_in 343 (by decide +kernel) rfl
theorem lk_L_23 : Cond.methodLink RL 23 yX4_family ∈ xtb := xtb_in 344 (by decide +kernel) rfl
theorem lk_L_27 : Cond.methodLink RL 27 yX4_forecast ∈ xtb := xtb_in 348 (by decide +kernel) rfl
theorem lk_X4_85 : Cond.methodLink RX4 85 yX3_productAt ∈ xtb := xtb_in 352 (by decide +kernel) rfl
theorem lk_X4_89 : Cond.methodLink RX4 89 yX4_isWeek ∈ xtb := xtb_in 353 (by decide +kernel) rfl
theorem lk_L_32 : Cond.methodLink RL 32 yX4_actual ∈ xtb := xtb_in 356 (by decide +kernel) rfl
theorem lk_L_36 : Cond.methodLink RL 36 yX4_lots ∈ xtb := xtb_in 360 (by decide +kernel) rfl
theorem lk_X4_98 : Cond.methodLink RX4 98 yX3_hoursWith ∈ xtb := xtb_in 364 (by decide +kernel) rfl
theorem lk_X3_78 : Cond.methodLink RX3 78 yX2_lotsIn ∈ xtb := xtb_in 368 (by decide +kernel) rfl
theorem lk_X4_102 : Cond.methodLink RX4 102 yX3_isFrozen ∈ xtb := xtb_in 372 (by decide +kernel) rfl
theorem lk_X3_70 : Cond.methodLink RX3 70 yX3_setting ∈ xtb := xtb_in 376 (by decide +kernel) rfl
theorem lk_X4_105 : Cond.methodLink RX4 105 yX3_capacity ∈ xtb := xtb_in 377 (by decide +kernel) rfl
theorem lk_X4_109 : Cond.methodLink RX4 109 yX3_hoursIn ∈ xtb := xtb_in 381 (by decide +kernel) rfl
theorem lk_X3_74 : Cond.methodLink RX3 74 yX3_hoursWith ∈ xtb := xtb_in 385 (by decide +kernel) rfl
theorem lk_L_40 : Cond.methodLink RL 40 yX4_plan ∈ xtb := xtb_in 386 (by decide +kernel) rfl
theorem lk_X4_115 : Cond.methodLink RX4 115 yX3_planAnew ∈ xtb := xtb_in 390 (by decide +kernel) rfl
theorem lk_X3_117 : Cond.methodLink RX3 117 yX3_openPlans ∈ xtb := xtb_in 394 (by decide +kernel) rfl
theorem lk_X3_128 : Cond.methodLink RX3 128 yX2_openPlan ∈ xtb := xtb_in 398 (by decide +kernel) rfl
theorem lk_X2_67 : Cond.methodLink RX2 67 yX2_projectionBehind ∈ xtb := xtb_in 402 (by decide +kernel) rfl
theorem lk_X2_75 : Cond.methodLink RX2 75 Lib.Math.max.name ∈ xtb := xtb_in 406 (by decide +kernel) rfl
theorem lk_X3_120 : Cond.methodLink RX3 120 yX3_planWeek ∈ xtb := xtb_in 409 (by decide +kernel) rfl
theorem lk_X3_131 : Cond.methodLink RX3 131 yX2_enterWeek ∈ xtb := xtb_in 413 (by decide +kernel) rfl
theorem lk_X2_81 : Cond.methodLink RX2 81 yX2_cover ∈ xtb := xtb_in 417 (by decide +kernel) rfl
theorem lk_X3_135 : Cond.methodLink RX3 135 yX3_capacity ∈ xtb := xtb_in 421 (by decide +kernel) rfl
theorem lk_X3_144 : Cond.methodLink RX3 144 yX3_nextWaiting ∈ xtb := xtb_in 422 (by decide +kernel) rfl
theorem lk_X3_152 : Cond.methodLink RX3 152 yX3_giveLots ∈ xtb := xtb_in 426 (by decide +kernel) rfl
theorem lk_X3_163 : Cond.methodLink RX3 163 yX2_lotsWanted ∈ xtb := xtb_in 431 (by decide +kernel) rfl
theorem lk_X3_167 : Cond.methodLink RX3 167 Lib.Math.min.name ∈ xtb := xtb_in 435 (by decide +kernel) rfl
theorem lk_X3_170 : Cond.methodLink RX3 170 Lib.MathLoose.min_long.x ∈ xtb := xtb_in 438 (by decide +kernel) rfl
theorem lk_X3_173 : Cond.methodLink RX3 173 yX2_planLots ∈ xtb := xtb_in 441 (by decide +kernel) rfl
theorem lk_X4_118 : Cond.methodLink RX4 118 yX3_allLots ∈ xtb := xtb_in 445 (by decide +kernel) rfl
theorem lk_X3_104 : Cond.methodLink RX3 104 yX2_lotsInAll ∈ xtb := xtb_in 449 (by decide +kernel) rfl
theorem lk_L_45 : Cond.methodLink RL 45 yX4_weeks ∈ xtb := xtb_in 453 (by decide +kernel) rfl
theorem lk_X4_121 : Cond.methodLink RX4 121 yX3_passWeek ∈ xtb := xtb_in 457 (by decide +kernel) rfl
theorem lk_X3_176 : Cond.methodLink RX3 176 yX3_setupsIn ∈ xtb := xtb_in 461 (by decide +kernel) rfl
theorem lk_X3_90 : Cond.methodLink RX3 90 yX3_familiesIn ∈ xtb := xtb_in 465 (by decide +kernel) rfl
theorem lk_X3_93 : Cond.methodLink RX3 93 yJ6_bitCount_0f7a4 ∈ xtb := xtb_in 469 (by decide +kernel) rfl
theorem kc_265 : Cond.constant "java/lang/Integer" 265 (1431655765) ∈ xtb := xtb_in 472 (by decide +kernel) rfl
theorem kc_266 : Cond.constant "java/lang/Integer" 266 (858993459) ∈ xtb := xtb_in 473 (by decide +kernel) rfl
theorem kc_267 : Cond.constant "java/lang/Integer" 267 (252645135) ∈ xtb := xtb_in 474 (by decide +kernel) rfl
theorem lk_X3_179 : Cond.methodLink RX3 179 yX3_overtimeIn ∈ xtb := xtb_in 475 (by decide +kernel) rfl
theorem lk_X3_98 : Cond.methodLink RX3 98 Lib.Math.max.name ∈ xtb := xtb_in 479 (by decide +kernel) rfl
theorem lk_X3_182 : Cond.methodLink RX3 182 yX2_passWeek ∈ xtb := xtb_in 480 (by decide +kernel) rfl
theorem lk_X2_92 : Cond.methodLink RX2 92 Lib.Math.min.name ∈ xtb := xtb_in 484 (by decide +kernel) rfl
theorem lk_X2_95 : Cond.methodLink RX2 95 Lib.Math.abs.name ∈ xtb := xtb_in 485 (by decide +kernel) rfl
theorem lk_X3_185 : Cond.methodLink RX3 185 yX3_allStock ∈ xtb := xtb_in 488 (by decide +kernel) rfl
theorem lk_X3_189 : Cond.methodLink RX3 189 yX3_allBacklog ∈ xtb := xtb_in 492 (by decide +kernel) rfl
theorem lk_L_50 : Cond.methodLink RL 50 yX4_ofProduct ∈ xtb := xtb_in 496 (by decide +kernel) rfl
theorem lk_X4_148 : Cond.methodLink RX4 148 yX2_cover ∈ xtb := xtb_in 500 (by decide +kernel) rfl
theorem lk_L_54 : Cond.methodLink RL 54 yX4_at ∈ xtb := xtb_in 501 (by decide +kernel) rfl
theorem lk_L_58 : Cond.methodLink RL 58 yX4_projection ∈ xtb := xtb_in 505 (by decide +kernel) rfl
theorem kl_X4_163 : Cond.constantLong RX4 163 (-1) ∈ xtb := xtb_in 509 (by decide +kernel) rfl
theorem lk_X4_165 : Cond.methodLink RX4 165 yX2_projectionBehind ∈ xtb := xtb_in 510 (by decide +kernel) rfl
theorem lk_L_63 : Cond.methodLink RL 63 yX4_ofWeek ∈ xtb := xtb_in 511 (by decide +kernel) rfl
theorem lk_X4_169 : Cond.methodLink RX4 169 yX3_setupsIn ∈ xtb := xtb_in 515 (by decide +kernel) rfl
theorem lk_X4_172 : Cond.methodLink RX4 172 yX3_overtimeIn ∈ xtb := xtb_in 516 (by decide +kernel) rfl
theorem lk_X4_175 : Cond.methodLink RX4 175 yX3_familiesIn ∈ xtb := xtb_in 517 (by decide +kernel) rfl
theorem lk_L_67 : Cond.methodLink RL 67 yX4_count ∈ xtb := xtb_in 518 (by decide +kernel) rfl
theorem lk_X4_188 : Cond.methodLink RX4 188 yX3_allStock ∈ xtb := xtb_in 522 (by decide +kernel) rfl
theorem lk_X4_192 : Cond.methodLink RX4 192 yX3_allBacklog ∈ xtb := xtb_in 523 (by decide +kernel) rfl
theorem kl_X4_201 : Cond.constantLong RX4 201 (-2) ∈ xtb := xtb_in 524 (by decide +kernel) rfl
theorem lk_L_72 : Cond.methodLink RL 72 yX4_firstShort ∈ xtb := xtb_in 525 (by decide +kernel) rfl
theorem lk_L_76 : Cond.methodLink RL 76 yX4_lasts ∈ xtb := xtb_in 529 (by decide +kernel) rfl
theorem lk_L_80 : Cond.methodLink RL 80 yX4_leastHours ∈ xtb := xtb_in 533 (by decide +kernel) rfl
theorem lk_X4_203 : Cond.methodLink RX4 203 yX3_copyFrom ∈ xtb := xtb_in 537 (by decide +kernel) rfl
theorem lk_X4_206 : Cond.methodLink RX4 206 yX3_plansWithoutShortage ∈ xtb := xtb_in 538 (by decide +kernel) rfl
theorem lk_X3_124 : Cond.methodLink RX3 124 yX3_isShort ∈ xtb := xtb_in 542 (by decide +kernel) rfl
theorem lk_L_84 : Cond.methodLink RL 84 yX4_costs ∈ xtb := xtb_in 546 (by decide +kernel) rfl
theorem lk_X4_210 : Cond.methodLink RX4 210 yX3_forgetTold ∈ xtb := xtb_in 550 (by decide +kernel) rfl
theorem lk_L_88 : Cond.methodLink RL 88 yX4_bestFence ∈ xtb := xtb_in 554 (by decide +kernel) rfl
theorem lk_X4_213 : Cond.methodLink RX4 213 yX4_costs ∈ xtb := xtb_in 558 (by decide +kernel) rfl
theorem lk_L_92 : Cond.methodLink RL 92 yX4_roomFor ∈ xtb := xtb_in 559 (by decide +kernel) rfl
theorem lk_X4_217 : Cond.methodLink RX4 217 Lib.Math.min.name ∈ xtb := xtb_in 563 (by decide +kernel) rfl
theorem lk_L_98 : Cond.methodLink RL 98 yX4_put ∈ xtb := xtb_in 564 (by decide +kernel) rfl
theorem lk_X4_223 : Cond.methodLink RX4 223 yX1_signsIn ∈ xtb := xtb_in 568 (by decide +kernel) rfl
theorem kl_X1_15 : Cond.constantLong RX1 15 (255) ∈ xtb := xtb_in 571 (by decide +kernel) rfl
theorem kl_X1_17 : Cond.constantLong RX1 17 (33) ∈ xtb := xtb_in 572 (by decide +kernel) rfl
theorem kl_X1_19 : Cond.constantLong RX1 19 (126) ∈ xtb := xtb_in 573 (by decide +kernel) rfl
theorem lk_X4_227 : Cond.methodLink RX4 227 yX1_append ∈ xtb := xtb_in 574 (by decide +kernel) rfl
theorem lk_X1_21 : Cond.methodLink RX1 21 Lib.Math.min.name ∈ xtb := xtb_in 578 (by decide +kernel) rfl
theorem lk_L_103 : Cond.methodLink RL 103 yX4_wipe ∈ xtb := xtb_in 579 (by decide +kernel) rfl
theorem lk_L_107 : Cond.methodLink RL 107 yX4_fault ∈ xtb := xtb_in 583 (by decide +kernel) rfl
theorem lk_X4_231 : Cond.methodLink RX4 231 yX1_startReading ∈ xtb := xtb_in 587 (by decide +kernel) rfl
theorem lk_X4_234 : Cond.methodLink RX4 234 yX1_readAct ∈ xtb := xtb_in 591 (by decide +kernel) rfl
theorem lk_X1_34 : Cond.methodLink RX1 34 yX1_signHere ∈ xtb := xtb_in 595 (by decide +kernel) rfl
theorem lk_X1_42 : Cond.methodLink RX1 42 yX1_readSign ∈ xtb := xtb_in 599 (by decide +kernel) rfl
theorem lk_X1_46 : Cond.methodLink RX1 46 yX1_readProduct ∈ xtb := xtb_in 603 (by decide +kernel) rfl
theorem lk_X1_56 : Cond.methodLink RX1 56 yX1_digitHere ∈ xtb := xtb_in 607 (by decide +kernel) rfl
theorem lk_X1_50 : Cond.methodLink RX1 50 yX1_readWeek ∈ xtb := xtb_in 611 (by decide +kernel) rfl
theorem lk_X1_53 : Cond.methodLink RX1 53 yX1_readNumber ∈ xtb := xtb_in 615 (by decide +kernel) rfl
theorem lk_X4_240 : Cond.methodLink RX4 240 yX1_isAtEnd ∈ xtb := xtb_in 619 (by decide +kernel) rfl
theorem lk_X4_243 : Cond.methodLink RX4 243 yX1_readSign ∈ xtb := xtb_in 623 (by decide +kernel) rfl
theorem lk_L_111 : Cond.methodLink RL 111 yX4_carryOut ∈ xtb := xtb_in 624 (by decide +kernel) rfl
theorem lk_X4_247 : Cond.methodLink RX4 247 yX4_fault ∈ xtb := xtb_in 628 (by decide +kernel) rfl
theorem lk_X4_254 : Cond.methodLink RX4 254 yX4_carryAct ∈ xtb := xtb_in 629 (by decide +kernel) rfl
theorem lk_X4_276 : Cond.methodLink RX4 276 yX4_forecast ∈ xtb := xtb_in 633 (by decide +kernel) rfl
theorem lk_X4_280 : Cond.methodLink RX4 280 yX4_actual ∈ xtb := xtb_in 634 (by decide +kernel) rfl
theorem lk_X4_283 : Cond.methodLink RX4 283 yX4_lots ∈ xtb := xtb_in 635 (by decide +kernel) rfl
theorem lk_X4_285 : Cond.methodLink RX4 285 yX4_plan ∈ xtb := xtb_in 636 (by decide +kernel) rfl
theorem lk_X4_288 : Cond.methodLink RX4 288 yX4_weeks ∈ xtb := xtb_in 637 (by decide +kernel) rfl
theorem lk_X4_257 : Cond.methodLink RX4 257 yX4_isError ∈ xtb := xtb_in 638 (by decide +kernel) rfl
theorem lk_L_115 : Cond.methodLink RL 115 yX4_undo ∈ xtb := xtb_in 641 (by decide +kernel) rfl
theorem lk_X4_260 : Cond.methodLink RX4 260 yX0_takeBack ∈ xtb := xtb_in 645 (by decide +kernel) rfl
theorem lk_L_119 : Cond.methodLink RL 119 yX4_save ∈ xtb := xtb_in 649 (by decide +kernel) rfl
theorem lk_L_123 : Cond.methodLink RL 123 yX4_restore ∈ xtb := xtb_in 653 (by decide +kernel) rfl
theorem ck_L_10 : Cond.classLink RL 10 RX5 ∈ xtb := xtb_in 657 (by decide +kernel) rfl
theorem in_X5 : Cond.instantiable RX5 12 ∈ xtb := xtb_in 658 (by decide +kernel) rfl
theorem lk_L_12 : Cond.methodLink RL 12 yX5_init ∈ xtb := xtb_in 659 (by decide +kernel) rfl
theorem lk_X5_1 : Cond.methodLink RX5 1 Lib.objectInit ∈ xtb := xtb_in 662 (by decide +kernel) rfl
theorem kl_X5_23 : Cond.constantLong RX5 23 (100) ∈ xtb := xtb_in 663 (by decide +kernel) rfl
theorem kl_X5_25 : Cond.constantLong RX5 25 (20) ∈ xtb := xtb_in 664 (by decide +kernel) rfl
theorem kl_X5_27 : Cond.constantLong RX5 27 (2) ∈ xtb := xtb_in 665 (by decide +kernel) rfl
theorem kl_X5_29 : Cond.constantLong RX5 29 (50) ∈ xtb := xtb_in 666 (by decide +kernel) rfl
theorem kl_X5_31 : Cond.constantLong RX5 31 (5) ∈ xtb := xtb_in 667 (by decide +kernel) rfl
theorem kl_X5_33 : Cond.constantLong RX5 33 (3) ∈ xtb := xtb_in 668 (by decide +kernel) rfl
theorem fl_X5_7 : xFL RX5 7 5 0 true := ffX5 _ _ _ _ (by decide) (xtb_in 669 (by decide +kernel) rfl) rfl rfl
theorem fl_X5_13 : xFL RX5 13 5 1 true := ffX5 _ _ _ _ (by decide) (xtb_in 670 (by decide +kernel) rfl) rfl rfl
theorem fl_X5_16 : xFL RX5 16 5 2 true := ffX5 _ _ _ _ (by decide) (xtb_in 671 (by decide +kernel) rfl) rfl rfl
theorem fl_X5_45 : xFL RX5 45 5 3 false := ffX5 _ _ _ _ (by decide) (xtb_in 672 (by decide +kernel) rfl) rfl rfl
theorem fl_X5_20 : xFL RX5 20 5 4 true := ffX5 _ _ _ _ (by decide) (xtb_in 673 (by decide +kernel) rfl) rfl rfl
theorem fl_X5_188 : xFL RX5 188 5 5 false := ffX5 _ _ _ _ (by decide) (xtb_in 674 (by decide +kernel) rfl) rfl rfl
theorem fl_X5_206 : xFL RX5 206 5 6 false := ffX5 _ _ _ _ (by decide) (xtb_in 675 (by decide +kernel) rfl) rfl rfl
theorem fl_X5_230 : xFL RX5 230 5 7 false := ffX5 _ _ _ _ (by decide) (xtb_in 676 (by decide +kernel) rfl) rfl rfl
theorem fl_X5_212 : xFL RX5 212 5 8 false := ffX5 _ _ _ _ (by decide) (xtb_in 677 (by decide +kernel) rfl) rfl rfl
theorem fl_X5_218 : xFL RX5 218 5 9 false := ffX5 _ _ _ _ (by decide) (xtb_in 678 (by decide +kernel) rfl) rfl rfl
theorem fl_X5_224 : xFL RX5 224 5 10 false := ffX5 _ _ _ _ (by decide) (xtb_in 679 (by decide +kernel) rfl) rfl rfl
theorem fl_X5_227 : xFL RX5 227 5 11 false := ffX5 _ _ _ _ (by decide) (xtb_in 680 (by decide +kernel) rfl) rfl rfl
theorem ac_long : Cond.arrayClass .long ∈ xtb := xtb_in 706 (by decide +kernel) rfl
theorem lk_L_118 : Cond.methodLink RL 118 yX5_undo ∈ xtb := xtb_in 707 (by decide +kernel) rfl
theorem lk_X5_53 : Cond.methodLink RX5 53 yX5_brings ∈ xtb := xtb_in 711 (by decide +kernel) rfl
theorem lk_L_122 : Cond.methodLink RL 122 yX5_save ∈ xtb := xtb_in 715 (by decide +kernel) rfl
theorem lk_X5_35 : Cond.methodLink RX5 35 yX5_isIn ∈ xtb := xtb_in 719 (by decide +kernel) rfl
theorem lk_X5_49 : Cond.methodLink RX5 49 yX5_keeps ∈ xtb := xtb_in 722 (by decide +kernel) rfl
theorem lk_L_126 : Cond.methodLink RL 126 yX5_restore ∈ xtb := xtb_in 726 (by decide +kernel) rfl
theorem lk_X5_56 : Cond.methodLink RX5 56 yX5_records ∈ xtb := xtb_in 730 (by decide +kernel) rfl
theorem lk_L_17 : Cond.methodLink RL 17 yX5_set ∈ xtb := xtb_in 734 (by decide +kernel) rfl
theorem kl_X5_59 : Cond.constantLong RX5 59 (8) ∈ xtb := xtb_in 738 (by decide +kernel) rfl
theorem lk_X5_61 : Cond.methodLink RX5 61 yX5_leastOf ∈ xtb := xtb_in 739 (by decide +kernel) rfl
theorem lk_X5_65 : Cond.methodLink RX5 65 yX5_mostOf ∈ xtb := xtb_in 742 (by decide +kernel) rfl
theorem lk_X5_41 : Cond.methodLink RX5 41 yX5_setting ∈ xtb := xtb_in 745 (by decide +kernel) rfl
theorem lk_L_22 : Cond.methodLink RL 22 yX5_product ∈ xtb := xtb_in 749 (by decide +kernel) rfl
theorem kl_X5_68 : Cond.constantLong RX5 68 (10000) ∈ xtb := xtb_in 753 (by decide +kernel) rfl
theorem kl_X5_70 : Cond.constantLong RX5 70 (10) ∈ xtb := xtb_in 754 (by decide +kernel) rfl
theorem lk_X5_72 : Cond.methodLink RX5 72 yX5_becomes ∈ xtb := xtb_in 755 (by decide +kernel) rfl
theorem kl_X5_76 : Cond.constantLong RX5 76 (-6) ∈ xtb := xtb_in 759 (by decide +kernel) rfl
theorem lk_L_26 : Cond.methodLink RL 26 yX5_family ∈ xtb := xtb_in 760 (by decide +kernel) rfl
theorem lk_L_44 : Cond.methodLink RL 44 yX5_plan ∈ xtb := xtb_in 764 (by decide +kernel) rfl
theorem lk_X5_121 : Cond.methodLink RX5 121 yX5_plans ∈ xtb := xtb_in 768 (by decide +kernel) rfl
theorem lk_X5_114 : Cond.methodLink RX5 114 yX5_fence ∈ xtb := xtb_in 772 (by decide +kernel) rfl
theorem lk_X5_118 : Cond.methodLink RX5 118 yX5_plansWeek ∈ xtb := xtb_in 776 (by decide +kernel) rfl
theorem lk_X5_104 : Cond.methodLink RX5 104 yX5_nextOf ∈ xtb := xtb_in 780 (by decide +kernel) rfl
theorem lk_X5_101 : Cond.methodLink RX5 101 yX5_project ∈ xtb := xtb_in 784 (by decide +kernel) rfl
theorem lk_X5_78 : Cond.methodLink RX5 78 yX5_ofP ∈ xtb := xtb_in 788 (by decide +kernel) rfl
theorem lk_X5_98 : Cond.methodLink RX5 98 yX5_cover ∈ xtb := xtb_in 792 (by decide +kernel) rfl
theorem lk_X5_108 : Cond.methodLink RX5 108 yX5_wanted ∈ xtb := xtb_in 796 (by decide +kernel) rfl
theorem lk_X5_111 : Cond.methodLink RX5 111 yX5_room ∈ xtb := xtb_in 800 (by decide +kernel) rfl
theorem lk_X5_92 : Cond.methodLink RX5 92 yX5_mostHours ∈ xtb := xtb_in 804 (by decide +kernel) rfl
theorem lk_X5_89 : Cond.methodLink RX5 89 yX5_hoursOf ∈ xtb := xtb_in 808 (by decide +kernel) rfl
theorem lk_X5_82 : Cond.methodLink RX5 82 yX5_isMade ∈ xtb := xtb_in 812 (by decide +kernel) rfl
theorem lk_X5_86 : Cond.methodLink RX5 86 yX5_familiesIn ∈ xtb := xtb_in 816 (by decide +kernel) rfl
theorem kl_X5_96 : Cond.constantLong RX5 96 (1000) ∈ xtb := xtb_in 820 (by decide +kernel) rfl
theorem lk_X5_124 : Cond.methodLink RX5 124 yX5_lotsInAll ∈ xtb := xtb_in 821 (by decide +kernel) rfl
theorem lk_L_31 : Cond.methodLink RL 31 yX5_forecast ∈ xtb := xtb_in 825 (by decide +kernel) rfl
theorem lk_X5_134 : Cond.methodLink RX5 134 yX5_forecastError ∈ xtb := xtb_in 829 (by decide +kernel) rfl
theorem lk_X5_127 : Cond.methodLink RX5 127 yX5_isProduct ∈ xtb := xtb_in 833 (by decide +kernel) rfl
theorem lk_X5_131 : Cond.methodLink RX5 131 yX5_isWeek ∈ xtb := xtb_in 837 (by decide +kernel) rfl
theorem kl_X5_39 : Cond.constantLong RX5 39 (11) ∈ xtb := xtb_in 840 (by decide +kernel) rfl
theorem lk_X5_138 : Cond.methodLink RX5 138 yX5_forecasts ∈ xtb := xtb_in 841 (by decide +kernel) rfl
theorem lk_L_35 : Cond.methodLink RL 35 yX5_actual ∈ xtb := xtb_in 845 (by decide +kernel) rfl
theorem lk_X5_143 : Cond.methodLink RX5 143 yX5_actualError ∈ xtb := xtb_in 849 (by decide +kernel) rfl
theorem kl_X5_141 : Cond.constantLong RX5 141 (2000) ∈ xtb := xtb_in 853 (by decide +kernel) rfl
theorem lk_X5_146 : Cond.methodLink RX5 146 yX5_tells ∈ xtb := xtb_in 854 (by decide +kernel) rfl
theorem lk_L_39 : Cond.methodLink RL 39 yX5_lots ∈ xtb := xtb_in 858 (by decide +kernel) rfl
theorem lk_X5_149 : Cond.methodLink RX5 149 yX5_lotsError ∈ xtb := xtb_in 862 (by decide +kernel) rfl
theorem lk_X5_152 : Cond.methodLink RX5 152 yX5_plansLots ∈ xtb := xtb_in 866 (by decide +kernel) rfl
theorem lk_L_49 : Cond.methodLink RL 49 yX5_weeks ∈ xtb := xtb_in 870 (by decide +kernel) rfl
theorem kl_X5_175 : Cond.constantLong RX5 175 (30) ∈ xtb := xtb_in 874 (by decide +kernel) rfl
theorem lk_X5_177 : Cond.methodLink RX5 177 yX5_passesWeeks ∈ xtb := xtb_in 875 (by decide +kernel) rfl
theorem lk_X5_172 : Cond.methodLink RX5 172 yX5_passes ∈ xtb := xtb_in 879 (by decide +kernel) rfl
theorem lk_X5_157 : Cond.methodLink RX5 157 yX5_ships ∈ xtb := xtb_in 883 (by decide +kernel) rfl
theorem kl_X5_155 : Cond.constantLong RX5 155 (7) ∈ xtb := xtb_in 887 (by decide +kernel) rfl
theorem lk_X5_160 : Cond.methodLink RX5 160 yX5_setupsOf ∈ xtb := xtb_in 888 (by decide +kernel) rfl
theorem lk_X5_163 : Cond.methodLink RX5 163 yX5_overtimeOf ∈ xtb := xtb_in 892 (by decide +kernel) rfl
theorem lk_X5_166 : Cond.methodLink RX5 166 yX5_sumOf ∈ xtb := xtb_in 896 (by decide +kernel) rfl
theorem lk_X5_169 : Cond.methodLink RX5 169 yX5_rolls ∈ xtb := xtb_in 900 (by decide +kernel) rfl
theorem lk_L_53 : Cond.methodLink RL 53 yX5_ofProduct ∈ xtb := xtb_in 904 (by decide +kernel) rfl
theorem kl_X5_180 : Cond.constantLong RX5 180 (12) ∈ xtb := xtb_in 908 (by decide +kernel) rfl
theorem lk_L_57 : Cond.methodLink RL 57 yX5_at ∈ xtb := xtb_in 909 (by decide +kernel) rfl
theorem lk_L_62 : Cond.methodLink RL 62 yX5_projection ∈ xtb := xtb_in 913 (by decide +kernel) rfl
theorem kl_X5_182 : Cond.constantLong RX5 182 (-1) ∈ xtb := xtb_in 917 (by decide +kernel) rfl
theorem lk_L_66 : Cond.methodLink RL 66 yX5_ofWeek ∈ xtb := xtb_in 918 (by decide +kernel) rfl
theorem lk_L_71 : Cond.methodLink RL 71 yX5_count ∈ xtb := xtb_in 922 (by decide +kernel) rfl
theorem kl_X5_184 : Cond.constantLong RX5 184 (4) ∈ xtb := xtb_in 926 (by decide +kernel) rfl
theorem kl_X5_186 : Cond.constantLong RX5 186 (22) ∈ xtb := xtb_in 927 (by decide +kernel) rfl
theorem kl_X5_191 : Cond.constantLong RX5 191 (-2) ∈ xtb := xtb_in 928 (by decide +kernel) rfl
theorem lk_L_75 : Cond.methodLink RL 75 yX5_firstShort ∈ xtb := xtb_in 929 (by decide +kernel) rfl
theorem lk_L_79 : Cond.methodLink RL 79 yX5_lasts ∈ xtb := xtb_in 933 (by decide +kernel) rfl
theorem lk_L_83 : Cond.methodLink RL 83 yX5_leastHours ∈ xtb := xtb_in 937 (by decide +kernel) rfl
theorem lk_X5_193 : Cond.methodLink RX5 193 yX5_does ∈ xtb := xtb_in 941 (by decide +kernel) rfl
theorem lk_L_87 : Cond.methodLink RL 87 yX5_costs ∈ xtb := xtb_in 945 (by decide +kernel) rfl
theorem lk_X5_197 : Cond.methodLink RX5 197 yX5_costsBy ∈ xtb := xtb_in 949 (by decide +kernel) rfl
theorem lk_L_91 : Cond.methodLink RL 91 yX5_bestFence ∈ xtb := xtb_in 953 (by decide +kernel) rfl
theorem lk_L_95 : Cond.methodLink RL 95 yX5_roomFor ∈ xtb := xtb_in 957 (by decide +kernel) rfl
theorem lk_L_102 : Cond.methodLink RL 102 yX5_put ∈ xtb := xtb_in 961 (by decide +kernel) rfl
theorem kl_X5_200 : Cond.constantLong RX5 200 (255) ∈ xtb := xtb_in 965 (by decide +kernel) rfl
theorem kl_X5_202 : Cond.constantLong RX5 202 (33) ∈ xtb := xtb_in 966 (by decide +kernel) rfl
theorem kl_X5_204 : Cond.constantLong RX5 204 (126) ∈ xtb := xtb_in 967 (by decide +kernel) rfl
theorem lk_L_106 : Cond.methodLink RL 106 yX5_wipe ∈ xtb := xtb_in 968 (by decide +kernel) rfl
theorem lk_L_110 : Cond.methodLink RL 110 yX5_fault ∈ xtb := xtb_in 972 (by decide +kernel) rfl
theorem lk_X5_237 : Cond.methodLink RX5 237 yX5_passesAct ∈ xtb := xtb_in 976 (by decide +kernel) rfl
theorem lk_X5_221 : Cond.methodLink RX5 221 yX5_passesNumber ∈ xtb := xtb_in 980 (by decide +kernel) rfl
theorem lk_X5_215 : Cond.methodLink RX5 215 yX5_passesOne ∈ xtb := xtb_in 984 (by decide +kernel) rfl
theorem lk_X5_209 : Cond.methodLink RX5 209 yX5_isHere ∈ xtb := xtb_in 988 (by decide +kernel) rfl
theorem lk_X5_233 : Cond.methodLink RX5 233 yX5_passesNumbers ∈ xtb := xtb_in 992 (by decide +kernel) rfl
theorem lk_L_114 : Cond.methodLink RL 114 yX5_carryOut ∈ xtb := xtb_in 996 (by decide +kernel) rfl
theorem lk_X5_240 : Cond.methodLink RX5 240 yX5_fault ∈ xtb := xtb_in 1000 (by decide +kernel) rfl
theorem lk_X5_243 : Cond.methodLink RX5 243 yX5_acts ∈ xtb := xtb_in 1001 (by decide +kernel) rfl
theorem kl_L_96 : Cond.constantLong RL 96 (4294967295) ∈ xtb := xtb_in 1005 (by decide +kernel) rfl
abbrev mX4_init : xM := (yX4_init, cX4_init, 2, none)
theorem kI_X4_init : xMI mX4_init 0 := ⟨xtb_in 67 (by decide +kernel) rfl, ii_X4, xtb_in (w := .code yX4_init cX4_init 2 none) 68 (by decide +kernel) rfl, ⟨by decide +kernel, by decide⟩, rfl, rfl⟩
abbrev mX3_init : xM := (yX3_init, cX3_init, 2, none)
theorem kI_X3_init : xMI mX3_init 0 := ⟨xtb_in 75 (by decide +kernel) rfl, ii_X3, xtb_in (w := .code yX3_init cX3_init 2 none) 76 (by decide +kernel) rfl, ⟨by decide +kernel, by decide⟩, rfl, rfl⟩
abbrev mJ7_fill_53178 : xM := (yJ7_fill_53178, cJ7_fill_53178, 4, none)
theorem kS_J7_fill_53178 : xMS mJ7_fill_53178 2 := ⟨xtb_in 90 (by decide +kernel) rfl, ii_J7, xtb_in (w := .code yJ7_fill_53178 cJ7_fill_53178 4 none) 91 (by decide +kernel) rfl, ⟨by decide +kernel, by decide⟩⟩
abbrev mX2_init : xM := (yX2_init, cX2_init, 1, none)
theorem kI_X2_init : xMI mX2_init 0 := ⟨xtb_in 94 (by decide +kernel) rfl, ii_X2, xtb_in (w := .code yX2_init cX2_init 1 none) 95 (by decide +kernel) rfl, ⟨by decide +kernel, by decide⟩, rfl, rfl⟩
abbrev mX1_init : xM := (yX1_init, cX1_init, 1, none)
theorem kI_X1_init : xMI mX1_init 0 := ⟨xtb_in 212 (by decide +kernel) rfl, ii_X1, xtb_in (w := .code yX1_init cX1_init 1 none) 213 (by decide +kernel) rfl, ⟨by decide +kernel, by decide⟩, rfl, rfl⟩
abbrev mX0_init : xM := (yX0_init, cX0_init, 2, none)
theorem kI_X0_init : xMI mX0_init 0 := ⟨xtb_in 247 (by decide +kernel) rfl, ii_X0, xtb_in (w := .code yX0_init cX0_init 2 none) 248 (by decide +kernel) rfl, ⟨by decide +kernel, by decide⟩, rfl, rfl⟩
abbrev mX4_set : xM := (yX4_set, cX4_set, 4, (some .int))
theorem kV_X4_set : xMV mX4_set 2 := ⟨xtb_in 286 (by decide +kernel) rfl, xtb_in 287 (by decide +kernel) rfl, ii_X4, xtb_in (w := .code yX4_set cX4_set 4 (some .int)) 288 (by decide +kernel) rfl, ⟨by decide +kernel, by decide⟩⟩
abbrev mX4_isIn : xM := (yX4_isIn, cX4_isIn, 3, (some .boolean))
theorem kS_X4_isIn : xMS mX4_isIn 3 := ⟨xtb_in 290 (by decide +kernel) rfl, ii_X4, xtb_in (w := .code yX4_isIn cX4_isIn 3 (some .boolean)) 291 (by decide +kernel) rfl, ⟨by decide +kernel, by decide⟩⟩
abbrev mX0_remember : xM := (yX0_remember, cX0_remember, 2, none)
theorem kV_X0_remember : xMV mX0_remember 1 := ⟨xtb_in 297 (by decide +kernel) rfl, xtb_in 298 (by decide +kernel) rfl, ii_X0, xtb_in (w := .code yX0_remember cX0_remember 2 none) 299 (by decide +kernel) rfl, ⟨by decide +kernel, by decide⟩⟩
abbrev mX0_dropOldest : xM := (yX0_dropOldest, cX0_dropOldest, 3, none)
theorem kV_X0_dropOldest : xMV mX0_dropOldest 0 := ⟨xtb_in 302 (by decide +kernel) rfl, xtb_in 0 (by decide +kernel) rfl, ii_X0, xtb_in (w := .code yX0_dropOldest cX0_dropOldest 3 none) 303 (by decide +kernel) rfl, ⟨by decide +kernel, by decide⟩⟩
abbrev mX3_copyFrom : xM := (yX3_copyFrom, cX3_copyFrom, 5, none)
theorem kV_X3_copyFrom : xMV mX3_copyFrom 1 := ⟨xtb_in 305 (by decide +kernel) rfl, xtb_in 306 (by decide +kernel) rfl, ii_X3, xtb_in (w := .code yX3_copyFrom cX3_copyFrom 5 none) 307 (by decide +kernel) rfl, ⟨by decide +kernel, by decide⟩⟩
abbrev mX3_productAt : xM := (yX3_productAt, cX3_productAt, 2, (some (.object "LotFences$Product")))
theorem kV_X3_productAt : xMV mX3_productAt 1 := ⟨xtb_in 312 (by decide +kernel) rfl, xtb_in 313 (by decide +kernel) rfl, ii_X3, xtb_in (w := .code yX3_productAt cX3_productAt 2 (some (.object "LotFences$Product"))) 314 (by decide +kernel) rfl, ⟨by decide +kernel, by decide⟩⟩
abbrev mX2_copyFrom : xM := (yX2_copyFrom, cX2_copyFrom, 2, none)
theorem kV_X2_copyFrom : xMV mX2_copyFrom 1 := ⟨xtb_in 316 (by decide +kernel) rfl, xtb_in 317 (by decide +kernel) rfl, ii_X2, xtb_in (w := .code yX2_copyFrom cX2_copyFrom 2 none) 318 (by decide +kernel) rfl, ⟨by decide +kernel, by decide⟩⟩
abbrev mX3_setting : xM := (yX3_setting, cX3_setting, 2, (some .int))
theorem kV_X3_setting : xMV mX3_setting 1 := ⟨xtb_in 321 (by decide +kernel) rfl, xtb_in 322 (by decide +kernel) rfl, ii_X3, xtb_in (w := .code yX3_setting cX3_setting 2 (some .int)) 323 (by decide +kernel) rfl, ⟨by decide +kernel, by decide⟩⟩
abbrev mX3_changeSetting : xM := (yX3_changeSetting, cX3_changeSetting, 3, none)
theorem kV_X3_changeSetting : xMV mX3_changeSetting 2 := ⟨xtb_in 325 (by decide +kernel) rfl, xtb_in 326 (by decide +kernel) rfl, ii_X3, xtb_in (w := .code yX3_changeSetting cX3_changeSetting 3 none) 327 (by decide +kernel) rfl, ⟨by decide +kernel, by decide⟩⟩
abbrev mX4_product : xM := (yX4_product, cX4_product, 8, (some .int))
theorem kV_X4_product : xMV mX4_product 5 := ⟨xtb_in 329 (by decide +kernel) rfl, xtb_in 330 (by decide +kernel) rfl, ii_X4, xtb_in (w := .code yX4_product cX4_product 8 (some .int)) 331 (by decide +kernel) rfl, ⟨by decide +kernel, by decide⟩⟩
abbrev mX4_isFamily : xM := (yX4_isFamily, cX4_isFamily, 1, (some .boolean))
theorem kS_X4_isFamily : xMS mX4_isFamily 1 := ⟨xtb_in 333 (by decide +kernel) rfl, ii_X4, xtb_in (w := .code yX4_isFamily cX4_isFamily 1 (some .boolean)) 334 (by decide +kernel) rfl, ⟨by decide +kernel, by decide⟩⟩
abbrev mX3_spareProduct : xM := (yX3_spareProduct, cX3_spareProduct, 1, (some (.object "LotFences$Product")))
theorem kV_X3_spareProduct : xMV mX3_spareProduct 0 := ⟨xtb_in 336 (by decide +kernel) rfl, xtb_in 337 (by decide +kernel) rfl, ii_X3, xtb_in (w := .code yX3_spareProduct cX3_spareProduct 1 (some (.object "LotFences$Product"))) 338 (by decide +kernel) rfl, ⟨by decide +kernel, by decide⟩⟩
abbrev mX2_begin : xM := (yX2_begin, cX2_begin, 6, none)
theorem kV_X2_begin : xMV mX2_begin 5 := ⟨xtb_in 340 (by decide +kernel) rfl, xtb_in 341 (by decide +kernel) rfl, ii_X2, xtb_in (w := .code yX2_begin cX2_begin 6 none) 342 (by decide +kernel) rfl, ⟨by decide +kernel, by decide⟩⟩
abbrev mX4_family : xM := (yX4_family, cX4_family, 4, (some .int))
theorem kV_X4_family : xMV mX4_family 2 := ⟨xtb_in 345 (by decide +kernel) rfl, xtb_in 346 (by decide +kernel) rfl, ii_X4, xtb_in (w := .code yX4_family cX4_family 4 (some .int)) 347 (by decide +kernel) rfl, ⟨by decide +kernel, by decide⟩⟩
abbrev mX4_forecast : xM := (yX4_forecast, cX4_forecast, 6, (some .int))
theorem kV_X4_forecast : xMV mX4_forecast 3 := ⟨xtb_in 349 (by decide +kernel) rfl, xtb_in 350 (by decide +kernel) rfl, ii_X4, xtb_in (w := .code yX4_forecast cX4_forecast 6 (some .int)) 351 (by decide +kernel) rfl, ⟨by decide +kernel, by decide⟩⟩
abbrev mX4_isWeek : xM := (yX4_isWeek, cX4_isWeek, 1, (some .boolean))
theorem kS_X4_isWeek : xMS mX4_isWeek 1 := ⟨xtb_in 354 (by decide +kernel) rfl, ii_X4, xtb_in (w := .code yX4_isWeek cX4_isWeek 1 (some .boolean)) 355 (by decide +kernel) rfl, ⟨by decide +kernel, by decide⟩⟩
abbrev mX4_actual : xM := (yX4_actual, cX4_actual, 5, (some .int))
theorem kV_X4_actual : xMV mX4_actual 2 := ⟨xtb_in 357 (by decide +kernel) rfl, xtb_in 358 (by decide +kernel) rfl, ii_X4, xtb_in (w := .code yX4_actual cX4_actual 5 (some .int)) 359 (by decide +kernel) rfl, ⟨by decide +kernel, by decide⟩⟩
abbrev mX4_lots : xM := (yX4_lots, cX4_lots, 7, (some .int))
theorem kV_X4_lots : xMV mX4_lots 3 := ⟨xtb_in 361 (by decide +kernel) rfl, xtb_in 362 (by decide +kernel) rfl, ii_X4, xtb_in (w := .code yX4_lots cX4_lots 7 (some .int)) 363 (by decide +kernel) rfl, ⟨by decide +kernel, by decide⟩⟩
abbrev mX3_hoursWith : xM := (yX3_hoursWith, cX3_hoursWith, 9, (some .int))
theorem kV_X3_hoursWith : xMV mX3_hoursWith 3 := ⟨xtb_in 365 (by decide +kernel) rfl, xtb_in 366 (by decide +kernel) rfl, ii_X3, xtb_in (w := .code yX3_hoursWith cX3_hoursWith 9 (some .int)) 367 (by decide +kernel) rfl, ⟨by decide +kernel, by decide⟩⟩
abbrev mX2_lotsIn : xM := (yX2_lotsIn, cX2_lotsIn, 2, (some .int))
theorem kV_X2_lotsIn : xMV mX2_lotsIn 1 := ⟨xtb_in 369 (by decide +kernel) rfl, xtb_in 370 (by decide +kernel) rfl, ii_X2, xtb_in (w := .code yX2_lotsIn cX2_lotsIn 2 (some .int)) 371 (by decide +kernel) rfl, ⟨by decide +kernel, by decide⟩⟩
abbrev mX3_isFrozen : xM := (yX3_isFrozen, cX3_isFrozen, 2, (some .boolean))
theorem kV_X3_isFrozen : xMV mX3_isFrozen 1 := ⟨xtb_in 373 (by decide +kernel) rfl, xtb_in 374 (by decide +kernel) rfl, ii_X3, xtb_in (w := .code yX3_isFrozen cX3_isFrozen 2 (some .boolean)) 375 (by decide +kernel) rfl, ⟨by decide +kernel, by decide⟩⟩
abbrev mX3_capacity : xM := (yX3_capacity, cX3_capacity, 1, (some .int))
theorem kV_X3_capacity : xMV mX3_capacity 0 := ⟨xtb_in 378 (by decide +kernel) rfl, xtb_in 379 (by decide +kernel) rfl, ii_X3, xtb_in (w := .code yX3_capacity cX3_capacity 1 (some .int)) 380 (by decide +kernel) rfl, ⟨by decide +kernel, by decide⟩⟩
abbrev mX3_hoursIn : xM := (yX3_hoursIn, cX3_hoursIn, 2, (some .int))
theorem kV_X3_hoursIn : xMV mX3_hoursIn 1 := ⟨xtb_in 382 (by decide +kernel) rfl, xtb_in 383 (by decide +kernel) rfl, ii_X3, xtb_in (w := .code yX3_hoursIn cX3_hoursIn 2 (some .int)) 384 (by decide +kernel) rfl, ⟨by decide +kernel, by decide⟩⟩
abbrev mX4_plan : xM := (yX4_plan, cX4_plan, 1, (some .int))
theorem kV_X4_plan : xMV mX4_plan 0 := ⟨xtb_in 387 (by decide +kernel) rfl, xtb_in 388 (by decide +kernel) rfl, ii_X4, xtb_in (w := .code yX4_plan cX4_plan 1 (some .int)) 389 (by decide +kernel) rfl, ⟨by decide +kernel, by decide⟩⟩
abbrev mX3_planAnew : xM := (yX3_planAnew, cX3_planAnew, 2, none)
theorem kV_X3_planAnew : xMV mX3_planAnew 0 := ⟨xtb_in 391 (by decide +kernel) rfl, xtb_in 392 (by decide +kernel) rfl, ii_X3, xtb_in (w := .code yX3_planAnew cX3_planAnew 2 none) 393 (by decide +kernel) rfl, ⟨by decide +kernel, by decide⟩⟩
abbrev mX3_openPlans : xM := (yX3_openPlans, cX3_openPlans, 4, none)
theorem kV_X3_openPlans : xMV mX3_openPlans 0 := ⟨xtb_in 396 (by decide +kernel) rfl, xtb_in 1 (by decide +kernel) rfl, ii_X3, xtb_in (w := .code yX3_openPlans cX3_openPlans 4 none) 397 (by decide +kernel) rfl, ⟨by decide +kernel, by decide⟩⟩
abbrev mX2_openPlan : xM := (yX2_openPlan, cX2_openPlan, 3, none)
theorem kV_X2_openPlan : xMV mX2_openPlan 1 := ⟨xtb_in 399 (by decide +kernel) rfl, xtb_in 400 (by decide +kernel) rfl, ii_X2, xtb_in (w := .code yX2_openPlan cX2_openPlan 3 none) 401 (by decide +kernel) rfl, ⟨by decide +kernel, by decide⟩⟩
abbrev mX2_projectionBehind : xM := (yX2_projectionBehind, cX2_projectionBehind, 5, (some .long))
theorem kV_X2_projectionBehind : xMV mX2_projectionBehind 1 := ⟨xtb_in 403 (by decide +kernel) rfl, xtb_in 404 (by decide +kernel) rfl, ii_X2, xtb_in (w := .code yX2_projectionBehind cX2_projectionBehind 5 (some .long)) 405 (by decide +kernel) rfl, ⟨by decide +kernel, by decide⟩⟩
abbrev mX3_planWeek : xM := (yX3_planWeek, cX3_planWeek, 5, none)
theorem kV_X3_planWeek : xMV mX3_planWeek 1 := ⟨xtb_in 411 (by decide +kernel) rfl, xtb_in 2 (by decide +kernel) rfl, ii_X3, xtb_in (w := .code yX3_planWeek cX3_planWeek 5 none) 412 (by decide +kernel) rfl, ⟨by decide +kernel, by decide⟩⟩
abbrev mX2_enterWeek : xM := (yX2_enterWeek, cX2_enterWeek, 3, none)
theorem kV_X2_enterWeek : xMV mX2_enterWeek 2 := ⟨xtb_in 414 (by decide +kernel) rfl, xtb_in 415 (by decide +kernel) rfl, ii_X2, xtb_in (w := .code yX2_enterWeek cX2_enterWeek 3 none) 416 (by decide +kernel) rfl, ⟨by decide +kernel, by decide⟩⟩
abbrev mX2_cover : xM := (yX2_cover, cX2_cover, 2, (some .int))
theorem kV_X2_cover : xMV mX2_cover 1 := ⟨xtb_in 418 (by decide +kernel) rfl, xtb_in 419 (by decide +kernel) rfl, ii_X2, xtb_in (w := .code yX2_cover cX2_cover 2 (some .int)) 420 (by decide +kernel) rfl, ⟨by decide +kernel, by decide⟩⟩
abbrev mX3_nextWaiting : xM := (yX3_nextWaiting, cX3_nextWaiting, 4, (some (.object "LotFences$Product")))
theorem kV_X3_nextWaiting : xMV mX3_nextWaiting 0 := ⟨xtb_in 424 (by decide +kernel) rfl, xtb_in 3 (by decide +kernel) rfl, ii_X3, xtb_in (w := .code yX3_nextWaiting cX3_nextWaiting 4 (some (.object "LotFences$Product"))) 425 (by decide +kernel) rfl, ⟨by decide +kernel, by decide⟩⟩
abbrev mX3_giveLots : xM := (yX3_giveLots, cX3_giveLots, 8, none)
theorem kV_X3_giveLots : xMV mX3_giveLots 2 := ⟨xtb_in 428 (by decide +kernel) rfl, xtb_in 4 (by decide +kernel) rfl, ii_X3, xtb_in (w := .code yX3_giveLots cX3_giveLots 8 none) 429 (by decide +kernel) rfl, ⟨by decide +kernel, by decide⟩⟩
abbrev mX2_lotsWanted : xM := (yX2_lotsWanted, cX2_lotsWanted, 6, (some .long))
theorem kV_X2_lotsWanted : xMV mX2_lotsWanted 2 := ⟨xtb_in 432 (by decide +kernel) rfl, xtb_in 433 (by decide +kernel) rfl, ii_X2, xtb_in (w := .code yX2_lotsWanted cX2_lotsWanted 6 (some .long)) 434 (by decide +kernel) rfl, ⟨by decide +kernel, by decide⟩⟩
abbrev mX2_planLots : xM := (yX2_planLots, cX2_planLots, 3, none)
theorem kV_X2_planLots : xMV mX2_planLots 2 := ⟨xtb_in 442 (by decide +kernel) rfl, xtb_in 443 (by decide +kernel) rfl, ii_X2, xtb_in (w := .code yX2_planLots cX2_planLots 3 none) 444 (by decide +kernel) rfl, ⟨by decide +kernel, by decide⟩⟩
abbrev mX3_allLots : xM := (yX3_allLots, cX3_allLots, 4, (some .int))
theorem kV_X3_allLots : xMV mX3_allLots 0 := ⟨xtb_in 446 (by decide +kernel) rfl, xtb_in 447 (by decide +kernel) rfl, ii_X3, xtb_in (w := .code yX3_allLots cX3_allLots 4 (some .int)) 448 (by decide +kernel) rfl, ⟨by decide +kernel, by decide⟩⟩
abbrev mX2_lotsInAll : xM := (yX2_lotsInAll, cX2_lotsInAll, 3, (some .int))
theorem kV_X2_lotsInAll : xMV mX2_lotsInAll 0 := ⟨xtb_in 450 (by decide +kernel) rfl, xtb_in 451 (by decide +kernel) rfl, ii_X2, xtb_in (w := .code yX2_lotsInAll cX2_lotsInAll 3 (some .int)) 452 (by decide +kernel) rfl, ⟨by decide +kernel, by decide⟩⟩
abbrev mX4_weeks : xM := (yX4_weeks, cX4_weeks, 3, (some .int))
theorem kV_X4_weeks : xMV mX4_weeks 1 := ⟨xtb_in 454 (by decide +kernel) rfl, xtb_in 455 (by decide +kernel) rfl, ii_X4, xtb_in (w := .code yX4_weeks cX4_weeks 3 (some .int)) 456 (by decide +kernel) rfl, ⟨by decide +kernel, by decide⟩⟩
abbrev mX3_passWeek : xM := (yX3_passWeek, cX3_passWeek, 5, none)
theorem kV_X3_passWeek : xMV mX3_passWeek 0 := ⟨xtb_in 458 (by decide +kernel) rfl, xtb_in 459 (by decide +kernel) rfl, ii_X3, xtb_in (w := .code yX3_passWeek cX3_passWeek 5 none) 460 (by decide +kernel) rfl, ⟨by decide +kernel, by decide⟩⟩
abbrev mX3_setupsIn : xM := (yX3_setupsIn, cX3_setupsIn, 5, (some .int))
theorem kV_X3_setupsIn : xMV mX3_setupsIn 1 := ⟨xtb_in 462 (by decide +kernel) rfl, xtb_in 463 (by decide +kernel) rfl, ii_X3, xtb_in (w := .code yX3_setupsIn cX3_setupsIn 5 (some .int)) 464 (by decide +kernel) rfl, ⟨by decide +kernel, by decide⟩⟩
abbrev mX3_familiesIn : xM := (yX3_familiesIn, cX3_familiesIn, 5, (some .int))
theorem kV_X3_familiesIn : xMV mX3_familiesIn 1 := ⟨xtb_in 466 (by decide +kernel) rfl, xtb_in 467 (by decide +kernel) rfl, ii_X3, xtb_in (w := .code yX3_familiesIn cX3_familiesIn 5 (some .int)) 468 (by decide +kernel) rfl, ⟨by decide +kernel, by decide⟩⟩
abbrev mJ6_bitCount_0f7a4 : xM := (yJ6_bitCount_0f7a4, cJ6_bitCount_0f7a4, 1, (some .int))
theorem kS_J6_bitCount_0f7a4 : xMS mJ6_bitCount_0f7a4 1 := ⟨xtb_in 470 (by decide +kernel) rfl, ii_J6, xtb_in (w := .code yJ6_bitCount_0f7a4 cJ6_bitCount_0f7a4 1 (some .int)) 471 (by decide +kernel) rfl, ⟨by decide +kernel, by decide⟩⟩
abbrev mX3_overtimeIn : xM := (yX3_overtimeIn, cX3_overtimeIn, 2, (some .int))
theorem kV_X3_overtimeIn : xMV mX3_overtimeIn 1 := ⟨xtb_in 476 (by decide +kernel) rfl, xtb_in 477 (by decide +kernel) rfl, ii_X3, xtb_in (w := .code yX3_overtimeIn cX3_overtimeIn 2 (some .int)) 478 (by decide +kernel) rfl, ⟨by decide +kernel, by decide⟩⟩
abbrev mX2_passWeek : xM := (yX2_passWeek, cX2_passWeek, 5, none)
theorem kV_X2_passWeek : xMV mX2_passWeek 0 := ⟨xtb_in 481 (by decide +kernel) rfl, xtb_in 482 (by decide +kernel) rfl, ii_X2, xtb_in (w := .code yX2_passWeek cX2_passWeek 5 none) 483 (by decide +kernel) rfl, ⟨by decide +kernel, by decide⟩⟩
abbrev mX3_allStock : xM := (yX3_allStock, cX3_allStock, 5, (some .long))
theorem kV_X3_allStock : xMV mX3_allStock 0 := ⟨xtb_in 489 (by decide +kernel) rfl, xtb_in 490 (by decide +kernel) rfl, ii_X3, xtb_in (w := .code yX3_allStock cX3_allStock 5 (some .long)) 491 (by decide +kernel) rfl, ⟨by decide +kernel, by decide⟩⟩
abbrev mX3_allBacklog : xM := (yX3_allBacklog, cX3_allBacklog, 5, (some .long))
theorem kV_X3_allBacklog : xMV mX3_allBacklog 0 := ⟨xtb_in 493 (by decide +kernel) rfl, xtb_in 494 (by decide +kernel) rfl, ii_X3, xtb_in (w := .code yX3_allBacklog cX3_allBacklog 5 (some .long)) 495 (by decide +kernel) rfl, ⟨by decide +kernel, by decide⟩⟩
abbrev mX4_ofProduct : xM := (yX4_ofProduct, cX4_ofProduct, 4, (some .int))
theorem kV_X4_ofProduct : xMV mX4_ofProduct 2 := ⟨xtb_in 497 (by decide +kernel) rfl, xtb_in 498 (by decide +kernel) rfl, ii_X4, xtb_in (w := .code yX4_ofProduct cX4_ofProduct 4 (some .int)) 499 (by decide +kernel) rfl, ⟨by decide +kernel, by decide⟩⟩
abbrev mX4_at : xM := (yX4_at, cX4_at, 5, (some .int))
theorem kV_X4_at : xMV mX4_at 3 := ⟨xtb_in 502 (by decide +kernel) rfl, xtb_in 503 (by decide +kernel) rfl, ii_X4, xtb_in (w := .code yX4_at cX4_at 5 (some .int)) 504 (by decide +kernel) rfl, ⟨by decide +kernel, by decide⟩⟩
abbrev mX4_projection : xM := (yX4_projection, cX4_projection, 4, (some .long))
theorem kV_X4_projection : xMV mX4_projection 2 := ⟨xtb_in 506 (by decide +kernel) rfl, xtb_in 507 (by decide +kernel) rfl, ii_X4, xtb_in (w := .code yX4_projection cX4_projection 4 (some .long)) 508 (by decide +kernel) rfl, ⟨by decide +kernel, by decide⟩⟩
abbrev mX4_ofWeek : xM := (yX4_ofWeek, cX4_ofWeek, 3, (some .int))
theorem kV_X4_ofWeek : xMV mX4_ofWeek 2 := ⟨xtb_in 512 (by decide +kernel) rfl, xtb_in 513 (by decide +kernel) rfl, ii_X4, xtb_in (w := .code yX4_ofWeek cX4_ofWeek 3 (some .int)) 514 (by decide +kernel) rfl, ⟨by decide +kernel, by decide⟩⟩
abbrev mX4_count : xM := (yX4_count, cX4_count, 4, (some .long))
theorem kV_X4_count : xMV mX4_count 1 := ⟨xtb_in 519 (by decide +kernel) rfl, xtb_in 520 (by decide +kernel) rfl, ii_X4, xtb_in (w := .code yX4_count cX4_count 4 (some .long)) 521 (by decide +kernel) rfl, ⟨by decide +kernel, by decide⟩⟩
abbrev mX4_firstShort : xM := (yX4_firstShort, cX4_firstShort, 4, (some .int))
theorem kV_X4_firstShort : xMV mX4_firstShort 1 := ⟨xtb_in 526 (by decide +kernel) rfl, xtb_in 527 (by decide +kernel) rfl, ii_X4, xtb_in (w := .code yX4_firstShort cX4_firstShort 4 (some .int)) 528 (by decide +kernel) rfl, ⟨by decide +kernel, by decide⟩⟩
abbrev mX4_lasts : xM := (yX4_lasts, cX4_lasts, 6, (some .int))
theorem kV_X4_lasts : xMV mX4_lasts 1 := ⟨xtb_in 530 (by decide +kernel) rfl, xtb_in 531 (by decide +kernel) rfl, ii_X4, xtb_in (w := .code yX4_lasts cX4_lasts 6 (some .int)) 532 (by decide +kernel) rfl, ⟨by decide +kernel, by decide⟩⟩
abbrev mX4_leastHours : xM := (yX4_leastHours, cX4_leastHours, 2, (some .int))
theorem kV_X4_leastHours : xMV mX4_leastHours 0 := ⟨xtb_in 534 (by decide +kernel) rfl, xtb_in 535 (by decide +kernel) rfl, ii_X4, xtb_in (w := .code yX4_leastHours cX4_leastHours 2 (some .int)) 536 (by decide +kernel) rfl, ⟨by decide +kernel, by decide⟩⟩
abbrev mX3_plansWithoutShortage : xM := (yX3_plansWithoutShortage, cX3_plansWithoutShortage, 2, (some .boolean))
theorem kV_X3_plansWithoutShortage : xMV mX3_plansWithoutShortage 0 := ⟨xtb_in 539 (by decide +kernel) rfl, xtb_in 540 (by decide +kernel) rfl, ii_X3, xtb_in (w := .code yX3_plansWithoutShortage cX3_plansWithoutShortage 2 (some .boolean)) 541 (by decide +kernel) rfl, ⟨by decide +kernel, by decide⟩⟩
abbrev mX3_isShort : xM := (yX3_isShort, cX3_isShort, 3, (some .boolean))
theorem kV_X3_isShort : xMV mX3_isShort 0 := ⟨xtb_in 544 (by decide +kernel) rfl, xtb_in 5 (by decide +kernel) rfl, ii_X3, xtb_in (w := .code yX3_isShort cX3_isShort 3 (some .boolean)) 545 (by decide +kernel) rfl, ⟨by decide +kernel, by decide⟩⟩
abbrev mX4_costs : xM := (yX4_costs, cX4_costs, 4, (some .long))
theorem kV_X4_costs : xMV mX4_costs 2 := ⟨xtb_in 547 (by decide +kernel) rfl, xtb_in 548 (by decide +kernel) rfl, ii_X4, xtb_in (w := .code yX4_costs cX4_costs 4 (some .long)) 549 (by decide +kernel) rfl, ⟨by decide +kernel, by decide⟩⟩
abbrev mX3_forgetTold : xM := (yX3_forgetTold, cX3_forgetTold, 3, none)
theorem kV_X3_forgetTold : xMV mX3_forgetTold 0 := ⟨xtb_in 551 (by decide +kernel) rfl, xtb_in 552 (by decide +kernel) rfl, ii_X3, xtb_in (w := .code yX3_forgetTold cX3_forgetTold 3 none) 553 (by decide +kernel) rfl, ⟨by decide +kernel, by decide⟩⟩
abbrev mX4_bestFence : xM := (yX4_bestFence, cX4_bestFence, 8, (some .int))
theorem kV_X4_bestFence : xMV mX4_bestFence 1 := ⟨xtb_in 555 (by decide +kernel) rfl, xtb_in 556 (by decide +kernel) rfl, ii_X4, xtb_in (w := .code yX4_bestFence cX4_bestFence 8 (some .int)) 557 (by decide +kernel) rfl, ⟨by decide +kernel, by decide⟩⟩
abbrev mX4_roomFor : xM := (yX4_roomFor, cX4_roomFor, 6, (some .int))
theorem kV_X4_roomFor : xMV mX4_roomFor 2 := ⟨xtb_in 560 (by decide +kernel) rfl, xtb_in 561 (by decide +kernel) rfl, ii_X4, xtb_in (w := .code yX4_roomFor cX4_roomFor 6 (some .int)) 562 (by decide +kernel) rfl, ⟨by decide +kernel, by decide⟩⟩
abbrev mX4_put : xM := (yX4_put, cX4_put, 4, (some .int))
theorem kV_X4_put : xMV mX4_put 1 := ⟨xtb_in 565 (by decide +kernel) rfl, xtb_in 566 (by decide +kernel) rfl, ii_X4, xtb_in (w := .code yX4_put cX4_put 4 (some .int)) 567 (by decide +kernel) rfl, ⟨by decide +kernel, by decide⟩⟩
abbrev mX1_signsIn : xM := (yX1_signsIn, cX1_signsIn, 8, (some .int))
theorem kS_X1_signsIn : xMS mX1_signsIn 1 := ⟨xtb_in 569 (by decide +kernel) rfl, ii_X1, xtb_in (w := .code yX1_signsIn cX1_signsIn 8 (some .int)) 570 (by decide +kernel) rfl, ⟨by decide +kernel, by decide⟩⟩
abbrev mX1_append : xM := (yX1_append, cX1_append, 5, none)
theorem kV_X1_append : xMV mX1_append 2 := ⟨xtb_in 575 (by decide +kernel) rfl, xtb_in 576 (by decide +kernel) rfl, ii_X1, xtb_in (w := .code yX1_append cX1_append 5 none) 577 (by decide +kernel) rfl, ⟨by decide +kernel, by decide⟩⟩
abbrev mX4_wipe : xM := (yX4_wipe, cX4_wipe, 2, (some .int))
theorem kV_X4_wipe : xMV mX4_wipe 0 := ⟨xtb_in 580 (by decide +kernel) rfl, xtb_in 581 (by decide +kernel) rfl, ii_X4, xtb_in (w := .code yX4_wipe cX4_wipe 2 (some .int)) 582 (by decide +kernel) rfl, ⟨by decide +kernel, by decide⟩⟩
abbrev mX4_fault : xM := (yX4_fault, cX4_fault, 2, (some .int))
theorem kV_X4_fault : xMV mX4_fault 0 := ⟨xtb_in 584 (by decide +kernel) rfl, xtb_in 585 (by decide +kernel) rfl, ii_X4, xtb_in (w := .code yX4_fault cX4_fault 2 (some .int)) 586 (by decide +kernel) rfl, ⟨by decide +kernel, by decide⟩⟩
abbrev mX1_startReading : xM := (yX1_startReading, cX1_startReading, 1, none)
theorem kV_X1_startReading : xMV mX1_startReading 0 := ⟨xtb_in 588 (by decide +kernel) rfl, xtb_in 589 (by decide +kernel) rfl, ii_X1, xtb_in (w := .code yX1_startReading cX1_startReading 1 none) 590 (by decide +kernel) rfl, ⟨by decide +kernel, by decide⟩⟩
abbrev mX1_readAct : xM := (yX1_readAct, cX1_readAct, 1, (some .boolean))
theorem kV_X1_readAct : xMV mX1_readAct 0 := ⟨xtb_in 592 (by decide +kernel) rfl, xtb_in 593 (by decide +kernel) rfl, ii_X1, xtb_in (w := .code yX1_readAct cX1_readAct 1 (some .boolean)) 594 (by decide +kernel) rfl, ⟨by decide +kernel, by decide⟩⟩
abbrev mX1_signHere : xM := (yX1_signHere, cX1_signHere, 1, (some .char))
theorem kV_X1_signHere : xMV mX1_signHere 0 := ⟨xtb_in 597 (by decide +kernel) rfl, xtb_in 6 (by decide +kernel) rfl, ii_X1, xtb_in (w := .code yX1_signHere cX1_signHere 1 (some .char)) 598 (by decide +kernel) rfl, ⟨by decide +kernel, by decide⟩⟩
abbrev mX1_readSign : xM := (yX1_readSign, cX1_readSign, 2, (some .boolean))
theorem kV_X1_readSign : xMV mX1_readSign 1 := ⟨xtb_in 600 (by decide +kernel) rfl, xtb_in 601 (by decide +kernel) rfl, ii_X1, xtb_in (w := .code yX1_readSign cX1_readSign 2 (some .boolean)) 602 (by decide +kernel) rfl, ⟨by decide +kernel, by decide⟩⟩
abbrev mX1_readProduct : xM := (yX1_readProduct, cX1_readProduct, 1, (some .boolean))
theorem kV_X1_readProduct : xMV mX1_readProduct 0 := ⟨xtb_in 605 (by decide +kernel) rfl, xtb_in 7 (by decide +kernel) rfl, ii_X1, xtb_in (w := .code yX1_readProduct cX1_readProduct 1 (some .boolean)) 606 (by decide +kernel) rfl, ⟨by decide +kernel, by decide⟩⟩
abbrev mX1_digitHere : xM := (yX1_digitHere, cX1_digitHere, 2, (some .int))
theorem kV_X1_digitHere : xMV mX1_digitHere 0 := ⟨xtb_in 609 (by decide +kernel) rfl, xtb_in 8 (by decide +kernel) rfl, ii_X1, xtb_in (w := .code yX1_digitHere cX1_digitHere 2 (some .int)) 610 (by decide +kernel) rfl, ⟨by decide +kernel, by decide⟩⟩
abbrev mX1_readWeek : xM := (yX1_readWeek, cX1_readWeek, 2, (some .boolean))
theorem kV_X1_readWeek : xMV mX1_readWeek 0 := ⟨xtb_in 613 (by decide +kernel) rfl, xtb_in 9 (by decide +kernel) rfl, ii_X1, xtb_in (w := .code yX1_readWeek cX1_readWeek 2 (some .boolean)) 614 (by decide +kernel) rfl, ⟨by decide +kernel, by decide⟩⟩
abbrev mX1_readNumber : xM := (yX1_readNumber, cX1_readNumber, 2, (some .boolean))
theorem kV_X1_readNumber : xMV mX1_readNumber 0 := ⟨xtb_in 617 (by decide +kernel) rfl, xtb_in 10 (by decide +kernel) rfl, ii_X1, xtb_in (w := .code yX1_readNumber cX1_readNumber 2 (some .boolean)) 618 (by decide +kernel) rfl, ⟨by decide +kernel, by decide⟩⟩
abbrev mX1_isAtEnd : xM := (yX1_isAtEnd, cX1_isAtEnd, 1, (some .boolean))
theorem kV_X1_isAtEnd : xMV mX1_isAtEnd 0 := ⟨xtb_in 620 (by decide +kernel) rfl, xtb_in 621 (by decide +kernel) rfl, ii_X1, xtb_in (w := .code yX1_isAtEnd cX1_isAtEnd 1 (some .boolean)) 622 (by decide +kernel) rfl, ⟨by decide +kernel, by decide⟩⟩
abbrev mX4_carryOut : xM := (yX4_carryOut, cX4_carryOut, 2, (some .int))
theorem kV_X4_carryOut : xMV mX4_carryOut 0 := ⟨xtb_in 625 (by decide +kernel) rfl, xtb_in 626 (by decide +kernel) rfl, ii_X4, xtb_in (w := .code yX4_carryOut cX4_carryOut 2 (some .int)) 627 (by decide +kernel) rfl, ⟨by decide +kernel, by decide⟩⟩
abbrev mX4_carryAct : xM := (yX4_carryAct, cX4_carryAct, 1, (some .int))
theorem kV_X4_carryAct : xMV mX4_carryAct 0 := ⟨xtb_in 631 (by decide +kernel) rfl, xtb_in 11 (by decide +kernel) rfl, ii_X4, xtb_in (w := .code yX4_carryAct cX4_carryAct 1 (some .int)) 632 (by decide +kernel) rfl, ⟨by decide +kernel, by decide⟩⟩
abbrev mX4_isError : xM := (yX4_isError, cX4_isError, 1, (some .boolean))
theorem kS_X4_isError : xMS mX4_isError 1 := ⟨xtb_in 639 (by decide +kernel) rfl, ii_X4, xtb_in (w := .code yX4_isError cX4_isError 1 (some .boolean)) 640 (by decide +kernel) rfl, ⟨by decide +kernel, by decide⟩⟩
abbrev mX4_undo : xM := (yX4_undo, cX4_undo, 1, (some .int))
theorem kV_X4_undo : xMV mX4_undo 0 := ⟨xtb_in 642 (by decide +kernel) rfl, xtb_in 643 (by decide +kernel) rfl, ii_X4, xtb_in (w := .code yX4_undo cX4_undo 1 (some .int)) 644 (by decide +kernel) rfl, ⟨by decide +kernel, by decide⟩⟩
abbrev mX0_takeBack : xM := (yX0_takeBack, cX0_takeBack, 2, none)
theorem kV_X0_takeBack : xMV mX0_takeBack 1 := ⟨xtb_in 646 (by decide +kernel) rfl, xtb_in 647 (by decide +kernel) rfl, ii_X0, xtb_in (w := .code yX0_takeBack cX0_takeBack 2 none) 648 (by decide +kernel) rfl, ⟨by decide +kernel, by decide⟩⟩
abbrev mX4_save : xM := (yX4_save, cX4_save, 3, (some .int))
theorem kV_X4_save : xMV mX4_save 1 := ⟨xtb_in 650 (by decide +kernel) rfl, xtb_in 651 (by decide +kernel) rfl, ii_X4, xtb_in (w := .code yX4_save cX4_save 3 (some .int)) 652 (by decide +kernel) rfl, ⟨by decide +kernel, by decide⟩⟩
abbrev mX4_restore : xM := (yX4_restore, cX4_restore, 2, (some .int))
theorem kV_X4_restore : xMV mX4_restore 1 := ⟨xtb_in 654 (by decide +kernel) rfl, xtb_in 655 (by decide +kernel) rfl, ii_X4, xtb_in (w := .code yX4_restore cX4_restore 2 (some .int)) 656 (by decide +kernel) rfl, ⟨by decide +kernel, by decide⟩⟩
abbrev mX5_init : xM := (yX5_init, cX5_init, 2, none)
theorem kI_X5_init : xMI mX5_init 0 := ⟨xtb_in 660 (by decide +kernel) rfl, ii_X5, xtb_in (w := .code yX5_init cX5_init 2 none) 661 (by decide +kernel) rfl, ⟨by decide +kernel, by decide⟩, rfl, rfl⟩
abbrev mX5_undo : xM := (yX5_undo, cX5_undo, 1, (some .int))
theorem kV_X5_undo : xMV mX5_undo 0 := ⟨xtb_in 708 (by decide +kernel) rfl, xtb_in 709 (by decide +kernel) rfl, ii_X5, xtb_in (w := .code yX5_undo cX5_undo 1 (some .int)) 710 (by decide +kernel) rfl, ⟨by decide +kernel, by decide⟩⟩
abbrev mX5_brings : xM := (yX5_brings, cX5_brings, 3, none)
theorem kV_X5_brings : xMV mX5_brings 1 := ⟨xtb_in 713 (by decide +kernel) rfl, xtb_in 12 (by decide +kernel) rfl, ii_X5, xtb_in (w := .code yX5_brings cX5_brings 3 none) 714 (by decide +kernel) rfl, ⟨by decide +kernel, by decide⟩⟩
abbrev mX5_save : xM := (yX5_save, cX5_save, 2, (some .int))
theorem kV_X5_save : xMV mX5_save 1 := ⟨xtb_in 716 (by decide +kernel) rfl, xtb_in 717 (by decide +kernel) rfl, ii_X5, xtb_in (w := .code yX5_save cX5_save 2 (some .int)) 718 (by decide +kernel) rfl, ⟨by decide +kernel, by decide⟩⟩
abbrev mX5_isIn : xM := (yX5_isIn, cX5_isIn, 6, (some .boolean))
theorem kS_X5_isIn : xMS mX5_isIn 3 := ⟨xtb_in 720 (by decide +kernel) rfl, ii_X5, xtb_in (w := .code yX5_isIn cX5_isIn 6 (some .boolean)) 721 (by decide +kernel) rfl, ⟨by decide +kernel, by decide⟩⟩
abbrev mX5_keeps : xM := (yX5_keeps, cX5_keeps, 3, none)
theorem kV_X5_keeps : xMV mX5_keeps 1 := ⟨xtb_in 724 (by decide +kernel) rfl, xtb_in 13 (by decide +kernel) rfl, ii_X5, xtb_in (w := .code yX5_keeps cX5_keeps 3 none) 725 (by decide +kernel) rfl, ⟨by decide +kernel, by decide⟩⟩
abbrev mX5_restore : xM := (yX5_restore, cX5_restore, 2, (some .int))
theorem kV_X5_restore : xMV mX5_restore 1 := ⟨xtb_in 727 (by decide +kernel) rfl, xtb_in 728 (by decide +kernel) rfl, ii_X5, xtb_in (w := .code yX5_restore cX5_restore 2 (some .int)) 729 (by decide +kernel) rfl, ⟨by decide +kernel, by decide⟩⟩
abbrev mX5_records : xM := (yX5_records, cX5_records, 2, none)
theorem kV_X5_records : xMV mX5_records 0 := ⟨xtb_in 732 (by decide +kernel) rfl, xtb_in 14 (by decide +kernel) rfl, ii_X5, xtb_in (w := .code yX5_records cX5_records 2 none) 733 (by decide +kernel) rfl, ⟨by decide +kernel, by decide⟩⟩
abbrev mX5_set : xM := (yX5_set, cX5_set, 4, (some .int))
theorem kV_X5_set : xMV mX5_set 2 := ⟨xtb_in 735 (by decide +kernel) rfl, xtb_in 736 (by decide +kernel) rfl, ii_X5, xtb_in (w := .code yX5_set cX5_set 4 (some .int)) 737 (by decide +kernel) rfl, ⟨by decide +kernel, by decide⟩⟩
abbrev mX5_leastOf : xM := (yX5_leastOf, cX5_leastOf, 1, (some .int))
theorem kS_X5_leastOf : xMS mX5_leastOf 1 := ⟨xtb_in 740 (by decide +kernel) rfl, ii_X5, xtb_in (w := .code yX5_leastOf cX5_leastOf 1 (some .int)) 741 (by decide +kernel) rfl, ⟨by decide +kernel, by decide⟩⟩
abbrev mX5_mostOf : xM := (yX5_mostOf, cX5_mostOf, 1, (some .int))
theorem kS_X5_mostOf : xMS mX5_mostOf 1 := ⟨xtb_in 743 (by decide +kernel) rfl, ii_X5, xtb_in (w := .code yX5_mostOf cX5_mostOf 1 (some .int)) 744 (by decide +kernel) rfl, ⟨by decide +kernel, by decide⟩⟩
abbrev mX5_setting : xM := (yX5_setting, cX5_setting, 2, (some .long))
theorem kV_X5_setting : xMV mX5_setting 1 := ⟨xtb_in 747 (by decide +kernel) rfl, xtb_in 15 (by decide +kernel) rfl, ii_X5, xtb_in (w := .code yX5_setting cX5_setting 2 (some .long)) 748 (by decide +kernel) rfl, ⟨by decide +kernel, by decide⟩⟩
abbrev mX5_product : xM := (yX5_product, cX5_product, 9, (some .int))
theorem kV_X5_product : xMV mX5_product 5 := ⟨xtb_in 750 (by decide +kernel) rfl, xtb_in 751 (by decide +kernel) rfl, ii_X5, xtb_in (w := .code yX5_product cX5_product 9 (some .int)) 752 (by decide +kernel) rfl, ⟨by decide +kernel, by decide⟩⟩
abbrev mX5_becomes : xM := (yX5_becomes, cX5_becomes, 5, none)
theorem kV_X5_becomes : xMV mX5_becomes 3 := ⟨xtb_in 757 (by decide +kernel) rfl, xtb_in 16 (by decide +kernel) rfl, ii_X5, xtb_in (w := .code yX5_becomes cX5_becomes 5 none) 758 (by decide +kernel) rfl, ⟨by decide +kernel, by decide⟩⟩
abbrev mX5_family : xM := (yX5_family, cX5_family, 4, (some .int))
theorem kV_X5_family : xMV mX5_family 2 := ⟨xtb_in 761 (by decide +kernel) rfl, xtb_in 762 (by decide +kernel) rfl, ii_X5, xtb_in (w := .code yX5_family cX5_family 4 (some .int)) 763 (by decide +kernel) rfl, ⟨by decide +kernel, by decide⟩⟩
abbrev mX5_plan : xM := (yX5_plan, cX5_plan, 1, (some .int))
theorem kV_X5_plan : xMV mX5_plan 0 := ⟨xtb_in 765 (by decide +kernel) rfl, xtb_in 766 (by decide +kernel) rfl, ii_X5, xtb_in (w := .code yX5_plan cX5_plan 1 (some .int)) 767 (by decide +kernel) rfl, ⟨by decide +kernel, by decide⟩⟩
abbrev mX5_plans : xM := (yX5_plans, cX5_plans, 3, none)
theorem kV_X5_plans : xMV mX5_plans 0 := ⟨xtb_in 770 (by decide +kernel) rfl, xtb_in 17 (by decide +kernel) rfl, ii_X5, xtb_in (w := .code yX5_plans cX5_plans 3 none) 771 (by decide +kernel) rfl, ⟨by decide +kernel, by decide⟩⟩
abbrev mX5_fence : xM := (yX5_fence, cX5_fence, 1, (some .int))
theorem kV_X5_fence : xMV mX5_fence 0 := ⟨xtb_in 774 (by decide +kernel) rfl, xtb_in 18 (by decide +kernel) rfl, ii_X5, xtb_in (w := .code yX5_fence cX5_fence 1 (some .int)) 775 (by decide +kernel) rfl, ⟨by decide +kernel, by decide⟩⟩
abbrev mX5_plansWeek : xM := (yX5_plansWeek, cX5_plansWeek, 8, none)
theorem kV_X5_plansWeek : xMV mX5_plansWeek 1 := ⟨xtb_in 778 (by decide +kernel) rfl, xtb_in 19 (by decide +kernel) rfl, ii_X5, xtb_in (w := .code yX5_plansWeek cX5_plansWeek 8 none) 779 (by decide +kernel) rfl, ⟨by decide +kernel, by decide⟩⟩
abbrev mX5_nextOf : xM := (yX5_nextOf, cX5_nextOf, 6, (some .int))
theorem kV_X5_nextOf : xMV mX5_nextOf 2 := ⟨xtb_in 782 (by decide +kernel) rfl, xtb_in 20 (by decide +kernel) rfl, ii_X5, xtb_in (w := .code yX5_nextOf cX5_nextOf 6 (some .int)) 783 (by decide +kernel) rfl, ⟨by decide +kernel, by decide⟩⟩
abbrev mX5_project : xM := (yX5_project, cX5_project, 6, (some .long))
theorem kV_X5_project : xMV mX5_project 2 := ⟨xtb_in 786 (by decide +kernel) rfl, xtb_in 21 (by decide +kernel) rfl, ii_X5, xtb_in (w := .code yX5_project cX5_project 6 (some .long)) 787 (by decide +kernel) rfl, ⟨by decide +kernel, by decide⟩⟩
abbrev mX5_ofP : xM := (yX5_ofP, cX5_ofP, 3, (some .long))
theorem kV_X5_ofP : xMV mX5_ofP 2 := ⟨xtb_in 790 (by decide +kernel) rfl, xtb_in 22 (by decide +kernel) rfl, ii_X5, xtb_in (w := .code yX5_ofP cX5_ofP 3 (some .long)) 791 (by decide +kernel) rfl, ⟨by decide +kernel, by decide⟩⟩
abbrev mX5_cover : xM := (yX5_cover, cX5_cover, 2, (some .long))
theorem kV_X5_cover : xMV mX5_cover 1 := ⟨xtb_in 794 (by decide +kernel) rfl, xtb_in 23 (by decide +kernel) rfl, ii_X5, xtb_in (w := .code yX5_cover cX5_cover 2 (some .long)) 795 (by decide +kernel) rfl, ⟨by decide +kernel, by decide⟩⟩
abbrev mX5_wanted : xM := (yX5_wanted, cX5_wanted, 7, (some .long))
theorem kV_X5_wanted : xMV mX5_wanted 2 := ⟨xtb_in 798 (by decide +kernel) rfl, xtb_in 24 (by decide +kernel) rfl, ii_X5, xtb_in (w := .code yX5_wanted cX5_wanted 7 (some .long)) 799 (by decide +kernel) rfl, ⟨by decide +kernel, by decide⟩⟩
abbrev mX5_room : xM := (yX5_room, cX5_room, 9, (some .long))
theorem kV_X5_room : xMV mX5_room 2 := ⟨xtb_in 802 (by decide +kernel) rfl, xtb_in 25 (by decide +kernel) rfl, ii_X5, xtb_in (w := .code yX5_room cX5_room 9 (some .long)) 803 (by decide +kernel) rfl, ⟨by decide +kernel, by decide⟩⟩
abbrev mX5_mostHours : xM := (yX5_mostHours, cX5_mostHours, 1, (some .long))
theorem kV_X5_mostHours : xMV mX5_mostHours 0 := ⟨xtb_in 806 (by decide +kernel) rfl, xtb_in 26 (by decide +kernel) rfl, ii_X5, xtb_in (w := .code yX5_mostHours cX5_mostHours 1 (some .long)) 807 (by decide +kernel) rfl, ⟨by decide +kernel, by decide⟩⟩
abbrev mX5_hoursOf : xM := (yX5_hoursOf, cX5_hoursOf, 6, (some .long))
theorem kV_X5_hoursOf : xMV mX5_hoursOf 1 := ⟨xtb_in 810 (by decide +kernel) rfl, xtb_in 27 (by decide +kernel) rfl, ii_X5, xtb_in (w := .code yX5_hoursOf cX5_hoursOf 6 (some .long)) 811 (by decide +kernel) rfl, ⟨by decide +kernel, by decide⟩⟩
abbrev mX5_isMade : xM := (yX5_isMade, cX5_isMade, 3, (some .boolean))
theorem kV_X5_isMade : xMV mX5_isMade 2 := ⟨xtb_in 814 (by decide +kernel) rfl, xtb_in 28 (by decide +kernel) rfl, ii_X5, xtb_in (w := .code yX5_isMade cX5_isMade 3 (some .boolean)) 815 (by decide +kernel) rfl, ⟨by decide +kernel, by decide⟩⟩
abbrev mX5_familiesIn : xM := (yX5_familiesIn, cX5_familiesIn, 4, (some .int))
theorem kV_X5_familiesIn : xMV mX5_familiesIn 1 := ⟨xtb_in 818 (by decide +kernel) rfl, xtb_in 29 (by decide +kernel) rfl, ii_X5, xtb_in (w := .code yX5_familiesIn cX5_familiesIn 4 (some .int)) 819 (by decide +kernel) rfl, ⟨by decide +kernel, by decide⟩⟩
abbrev mX5_lotsInAll : xM := (yX5_lotsInAll, cX5_lotsInAll, 5, (some .int))
theorem kV_X5_lotsInAll : xMV mX5_lotsInAll 0 := ⟨xtb_in 823 (by decide +kernel) rfl, xtb_in 30 (by decide +kernel) rfl, ii_X5, xtb_in (w := .code yX5_lotsInAll cX5_lotsInAll 5 (some .int)) 824 (by decide +kernel) rfl, ⟨by decide +kernel, by decide⟩⟩
abbrev mX5_forecast : xM := (yX5_forecast, cX5_forecast, 5, (some .int))
theorem kV_X5_forecast : xMV mX5_forecast 3 := ⟨xtb_in 826 (by decide +kernel) rfl, xtb_in 827 (by decide +kernel) rfl, ii_X5, xtb_in (w := .code yX5_forecast cX5_forecast 5 (some .int)) 828 (by decide +kernel) rfl, ⟨by decide +kernel, by decide⟩⟩
abbrev mX5_forecastError : xM := (yX5_forecastError, cX5_forecastError, 4, (some .int))
theorem kV_X5_forecastError : xMV mX5_forecastError 3 := ⟨xtb_in 831 (by decide +kernel) rfl, xtb_in 31 (by decide +kernel) rfl, ii_X5, xtb_in (w := .code yX5_forecastError cX5_forecastError 4 (some .int)) 832 (by decide +kernel) rfl, ⟨by decide +kernel, by decide⟩⟩
abbrev mX5_isProduct : xM := (yX5_isProduct, cX5_isProduct, 2, (some .boolean))
theorem kV_X5_isProduct : xMV mX5_isProduct 1 := ⟨xtb_in 835 (by decide +kernel) rfl, xtb_in 32 (by decide +kernel) rfl, ii_X5, xtb_in (w := .code yX5_isProduct cX5_isProduct 2 (some .boolean)) 836 (by decide +kernel) rfl, ⟨by decide +kernel, by decide⟩⟩
abbrev mX5_isWeek : xM := (yX5_isWeek, cX5_isWeek, 1, (some .boolean))
theorem kS_X5_isWeek : xMS mX5_isWeek 1 := ⟨xtb_in 838 (by decide +kernel) rfl, ii_X5, xtb_in (w := .code yX5_isWeek cX5_isWeek 1 (some .boolean)) 839 (by decide +kernel) rfl, ⟨by decide +kernel, by decide⟩⟩
abbrev mX5_forecasts : xM := (yX5_forecasts, cX5_forecasts, 5, (some .int))
theorem kV_X5_forecasts : xMV mX5_forecasts 3 := ⟨xtb_in 843 (by decide +kernel) rfl, xtb_in 33 (by decide +kernel) rfl, ii_X5, xtb_in (w := .code yX5_forecasts cX5_forecasts 5 (some .int)) 844 (by decide +kernel) rfl, ⟨by decide +kernel, by decide⟩⟩
abbrev mX5_actual : xM := (yX5_actual, cX5_actual, 4, (some .int))
theorem kV_X5_actual : xMV mX5_actual 2 := ⟨xtb_in 846 (by decide +kernel) rfl, xtb_in 847 (by decide +kernel) rfl, ii_X5, xtb_in (w := .code yX5_actual cX5_actual 4 (some .int)) 848 (by decide +kernel) rfl, ⟨by decide +kernel, by decide⟩⟩
abbrev mX5_actualError : xM := (yX5_actualError, cX5_actualError, 3, (some .int))
theorem kV_X5_actualError : xMV mX5_actualError 2 := ⟨xtb_in 851 (by decide +kernel) rfl, xtb_in 34 (by decide +kernel) rfl, ii_X5, xtb_in (w := .code yX5_actualError cX5_actualError 3 (some .int)) 852 (by decide +kernel) rfl, ⟨by decide +kernel, by decide⟩⟩
abbrev mX5_tells : xM := (yX5_tells, cX5_tells, 4, (some .int))
theorem kV_X5_tells : xMV mX5_tells 2 := ⟨xtb_in 856 (by decide +kernel) rfl, xtb_in 35 (by decide +kernel) rfl, ii_X5, xtb_in (w := .code yX5_tells cX5_tells 4 (some .int)) 857 (by decide +kernel) rfl, ⟨by decide +kernel, by decide⟩⟩
abbrev mX5_lots : xM := (yX5_lots, cX5_lots, 5, (some .int))
theorem kV_X5_lots : xMV mX5_lots 3 := ⟨xtb_in 859 (by decide +kernel) rfl, xtb_in 860 (by decide +kernel) rfl, ii_X5, xtb_in (w := .code yX5_lots cX5_lots 5 (some .int)) 861 (by decide +kernel) rfl, ⟨by decide +kernel, by decide⟩⟩
abbrev mX5_lotsError : xM := (yX5_lotsError, cX5_lotsError, 10, (some .int))
theorem kV_X5_lotsError : xMV mX5_lotsError 3 := ⟨xtb_in 864 (by decide +kernel) rfl, xtb_in 36 (by decide +kernel) rfl, ii_X5, xtb_in (w := .code yX5_lotsError cX5_lotsError 10 (some .int)) 865 (by decide +kernel) rfl, ⟨by decide +kernel, by decide⟩⟩
abbrev mX5_plansLots : xM := (yX5_plansLots, cX5_plansLots, 5, (some .int))
theorem kV_X5_plansLots : xMV mX5_plansLots 3 := ⟨xtb_in 868 (by decide +kernel) rfl, xtb_in 37 (by decide +kernel) rfl, ii_X5, xtb_in (w := .code yX5_plansLots cX5_plansLots 5 (some .int)) 869 (by decide +kernel) rfl, ⟨by decide +kernel, by decide⟩⟩
abbrev mX5_weeks : xM := (yX5_weeks, cX5_weeks, 2, (some .int))
theorem kV_X5_weeks : xMV mX5_weeks 1 := ⟨xtb_in 871 (by decide +kernel) rfl, xtb_in 872 (by decide +kernel) rfl, ii_X5, xtb_in (w := .code yX5_weeks cX5_weeks 2 (some .int)) 873 (by decide +kernel) rfl, ⟨by decide +kernel, by decide⟩⟩
abbrev mX5_passesWeeks : xM := (yX5_passesWeeks, cX5_passesWeeks, 3, (some .int))
theorem kV_X5_passesWeeks : xMV mX5_passesWeeks 1 := ⟨xtb_in 877 (by decide +kernel) rfl, xtb_in 38 (by decide +kernel) rfl, ii_X5, xtb_in (w := .code yX5_passesWeeks cX5_passesWeeks 3 (some .int)) 878 (by decide +kernel) rfl, ⟨by decide +kernel, by decide⟩⟩
abbrev mX5_passes : xM := (yX5_passes, cX5_passes, 6, none)
theorem kV_X5_passes : xMV mX5_passes 0 := ⟨xtb_in 881 (by decide +kernel) rfl, xtb_in 39 (by decide +kernel) rfl, ii_X5, xtb_in (w := .code yX5_passes cX5_passes 6 none) 882 (by decide +kernel) rfl, ⟨by decide +kernel, by decide⟩⟩
abbrev mX5_ships : xM := (yX5_ships, cX5_ships, 14, none)
theorem kV_X5_ships : xMV mX5_ships 1 := ⟨xtb_in 885 (by decide +kernel) rfl, xtb_in 40 (by decide +kernel) rfl, ii_X5, xtb_in (w := .code yX5_ships cX5_ships 14 none) 886 (by decide +kernel) rfl, ⟨by decide +kernel, by decide⟩⟩
abbrev mX5_setupsOf : xM := (yX5_setupsOf, cX5_setupsOf, 5, (some .int))
theorem kV_X5_setupsOf : xMV mX5_setupsOf 1 := ⟨xtb_in 890 (by decide +kernel) rfl, xtb_in 41 (by decide +kernel) rfl, ii_X5, xtb_in (w := .code yX5_setupsOf cX5_setupsOf 5 (some .int)) 891 (by decide +kernel) rfl, ⟨by decide +kernel, by decide⟩⟩
abbrev mX5_overtimeOf : xM := (yX5_overtimeOf, cX5_overtimeOf, 4, (some .long))
theorem kV_X5_overtimeOf : xMV mX5_overtimeOf 1 := ⟨xtb_in 894 (by decide +kernel) rfl, xtb_in 42 (by decide +kernel) rfl, ii_X5, xtb_in (w := .code yX5_overtimeOf cX5_overtimeOf 4 (some .long)) 895 (by decide +kernel) rfl, ⟨by decide +kernel, by decide⟩⟩
abbrev mX5_sumOf : xM := (yX5_sumOf, cX5_sumOf, 5, (some .long))
theorem kV_X5_sumOf : xMV mX5_sumOf 1 := ⟨xtb_in 898 (by decide +kernel) rfl, xtb_in 43 (by decide +kernel) rfl, ii_X5, xtb_in (w := .code yX5_sumOf cX5_sumOf 5 (some .long)) 899 (by decide +kernel) rfl, ⟨by decide +kernel, by decide⟩⟩
abbrev mX5_rolls : xM := (yX5_rolls, cX5_rolls, 3, none)
theorem kV_X5_rolls : xMV mX5_rolls 1 := ⟨xtb_in 902 (by decide +kernel) rfl, xtb_in 44 (by decide +kernel) rfl, ii_X5, xtb_in (w := .code yX5_rolls cX5_rolls 3 none) 903 (by decide +kernel) rfl, ⟨by decide +kernel, by decide⟩⟩
abbrev mX5_ofProduct : xM := (yX5_ofProduct, cX5_ofProduct, 3, (some .int))
theorem kV_X5_ofProduct : xMV mX5_ofProduct 2 := ⟨xtb_in 905 (by decide +kernel) rfl, xtb_in 906 (by decide +kernel) rfl, ii_X5, xtb_in (w := .code yX5_ofProduct cX5_ofProduct 3 (some .int)) 907 (by decide +kernel) rfl, ⟨by decide +kernel, by decide⟩⟩
abbrev mX5_at : xM := (yX5_at, cX5_at, 4, (some .int))
theorem kV_X5_at : xMV mX5_at 3 := ⟨xtb_in 910 (by decide +kernel) rfl, xtb_in 911 (by decide +kernel) rfl, ii_X5, xtb_in (w := .code yX5_at cX5_at 4 (some .int)) 912 (by decide +kernel) rfl, ⟨by decide +kernel, by decide⟩⟩
abbrev mX5_projection : xM := (yX5_projection, cX5_projection, 3, (some .long))
theorem kV_X5_projection : xMV mX5_projection 2 := ⟨xtb_in 914 (by decide +kernel) rfl, xtb_in 915 (by decide +kernel) rfl, ii_X5, xtb_in (w := .code yX5_projection cX5_projection 3 (some .long)) 916 (by decide +kernel) rfl, ⟨by decide +kernel, by decide⟩⟩
abbrev mX5_ofWeek : xM := (yX5_ofWeek, cX5_ofWeek, 3, (some .int))
theorem kV_X5_ofWeek : xMV mX5_ofWeek 2 := ⟨xtb_in 919 (by decide +kernel) rfl, xtb_in 920 (by decide +kernel) rfl, ii_X5, xtb_in (w := .code yX5_ofWeek cX5_ofWeek 3 (some .int)) 921 (by decide +kernel) rfl, ⟨by decide +kernel, by decide⟩⟩
abbrev mX5_count : xM := (yX5_count, cX5_count, 2, (some .long))
theorem kV_X5_count : xMV mX5_count 1 := ⟨xtb_in 923 (by decide +kernel) rfl, xtb_in 924 (by decide +kernel) rfl, ii_X5, xtb_in (w := .code yX5_count cX5_count 2 (some .long)) 925 (by decide +kernel) rfl, ⟨by decide +kernel, by decide⟩⟩
abbrev mX5_firstShort : xM := (yX5_firstShort, cX5_firstShort, 3, (some .int))
theorem kV_X5_firstShort : xMV mX5_firstShort 1 := ⟨xtb_in 930 (by decide +kernel) rfl, xtb_in 931 (by decide +kernel) rfl, ii_X5, xtb_in (w := .code yX5_firstShort cX5_firstShort 3 (some .int)) 932 (by decide +kernel) rfl, ⟨by decide +kernel, by decide⟩⟩
abbrev mX5_lasts : xM := (yX5_lasts, cX5_lasts, 5, (some .int))
theorem kV_X5_lasts : xMV mX5_lasts 1 := ⟨xtb_in 934 (by decide +kernel) rfl, xtb_in 935 (by decide +kernel) rfl, ii_X5, xtb_in (w := .code yX5_lasts cX5_lasts 5 (some .int)) 936 (by decide +kernel) rfl, ⟨by decide +kernel, by decide⟩⟩
abbrev mX5_leastHours : xM := (yX5_leastHours, cX5_leastHours, 3, (some .int))
theorem kV_X5_leastHours : xMV mX5_leastHours 0 := ⟨xtb_in 938 (by decide +kernel) rfl, xtb_in 939 (by decide +kernel) rfl, ii_X5, xtb_in (w := .code yX5_leastHours cX5_leastHours 3 (some .int)) 940 (by decide +kernel) rfl, ⟨by decide +kernel, by decide⟩⟩
abbrev mX5_does : xM := (yX5_does, cX5_does, 4, (some .boolean))
theorem kV_X5_does : xMV mX5_does 0 := ⟨xtb_in 943 (by decide +kernel) rfl, xtb_in 45 (by decide +kernel) rfl, ii_X5, xtb_in (w := .code yX5_does cX5_does 4 (some .boolean)) 944 (by decide +kernel) rfl, ⟨by decide +kernel, by decide⟩⟩
abbrev mX5_costs : xM := (yX5_costs, cX5_costs, 3, (some .long))
theorem kV_X5_costs : xMV mX5_costs 2 := ⟨xtb_in 946 (by decide +kernel) rfl, xtb_in 947 (by decide +kernel) rfl, ii_X5, xtb_in (w := .code yX5_costs cX5_costs 3 (some .long)) 948 (by decide +kernel) rfl, ⟨by decide +kernel, by decide⟩⟩
abbrev mX5_costsBy : xM := (yX5_costsBy, cX5_costsBy, 7, (some .long))
theorem kV_X5_costsBy : xMV mX5_costsBy 2 := ⟨xtb_in 951 (by decide +kernel) rfl, xtb_in 46 (by decide +kernel) rfl, ii_X5, xtb_in (w := .code yX5_costsBy cX5_costsBy 7 (some .long)) 952 (by decide +kernel) rfl, ⟨by decide +kernel, by decide⟩⟩
abbrev mX5_bestFence : xM := (yX5_bestFence, cX5_bestFence, 8, (some .int))
theorem kV_X5_bestFence : xMV mX5_bestFence 1 := ⟨xtb_in 954 (by decide +kernel) rfl, xtb_in 955 (by decide +kernel) rfl, ii_X5, xtb_in (w := .code yX5_bestFence cX5_bestFence 8 (some .int)) 956 (by decide +kernel) rfl, ⟨by decide +kernel, by decide⟩⟩
abbrev mX5_roomFor : xM := (yX5_roomFor, cX5_roomFor, 3, (some .int))
theorem kV_X5_roomFor : xMV mX5_roomFor 2 := ⟨xtb_in 958 (by decide +kernel) rfl, xtb_in 959 (by decide +kernel) rfl, ii_X5, xtb_in (w := .code yX5_roomFor cX5_roomFor 3 (some .int)) 960 (by decide +kernel) rfl, ⟨by decide +kernel, by decide⟩⟩
abbrev mX5_put : xM := (yX5_put, cX5_put, 5, (some .int))
theorem kV_X5_put : xMV mX5_put 1 := ⟨xtb_in 962 (by decide +kernel) rfl, xtb_in 963 (by decide +kernel) rfl, ii_X5, xtb_in (w := .code yX5_put cX5_put 5 (some .int)) 964 (by decide +kernel) rfl, ⟨by decide +kernel, by decide⟩⟩
abbrev mX5_wipe : xM := (yX5_wipe, cX5_wipe, 2, (some .int))
theorem kV_X5_wipe : xMV mX5_wipe 0 := ⟨xtb_in 969 (by decide +kernel) rfl, xtb_in 970 (by decide +kernel) rfl, ii_X5, xtb_in (w := .code yX5_wipe cX5_wipe 2 (some .int)) 971 (by decide +kernel) rfl, ⟨by decide +kernel, by decide⟩⟩
abbrev mX5_fault : xM := (yX5_fault, cX5_fault, 1, (some .int))
theorem kV_X5_fault : xMV mX5_fault 0 := ⟨xtb_in 973 (by decide +kernel) rfl, xtb_in 974 (by decide +kernel) rfl, ii_X5, xtb_in (w := .code yX5_fault cX5_fault 1 (some .int)) 975 (by decide +kernel) rfl, ⟨by decide +kernel, by decide⟩⟩
abbrev mX5_passesAct : xM := (yX5_passesAct, cX5_passesAct, 2, (some .boolean))
theorem kV_X5_passesAct : xMV mX5_passesAct 0 := ⟨xtb_in 978 (by decide +kernel) rfl, xtb_in 47 (by decide +kernel) rfl, ii_X5, xtb_in (w := .code yX5_passesAct cX5_passesAct 2 (some .boolean)) 979 (by decide +kernel) rfl, ⟨by decide +kernel, by decide⟩⟩
abbrev mX5_passesNumber : xM := (yX5_passesNumber, cX5_passesNumber, 3, (some .boolean))
theorem kV_X5_passesNumber : xMV mX5_passesNumber 0 := ⟨xtb_in 982 (by decide +kernel) rfl, xtb_in 48 (by decide +kernel) rfl, ii_X5, xtb_in (w := .code yX5_passesNumber cX5_passesNumber 3 (some .boolean)) 983 (by decide +kernel) rfl, ⟨by decide +kernel, by decide⟩⟩
abbrev mX5_passesOne : xM := (yX5_passesOne, cX5_passesOne, 3, (some .boolean))
theorem kV_X5_passesOne : xMV mX5_passesOne 2 := ⟨xtb_in 986 (by decide +kernel) rfl, xtb_in 49 (by decide +kernel) rfl, ii_X5, xtb_in (w := .code yX5_passesOne cX5_passesOne 3 (some .boolean)) 987 (by decide +kernel) rfl, ⟨by decide +kernel, by decide⟩⟩
abbrev mX5_isHere : xM := (yX5_isHere, cX5_isHere, 3, (some .boolean))
theorem kV_X5_isHere : xMV mX5_isHere 2 := ⟨xtb_in 990 (by decide +kernel) rfl, xtb_in 50 (by decide +kernel) rfl, ii_X5, xtb_in (w := .code yX5_isHere cX5_isHere 3 (some .boolean)) 991 (by decide +kernel) rfl, ⟨by decide +kernel, by decide⟩⟩
abbrev mX5_passesNumbers : xM := (yX5_passesNumbers, cX5_passesNumbers, 2, (some .boolean))
theorem kV_X5_passesNumbers : xMV mX5_passesNumbers 1 := ⟨xtb_in 994 (by decide +kernel) rfl, xtb_in 51 (by decide +kernel) rfl, ii_X5, xtb_in (w := .code yX5_passesNumbers cX5_passesNumbers 2 (some .boolean)) 995 (by decide +kernel) rfl, ⟨by decide +kernel, by decide⟩⟩
abbrev mX5_carryOut : xM := (yX5_carryOut, cX5_carryOut, 3, (some .int))
theorem kV_X5_carryOut : xMV mX5_carryOut 0 := ⟨xtb_in 997 (by decide +kernel) rfl, xtb_in 998 (by decide +kernel) rfl, ii_X5, xtb_in (w := .code yX5_carryOut cX5_carryOut 3 (some .int)) 999 (by decide +kernel) rfl, ⟨by decide +kernel, by decide⟩⟩
abbrev mX5_acts : xM := (yX5_acts, cX5_acts, 3, (some .int))
theorem kV_X5_acts : xMV mX5_acts 0 := ⟨xtb_in 1003 (by decide +kernel) rfl, xtb_in 52 (by decide +kernel) rfl, ii_X5, xtb_in (w := .code yX5_acts cX5_acts 3 (some .int)) 1004 (by decide +kernel) rfl, ⟨by decide +kernel, by decide⟩⟩
theorem st_min : Cond.static Lib.Math.min.name ∈ xtb := xtb_in 436 (by decide +kernel) rfl
theorem cd_min : Cond.code Lib.Math.min.name Lib.Math.min.code 2 (some .int) ∈ xtb := xtb_in 437 (by decide +kernel) rfl
theorem st_max : Cond.static Lib.Math.max.name ∈ xtb := xtb_in 407 (by decide +kernel) rfl
theorem cd_max : Cond.code Lib.Math.max.name Lib.Math.max.code 2 (some .int) ∈ xtb := xtb_in 408 (by decide +kernel) rfl
theorem st_abs : Cond.static Lib.Math.abs.name ∈ xtb := xtb_in 486 (by decide +kernel) rfl
theorem cd_abs : Cond.code Lib.Math.abs.name Lib.Math.abs.code 1 (some .int) ∈ xtb := xtb_in 487 (by decide +kernel) rfl
theorem st_minL : Cond.static Lib.MathLoose.min_long.x ∈ xtb := xtb_in 439 (by decide +kernel) rfl
theorem cd_minL : Cond.code Lib.MathLoose.min_long.x Lib.MathLoose.min_long.code 4 (some .long) ∈ xtb := xtb_in 440 (by decide +kernel) rfl
theorem oi_in : Cond.instanceMethod Lib.objectInit ∈ xtb := xtb_in 70 (by decide +kernel) rfl
theorem oi_cd : Cond.code Lib.objectInit ⟨#[0xb1]⟩ 1 none ∈ xtb := xtb_in 71 (by decide +kernel) rfl
theorem st_copy : Cond.static arraycopyName ∈ xtb := xtb_in 309 (by decide +kernel) rfl
theorem in_clone : Cond.instanceMethod ⟨"java/lang/Object", "clone", "()Ljava/lang/Object;"⟩ ∈ xtb := xtb_in 83 (by decide +kernel) rfl
end
section
/-! ===== steady state: rows by shorter facts ===== -/
def xOb (n a ci : Nat) : Prop := xSH a = (ci, 0) ∧ 4 ≤ a ∧ a < n
def xAr (n a c len : Nat) : Prop := xSH a = (c, len) ∧ 4 ≤ a ∧ a < n ∧ len ≤ 100000
abbrev xEs (w : Value) (Q : xD → Prop) (r : xR) : Option Value → xD → xR → Prop := fun v D' r' => v = some w ∧ r' = r ∧ Q D'
abbrev xEn (Q : xD → Prop) (r : xR) : Option Value → xD → xR → Prop := fun v D' r' => v = none ∧ r' = r ∧ Q D'
/-- a boolean as a number -/
abbrev bi (c : Prop) [Decidable c] : Int := if c then 1 else 0
theorem bi_I (c : Prop) [Decidable c] : xI (bi c) := by unfold bi; split <;> decide
theorem bi_nar (c : Prop) [Decidable c] : narrow .boolean (vi (bi c)) = vi (bi c) := by unfold bi; split <;> rfl
theorem bi_eq {c c' : Prop} [Decidable c] [Decidable c'] (h : c ↔ c') : bi c = bi c' := by unfold bi; simp [h]
theorem bi1 {c : Prop} [Decidable c] (h : c) : (1 : Int) = bi c := (if_pos h).symm
theorem bi0 {c : Prop} [Decidable c] (h : ¬ c) : (0 : Int) = bi c := (if_neg h).symm
section XW2
variable {γ : xC} {cc : ByteArray} {nL d : Nat} {y : MethodName} {pc q : Nat} {pl : List (Option Value)} {st : List Value} {n z : Nat} {D : xD} {r : xR}
theorem w_getI (hX : xX γ cc nL y d) {idx ci j a : Nat} {fin : Bool} (hf : xFL y.cls idx ci j fin) (hk : xkd (xty ci j) = 0) (hO : xOb n a ci) (hd : decode cc pc = .ok (.getfield idx, 3)) (hq : pc + 3 = q) (k : xV γ q pl (vi (D a j) :: st) (n, z) D r) : xV γ pc pl (.ref a :: st) (n, z) D r := v_getI hX hf hk hO.1 hO.2.1 hO.2.2 hd hq k
theorem w_getL (hX : xX γ cc nL y d) {idx ci j a : Nat} {fin : Bool} (hf : xFL y.cls idx ci j fin) (hk : xkd (xty ci j) = 1) (hO : xOb n a ci) (hd : decode cc pc = .ok (.getfield idx, 3)) (hq : pc + 3 = q) (k : xV γ q pl (vl (D a j) :: st) (n, z) D r) : xV γ pc pl (.ref a :: st) (n, z) D r := v_getL hX hf hk hO.1 hO.2.1 hO.2.2 hd hq k
theorem w_getR (hX : xX γ cc nL y d) {idx ci j a b : Nat} {fin : Bool} (hf : xFL y.cls idx ci j fin) (hk : xkd (xty ci j) = 2) (hO : xOb n a ci) (hr : r a j = some b) (hd : decode cc pc = .ok (.getfield idx, 3)) (hq : pc + 3 = q) (k : xV γ q pl (.ref b :: st) (n, z) D r) : xV γ pc pl (.ref a :: st) (n, z) D r := v_getR hX hf hk hO.1 hO.2.1 hO.2.2 hr hd hq k
theorem w_putI (hX : xX γ cc nL y d) {idx ci j a : Nat} {e : Int} (hf : xFL y.cls idx ci j false) (hk : xty ci j = .int) (hO : xOb n a ci) (hd : decode cc pc = .ok (.putfield idx, 3)) (hq : pc + 3 = q) (k : xV γ q pl st (n, z) (xu D a j e) r) : xV γ pc pl (vi e :: .ref a :: st) (n, z) D r := v_putI hX hf (by rw [hk]; rfl) (by rw [hk]; rfl) (by rw [hk]; rfl) hO.1 hO.2.1 hO.2.2 hd hq k
theorem w_putZ (hX : xX γ cc nL y d) {idx ci j a : Nat} {e : Int} (hf : xFL y.cls idx ci j false) (hk : xty ci j = .boolean) (he : e = 0 ∨ e = 1) (hO : xOb n a ci) (hd : decode cc pc = .ok (.putfield idx, 3)) (hq : pc + 3 = q) (k : xV γ q pl st (n, z) (xu D a j e) r) : xV γ pc pl (vi e :: .ref a :: st) (n, z) D r := v_putI hX hf (by rw [hk]; rfl) (by rw [hk]; rcases he with rfl | rfl <;> rfl) (by rw [hk]; rcases he with rfl | rfl <;> rfl) hO.1 hO.2.1 hO.2.2 hd hq k
theorem w_putL (hX : xX γ cc nL y d) {idx ci j a : Nat} {e : Int} (hf : xFL y.cls idx ci j false) (hk : xty ci j = .long) (hO : xOb n a ci) (hd : decode cc pc = .ok (.putfield idx, 3)) (hq : pc + 3 = q) (k : xV γ q pl st (n, z) (xu D a j e) r) : xV γ pc pl (vl e :: .ref a :: st) (n, z) D r := v_putL hX hf hk hO.1 hO.2.1 hO.2.2 hd hq k
theorem w_ild (hX : xX γ cc nL y d) {a kk len : Nat} {i : Int} (hi : i = (kk : Int)) (hk : kk < len) (hA : xAr n a 10 len) (hd : decode cc pc = .ok (.iaload, 1)) (hq : pc + 1 = q) (k : xV γ q pl (vi (D a kk) :: st) (n, z) D r) : xV γ pc pl (vi i :: .ref a :: st) (n, z) D r := v_iaload hX hi hk hA.2.2.2 hA.1 hA.2.1 hA.2.2.1 hd hq k
theorem w_lld (hX : xX γ cc nL y d) {a kk len : Nat} {i : Int} (hi : i = (kk : Int)) (hk : kk < len) (hA : xAr n a 11 len) (hd : decode cc pc = .ok (.laload, 1)) (hq : pc + 1 = q) (k : xV γ q pl (vl (D a kk) :: st) (n, z) D r) : xV γ pc pl (vi i :: .ref a :: st) (n, z) D r := v_laload hX hi hk hA.2.2.2 hA.1 hA.2.1 hA.2.2.1 hd hq k
theorem w_cld (hX : xX γ cc nL y d) {a kk len : Nat} {i : Int} (hi : i = (kk : Int)) (hk : kk < len) (hA : xAr n a 12 len) (hd : decode cc pc = .ok (.caload, 1)) (hq : pc + 1 = q) (k : xV γ q pl (vi (D a kk) :: st) (n, z) D r) : xV γ pc pl (vi i :: .ref a :: st) (n, z) D r := v_caload hX hi hk hA.2.2.2 hA.1 hA.2.1 hA.2.2.1 hd hq k
theorem w_bld (hX : xX γ cc nL y d) {a kk len : Nat} {i : Int} (hi : i = (kk : Int)) (hk : kk < len) (hA : xAr n a 13 len) (hd : decode cc pc = .ok (.baload, 1)) (hq : pc + 1 = q) (k : xV γ q pl (vi (D a kk) :: st) (n, z) D r) : xV γ pc pl (vi i :: .ref a :: st) (n, z) D r := v_baload hX hi hk hA.2.2.2 hA.1 hA.2.1 hA.2.2.1 hd hq k
theorem w_ald (hX : xX γ cc nL y d) {a kk len b c0 : Nat} {i : Int} (hi : i = (kk : Int)) (hk : kk < len) (hA : xAr n a c0 len) (hc0 : c0 = 14 ∨ c0 = 15) (hr : r a kk = some b) (hd : decode cc pc = .ok (.aaload, 1)) (hq : pc + 1 = q) (k : xV γ q pl (.ref b :: st) (n, z) D r) : xV γ pc pl (vi i :: .ref a :: st) (n, z) D r := v_aaload hX hi hk hA.2.2.2 hA.1 hc0 hA.2.1 hA.2.2.1 hr hd hq k
theorem w_ist (hX : xX γ cc nL y d) {a kk len : Nat} {i v : Int} (hi : i = (kk : Int)) (hk : kk < len) (hA : xAr n a 10 len) (hd : decode cc pc = .ok (.iastore, 1)) (hq : pc + 1 = q) (k : xV γ q pl st (n, z) (xu D a kk v) r) : xV γ pc pl (vi v :: vi i :: .ref a :: st) (n, z) D r := v_iastore hX hi hk hA.2.2.2 hA.1 hA.2.1 hA.2.2.1 hd hq k
theorem w_lst (hX : xX γ cc nL y d) {a kk len : Nat} {i v : Int} (hi : i = (kk : Int)) (hk : kk < len) (hA : xAr n a 11 len) (hd : decode cc pc = .ok (.lastore, 1)) (hq : pc + 1 = q) (k : xV γ q pl st (n, z) (xu D a kk v) r) : xV γ pc pl (vl v :: vi i :: .ref a :: st) (n, z) D r := v_lastore hX hi hk hA.2.2.2 hA.1 hA.2.1 hA.2.2.1 hd hq k
theorem w_cst (hX : xX γ cc nL y d) {a kk len : Nat} {i v : Int} (hi : i = (kk : Int)) (hk : kk < len) (hn : narrow .char (vi v) = vi v) (hA : xAr n a 12 len) (hd : decode cc pc = .ok (.castore, 1)) (hq : pc + 1 = q) (k : xV γ q pl st (n, z) (xu D a kk v) r) : xV γ pc pl (vi v :: vi i :: .ref a :: st) (n, z) D r := v_castore hX hi hk hA.2.2.2 hn hA.1 hA.2.1 hA.2.2.1 hd hq k
theorem w_bst (hX : xX γ cc nL y d) {a kk len : Nat} {i v : Int} (hi : i = (kk : Int)) (hk : kk < len) (hv : v = 0 ∨ v = 1) (hA : xAr n a 13 len) (hd : decode cc pc = .ok (.bastore, 1)) (hq : pc + 1 = q) (k : xV γ q pl st (n, z) (xu D a kk v) r) : xV γ pc pl (vi v :: vi i :: .ref a :: st) (n, z) D r := v_bastore hX hi hk hA.2.2.2 (by rcases hv with rfl | rfl <;> rfl) hA.1 hA.2.1 hA.2.2.1 hd hq k
theorem w_ifeq (hX : xX γ cc nL y d) {c : Prop} [Decidable c] {off : Int} {tgt : Nat} (hd : decode cc pc = .ok (.ifCond .eq off, 3)) (ht : (pc : Int) + off = (tgt : Int)) (hq : pc + 3 = q) (kt : ¬ c → xV γ tgt pl st (n, z) D r) (kf : c → xV γ q pl st (n, z) D r) : xV γ pc pl (vi (bi c) :: st) (n, z) D r :=
  v_if_eq hX (bi_I c) hd ht hq (fun h => kt (fun hc => by rw [← bi1 hc] at h; omega)) (fun h => kf (Classical.byContradiction fun hc => h (bi0 hc).symm))
theorem w_ifne (hX : xX γ cc nL y d) {c : Prop} [Decidable c] {off : Int} {tgt : Nat} (hd : decode cc pc = .ok (.ifCond .ne off, 3)) (ht : (pc : Int) + off = (tgt : Int)) (hq : pc + 3 = q) (kt : c → xV γ tgt pl st (n, z) D r) (kf : ¬ c → xV γ q pl st (n, z) D r) : xV γ pc pl (vi (bi c) :: st) (n, z) D r :=
  v_if_ne hX (bi_I c) hd ht hq (fun h => kt (Classical.byContradiction fun hc => h (bi0 hc).symm)) (fun h => kf (fun hc => by rw [← bi1 hc] at h; omega))
variable {rest As : List Value} {μ : xM} {d' m a idx : Nat}
theorem w_callV (hX : xX γ cc nL y d) {w : Value} (hM : MX d' μ (.ref a :: As) (n, z) D r (n, z) (xP w D r)) (hst : st = As.reverse ++ .ref a :: rest) (hμ : xMV μ m) (hn : As.length = m) (hdd : d' + 1 ≤ d) (hlk : Cond.methodLink y.cls idx μ.1 ∈ xtb) {ci : Nat} (hci : ci < 6) (hcn : xcn ci = μ.1.cls) (hO : xOb n a ci)
    (hrest : (rest.map Value.category).sum ≤ 8) (hd : decode cc pc = .ok (.invokevirtual idx, 3)) (hq : pc + 3 = q) (k : xV γ q pl (w :: rest) (n, z) D r) : xV γ pc pl st (n, z) D r :=
  v_callV hX hM hst hμ hn hdd hlk hci hcn hO.1 hO.2.1 hO.2.2 hrest hd hq (fun v D' r' h => by obtain ⟨rfl, rfl, rfl⟩ := h; exact k)
theorem w_callVe (hX : xX γ cc nL y d) {w : Value} {Q : xD → Prop} (hM : MX d' μ (.ref a :: As) (n, z) D r (n, z) (xEs w Q r)) (hst : st = As.reverse ++ .ref a :: rest) (hμ : xMV μ m) (hn : As.length = m) (hdd : d' + 1 ≤ d) (hlk : Cond.methodLink y.cls idx μ.1 ∈ xtb) {ci : Nat} (hci : ci < 6) (hcn : xcn ci = μ.1.cls) (hO : xOb n a ci)
    (hrest : (rest.map Value.category).sum ≤ 8) (hd : decode cc pc = .ok (.invokevirtual idx, 3)) (hq : pc + 3 = q) (k : ∀ D', Q D' → xV γ q pl (w :: rest) (n, z) D' r) : xV γ pc pl st (n, z) D r :=
  v_callV hX hM hst hμ hn hdd hlk hci hcn hO.1 hO.2.1 hO.2.2 hrest hd hq (fun v D' r' h => by obtain ⟨rfl, rfl, hQ⟩ := h; exact k D' hQ)
theorem w_callVn (hX : xX γ cc nL y d) {Q : xD → Prop} (hM : MX d' μ (.ref a :: As) (n, z) D r (n, z) (xEn Q r)) (hst : st = As.reverse ++ .ref a :: rest) (hμ : xMV μ m) (hn : As.length = m) (hdd : d' + 1 ≤ d) (hlk : Cond.methodLink y.cls idx μ.1 ∈ xtb) {ci : Nat} (hci : ci < 6) (hcn : xcn ci = μ.1.cls) (hO : xOb n a ci)
    (hrest : (rest.map Value.category).sum ≤ 8) (hd : decode cc pc = .ok (.invokevirtual idx, 3)) (hq : pc + 3 = q) (k : ∀ D', Q D' → xV γ q pl rest (n, z) D' r) : xV γ pc pl st (n, z) D r :=
  v_callV hX hM hst hμ hn hdd hlk hci hcn hO.1 hO.2.1 hO.2.2 hrest hd hq (fun v D' r' h => by obtain ⟨rfl, rfl, hQ⟩ := h; exact k D' hQ)
theorem w_callS (hX : xX γ cc nL y d) {w : Value} (hM : MX d' μ As (n, z) D r (n, z) (xP w D r)) (hst : st = As.reverse ++ rest) (hμ : xMS μ m) (hn : As.length = m) (hdd : d' + 1 ≤ d) (hlk : Cond.methodLink y.cls idx μ.1 ∈ xtb)
    (hrest : (rest.map Value.category).sum ≤ 8) (hd : decode cc pc = .ok (.invokestatic idx, 3)) (hq : pc + 3 = q) (k : xV γ q pl (w :: rest) (n, z) D r) : xV γ pc pl st (n, z) D r :=
  v_callS hX hM hst hμ hn hdd hlk hrest hd hq (fun v D' r' h => by obtain ⟨rfl, rfl, rfl⟩ := h; exact k)
theorem w_callSN (hX : xX γ cc nL y d) {w : Value} (hM : MX d' μ As (n, z) D r (n, z) (xP w D r)) (hst : st = As.reverse ++ rest) (hμ : xMS μ m) (hn : As.length = m) (hdd : d' + 1 ≤ d) (hlk : ∀ ω U H, xKF ω U H → va_Nw (.methodLinkNest y.cls idx μ.1 "LotFences") U)
    (hrest : (rest.map Value.category).sum ≤ 8) (hd : decode cc pc = .ok (.invokestatic idx, 3)) (hq : pc + 3 = q) (k : xV γ q pl (w :: rest) (n, z) D r) : xV γ pc pl st (n, z) D r :=
  v_callSN hX hM hst hμ hn hdd hlk hrest hd hq (fun v D' r' h => by obtain ⟨rfl, rfl, rfl⟩ := h; exact k)
end XW2
/-- a loop that counts up -/
theorem xup {P : Nat → Prop} (N : Nat) (h : ∀ k, k ≤ N → (k < N → P (k + 1)) → P k) : ∀ k, k ≤ N → P k := by
  have key : ∀ m k, k ≤ N → N - k = m → P k := by
    intro m
    induction m with
    | zero => intro k hk hm; exact h k hk (fun hlt => by omega)
    | succ m ih => intro k hk hm; exact h k hk (fun hlt => ih (k + 1) (by omega) (by omega))
  exact fun k hk => key _ k hk rfl
/-- a whole row of the memory becomes another -/
def xw (D : xD) (a : Nat) (f : Nat → Int) : xD := fun q => if q = a then f else D q
theorem xw_at (D : xD) (a : Nat) (f : Nat → Int) : xw D a f a = f := if_pos rfl
theorem xw_ne (D : xD) (a : Nat) (f : Nat → Int) {q : Nat} (h : q ≠ a) : xw D a f q = D q := if_neg h
theorem xw_xw (D : xD) (a : Nat) (f g : Nat → Int) : xw (xw D a f) a g = xw D a g := by funext q; unfold xw; split <;> rfl
theorem xw_self (D : xD) (a : Nat) : xw D a (D a) = D := by funext q; unfold xw; split <;> simp_all
/-- one number of a row becomes another -/
def fu (f : Nat → Int) (j : Nat) (e : Int) : Nat → Int := fun i => if i = j then e else f i
theorem fu_at (f : Nat → Int) (j : Nat) (e : Int) : fu f j e j = e := if_pos rfl
theorem fu_ne (f : Nat → Int) (j : Nat) (e : Int) {i : Nat} (h : i ≠ j) : fu f j e i = f i := if_neg h
theorem xu_xw (D : xD) (a j : Nat) (e : Int) : xu D a j e = xw D a (fu (D a) j e) := by
  funext q; unfold xu xw fu
  by_cases h : q = a
  · subst h; simp
  · simp [h]
theorem xu_xw' (D : xD) (a j : Nat) (e : Int) (f : Nat → Int) : xu (xw D a f) a j e = xw D a (fu f j e) := by rw [xu_xw, xw_xw, xw_at]
/-- fewer locals are known -/
def xle : List (Option Value) → List (Option Value) → Prop
  | [], _ => True
  | none :: xs, _ :: ys => xle xs ys
  | some a :: xs, some b :: ys => b = a ∧ xle xs ys
  | _, _ => False
theorem xle_get : ∀ (pl' pl : List (Option Value)), xle pl' pl → ∀ (k : Nat) (v : Value), xlg pl' k = some v → xlg pl k = some v := by
  intro pl'
  induction pl' with
  | nil => intro pl _ k v h; simp [xlg] at h
  | cons x xs ih =>
    intro pl hle k v h
    cases pl with
    | nil => cases x <;> simp [xle] at hle
    | cons y ys =>
      cases x with
      | none =>
        cases k with
        | zero => simp [xlg] at h
        | succ k => exact ih ys hle k v h
      | some a =>
        cases y with
        | none => simp [xle] at hle
        | some b =>
          obtain ⟨e, hle⟩ := hle
          cases k with
          | zero => rw [show xlg (some b :: ys) 0 = some b from rfl, e]; exact h
          | succ k => exact ih ys hle k v h
theorem xVw {γ : xC} {pc : Nat} {pl pl' : List (Option Value)} {st : List Value} {σ : Nat × Nat} {D : xD} {r : xR} (h : xle pl' pl) (k : xV γ pc pl' st σ D r) : xV γ pc pl st σ D r := by
  obtain ⟨p, l, e, R, s, m, args, below, meth, c, Q, ω, n0, z0, n1, z1⟩ := γ
  intro g1 g2 g3 g4 H locs ls hR hS hL
  refine k g1 g2 g3 g4 H locs ls hR hS ⟨hL.1, hL.2.1, fun q hq => hL.2.2 q ?_⟩
  obtain ⟨j, w, h1, h2, h3⟩ := (xll_mem pl' 0 q).mp hq
  exact (xll_mem pl 0 q).mpr ⟨j, w, h1, xle_get pl' pl h j w h2, h3⟩
end
section
/-! ===== the reference: what it stands on ===== -/
def xRM (r : xR) : Prop := r 351 0 = some 352 ∧ r 351 1 = some 353 ∧ r 351 2 = some 354 ∧ r 351 4 = some 355
theorem oX5 : xOb 356 351 5 := ⟨rfl, by decide, by decide⟩
theorem aNow : xAr 356 352 11 378 := ⟨rfl, by decide, by decide, by decide⟩
theorem aKept : xAr 356 353 11 3402 := ⟨rfl, by decide, by decide, by decide⟩
theorem aSav : xAr 356 354 10 2 := ⟨rfl, by decide, by decide, by decide⟩
theorem aPad : xAr 356 355 10 80 := ⟨rfl, by decide, by decide, by decide⟩
/-- a number of a product in the plain state -/
abbrev pF (N : Nat → Int) (p i : Nat) : Int := N (18 + 36 * p + i)
set_option maxRecDepth 100000 in
set_option maxHeartbeats 4000000 in
theorem c_X5_isIn {z : Nat} (D : xD) (r : xR) (v a b : Int) (hv : xJ v) (ha : xJ a) (hb : xJ b) : MX 0 mX5_isIn [vl v, vl a, vl b] (356, z) D r (356, z) (xP (vi (bi (a ≤ v ∧ v ≤ b))) D r) := by
  refine MX.of (by decide +kernel) [some (vl v), none, some (vl a), none, some (vl b), none] rfl (Nat.le_of_ble_eq_true rfl) ?_
  intro γ hX hRX
  refine v_lload_n (q := 1) hX dX5_isIn_0 rfl rfl rfl ?_
  refine v_lload_n (q := 2) hX dX5_isIn_1 rfl rfl rfl ?_
  refine v_lcmp_lt (q := 6) (tgt := 17) hX hv ha dX5_isIn_2 dX5_isIn_3 (by decide) rfl (fun h2 => ?_) (fun h2 => ?_)
  · refine v_iconst (q := 18) hX dX5_isIn_17 rfl ?_
    refine v_ireturn hX hRX rfl (by first | rfl | exact bi_nar _) dX5_isIn_18 rfl ?_
    exact ⟨by first | rw [bi, if_pos (by omega)] | rw [bi, if_neg (by omega)], rfl, rfl⟩
  · refine v_lload_n (q := 7) hX dX5_isIn_6 rfl rfl rfl ?_
    refine v_lload (q := 9) hX dX5_isIn_7 rfl rfl ?_
    refine v_lcmp_gt (q := 13) (tgt := 17) hX ⟨by omega, by omega⟩ ⟨by omega, by omega⟩ dX5_isIn_9 dX5_isIn_10 (by decide) rfl (fun h9 => ?_) (fun h9 => ?_)
    · refine v_iconst (q := 18) hX dX5_isIn_17 rfl ?_
      refine v_ireturn hX hRX rfl (by first | rfl | exact bi_nar _) dX5_isIn_18 rfl ?_
      exact ⟨by first | rw [bi, if_pos (by omega)] | rw [bi, if_neg (by omega)], rfl, rfl⟩
    · refine v_iconst (q := 14) hX dX5_isIn_13 rfl ?_
      refine v_goto (tgt := 18) hX dX5_isIn_14 (by decide) ?_
      refine v_ireturn hX hRX rfl (by first | rfl | exact bi_nar _) dX5_isIn_18 rfl ?_
      exact ⟨by first | rw [bi, if_pos (by omega)] | rw [bi, if_neg (by omega)], rfl, rfl⟩

set_option maxRecDepth 100000 in
set_option maxHeartbeats 4000000 in
theorem c_X5_isWeek {z : Nat} (D : xD) (r : xR) (w : Int) (hw : xI w) : MX 1 mX5_isWeek [vi w] (356, z) D r (356, z) (xP (vi (bi (0 ≤ w ∧ w < 12))) D r) := by
  refine MX.of (by decide +kernel) [some (vi w)] rfl (Nat.le_of_ble_eq_true rfl) ?_
  intro γ hX hRX
  refine v_iload_n (q := 1) hX dX5_isWeek_0 rfl rfl rfl ?_
  refine v_i2l (q := 2) hX hw dX5_isWeek_1 rfl ?_
  refine v_lconst (q := 3) (e := 0) hX (by decide) dX5_isWeek_2 rfl ?_
  refine v_ldc2 (q := 6) (e := 11) hX (by decide) kl_X5_39 dX5_isWeek_3 rfl ?_
  refine w_callS (q := 9) hX (c_X5_isIn D r _ _ _ ⟨by omega, by omega⟩ (by decide) (by decide)) rfl kS_X5_isIn rfl (by decide) lk_X5_35 (Nat.le_of_ble_eq_true rfl) dX5_isWeek_6 rfl ?_
  refine v_ireturn hX hRX rfl (by first | rfl | exact bi_nar _) dX5_isWeek_9 rfl ?_
  exact ⟨congrArg (fun e => some (vi e)) (bi_eq (by omega)), rfl, rfl⟩

set_option maxRecDepth 100000 in
set_option maxHeartbeats 4000000 in
theorem c_X5_isProduct {z : Nat} (D : xD) (r : xR) (hr : xRM r) (p : Int) (hp : xI p) (h1 : 0 ≤ D 352 1 ∧ D 352 1 ≤ 10) : MX 1 mX5_isProduct [.ref 351, vi p] (356, z) D r (356, z) (xP (vi (bi (0 ≤ p ∧ p < D 352 1))) D r) := by
  refine MX.of (by decide +kernel) [some (.ref 351), some (vi p)] rfl (Nat.le_of_ble_eq_true rfl) ?_
  intro γ hX hRX
  refine v_iload_n (q := 1) hX dX5_isProduct_0 rfl rfl rfl ?_
  refine v_i2l (q := 2) hX hp dX5_isProduct_1 rfl ?_
  refine v_lconst (q := 3) (e := 0) hX (by decide) dX5_isProduct_2 rfl ?_
  refine v_aload_n (q := 4) hX dX5_isProduct_3 rfl rfl rfl ?_
  refine w_getR (q := 7) hX fl_X5_7 rfl oX5 hr.1 dX5_isProduct_4 rfl ?_
  refine v_iconst (q := 8) hX dX5_isProduct_7 rfl ?_
  refine w_lld (q := 9) (kk := 1) hX (rfl) (by decide) aNow dX5_isProduct_8 rfl ?_
  refine v_lconst (q := 10) (e := 1) hX (by decide) dX5_isProduct_9 rfl ?_
  refine v_lsub (q := 11) hX dX5_isProduct_10 rfl ?_
  refine w_callS (q := 14) hX (c_X5_isIn D r _ _ _ ⟨by omega, by omega⟩ (by decide) ⟨by omega, by omega⟩) rfl kS_X5_isIn rfl (by decide) lk_X5_35 (Nat.le_of_ble_eq_true rfl) dX5_isProduct_11 rfl ?_
  refine v_ireturn hX hRX rfl (by first | rfl | exact bi_nar _) dX5_isProduct_14 rfl ?_
  exact ⟨congrArg (fun e => some (vi e)) (bi_eq (by omega)), rfl, rfl⟩

set_option maxRecDepth 100000 in
set_option maxHeartbeats 4000000 in
theorem c_X5_ofP {z : Nat} (D : xD) (r : xR) (hr : xRM r) (p w : Nat) (h : 18 + 36 * p + w < 378) : MX 0 mX5_ofP [.ref 351, vi p, vi w] (356, z) D r (356, z) (xP (vl (pF (D 352) p w)) D r) := by
  refine MX.of (by decide +kernel) [some (.ref 351), some (vi p), some (vi w)] rfl (Nat.le_of_ble_eq_true rfl) ?_
  intro γ hX hRX
  refine v_aload_n (q := 1) hX dX5_ofP_0 rfl rfl rfl ?_
  refine w_getR (q := 4) hX fl_X5_7 rfl oX5 hr.1 dX5_ofP_1 rfl ?_
  refine v_bipush (q := 6) hX (by decide) dX5_ofP_4 rfl ?_
  refine v_bipush (q := 8) hX (by decide) dX5_ofP_6 rfl ?_
  refine v_iload_n (q := 9) hX dX5_ofP_8 rfl rfl rfl ?_
  refine v_imul (q := 10) hX dX5_ofP_9 rfl ?_
  refine v_iadd (q := 11) hX dX5_ofP_10 rfl ?_
  refine v_iload_n (q := 12) hX dX5_ofP_11 rfl rfl rfl ?_
  refine v_iadd (q := 13) hX dX5_ofP_12 rfl ?_
  refine w_lld (q := 14) (kk := 18 + 36 * p + w) hX (by push_cast; rfl) (h) aNow dX5_ofP_13 rfl ?_
  refine v_lreturn hX hRX rfl dX5_ofP_14 rfl ?_
  exact ⟨rfl, rfl, rfl⟩

set_option maxRecDepth 100000 in
set_option maxHeartbeats 4000000 in
theorem c_X5_becomes {z : Nat} (D : xD) (r : xR) (hr : xRM r) (p w : Nat) (v : Int) (h : 18 + 36 * p + w < 378) : MX 0 mX5_becomes [.ref 351, vi p, vi w, vl v] (356, z) D r (356, z) (xEn (fun D' => D' = xw D 352 (fu (D 352) (18 + 36 * p + w) v)) r) := by
  refine MX.of (by decide +kernel) [some (.ref 351), some (vi p), some (vi w), some (vl v), none] rfl (Nat.le_of_ble_eq_true rfl) ?_
  intro γ hX hRX
  refine v_aload_n (q := 1) hX dX5_becomes_0 rfl rfl rfl ?_
  refine w_getR (q := 4) hX fl_X5_7 rfl oX5 hr.1 dX5_becomes_1 rfl ?_
  refine v_bipush (q := 6) hX (by decide) dX5_becomes_4 rfl ?_
  refine v_bipush (q := 8) hX (by decide) dX5_becomes_6 rfl ?_
  refine v_iload_n (q := 9) hX dX5_becomes_8 rfl rfl rfl ?_
  refine v_imul (q := 10) hX dX5_becomes_9 rfl ?_
  refine v_iadd (q := 11) hX dX5_becomes_10 rfl ?_
  refine v_iload_n (q := 12) hX dX5_becomes_11 rfl rfl rfl ?_
  refine v_iadd (q := 13) hX dX5_becomes_12 rfl ?_
  refine v_lload_n (q := 14) hX dX5_becomes_13 rfl rfl rfl ?_
  refine w_lst (q := 15) (kk := 18 + 36 * p + w) hX (by push_cast; rfl) (h) aNow dX5_becomes_14 rfl ?_
  refine v_vreturn hX hRX rfl dX5_becomes_15 rfl ?_
  exact ⟨rfl, rfl, xu_xw D 352 _ v⟩

set_option maxRecDepth 100000 in
set_option maxHeartbeats 4000000 in
theorem c_X5_setting {z : Nat} (D : xD) (r : xR) (hr : xRM r) (w : Nat) (h : w < 9) {j : Nat} (hj : 5 + w = j) : MX 0 mX5_setting [.ref 351, vi w] (356, z) D r (356, z) (xP (vl (D 352 j)) D r) := by
  refine MX.of (by decide +kernel) [some (.ref 351), some (vi w)] rfl (Nat.le_of_ble_eq_true rfl) ?_
  intro γ hX hRX
  refine v_aload_n (q := 1) hX dX5_setting_0 rfl rfl rfl ?_
  refine w_getR (q := 4) hX fl_X5_7 rfl oX5 hr.1 dX5_setting_1 rfl ?_
  refine v_iconst (q := 5) hX dX5_setting_4 rfl ?_
  refine v_iload_n (q := 6) hX dX5_setting_5 rfl rfl rfl ?_
  refine v_iadd (q := 7) hX dX5_setting_6 rfl ?_
  refine w_lld (q := 8) (kk := j) hX (by omega) (by omega) aNow dX5_setting_7 rfl ?_
  refine v_lreturn hX hRX rfl dX5_setting_8 rfl ?_
  exact ⟨rfl, rfl, rfl⟩

set_option maxRecDepth 100000 in
set_option maxHeartbeats 4000000 in
theorem c_X5_fence {z : Nat} (D : xD) (r : xR) (hr : xRM r) : MX 1 mX5_fence [.ref 351] (356, z) D r (356, z) (xP (vi (D 352 7)) D r) := by
  refine MX.of (by decide +kernel) [some (.ref 351)] rfl (Nat.le_of_ble_eq_true rfl) ?_
  intro γ hX hRX
  refine v_aload_n (q := 1) hX dX5_fence_0 rfl rfl rfl ?_
  refine v_iconst (q := 2) hX dX5_fence_1 rfl ?_
  refine w_callV (q := 5) hX (c_X5_setting D r hr 2 (by decide) rfl) rfl kV_X5_setting rfl (by decide) lk_X5_41 (by decide) rfl oX5 (Nat.le_of_ble_eq_true rfl) dX5_fence_2 rfl ?_
  refine v_l2i (q := 6) hX dX5_fence_5 rfl ?_
  refine v_ireturn hX hRX rfl (by first | rfl | exact bi_nar _) dX5_fence_6 rfl ?_
  exact ⟨rfl, rfl, rfl⟩
end
section
/-! ===== the plain state: what its numbers are, and what is counted from them ===== -/
/-- a product's numbers are in their ranges (stock and backlog: B at most) -/
def pOk (B : Int) (N : Nat → Int) (p : Nat) : Prop := (0 ≤ pF N p 0 ∧ pF N p 0 ≤ 3) ∧ (1 ≤ pF N p 1 ∧ pF N p 1 ≤ 100) ∧ (1 ≤ pF N p 2 ∧ pF N p 2 ≤ 50) ∧ (0 ≤ pF N p 3 ∧ pF N p 3 ≤ 20) ∧ (0 ≤ pF N p 4 ∧ pF N p 4 ≤ B) ∧ (0 ≤ pF N p 5 ∧ pF N p 5 ≤ B) ∧ (0 ≤ pF N p 6 ∧ pF N p 6 ≤ 2000)
  ∧ (pF N p 7 = -6 ∨ (0 ≤ pF N p 7 ∧ pF N p 7 ≤ 2000)) ∧ (∀ k, k < 12 → 0 ≤ pF N p (12 + k) ∧ pF N p (12 + k) ≤ 1000) ∧ ∀ k, k < 12 → 0 ≤ pF N p (24 + k) ∧ pF N p (24 + k) ≤ 1000
def nOk (B : Int) (np : Nat) (N : Nat → Int) : Prop := (0 ≤ B ∧ B ≤ 2100000000) ∧ N 1 = (np : Int) ∧ np ≤ 10 ∧ ((0 ≤ N 5 ∧ N 5 ≤ 1000) ∧ (0 ≤ N 6 ∧ N 6 ≤ 500) ∧ (0 ≤ N 7 ∧ N 7 ≤ 8) ∧ (1 ≤ N 8 ∧ N 8 ≤ 6) ∧ (0 ≤ N 9 ∧ N 9 ≤ 400) ∧ (0 ≤ N 10 ∧ N 10 ≤ 1000) ∧ (0 ≤ N 11 ∧ N 11 ≤ 100) ∧ (0 ≤ N 12 ∧ N 12 ≤ 100) ∧ (0 ≤ N 13 ∧ N 13 ≤ 100))
  ∧ (∀ f, f < 4 → 0 ≤ N (14 + f) ∧ N (14 + f) ≤ 50) ∧ ∀ p, p < np → pOk B N p
theorem nOk.lots {B : Int} {np : Nat} {N : Nat → Int} (h : nOk B np N) {p k : Nat} (hp : p < np) (hk : k < 12) : 0 ≤ pF N p (24 + k) ∧ pF N p (24 + k) ≤ 1000 := (h.2.2.2.2.2 p hp).2.2.2.2.2.2.2.2.2 k hk
theorem nOk.fc {B : Int} {np : Nat} {N : Nat → Int} (h : nOk B np N) {p k : Nat} (hp : p < np) (hk : k < 12) : 0 ≤ pF N p (12 + k) ∧ pF N p (12 + k) ≤ 1000 := (h.2.2.2.2.2 p hp).2.2.2.2.2.2.2.2.1 k hk
theorem nOk.np {B : Int} {np : Nat} {N : Nat → Int} (h : nOk B np N) : N 1 = (np : Int) ∧ np ≤ 10 := ⟨h.2.1, h.2.2.1⟩
theorem bor16 : ∀ a, a < 16 → ∀ b, b < 16 → Int32.ofInt ((a : Nat) : Int) ||| Int32.ofInt ((b : Nat) : Int) = Int32.ofInt ((a ||| b : Nat) : Int) := by decide +kernel
theorem bor0 : ∀ a, a < 16 → Int32.ofInt ((a : Nat) : Int) ||| Int32.ofInt 0 = Int32.ofInt ((a : Nat) : Int) := by decide +kernel
theorem bshl4 : ∀ f, f < 4 → Int32.ofInt 1 <<< (Int32.ofInt ((f : Nat) : Int) &&& 31) = Int32.ofInt ((2 ^ f : Nat) : Int) := by decide +kernel
theorem bshr4 : ∀ m, m < 16 → ∀ f, f < 4 → Int32.ofInt ((m : Nat) : Int) >>> (Int32.ofInt ((f : Nat) : Int) &&& 31) = Int32.ofInt ((m >>> f : Nat) : Int) := by decide +kernel
theorem band1 : ∀ m, m < 16 → Int32.ofInt ((m : Nat) : Int) &&& Int32.ofInt 1 = Int32.ofInt ((m % 2 : Nat) : Int) := by decide +kernel
theorem or_lt16 {a b : Nat} (ha : a < 16) (hb : b < 16) : a ||| b < 16 := Nat.or_lt_two_pow (n := 4) ha hb
theorem p2_lt16 : ∀ f, f < 4 → 2 ^ f < 16 := by decide
/-- the families of the first k products with lots in a week -/
def nMask (N : Nat → Int) (w : Nat) : Nat → Nat
  | 0 => 0
  | k + 1 => if 0 < pF N k (24 + w) then nMask N w k ||| 2 ^ (pF N k 0).toNat else nMask N w k
theorem nOk.fam {B : Int} {np : Nat} {N : Nat → Int} (h : nOk B np N) {p : Nat} (hp : p < np) : ∃ f : Nat, pF N p 0 = (f : Int) ∧ f < 4 ∧ (pF N p 0).toNat = f := by
  have h1 := (h.2.2.2.2.2 p hp).1
  exact ⟨(pF N p 0).toNat, by omega, by omega, rfl⟩
theorem nMask_lt {B : Int} {np : Nat} {N : Nat → Int} (h : nOk B np N) (w : Nat) : ∀ k, k ≤ np → nMask N w k < 16 := by
  intro k
  induction k with
  | zero => intro _; show (0 : Nat) < 16; decide
  | succ k ih =>
    intro hk
    have h1 := ih (by omega)
    obtain ⟨f, -, h2, h3⟩ := h.fam (p := k) (by omega)
    unfold nMask
    split
    · rw [h3]; exact or_lt16 h1 (p2_lt16 f h2)
    · exact h1
/-- the hours of the first k products in a week -/
def nHrs (N : Nat → Int) (w : Nat) : Nat → Int
  | 0 => 0
  | k + 1 => nHrs N w k + (if 0 < pF N k (24 + w) then pF N k 3 + pF N k (24 + w) * pF N k 2 else 0)
/-- the hours of the first k families of a set -/
def nFh (N : Nat → Int) (m : Nat) : Nat → Int
  | 0 => 0
  | f + 1 => nFh N m f + (if m >>> f % 2 = 1 then N (14 + f) else 0)
def nHours (N : Nat → Int) (np w : Nat) : Int := nHrs N w np + nFh N (nMask N w np) 4
def nMade (N : Nat → Int) (w : Nat) : Nat → Int
  | 0 => 0
  | k + 1 => nMade N w k + (if 0 < pF N k (24 + w) then 1 else 0)
def nBits (m : Nat) : Nat → Nat
  | 0 => 0
  | f + 1 => nBits m f + m >>> f % 2
def nSetups (N : Nat → Int) (np w : Nat) : Int := nMade N w np + ((nBits (nMask N w np) 4 : Nat) : Int)
theorem nHrs_le {B : Int} {np : Nat} {N : Nat → Int} (h : nOk B np N) {w : Nat} (hw : w < 12) : ∀ k, k ≤ np → 0 ≤ nHrs N w k ∧ nHrs N w k ≤ 50020 * k := by
  intro k
  induction k with
  | zero => intro _; unfold nHrs; omega
  | succ k ih =>
    intro hk
    have h1 := ih (by omega)
    obtain ⟨-, -, h2, h3, -⟩ := h.2.2.2.2.2 k (by omega)
    have h4 := h.lots (p := k) (by omega) hw
    have h5 : 0 ≤ pF N k (24 + w) * pF N k 2 := Int.mul_nonneg h4.1 (by omega)
    have h6 : pF N k (24 + w) * pF N k 2 ≤ 1000 * 50 := Int.mul_le_mul h4.2 h2.2 (by omega) (by omega)
    unfold nHrs
    split <;> omega
theorem nFh_le {B : Int} {np : Nat} {N : Nat → Int} (h : nOk B np N) (m : Nat) : ∀ f, f ≤ 4 → 0 ≤ nFh N m f ∧ nFh N m f ≤ 50 * f := by
  intro f
  induction f with
  | zero => intro _; unfold nFh; omega
  | succ f ih =>
    intro hf
    have h1 := ih (by omega)
    have h2 := h.2.2.2.2.1 f (by omega)
    unfold nFh
    split <;> omega
theorem nHours_le {B : Int} {np : Nat} {N : Nat → Int} (h : nOk B np N) {w : Nat} (hw : w < 12) : 0 ≤ nHours N np w ∧ nHours N np w ≤ 500400 := by
  have h1 := nHrs_le h hw np (Nat.le_refl _)
  have h2 := nFh_le h (nMask N w np) 4 (Nat.le_refl _)
  have h3 := h.np.2
  unfold nHours
  omega
theorem nBits_le (m : Nat) : ∀ k, nBits m k ≤ k := by
  intro k
  induction k with
  | zero => exact Nat.le_refl _
  | succ k ih => unfold nBits; omega
set_option maxRecDepth 100000 in
set_option maxHeartbeats 4000000 in
theorem c_X5_isMade {z : Nat} (D : xD) (r : xR) (hr : xRM r) {B : Int} {np : Nat} (hO : nOk B np (D 352)) (p w : Nat) (hp : p < np) (hw : w < 12) : MX 1 mX5_isMade [.ref 351, vi p, vi w] (356, z) D r (356, z) (xP (vi (bi (0 < pF (D 352) p (24 + w)))) D r) := by
  refine MX.of (by decide +kernel) [some (.ref 351), some (vi p), some (vi w)] rfl (Nat.le_of_ble_eq_true rfl) ?_
  intro γ hX hRX
  have hl := hO.lots hp hw
  have hn := hO.np
  refine v_aload_n (q := 1) hX dX5_isMade_0 rfl rfl rfl ?_
  refine v_iload_n (q := 2) hX dX5_isMade_1 rfl rfl rfl ?_
  refine v_bipush (q := 4) hX (by decide) dX5_isMade_2 rfl ?_
  refine v_iload_n (q := 5) hX dX5_isMade_4 rfl rfl rfl ?_
  refine v_iadd (q := 6) hX dX5_isMade_5 rfl ?_
  refine w_callV (q := 9) hX (c_X5_ofP _ _ hr (p) ((24 + w)) (by omega)) rfl kV_X5_ofP rfl (by decide) lk_X5_78 (by decide) rfl oX5 (Nat.le_of_ble_eq_true rfl) dX5_isMade_6 rfl ?_
  refine v_lconst (q := 10) (e := 0) hX (by decide) dX5_isMade_9 rfl ?_
  refine v_lcmp_le (q := 14) (tgt := 18) hX ⟨by omega, by omega⟩ ⟨by omega, by omega⟩ dX5_isMade_10 dX5_isMade_11 (by decide) rfl (fun h10 => ?_) (fun h10 => ?_)
  · refine v_iconst (q := 19) hX dX5_isMade_18 rfl ?_
    refine v_ireturn hX hRX rfl (by first | rfl | exact bi_nar _) dX5_isMade_19 rfl ?_
    exact ⟨by first | rw [bi, if_pos (by omega)] | rw [bi, if_neg (by omega)], rfl, rfl⟩
  · refine v_iconst (q := 15) hX dX5_isMade_14 rfl ?_
    refine v_goto (tgt := 19) hX dX5_isMade_15 (by decide) ?_
    refine v_ireturn hX hRX rfl (by first | rfl | exact bi_nar _) dX5_isMade_19 rfl ?_
    exact ⟨by first | rw [bi, if_pos (by omega)] | rw [bi, if_neg (by omega)], rfl, rfl⟩

set_option maxRecDepth 100000 in
set_option maxHeartbeats 4000000 in
theorem c_X5_familiesIn {z : Nat} (D : xD) (r : xR) (hr : xRM r) {B : Int} {np : Nat} (hO : nOk B np (D 352)) (w : Nat) (hw : w < 12) : MX 2 mX5_familiesIn [.ref 351, vi w] (356, z) D r (356, z) (xP (vi (nMask (D 352) w np : Nat)) D r) := by
  refine MX.of (by decide +kernel) [some (.ref 351), some (vi w), none, none] rfl (Nat.le_of_ble_eq_true rfl) ?_
  intro γ hX hRX
  have L : ∀ k, k ≤ np → xV γ 4 [some (.ref 351), some (vi w), some (vi (nMask (D 352) w k : Nat)), some (vi (k : Nat))] [] (356, z) D r := by
    refine xup np (fun k hk ih => ?_)
    have hn := hO.np
    refine v_iload_n (q := 5) hX dX5_familiesIn_4 rfl rfl rfl ?_
    refine v_i2l (q := 6) hX ⟨by omega, by omega⟩ dX5_familiesIn_5 rfl ?_
    refine v_aload_n (q := 7) hX dX5_familiesIn_6 rfl rfl rfl ?_
    refine w_getR (q := 10) hX fl_X5_7 rfl oX5 hr.1 dX5_familiesIn_7 rfl ?_
    refine v_iconst (q := 11) hX dX5_familiesIn_10 rfl ?_
    refine w_lld (q := 12) (kk := 1) hX (by omega) (by omega) aNow dX5_familiesIn_11 rfl ?_
    refine v_lcmp_ge (q := 16) (tgt := 47) hX ⟨by omega, by omega⟩ ⟨by omega, by omega⟩ dX5_familiesIn_12 dX5_familiesIn_13 (by decide) rfl (fun h12 => ?_) (fun h12 => ?_)
    · refine v_iload_n (q := 48) hX dX5_familiesIn_47 rfl rfl rfl ?_
      refine v_ireturn hX hRX rfl (by first | rfl | exact bi_nar _) dX5_familiesIn_48 rfl ?_
      exact ⟨by rw [show k = np by omega], rfl, rfl⟩
    · refine v_iload_n (q := 17) hX dX5_familiesIn_16 rfl rfl rfl ?_
      refine v_aload_n (q := 18) hX dX5_familiesIn_17 rfl rfl rfl ?_
      refine v_iload_n (q := 19) hX dX5_familiesIn_18 rfl rfl rfl ?_
      refine v_iload_n (q := 20) hX dX5_familiesIn_19 rfl rfl rfl ?_
      refine w_callV (q := 23) hX (c_X5_isMade _ _ hr hO (k) (w) (by omega) (by omega)) rfl kV_X5_isMade rfl (by decide) lk_X5_82 (by decide) rfl oX5 (Nat.le_of_ble_eq_true rfl) dX5_familiesIn_20 rfl ?_
      refine w_ifeq (q := 26) (tgt := 38) hX dX5_familiesIn_23 (by decide) rfl (fun h23 => ?_) (fun h23 => ?_)
      · refine v_iconst (q := 39) hX dX5_familiesIn_38 rfl ?_
        refine v_ior (q := 40) hX (_) (by first | exact bor16 _ (nMask_lt hO w k (by omega)) _ (p2_lt16 f hf2) | exact bor0 _ (nMask_lt hO w k (by omega))) dX5_familiesIn_39 rfl ?_
        refine v_istore_n (q := 41) hX dX5_familiesIn_40 rfl (Nat.le_of_ble_eq_true rfl) (Nat.le_of_ble_eq_true rfl) rfl ?_
        dsimp only [xs1, xs2, xclr]
        refine v_iinc (q := 44) hX dX5_familiesIn_41 rfl (Nat.le_of_ble_eq_true rfl) (Nat.le_of_ble_eq_true rfl) rfl ?_
        dsimp only [xs1, xs2, xclr]
        refine v_goto (tgt := 4) hX dX5_familiesIn_44 (by decide) ?_
        have e1 := ih (by omega)
        simp only [nMask, h23, if_true, if_false] at e1
        first | (rw [hf3] at e1; exact e1) | exact e1
      · obtain ⟨f, hf1, hf2, hf3⟩ := hO.fam (p := k) (by omega)
        refine v_iconst (q := 27) hX dX5_familiesIn_26 rfl ?_
        refine v_aload_n (q := 28) hX dX5_familiesIn_27 rfl rfl rfl ?_
        refine v_iload_n (q := 29) hX dX5_familiesIn_28 rfl rfl rfl ?_
        refine v_iconst (q := 30) hX dX5_familiesIn_29 rfl ?_
        refine w_callV (q := 33) hX (c_X5_ofP _ _ hr (k) (0) (by omega)) rfl kV_X5_ofP rfl (by decide) lk_X5_78 (by decide) rfl oX5 (Nat.le_of_ble_eq_true rfl) dX5_familiesIn_30 rfl ?_
        refine v_l2i (q := 34) hX dX5_familiesIn_33 rfl ?_
        rw [hf1]
        refine v_ishl (q := 35) hX (((2 ^ f : Nat) : Int)) (bshl4 f hf2) dX5_familiesIn_34 rfl ?_
        refine v_goto (tgt := 39) hX dX5_familiesIn_35 (by decide) ?_
        refine v_ior (q := 40) hX (_) (by first | exact bor16 _ (nMask_lt hO w k (by omega)) _ (p2_lt16 f hf2) | exact bor0 _ (nMask_lt hO w k (by omega))) dX5_familiesIn_39 rfl ?_
        refine v_istore_n (q := 41) hX dX5_familiesIn_40 rfl (Nat.le_of_ble_eq_true rfl) (Nat.le_of_ble_eq_true rfl) rfl ?_
        dsimp only [xs1, xs2, xclr]
        refine v_iinc (q := 44) hX dX5_familiesIn_41 rfl (Nat.le_of_ble_eq_true rfl) (Nat.le_of_ble_eq_true rfl) rfl ?_
        dsimp only [xs1, xs2, xclr]
        refine v_goto (tgt := 4) hX dX5_familiesIn_44 (by decide) ?_
        have e1 := ih (by omega)
        simp only [nMask, h23, if_true, if_false] at e1
        first | (rw [hf3] at e1; exact e1) | exact e1
  refine v_iconst (q := 1) hX dX5_familiesIn_0 rfl ?_
  refine v_istore_n (q := 2) hX dX5_familiesIn_1 rfl (Nat.le_of_ble_eq_true rfl) (Nat.le_of_ble_eq_true rfl) rfl ?_
  dsimp only [xs1, xs2, xclr]
  refine v_iconst (q := 3) hX dX5_familiesIn_2 rfl ?_
  refine v_istore_n (q := 4) hX dX5_familiesIn_3 rfl (Nat.le_of_ble_eq_true rfl) (Nat.le_of_ble_eq_true rfl) rfl ?_
  dsimp only [xs1, xs2, xclr]
  exact L 0 (Nat.zero_le _)
end
section
set_option maxRecDepth 100000 in
set_option maxHeartbeats 4000000 in
theorem c_X5_hoursOf {z : Nat} (D : xD) (r : xR) (hr : xRM r) {B : Int} {np : Nat} (hO : nOk B np (D 352)) (w : Nat) (hw : w < 12) : MX 3 mX5_hoursOf [.ref 351, vi w] (356, z) D r (356, z) (xP (vl (nHours (D 352) np w)) D r) := by
  refine MX.of (by decide +kernel) [some (.ref 351), some (vi w), none, none, none, none] rfl (Nat.le_of_ble_eq_true rfl) ?_
  intro γ hX hRX
  have hn := hO.np
  have hm := nMask_lt hO w np (Nat.le_refl _)
  have F : ∀ f, f ≤ 4 → xV γ 77 [some (.ref 351), some (vi w), some (vl (nHrs (D 352) w np + nFh (D 352) (nMask (D 352) w np) f)), none, some (vi (nMask (D 352) w np : Nat)), some (vi (f : Nat))] [] (356, z) D r := by
    refine xup 4 (fun f hf ih => ?_)
    refine v_iload (q := 79) hX dX5_hoursOf_77 rfl rfl ?_
    refine v_iconst (q := 80) hX dX5_hoursOf_79 rfl ?_
    refine v_icmp_ge (q := 83) (tgt := 117) hX ⟨by omega, by omega⟩ (by decide) dX5_hoursOf_80 (by decide) rfl (fun h80 => ?_) (fun h80 => ?_)
    · refine v_lload_n (q := 118) hX dX5_hoursOf_117 rfl rfl rfl ?_
      refine v_lreturn hX hRX rfl dX5_hoursOf_118 rfl ?_
      rw [show f = 4 by omega]
      exact ⟨rfl, rfl, rfl⟩
    · refine v_lload_n (q := 84) hX dX5_hoursOf_83 rfl rfl rfl ?_
      refine v_iload (q := 86) hX dX5_hoursOf_84 rfl rfl ?_
      refine v_iload (q := 88) hX dX5_hoursOf_86 rfl rfl ?_
      refine v_ishr (q := 89) hX (_) (bshr4 _ hm _ (by omega)) dX5_hoursOf_88 rfl ?_
      refine v_iconst (q := 90) hX dX5_hoursOf_89 rfl ?_
      refine v_iand (q := 91) hX (_) (band1 _ (Nat.lt_of_le_of_lt (Nat.shiftRight_le _ _) hm)) dX5_hoursOf_90 rfl ?_
      refine v_iconst (q := 92) hX dX5_hoursOf_91 rfl ?_
      refine v_icmp_ne (q := 95) (tgt := 108) hX ⟨by omega, by omega⟩ (by decide) dX5_hoursOf_92 (by decide) rfl (fun h92 => ?_) (fun h92 => ?_)
      · refine v_lconst (q := 109) (e := 0) hX (by decide) dX5_hoursOf_108 rfl ?_
        refine v_ladd (q := 110) hX dX5_hoursOf_109 rfl ?_
        refine v_lstore_n (q := 111) hX dX5_hoursOf_110 rfl (Nat.le_of_ble_eq_true rfl) (Nat.le_of_ble_eq_true rfl) rfl ?_
        dsimp only [xs1, xs2, xclr]
        refine v_iinc (q := 114) hX dX5_hoursOf_111 rfl (Nat.le_of_ble_eq_true rfl) (Nat.le_of_ble_eq_true rfl) rfl ?_
        dsimp only [xs1, xs2, xclr]
        refine v_goto (tgt := 77) hX dX5_hoursOf_114 (by decide) ?_
        have e1 := ih (by omega)
        simp only [nFh] at e1
        first | rw [if_pos (by omega)] at e1 | rw [if_neg (by omega)] at e1
        rw [← Int.add_assoc] at e1
        exact e1
      · refine v_aload_n (q := 96) hX dX5_hoursOf_95 rfl rfl rfl ?_
        refine w_getR (q := 99) hX fl_X5_7 rfl oX5 hr.1 dX5_hoursOf_96 rfl ?_
        refine v_bipush (q := 101) hX (by decide) dX5_hoursOf_99 rfl ?_
        refine v_iload (q := 103) hX dX5_hoursOf_101 rfl rfl ?_
        refine v_iadd (q := 104) hX dX5_hoursOf_103 rfl ?_
        refine w_lld (q := 105) (kk := (14 + f)) hX (by omega) (by omega) aNow dX5_hoursOf_104 rfl ?_
        refine v_goto (tgt := 109) hX dX5_hoursOf_105 (by decide) ?_
        refine v_ladd (q := 110) hX dX5_hoursOf_109 rfl ?_
        refine v_lstore_n (q := 111) hX dX5_hoursOf_110 rfl (Nat.le_of_ble_eq_true rfl) (Nat.le_of_ble_eq_true rfl) rfl ?_
        dsimp only [xs1, xs2, xclr]
        refine v_iinc (q := 114) hX dX5_hoursOf_111 rfl (Nat.le_of_ble_eq_true rfl) (Nat.le_of_ble_eq_true rfl) rfl ?_
        dsimp only [xs1, xs2, xclr]
        refine v_goto (tgt := 77) hX dX5_hoursOf_114 (by decide) ?_
        have e1 := ih (by omega)
        simp only [nFh] at e1
        first | rw [if_pos (by omega)] at e1 | rw [if_neg (by omega)] at e1
        rw [← Int.add_assoc] at e1
        exact e1
  have K : xV γ 67 [some (.ref 351), some (vi w), some (vl (nHrs (D 352) w np)), none, some (vi (np : Nat)), none] [] (356, z) D r := by
    refine v_aload_n (q := 68) hX dX5_hoursOf_67 rfl rfl rfl ?_
    refine v_iload_n (q := 69) hX dX5_hoursOf_68 rfl rfl rfl ?_
    refine w_callV (q := 72) hX (c_X5_familiesIn _ _ hr hO (w) (by omega)) rfl kV_X5_familiesIn rfl (by decide) lk_X5_86 (by decide) rfl oX5 (Nat.le_of_ble_eq_true rfl) dX5_hoursOf_69 rfl ?_
    refine v_istore (q := 74) hX dX5_hoursOf_72 (Nat.le_of_ble_eq_true rfl) (Nat.le_of_ble_eq_true rfl) rfl ?_
    dsimp only [xs1, xs2, xclr]
    refine v_iconst (q := 75) hX dX5_hoursOf_74 rfl ?_
    refine v_istore (q := 77) hX dX5_hoursOf_75 (Nat.le_of_ble_eq_true rfl) (Nat.le_of_ble_eq_true rfl) rfl ?_
    dsimp only [xs1, xs2, xclr]
    have e1 := F 0 (Nat.zero_le _)
    simp only [nFh, Int.add_zero] at e1
    exact e1
  have L : ∀ k, k ≤ np → xV γ 5 [some (.ref 351), some (vi w), some (vl (nHrs (D 352) w k)), none, some (vi (k : Nat)), none] [] (356, z) D r := by
    refine xup np (fun k hk ih => ?_)
    have hn := hO.np
    refine v_iload (q := 7) hX dX5_hoursOf_5 rfl rfl ?_
    refine v_i2l (q := 8) hX ⟨by omega, by omega⟩ dX5_hoursOf_7 rfl ?_
    refine v_aload_n (q := 9) hX dX5_hoursOf_8 rfl rfl rfl ?_
    refine w_getR (q := 12) hX fl_X5_7 rfl oX5 hr.1 dX5_hoursOf_9 rfl ?_
    refine v_iconst (q := 13) hX dX5_hoursOf_12 rfl ?_
    refine w_lld (q := 14) (kk := 1) hX (by omega) (by omega) aNow dX5_hoursOf_13 rfl ?_
    refine v_lcmp_ge (q := 18) (tgt := 67) hX ⟨by omega, by omega⟩ ⟨by omega, by omega⟩ dX5_hoursOf_14 dX5_hoursOf_15 (by decide) rfl (fun h14 => ?_) (fun h14 => ?_)
    · rw [show k = np by omega]
      exact K
    · refine v_lload_n (q := 19) hX dX5_hoursOf_18 rfl rfl rfl ?_
      refine v_aload_n (q := 20) hX dX5_hoursOf_19 rfl rfl rfl ?_
      refine v_iload (q := 22) hX dX5_hoursOf_20 rfl rfl ?_
      refine v_iload_n (q := 23) hX dX5_hoursOf_22 rfl rfl rfl ?_
      refine w_callV (q := 26) hX (c_X5_isMade _ _ hr hO (k) (w) (by omega) (by omega)) rfl kV_X5_isMade rfl (by decide) lk_X5_82 (by decide) rfl oX5 (Nat.le_of_ble_eq_true rfl) dX5_hoursOf_23 rfl ?_
      refine w_ifeq (q := 29) (tgt := 58) hX dX5_hoursOf_26 (by decide) rfl (fun h26 => ?_) (fun h26 => ?_)
      · refine v_lconst (q := 59) (e := 0) hX (by decide) dX5_hoursOf_58 rfl ?_
        refine v_ladd (q := 60) hX dX5_hoursOf_59 rfl ?_
        refine v_lstore_n (q := 61) hX dX5_hoursOf_60 rfl (Nat.le_of_ble_eq_true rfl) (Nat.le_of_ble_eq_true rfl) rfl ?_
        dsimp only [xs1, xs2, xclr]
        refine v_iinc (q := 64) hX dX5_hoursOf_61 rfl (Nat.le_of_ble_eq_true rfl) (Nat.le_of_ble_eq_true rfl) rfl ?_
        dsimp only [xs1, xs2, xclr]
        refine v_goto (tgt := 5) hX dX5_hoursOf_64 (by decide) ?_
        have e1 := ih (by omega)
        simp only [nHrs, h26, if_true, if_false] at e1
        exact e1
      · refine v_aload_n (q := 30) hX dX5_hoursOf_29 rfl rfl rfl ?_
        refine v_iload (q := 32) hX dX5_hoursOf_30 rfl rfl ?_
        refine v_iconst (q := 33) hX dX5_hoursOf_32 rfl ?_
        refine w_callV (q := 36) hX (c_X5_ofP _ _ hr (k) (3) (by omega)) rfl kV_X5_ofP rfl (by decide) lk_X5_78 (by decide) rfl oX5 (Nat.le_of_ble_eq_true rfl) dX5_hoursOf_33 rfl ?_
        refine v_aload_n (q := 37) hX dX5_hoursOf_36 rfl rfl rfl ?_
        refine v_iload (q := 39) hX dX5_hoursOf_37 rfl rfl ?_
        refine v_bipush (q := 41) hX (by decide) dX5_hoursOf_39 rfl ?_
        refine v_iload_n (q := 42) hX dX5_hoursOf_41 rfl rfl rfl ?_
        refine v_iadd (q := 43) hX dX5_hoursOf_42 rfl ?_
        refine w_callV (q := 46) hX (c_X5_ofP _ _ hr (k) ((24 + w)) (by omega)) rfl kV_X5_ofP rfl (by decide) lk_X5_78 (by decide) rfl oX5 (Nat.le_of_ble_eq_true rfl) dX5_hoursOf_43 rfl ?_
        refine v_aload_n (q := 47) hX dX5_hoursOf_46 rfl rfl rfl ?_
        refine v_iload (q := 49) hX dX5_hoursOf_47 rfl rfl ?_
        refine v_iconst (q := 50) hX dX5_hoursOf_49 rfl ?_
        refine w_callV (q := 53) hX (c_X5_ofP _ _ hr (k) (2) (by omega)) rfl kV_X5_ofP rfl (by decide) lk_X5_78 (by decide) rfl oX5 (Nat.le_of_ble_eq_true rfl) dX5_hoursOf_50 rfl ?_
        refine v_lmul (q := 54) hX dX5_hoursOf_53 rfl ?_
        refine v_ladd (q := 55) hX dX5_hoursOf_54 rfl ?_
        refine v_goto (tgt := 59) hX dX5_hoursOf_55 (by decide) ?_
        refine v_ladd (q := 60) hX dX5_hoursOf_59 rfl ?_
        refine v_lstore_n (q := 61) hX dX5_hoursOf_60 rfl (Nat.le_of_ble_eq_true rfl) (Nat.le_of_ble_eq_true rfl) rfl ?_
        dsimp only [xs1, xs2, xclr]
        refine v_iinc (q := 64) hX dX5_hoursOf_61 rfl (Nat.le_of_ble_eq_true rfl) (Nat.le_of_ble_eq_true rfl) rfl ?_
        dsimp only [xs1, xs2, xclr]
        refine v_goto (tgt := 5) hX dX5_hoursOf_64 (by decide) ?_
        have e1 := ih (by omega)
        simp only [nHrs, h26, if_true, if_false] at e1
        exact e1
  refine v_lconst (q := 1) (e := 0) hX (by decide) dX5_hoursOf_0 rfl ?_
  refine v_lstore_n (q := 2) hX dX5_hoursOf_1 rfl (Nat.le_of_ble_eq_true rfl) (Nat.le_of_ble_eq_true rfl) rfl ?_
  dsimp only [xs1, xs2, xclr]
  refine v_iconst (q := 3) hX dX5_hoursOf_2 rfl ?_
  refine v_istore (q := 5) hX dX5_hoursOf_3 (Nat.le_of_ble_eq_true rfl) (Nat.le_of_ble_eq_true rfl) rfl ?_
  dsimp only [xs1, xs2, xclr]
  exact L 0 (Nat.zero_le _)

set_option maxRecDepth 100000 in
set_option maxHeartbeats 4000000 in
theorem c_X5_setupsOf {z : Nat} (D : xD) (r : xR) (hr : xRM r) {B : Int} {np : Nat} (hO : nOk B np (D 352)) (w : Nat) (hw : w < 12) : MX 3 mX5_setupsOf [.ref 351, vi w] (356, z) D r (356, z) (xP (vi (nSetups (D 352) np w)) D r) := by
  refine MX.of (by decide +kernel) [some (.ref 351), some (vi w), none, none, none] rfl (Nat.le_of_ble_eq_true rfl) ?_
  intro γ hX hRX
  have hn := hO.np
  have hm := nMask_lt hO w np (Nat.le_refl _)
  have F : ∀ f, f ≤ 4 → xV γ 48 [some (.ref 351), some (vi w), some (vi (nMade (D 352) w np + ((nBits (nMask (D 352) w np) f : Nat) : Int))), some (vi (nMask (D 352) w np : Nat)), some (vi (f : Nat))] [] (356, z) D r := by
    refine xup 4 (fun f hf ih => ?_)
    refine v_iload (q := 50) hX dX5_setupsOf_48 rfl rfl ?_
    refine v_iconst (q := 51) hX dX5_setupsOf_50 rfl ?_
    refine v_icmp_ge (q := 54) (tgt := 69) hX ⟨by omega, by omega⟩ (by decide) dX5_setupsOf_51 (by decide) rfl (fun h51 => ?_) (fun h51 => ?_)
    · refine v_iload_n (q := 70) hX dX5_setupsOf_69 rfl rfl rfl ?_
      refine v_ireturn hX hRX rfl (by first | rfl | exact bi_nar _) dX5_setupsOf_70 rfl ?_
      rw [show f = 4 by omega]
      exact ⟨rfl, rfl, rfl⟩
    · refine v_iload_n (q := 55) hX dX5_setupsOf_54 rfl rfl rfl ?_
      refine v_iload_n (q := 56) hX dX5_setupsOf_55 rfl rfl rfl ?_
      refine v_iload (q := 58) hX dX5_setupsOf_56 rfl rfl ?_
      refine v_ishr (q := 59) hX (_) (bshr4 _ hm _ (by omega)) dX5_setupsOf_58 rfl ?_
      refine v_iconst (q := 60) hX dX5_setupsOf_59 rfl ?_
      refine v_iand (q := 61) hX (_) (band1 _ (Nat.lt_of_le_of_lt (Nat.shiftRight_le _ _) hm)) dX5_setupsOf_60 rfl ?_
      refine v_iadd (q := 62) hX dX5_setupsOf_61 rfl ?_
      refine v_istore_n (q := 63) hX dX5_setupsOf_62 rfl (Nat.le_of_ble_eq_true rfl) (Nat.le_of_ble_eq_true rfl) rfl ?_
      dsimp only [xs1, xs2, xclr]
      refine v_iinc (q := 66) hX dX5_setupsOf_63 rfl (Nat.le_of_ble_eq_true rfl) (Nat.le_of_ble_eq_true rfl) rfl ?_
      dsimp only [xs1, xs2, xclr]
      refine v_goto (tgt := 48) hX dX5_setupsOf_66 (by decide) ?_
      have e1 := ih (by omega)
      simp only [nBits, Int.natCast_add] at e1
      rw [← Int.add_assoc] at e1
      exact e1
  have K : xV γ 39 [some (.ref 351), some (vi w), some (vi (nMade (D 352) w np)), some (vi (np : Nat)), none] [] (356, z) D r := by
    refine v_aload_n (q := 40) hX dX5_setupsOf_39 rfl rfl rfl ?_
    refine v_iload_n (q := 41) hX dX5_setupsOf_40 rfl rfl rfl ?_
    refine w_callV (q := 44) hX (c_X5_familiesIn _ _ hr hO (w) (by omega)) rfl kV_X5_familiesIn rfl (by decide) lk_X5_86 (by decide) rfl oX5 (Nat.le_of_ble_eq_true rfl) dX5_setupsOf_41 rfl ?_
    refine v_istore_n (q := 45) hX dX5_setupsOf_44 rfl (Nat.le_of_ble_eq_true rfl) (Nat.le_of_ble_eq_true rfl) rfl ?_
    dsimp only [xs1, xs2, xclr]
    refine v_iconst (q := 46) hX dX5_setupsOf_45 rfl ?_
    refine v_istore (q := 48) hX dX5_setupsOf_46 (Nat.le_of_ble_eq_true rfl) (Nat.le_of_ble_eq_true rfl) rfl ?_
    dsimp only [xs1, xs2, xclr]
    have e1 := F 0 (Nat.zero_le _)
    simp only [nBits, Int.natCast_zero, Int.add_zero] at e1
    exact e1
  have L : ∀ k, k ≤ np → xV γ 4 [some (.ref 351), some (vi w), some (vi (nMade (D 352) w k)), some (vi (k : Nat)), none] [] (356, z) D r := by
    refine xup np (fun k hk ih => ?_)
    have hn := hO.np
    refine v_iload_n (q := 5) hX dX5_setupsOf_4 rfl rfl rfl ?_
    refine v_i2l (q := 6) hX ⟨by omega, by omega⟩ dX5_setupsOf_5 rfl ?_
    refine v_aload_n (q := 7) hX dX5_setupsOf_6 rfl rfl rfl ?_
    refine w_getR (q := 10) hX fl_X5_7 rfl oX5 hr.1 dX5_setupsOf_7 rfl ?_
    refine v_iconst (q := 11) hX dX5_setupsOf_10 rfl ?_
    refine w_lld (q := 12) (kk := 1) hX (by omega) (by omega) aNow dX5_setupsOf_11 rfl ?_
    refine v_lcmp_ge (q := 16) (tgt := 39) hX ⟨by omega, by omega⟩ ⟨by omega, by omega⟩ dX5_setupsOf_12 dX5_setupsOf_13 (by decide) rfl (fun h12 => ?_) (fun h12 => ?_)
    · rw [show k = np by omega]
      exact K
    · refine v_iload_n (q := 17) hX dX5_setupsOf_16 rfl rfl rfl ?_
      refine v_aload_n (q := 18) hX dX5_setupsOf_17 rfl rfl rfl ?_
      refine v_iload_n (q := 19) hX dX5_setupsOf_18 rfl rfl rfl ?_
      refine v_iload_n (q := 20) hX dX5_setupsOf_19 rfl rfl rfl ?_
      refine w_callV (q := 23) hX (c_X5_isMade _ _ hr hO (k) (w) (by omega) (by omega)) rfl kV_X5_isMade rfl (by decide) lk_X5_82 (by decide) rfl oX5 (Nat.le_of_ble_eq_true rfl) dX5_setupsOf_20 rfl ?_
      refine w_ifeq (q := 26) (tgt := 30) hX dX5_setupsOf_23 (by decide) rfl (fun h23 => ?_) (fun h23 => ?_)
      · refine v_iconst (q := 31) hX dX5_setupsOf_30 rfl ?_
        refine v_iadd (q := 32) hX dX5_setupsOf_31 rfl ?_
        refine v_istore_n (q := 33) hX dX5_setupsOf_32 rfl (Nat.le_of_ble_eq_true rfl) (Nat.le_of_ble_eq_true rfl) rfl ?_
        dsimp only [xs1, xs2, xclr]
        refine v_iinc (q := 36) hX dX5_setupsOf_33 rfl (Nat.le_of_ble_eq_true rfl) (Nat.le_of_ble_eq_true rfl) rfl ?_
        dsimp only [xs1, xs2, xclr]
        refine v_goto (tgt := 4) hX dX5_setupsOf_36 (by decide) ?_
        have e1 := ih (by omega)
        simp only [nMade, h23, if_true, if_false] at e1
        exact e1
      · refine v_iconst (q := 27) hX dX5_setupsOf_26 rfl ?_
        refine v_goto (tgt := 31) hX dX5_setupsOf_27 (by decide) ?_
        refine v_iadd (q := 32) hX dX5_setupsOf_31 rfl ?_
        refine v_istore_n (q := 33) hX dX5_setupsOf_32 rfl (Nat.le_of_ble_eq_true rfl) (Nat.le_of_ble_eq_true rfl) rfl ?_
        dsimp only [xs1, xs2, xclr]
        refine v_iinc (q := 36) hX dX5_setupsOf_33 rfl (Nat.le_of_ble_eq_true rfl) (Nat.le_of_ble_eq_true rfl) rfl ?_
        dsimp only [xs1, xs2, xclr]
        refine v_goto (tgt := 4) hX dX5_setupsOf_36 (by decide) ?_
        have e1 := ih (by omega)
        simp only [nMade, h23, if_true, if_false] at e1
        exact e1
  refine v_iconst (q := 1) hX dX5_setupsOf_0 rfl ?_
  refine v_istore_n (q := 2) hX dX5_setupsOf_1 rfl (Nat.le_of_ble_eq_true rfl) (Nat.le_of_ble_eq_true rfl) rfl ?_
  dsimp only [xs1, xs2, xclr]
  refine v_iconst (q := 3) hX dX5_setupsOf_2 rfl ?_
  refine v_istore_n (q := 4) hX dX5_setupsOf_3 rfl (Nat.le_of_ble_eq_true rfl) (Nat.le_of_ble_eq_true rfl) rfl ?_
  dsimp only [xs1, xs2, xclr]
  exact L 0 (Nat.zero_le _)

def nOver (N : Nat → Int) (np w : Nat) : Int := if 0 < nHours N np w - N 5 then nHours N np w - N 5 else 0
set_option maxRecDepth 100000 in
set_option maxHeartbeats 4000000 in
theorem c_X5_overtimeOf {z : Nat} (D : xD) (r : xR) (hr : xRM r) {B : Int} {np : Nat} (hO : nOk B np (D 352)) (w : Nat) (hw : w < 12) : MX 4 mX5_overtimeOf [.ref 351, vi w] (356, z) D r (356, z) (xP (vl (nOver (D 352) np w)) D r) := by
  refine MX.of (by decide +kernel) [some (.ref 351), some (vi w), none, none] rfl (Nat.le_of_ble_eq_true rfl) ?_
  intro γ hX hRX
  have hh := nHours_le hO hw
  have hs := hO.2.2.2.1
  refine v_aload_n (q := 1) hX dX5_overtimeOf_0 rfl rfl rfl ?_
  refine v_iload_n (q := 2) hX dX5_overtimeOf_1 rfl rfl rfl ?_
  refine w_callV (q := 5) hX (c_X5_hoursOf _ _ hr hO (w) (by omega)) rfl kV_X5_hoursOf rfl (by decide) lk_X5_89 (by decide) rfl oX5 (Nat.le_of_ble_eq_true rfl) dX5_overtimeOf_2 rfl ?_
  refine v_aload_n (q := 6) hX dX5_overtimeOf_5 rfl rfl rfl ?_
  refine v_iconst (q := 7) hX dX5_overtimeOf_6 rfl ?_
  refine w_callV (q := 10) hX (c_X5_setting _ _ hr 0 (by omega) (j := 5) rfl) rfl kV_X5_setting rfl (by decide) lk_X5_41 (by decide) rfl oX5 (Nat.le_of_ble_eq_true rfl) dX5_overtimeOf_7 rfl ?_
  refine v_lsub (q := 11) hX dX5_overtimeOf_10 rfl ?_
  refine v_lstore_n (q := 12) hX dX5_overtimeOf_11 rfl (Nat.le_of_ble_eq_true rfl) (Nat.le_of_ble_eq_true rfl) rfl ?_
  dsimp only [xs1, xs2, xclr]
  refine v_lload_n (q := 13) hX dX5_overtimeOf_12 rfl rfl rfl ?_
  refine v_lconst (q := 14) (e := 0) hX (by decide) dX5_overtimeOf_13 rfl ?_
  refine v_lcmp_le (q := 18) (tgt := 22) hX ⟨by omega, by omega⟩ ⟨by omega, by omega⟩ dX5_overtimeOf_14 dX5_overtimeOf_15 (by decide) rfl (fun h14 => ?_) (fun h14 => ?_)
  · refine v_lconst (q := 23) (e := 0) hX (by decide) dX5_overtimeOf_22 rfl ?_
    refine v_lreturn hX hRX rfl dX5_overtimeOf_23 rfl ?_
    exact ⟨by unfold nOver; first | rw [if_pos (by omega)] | rw [if_neg (by omega)], rfl, rfl⟩
  · refine v_lload_n (q := 19) hX dX5_overtimeOf_18 rfl rfl rfl ?_
    refine v_goto (tgt := 23) hX dX5_overtimeOf_19 (by decide) ?_
    refine v_lreturn hX hRX rfl dX5_overtimeOf_23 rfl ?_
    exact ⟨by unfold nOver; first | rw [if_pos (by omega)] | rw [if_neg (by omega)], rfl, rfl⟩

set_option maxRecDepth 100000 in
set_option maxHeartbeats 4000000 in
theorem c_X5_mostHours {z : Nat} (D : xD) (r : xR) (hr : xRM r) : MX 1 mX5_mostHours [.ref 351] (356, z) D r (356, z) (xP (vl (D 352 5 + D 352 6)) D r) := by
  refine MX.of (by decide +kernel) [some (.ref 351)] rfl (Nat.le_of_ble_eq_true rfl) ?_
  intro γ hX hRX
  refine v_aload_n (q := 1) hX dX5_mostHours_0 rfl rfl rfl ?_
  refine v_iconst (q := 2) hX dX5_mostHours_1 rfl ?_
  refine w_callV (q := 5) hX (c_X5_setting _ _ hr 0 (by omega) (j := 5) rfl) rfl kV_X5_setting rfl (by decide) lk_X5_41 (by decide) rfl oX5 (Nat.le_of_ble_eq_true rfl) dX5_mostHours_2 rfl ?_
  refine v_aload_n (q := 6) hX dX5_mostHours_5 rfl rfl rfl ?_
  refine v_iconst (q := 7) hX dX5_mostHours_6 rfl ?_
  refine w_callV (q := 10) hX (c_X5_setting _ _ hr 1 (by omega) (j := 6) rfl) rfl kV_X5_setting rfl (by decide) lk_X5_41 (by decide) rfl oX5 (Nat.le_of_ble_eq_true rfl) dX5_mostHours_7 rfl ?_
  refine v_ladd (q := 11) hX dX5_mostHours_10 rfl ?_
  refine v_lreturn hX hRX rfl dX5_mostHours_11 rfl ?_
  exact ⟨rfl, rfl, rfl⟩

/-- stock less backlog, and what the first k weeks bring -/
def nPj (N : Nat → Int) (p : Nat) : Nat → Int
  | 0 => pF N p 4 - pF N p 5
  | k + 1 => nPj N p k + (pF N p (24 + k) * pF N p 1 - pF N p (12 + k))
theorem nPj_le {B : Int} {np : Nat} {N : Nat → Int} (h : nOk B np N) {p : Nat} (hp : p < np) : ∀ k, k ≤ 12 → -B - 1000 * k ≤ nPj N p k ∧ nPj N p k ≤ B + 100000 * k := by
  intro k
  obtain ⟨-, h1, -, -, h4, h5, -⟩ := h.2.2.2.2.2 p hp
  induction k with
  | zero => intro _; unfold nPj; omega
  | succ k ih =>
    intro hk
    have e := ih (by omega)
    have h2 := h.lots hp (k := k) (by omega)
    have h3 := h.fc hp (k := k) (by omega)
    have h6 : 0 ≤ pF N p (24 + k) * pF N p 1 := Int.mul_nonneg h2.1 (by omega)
    have h7 : pF N p (24 + k) * pF N p 1 ≤ 1000 * 100 := Int.mul_le_mul h2.2 h1.2 (by omega) (by omega)
    unfold nPj
    omega
def nCov (N : Nat → Int) (p : Nat) : Int := pF N p 6 * N 9 / 100
theorem nCov_le {B : Int} {np : Nat} {N : Nat → Int} (h : nOk B np N) {p : Nat} (hp : p < np) : (0 ≤ pF N p 6 * N 9 ∧ pF N p 6 * N 9 ≤ 800000) ∧ 0 ≤ nCov N p ∧ nCov N p ≤ 8000 := by
  obtain ⟨-, -, -, -, -, -, h6, -⟩ := h.2.2.2.2.2 p hp
  have h9 := h.2.2.2.1.2.2.2.2.1
  have h1 : 0 ≤ pF N p 6 * N 9 := Int.mul_nonneg h6.1 h9.1
  have h2 : pF N p 6 * N 9 ≤ 2000 * 400 := Int.mul_le_mul h6.2 h9.2 h9.1 (by omega)
  unfold nCov
  omega
set_option maxRecDepth 100000 in
set_option maxHeartbeats 4000000 in
theorem c_X5_project {z : Nat} (D : xD) (r : xR) (hr : xRM r) {B : Int} {np : Nat} (hO : nOk B np (D 352)) (p w : Nat) (hp : p < np) (hw : w < 12) : MX 1 mX5_project [.ref 351, vi p, vi w] (356, z) D r (356, z) (xP (vl (nPj (D 352) p (w + 1))) D r) := by
  refine MX.of (by decide +kernel) [some (.ref 351), some (vi p), some (vi w), none, none, none] rfl (Nat.le_of_ble_eq_true rfl) ?_
  intro γ hX hRX
  have hn := hO.np
  have L : ∀ k, k ≤ (w + 1) → xV γ 17 [some (.ref 351), some (vi p), some (vi w), some (vl (nPj (D 352) p k)), none, some (vi (k : Nat))] [] (356, z) D r := by
    refine xup (w + 1) (fun k hk ih => ?_)
    refine v_iload (q := 19) hX dX5_project_17 rfl rfl ?_
    refine v_iload_n (q := 20) hX dX5_project_19 rfl rfl rfl ?_
    refine v_icmp_gt (q := 23) (tgt := 60) hX ⟨by omega, by omega⟩ ⟨by omega, by omega⟩ dX5_project_20 (by decide) rfl (fun h20 => ?_) (fun h20 => ?_)
    · refine v_lload_n (q := 61) hX dX5_project_60 rfl rfl rfl ?_
      refine v_lreturn hX hRX rfl dX5_project_61 rfl ?_
      rw [show k = w + 1 by omega]
      exact ⟨rfl, rfl, rfl⟩
    · refine v_lload_n (q := 24) hX dX5_project_23 rfl rfl rfl ?_
      refine v_aload_n (q := 25) hX dX5_project_24 rfl rfl rfl ?_
      refine v_iload_n (q := 26) hX dX5_project_25 rfl rfl rfl ?_
      refine v_bipush (q := 28) hX (by decide) dX5_project_26 rfl ?_
      refine v_iload (q := 30) hX dX5_project_28 rfl rfl ?_
      refine v_iadd (q := 31) hX dX5_project_30 rfl ?_
      refine w_callV (q := 34) hX (c_X5_ofP _ _ hr (p) ((24 + k)) (by omega)) rfl kV_X5_ofP rfl (by decide) lk_X5_78 (by decide) rfl oX5 (Nat.le_of_ble_eq_true rfl) dX5_project_31 rfl ?_
      refine v_aload_n (q := 35) hX dX5_project_34 rfl rfl rfl ?_
      refine v_iload_n (q := 36) hX dX5_project_35 rfl rfl rfl ?_
      refine v_iconst (q := 37) hX dX5_project_36 rfl ?_
      refine w_callV (q := 40) hX (c_X5_ofP _ _ hr (p) (1) (by omega)) rfl kV_X5_ofP rfl (by decide) lk_X5_78 (by decide) rfl oX5 (Nat.le_of_ble_eq_true rfl) dX5_project_37 rfl ?_
      refine v_lmul (q := 41) hX dX5_project_40 rfl ?_
      refine v_aload_n (q := 42) hX dX5_project_41 rfl rfl rfl ?_
      refine v_iload_n (q := 43) hX dX5_project_42 rfl rfl rfl ?_
      refine v_bipush (q := 45) hX (by decide) dX5_project_43 rfl ?_
      refine v_iload (q := 47) hX dX5_project_45 rfl rfl ?_
      refine v_iadd (q := 48) hX dX5_project_47 rfl ?_
      refine w_callV (q := 51) hX (c_X5_ofP _ _ hr (p) ((12 + k)) (by omega)) rfl kV_X5_ofP rfl (by decide) lk_X5_78 (by decide) rfl oX5 (Nat.le_of_ble_eq_true rfl) dX5_project_48 rfl ?_
      refine v_lsub (q := 52) hX dX5_project_51 rfl ?_
      refine v_ladd (q := 53) hX dX5_project_52 rfl ?_
      refine v_lstore_n (q := 54) hX dX5_project_53 rfl (Nat.le_of_ble_eq_true rfl) (Nat.le_of_ble_eq_true rfl) rfl ?_
      dsimp only [xs1, xs2, xclr]
      refine v_iinc (q := 57) hX dX5_project_54 rfl (Nat.le_of_ble_eq_true rfl) (Nat.le_of_ble_eq_true rfl) rfl ?_
      dsimp only [xs1, xs2, xclr]
      refine v_goto (tgt := 17) hX dX5_project_57 (by decide) ?_
      exact ih (by omega)
  refine v_aload_n (q := 1) hX dX5_project_0 rfl rfl rfl ?_
  refine v_iload_n (q := 2) hX dX5_project_1 rfl rfl rfl ?_
  refine v_iconst (q := 3) hX dX5_project_2 rfl ?_
  refine w_callV (q := 6) hX (c_X5_ofP _ _ hr (p) (4) (by omega)) rfl kV_X5_ofP rfl (by decide) lk_X5_78 (by decide) rfl oX5 (Nat.le_of_ble_eq_true rfl) dX5_project_3 rfl ?_
  refine v_aload_n (q := 7) hX dX5_project_6 rfl rfl rfl ?_
  refine v_iload_n (q := 8) hX dX5_project_7 rfl rfl rfl ?_
  refine v_iconst (q := 9) hX dX5_project_8 rfl ?_
  refine w_callV (q := 12) hX (c_X5_ofP _ _ hr (p) (5) (by omega)) rfl kV_X5_ofP rfl (by decide) lk_X5_78 (by decide) rfl oX5 (Nat.le_of_ble_eq_true rfl) dX5_project_9 rfl ?_
  refine v_lsub (q := 13) hX dX5_project_12 rfl ?_
  refine v_lstore_n (q := 14) hX dX5_project_13 rfl (Nat.le_of_ble_eq_true rfl) (Nat.le_of_ble_eq_true rfl) rfl ?_
  dsimp only [xs1, xs2, xclr]
  refine v_iconst (q := 15) hX dX5_project_14 rfl ?_
  refine v_istore (q := 17) hX dX5_project_15 (Nat.le_of_ble_eq_true rfl) (Nat.le_of_ble_eq_true rfl) rfl ?_
  dsimp only [xs1, xs2, xclr]
  exact L 0 (Nat.zero_le _)

set_option maxRecDepth 100000 in
set_option maxHeartbeats 4000000 in
theorem c_X5_cover {z : Nat} (D : xD) (r : xR) (hr : xRM r) {B : Int} {np : Nat} (hO : nOk B np (D 352)) (p : Nat) (hp : p < np) : MX 1 mX5_cover [.ref 351, vi p] (356, z) D r (356, z) (xP (vl (nCov (D 352) p)) D r) := by
  refine MX.of (by decide +kernel) [some (.ref 351), some (vi p)] rfl (Nat.le_of_ble_eq_true rfl) ?_
  intro γ hX hRX
  have hn := hO.np
  have hc := nCov_le hO hp
  refine v_aload_n (q := 1) hX dX5_cover_0 rfl rfl rfl ?_
  refine v_iload_n (q := 2) hX dX5_cover_1 rfl rfl rfl ?_
  refine v_bipush (q := 4) hX (by decide) dX5_cover_2 rfl ?_
  refine w_callV (q := 7) hX (c_X5_ofP _ _ hr (p) (6) (by omega)) rfl kV_X5_ofP rfl (by decide) lk_X5_78 (by decide) rfl oX5 (Nat.le_of_ble_eq_true rfl) dX5_cover_4 rfl ?_
  refine v_aload_n (q := 8) hX dX5_cover_7 rfl rfl rfl ?_
  refine v_iconst (q := 9) hX dX5_cover_8 rfl ?_
  refine w_callV (q := 12) hX (c_X5_setting _ _ hr 4 (by omega) (j := 9) rfl) rfl kV_X5_setting rfl (by decide) lk_X5_41 (by decide) rfl oX5 (Nat.le_of_ble_eq_true rfl) dX5_cover_9 rfl ?_
  refine v_lmul (q := 13) hX dX5_cover_12 rfl ?_
  refine v_ldc2 (q := 16) (e := 100) hX (by decide) kl_X5_23 dX5_cover_13 rfl ?_
  refine v_ldiv (q := 17) hX hc.1.1 ⟨by omega, by omega⟩ (by omega) (by decide) dX5_cover_16 rfl ?_
  refine v_lreturn hX hRX rfl dX5_cover_17 rfl ?_
  exact ⟨rfl, rfl, rfl⟩

/-- the hours that are left for one more lot, its setups taken off -/
def nLeft (N : Nat → Int) (np p w : Nat) : Int := N 5 + N 6 - nHours N np w - (if 0 < pF N p (24 + w) then 0 else pF N p 3 + (if nMask N w np >>> (pF N p 0).toNat % 2 = 1 then 0 else N (14 + (pF N p 0).toNat)))
def nRoom (N : Nat → Int) (np p w : Nat) : Int :=
  if (if 0 < nLeft N np p w then nLeft N np p w / pF N p 2 else 0) < 1000 - pF N p (24 + w) then (if 0 < nLeft N np p w then nLeft N np p w / pF N p 2 else 0) else 1000 - pF N p (24 + w)
theorem nLeft_le {B : Int} {np : Nat} {N : Nat → Int} (h : nOk B np N) {p w : Nat} (hp : p < np) (hw : w < 12) : -500600 ≤ nLeft N np p w ∧ nLeft N np p w ≤ 1500 := by
  have h1 := nHours_le h hw
  have hs := h.2.2.2.1
  obtain ⟨f, hf1, hf2, hf3⟩ := h.fam hp
  obtain ⟨-, -, -, h3, -⟩ := h.2.2.2.2.2 p hp
  have h4 := h.2.2.2.2.1 f hf2
  unfold nLeft
  rw [hf3]
  split
  · omega
  · split <;> omega
theorem div_le_self' {a b : Int} (ha : 0 ≤ a) (hb : 1 ≤ b) : 0 ≤ a / b ∧ a / b ≤ a := ⟨Int.ediv_nonneg ha (by omega), Int.ediv_le_self b ha⟩
set_option maxRecDepth 100000 in
set_option maxHeartbeats 4000000 in
theorem c_X5_room {z : Nat} (D : xD) (r : xR) (hr : xRM r) {B : Int} {np : Nat} (hO : nOk B np (D 352)) (p w : Nat) (hp : p < np) (hw : w < 12) : MX 4 mX5_room [.ref 351, vi p, vi w] (356, z) D r (356, z) (xP (vl (nRoom (D 352) np p w)) D r) := by
  refine MX.of (by decide +kernel) [some (.ref 351), some (vi p), some (vi w), none, none, none, none, none, none] rfl (Nat.le_of_ble_eq_true rfl) ?_
  intro γ hX hRX
  have hn := hO.np
  have hh := nHours_le hO hw
  have hs := hO.2.2.2.1
  have hll := nLeft_le hO hp hw
  have hlo := hO.lots hp hw
  obtain ⟨f, hf1, hf2, hf3⟩ := hO.fam hp
  obtain ⟨-, -, hp2, hp3, -⟩ := hO.2.2.2.2.2 p hp
  have hfh := hO.2.2.2.2.1 f hf2
  have hm := nMask_lt hO w np (Nat.le_refl _)
  have K : xV γ 67 [some (.ref 351), some (vi p), some (vi w), some (vl (nLeft (D 352) np p w)), none, none, none, none, none] [] (356, z) D r := by
    refine v_lload_n (q := 68) hX dX5_room_67 rfl rfl rfl ?_
    refine v_lconst (q := 69) (e := 0) hX (by decide) dX5_room_68 rfl ?_
    refine v_lcmp_le (q := 73) (tgt := 84) hX ⟨by omega, by omega⟩ (by decide) dX5_room_69 dX5_room_70 (by decide) rfl (fun h69 => ?_) (fun h69 => ?_)
    · refine v_lconst (q := 85) (e := 0) hX (by decide) dX5_room_84 rfl ?_
      first | have hdv := div_le_self' (a := nLeft (D 352) np p w) (b := pF (D 352) p 2) (by omega) (by omega) | skip
      refine v_lstore (q := 87) hX dX5_room_85 (Nat.le_of_ble_eq_true rfl) (Nat.le_of_ble_eq_true rfl) rfl ?_
      dsimp only [xs1, xs2, xclr]
      refine v_ldc2 (q := 90) (e := 1000) hX (by decide) kl_X5_96 dX5_room_87 rfl ?_
      refine v_aload_n (q := 91) hX dX5_room_90 rfl rfl rfl ?_
      refine v_iload_n (q := 92) hX dX5_room_91 rfl rfl rfl ?_
      refine v_bipush (q := 94) hX (by decide) dX5_room_92 rfl ?_
      refine v_iload_n (q := 95) hX dX5_room_94 rfl rfl rfl ?_
      refine v_iadd (q := 96) hX dX5_room_95 rfl ?_
      refine w_callV (q := 99) hX (c_X5_ofP _ _ hr (p) ((24 + w)) (by omega)) rfl kV_X5_ofP rfl (by decide) lk_X5_78 (by decide) rfl oX5 (Nat.le_of_ble_eq_true rfl) dX5_room_96 rfl ?_
      refine v_lsub (q := 100) hX dX5_room_99 rfl ?_
      refine v_lstore (q := 102) hX dX5_room_100 (Nat.le_of_ble_eq_true rfl) (Nat.le_of_ble_eq_true rfl) rfl ?_
      dsimp only [xs1, xs2, xclr]
      refine v_lload (q := 104) hX dX5_room_102 rfl rfl ?_
      refine v_lload (q := 106) hX dX5_room_104 rfl rfl ?_
      refine v_lcmp_ge (q := 110) (tgt := 115) hX ⟨by omega, by omega⟩ ⟨by omega, by omega⟩ dX5_room_106 dX5_room_107 (by decide) rfl (fun h106 => ?_) (fun h106 => ?_)
      · refine v_lload (q := 117) hX dX5_room_115 rfl rfl ?_
        refine v_lreturn hX hRX rfl dX5_room_117 rfl ?_
        exact ⟨by unfold nRoom; (first | rw [if_pos h69] | rw [if_neg (Int.not_lt.mpr h69)]); (first | rw [if_pos (by omega)] | rw [if_neg (by omega)]), rfl, rfl⟩
      · refine v_lload (q := 112) hX dX5_room_110 rfl rfl ?_
        refine v_goto (tgt := 117) hX dX5_room_112 (by decide) ?_
        refine v_lreturn hX hRX rfl dX5_room_117 rfl ?_
        exact ⟨by unfold nRoom; (first | rw [if_pos h69] | rw [if_neg (Int.not_lt.mpr h69)]); (first | rw [if_pos (by omega)] | rw [if_neg (by omega)]), rfl, rfl⟩
    · refine v_lload_n (q := 74) hX dX5_room_73 rfl rfl rfl ?_
      refine v_aload_n (q := 75) hX dX5_room_74 rfl rfl rfl ?_
      refine v_iload_n (q := 76) hX dX5_room_75 rfl rfl rfl ?_
      refine v_iconst (q := 77) hX dX5_room_76 rfl ?_
      refine w_callV (q := 80) hX (c_X5_ofP _ _ hr (p) (2) (by omega)) rfl kV_X5_ofP rfl (by decide) lk_X5_78 (by decide) rfl oX5 (Nat.le_of_ble_eq_true rfl) dX5_room_77 rfl ?_
      refine v_ldiv (q := 81) hX (by omega) ⟨by omega, by omega⟩ (by omega) ⟨by omega, by omega⟩ dX5_room_80 rfl ?_
      refine v_goto (tgt := 85) hX dX5_room_81 (by decide) ?_
      first | have hdv := div_le_self' (a := nLeft (D 352) np p w) (b := pF (D 352) p 2) (by omega) (by omega) | skip
      refine v_lstore (q := 87) hX dX5_room_85 (Nat.le_of_ble_eq_true rfl) (Nat.le_of_ble_eq_true rfl) rfl ?_
      dsimp only [xs1, xs2, xclr]
      refine v_ldc2 (q := 90) (e := 1000) hX (by decide) kl_X5_96 dX5_room_87 rfl ?_
      refine v_aload_n (q := 91) hX dX5_room_90 rfl rfl rfl ?_
      refine v_iload_n (q := 92) hX dX5_room_91 rfl rfl rfl ?_
      refine v_bipush (q := 94) hX (by decide) dX5_room_92 rfl ?_
      refine v_iload_n (q := 95) hX dX5_room_94 rfl rfl rfl ?_
      refine v_iadd (q := 96) hX dX5_room_95 rfl ?_
      refine w_callV (q := 99) hX (c_X5_ofP _ _ hr (p) ((24 + w)) (by omega)) rfl kV_X5_ofP rfl (by decide) lk_X5_78 (by decide) rfl oX5 (Nat.le_of_ble_eq_true rfl) dX5_room_96 rfl ?_
      refine v_lsub (q := 100) hX dX5_room_99 rfl ?_
      refine v_lstore (q := 102) hX dX5_room_100 (Nat.le_of_ble_eq_true rfl) (Nat.le_of_ble_eq_true rfl) rfl ?_
      dsimp only [xs1, xs2, xclr]
      refine v_lload (q := 104) hX dX5_room_102 rfl rfl ?_
      refine v_lload (q := 106) hX dX5_room_104 rfl rfl ?_
      refine v_lcmp_ge (q := 110) (tgt := 115) hX ⟨by omega, by omega⟩ ⟨by omega, by omega⟩ dX5_room_106 dX5_room_107 (by decide) rfl (fun h106 => ?_) (fun h106 => ?_)
      · refine v_lload (q := 117) hX dX5_room_115 rfl rfl ?_
        refine v_lreturn hX hRX rfl dX5_room_117 rfl ?_
        exact ⟨by unfold nRoom; (first | rw [if_pos h69] | rw [if_neg (Int.not_lt.mpr h69)]); (first | rw [if_pos (by omega)] | rw [if_neg (by omega)]), rfl, rfl⟩
      · refine v_lload (q := 112) hX dX5_room_110 rfl rfl ?_
        refine v_goto (tgt := 117) hX dX5_room_112 (by decide) ?_
        refine v_lreturn hX hRX rfl dX5_room_117 rfl ?_
        exact ⟨by unfold nRoom; (first | rw [if_pos h69] | rw [if_neg (Int.not_lt.mpr h69)]); (first | rw [if_pos (by omega)] | rw [if_neg (by omega)]), rfl, rfl⟩
  refine v_aload_n (q := 1) hX dX5_room_0 rfl rfl rfl ?_
  refine w_callV (q := 4) hX (c_X5_mostHours _ _ hr) rfl kV_X5_mostHours rfl (by decide) lk_X5_92 (by decide) rfl oX5 (Nat.le_of_ble_eq_true rfl) dX5_room_1 rfl ?_
  refine v_aload_n (q := 5) hX dX5_room_4 rfl rfl rfl ?_
  refine v_iload_n (q := 6) hX dX5_room_5 rfl rfl rfl ?_
  refine w_callV (q := 9) hX (c_X5_hoursOf _ _ hr hO (w) (by omega)) rfl kV_X5_hoursOf rfl (by decide) lk_X5_89 (by decide) rfl oX5 (Nat.le_of_ble_eq_true rfl) dX5_room_6 rfl ?_
  refine v_lsub (q := 10) hX dX5_room_9 rfl ?_
  refine v_lstore_n (q := 11) hX dX5_room_10 rfl (Nat.le_of_ble_eq_true rfl) (Nat.le_of_ble_eq_true rfl) rfl ?_
  dsimp only [xs1, xs2, xclr]
  refine v_aload_n (q := 12) hX dX5_room_11 rfl rfl rfl ?_
  refine v_iload_n (q := 13) hX dX5_room_12 rfl rfl rfl ?_
  refine v_iload_n (q := 14) hX dX5_room_13 rfl rfl rfl ?_
  refine w_callV (q := 17) hX (c_X5_isMade _ _ hr hO (p) (w) (by omega) (by omega)) rfl kV_X5_isMade rfl (by decide) lk_X5_82 (by decide) rfl oX5 (Nat.le_of_ble_eq_true rfl) dX5_room_14 rfl ?_
  refine w_ifne (q := 20) (tgt := 67) hX dX5_room_17 (by decide) rfl (fun h17 => ?_) (fun h17 => ?_)
  · refine xVw (pl' := [some (.ref 351), some (vi p), some (vi w), some (vl (nLeft (D 352) np p w)), none, none, none, none, none]) ?_ K
    simp only [xle, and_true, true_and]
    rw [nLeft, hf3]
    first | rw [if_pos (by omega)] | rw [if_neg (by omega)]
    first | rw [if_pos (by omega)] | rw [if_neg (by omega)] | skip
    try rw [Int.sub_zero]
  · refine v_aload_n (q := 21) hX dX5_room_20 rfl rfl rfl ?_
    refine v_iload_n (q := 22) hX dX5_room_21 rfl rfl rfl ?_
    refine v_iconst (q := 23) hX dX5_room_22 rfl ?_
    refine w_callV (q := 26) hX (c_X5_ofP _ _ hr (p) (0) (by omega)) rfl kV_X5_ofP rfl (by decide) lk_X5_78 (by decide) rfl oX5 (Nat.le_of_ble_eq_true rfl) dX5_room_23 rfl ?_
    refine v_l2i (q := 27) hX dX5_room_26 rfl ?_
    rw [hf1]
    refine v_istore (q := 29) hX dX5_room_27 (Nat.le_of_ble_eq_true rfl) (Nat.le_of_ble_eq_true rfl) rfl ?_
    dsimp only [xs1, xs2, xclr]
    refine v_lload_n (q := 30) hX dX5_room_29 rfl rfl rfl ?_
    refine v_aload_n (q := 31) hX dX5_room_30 rfl rfl rfl ?_
    refine v_iload_n (q := 32) hX dX5_room_31 rfl rfl rfl ?_
    refine v_iconst (q := 33) hX dX5_room_32 rfl ?_
    refine w_callV (q := 36) hX (c_X5_ofP _ _ hr (p) (3) (by omega)) rfl kV_X5_ofP rfl (by decide) lk_X5_78 (by decide) rfl oX5 (Nat.le_of_ble_eq_true rfl) dX5_room_33 rfl ?_
    refine v_aload_n (q := 37) hX dX5_room_36 rfl rfl rfl ?_
    refine v_iload_n (q := 38) hX dX5_room_37 rfl rfl rfl ?_
    refine w_callV (q := 41) hX (c_X5_familiesIn _ _ hr hO (w) (by omega)) rfl kV_X5_familiesIn rfl (by decide) lk_X5_86 (by decide) rfl oX5 (Nat.le_of_ble_eq_true rfl) dX5_room_38 rfl ?_
    refine v_iload (q := 43) hX dX5_room_41 rfl rfl ?_
    refine v_ishr (q := 44) hX (_) (bshr4 _ hm _ hf2) dX5_room_43 rfl ?_
    refine v_iconst (q := 45) hX dX5_room_44 rfl ?_
    refine v_iand (q := 46) hX (_) (band1 _ (Nat.lt_of_le_of_lt (Nat.shiftRight_le _ _) hm)) dX5_room_45 rfl ?_
    refine v_iconst (q := 47) hX dX5_room_46 rfl ?_
    refine v_icmp_ne (q := 50) (tgt := 54) hX ⟨by omega, by omega⟩ (by decide) dX5_room_47 (by decide) rfl (fun h47 => ?_) (fun h47 => ?_)
    · refine v_aload_n (q := 55) hX dX5_room_54 rfl rfl rfl ?_
      refine w_getR (q := 58) hX fl_X5_7 rfl oX5 hr.1 dX5_room_55 rfl ?_
      refine v_bipush (q := 60) hX (by decide) dX5_room_58 rfl ?_
      refine v_iload (q := 62) hX dX5_room_60 rfl rfl ?_
      refine v_iadd (q := 63) hX dX5_room_62 rfl ?_
      refine w_lld (q := 64) (kk := (14 + f)) hX (by omega) (by omega) aNow dX5_room_63 rfl ?_
      refine v_ladd (q := 65) hX dX5_room_64 rfl ?_
      refine v_lsub (q := 66) hX dX5_room_65 rfl ?_
      refine v_lstore_n (q := 67) hX dX5_room_66 rfl (Nat.le_of_ble_eq_true rfl) (Nat.le_of_ble_eq_true rfl) rfl ?_
      dsimp only [xs1, xs2, xclr]
      refine xVw (pl' := [some (.ref 351), some (vi p), some (vi w), some (vl (nLeft (D 352) np p w)), none, none, none, none, none]) ?_ K
      simp only [xle, and_true, true_and]
      rw [nLeft, hf3]
      first | rw [if_pos (by omega)] | rw [if_neg (by omega)]
      first | rw [if_pos (by omega)] | rw [if_neg (by omega)] | skip
      try rw [Int.sub_zero]
    · refine v_lconst (q := 51) (e := 0) hX (by decide) dX5_room_50 rfl ?_
      refine v_goto (tgt := 64) hX dX5_room_51 (by decide) ?_
      refine v_ladd (q := 65) hX dX5_room_64 rfl ?_
      refine v_lsub (q := 66) hX dX5_room_65 rfl ?_
      refine v_lstore_n (q := 67) hX dX5_room_66 rfl (Nat.le_of_ble_eq_true rfl) (Nat.le_of_ble_eq_true rfl) rfl ?_
      dsimp only [xs1, xs2, xclr]
      refine xVw (pl' := [some (.ref 351), some (vi p), some (vi w), some (vl (nLeft (D 352) np p w)), none, none, none, none, none]) ?_ K
      simp only [xle, and_true, true_and]
      rw [nLeft, hf3]
      first | rw [if_pos (by omega)] | rw [if_neg (by omega)]
      first | rw [if_pos (by omega)] | rw [if_neg (by omega)] | skip
      try rw [Int.sub_zero]
end
section
/-- the forecasts of the weeks from the a-th on, n of them, as far as there are such weeks -/
def nFcs (N : Nat → Int) (p a : Nat) : Nat → Int
  | 0 => 0
  | n + 1 => nFcs N p a n + (if a + n < 12 then pF N p (12 + (a + n)) else 0)
def nUnits (N : Nat → Int) (p w : Nat) : Int := nCov N p - nPj N p (w + 1) + nFcs N p (w + 1) (N 8 - 1).toNat
def nWant (N : Nat → Int) (p w : Nat) : Int := (nUnits N p w + pF N p 1 - 1) / pF N p 1
theorem nFcs_le {B : Int} {np : Nat} {N : Nat → Int} (h : nOk B np N) {p : Nat} (hp : p < np) (a : Nat) : ∀ n, 0 ≤ nFcs N p a n ∧ nFcs N p a n ≤ 1000 * n := by
  intro n
  induction n with
  | zero => unfold nFcs; omega
  | succ n ih =>
    unfold nFcs
    split
    · rename_i hk
      have := h.fc hp hk
      omega
    · omega
theorem nFcs_end (N : Nat → Int) (p a n m : Nat) (h : 12 ≤ a + n) : nFcs N p a (n + m) = nFcs N p a n := by
  induction m with
  | zero => rfl
  | succ m ih => rw [← Nat.add_assoc]; show nFcs N p a (n + m) + (if a + (n + m) < 12 then pF N p (12 + (a + (n + m))) else 0) = _; rw [if_neg (by omega), ih, Int.add_zero]
theorem nUnits_le {B : Int} {np : Nat} {N : Nat → Int} (h : nOk B np N) {p w : Nat} (hp : p < np) (hw : w < 12) (hl : nPj N p (w + 1) < nCov N p) : 0 < nUnits N p w ∧ nUnits N p w ≤ B + 40000 := by
  have h1 := nPj_le h hp (w + 1) (by omega)
  have h2 := nCov_le h hp
  have h3 := nFcs_le h hp (w + 1) (N 8 - 1).toNat
  have h4 := h.2.2.2.1.2.2.2.1
  unfold nUnits
  omega
set_option maxRecDepth 100000 in
set_option maxHeartbeats 4000000 in
theorem c_X5_wanted {z : Nat} (D : xD) (r : xR) (hr : xRM r) {B : Int} {np : Nat} (hO : nOk B np (D 352)) (p w : Nat) (hp : p < np) (hw : w < 12) (hl : nPj (D 352) p (w + 1) < nCov (D 352) p) : MX 2 mX5_wanted [.ref 351, vi p, vi w] (356, z) D r (356, z) (xP (vl (nWant (D 352) p w)) D r) := by
  refine MX.of (by decide +kernel) [some (.ref 351), some (vi p), some (vi w), none, none, none, none] rfl (Nat.le_of_ble_eq_true rfl) ?_
  intro γ hX hRX
  have hn := hO.np
  have hB := hO.1
  have hs := hO.2.2.2.1
  have hu := nUnits_le hO hp hw hl
  obtain ⟨-, hp1, -⟩ := hO.2.2.2.2.2 p hp
  have hB := hO.1
  have q1 := nPj_le hO hp (w + 1) (by omega)
  have q2 := nCov_le hO hp
  have E2 : ∀ j, j ≤ (D 352 8 - 1).toNat → (12 ≤ w + 1 + j ∨ (w : Int) + D 352 8 ≤ ((w + 1 + j : Nat) : Int)) → nCov (D 352) p - nPj (D 352) p (w + 1) + nFcs (D 352) p (w + 1) j = nUnits (D 352) p w := by
    intro j hj h
    unfold nUnits
    congr 1
    rcases Nat.lt_or_ge (w + 1 + j) 12 with h9 | h9
    · rw [show (D 352 8 - 1).toNat = j by omega]
    · rw [show (D 352 8 - 1).toNat = j + ((D 352 8 - 1).toNat - j) by omega, nFcs_end _ _ _ _ _ h9]
  have K : ∀ X5 : Int, xV γ 59 [some (.ref 351), some (vi p), some (vi w), some (vl (nUnits (D 352) p w)), none, some (vi X5), none] [] (356, z) D r := by
    intro X5
    refine v_aload_n (q := 60) hX dX5_wanted_59 rfl rfl rfl ?_
    refine v_iload_n (q := 61) hX dX5_wanted_60 rfl rfl rfl ?_
    refine v_iconst (q := 62) hX dX5_wanted_61 rfl ?_
    refine w_callV (q := 65) hX (c_X5_ofP _ _ hr (p) (1) (by omega)) rfl kV_X5_ofP rfl (by decide) lk_X5_78 (by decide) rfl oX5 (Nat.le_of_ble_eq_true rfl) dX5_wanted_62 rfl ?_
    refine v_lstore (q := 67) hX dX5_wanted_65 (Nat.le_of_ble_eq_true rfl) (Nat.le_of_ble_eq_true rfl) rfl ?_
    dsimp only [xs1, xs2, xclr]
    refine v_lload_n (q := 68) hX dX5_wanted_67 rfl rfl rfl ?_
    refine v_lload (q := 70) hX dX5_wanted_68 rfl rfl ?_
    refine v_ladd (q := 71) hX dX5_wanted_70 rfl ?_
    refine v_lconst (q := 72) (e := 1) hX (by decide) dX5_wanted_71 rfl ?_
    refine v_lsub (q := 73) hX dX5_wanted_72 rfl ?_
    refine v_lload (q := 75) hX dX5_wanted_73 rfl rfl ?_
    refine v_ldiv (q := 76) hX (by omega) ⟨by omega, by omega⟩ (by omega) ⟨by omega, by omega⟩ dX5_wanted_75 rfl ?_
    refine v_lreturn hX hRX rfl dX5_wanted_76 rfl ?_
    exact ⟨rfl, rfl, rfl⟩
  have L : ∀ j, j ≤ (D 352 8 - 1).toNat → xV γ 18 [some (.ref 351), some (vi p), some (vi w), some (vl (nCov (D 352) p - nPj (D 352) p (w + 1) + nFcs (D 352) p (w + 1) j)), none, some (vi ((w + 1 + j : Nat) : Int)), none] [] (356, z) D r := by
    refine xup _ (fun j hj ih => ?_)
    refine v_iload (q := 20) hX dX5_wanted_18 rfl rfl ?_
    refine v_bipush (q := 22) hX (by decide) dX5_wanted_20 rfl ?_
    refine v_icmp_ge (q := 25) (tgt := 59) hX ⟨by omega, by omega⟩ (by decide) dX5_wanted_22 (by decide) rfl (fun h22 => ?_) (fun h22 => ?_)
    · have e2 := E2 j hj (by omega)
      rw [e2]
      exact K _
    · refine v_iload (q := 27) hX dX5_wanted_25 rfl rfl ?_
      refine v_i2l (q := 28) hX ⟨by omega, by omega⟩ dX5_wanted_27 rfl ?_
      refine v_iload_n (q := 29) hX dX5_wanted_28 rfl rfl rfl ?_
      refine v_i2l (q := 30) hX ⟨by omega, by omega⟩ dX5_wanted_29 rfl ?_
      refine v_aload_n (q := 31) hX dX5_wanted_30 rfl rfl rfl ?_
      refine v_iconst (q := 32) hX dX5_wanted_31 rfl ?_
      refine w_callV (q := 35) hX (c_X5_setting _ _ hr 3 (by omega) (j := 8) rfl) rfl kV_X5_setting rfl (by decide) lk_X5_41 (by decide) rfl oX5 (Nat.le_of_ble_eq_true rfl) dX5_wanted_32 rfl ?_
      refine v_ladd (q := 36) hX dX5_wanted_35 rfl ?_
      refine v_lcmp_ge (q := 40) (tgt := 59) hX ⟨by omega, by omega⟩ ⟨by omega, by omega⟩ dX5_wanted_36 dX5_wanted_37 (by decide) rfl (fun h36 => ?_) (fun h36 => ?_)
      · have e2 := E2 j hj (by omega)
        rw [e2]
        exact K _
      · refine v_lload_n (q := 41) hX dX5_wanted_40 rfl rfl rfl ?_
        refine v_aload_n (q := 42) hX dX5_wanted_41 rfl rfl rfl ?_
        refine v_iload_n (q := 43) hX dX5_wanted_42 rfl rfl rfl ?_
        refine v_bipush (q := 45) hX (by decide) dX5_wanted_43 rfl ?_
        refine v_iload (q := 47) hX dX5_wanted_45 rfl rfl ?_
        refine v_iadd (q := 48) hX dX5_wanted_47 rfl ?_
        refine w_callV (q := 51) hX (c_X5_ofP _ _ hr (p) ((12 + (w + 1 + j))) (by omega)) rfl kV_X5_ofP rfl (by decide) lk_X5_78 (by decide) rfl oX5 (Nat.le_of_ble_eq_true rfl) dX5_wanted_48 rfl ?_
        refine v_ladd (q := 52) hX dX5_wanted_51 rfl ?_
        refine v_lstore_n (q := 53) hX dX5_wanted_52 rfl (Nat.le_of_ble_eq_true rfl) (Nat.le_of_ble_eq_true rfl) rfl ?_
        dsimp only [xs1, xs2, xclr]
        refine v_iinc (q := 56) hX dX5_wanted_53 rfl (Nat.le_of_ble_eq_true rfl) (Nat.le_of_ble_eq_true rfl) rfl ?_
        dsimp only [xs1, xs2, xclr]
        refine v_goto (tgt := 18) hX dX5_wanted_56 (by decide) ?_
        have e1 := ih (by omega)
        simp only [nFcs] at e1
        rw [if_pos (by omega), ← Int.add_assoc] at e1
        exact e1
  refine v_aload_n (q := 1) hX dX5_wanted_0 rfl rfl rfl ?_
  refine v_iload_n (q := 2) hX dX5_wanted_1 rfl rfl rfl ?_
  refine w_callV (q := 5) hX (c_X5_cover _ _ hr hO (p) (by omega)) rfl kV_X5_cover rfl (by decide) lk_X5_98 (by decide) rfl oX5 (Nat.le_of_ble_eq_true rfl) dX5_wanted_2 rfl ?_
  refine v_aload_n (q := 6) hX dX5_wanted_5 rfl rfl rfl ?_
  refine v_iload_n (q := 7) hX dX5_wanted_6 rfl rfl rfl ?_
  refine v_iload_n (q := 8) hX dX5_wanted_7 rfl rfl rfl ?_
  refine w_callV (q := 11) hX (c_X5_project _ _ hr hO (p) (w) (by omega) (by omega)) rfl kV_X5_project rfl (by decide) lk_X5_101 (by decide) rfl oX5 (Nat.le_of_ble_eq_true rfl) dX5_wanted_8 rfl ?_
  refine v_lsub (q := 12) hX dX5_wanted_11 rfl ?_
  refine v_lstore_n (q := 13) hX dX5_wanted_12 rfl (Nat.le_of_ble_eq_true rfl) (Nat.le_of_ble_eq_true rfl) rfl ?_
  dsimp only [xs1, xs2, xclr]
  refine v_iload_n (q := 14) hX dX5_wanted_13 rfl rfl rfl ?_
  refine v_iconst (q := 15) hX dX5_wanted_14 rfl ?_
  refine v_iadd (q := 16) hX dX5_wanted_15 rfl ?_
  refine v_istore (q := 18) hX dX5_wanted_16 (Nat.le_of_ble_eq_true rfl) (Nat.le_of_ble_eq_true rfl) rfl ?_
  dsimp only [xs1, xs2, xclr]
  have e1 := L 0 (Nat.zero_le _)
  simp only [nFcs, Int.add_zero] at e1
  exact e1

/-- the one that lacks most of the first k, of those that were not asked yet; -6: none -/
def nNext (N : Nat → Int) (w asked : Nat) : Nat → Int
  | 0 => -6
  | k + 1 => if (asked >>> k % 2 = 0 ∧ nPj N k (w + 1) < nCov N k) ∧ (nNext N w asked k = -6 ∨ nPj N k (w + 1) < nPj N (nNext N w asked k).toNat (w + 1)) then (k : Int) else nNext N w asked k
theorem nNext_in (N : Nat → Int) (w asked : Nat) : ∀ k, nNext N w asked k = -6 ∨ ∃ b : Nat, nNext N w asked k = (b : Int) ∧ b < k ∧ asked >>> b % 2 = 0 ∧ nPj N b (w + 1) < nCov N b := by
  intro k
  induction k with
  | zero => exact Or.inl rfl
  | succ k ih =>
    unfold nNext
    split
    · rename_i h; exact Or.inr ⟨k, rfl, by omega, h.1.1, h.1.2⟩
    · rcases ih with h | ⟨b, h1, h2, h3⟩
      · exact Or.inl h
      · exact Or.inr ⟨b, h1, by omega, h3⟩
theorem bshr10 : ∀ m, m < 1024 → ∀ f, f < 10 → Int32.ofInt ((m : Nat) : Int) >>> (Int32.ofInt ((f : Nat) : Int) &&& 31) = Int32.ofInt ((m >>> f : Nat) : Int) := by decide +kernel
theorem band1k : ∀ m, m < 1024 → Int32.ofInt ((m : Nat) : Int) &&& Int32.ofInt 1 = Int32.ofInt ((m % 2 : Nat) : Int) := by decide +kernel
theorem bshl10 : ∀ f, f < 10 → Int32.ofInt 1 <<< (Int32.ofInt ((f : Nat) : Int) &&& 31) = Int32.ofInt ((2 ^ f : Nat) : Int) := by decide +kernel
theorem bor1k : ∀ a, a < 1024 → ∀ f, f < 10 → Int32.ofInt ((a : Nat) : Int) ||| Int32.ofInt ((2 ^ f : Nat) : Int) = Int32.ofInt ((a ||| 2 ^ f : Nat) : Int) := by decide +kernel
set_option maxRecDepth 100000 in
set_option maxHeartbeats 4000000 in
theorem c_X5_nextOf {z : Nat} (D : xD) (r : xR) (hr : xRM r) {B : Int} {np : Nat} (hO : nOk B np (D 352)) (w asked : Nat) (hw : w < 12) (ha : asked < 1024) : MX 2 mX5_nextOf [.ref 351, vi w, vi asked] (356, z) D r (356, z) (xP (vi (nNext (D 352) w asked np)) D r) := by
  refine MX.of (by decide +kernel) [some (.ref 351), some (vi w), some (vi asked), none, none, none] rfl (Nat.le_of_ble_eq_true rfl) ?_
  intro γ hX hRX
  have hn := hO.np
  have hB := hO.1
  have L : ∀ k, k ≤ np → xV γ 6 [some (.ref 351), some (vi w), some (vi (asked : Nat)), some (vi (nNext (D 352) w asked k)), some (vi (k : Nat)), none] [] (356, z) D r := by
    refine xup np (fun k hk ih => ?_)
    refine v_iload (q := 8) hX dX5_nextOf_6 rfl rfl ?_
    refine v_i2l (q := 9) hX ⟨by omega, by omega⟩ dX5_nextOf_8 rfl ?_
    refine v_aload_n (q := 10) hX dX5_nextOf_9 rfl rfl rfl ?_
    refine w_getR (q := 13) hX fl_X5_7 rfl oX5 hr.1 dX5_nextOf_10 rfl ?_
    refine v_iconst (q := 14) hX dX5_nextOf_13 rfl ?_
    refine w_lld (q := 15) (kk := 1) hX (by omega) (by omega) aNow dX5_nextOf_14 rfl ?_
    refine v_lcmp_ge (q := 19) (tgt := 93) hX ⟨by omega, by omega⟩ ⟨by omega, by omega⟩ dX5_nextOf_15 dX5_nextOf_16 (by decide) rfl (fun h15 => ?_) (fun h15 => ?_)
    · refine v_iload_n (q := 94) hX dX5_nextOf_93 rfl rfl rfl ?_
      refine v_ireturn hX hRX rfl (by first | rfl | exact bi_nar _) dX5_nextOf_94 rfl ?_
      rw [show k = np by omega]
      exact ⟨rfl, rfl, rfl⟩
    · refine v_iload_n (q := 20) hX dX5_nextOf_19 rfl rfl rfl ?_
      refine v_iload (q := 22) hX dX5_nextOf_20 rfl rfl ?_
      refine v_ishr (q := 23) hX (_) (bshr10 _ ha _ (by omega)) dX5_nextOf_22 rfl ?_
      refine v_iconst (q := 24) hX dX5_nextOf_23 rfl ?_
      refine v_iand (q := 25) hX (_) (band1k _ (Nat.lt_of_le_of_lt (Nat.shiftRight_le _ _) ha)) dX5_nextOf_24 rfl ?_
      refine v_if_ne (q := 28) (tgt := 49) hX ⟨by omega, by omega⟩ dX5_nextOf_25 (by decide) rfl (fun h25 => ?_) (fun h25 => ?_)
      · refine v_iconst (q := 50) hX dX5_nextOf_49 rfl ?_
        refine v_istore (q := 52) hX dX5_nextOf_50 (Nat.le_of_ble_eq_true rfl) (Nat.le_of_ble_eq_true rfl) rfl ?_
        dsimp only [xs1, xs2, xclr]
        refine v_iload (q := 54) hX dX5_nextOf_52 rfl rfl ?_
        refine v_if_eq (q := 57) (tgt := 85) hX ⟨by omega, by omega⟩ dX5_nextOf_54 (by decide) rfl (fun h54 => ?_) (fun h54 => ?_)
        · refine v_iload_n (q := 86) hX dX5_nextOf_85 rfl rfl rfl ?_
          refine v_istore_n (q := 87) hX dX5_nextOf_86 rfl (Nat.le_of_ble_eq_true rfl) (Nat.le_of_ble_eq_true rfl) rfl ?_
          dsimp only [xs1, xs2, xclr]
          refine v_iinc (q := 90) hX dX5_nextOf_87 rfl (Nat.le_of_ble_eq_true rfl) (Nat.le_of_ble_eq_true rfl) rfl ?_
          dsimp only [xs1, xs2, xclr]
          refine v_goto (tgt := 6) hX dX5_nextOf_90 (by decide) ?_
          have e1 := ih (by omega)
          simp only [nNext] at e1
          first | rw [if_pos (by refine ⟨⟨by omega, by omega⟩, ?_⟩; first | exact Or.inl h60 | exact Or.inr (by rw [hb1]; exact h76))] at e1 | rw [if_neg (by intro hh; first | omega | (have h5 := hh.2.resolve_left h60; rw [hb1] at h5; simp only [Int.toNat_natCast] at h5; omega))] at e1
          try rw [hb1] at e1
          exact xVw (by repeat' first | exact trivial | refine And.intro rfl ?_) e1
        · exact absurd h54 (by decide)
      · have q1 := nPj_le hO (p := k) (by omega) (w + 1) (by omega)
        have q2 := nCov_le hO (p := k) (by omega)
        refine v_aload_n (q := 29) hX dX5_nextOf_28 rfl rfl rfl ?_
        refine v_iload (q := 31) hX dX5_nextOf_29 rfl rfl ?_
        refine v_iload_n (q := 32) hX dX5_nextOf_31 rfl rfl rfl ?_
        refine w_callV (q := 35) hX (c_X5_project _ _ hr hO (k) (w) (by omega) (by omega)) rfl kV_X5_project rfl (by decide) lk_X5_101 (by decide) rfl oX5 (Nat.le_of_ble_eq_true rfl) dX5_nextOf_32 rfl ?_
        refine v_aload_n (q := 36) hX dX5_nextOf_35 rfl rfl rfl ?_
        refine v_iload (q := 38) hX dX5_nextOf_36 rfl rfl ?_
        refine w_callV (q := 41) hX (c_X5_cover _ _ hr hO (k) (by omega)) rfl kV_X5_cover rfl (by decide) lk_X5_98 (by decide) rfl oX5 (Nat.le_of_ble_eq_true rfl) dX5_nextOf_38 rfl ?_
        refine v_lcmp_ge (q := 45) (tgt := 49) hX ⟨by omega, by omega⟩ ⟨by omega, by omega⟩ dX5_nextOf_41 dX5_nextOf_42 (by decide) rfl (fun h41 => ?_) (fun h41 => ?_)
        · refine v_iconst (q := 50) hX dX5_nextOf_49 rfl ?_
          refine v_istore (q := 52) hX dX5_nextOf_50 (Nat.le_of_ble_eq_true rfl) (Nat.le_of_ble_eq_true rfl) rfl ?_
          dsimp only [xs1, xs2, xclr]
          refine v_iload (q := 54) hX dX5_nextOf_52 rfl rfl ?_
          refine v_if_eq (q := 57) (tgt := 85) hX ⟨by omega, by omega⟩ dX5_nextOf_54 (by decide) rfl (fun h54 => ?_) (fun h54 => ?_)
          · refine v_iload_n (q := 86) hX dX5_nextOf_85 rfl rfl rfl ?_
            refine v_istore_n (q := 87) hX dX5_nextOf_86 rfl (Nat.le_of_ble_eq_true rfl) (Nat.le_of_ble_eq_true rfl) rfl ?_
            dsimp only [xs1, xs2, xclr]
            refine v_iinc (q := 90) hX dX5_nextOf_87 rfl (Nat.le_of_ble_eq_true rfl) (Nat.le_of_ble_eq_true rfl) rfl ?_
            dsimp only [xs1, xs2, xclr]
            refine v_goto (tgt := 6) hX dX5_nextOf_90 (by decide) ?_
            have e1 := ih (by omega)
            simp only [nNext] at e1
            first | rw [if_pos (by refine ⟨⟨by omega, by omega⟩, ?_⟩; first | exact Or.inl h60 | exact Or.inr (by rw [hb1]; exact h76))] at e1 | rw [if_neg (by intro hh; first | omega | (have h5 := hh.2.resolve_left h60; rw [hb1] at h5; simp only [Int.toNat_natCast] at h5; omega))] at e1
            try rw [hb1] at e1
            exact xVw (by repeat' first | exact trivial | refine And.intro rfl ?_) e1
          · exact absurd h54 (by decide)
        · refine v_iconst (q := 46) hX dX5_nextOf_45 rfl ?_
          refine v_goto (tgt := 50) hX dX5_nextOf_46 (by decide) ?_
          refine v_istore (q := 52) hX dX5_nextOf_50 (Nat.le_of_ble_eq_true rfl) (Nat.le_of_ble_eq_true rfl) rfl ?_
          dsimp only [xs1, xs2, xclr]
          refine v_iload (q := 54) hX dX5_nextOf_52 rfl rfl ?_
          refine v_if_eq (q := 57) (tgt := 85) hX ⟨by omega, by omega⟩ dX5_nextOf_54 (by decide) rfl (fun h54 => ?_) (fun h54 => ?_)
          · exact absurd h54 (by decide)
          · have q9 := nNext_in (D 352) w asked k
            have q9 : -6 ≤ nNext (D 352) w asked k ∧ nNext (D 352) w asked k ≤ 10 := by rcases q9 with h | ⟨b, h1, h2, -⟩ <;> omega
            refine v_iload_n (q := 58) hX dX5_nextOf_57 rfl rfl rfl ?_
            refine v_bipush (q := 60) hX (by decide) dX5_nextOf_58 rfl ?_
            refine v_icmp_eq (q := 63) (tgt := 80) hX ⟨by omega, by omega⟩ (by decide) dX5_nextOf_60 (by decide) rfl (fun h60 => ?_) (fun h60 => ?_)
            · refine v_iload (q := 82) hX dX5_nextOf_80 rfl rfl ?_
              refine v_goto (tgt := 86) hX dX5_nextOf_82 (by decide) ?_
              refine v_istore_n (q := 87) hX dX5_nextOf_86 rfl (Nat.le_of_ble_eq_true rfl) (Nat.le_of_ble_eq_true rfl) rfl ?_
              dsimp only [xs1, xs2, xclr]
              refine v_iinc (q := 90) hX dX5_nextOf_87 rfl (Nat.le_of_ble_eq_true rfl) (Nat.le_of_ble_eq_true rfl) rfl ?_
              dsimp only [xs1, xs2, xclr]
              refine v_goto (tgt := 6) hX dX5_nextOf_90 (by decide) ?_
              have e1 := ih (by omega)
              simp only [nNext] at e1
              first | rw [if_pos (by refine ⟨⟨by omega, by omega⟩, ?_⟩; first | exact Or.inl h60 | exact Or.inr (by rw [hb1]; exact h76))] at e1 | rw [if_neg (by intro hh; first | omega | (have h5 := hh.2.resolve_left h60; rw [hb1] at h5; simp only [Int.toNat_natCast] at h5; omega))] at e1
              try rw [hb1] at e1
              exact xVw (by repeat' first | exact trivial | refine And.intro rfl ?_) e1
            · obtain ⟨b, hb1, hb2, -, -⟩ := (nNext_in (D 352) w asked k).resolve_left h60
              have q3 := nPj_le hO (p := b) (by omega) (w + 1) (by omega)
              rw [hb1]
              refine v_aload_n (q := 64) hX dX5_nextOf_63 rfl rfl rfl ?_
              refine v_iload (q := 66) hX dX5_nextOf_64 rfl rfl ?_
              refine v_iload_n (q := 67) hX dX5_nextOf_66 rfl rfl rfl ?_
              refine w_callV (q := 70) hX (c_X5_project _ _ hr hO (k) (w) (by omega) (by omega)) rfl kV_X5_project rfl (by decide) lk_X5_101 (by decide) rfl oX5 (Nat.le_of_ble_eq_true rfl) dX5_nextOf_67 rfl ?_
              refine v_aload_n (q := 71) hX dX5_nextOf_70 rfl rfl rfl ?_
              refine v_iload_n (q := 72) hX dX5_nextOf_71 rfl rfl rfl ?_
              refine v_iload_n (q := 73) hX dX5_nextOf_72 rfl rfl rfl ?_
              refine w_callV (q := 76) hX (c_X5_project _ _ hr hO (b) (w) (by omega) (by omega)) rfl kV_X5_project rfl (by decide) lk_X5_101 (by decide) rfl oX5 (Nat.le_of_ble_eq_true rfl) dX5_nextOf_73 rfl ?_
              refine v_lcmp_ge (q := 80) (tgt := 85) hX ⟨by omega, by omega⟩ ⟨by omega, by omega⟩ dX5_nextOf_76 dX5_nextOf_77 (by decide) rfl (fun h76 => ?_) (fun h76 => ?_)
              · refine v_iload_n (q := 86) hX dX5_nextOf_85 rfl rfl rfl ?_
                refine v_istore_n (q := 87) hX dX5_nextOf_86 rfl (Nat.le_of_ble_eq_true rfl) (Nat.le_of_ble_eq_true rfl) rfl ?_
                dsimp only [xs1, xs2, xclr]
                refine v_iinc (q := 90) hX dX5_nextOf_87 rfl (Nat.le_of_ble_eq_true rfl) (Nat.le_of_ble_eq_true rfl) rfl ?_
                dsimp only [xs1, xs2, xclr]
                refine v_goto (tgt := 6) hX dX5_nextOf_90 (by decide) ?_
                have e1 := ih (by omega)
                simp only [nNext] at e1
                first | rw [if_pos (by refine ⟨⟨by omega, by omega⟩, ?_⟩; first | exact Or.inl h60 | exact Or.inr (by rw [hb1]; exact h76))] at e1 | rw [if_neg (by intro hh; first | omega | (have h5 := hh.2.resolve_left h60; rw [hb1] at h5; simp only [Int.toNat_natCast] at h5; omega))] at e1
                try rw [hb1] at e1
                exact xVw (by repeat' first | exact trivial | refine And.intro rfl ?_) e1
              · refine v_iload (q := 82) hX dX5_nextOf_80 rfl rfl ?_
                refine v_goto (tgt := 86) hX dX5_nextOf_82 (by decide) ?_
                refine v_istore_n (q := 87) hX dX5_nextOf_86 rfl (Nat.le_of_ble_eq_true rfl) (Nat.le_of_ble_eq_true rfl) rfl ?_
                dsimp only [xs1, xs2, xclr]
                refine v_iinc (q := 90) hX dX5_nextOf_87 rfl (Nat.le_of_ble_eq_true rfl) (Nat.le_of_ble_eq_true rfl) rfl ?_
                dsimp only [xs1, xs2, xclr]
                refine v_goto (tgt := 6) hX dX5_nextOf_90 (by decide) ?_
                have e1 := ih (by omega)
                simp only [nNext] at e1
                first | rw [if_pos (by refine ⟨⟨by omega, by omega⟩, ?_⟩; first | exact Or.inl h60 | exact Or.inr (by rw [hb1]; exact h76))] at e1 | rw [if_neg (by intro hh; first | omega | (have h5 := hh.2.resolve_left h60; rw [hb1] at h5; simp only [Int.toNat_natCast] at h5; omega))] at e1
                try rw [hb1] at e1
                exact xVw (by repeat' first | exact trivial | refine And.intro rfl ?_) e1
  refine v_bipush (q := 2) hX (by decide) dX5_nextOf_0 rfl ?_
  refine v_istore_n (q := 3) hX dX5_nextOf_2 rfl (Nat.le_of_ble_eq_true rfl) (Nat.le_of_ble_eq_true rfl) rfl ?_
  dsimp only [xs1, xs2, xclr]
  refine v_iconst (q := 4) hX dX5_nextOf_3 rfl ?_
  refine v_istore (q := 6) hX dX5_nextOf_4 (Nat.le_of_ble_eq_true rfl) (Nat.le_of_ble_eq_true rfl) rfl ?_
  dsimp only [xs1, xs2, xclr]
  exact L 0 (Nat.zero_le _)

def nLotsP (N : Nat → Int) (p : Nat) : Nat → Int
  | 0 => 0
  | k + 1 => nLotsP N p k + pF N p (24 + k)
def nLots (N : Nat → Int) : Nat → Int
  | 0 => 0
  | p + 1 => nLots N p + nLotsP N p 12
def nSum (N : Nat → Int) (i : Nat) : Nat → Int
  | 0 => 0
  | p + 1 => nSum N i p + pF N p i
set_option maxRecDepth 100000 in
set_option maxHeartbeats 4000000 in
theorem c_X5_lotsInAll {z : Nat} (D : xD) (r : xR) (hr : xRM r) {B : Int} {np : Nat} (hO : nOk B np (D 352)) : MX 1 mX5_lotsInAll [.ref 351] (356, z) D r (356, z) (xP (vi (nLots (D 352) np)) D r) := by
  refine MX.of (by decide +kernel) [some (.ref 351), none, none, none, none] rfl (Nat.le_of_ble_eq_true rfl) ?_
  intro γ hX hRX
  have hn := hO.np
  have hB := hO.1
  have L : ∀ p, p ≤ np → xV γ 4 [some (.ref 351), some (vl (nLots (D 352) p)), none, some (vi (p : Nat)), none] [] (356, z) D r := by
    refine xup np (fun p hp ih => ?_)
    have M : p < np → xV γ 45 [some (.ref 351), some (vl (nLots (D 352) p + nLotsP (D 352) p 12)), none, some (vi (p : Nat)), none] [] (356, z) D r := by
      intro hpn
      refine v_iinc (q := 48) hX dX5_lotsInAll_45 rfl (Nat.le_of_ble_eq_true rfl) (Nat.le_of_ble_eq_true rfl) rfl ?_
      dsimp only [xs1, xs2, xclr]
      refine v_goto (tgt := 4) hX dX5_lotsInAll_48 (by decide) ?_
      exact ih hpn
    have I : p < np → ∀ k, k ≤ 12 → xV γ 19 [some (.ref 351), some (vl (nLots (D 352) p + nLotsP (D 352) p k)), none, some (vi (p : Nat)), some (vi (k : Nat))] [] (356, z) D r := by
      intro hpn
      refine xup 12 (fun k hk ih2 => ?_)
      refine v_iload (q := 21) hX dX5_lotsInAll_19 rfl rfl ?_
      refine v_bipush (q := 23) hX (by decide) dX5_lotsInAll_21 rfl ?_
      refine v_icmp_ge (q := 26) (tgt := 45) hX ⟨by omega, by omega⟩ (by decide) dX5_lotsInAll_23 (by decide) rfl (fun h23 => ?_) (fun h23 => ?_)
      · rw [show k = 12 by omega]
        exact xVw (by repeat' first | exact trivial | refine And.intro rfl ?_) (M hpn)
      · refine v_lload_n (q := 27) hX dX5_lotsInAll_26 rfl rfl rfl ?_
        refine v_aload_n (q := 28) hX dX5_lotsInAll_27 rfl rfl rfl ?_
        refine v_iload_n (q := 29) hX dX5_lotsInAll_28 rfl rfl rfl ?_
        refine v_bipush (q := 31) hX (by decide) dX5_lotsInAll_29 rfl ?_
        refine v_iload (q := 33) hX dX5_lotsInAll_31 rfl rfl ?_
        refine v_iadd (q := 34) hX dX5_lotsInAll_33 rfl ?_
        refine w_callV (q := 37) hX (c_X5_ofP _ _ hr (p) ((24 + k)) (by omega)) rfl kV_X5_ofP rfl (by decide) lk_X5_78 (by decide) rfl oX5 (Nat.le_of_ble_eq_true rfl) dX5_lotsInAll_34 rfl ?_
        refine v_ladd (q := 38) hX dX5_lotsInAll_37 rfl ?_
        refine v_lstore_n (q := 39) hX dX5_lotsInAll_38 rfl (Nat.le_of_ble_eq_true rfl) (Nat.le_of_ble_eq_true rfl) rfl ?_
        dsimp only [xs1, xs2, xclr]
        refine v_iinc (q := 42) hX dX5_lotsInAll_39 rfl (Nat.le_of_ble_eq_true rfl) (Nat.le_of_ble_eq_true rfl) rfl ?_
        dsimp only [xs1, xs2, xclr]
        refine v_goto (tgt := 19) hX dX5_lotsInAll_42 (by decide) ?_
        have e1 := ih2 (by omega)
        simp only [nLotsP] at e1
        rw [← Int.add_assoc] at e1
        exact e1
    refine v_iload_n (q := 5) hX dX5_lotsInAll_4 rfl rfl rfl ?_
    refine v_i2l (q := 6) hX ⟨by omega, by omega⟩ dX5_lotsInAll_5 rfl ?_
    refine v_aload_n (q := 7) hX dX5_lotsInAll_6 rfl rfl rfl ?_
    refine w_getR (q := 10) hX fl_X5_7 rfl oX5 hr.1 dX5_lotsInAll_7 rfl ?_
    refine v_iconst (q := 11) hX dX5_lotsInAll_10 rfl ?_
    refine w_lld (q := 12) (kk := 1) hX (by omega) (by omega) aNow dX5_lotsInAll_11 rfl ?_
    refine v_lcmp_ge (q := 16) (tgt := 51) hX ⟨by omega, by omega⟩ ⟨by omega, by omega⟩ dX5_lotsInAll_12 dX5_lotsInAll_13 (by decide) rfl (fun h12 => ?_) (fun h12 => ?_)
    · refine v_lload_n (q := 52) hX dX5_lotsInAll_51 rfl rfl rfl ?_
      refine v_l2i (q := 53) hX dX5_lotsInAll_52 rfl ?_
      refine v_ireturn hX hRX rfl (by first | rfl | exact bi_nar _) dX5_lotsInAll_53 rfl ?_
      rw [show p = np by omega]
      exact ⟨rfl, rfl, rfl⟩
    · refine v_iconst (q := 17) hX dX5_lotsInAll_16 rfl ?_
      refine v_istore (q := 19) hX dX5_lotsInAll_17 (Nat.le_of_ble_eq_true rfl) (Nat.le_of_ble_eq_true rfl) rfl ?_
      dsimp only [xs1, xs2, xclr]
      have e1 := I (by omega) 0 (Nat.zero_le _)
      simp only [nLotsP, Int.add_zero] at e1
      exact e1
  refine v_lconst (q := 1) (e := 0) hX (by decide) dX5_lotsInAll_0 rfl ?_
  refine v_lstore_n (q := 2) hX dX5_lotsInAll_1 rfl (Nat.le_of_ble_eq_true rfl) (Nat.le_of_ble_eq_true rfl) rfl ?_
  dsimp only [xs1, xs2, xclr]
  refine v_iconst (q := 3) hX dX5_lotsInAll_2 rfl ?_
  refine v_istore_n (q := 4) hX dX5_lotsInAll_3 rfl (Nat.le_of_ble_eq_true rfl) (Nat.le_of_ble_eq_true rfl) rfl ?_
  dsimp only [xs1, xs2, xclr]
  exact L 0 (Nat.zero_le _)

set_option maxRecDepth 100000 in
set_option maxHeartbeats 4000000 in
theorem c_X5_sumOf {z : Nat} (D : xD) (r : xR) (hr : xRM r) {B : Int} {np : Nat} (hO : nOk B np (D 352)) (w : Nat) (hw : w < 36) : MX 1 mX5_sumOf [.ref 351, vi w] (356, z) D r (356, z) (xP (vl (nSum (D 352) w np)) D r) := by
  refine MX.of (by decide +kernel) [some (.ref 351), some (vi w), none, none, none] rfl (Nat.le_of_ble_eq_true rfl) ?_
  intro γ hX hRX
  have hn := hO.np
  have hB := hO.1
  have L : ∀ p, p ≤ np → xV γ 5 [some (.ref 351), some (vi w), some (vl (nSum (D 352) w p)), none, some (vi (p : Nat))] [] (356, z) D r := by
    refine xup np (fun p hp ih => ?_)
    refine v_iload (q := 7) hX dX5_sumOf_5 rfl rfl ?_
    refine v_i2l (q := 8) hX ⟨by omega, by omega⟩ dX5_sumOf_7 rfl ?_
    refine v_aload_n (q := 9) hX dX5_sumOf_8 rfl rfl rfl ?_
    refine w_getR (q := 12) hX fl_X5_7 rfl oX5 hr.1 dX5_sumOf_9 rfl ?_
    refine v_iconst (q := 13) hX dX5_sumOf_12 rfl ?_
    refine w_lld (q := 14) (kk := 1) hX (by omega) (by omega) aNow dX5_sumOf_13 rfl ?_
    refine v_lcmp_ge (q := 18) (tgt := 34) hX ⟨by omega, by omega⟩ ⟨by omega, by omega⟩ dX5_sumOf_14 dX5_sumOf_15 (by decide) rfl (fun h14 => ?_) (fun h14 => ?_)
    · refine v_lload_n (q := 35) hX dX5_sumOf_34 rfl rfl rfl ?_
      refine v_lreturn hX hRX rfl dX5_sumOf_35 rfl ?_
      rw [show p = np by omega]
      exact ⟨rfl, rfl, rfl⟩
    · refine v_lload_n (q := 19) hX dX5_sumOf_18 rfl rfl rfl ?_
      refine v_aload_n (q := 20) hX dX5_sumOf_19 rfl rfl rfl ?_
      refine v_iload (q := 22) hX dX5_sumOf_20 rfl rfl ?_
      refine v_iload_n (q := 23) hX dX5_sumOf_22 rfl rfl rfl ?_
      refine w_callV (q := 26) hX (c_X5_ofP _ _ hr (p) (w) (by omega)) rfl kV_X5_ofP rfl (by decide) lk_X5_78 (by decide) rfl oX5 (Nat.le_of_ble_eq_true rfl) dX5_sumOf_23 rfl ?_
      refine v_ladd (q := 27) hX dX5_sumOf_26 rfl ?_
      refine v_lstore_n (q := 28) hX dX5_sumOf_27 rfl (Nat.le_of_ble_eq_true rfl) (Nat.le_of_ble_eq_true rfl) rfl ?_
      dsimp only [xs1, xs2, xclr]
      refine v_iinc (q := 31) hX dX5_sumOf_28 rfl (Nat.le_of_ble_eq_true rfl) (Nat.le_of_ble_eq_true rfl) rfl ?_
      dsimp only [xs1, xs2, xclr]
      refine v_goto (tgt := 5) hX dX5_sumOf_31 (by decide) ?_
      exact ih (by omega)
  refine v_lconst (q := 1) (e := 0) hX (by decide) dX5_sumOf_0 rfl ?_
  refine v_lstore_n (q := 2) hX dX5_sumOf_1 rfl (Nat.le_of_ble_eq_true rfl) (Nat.le_of_ble_eq_true rfl) rfl ?_
  dsimp only [xs1, xs2, xclr]
  refine v_iconst (q := 3) hX dX5_sumOf_2 rfl ?_
  refine v_istore (q := 5) hX dX5_sumOf_3 (Nat.le_of_ble_eq_true rfl) (Nat.le_of_ble_eq_true rfl) rfl ?_
  dsimp only [xs1, xs2, xclr]
  exact L 0 (Nat.zero_le _)

/-- no projection of a product behind a week from the f-th on, ahead of the k-th, is below 0 -/
def nDoW (N : Nat → Int) (p f : Nat) : Nat → Bool
  | 0 => true
  | n + 1 => nDoW N p f n && decide (0 ≤ nPj N p (f + n + 1))
def nDo (N : Nat → Int) (f : Nat) : Nat → Bool
  | 0 => true
  | p + 1 => nDo N f p && nDoW N p f (12 - f)
set_option maxRecDepth 100000 in
set_option maxHeartbeats 4000000 in
theorem c_X5_does {z : Nat} (D : xD) (r : xR) (hr : xRM r) {B : Int} {np : Nat} (hO : nOk B np (D 352)) (f : Nat) (hf1 : D 352 7 = (f : Int)) (hf2 : f ≤ 8) : MX 2 mX5_does [.ref 351] (356, z) D r (356, z) (xP (vi (bi (nDo (D 352) f np = true))) D r) := by
  refine MX.of (by decide +kernel) [some (.ref 351), none, none, none] rfl (Nat.le_of_ble_eq_true rfl) ?_
  intro γ hX hRX
  have hn := hO.np
  have hB := hO.1
  have L : ∀ p, p ≤ np → xV γ 4 [some (.ref 351), some (vi (bi (nDo (D 352) f p = true))), some (vi (p : Nat)), none] [] (356, z) D r := by
    refine xup np (fun p hp ih => ?_)
    have M : p < np → xV γ 54 [some (.ref 351), some (vi (bi ((nDo (D 352) f p && nDoW (D 352) p f (12 - f)) = true))), some (vi (p : Nat)), none] [] (356, z) D r := by
      intro hpn
      refine v_iinc (q := 57) hX dX5_does_54 rfl (Nat.le_of_ble_eq_true rfl) (Nat.le_of_ble_eq_true rfl) rfl ?_
      dsimp only [xs1, xs2, xclr]
      refine v_goto (tgt := 4) hX dX5_does_57 (by decide) ?_
      exact ih hpn
    have I : p < np → ∀ n, n ≤ 12 - f → xV γ 21 [some (.ref 351), some (vi (bi ((nDo (D 352) f p && nDoW (D 352) p f n) = true))), some (vi (p : Nat)), some (vi ((f + n : Nat) : Int))] [] (356, z) D r := by
      intro hpn
      refine xup (12 - f) (fun n hk ih2 => ?_)
      refine v_iload_n (q := 22) hX dX5_does_21 rfl rfl rfl ?_
      refine v_bipush (q := 24) hX (by decide) dX5_does_22 rfl ?_
      refine v_icmp_ge (q := 27) (tgt := 54) hX ⟨by omega, by omega⟩ (by decide) dX5_does_24 (by decide) rfl (fun h24 => ?_) (fun h24 => ?_)
      · rw [show n = 12 - f by omega]
        exact xVw (by repeat' first | exact trivial | refine And.intro rfl ?_) (M hpn)
      · refine v_iload_n (q := 28) hX dX5_does_27 rfl rfl rfl ?_
        refine w_ifeq (q := 31) (tgt := 46) hX dX5_does_28 (by decide) rfl (fun h28 => ?_) (fun h28 => ?_)
        · refine v_iconst (q := 47) hX dX5_does_46 rfl ?_
          refine v_istore_n (q := 48) hX dX5_does_47 rfl (Nat.le_of_ble_eq_true rfl) (Nat.le_of_ble_eq_true rfl) rfl ?_
          dsimp only [xs1, xs2, xclr]
          refine v_iinc (q := 51) hX dX5_does_48 rfl (Nat.le_of_ble_eq_true rfl) (Nat.le_of_ble_eq_true rfl) rfl ?_
          dsimp only [xs1, xs2, xclr]
          refine v_goto (tgt := 21) hX dX5_does_51 (by decide) ?_
          have e1 := ih2 (by omega)
          first | rw [show bi ((nDo (D 352) f p && nDoW (D 352) p f (n + 1)) = true) = 1 from if_pos (by simp only [nDoW, Bool.and_eq_true, decide_eq_true_eq] at h28 ⊢; exact ⟨h28.1, h28.2, h38⟩)] at e1 | rw [show bi ((nDo (D 352) f p && nDoW (D 352) p f (n + 1)) = true) = 0 from if_neg (fun hh => by simp only [nDoW, Bool.and_eq_true, decide_eq_true_eq] at hh h28; first | exact h28 ⟨hh.1, hh.2.1⟩ | exact absurd hh.2.2 (Int.not_le.mpr h38))] at e1
          exact e1
        · have q1 := nPj_le hO (p := p) (by omega) (f + n + 1) (by omega)
          refine v_aload_n (q := 32) hX dX5_does_31 rfl rfl rfl ?_
          refine v_iload_n (q := 33) hX dX5_does_32 rfl rfl rfl ?_
          refine v_iload_n (q := 34) hX dX5_does_33 rfl rfl rfl ?_
          refine w_callV (q := 37) hX (c_X5_project _ _ hr hO (p) ((f + n)) (by omega) (by omega)) rfl kV_X5_project rfl (by decide) lk_X5_101 (by decide) rfl oX5 (Nat.le_of_ble_eq_true rfl) dX5_does_34 rfl ?_
          refine v_lconst (q := 38) (e := 0) hX (by decide) dX5_does_37 rfl ?_
          refine v_lcmp_lt (q := 42) (tgt := 46) hX ⟨by omega, by omega⟩ (by decide) dX5_does_38 dX5_does_39 (by decide) rfl (fun h38 => ?_) (fun h38 => ?_)
          · refine v_iconst (q := 47) hX dX5_does_46 rfl ?_
            refine v_istore_n (q := 48) hX dX5_does_47 rfl (Nat.le_of_ble_eq_true rfl) (Nat.le_of_ble_eq_true rfl) rfl ?_
            dsimp only [xs1, xs2, xclr]
            refine v_iinc (q := 51) hX dX5_does_48 rfl (Nat.le_of_ble_eq_true rfl) (Nat.le_of_ble_eq_true rfl) rfl ?_
            dsimp only [xs1, xs2, xclr]
            refine v_goto (tgt := 21) hX dX5_does_51 (by decide) ?_
            have e1 := ih2 (by omega)
            first | rw [show bi ((nDo (D 352) f p && nDoW (D 352) p f (n + 1)) = true) = 1 from if_pos (by simp only [nDoW, Bool.and_eq_true, decide_eq_true_eq] at h28 ⊢; exact ⟨h28.1, h28.2, h38⟩)] at e1 | rw [show bi ((nDo (D 352) f p && nDoW (D 352) p f (n + 1)) = true) = 0 from if_neg (fun hh => by simp only [nDoW, Bool.and_eq_true, decide_eq_true_eq] at hh h28; first | exact h28 ⟨hh.1, hh.2.1⟩ | exact absurd hh.2.2 (Int.not_le.mpr h38))] at e1
            exact e1
          · refine v_iconst (q := 43) hX dX5_does_42 rfl ?_
            refine v_goto (tgt := 47) hX dX5_does_43 (by decide) ?_
            refine v_istore_n (q := 48) hX dX5_does_47 rfl (Nat.le_of_ble_eq_true rfl) (Nat.le_of_ble_eq_true rfl) rfl ?_
            dsimp only [xs1, xs2, xclr]
            refine v_iinc (q := 51) hX dX5_does_48 rfl (Nat.le_of_ble_eq_true rfl) (Nat.le_of_ble_eq_true rfl) rfl ?_
            dsimp only [xs1, xs2, xclr]
            refine v_goto (tgt := 21) hX dX5_does_51 (by decide) ?_
            have e1 := ih2 (by omega)
            first | rw [show bi ((nDo (D 352) f p && nDoW (D 352) p f (n + 1)) = true) = 1 from if_pos (by simp only [nDoW, Bool.and_eq_true, decide_eq_true_eq] at h28 ⊢; exact ⟨h28.1, h28.2, h38⟩)] at e1 | rw [show bi ((nDo (D 352) f p && nDoW (D 352) p f (n + 1)) = true) = 0 from if_neg (fun hh => by simp only [nDoW, Bool.and_eq_true, decide_eq_true_eq] at hh h28; first | exact h28 ⟨hh.1, hh.2.1⟩ | exact absurd hh.2.2 (Int.not_le.mpr h38))] at e1
            exact e1
    refine v_iload_n (q := 5) hX dX5_does_4 rfl rfl rfl ?_
    refine v_i2l (q := 6) hX ⟨by omega, by omega⟩ dX5_does_5 rfl ?_
    refine v_aload_n (q := 7) hX dX5_does_6 rfl rfl rfl ?_
    refine w_getR (q := 10) hX fl_X5_7 rfl oX5 hr.1 dX5_does_7 rfl ?_
    refine v_iconst (q := 11) hX dX5_does_10 rfl ?_
    refine w_lld (q := 12) (kk := 1) hX (by omega) (by omega) aNow dX5_does_11 rfl ?_
    refine v_lcmp_ge (q := 16) (tgt := 60) hX ⟨by omega, by omega⟩ ⟨by omega, by omega⟩ dX5_does_12 dX5_does_13 (by decide) rfl (fun h12 => ?_) (fun h12 => ?_)
    · refine v_iload_n (q := 61) hX dX5_does_60 rfl rfl rfl ?_
      refine v_ireturn hX hRX rfl (by first | rfl | exact bi_nar _) dX5_does_61 rfl ?_
      rw [show p = np by omega]
      exact ⟨rfl, rfl, rfl⟩
    · refine v_aload_n (q := 17) hX dX5_does_16 rfl rfl rfl ?_
      refine w_callV (q := 20) hX (c_X5_fence _ _ hr) rfl kV_X5_fence rfl (by decide) lk_X5_114 (by decide) rfl oX5 (Nat.le_of_ble_eq_true rfl) dX5_does_17 rfl ?_
      rw [hf1]
      refine v_istore_n (q := 21) hX dX5_does_20 rfl (Nat.le_of_ble_eq_true rfl) (Nat.le_of_ble_eq_true rfl) rfl ?_
      dsimp only [xs1, xs2, xclr]
      have e1 := I (by omega) 0 (Nat.zero_le _)
      simp only [nDoW, Bool.and_true] at e1
      exact e1
  refine v_iconst (q := 1) hX dX5_does_0 rfl ?_
  refine v_istore_n (q := 2) hX dX5_does_1 rfl (Nat.le_of_ble_eq_true rfl) (Nat.le_of_ble_eq_true rfl) rfl ?_
  dsimp only [xs1, xs2, xclr]
  refine v_iconst (q := 3) hX dX5_does_2 rfl ?_
  refine v_istore_n (q := 4) hX dX5_does_3 rfl (Nat.le_of_ble_eq_true rfl) (Nat.le_of_ble_eq_true rfl) rfl ?_
  dsimp only [xs1, xs2, xclr]
  exact L 0 (Nat.zero_le _)
end
section
/-! ===== the plain state: how it changes ===== -/
/-- the numbers of a product -/
def nRec (N : Nat → Int) (p : Nat) : Nat → Int := fun j => pF N p j
def nUpd (N : Nat → Int) (p : Nat) (f : Nat → Int) : Nat → Int := fun i => if 18 + 36 * p ≤ i ∧ i < 18 + 36 * p + 36 then f (i - (18 + 36 * p)) else N i
def nMap (N : Nat → Int) (k : Nat) (F : (Nat → Int) → Nat → Int) : Nat → Int := fun i => if 18 ≤ i ∧ i < 18 + 36 * k then F (nRec N ((i - 18) / 36)) ((i - 18) % 36) else N i
theorem nUpd_at (N : Nat → Int) (p : Nat) (f : Nat → Int) {j : Nat} (h : j < 36) : pF (nUpd N p f) p j = f j := by
  unfold nUpd pF
  dsimp only
  rw [if_pos (by omega), show 18 + 36 * p + j - (18 + 36 * p) = j by omega]
theorem nUpd_hd (N : Nat → Int) (p : Nat) (f : Nat → Int) {i : Nat} (h : i < 18) : nUpd N p f i = N i := if_neg (by omega)
theorem nUpd_ne (N : Nat → Int) {p q : Nat} (f : Nat → Int) {j : Nat} (h : q ≠ p) (hj : j < 36) : pF (nUpd N p f) q j = pF N q j := if_neg (by omega)
theorem nUpd_fu (N : Nat → Int) (p : Nat) (f : Nat → Int) {a : Nat} (e : Int) (h : a < 36) : fu (nUpd N p f) (18 + 36 * p + a) e = nUpd N p (fu f a e) := by
  funext i
  unfold fu nUpd
  by_cases h1 : i = 18 + 36 * p + a
  · subst h1
    rw [if_pos rfl, if_pos (by omega)]
    dsimp only
    rw [if_pos (by omega)]
  · rw [if_neg h1]
    by_cases h2 : 18 + 36 * p ≤ i ∧ i < 18 + 36 * p + 36
    · rw [if_pos h2, if_pos h2]
      dsimp only
      rw [if_neg (by omega)]
    · rw [if_neg h2, if_neg h2]
theorem nUpd_self (N : Nat → Int) (p : Nat) : nUpd N p (nRec N p) = N := by
  funext i
  unfold nUpd nRec pF
  split
  · congr 1; omega
  · rfl
theorem nMap_0 (N : Nat → Int) (F : (Nat → Int) → Nat → Int) : nMap N 0 F = N := by funext i; exact if_neg (by omega)
theorem nMap_at (N : Nat → Int) {k p : Nat} (F : (Nat → Int) → Nat → Int) {j : Nat} (hp : p < k) (hj : j < 36) : pF (nMap N k F) p j = F (nRec N p) j := by
  unfold nMap pF
  dsimp only
  rw [if_pos (by omega), show (18 + 36 * p + j - 18) / 36 = p by omega, show (18 + 36 * p + j - 18) % 36 = j by omega]
theorem nMap_ge (N : Nat → Int) {k p : Nat} (F : (Nat → Int) → Nat → Int) {j : Nat} (hp : k ≤ p) : pF (nMap N k F) p j = pF N p j := if_neg (by omega)
theorem nMap_hd (N : Nat → Int) (k : Nat) (F : (Nat → Int) → Nat → Int) {i : Nat} (h : i < 18) : nMap N k F i = N i := if_neg (by omega)
theorem nMap_succ (N : Nat → Int) (k : Nat) (F : (Nat → Int) → Nat → Int) : nUpd (nMap N k F) k (F (nRec (nMap N k F) k)) = nMap N (k + 1) F := by
  have h0 : nRec (nMap N k F) k = nRec N k := by funext j; exact nMap_ge N F (Nat.le_refl k)
  rw [h0]
  funext i
  unfold nUpd nMap
  by_cases h1 : 18 + 36 * k ≤ i ∧ i < 18 + 36 * k + 36
  · rw [if_pos h1, if_pos (by omega), show (i - 18) / 36 = k by omega, show (i - 18) % 36 = i - (18 + 36 * k) by omega]
  · rw [if_neg h1]
    by_cases h2 : 18 ≤ i ∧ i < 18 + 36 * k
    · rw [if_pos h2, if_pos (by omega)]
    · rw [if_neg h2, if_neg (by omega)]
theorem nRec_upd (N : Nat → Int) (p : Nat) (f : Nat → Int) : ∀ j, j < 36 → nRec (nUpd N p f) p j = f j := fun j h => nUpd_at N p f h
theorem fu_rec_ne (N : Nat → Int) (p a j : Nat) (e : Int) (h : j ≠ a) : pF (fu N (18 + 36 * p + a) e) p j = pF N p j := fu_ne N _ e (by omega)
/-! what comes, and what is shipped -/
def rCame (q : Nat → Int) : Int := if q 7 = -6 then q 12 else q 7
def rWant (q : Nat → Int) : Int := rCame q + q 5
def rHave (q : Nat → Int) : Int := q 4 + q 24 * q 1
def rSent (q : Nat → Int) : Int := if rWant q < rHave q then rWant q else rHave q
def rOff (q : Nat → Int) : Int := if q 12 < rCame q then rCame q - q 12 else q 12 - rCame q
def rShip (q : Nat → Int) : Nat → Int := fu (fu (fu (fu (fu (fu q 4 (rHave q - rSent q)) 5 (rWant q - rSent q)) 6 ((7 * q 6 + rOff q + 7) / 8)) 8 (q 8 + q 24 * q 1)) 9 (q 9 + rSent q)) 10 (q 10 + rCame q)
set_option maxRecDepth 100000 in
set_option maxHeartbeats 4000000 in
theorem c_X5_ships {z : Nat} (D : xD) (r : xR) (hr : xRM r) {B : Int} {np : Nat} (hO : nOk B np (D 352)) (p : Nat) (hp : p < np) : MX 1 mX5_ships [.ref 351, vi p] (356, z) D r (356, z) (xEn (fun D' => D' = xw D 352 (nUpd (D 352) p (rShip (nRec (D 352) p)))) r) := by
  refine MX.of (by decide +kernel) [some (.ref 351), some (vi p), none, none, none, none, none, none, none, none, none, none, none, none] rfl (Nat.le_of_ble_eq_true rfl) ?_
  intro γ hX hRX
  have hn := hO.np
  have hB := hO.1
  obtain ⟨-, h1, -, -, h4, h5, h6, h7, hfc, hlo⟩ := hO.2.2.2.2.2 p hp
  have hl0 : 0 ≤ pF (D 352) p 24 ∧ pF (D 352) p 24 ≤ 1000 := hlo 0 (by decide)
  have hf0 : 0 ≤ pF (D 352) p 12 ∧ pF (D 352) p 12 ≤ 1000 := hfc 0 (by decide)
  have hm1 : 0 ≤ pF (D 352) p 24 * pF (D 352) p 1 := Int.mul_nonneg hl0.1 (by omega)
  have hm2 : pF (D 352) p 24 * pF (D 352) p 1 ≤ 1000 * 100 := Int.mul_le_mul hl0.2 h1.2 (by omega) (by omega)
  have hq : ∀ j, nRec (D 352) p j = pF (D 352) p j := fun _ => rfl
  have hcm : 0 ≤ rCame (nRec (D 352) p) ∧ rCame (nRec (D 352) p) ≤ 2000 := by
    unfold rCame; simp only [hq]; split <;> omega
  have hof : 0 ≤ rOff (nRec (D 352) p) ∧ rOff (nRec (D 352) p) ≤ 2000 := by
    unfold rOff; simp only [hq]; split <;> omega
  have K122 : xV γ 122 [some (.ref 351), some (vi p), some (vl (pF (D 352) p 24 * pF (D 352) p 1)), none, some (vl (rCame (nRec (D 352) p))), none, some (vl (rHave (nRec (D 352) p))), none, some (vl (rWant (nRec (D 352) p))), none, some (vl (rSent (nRec (D 352) p))), none, none, none] [vl (rOff (nRec (D 352) p))] (356, z) D r := by
    refine v_lstore (q := 124) hX dX5_ships_122 (Nat.le_of_ble_eq_true rfl) (Nat.le_of_ble_eq_true rfl) rfl ?_
    dsimp only [xs1, xs2, xclr]
    refine v_aload_n (q := 125) hX dX5_ships_124 rfl rfl rfl ?_
    refine v_iload_n (q := 126) hX dX5_ships_125 rfl rfl rfl ?_
    refine v_iconst (q := 127) hX dX5_ships_126 rfl ?_
    refine v_lload (q := 129) hX dX5_ships_127 rfl rfl ?_
    refine v_lload (q := 131) hX dX5_ships_129 rfl rfl ?_
    refine v_lsub (q := 132) hX dX5_ships_131 rfl ?_
    refine w_callVn (q := 135) hX (c_X5_becomes _ _ hr (p) (4) _ (by omega)) rfl kV_X5_becomes rfl (by decide) lk_X5_72 (by decide) rfl oX5 (Nat.le_of_ble_eq_true rfl) dX5_ships_132 rfl (fun D1 hD1 => ?_)
    subst hD1
    try simp only [xw_at, xw_xw]
    refine v_aload_n (q := 136) hX dX5_ships_135 rfl rfl rfl ?_
    refine v_iload_n (q := 137) hX dX5_ships_136 rfl rfl rfl ?_
    refine v_iconst (q := 138) hX dX5_ships_137 rfl ?_
    refine v_lload (q := 140) hX dX5_ships_138 rfl rfl ?_
    refine v_lload (q := 142) hX dX5_ships_140 rfl rfl ?_
    refine v_lsub (q := 143) hX dX5_ships_142 rfl ?_
    refine w_callVn (q := 146) hX (c_X5_becomes _ _ hr (p) (5) _ (by omega)) rfl kV_X5_becomes rfl (by decide) lk_X5_72 (by decide) rfl oX5 (Nat.le_of_ble_eq_true rfl) dX5_ships_143 rfl (fun D1 hD1 => ?_)
    subst hD1
    try simp only [xw_at, xw_xw]
    refine v_aload_n (q := 147) hX dX5_ships_146 rfl rfl rfl ?_
    refine v_iload_n (q := 148) hX dX5_ships_147 rfl rfl rfl ?_
    refine v_bipush (q := 150) hX (by decide) dX5_ships_148 rfl ?_
    refine v_ldc2 (q := 153) (e := 7) hX (by decide) kl_X5_155 dX5_ships_150 rfl ?_
    refine v_aload_n (q := 154) hX dX5_ships_153 rfl rfl rfl ?_
    refine v_iload_n (q := 155) hX dX5_ships_154 rfl rfl rfl ?_
    refine v_bipush (q := 157) hX (by decide) dX5_ships_155 rfl ?_
    refine w_callV (q := 160) hX (c_X5_ofP _ _ hr (p) (6) (by omega)) rfl kV_X5_ofP rfl (by decide) lk_X5_78 (by decide) rfl oX5 (Nat.le_of_ble_eq_true rfl) dX5_ships_157 rfl ?_
    try simp only [xw_at, xw_xw]
    rw [fu_rec_ne _ _ 5 6 _ (by decide), fu_rec_ne _ _ 4 6 _ (by decide)]
    refine v_lmul (q := 161) hX dX5_ships_160 rfl ?_
    refine v_lload (q := 163) hX dX5_ships_161 rfl rfl ?_
    refine v_ladd (q := 164) hX dX5_ships_163 rfl ?_
    refine v_ldc2 (q := 167) (e := 7) hX (by decide) kl_X5_155 dX5_ships_164 rfl ?_
    refine v_ladd (q := 168) hX dX5_ships_167 rfl ?_
    refine v_ldc2 (q := 171) (e := 8) hX (by decide) kl_X5_59 dX5_ships_168 rfl ?_
    refine v_ldiv (q := 172) hX (by omega) ⟨by omega, by omega⟩ (by decide) (by decide) dX5_ships_171 rfl ?_
    refine w_callVn (q := 175) hX (c_X5_becomes _ _ hr (p) (6) _ (by omega)) rfl kV_X5_becomes rfl (by decide) lk_X5_72 (by decide) rfl oX5 (Nat.le_of_ble_eq_true rfl) dX5_ships_172 rfl (fun D1 hD1 => ?_)
    subst hD1
    try simp only [xw_at, xw_xw]
    refine v_aload_n (q := 176) hX dX5_ships_175 rfl rfl rfl ?_
    refine v_iload_n (q := 177) hX dX5_ships_176 rfl rfl rfl ?_
    refine v_bipush (q := 179) hX (by decide) dX5_ships_177 rfl ?_
    refine v_aload_n (q := 180) hX dX5_ships_179 rfl rfl rfl ?_
    refine v_iload_n (q := 181) hX dX5_ships_180 rfl rfl rfl ?_
    refine v_bipush (q := 183) hX (by decide) dX5_ships_181 rfl ?_
    refine w_callV (q := 186) hX (c_X5_ofP _ _ hr (p) (8) (by omega)) rfl kV_X5_ofP rfl (by decide) lk_X5_78 (by decide) rfl oX5 (Nat.le_of_ble_eq_true rfl) dX5_ships_183 rfl ?_
    try simp only [xw_at, xw_xw]
    rw [fu_rec_ne _ _ 6 8 _ (by decide), fu_rec_ne _ _ 5 8 _ (by decide), fu_rec_ne _ _ 4 8 _ (by decide)]
    refine v_lload_n (q := 187) hX dX5_ships_186 rfl rfl rfl ?_
    refine v_ladd (q := 188) hX dX5_ships_187 rfl ?_
    refine w_callVn (q := 191) hX (c_X5_becomes _ _ hr (p) (8) _ (by omega)) rfl kV_X5_becomes rfl (by decide) lk_X5_72 (by decide) rfl oX5 (Nat.le_of_ble_eq_true rfl) dX5_ships_188 rfl (fun D1 hD1 => ?_)
    subst hD1
    try simp only [xw_at, xw_xw]
    refine v_aload_n (q := 192) hX dX5_ships_191 rfl rfl rfl ?_
    refine v_iload_n (q := 193) hX dX5_ships_192 rfl rfl rfl ?_
    refine v_bipush (q := 195) hX (by decide) dX5_ships_193 rfl ?_
    refine v_aload_n (q := 196) hX dX5_ships_195 rfl rfl rfl ?_
    refine v_iload_n (q := 197) hX dX5_ships_196 rfl rfl rfl ?_
    refine v_bipush (q := 199) hX (by decide) dX5_ships_197 rfl ?_
    refine w_callV (q := 202) hX (c_X5_ofP _ _ hr (p) (9) (by omega)) rfl kV_X5_ofP rfl (by decide) lk_X5_78 (by decide) rfl oX5 (Nat.le_of_ble_eq_true rfl) dX5_ships_199 rfl ?_
    try simp only [xw_at, xw_xw]
    rw [fu_rec_ne _ _ 8 9 _ (by decide), fu_rec_ne _ _ 6 9 _ (by decide), fu_rec_ne _ _ 5 9 _ (by decide), fu_rec_ne _ _ 4 9 _ (by decide)]
    refine v_lload (q := 204) hX dX5_ships_202 rfl rfl ?_
    refine v_ladd (q := 205) hX dX5_ships_204 rfl ?_
    refine w_callVn (q := 208) hX (c_X5_becomes _ _ hr (p) (9) _ (by omega)) rfl kV_X5_becomes rfl (by decide) lk_X5_72 (by decide) rfl oX5 (Nat.le_of_ble_eq_true rfl) dX5_ships_205 rfl (fun D1 hD1 => ?_)
    subst hD1
    try simp only [xw_at, xw_xw]
    refine v_aload_n (q := 209) hX dX5_ships_208 rfl rfl rfl ?_
    refine v_iload_n (q := 210) hX dX5_ships_209 rfl rfl rfl ?_
    refine v_bipush (q := 212) hX (by decide) dX5_ships_210 rfl ?_
    refine v_aload_n (q := 213) hX dX5_ships_212 rfl rfl rfl ?_
    refine v_iload_n (q := 214) hX dX5_ships_213 rfl rfl rfl ?_
    refine v_bipush (q := 216) hX (by decide) dX5_ships_214 rfl ?_
    refine w_callV (q := 219) hX (c_X5_ofP _ _ hr (p) (10) (by omega)) rfl kV_X5_ofP rfl (by decide) lk_X5_78 (by decide) rfl oX5 (Nat.le_of_ble_eq_true rfl) dX5_ships_216 rfl ?_
    try simp only [xw_at, xw_xw]
    rw [fu_rec_ne _ _ 9 10 _ (by decide), fu_rec_ne _ _ 8 10 _ (by decide), fu_rec_ne _ _ 6 10 _ (by decide), fu_rec_ne _ _ 5 10 _ (by decide), fu_rec_ne _ _ 4 10 _ (by decide)]
    refine v_lload (q := 221) hX dX5_ships_219 rfl rfl ?_
    refine v_ladd (q := 222) hX dX5_ships_221 rfl ?_
    refine w_callVn (q := 225) hX (c_X5_becomes _ _ hr (p) (10) _ (by omega)) rfl kV_X5_becomes rfl (by decide) lk_X5_72 (by decide) rfl oX5 (Nat.le_of_ble_eq_true rfl) dX5_ships_222 rfl (fun D1 hD1 => ?_)
    subst hD1
    try simp only [xw_at, xw_xw]
    refine v_vreturn hX hRX rfl dX5_ships_225 rfl ?_
    refine ⟨rfl, rfl, ?_⟩
    show xw D 352 _ = _
    congr 1
    rw [← nUpd_self (D 352) p]
    simp only [nUpd_fu _ _ _ _ (show 4 < 36 by decide), nUpd_fu _ _ _ _ (show 5 < 36 by decide), nUpd_fu _ _ _ _ (show 6 < 36 by decide), nUpd_fu _ _ _ _ (show 8 < 36 by decide), nUpd_fu _ _ _ _ (show 9 < 36 by decide), nUpd_fu _ _ _ _ (show 10 < 36 by decide)]
    rw [nUpd_self (D 352) p]
    rfl
  have K84 : xV γ 84 [some (.ref 351), some (vi p), some (vl (pF (D 352) p 24 * pF (D 352) p 1)), none, some (vl (rCame (nRec (D 352) p))), none, some (vl (rHave (nRec (D 352) p))), none, some (vl (rWant (nRec (D 352) p))), none, none, none, none, none] [vl (rSent (nRec (D 352) p))] (356, z) D r := by
    refine v_lstore (q := 86) hX dX5_ships_84 (Nat.le_of_ble_eq_true rfl) (Nat.le_of_ble_eq_true rfl) rfl ?_
    dsimp only [xs1, xs2, xclr]
    refine v_lload (q := 88) hX dX5_ships_86 rfl rfl ?_
    refine v_aload_n (q := 89) hX dX5_ships_88 rfl rfl rfl ?_
    refine v_iload_n (q := 90) hX dX5_ships_89 rfl rfl rfl ?_
    refine v_bipush (q := 92) hX (by decide) dX5_ships_90 rfl ?_
    refine w_callV (q := 95) hX (c_X5_ofP _ _ hr (p) (12) (by omega)) rfl kV_X5_ofP rfl (by decide) lk_X5_78 (by decide) rfl oX5 (Nat.le_of_ble_eq_true rfl) dX5_ships_92 rfl ?_
    try simp only [xw_at, xw_xw]
    refine v_lcmp_le (q := 99) (tgt := 112) hX ⟨by omega, by omega⟩ ⟨by omega, by omega⟩ dX5_ships_95 dX5_ships_96 (by decide) rfl (fun h95 => ?_) (fun h95 => ?_)
    · refine v_aload_n (q := 113) hX dX5_ships_112 rfl rfl rfl ?_
      refine v_iload_n (q := 114) hX dX5_ships_113 rfl rfl rfl ?_
      refine v_bipush (q := 116) hX (by decide) dX5_ships_114 rfl ?_
      refine w_callV (q := 119) hX (c_X5_ofP _ _ hr (p) (12) (by omega)) rfl kV_X5_ofP rfl (by decide) lk_X5_78 (by decide) rfl oX5 (Nat.le_of_ble_eq_true rfl) dX5_ships_116 rfl ?_
      try simp only [xw_at, xw_xw]
      refine v_lload (q := 121) hX dX5_ships_119 rfl rfl ?_
      refine v_lsub (q := 122) hX dX5_ships_121 rfl ?_
      have e1 := K122
      rw [rOff] at e1
      simp only [hq] at e1
      first | rw [if_pos h95] at e1 | rw [if_neg (Int.not_lt.mpr h95)] at e1
      exact e1
    · refine v_lload (q := 101) hX dX5_ships_99 rfl rfl ?_
      refine v_aload_n (q := 102) hX dX5_ships_101 rfl rfl rfl ?_
      refine v_iload_n (q := 103) hX dX5_ships_102 rfl rfl rfl ?_
      refine v_bipush (q := 105) hX (by decide) dX5_ships_103 rfl ?_
      refine w_callV (q := 108) hX (c_X5_ofP _ _ hr (p) (12) (by omega)) rfl kV_X5_ofP rfl (by decide) lk_X5_78 (by decide) rfl oX5 (Nat.le_of_ble_eq_true rfl) dX5_ships_105 rfl ?_
      try simp only [xw_at, xw_xw]
      refine v_lsub (q := 109) hX dX5_ships_108 rfl ?_
      refine v_goto (tgt := 122) hX dX5_ships_109 (by decide) ?_
      have e1 := K122
      rw [rOff] at e1
      simp only [hq] at e1
      first | rw [if_pos h95] at e1 | rw [if_neg (Int.not_lt.mpr h95)] at e1
      exact e1
  have K46 : xV γ 46 [some (.ref 351), some (vi p), some (vl (pF (D 352) p 24 * pF (D 352) p 1)), none, none, none, none, none, none, none, none, none, none, none] [vl (rCame (nRec (D 352) p))] (356, z) D r := by
    refine v_lstore (q := 48) hX dX5_ships_46 (Nat.le_of_ble_eq_true rfl) (Nat.le_of_ble_eq_true rfl) rfl ?_
    dsimp only [xs1, xs2, xclr]
    refine v_aload_n (q := 49) hX dX5_ships_48 rfl rfl rfl ?_
    refine v_iload_n (q := 50) hX dX5_ships_49 rfl rfl rfl ?_
    refine v_iconst (q := 51) hX dX5_ships_50 rfl ?_
    refine w_callV (q := 54) hX (c_X5_ofP _ _ hr (p) (4) (by omega)) rfl kV_X5_ofP rfl (by decide) lk_X5_78 (by decide) rfl oX5 (Nat.le_of_ble_eq_true rfl) dX5_ships_51 rfl ?_
    try simp only [xw_at, xw_xw]
    refine v_lload_n (q := 55) hX dX5_ships_54 rfl rfl rfl ?_
    refine v_ladd (q := 56) hX dX5_ships_55 rfl ?_
    refine v_lstore (q := 58) hX dX5_ships_56 (Nat.le_of_ble_eq_true rfl) (Nat.le_of_ble_eq_true rfl) rfl ?_
    dsimp only [xs1, xs2, xclr]
    refine v_lload (q := 60) hX dX5_ships_58 rfl rfl ?_
    refine v_aload_n (q := 61) hX dX5_ships_60 rfl rfl rfl ?_
    refine v_iload_n (q := 62) hX dX5_ships_61 rfl rfl rfl ?_
    refine v_iconst (q := 63) hX dX5_ships_62 rfl ?_
    refine w_callV (q := 66) hX (c_X5_ofP _ _ hr (p) (5) (by omega)) rfl kV_X5_ofP rfl (by decide) lk_X5_78 (by decide) rfl oX5 (Nat.le_of_ble_eq_true rfl) dX5_ships_63 rfl ?_
    try simp only [xw_at, xw_xw]
    refine v_ladd (q := 67) hX dX5_ships_66 rfl ?_
    refine v_lstore (q := 69) hX dX5_ships_67 (Nat.le_of_ble_eq_true rfl) (Nat.le_of_ble_eq_true rfl) rfl ?_
    dsimp only [xs1, xs2, xclr]
    show xV γ 69 [some (.ref 351), some (vi p), some (vl (pF (D 352) p 24 * pF (D 352) p 1)), none, some (vl (rCame (nRec (D 352) p))), none, some (vl (rHave (nRec (D 352) p))), none, some (vl (rWant (nRec (D 352) p))), none, none, none, none, none] [] (356, z) D r
    refine v_lload (q := 71) hX dX5_ships_69 rfl rfl ?_
    refine v_lload (q := 73) hX dX5_ships_71 rfl rfl ?_
    refine v_lcmp_ge (q := 77) (tgt := 82) hX (by unfold rWant; simp only [hq]; constructor <;> omega) (by unfold rHave; simp only [hq]; constructor <;> omega) dX5_ships_73 dX5_ships_74 (by decide) rfl (fun h73 => ?_) (fun h73 => ?_)
    · refine v_lload (q := 84) hX dX5_ships_82 rfl rfl ?_
      have e1 := K84
      rw [rSent] at e1
      first | rw [if_pos h73] at e1 | rw [if_neg (Int.not_lt.mpr h73)] at e1
      exact e1
    · refine v_lload (q := 79) hX dX5_ships_77 rfl rfl ?_
      refine v_goto (tgt := 84) hX dX5_ships_79 (by decide) ?_
      have e1 := K84
      rw [rSent] at e1
      first | rw [if_pos h73] at e1 | rw [if_neg (Int.not_lt.mpr h73)] at e1
      exact e1
  refine v_aload_n (q := 1) hX dX5_ships_0 rfl rfl rfl ?_
  refine v_iload_n (q := 2) hX dX5_ships_1 rfl rfl rfl ?_
  refine v_bipush (q := 4) hX (by decide) dX5_ships_2 rfl ?_
  refine w_callV (q := 7) hX (c_X5_ofP _ _ hr (p) (24) (by omega)) rfl kV_X5_ofP rfl (by decide) lk_X5_78 (by decide) rfl oX5 (Nat.le_of_ble_eq_true rfl) dX5_ships_4 rfl ?_
  try simp only [xw_at, xw_xw]
  refine v_aload_n (q := 8) hX dX5_ships_7 rfl rfl rfl ?_
  refine v_iload_n (q := 9) hX dX5_ships_8 rfl rfl rfl ?_
  refine v_iconst (q := 10) hX dX5_ships_9 rfl ?_
  refine w_callV (q := 13) hX (c_X5_ofP _ _ hr (p) (1) (by omega)) rfl kV_X5_ofP rfl (by decide) lk_X5_78 (by decide) rfl oX5 (Nat.le_of_ble_eq_true rfl) dX5_ships_10 rfl ?_
  try simp only [xw_at, xw_xw]
  refine v_lmul (q := 14) hX dX5_ships_13 rfl ?_
  refine v_lstore_n (q := 15) hX dX5_ships_14 rfl (Nat.le_of_ble_eq_true rfl) (Nat.le_of_ble_eq_true rfl) rfl ?_
  dsimp only [xs1, xs2, xclr]
  refine v_aload_n (q := 16) hX dX5_ships_15 rfl rfl rfl ?_
  refine v_iload_n (q := 17) hX dX5_ships_16 rfl rfl rfl ?_
  refine v_bipush (q := 19) hX (by decide) dX5_ships_17 rfl ?_
  refine w_callV (q := 22) hX (c_X5_ofP _ _ hr (p) (7) (by omega)) rfl kV_X5_ofP rfl (by decide) lk_X5_78 (by decide) rfl oX5 (Nat.le_of_ble_eq_true rfl) dX5_ships_19 rfl ?_
  try simp only [xw_at, xw_xw]
  refine v_ldc2 (q := 25) (e := -6) hX (by decide) kl_X5_76 dX5_ships_22 rfl ?_
  refine v_lcmp_ne (q := 29) (tgt := 39) hX ⟨by omega, by omega⟩ ⟨by omega, by omega⟩ dX5_ships_25 dX5_ships_26 (by decide) rfl (fun h25 => ?_) (fun h25 => ?_)
  · refine v_aload_n (q := 40) hX dX5_ships_39 rfl rfl rfl ?_
    refine v_iload_n (q := 41) hX dX5_ships_40 rfl rfl rfl ?_
    refine v_bipush (q := 43) hX (by decide) dX5_ships_41 rfl ?_
    refine w_callV (q := 46) hX (c_X5_ofP _ _ hr (p) (7) (by omega)) rfl kV_X5_ofP rfl (by decide) lk_X5_78 (by decide) rfl oX5 (Nat.le_of_ble_eq_true rfl) dX5_ships_43 rfl ?_
    try simp only [xw_at, xw_xw]
    have e1 := K46
    rw [rCame] at e1
    simp only [hq] at e1
    first | rw [if_pos h25] at e1 | rw [if_neg h25] at e1
    exact e1
  · refine v_aload_n (q := 30) hX dX5_ships_29 rfl rfl rfl ?_
    refine v_iload_n (q := 31) hX dX5_ships_30 rfl rfl rfl ?_
    refine v_bipush (q := 33) hX (by decide) dX5_ships_31 rfl ?_
    refine w_callV (q := 36) hX (c_X5_ofP _ _ hr (p) (12) (by omega)) rfl kV_X5_ofP rfl (by decide) lk_X5_78 (by decide) rfl oX5 (Nat.le_of_ble_eq_true rfl) dX5_ships_33 rfl ?_
    try simp only [xw_at, xw_xw]
    refine v_goto (tgt := 46) hX dX5_ships_36 (by decide) ?_
    have e1 := K46
    rw [rCame] at e1
    simp only [hq] at e1
    first | rw [if_pos h25] at e1 | rw [if_neg h25] at e1
    exact e1

/-- the first k weeks have rolled on -/
def rRl (q : Nat → Int) (k : Nat) : Nat → Int := fun j => if (12 ≤ j ∧ j < 12 + k) ∨ (24 ≤ j ∧ j < 24 + k) then q (j + 1) else q j
def rRoll (q : Nat → Int) : Nat → Int := fu (fu (rRl q 11) 35 0) 7 (-6)
theorem rRl_succ (q : Nat → Int) {k : Nat} (hk : k < 11) : fu (fu (rRl q k) (12 + k) (rRl q k (12 + k + 1))) (24 + k) (rRl q k (24 + k + 1)) = rRl q (k + 1) := by
  have e1 : rRl q k (12 + k + 1) = q (12 + k + 1) := if_neg (by omega)
  have e2 : rRl q k (24 + k + 1) = q (24 + k + 1) := if_neg (by omega)
  rw [e1, e2]
  funext j
  unfold fu rRl
  by_cases h1 : j = 24 + k
  · subst h1; rw [if_pos rfl, if_pos (by omega)]
  · rw [if_neg h1]
    by_cases h2 : j = 12 + k
    · subst h2; rw [if_pos rfl, if_pos (by omega)]
    · rw [if_neg h2]
      by_cases h3 : (12 ≤ j ∧ j < 12 + k) ∨ (24 ≤ j ∧ j < 24 + k)
      · rw [if_pos h3, if_pos (by omega)]
      · rw [if_neg h3, if_neg (by omega)]
set_option maxRecDepth 100000 in
set_option maxHeartbeats 4000000 in
theorem c_X5_rolls {z : Nat} (D : xD) (r : xR) (hr : xRM r) (p : Nat) (hp : p < 10) : MX 1 mX5_rolls [.ref 351, vi p] (356, z) D r (356, z) (xEn (fun D' => D' = xw D 352 (nUpd (D 352) p (rRoll (nRec (D 352) p)))) r) := by
  refine MX.of (by decide +kernel) [some (.ref 351), some (vi p), none] rfl (Nat.le_of_ble_eq_true rfl) ?_
  intro γ hX hRX
  have L : ∀ k, k ≤ 11 → xV γ 2 [some (.ref 351), some (vi p), some (vi (k : Nat))] [] (356, z) (xw D 352 (nUpd (D 352) p (rRl (nRec (D 352) p) k))) r := by
    refine xup 11 (fun k hk ih => ?_)
    refine v_iload_n (q := 3) hX dX5_rolls_2 rfl rfl rfl ?_
    refine v_bipush (q := 5) hX (by decide) dX5_rolls_3 rfl ?_
    refine v_icmp_ge (q := 8) (tgt := 54) hX ⟨by omega, by omega⟩ (by decide) dX5_rolls_5 (by decide) rfl (fun h5 => ?_) (fun h5 => ?_)
    · refine v_aload_n (q := 55) hX dX5_rolls_54 rfl rfl rfl ?_
      refine v_iload_n (q := 56) hX dX5_rolls_55 rfl rfl rfl ?_
      refine v_bipush (q := 58) hX (by decide) dX5_rolls_56 rfl ?_
      refine v_lconst (q := 59) (e := 0) hX (by decide) dX5_rolls_58 rfl ?_
      refine w_callVn (q := 62) hX (c_X5_becomes _ _ hr (p) (35) _ (by omega)) rfl kV_X5_becomes rfl (by decide) lk_X5_72 (by decide) rfl oX5 (Nat.le_of_ble_eq_true rfl) dX5_rolls_59 rfl (fun D1 hD1 => ?_)
      subst hD1
      try simp only [xw_at, xw_xw]
      refine v_aload_n (q := 63) hX dX5_rolls_62 rfl rfl rfl ?_
      refine v_iload_n (q := 64) hX dX5_rolls_63 rfl rfl rfl ?_
      refine v_bipush (q := 66) hX (by decide) dX5_rolls_64 rfl ?_
      refine v_ldc2 (q := 69) (e := -6) hX (by decide) kl_X5_76 dX5_rolls_66 rfl ?_
      refine w_callVn (q := 72) hX (c_X5_becomes _ _ hr (p) (7) _ (by omega)) rfl kV_X5_becomes rfl (by decide) lk_X5_72 (by decide) rfl oX5 (Nat.le_of_ble_eq_true rfl) dX5_rolls_69 rfl (fun D1 hD1 => ?_)
      subst hD1
      try simp only [xw_at, xw_xw]
      refine v_vreturn hX hRX rfl dX5_rolls_72 rfl ?_
      refine ⟨rfl, rfl, ?_⟩
      rw [show k = 11 by omega, nUpd_fu _ _ _ _ (show 35 < 36 by decide), nUpd_fu _ _ _ _ (show 7 < 36 by decide)]
      rfl
    · refine v_aload_n (q := 9) hX dX5_rolls_8 rfl rfl rfl ?_
      refine v_iload_n (q := 10) hX dX5_rolls_9 rfl rfl rfl ?_
      refine v_bipush (q := 12) hX (by decide) dX5_rolls_10 rfl ?_
      refine v_iload_n (q := 13) hX dX5_rolls_12 rfl rfl rfl ?_
      refine v_iadd (q := 14) hX dX5_rolls_13 rfl ?_
      refine v_aload_n (q := 15) hX dX5_rolls_14 rfl rfl rfl ?_
      refine v_iload_n (q := 16) hX dX5_rolls_15 rfl rfl rfl ?_
      refine v_bipush (q := 18) hX (by decide) dX5_rolls_16 rfl ?_
      refine v_iload_n (q := 19) hX dX5_rolls_18 rfl rfl rfl ?_
      refine v_iadd (q := 20) hX dX5_rolls_19 rfl ?_
      refine v_iconst (q := 21) hX dX5_rolls_20 rfl ?_
      refine v_iadd (q := 22) hX dX5_rolls_21 rfl ?_
      refine w_callV (q := 25) hX (c_X5_ofP _ _ hr (p) (((12 + k) + 1)) (by omega)) rfl kV_X5_ofP rfl (by decide) lk_X5_78 (by decide) rfl oX5 (Nat.le_of_ble_eq_true rfl) dX5_rolls_22 rfl ?_
      try simp only [xw_at, xw_xw]
      rw [nUpd_at _ _ _ (show 12 + k + 1 < 36 by omega)]
      refine w_callVn (q := 28) hX (c_X5_becomes _ _ hr (p) ((12 + k)) _ (by omega)) rfl kV_X5_becomes rfl (by decide) lk_X5_72 (by decide) rfl oX5 (Nat.le_of_ble_eq_true rfl) dX5_rolls_25 rfl (fun D1 hD1 => ?_)
      subst hD1
      try simp only [xw_at, xw_xw]
      refine v_aload_n (q := 29) hX dX5_rolls_28 rfl rfl rfl ?_
      refine v_iload_n (q := 30) hX dX5_rolls_29 rfl rfl rfl ?_
      refine v_bipush (q := 32) hX (by decide) dX5_rolls_30 rfl ?_
      refine v_iload_n (q := 33) hX dX5_rolls_32 rfl rfl rfl ?_
      refine v_iadd (q := 34) hX dX5_rolls_33 rfl ?_
      refine v_aload_n (q := 35) hX dX5_rolls_34 rfl rfl rfl ?_
      refine v_iload_n (q := 36) hX dX5_rolls_35 rfl rfl rfl ?_
      refine v_bipush (q := 38) hX (by decide) dX5_rolls_36 rfl ?_
      refine v_iload_n (q := 39) hX dX5_rolls_38 rfl rfl rfl ?_
      refine v_iadd (q := 40) hX dX5_rolls_39 rfl ?_
      refine v_iconst (q := 41) hX dX5_rolls_40 rfl ?_
      refine v_iadd (q := 42) hX dX5_rolls_41 rfl ?_
      refine w_callV (q := 45) hX (c_X5_ofP _ _ hr (p) (((24 + k) + 1)) (by omega)) rfl kV_X5_ofP rfl (by decide) lk_X5_78 (by decide) rfl oX5 (Nat.le_of_ble_eq_true rfl) dX5_rolls_42 rfl ?_
      try simp only [xw_at, xw_xw]
      rw [fu_rec_ne _ _ _ _ _ (by omega), nUpd_at _ _ _ (show 24 + k + 1 < 36 by omega)]
      refine w_callVn (q := 48) hX (c_X5_becomes _ _ hr (p) ((24 + k)) _ (by omega)) rfl kV_X5_becomes rfl (by decide) lk_X5_72 (by decide) rfl oX5 (Nat.le_of_ble_eq_true rfl) dX5_rolls_45 rfl (fun D1 hD1 => ?_)
      subst hD1
      try simp only [xw_at, xw_xw]
      refine v_iinc (q := 51) hX dX5_rolls_48 rfl (Nat.le_of_ble_eq_true rfl) (Nat.le_of_ble_eq_true rfl) rfl ?_
      dsimp only [xs1, xs2, xclr]
      refine v_goto (tgt := 2) hX dX5_rolls_51 (by decide) ?_
      rw [nUpd_fu _ _ _ _ (show 12 + k < 36 by omega), nUpd_fu _ _ _ _ (show 24 + k < 36 by omega), rRl_succ _ (by omega)]
      exact ih (by omega)
  have e0 : nUpd (D 352) p (rRl (nRec (D 352) p) 0) = D 352 := by
    rw [show rRl (nRec (D 352) p) 0 = nRec (D 352) p from funext fun j => if_neg (by omega), nUpd_self]
  refine v_iconst (q := 1) hX dX5_rolls_0 rfl ?_
  refine v_istore_n (q := 2) hX dX5_rolls_1 rfl (Nat.le_of_ble_eq_true rfl) (Nat.le_of_ble_eq_true rfl) rfl ?_
  dsimp only [xs1, xs2, xclr]
  have e1 := L 0 (Nat.zero_le _)
  rw [e0, xw_self] at e1
  exact e1

/-- the copy c of the kept rows becomes the state -/
def kPut (K : Nat → Int) (c : Nat) (N : Nat → Int) (k : Nat) : Nat → Int := fun i => if c * 378 ≤ i ∧ i < c * 378 + k then N (i - c * 378) else K i
def kGet (K : Nat → Int) (c : Nat) (N : Nat → Int) (k : Nat) : Nat → Int := fun i => if i < k then K (c * 378 + i) else N i
theorem kPut_succ (K N : Nat → Int) (c k : Nat) : fu (kPut K c N k) (c * 378 + k) (N k) = kPut K c N (k + 1) := by
  funext i
  unfold fu kPut
  by_cases h1 : i = c * 378 + k
  · subst h1; rw [if_pos rfl, if_pos (by omega), show c * 378 + k - c * 378 = k by omega]
  · rw [if_neg h1]
    by_cases h2 : c * 378 ≤ i ∧ i < c * 378 + k
    · rw [if_pos h2, if_pos (by omega)]
    · rw [if_neg h2, if_neg (by omega)]
theorem kPut_0 (K N : Nat → Int) (c : Nat) : kPut K c N 0 = K := by funext i; exact if_neg (by omega)
theorem kGet_succ (K N : Nat → Int) (c k : Nat) : fu (kGet K c N k) k (K (c * 378 + k)) = kGet K c N (k + 1) := by
  funext i
  unfold fu kGet
  by_cases h1 : i = k
  · subst h1; rw [if_pos rfl, if_pos (by omega)]
  · rw [if_neg h1]
    by_cases h2 : i < k
    · rw [if_pos h2, if_pos (by omega)]
    · rw [if_neg h2, if_neg (by omega)]
theorem kGet_0 (K N : Nat → Int) (c : Nat) : kGet K c N 0 = N := by funext i; exact if_neg (by omega)
/-- the kept rows move down by one copy -/
def kDown (K : Nat → Int) (k : Nat) : Nat → Int := fun i => if i < k then K (i + 378) else K i
theorem kDown_succ (K : Nat → Int) (k : Nat) : fu (kDown K k) k (kDown K k (k + 378)) = kDown K (k + 1) := by
  rw [show kDown K k (k + 378) = K (k + 378) from if_neg (by omega)]
  funext i
  unfold fu kDown
  by_cases h1 : i = k
  · subst h1; rw [if_pos rfl, if_pos (by omega)]
  · rw [if_neg h1]
    by_cases h2 : i < k
    · rw [if_pos h2, if_pos (by omega)]
    · rw [if_neg h2, if_neg (by omega)]
theorem kDown_0 (K : Nat → Int) : kDown K 0 = K := by funext i; exact if_neg (by omega)
theorem xw_comm (D : xD) {a b : Nat} (f g : Nat → Int) (h : a ≠ b) : xw (xw D a f) b g = xw (xw D b g) a f := by
  funext q; unfold xw
  by_cases h1 : q = b
  · rw [if_pos h1, if_neg (by omega), if_pos h1]
  · rw [if_neg h1]
    by_cases h2 : q = a
    · rw [if_pos h2, if_pos h2]
    · rw [if_neg h2, if_neg h2, if_neg h1]
set_option maxRecDepth 100000 in
set_option maxHeartbeats 4000000 in
theorem c_X5_keeps {z : Nat} (D : xD) (r : xR) (hr : xRM r) (c : Nat) (hc : c < 9) : MX 0 mX5_keeps [.ref 351, vi c] (356, z) D r (356, z) (xEn (fun D' => D' = xw D 353 (kPut (D 353) c (D 352) 378)) r) := by
  refine MX.of (by decide +kernel) [some (.ref 351), some (vi c), none] rfl (Nat.le_of_ble_eq_true rfl) ?_
  intro γ hX hRX
  have L : ∀ k, k ≤ 378 → xV γ 2 [some (.ref 351), some (vi c), some (vi (k : Nat))] [] (356, z) (xw D 353 (kPut (D 353) c (D 352) k)) r := by
    refine xup 378 (fun k hk ih => ?_)
    refine v_iload_n (q := 3) hX dX5_keeps_2 rfl rfl rfl ?_
    refine v_sipush (q := 6) hX (by decide) dX5_keeps_3 rfl ?_
    refine v_icmp_ge (q := 9) (tgt := 33) hX ⟨by omega, by omega⟩ (by decide) dX5_keeps_6 (by decide) rfl (fun h6 => ?_) (fun h6 => ?_)
    · refine v_vreturn hX hRX rfl dX5_keeps_33 rfl ?_
      rw [show k = 378 by omega]
      exact ⟨rfl, rfl, rfl⟩
    · refine v_aload_n (q := 10) hX dX5_keeps_9 rfl rfl rfl ?_
      refine w_getR (q := 13) hX fl_X5_13 rfl oX5 hr.2.1 dX5_keeps_10 rfl ?_
      refine v_iload_n (q := 14) hX dX5_keeps_13 rfl rfl rfl ?_
      refine v_sipush (q := 17) hX (by decide) dX5_keeps_14 rfl ?_
      refine v_imul (q := 18) hX dX5_keeps_17 rfl ?_
      refine v_iload_n (q := 19) hX dX5_keeps_18 rfl rfl rfl ?_
      refine v_iadd (q := 20) hX dX5_keeps_19 rfl ?_
      refine v_aload_n (q := 21) hX dX5_keeps_20 rfl rfl rfl ?_
      refine w_getR (q := 24) hX fl_X5_7 rfl oX5 hr.1 dX5_keeps_21 rfl ?_
      refine v_iload_n (q := 25) hX dX5_keeps_24 rfl rfl rfl ?_
      refine w_lld (q := 26) (kk := k) hX (by omega) (by omega) aNow dX5_keeps_25 rfl ?_
      refine w_lst (q := 27) (kk := ((c * 378) + k)) hX (by omega) (by omega) aKept dX5_keeps_26 rfl ?_
      refine v_iinc (q := 30) hX dX5_keeps_27 rfl (Nat.le_of_ble_eq_true rfl) (Nat.le_of_ble_eq_true rfl) rfl ?_
      dsimp only [xs1, xs2, xclr]
      refine v_goto (tgt := 2) hX dX5_keeps_30 (by decide) ?_
      rw [xu_xw']
      have e1 := ih (by omega)
      rw [← kPut_succ] at e1
      exact e1
  refine v_iconst (q := 1) hX dX5_keeps_0 rfl ?_
  refine v_istore_n (q := 2) hX dX5_keeps_1 rfl (Nat.le_of_ble_eq_true rfl) (Nat.le_of_ble_eq_true rfl) rfl ?_
  dsimp only [xs1, xs2, xclr]
  have e1 := L 0 (Nat.zero_le _)
  rw [kPut_0, xw_self] at e1
  exact e1

set_option maxRecDepth 100000 in
set_option maxHeartbeats 4000000 in
theorem c_X5_brings {z : Nat} (D : xD) (r : xR) (hr : xRM r) (c : Nat) (hc : c < 9) : MX 0 mX5_brings [.ref 351, vi c] (356, z) D r (356, z) (xEn (fun D' => D' = xw D 352 (kGet (D 353) c (D 352) 378)) r) := by
  refine MX.of (by decide +kernel) [some (.ref 351), some (vi c), none] rfl (Nat.le_of_ble_eq_true rfl) ?_
  intro γ hX hRX
  have L : ∀ k, k ≤ 378 → xV γ 2 [some (.ref 351), some (vi c), some (vi (k : Nat))] [] (356, z) (xw D 352 (kGet (D 353) c (D 352) k)) r := by
    refine xup 378 (fun k hk ih => ?_)
    refine v_iload_n (q := 3) hX dX5_brings_2 rfl rfl rfl ?_
    refine v_sipush (q := 6) hX (by decide) dX5_brings_3 rfl ?_
    refine v_icmp_ge (q := 9) (tgt := 33) hX ⟨by omega, by omega⟩ (by decide) dX5_brings_6 (by decide) rfl (fun h6 => ?_) (fun h6 => ?_)
    · refine v_vreturn hX hRX rfl dX5_brings_33 rfl ?_
      rw [show k = 378 by omega]
      exact ⟨rfl, rfl, rfl⟩
    · refine v_aload_n (q := 10) hX dX5_brings_9 rfl rfl rfl ?_
      refine w_getR (q := 13) hX fl_X5_7 rfl oX5 hr.1 dX5_brings_10 rfl ?_
      refine v_iload_n (q := 14) hX dX5_brings_13 rfl rfl rfl ?_
      refine v_aload_n (q := 15) hX dX5_brings_14 rfl rfl rfl ?_
      refine w_getR (q := 18) hX fl_X5_13 rfl oX5 hr.2.1 dX5_brings_15 rfl ?_
      refine v_iload_n (q := 19) hX dX5_brings_18 rfl rfl rfl ?_
      refine v_sipush (q := 22) hX (by decide) dX5_brings_19 rfl ?_
      refine v_imul (q := 23) hX dX5_brings_22 rfl ?_
      refine v_iload_n (q := 24) hX dX5_brings_23 rfl rfl rfl ?_
      refine v_iadd (q := 25) hX dX5_brings_24 rfl ?_
      refine w_lld (q := 26) (kk := ((c * 378) + k)) hX (by omega) (by omega) aKept dX5_brings_25 rfl ?_
      refine w_lst (q := 27) (kk := k) hX (by omega) (by omega) aNow dX5_brings_26 rfl ?_
      refine v_iinc (q := 30) hX dX5_brings_27 rfl (Nat.le_of_ble_eq_true rfl) (Nat.le_of_ble_eq_true rfl) rfl ?_
      dsimp only [xs1, xs2, xclr]
      refine v_goto (tgt := 2) hX dX5_brings_30 (by decide) ?_
      rw [xu_xw']
      have e1 := ih (by omega)
      rw [← kGet_succ] at e1
      exact e1
  refine v_iconst (q := 1) hX dX5_brings_0 rfl ?_
  refine v_istore_n (q := 2) hX dX5_brings_1 rfl (Nat.le_of_ble_eq_true rfl) (Nat.le_of_ble_eq_true rfl) rfl ?_
  dsimp only [xs1, xs2, xclr]
  have e1 := L 0 (Nat.zero_le _)
  rw [kGet_0, xw_self] at e1
  exact e1
end
