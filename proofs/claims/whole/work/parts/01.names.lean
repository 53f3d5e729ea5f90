-- ===== PART A: goes FIRST, ahead of the names: the tables' words, and 'selects' of the private methods out of them =====
/-- a private method of a class that the tables say can be made, by its rows of tables_1 -/
def lw_okq (q : MethodName × Nat) : Prop := (q.1.cls ≠ "java/lang/invoke/MethodHandle" ∧ q.1.cls ≠ "java/lang/invoke/VarHandle") ∧ Cond.instantiable q.1.cls q.2 ∈ tables_1 ∧ Cond.privateMethod q.1 ∈ tables_1 ∧ Cond.instanceMethod q.1 ∈ tables_1
theorem lw_p0 : lw_okq (⟨"NobodyLookedYesterday", "refuse", "(I)I"⟩, 10) := ⟨⟨by decide +kernel, by decide +kernel⟩, List.mem_of_getElem? (i := 10) (by decide +kernel), List.mem_of_getElem? (i := 161) (by decide +kernel), List.mem_of_getElem? (i := 162) (by decide +kernel)⟩
theorem lw_p1 : lw_okq (⟨"NobodyLookedYesterday$FarmText", "firstUnfit", "()I"⟩, 2) := ⟨⟨by decide +kernel, by decide +kernel⟩, List.mem_of_getElem? (i := 112) (by decide +kernel), List.mem_of_getElem? (i := 188) (by decide +kernel), List.mem_of_getElem? (i := 189) (by decide +kernel)⟩
theorem lw_p2 : lw_okq (⟨"NobodyLookedYesterday$FarmText", "digitsBehind", "(I)I"⟩, 2) := ⟨⟨by decide +kernel, by decide +kernel⟩, List.mem_of_getElem? (i := 112) (by decide +kernel), List.mem_of_getElem? (i := 195) (by decide +kernel), List.mem_of_getElem? (i := 196) (by decide +kernel)⟩
theorem lw_p3 : lw_okq (⟨"NobodyLookedYesterday$FarmText", "letterAt", "(I)I"⟩, 2) := ⟨⟨by decide +kernel, by decide +kernel⟩, List.mem_of_getElem? (i := 112) (by decide +kernel), List.mem_of_getElem? (i := 199) (by decide +kernel), List.mem_of_getElem? (i := 200) (by decide +kernel)⟩
theorem lw_p4 : lw_okq (⟨"NobodyLookedYesterday$FarmText", "digitAt", "(I)I"⟩, 2) := ⟨⟨by decide +kernel, by decide +kernel⟩, List.mem_of_getElem? (i := 112) (by decide +kernel), List.mem_of_getElem? (i := 203) (by decide +kernel), List.mem_of_getElem? (i := 204) (by decide +kernel)⟩
theorem lw_p5 : lw_okq (⟨"NobodyLookedYesterday$FarmText", "applyStatement", "(LNobodyLookedYesterday$Yard;II)Z"⟩, 2) := ⟨⟨by decide +kernel, by decide +kernel⟩, List.mem_of_getElem? (i := 112) (by decide +kernel), List.mem_of_getElem? (i := 207) (by decide +kernel), List.mem_of_getElem? (i := 208) (by decide +kernel)⟩
theorem lw_p6 : lw_okq (⟨"NobodyLookedYesterday", "isNoNest", "(I)Z"⟩, 10) := ⟨⟨by decide +kernel, by decide +kernel⟩, List.mem_of_getElem? (i := 10) (by decide +kernel), List.mem_of_getElem? (i := 231) (by decide +kernel), List.mem_of_getElem? (i := 232) (by decide +kernel)⟩
theorem lw_p7 : lw_okq (⟨"NobodyLookedYesterday", "weightTonight", "(I)I"⟩, 10) := ⟨⟨by decide +kernel, by decide +kernel⟩, List.mem_of_getElem? (i := 10) (by decide +kernel), List.mem_of_getElem? (i := 243) (by decide +kernel), List.mem_of_getElem? (i := 244) (by decide +kernel)⟩
theorem lw_p8 : lw_okq (⟨"NobodyLookedYesterday$Yard", "weightOf", "(I)I"⟩, 13) := ⟨⟨by decide +kernel, by decide +kernel⟩, List.mem_of_getElem? (i := 18) (by decide +kernel), List.mem_of_getElem? (i := 259) (by decide +kernel), List.mem_of_getElem? (i := 260) (by decide +kernel)⟩
theorem lw_p9 : lw_okq (⟨"NobodyLookedYesterday$Yard", "weighAlike", "(I)I"⟩, 13) := ⟨⟨by decide +kernel, by decide +kernel⟩, List.mem_of_getElem? (i := 18) (by decide +kernel), List.mem_of_getElem? (i := 270) (by decide +kernel), List.mem_of_getElem? (i := 271) (by decide +kernel)⟩
theorem lw_p10 : lw_okq (⟨"NobodyLookedYesterday$Yard", "emptyNest", "(I)I"⟩, 13) := ⟨⟨by decide +kernel, by decide +kernel⟩, List.mem_of_getElem? (i := 18) (by decide +kernel), List.mem_of_getElem? (i := 302) (by decide +kernel), List.mem_of_getElem? (i := 303) (by decide +kernel)⟩
theorem lw_p11 : lw_okq (⟨"NobodyLookedYesterday$Yard", "nestByLot", "(I)I"⟩, 13) := ⟨⟨by decide +kernel, by decide +kernel⟩, List.mem_of_getElem? (i := 18) (by decide +kernel), List.mem_of_getElem? (i := 315) (by decide +kernel), List.mem_of_getElem? (i := 316) (by decide +kernel)⟩
theorem lw_p12 : lw_okq (⟨"NobodyLookedYesterday$Yard", "ageEggs", "(I)V"⟩, 13) := ⟨⟨by decide +kernel, by decide +kernel⟩, List.mem_of_getElem? (i := 18) (by decide +kernel), List.mem_of_getElem? (i := 324) (by decide +kernel), List.mem_of_getElem? (i := 325) (by decide +kernel)⟩
theorem lw_p13 : lw_okq (⟨"NobodyLookedYesterday$Planner", "listAllowed", "(LNobodyLookedYesterday$Yard;)V"⟩, 6) := ⟨⟨by decide +kernel, by decide +kernel⟩, List.mem_of_getElem? (i := 83) (by decide +kernel), List.mem_of_getElem? (i := 348) (by decide +kernel), List.mem_of_getElem? (i := 349) (by decide +kernel)⟩
theorem lw_p14 : lw_okq (⟨"NobodyLookedYesterday$Planner", "mostToday", "(I)I"⟩, 6) := ⟨⟨by decide +kernel, by decide +kernel⟩, List.mem_of_getElem? (i := 83) (by decide +kernel), List.mem_of_getElem? (i := 357) (by decide +kernel), List.mem_of_getElem? (i := 358) (by decide +kernel)⟩
theorem lw_p15 : lw_okq (⟨"NobodyLookedYesterday$Planner", "noteFirst", "(II)V"⟩, 6) := ⟨⟨by decide +kernel, by decide +kernel⟩, List.mem_of_getElem? (i := 83) (by decide +kernel), List.mem_of_getElem? (i := 362) (by decide +kernel), List.mem_of_getElem? (i := 363) (by decide +kernel)⟩
def lw_privs_1 : List (MethodName × Nat) := [(⟨"NobodyLookedYesterday", "refuse", "(I)I"⟩, 10), (⟨"NobodyLookedYesterday$FarmText", "firstUnfit", "()I"⟩, 2), (⟨"NobodyLookedYesterday$FarmText", "digitsBehind", "(I)I"⟩, 2), (⟨"NobodyLookedYesterday$FarmText", "letterAt", "(I)I"⟩, 2), (⟨"NobodyLookedYesterday$FarmText", "digitAt", "(I)I"⟩, 2), (⟨"NobodyLookedYesterday$FarmText", "applyStatement", "(LNobodyLookedYesterday$Yard;II)Z"⟩, 2), (⟨"NobodyLookedYesterday", "isNoNest", "(I)Z"⟩, 10), (⟨"NobodyLookedYesterday", "weightTonight", "(I)I"⟩, 10), (⟨"NobodyLookedYesterday$Yard", "weightOf", "(I)I"⟩, 13), (⟨"NobodyLookedYesterday$Yard", "weighAlike", "(I)I"⟩, 13), (⟨"NobodyLookedYesterday$Yard", "emptyNest", "(I)I"⟩, 13), (⟨"NobodyLookedYesterday$Yard", "nestByLot", "(I)I"⟩, 13), (⟨"NobodyLookedYesterday$Yard", "ageEggs", "(I)V"⟩, 13), (⟨"NobodyLookedYesterday$Planner", "listAllowed", "(LNobodyLookedYesterday$Yard;)V"⟩, 6), (⟨"NobodyLookedYesterday$Planner", "mostToday", "(I)I"⟩, 6), (⟨"NobodyLookedYesterday$Planner", "noteFirst", "(II)V"⟩, 6)]
theorem lw_r1 : ∀ q ∈ lw_privs_1, lw_okq q := List.forall_mem_cons.mpr ⟨lw_p0, List.forall_mem_cons.mpr ⟨lw_p1, List.forall_mem_cons.mpr ⟨lw_p2, List.forall_mem_cons.mpr ⟨lw_p3, List.forall_mem_cons.mpr ⟨lw_p4, List.forall_mem_cons.mpr ⟨lw_p5, List.forall_mem_cons.mpr ⟨lw_p6, List.forall_mem_cons.mpr ⟨lw_p7, List.forall_mem_cons.mpr ⟨lw_p8, List.forall_mem_cons.mpr ⟨lw_p9, List.forall_mem_cons.mpr ⟨lw_p10, List.forall_mem_cons.mpr ⟨lw_p11, List.forall_mem_cons.mpr ⟨lw_p12, List.forall_mem_cons.mpr ⟨lw_p13, List.forall_mem_cons.mpr ⟨lw_p14, List.forall_mem_cons.mpr ⟨lw_p15, fun _ h => absurd h List.not_mem_nil⟩⟩⟩⟩⟩⟩⟩⟩⟩⟩⟩⟩⟩⟩⟩⟩
theorem lw_p16 : lw_okq (⟨"NobodyLookedYesterday$Planner", "laidByAnySet", "(LNobodyLookedYesterday$Yard;)I"⟩, 6) := ⟨⟨by decide +kernel, by decide +kernel⟩, List.mem_of_getElem? (i := 83) (by decide +kernel), List.mem_of_getElem? (i := 400) (by decide +kernel), List.mem_of_getElem? (i := 401) (by decide +kernel)⟩
theorem lw_p17 : lw_okq (⟨"NobodyLookedYesterday", "layRow", "(I)V"⟩, 10) := ⟨⟨by decide +kernel, by decide +kernel⟩, List.mem_of_getElem? (i := 10) (by decide +kernel), List.mem_of_getElem? (i := 412) (by decide +kernel), List.mem_of_getElem? (i := 413) (by decide +kernel)⟩
theorem lw_p18 : lw_okq (⟨"NobodyLookedYesterday", "firstUntrue", "(I)I"⟩, 10) := ⟨⟨by decide +kernel, by decide +kernel⟩, List.mem_of_getElem? (i := 10) (by decide +kernel), List.mem_of_getElem? (i := 416) (by decide +kernel), List.mem_of_getElem? (i := 417) (by decide +kernel)⟩
theorem lw_p19 : lw_okq (⟨"NobodyLookedYesterday", "nightsUntilUnlike", "(II)I"⟩, 10) := ⟨⟨by decide +kernel, by decide +kernel⟩, List.mem_of_getElem? (i := 10) (by decide +kernel), List.mem_of_getElem? (i := 424) (by decide +kernel), List.mem_of_getElem? (i := 425) (by decide +kernel)⟩
theorem lw_p20 : lw_okq (⟨"NobodyLookedYesterdayModel", "carryAll", "([IZ)V"⟩, 40) := ⟨⟨by decide +kernel, by decide +kernel⟩, List.mem_of_getElem? (i := 484) (by decide +kernel), List.mem_of_getElem? (i := 615) (by decide +kernel), List.mem_of_getElem? (i := 616) (by decide +kernel)⟩
theorem lw_p21 : lw_okq (⟨"NobodyLookedYesterdayModel", "carry", "(I)I"⟩, 40) := ⟨⟨by decide +kernel, by decide +kernel⟩, List.mem_of_getElem? (i := 484) (by decide +kernel), List.mem_of_getElem? (i := 619) (by decide +kernel), List.mem_of_getElem? (i := 620) (by decide +kernel)⟩
theorem lw_p22 : lw_okq (⟨"NobodyLookedYesterdayModel", "refuse", "(I)I"⟩, 40) := ⟨⟨by decide +kernel, by decide +kernel⟩, List.mem_of_getElem? (i := 484) (by decide +kernel), List.mem_of_getElem? (i := 627) (by decide +kernel), List.mem_of_getElem? (i := 628) (by decide +kernel)⟩
theorem lw_p23 : lw_okq (⟨"NobodyLookedYesterdayModel", "readStatement", "()V"⟩, 40) := ⟨⟨by decide +kernel, by decide +kernel⟩, List.mem_of_getElem? (i := 484) (by decide +kernel), List.mem_of_getElem? (i := 639) (by decide +kernel), List.mem_of_getElem? (i := 640) (by decide +kernel)⟩
theorem lw_p24 : lw_okq (⟨"NobodyLookedYesterdayModel", "here", "()I"⟩, 40) := ⟨⟨by decide +kernel, by decide +kernel⟩, List.mem_of_getElem? (i := 484) (by decide +kernel), List.mem_of_getElem? (i := 643) (by decide +kernel), List.mem_of_getElem? (i := 644) (by decide +kernel)⟩
theorem lw_p25 : lw_okq (⟨"NobodyLookedYesterdayModel", "readDigit", "()I"⟩, 40) := ⟨⟨by decide +kernel, by decide +kernel⟩, List.mem_of_getElem? (i := 484) (by decide +kernel), List.mem_of_getElem? (i := 647) (by decide +kernel), List.mem_of_getElem? (i := 648) (by decide +kernel)⟩
theorem lw_p26 : lw_okq (⟨"NobodyLookedYesterdayModel", "open", "()V"⟩, 40) := ⟨⟨by decide +kernel, by decide +kernel⟩, List.mem_of_getElem? (i := 484) (by decide +kernel), List.mem_of_getElem? (i := 656) (by decide +kernel), List.mem_of_getElem? (i := 657) (by decide +kernel)⟩
theorem lw_p27 : lw_okq (⟨"NobodyLookedYesterdayModel", "comes", "(I)Z"⟩, 40) := ⟨⟨by decide +kernel, by decide +kernel⟩, List.mem_of_getElem? (i := 484) (by decide +kernel), List.mem_of_getElem? (i := 660) (by decide +kernel), List.mem_of_getElem? (i := 661) (by decide +kernel)⟩
theorem lw_p28 : lw_okq (⟨"NobodyLookedYesterdayModel", "isNest", "(I)Z"⟩, 40) := ⟨⟨by decide +kernel, by decide +kernel⟩, List.mem_of_getElem? (i := 484) (by decide +kernel), List.mem_of_getElem? (i := 664) (by decide +kernel), List.mem_of_getElem? (i := 665) (by decide +kernel)⟩
theorem lw_p29 : lw_okq (⟨"NobodyLookedYesterdayModel", "close", "()V"⟩, 40) := ⟨⟨by decide +kernel, by decide +kernel⟩, List.mem_of_getElem? (i := 484) (by decide +kernel), List.mem_of_getElem? (i := 668) (by decide +kernel), List.mem_of_getElem? (i := 669) (by decide +kernel)⟩
theorem lw_p30 : lw_okq (⟨"NobodyLookedYesterdayModel", "eggsIn", "(I)I"⟩, 40) := ⟨⟨by decide +kernel, by decide +kernel⟩, List.mem_of_getElem? (i := 484) (by decide +kernel), List.mem_of_getElem? (i := 676) (by decide +kernel), List.mem_of_getElem? (i := 677) (by decide +kernel)⟩
theorem lw_p31 : lw_okq (⟨"NobodyLookedYesterdayModel", "oldest", "(I)I"⟩, 40) := ⟨⟨by decide +kernel, by decide +kernel⟩, List.mem_of_getElem? (i := 484) (by decide +kernel), List.mem_of_getElem? (i := 680) (by decide +kernel), List.mem_of_getElem? (i := 681) (by decide +kernel)⟩
def lw_privs_2 : List (MethodName × Nat) := [(⟨"NobodyLookedYesterday$Planner", "laidByAnySet", "(LNobodyLookedYesterday$Yard;)I"⟩, 6), (⟨"NobodyLookedYesterday", "layRow", "(I)V"⟩, 10), (⟨"NobodyLookedYesterday", "firstUntrue", "(I)I"⟩, 10), (⟨"NobodyLookedYesterday", "nightsUntilUnlike", "(II)I"⟩, 10), (⟨"NobodyLookedYesterdayModel", "carryAll", "([IZ)V"⟩, 40), (⟨"NobodyLookedYesterdayModel", "carry", "(I)I"⟩, 40), (⟨"NobodyLookedYesterdayModel", "refuse", "(I)I"⟩, 40), (⟨"NobodyLookedYesterdayModel", "readStatement", "()V"⟩, 40), (⟨"NobodyLookedYesterdayModel", "here", "()I"⟩, 40), (⟨"NobodyLookedYesterdayModel", "readDigit", "()I"⟩, 40), (⟨"NobodyLookedYesterdayModel", "open", "()V"⟩, 40), (⟨"NobodyLookedYesterdayModel", "comes", "(I)Z"⟩, 40), (⟨"NobodyLookedYesterdayModel", "isNest", "(I)Z"⟩, 40), (⟨"NobodyLookedYesterdayModel", "close", "()V"⟩, 40), (⟨"NobodyLookedYesterdayModel", "eggsIn", "(I)I"⟩, 40), (⟨"NobodyLookedYesterdayModel", "oldest", "(I)I"⟩, 40)]
theorem lw_r2 : ∀ q ∈ lw_privs_2, lw_okq q := List.forall_mem_cons.mpr ⟨lw_p16, List.forall_mem_cons.mpr ⟨lw_p17, List.forall_mem_cons.mpr ⟨lw_p18, List.forall_mem_cons.mpr ⟨lw_p19, List.forall_mem_cons.mpr ⟨lw_p20, List.forall_mem_cons.mpr ⟨lw_p21, List.forall_mem_cons.mpr ⟨lw_p22, List.forall_mem_cons.mpr ⟨lw_p23, List.forall_mem_cons.mpr ⟨lw_p24, List.forall_mem_cons.mpr ⟨lw_p25, List.forall_mem_cons.mpr ⟨lw_p26, List.forall_mem_cons.mpr ⟨lw_p27, List.forall_mem_cons.mpr ⟨lw_p28, List.forall_mem_cons.mpr ⟨lw_p29, List.forall_mem_cons.mpr ⟨lw_p30, List.forall_mem_cons.mpr ⟨lw_p31, fun _ h => absurd h List.not_mem_nil⟩⟩⟩⟩⟩⟩⟩⟩⟩⟩⟩⟩⟩⟩⟩⟩
theorem lw_p32 : lw_okq (⟨"NobodyLookedYesterdayModel", "weigh", "()V"⟩, 40) := ⟨⟨by decide +kernel, by decide +kernel⟩, List.mem_of_getElem? (i := 484) (by decide +kernel), List.mem_of_getElem? (i := 684) (by decide +kernel), List.mem_of_getElem? (i := 685) (by decide +kernel)⟩
theorem lw_p33 : lw_okq (⟨"NobodyLookedYesterdayModel", "mayBits", "()I"⟩, 40) := ⟨⟨by decide +kernel, by decide +kernel⟩, List.mem_of_getElem? (i := 484) (by decide +kernel), List.mem_of_getElem? (i := 688) (by decide +kernel), List.mem_of_getElem? (i := 689) (by decide +kernel)⟩
theorem lw_p34 : lw_okq (⟨"NobodyLookedYesterdayModel", "rawWeight", "(I)I"⟩, 40) := ⟨⟨by decide +kernel, by decide +kernel⟩, List.mem_of_getElem? (i := 484) (by decide +kernel), List.mem_of_getElem? (i := 692) (by decide +kernel), List.mem_of_getElem? (i := 693) (by decide +kernel)⟩
theorem lw_p35 : lw_okq (⟨"NobodyLookedYesterdayModel", "minutesOf", "(I)I"⟩, 40) := ⟨⟨by decide +kernel, by decide +kernel⟩, List.mem_of_getElem? (i := 484) (by decide +kernel), List.mem_of_getElem? (i := 708) (by decide +kernel), List.mem_of_getElem? (i := 709) (by decide +kernel)⟩
theorem lw_p36 : lw_okq (⟨"NobodyLookedYesterdayModel", "take", "(I)I"⟩, 40) := ⟨⟨by decide +kernel, by decide +kernel⟩, List.mem_of_getElem? (i := 484) (by decide +kernel), List.mem_of_getElem? (i := 712) (by decide +kernel), List.mem_of_getElem? (i := 713) (by decide +kernel)⟩
theorem lw_p37 : lw_okq (⟨"NobodyLookedYesterdayModel", "nightOn", "()I"⟩, 40) := ⟨⟨by decide +kernel, by decide +kernel⟩, List.mem_of_getElem? (i := 484) (by decide +kernel), List.mem_of_getElem? (i := 720) (by decide +kernel), List.mem_of_getElem? (i := 721) (by decide +kernel)⟩
theorem lw_p38 : lw_okq (⟨"NobodyLookedYesterdayModel", "laysAt", "()I"⟩, 40) := ⟨⟨by decide +kernel, by decide +kernel⟩, List.mem_of_getElem? (i := 484) (by decide +kernel), List.mem_of_getElem? (i := 724) (by decide +kernel), List.mem_of_getElem? (i := 725) (by decide +kernel)⟩
theorem lw_p39 : lw_okq (⟨"NobodyLookedYesterdayModel", "nightAt", "(I)V"⟩, 40) := ⟨⟨by decide +kernel, by decide +kernel⟩, List.mem_of_getElem? (i := 484) (by decide +kernel), List.mem_of_getElem? (i := 728) (by decide +kernel), List.mem_of_getElem? (i := 729) (by decide +kernel)⟩
theorem lw_p40 : lw_okq (⟨"NobodyLookedYesterdayModel", "allows", "(I)Z"⟩, 40) := ⟨⟨by decide +kernel, by decide +kernel⟩, List.mem_of_getElem? (i := 484) (by decide +kernel), List.mem_of_getElem? (i := 745) (by decide +kernel), List.mem_of_getElem? (i := 746) (by decide +kernel)⟩
theorem lw_p41 : lw_okq (⟨"NobodyLookedYesterdayModel", "bestOfDay", "()I"⟩, 40) := ⟨⟨by decide +kernel, by decide +kernel⟩, List.mem_of_getElem? (i := 484) (by decide +kernel), List.mem_of_getElem? (i := 749) (by decide +kernel), List.mem_of_getElem? (i := 750) (by decide +kernel)⟩
theorem lw_p42 : lw_okq (⟨"NobodyLookedYesterdayModel", "eggsOf", "(I)I"⟩, 40) := ⟨⟨by decide +kernel, by decide +kernel⟩, List.mem_of_getElem? (i := 484) (by decide +kernel), List.mem_of_getElem? (i := 753) (by decide +kernel), List.mem_of_getElem? (i := 754) (by decide +kernel)⟩
theorem lw_p43 : lw_okq (⟨"NobodyLookedYesterdayModel", "bestOfTwo", "()I"⟩, 40) := ⟨⟨by decide +kernel, by decide +kernel⟩, List.mem_of_getElem? (i := 484) (by decide +kernel), List.mem_of_getElem? (i := 757) (by decide +kernel), List.mem_of_getElem? (i := 758) (by decide +kernel)⟩
theorem lw_p44 : lw_okq (⟨"NobodyLookedYesterdayModel", "firstUnlike", "()I"⟩, 40) := ⟨⟨by decide +kernel, by decide +kernel⟩, List.mem_of_getElem? (i := 484) (by decide +kernel), List.mem_of_getElem? (i := 781) (by decide +kernel), List.mem_of_getElem? (i := 782) (by decide +kernel)⟩
theorem lw_p45 : lw_okq (⟨"NobodyLookedYesterdayModel", "eggsOfAll", "()I"⟩, 40) := ⟨⟨by decide +kernel, by decide +kernel⟩, List.mem_of_getElem? (i := 484) (by decide +kernel), List.mem_of_getElem? (i := 793) (by decide +kernel), List.mem_of_getElem? (i := 794) (by decide +kernel)⟩
theorem lw_p46 : lw_okq (⟨"NobodyLookedYesterdayModel", "draw", "(I)I"⟩, 40) := ⟨⟨by decide +kernel, by decide +kernel⟩, List.mem_of_getElem? (i := 484) (by decide +kernel), List.mem_of_getElem? (i := 817) (by decide +kernel), List.mem_of_getElem? (i := 818) (by decide +kernel)⟩
theorem lw_p47 : lw_okq (⟨"NobodyLookedYesterdayModel", "drawnNest", "()I"⟩, 40) := ⟨⟨by decide +kernel, by decide +kernel⟩, List.mem_of_getElem? (i := 484) (by decide +kernel), List.mem_of_getElem? (i := 824) (by decide +kernel), List.mem_of_getElem? (i := 825) (by decide +kernel)⟩
def lw_privs_3 : List (MethodName × Nat) := [(⟨"NobodyLookedYesterdayModel", "weigh", "()V"⟩, 40), (⟨"NobodyLookedYesterdayModel", "mayBits", "()I"⟩, 40), (⟨"NobodyLookedYesterdayModel", "rawWeight", "(I)I"⟩, 40), (⟨"NobodyLookedYesterdayModel", "minutesOf", "(I)I"⟩, 40), (⟨"NobodyLookedYesterdayModel", "take", "(I)I"⟩, 40), (⟨"NobodyLookedYesterdayModel", "nightOn", "()I"⟩, 40), (⟨"NobodyLookedYesterdayModel", "laysAt", "()I"⟩, 40), (⟨"NobodyLookedYesterdayModel", "nightAt", "(I)V"⟩, 40), (⟨"NobodyLookedYesterdayModel", "allows", "(I)Z"⟩, 40), (⟨"NobodyLookedYesterdayModel", "bestOfDay", "()I"⟩, 40), (⟨"NobodyLookedYesterdayModel", "eggsOf", "(I)I"⟩, 40), (⟨"NobodyLookedYesterdayModel", "bestOfTwo", "()I"⟩, 40), (⟨"NobodyLookedYesterdayModel", "firstUnlike", "()I"⟩, 40), (⟨"NobodyLookedYesterdayModel", "eggsOfAll", "()I"⟩, 40), (⟨"NobodyLookedYesterdayModel", "draw", "(I)I"⟩, 40), (⟨"NobodyLookedYesterdayModel", "drawnNest", "()I"⟩, 40)]
theorem lw_r3 : ∀ q ∈ lw_privs_3, lw_okq q := List.forall_mem_cons.mpr ⟨lw_p32, List.forall_mem_cons.mpr ⟨lw_p33, List.forall_mem_cons.mpr ⟨lw_p34, List.forall_mem_cons.mpr ⟨lw_p35, List.forall_mem_cons.mpr ⟨lw_p36, List.forall_mem_cons.mpr ⟨lw_p37, List.forall_mem_cons.mpr ⟨lw_p38, List.forall_mem_cons.mpr ⟨lw_p39, List.forall_mem_cons.mpr ⟨lw_p40, List.forall_mem_cons.mpr ⟨lw_p41, List.forall_mem_cons.mpr ⟨lw_p42, List.forall_mem_cons.mpr ⟨lw_p43, List.forall_mem_cons.mpr ⟨lw_p44, List.forall_mem_cons.mpr ⟨lw_p45, List.forall_mem_cons.mpr ⟨lw_p46, List.forall_mem_cons.mpr ⟨lw_p47, fun _ h => absurd h List.not_mem_nil⟩⟩⟩⟩⟩⟩⟩⟩⟩⟩⟩⟩⟩⟩⟩⟩
def lw_privs : List (MethodName × Nat) := lw_privs_1 ++ (lw_privs_2 ++ (lw_privs_3))
def lw_tbl : List Cond := k2_sels lw_privs ++ tables_1
theorem lw_privs_ok : ∀ q ∈ lw_privs, lw_okq q := by
  show ∀ q ∈ lw_privs_1 ++ (lw_privs_2 ++ (lw_privs_3)), lw_okq q
  exact List.forall_mem_append.mpr ⟨lw_r1, List.forall_mem_append.mpr ⟨lw_r2, lw_r3⟩⟩
def RX0 : String := "NobodyLookedYesterday$FarmText"
def TX0 : u_T := fun k => match k with
  | 0 => ("NobodyLookedYesterday$FarmText", "letters", "[I", true)
  | _ => ("NobodyLookedYesterday$FarmText", "length", "I", false)
def tyX0 : Nat → FieldType := fun k => match k with
  | 0 => .array .int
  | _ => .int
theorem nmX0 : ∀ a, a < 2 → ∀ b, b < 2 → a ≠ b → (TX0 a).2.1 ≠ (TX0 b).2.1 := by decide +kernel
theorem tyX0_ok : ∀ k, k < 2 → parseFieldDescriptor (TX0 k).2.2.1 = some (tyX0 k) := by decide +kernel
def RX1 : String := "NobodyLookedYesterday$Planner"
def TX1 : u_T := fun k => match k with
  | 0 => ("NobodyLookedYesterday$Planner", "minds", "[LNobodyLookedYesterday$Yard;", true)
  | 1 => ("NobodyLookedYesterday$Planner", "allowed", "[I", true)
  | 2 => ("NobodyLookedYesterday$Planner", "heaps", "[I", true)
  | 3 => ("NobodyLookedYesterday$Planner", "sums", "[I", true)
  | 4 => ("NobodyLookedYesterday$Planner", "allowedCount", "I", false)
  | _ => ("NobodyLookedYesterday$Planner", "firstSet", "I", false)
def tyX1 : Nat → FieldType := fun k => match k with
  | 0 => .array (.object "NobodyLookedYesterday$Yard")
  | 1 => .array .int
  | 2 => .array .int
  | 3 => .array .int
  | 4 => .int
  | _ => .int
theorem nmX1 : ∀ a, a < 6 → ∀ b, b < 6 → a ≠ b → (TX1 a).2.1 ≠ (TX1 b).2.1 := by decide +kernel
theorem tyX1_ok : ∀ k, k < 6 → parseFieldDescriptor (TX1 k).2.2.1 = some (tyX1 k) := by decide +kernel
def RX2 : String := "NobodyLookedYesterday$Yard"
def TX2 : u_T := fun k => match k with
  | 0 => ("NobodyLookedYesterday$Yard", "xs", "[I", true)
  | 1 => ("NobodyLookedYesterday$Yard", "ys", "[I", true)
  | 2 => ("NobodyLookedYesterday$Yard", "minutes", "[I", true)
  | 3 => ("NobodyLookedYesterday$Yard", "likings", "[I", true)
  | 4 => ("NobodyLookedYesterday$Yard", "eggs", "[I", true)
  | 5 => ("NobodyLookedYesterday$Yard", "figures", "[I", true)
  | 6 => ("NobodyLookedYesterday$Yard", "weights", "[I", true)
  | 7 => ("NobodyLookedYesterday$Yard", "nests", "I", false)
  | 8 => ("NobodyLookedYesterday$Yard", "last", "I", false)
  | 9 => ("NobodyLookedYesterday$Yard", "looked", "I", false)
  | 10 => ("NobodyLookedYesterday$Yard", "before", "I", false)
  | 11 => ("NobodyLookedYesterday$Yard", "day", "I", false)
  | _ => ("NobodyLookedYesterday$Yard", "found", "I", false)
def tyX2 : Nat → FieldType := fun k => match k with
  | 0 => .array .int
  | 1 => .array .int
  | 2 => .array .int
  | 3 => .array .int
  | 4 => .array .int
  | 5 => .array .int
  | 6 => .array .int
  | 7 => .int
  | 8 => .int
  | 9 => .int
  | 10 => .int
  | 11 => .int
  | _ => .int
theorem nmX2 : ∀ a, a < 13 → ∀ b, b < 13 → a ≠ b → (TX2 a).2.1 ≠ (TX2 b).2.1 := by decide +kernel
theorem tyX2_ok : ∀ k, k < 13 → parseFieldDescriptor (TX2 k).2.2.1 = some (tyX2 k) := by decide +kernel
def RX3 : String := "NobodyLookedYesterday"
def TX3 : u_T := fun k => match k with
  | 0 => ("NobodyLookedYesterday", "yard", "LNobodyLookedYesterday$Yard;", true)
  | 1 => ("NobodyLookedYesterday", "kept", "LNobodyLookedYesterday$Yard;", true)
  | 2 => ("NobodyLookedYesterday", "mind", "LNobodyLookedYesterday$Yard;", true)
  | 3 => ("NobodyLookedYesterday", "planner", "LNobodyLookedYesterday$Planner;", true)
  | 4 => ("NobodyLookedYesterday", "text", "LNobodyLookedYesterday$FarmText;", true)
  | 5 => ("NobodyLookedYesterday", "told", "[I", true)
  | 6 => ("NobodyLookedYesterday", "laid", "[I", true)
  | 7 => ("NobodyLookedYesterday", "refusals", "[I", true)
  | 8 => ("NobodyLookedYesterday", "toldCount", "I", false)
  | _ => ("NobodyLookedYesterday", "isKept", "Z", false)
def tyX3 : Nat → FieldType := fun k => match k with
  | 0 => .object "NobodyLookedYesterday$Yard"
  | 1 => .object "NobodyLookedYesterday$Yard"
  | 2 => .object "NobodyLookedYesterday$Yard"
  | 3 => .object "NobodyLookedYesterday$Planner"
  | 4 => .object "NobodyLookedYesterday$FarmText"
  | 5 => .array .int
  | 6 => .array .int
  | 7 => .array .int
  | 8 => .int
  | _ => .boolean
theorem nmX3 : ∀ a, a < 10 → ∀ b, b < 10 → a ≠ b → (TX3 a).2.1 ≠ (TX3 b).2.1 := by decide +kernel
theorem tyX3_ok : ∀ k, k < 10 → parseFieldDescriptor (TX3 k).2.2.1 = some (tyX3 k) := by decide +kernel
def RX4 : String := "NobodyLookedYesterdayModel"
def TX4 : u_T := fun k => match k with
  | 0 => ("NobodyLookedYesterdayModel", "nests", "I", false)
  | 1 => ("NobodyLookedYesterdayModel", "kind", "I", false)
  | 2 => ("NobodyLookedYesterdayModel", "figure", "I", false)
  | 3 => ("NobodyLookedYesterdayModel", "time", "I", false)
  | 4 => ("NobodyLookedYesterdayModel", "rat", "I", false)
  | 5 => ("NobodyLookedYesterdayModel", "last", "I", false)
  | 6 => ("NobodyLookedYesterdayModel", "looked", "I", false)
  | 7 => ("NobodyLookedYesterdayModel", "before", "I", false)
  | 8 => ("NobodyLookedYesterdayModel", "days", "I", false)
  | 9 => ("NobodyLookedYesterdayModel", "found", "I", false)
  | 10 => ("NobodyLookedYesterdayModel", "xs", "[I", true)
  | 11 => ("NobodyLookedYesterdayModel", "ys", "[I", true)
  | 12 => ("NobodyLookedYesterdayModel", "minutes", "[I", true)
  | 13 => ("NobodyLookedYesterdayModel", "likings", "[I", true)
  | 14 => ("NobodyLookedYesterdayModel", "eggs", "[I", true)
  | 15 => ("NobodyLookedYesterdayModel", "thrown", "I", false)
  | 16 => ("NobodyLookedYesterdayModel", "refusals", "[I", true)
  | 17 => ("NobodyLookedYesterdayModel", "gone", "I", false)
  | 18 => ("NobodyLookedYesterdayModel", "weights", "[I", true)
  | 19 => ("NobodyLookedYesterdayModel", "weightOfAll", "I", false)
  | 20 => ("NobodyLookedYesterdayModel", "kept", "[I", true)
  | 21 => ("NobodyLookedYesterdayModel", "keptTwo", "[I", true)
  | 22 => ("NobodyLookedYesterdayModel", "keptThree", "[I", true)
  | 23 => ("NobodyLookedYesterdayModel", "imaged", "[I", true)
  | 24 => ("NobodyLookedYesterdayModel", "hasImage", "Z", false)
  | 25 => ("NobodyLookedYesterdayModel", "place", "I", false)
  | 26 => ("NobodyLookedYesterdayModel", "isTaking", "Z", false)
  | 27 => ("NobodyLookedYesterdayModel", "keptIn", "[I", false)
  | 28 => ("NobodyLookedYesterdayModel", "letters", "[I", true)
  | 29 => ("NobodyLookedYesterdayModel", "letterMany", "I", false)
  | 30 => ("NobodyLookedYesterdayModel", "at", "I", false)
  | 31 => ("NobodyLookedYesterdayModel", "isBad", "Z", false)
  | 32 => ("NobodyLookedYesterdayModel", "statements", "I", false)
  | 33 => ("NobodyLookedYesterdayModel", "placeOf", "[I", true)
  | 34 => ("NobodyLookedYesterdayModel", "letterOf", "[I", true)
  | 35 => ("NobodyLookedYesterdayModel", "told", "[I", true)
  | 36 => ("NobodyLookedYesterdayModel", "row", "[I", true)
  | 37 => ("NobodyLookedYesterdayModel", "rowMany", "I", false)
  | 38 => ("NobodyLookedYesterdayModel", "laid", "[I", true)
  | _ => ("NobodyLookedYesterdayModel", "seed", "I", false)
def tyX4 : Nat → FieldType := fun k => match k with
  | 0 => .int
  | 1 => .int
  | 2 => .int
  | 3 => .int
  | 4 => .int
  | 5 => .int
  | 6 => .int
  | 7 => .int
  | 8 => .int
  | 9 => .int
  | 10 => .array .int
  | 11 => .array .int
  | 12 => .array .int
  | 13 => .array .int
  | 14 => .array .int
  | 15 => .int
  | 16 => .array .int
  | 17 => .int
  | 18 => .array .int
  | 19 => .int
  | 20 => .array .int
  | 21 => .array .int
  | 22 => .array .int
  | 23 => .array .int
  | 24 => .boolean
  | 25 => .int
  | 26 => .boolean
  | 27 => .array .int
  | 28 => .array .int
  | 29 => .int
  | 30 => .int
  | 31 => .boolean
  | 32 => .int
  | 33 => .array .int
  | 34 => .array .int
  | 35 => .array .int
  | 36 => .array .int
  | 37 => .int
  | 38 => .array .int
  | _ => .int
theorem nmX4 : ∀ a, a < 40 → ∀ b, b < 40 → a ≠ b → (TX4 a).2.1 ≠ (TX4 b).2.1 := by decide +kernel
theorem tyX4_ok : ∀ k, k < 40 → parseFieldDescriptor (TX4 k).2.2.1 = some (tyX4 k) := by decide +kernel
def RJ6 : String := "java/lang/Integer"
def RJ9 : String := "java/lang/Math"
def RJ10 : String := "java/lang/System"
abbrev cX0_init : ByteArray := prog_2_method_1_code
def yX0_init : MethodName := ⟨RX0, "<init>", "()V"⟩
abbrev cX0_append : ByteArray := prog_2_method_2_code
def yX0_append : MethodName := ⟨RX0, "append", "(I)I"⟩
abbrev cX0_readInto : ByteArray := prog_2_method_3_code
def yX0_readInto : MethodName := ⟨RX0, "readInto", "(LNobodyLookedYesterday$Yard;)I"⟩
abbrev cX0_firstUnfit : ByteArray := prog_2_method_4_code
def yX0_firstUnfit : MethodName := ⟨RX0, "firstUnfit", "()I"⟩
abbrev cX0_applyStatement : ByteArray := prog_2_method_5_code
def yX0_applyStatement : MethodName := ⟨RX0, "applyStatement", "(LNobodyLookedYesterday$Yard;II)Z"⟩
abbrev cX0_leastDigits : ByteArray := prog_2_method_6_code
def yX0_leastDigits : MethodName := ⟨RX0, "leastDigits", "(I)I"⟩
abbrev cX0_digitsBehind : ByteArray := prog_2_method_7_code
def yX0_digitsBehind : MethodName := ⟨RX0, "digitsBehind", "(I)I"⟩
abbrev cX0_digitAt : ByteArray := prog_2_method_8_code
def yX0_digitAt : MethodName := ⟨RX0, "digitAt", "(I)I"⟩
abbrev cX0_letterAt : ByteArray := prog_2_method_9_code
def yX0_letterAt : MethodName := ⟨RX0, "letterAt", "(I)I"⟩
abbrev cX1_init : ByteArray := prog_3_method_1_code
def yX1_init : MethodName := ⟨RX1, "<init>", "()V"⟩
abbrev cX1_listAllowed : ByteArray := prog_3_method_2_code
def yX1_listAllowed : MethodName := ⟨RX1, "listAllowed", "(LNobodyLookedYesterday$Yard;)V"⟩
abbrev cX1_mostFound : ByteArray := prog_3_method_3_code
def yX1_mostFound : MethodName := ⟨RX1, "mostFound", "(LNobodyLookedYesterday$Yard;I)I"⟩
abbrev cX1_mostFrom : ByteArray := prog_3_method_4_code
def yX1_mostFrom : MethodName := ⟨RX1, "mostFrom", "(LNobodyLookedYesterday$Planner;II)I"⟩
abbrev cX1_noteFirst : ByteArray := prog_3_method_5_code
def yX1_noteFirst : MethodName := ⟨RX1, "noteFirst", "(II)V"⟩
abbrev cX1_mostToday : ByteArray := prog_3_method_6_code
def yX1_mostToday : MethodName := ⟨RX1, "mostToday", "(I)I"⟩
abbrev cX1_leastShutting : ByteArray := prog_3_method_7_code
def yX1_leastShutting : MethodName := ⟨RX1, "leastShutting", "(LNobodyLookedYesterday$Yard;)I"⟩
abbrev cX1_fewestDays : ByteArray := prog_3_method_8_code
def yX1_fewestDays : MethodName := ⟨RX1, "fewestDays", "(LNobodyLookedYesterday$Yard;I)I"⟩
abbrev cX1_laidByAnySet : ByteArray := prog_3_method_9_code
def yX1_laidByAnySet : MethodName := ⟨RX1, "laidByAnySet", "(LNobodyLookedYesterday$Yard;)I"⟩
abbrev cX2_init : ByteArray := prog_4_method_1_code
def yX2_init : MethodName := ⟨RX2, "<init>", "()V"⟩
abbrev cX2_copyFrom : ByteArray := prog_4_method_2_code
def yX2_copyFrom : MethodName := ⟨RX2, "copyFrom", "(LNobodyLookedYesterday$Yard;)V"⟩
abbrev cX2_copyCourse : ByteArray := prog_4_method_3_code
def yX2_copyCourse : MethodName := ⟨RX2, "copyCourse", "(LNobodyLookedYesterday$Yard;)V"⟩
abbrev cX2_addNest : ByteArray := prog_4_method_4_code
def yX2_addNest : MethodName := ⟨RX2, "addNest", "(IIII)Z"⟩
abbrev cX2_addEgg : ByteArray := prog_4_method_5_code
def yX2_addEgg : MethodName := ⟨RX2, "addEgg", "(II)Z"⟩
abbrev cX2_change : ByteArray := prog_4_method_6_code
def yX2_change : MethodName := ⟨RX2, "change", "(II)Z"⟩
abbrev cX2_allNests : ByteArray := prog_4_method_7_code
def yX2_allNests : MethodName := ⟨RX2, "allNests", "()I"⟩
abbrev cX2_eggsAt : ByteArray := prog_4_method_8_code
def yX2_eggsAt : MethodName := ⟨RX2, "eggsAt", "(I)I"⟩
abbrev cX2_allEggs : ByteArray := prog_4_method_9_code
def yX2_allEggs : MethodName := ⟨RX2, "allEggs", "()I"⟩
abbrev cX2_greatestAge : ByteArray := prog_4_method_10_code
def yX2_greatestAge : MethodName := ⟨RX2, "greatestAge", "(I)I"⟩
abbrev cX2_minutesOf : ByteArray := prog_4_method_11_code
def yX2_minutesOf : MethodName := ⟨RX2, "minutesOf", "(I)I"⟩
abbrev cX2_timeLeft : ByteArray := prog_4_method_12_code
def yX2_timeLeft : MethodName := ⟨RX2, "timeLeft", "()I"⟩
abbrev cX2_takeEggs : ByteArray := prog_4_method_13_code
def yX2_takeEggs : MethodName := ⟨RX2, "takeEggs", "(I)I"⟩
abbrev cX2_emptyNest : ByteArray := prog_4_method_14_code
def yX2_emptyNest : MethodName := ⟨RX2, "emptyNest", "(I)I"⟩
abbrev cX2_mayAmong : ByteArray := prog_4_method_15_code
def yX2_mayAmong : MethodName := ⟨RX2, "mayAmong", "(I)I"⟩
abbrev cX2_weigh : ByteArray := prog_4_method_16_code
def yX2_weigh : MethodName := ⟨RX2, "weigh", "(I)I"⟩
abbrev cX2_weighAlike : ByteArray := prog_4_method_17_code
def yX2_weighAlike : MethodName := ⟨RX2, "weighAlike", "(I)I"⟩
abbrev cX2_weightOf : ByteArray := prog_4_method_18_code
def yX2_weightOf : MethodName := ⟨RX2, "weightOf", "(I)I"⟩
abbrev cX2_laysAmong : ByteArray := prog_4_method_19_code
def yX2_laysAmong : MethodName := ⟨RX2, "laysAmong", "(I)I"⟩
abbrev cX2_nestByLot : ByteArray := prog_4_method_20_code
def yX2_nestByLot : MethodName := ⟨RX2, "nestByLot", "(I)I"⟩
abbrev cX2_nestAtWeight : ByteArray := prog_4_method_21_code
def yX2_nestAtWeight : MethodName := ⟨RX2, "nestAtWeight", "(I)I"⟩
abbrev cX2_passNight : ByteArray := prog_4_method_22_code
def yX2_passNight : MethodName := ⟨RX2, "passNight", "(I)V"⟩
abbrev cX2_ageEggs : ByteArray := prog_4_method_23_code
def yX2_ageEggs : MethodName := ⟨RX2, "ageEggs", "(I)V"⟩
abbrev cX3_init : ByteArray := prog_1_method_1_code
def yX3_init : MethodName := ⟨RX3, "<init>", "()V"⟩
abbrev cX3_feed : ByteArray := prog_1_method_2_code
def yX3_feed : MethodName := ⟨RX3, "feed", "(I)I"⟩
abbrev cX3_farm : ByteArray := prog_1_method_3_code
def yX3_farm : MethodName := ⟨RX3, "farm", "()I"⟩
abbrev cX3_nest : ByteArray := prog_1_method_4_code
def yX3_nest : MethodName := ⟨RX3, "nest", "(II)I"⟩
abbrev cX3_set : ByteArray := prog_1_method_5_code
def yX3_set : MethodName := ⟨RX3, "set", "(II)I"⟩
abbrev cX3_look : ByteArray := prog_1_method_6_code
def yX3_look : MethodName := ⟨RX3, "look", "(I)I"⟩
abbrev cX3_night : ByteArray := prog_1_method_7_code
def yX3_night : MethodName := ⟨RX3, "night", "()I"⟩
abbrev cX3_tonight : ByteArray := prog_1_method_8_code
def yX3_tonight : MethodName := ⟨RX3, "tonight", "(I)I"⟩
abbrev cX3_likely : ByteArray := prog_1_method_9_code
def yX3_likely : MethodName := ⟨RX3, "likely", "(II)J"⟩
abbrev cX3_plan : ByteArray := prog_1_method_10_code
def yX3_plan : MethodName := ⟨RX3, "plan", "(II)I"⟩
abbrev cX3_each : ByteArray := prog_1_method_11_code
def yX3_each : MethodName := ⟨RX3, "each", "(II)I"⟩
abbrev cX3_shut : ByteArray := prog_1_method_12_code
def yX3_shut : MethodName := ⟨RX3, "shut", "()I"⟩
abbrev cX3_lead : ByteArray := prog_1_method_13_code
def yX3_lead : MethodName := ⟨RX3, "lead", "(I)I"⟩
abbrev cX3_row : ByteArray := prog_1_method_14_code
def yX3_row : MethodName := ⟨RX3, "row", "(I)I"⟩
abbrev cX3_ways : ByteArray := prog_1_method_15_code
def yX3_ways : MethodName := ⟨RX3, "ways", "()I"⟩
abbrev cX3_soon : ByteArray := prog_1_method_16_code
def yX3_soon : MethodName := ⟨RX3, "soon", "()I"⟩
abbrev cX3_settle : ByteArray := prog_1_method_17_code
def yX3_settle : MethodName := ⟨RX3, "settle", "(I)I"⟩
abbrev cX3_without : ByteArray := prog_1_method_18_code
def yX3_without : MethodName := ⟨RX3, "without", "(I)I"⟩
abbrev cX3_put : ByteArray := prog_1_method_19_code
def yX3_put : MethodName := ⟨RX3, "put", "(III)I"⟩
abbrev cX3_been : ByteArray := prog_1_method_20_code
def yX3_been : MethodName := ⟨RX3, "been", "(I)I"⟩
abbrev cX3_judge : ByteArray := prog_1_method_21_code
def yX3_judge : MethodName := ⟨RX3, "judge", "()I"⟩
abbrev cX3_seeds : ByteArray := prog_1_method_22_code
def yX3_seeds : MethodName := ⟨RX3, "seeds", "(II)I"⟩
abbrev cX3_clear : ByteArray := prog_1_method_23_code
def yX3_clear : MethodName := ⟨RX3, "clear", "()I"⟩
abbrev cX3_image : ByteArray := prog_1_method_24_code
def yX3_image : MethodName := ⟨RX3, "image", "()I"⟩
abbrev cX3_restore : ByteArray := prog_1_method_25_code
def yX3_restore : MethodName := ⟨RX3, "restore", "()I"⟩
abbrev cX3_count : ByteArray := prog_1_method_26_code
def yX3_count : MethodName := ⟨RX3, "count", "(I)I"⟩
abbrev cX3_refuse : ByteArray := prog_1_method_27_code
def yX3_refuse : MethodName := ⟨RX3, "refuse", "(I)I"⟩
abbrev cX3_isNoNest : ByteArray := prog_1_method_28_code
def yX3_isNoNest : MethodName := ⟨RX3, "isNoNest", "(I)Z"⟩
abbrev cX3_weightTonight : ByteArray := prog_1_method_29_code
def yX3_weightTonight : MethodName := ⟨RX3, "weightTonight", "(I)I"⟩
abbrev cX3_layRow : ByteArray := prog_1_method_30_code
def yX3_layRow : MethodName := ⟨RX3, "layRow", "(I)V"⟩
abbrev cX3_firstUntrue : ByteArray := prog_1_method_31_code
def yX3_firstUntrue : MethodName := ⟨RX3, "firstUntrue", "(I)I"⟩
abbrev cX3_nightsUntilUnlike : ByteArray := prog_1_method_32_code
def yX3_nightsUntilUnlike : MethodName := ⟨RX3, "nightsUntilUnlike", "(II)I"⟩
abbrev cX3_nextSeed : ByteArray := prog_1_method_33_code
def yX3_nextSeed : MethodName := ⟨RX3, "nextSeed", "(I)I"⟩
abbrev cX3_drawBelow : ByteArray := prog_1_method_34_code
def yX3_drawBelow : MethodName := ⟨RX3, "drawBelow", "(II)I"⟩
abbrev cX3_commonDivisor : ByteArray := prog_1_method_35_code
def yX3_commonDivisor : MethodName := ⟨RX3, "commonDivisor", "(II)I"⟩
abbrev cX4_init : ByteArray := prog_6_method_1_code
def yX4_init : MethodName := ⟨RX4, "<init>", "()V"⟩
abbrev cX4_in : ByteArray := prog_6_method_3_code
def yX4_in : MethodName := ⟨RX4, "in", "(JJJ)Z"⟩
abbrev cX4_refuse : ByteArray := prog_6_method_4_code
def yX4_refuse : MethodName := ⟨RX4, "refuse", "(I)I"⟩
abbrev cX4_isNest : ByteArray := prog_6_method_5_code
def yX4_isNest : MethodName := ⟨RX4, "isNest", "(I)Z"⟩
abbrev cX4_eggsIn : ByteArray := prog_6_method_6_code
def yX4_eggsIn : MethodName := ⟨RX4, "eggsIn", "(I)I"⟩
abbrev cX4_mayBits : ByteArray := prog_6_method_7_code
def yX4_mayBits : MethodName := ⟨RX4, "mayBits", "()I"⟩
abbrev cX4_apart : ByteArray := prog_6_method_8_code
def yX4_apart : MethodName := ⟨RX4, "apart", "(II)I"⟩
abbrev cX4_rawWeight : ByteArray := prog_6_method_9_code
def yX4_rawWeight : MethodName := ⟨RX4, "rawWeight", "(I)I"⟩
abbrev cX4_weigh : ByteArray := prog_6_method_10_code
def yX4_weigh : MethodName := ⟨RX4, "weigh", "()V"⟩
abbrev cX4_laysAt : ByteArray := prog_6_method_11_code
def yX4_laysAt : MethodName := ⟨RX4, "laysAt", "()I"⟩
abbrev cX4_nightAt : ByteArray := prog_6_method_12_code
def yX4_nightAt : MethodName := ⟨RX4, "nightAt", "(I)V"⟩
abbrev cX4_nightOn : ByteArray := prog_6_method_13_code
def yX4_nightOn : MethodName := ⟨RX4, "nightOn", "()I"⟩
abbrev cX4_take : ByteArray := prog_6_method_14_code
def yX4_take : MethodName := ⟨RX4, "take", "(I)I"⟩
abbrev cX4_minutesOf : ByteArray := prog_6_method_15_code
def yX4_minutesOf : MethodName := ⟨RX4, "minutesOf", "(I)I"⟩
abbrev cX4_carry : ByteArray := prog_6_method_16_code
def yX4_carry : MethodName := ⟨RX4, "carry", "(I)I"⟩
abbrev cX4_carryAll : ByteArray := prog_6_method_17_code
def yX4_carryAll : MethodName := ⟨RX4, "carryAll", "([IZ)V"⟩
abbrev cX4_open : ByteArray := prog_6_method_18_code
def yX4_open : MethodName := ⟨RX4, "open", "()V"⟩
abbrev cX4_close : ByteArray := prog_6_method_19_code
def yX4_close : MethodName := ⟨RX4, "close", "()V"⟩
abbrev cX4_image : ByteArray := prog_6_method_20_code
def yX4_image : MethodName := ⟨RX4, "image", "()I"⟩
abbrev cX4_restore : ByteArray := prog_6_method_21_code
def yX4_restore : MethodName := ⟨RX4, "restore", "()I"⟩
abbrev cX4_feed : ByteArray := prog_6_method_22_code
def yX4_feed : MethodName := ⟨RX4, "feed", "(I)I"⟩
abbrev cX4_here : ByteArray := prog_6_method_23_code
def yX4_here : MethodName := ⟨RX4, "here", "()I"⟩
abbrev cX4_readDigit : ByteArray := prog_6_method_24_code
def yX4_readDigit : MethodName := ⟨RX4, "readDigit", "()I"⟩
abbrev cX4_readStatement : ByteArray := prog_6_method_25_code
def yX4_readStatement : MethodName := ⟨RX4, "readStatement", "()V"⟩
abbrev cX4_comes : ByteArray := prog_6_method_26_code
def yX4_comes : MethodName := ⟨RX4, "comes", "(I)Z"⟩
abbrev cX4_farm : ByteArray := prog_6_method_27_code
def yX4_farm : MethodName := ⟨RX4, "farm", "()I"⟩
abbrev cX4_nest : ByteArray := prog_6_method_28_code
def yX4_nest : MethodName := ⟨RX4, "nest", "(II)I"⟩
abbrev cX4_oldest : ByteArray := prog_6_method_29_code
def yX4_oldest : MethodName := ⟨RX4, "oldest", "(I)I"⟩
abbrev cX4_set : ByteArray := prog_6_method_30_code
def yX4_set : MethodName := ⟨RX4, "set", "(II)I"⟩
abbrev cX4_look : ByteArray := prog_6_method_31_code
def yX4_look : MethodName := ⟨RX4, "look", "(I)I"⟩
abbrev cX4_night : ByteArray := prog_6_method_32_code
def yX4_night : MethodName := ⟨RX4, "night", "()I"⟩
abbrev cX4_tonight : ByteArray := prog_6_method_33_code
def yX4_tonight : MethodName := ⟨RX4, "tonight", "(I)I"⟩
abbrev cX4_likely : ByteArray := prog_6_method_34_code
def yX4_likely : MethodName := ⟨RX4, "likely", "(II)J"⟩
abbrev cX4_allows : ByteArray := prog_6_method_35_code
def yX4_allows : MethodName := ⟨RX4, "allows", "(I)Z"⟩
abbrev cX4_eggsOf : ByteArray := prog_6_method_36_code
def yX4_eggsOf : MethodName := ⟨RX4, "eggsOf", "(I)I"⟩
abbrev cX4_bestOfDay : ByteArray := prog_6_method_37_code
def yX4_bestOfDay : MethodName := ⟨RX4, "bestOfDay", "()I"⟩
abbrev cX4_bestOfTwo : ByteArray := prog_6_method_38_code
def yX4_bestOfTwo : MethodName := ⟨RX4, "bestOfTwo", "()I"⟩
abbrev cX4_plan : ByteArray := prog_6_method_39_code
def yX4_plan : MethodName := ⟨RX4, "plan", "(II)I"⟩
abbrev cX4_each : ByteArray := prog_6_method_40_code
def yX4_each : MethodName := ⟨RX4, "each", "(II)I"⟩
abbrev cX4_shut : ByteArray := prog_6_method_41_code
def yX4_shut : MethodName := ⟨RX4, "shut", "()I"⟩
abbrev cX4_lead : ByteArray := prog_6_method_42_code
def yX4_lead : MethodName := ⟨RX4, "lead", "(I)I"⟩
abbrev cX4_row : ByteArray := prog_6_method_43_code
def yX4_row : MethodName := ⟨RX4, "row", "(I)I"⟩
abbrev cX4_firstUnlike : ByteArray := prog_6_method_44_code
def yX4_firstUnlike : MethodName := ⟨RX4, "firstUnlike", "()I"⟩
abbrev cX4_ways : ByteArray := prog_6_method_45_code
def yX4_ways : MethodName := ⟨RX4, "ways", "()I"⟩
abbrev cX4_soon : ByteArray := prog_6_method_46_code
def yX4_soon : MethodName := ⟨RX4, "soon", "()I"⟩
abbrev cX4_eggsOfAll : ByteArray := prog_6_method_47_code
def yX4_eggsOfAll : MethodName := ⟨RX4, "eggsOfAll", "()I"⟩
abbrev cX4_settle : ByteArray := prog_6_method_48_code
def yX4_settle : MethodName := ⟨RX4, "settle", "(I)I"⟩
abbrev cX4_without : ByteArray := prog_6_method_49_code
def yX4_without : MethodName := ⟨RX4, "without", "(I)I"⟩
abbrev cX4_put : ByteArray := prog_6_method_50_code
def yX4_put : MethodName := ⟨RX4, "put", "(III)I"⟩
abbrev cX4_been : ByteArray := prog_6_method_51_code
def yX4_been : MethodName := ⟨RX4, "been", "(I)I"⟩
abbrev cX4_judge : ByteArray := prog_6_method_52_code
def yX4_judge : MethodName := ⟨RX4, "judge", "()I"⟩
abbrev cX4_draw : ByteArray := prog_6_method_53_code
def yX4_draw : MethodName := ⟨RX4, "draw", "(I)I"⟩
abbrev cX4_drawnNest : ByteArray := prog_6_method_54_code
def yX4_drawnNest : MethodName := ⟨RX4, "drawnNest", "()I"⟩
abbrev cX4_seeds : ByteArray := prog_6_method_55_code
def yX4_seeds : MethodName := ⟨RX4, "seeds", "(II)I"⟩
abbrev cX4_clear : ByteArray := prog_6_method_56_code
def yX4_clear : MethodName := ⟨RX4, "clear", "()I"⟩
abbrev cX4_count : ByteArray := prog_6_method_57_code
def yX4_count : MethodName := ⟨RX4, "count", "(I)I"⟩
abbrev cJ6_numberOfTrailingZeros_0f7a4 : ByteArray := prog_7_method_48_code
def yJ6_numberOfTrailingZeros_0f7a4 : MethodName := ⟨RJ6, "numberOfTrailingZeros", "(I)I"⟩
abbrev cJ6_bitCount_0f7a4 : ByteArray := prog_7_method_49_code
def yJ6_bitCount_0f7a4 : MethodName := ⟨RJ6, "bitCount", "(I)I"⟩
abbrev cJ9_abs_0f7a4 : ByteArray := prog_8_method_59_code
def yJ9_abs_0f7a4 : MethodName := ⟨RJ9, "abs", "(I)I"⟩
abbrev cJ9_max_7cf53 : ByteArray := prog_8_method_65_code
def yJ9_max_7cf53 : MethodName := ⟨RJ9, "max", "(II)I"⟩
def zz_cl : List vw_C := [(RX0, TX0, 2), (RX1, TX1, 6), (RX2, TX2, 13), (RX3, TX3, 10), (RX4, TX4, 40)]
