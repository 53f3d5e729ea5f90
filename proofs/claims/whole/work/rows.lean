section
-- ===== PART A: goes FIRST, ahead of the names: the tables' words, and 'selects' of the private methods out of them =====
/-- a private method of a class that the tables say can be made, by its rows of tables_1 -/
def lw_okq (q : MethodName × Nat) : Prop := (q.1.cls ≠ "java/lang/invoke/MethodHandle" ∧ q.1.cls ≠ "java/lang/invoke/VarHandle") ∧ Cond.instantiable q.1.cls q.2 ∈ tables_1 ∧ Cond.privateMethod q.1 ∈ tables_1 ∧ Cond.instanceMethod q.1 ∈ tables_1
theorem lw_p0 : lw_okq (⟨"NobodyLookedYesterday", "refuse", "(I)I"⟩, 10) := ⟨⟨by decide +kernel, by decide +kernel⟩, List.mem_of_getElem? (i := 10) (by decide +kernel), List.mem_of_getElem? (i := 161) (by decide +kernel), List.mem_of_getElem? (i := 162) (by decide +kernel)⟩
theorem lw_p1 : lw_okq (⟨"NobodyLookedYesterday$FarmText", "firstUnfit", "()I"⟩, 2) := ⟨⟨by decide +kernel, by decide +kernel⟩, List.mem_of_getElem? (i := 112) (by decide +kernel), List.mem_of_getElem? (i := 188) (by decide +kernel), List.mem_of_getElem? (i := 189) (by decide +kernel)⟩
theorem lw_p2 : lw_okq (⟨"NobodyLookedYesterday$FarmText", "digitsBehind", "(I)I"⟩, 2) := ⟨⟨by decide +kernel, by decide +kernel⟩, List.mem_of_getElem? (i := 112) (by decide +kernel), List.mem_of_getElem? (i := 195) (by decide +kernel), List.mem_of_getElem? (i := 196) (by decide +kernel)⟩
theorem lw_p3 : lw_okq (⟨"NobodyLookedYesterday$FarmText", "letterAt", "(I)I"⟩, 2) := ⟨⟨by decide +kernel, by decide +kernel⟩, List.mem_of_getElem? (i := 112) (by decide +kernel), List.mem_of_getElem? (i := 199) (by decide +kernel), List.mem_of_getElem? (i := 200) (by decide +kernel)⟩
theorem lw_p4 : lw_okq (⟨"NobodyLookedYesterday$FarmText", "digitAt", "(I)I"⟩, 2) := ⟨⟨by decide +kernel, by decide +kernel⟩, List.mem_of_getElem? (i := 112) (by decide +kernel), List.mem_of_getElem? (i := 203) (by decide +kernel), List.mem_of_getElem? (i := 204) (by decide +kernel)⟩
theorem lw_p5 : lw_okq (⟨"NobodyLookedYesterday$FarmText", "applyStatement", "(LNobodyLookedYesterday$Yard;II)Z"⟩, 2) := ⟨⟨by decide +kernel, by decide +kernel⟩, List.mem_of_getElem? (i := 112) (by decide +kernel), List.mem_of_getElem? (i := 207) (by decide +kernel), List.mem_of_getElem? (i := 208) (by decide +kernel)⟩
theorem lw_p6 : lw_okq (⟨"NobodyLookedYesterday", "isNoNest", "(I)Z"⟩, 10) := ⟨⟨by decide +kernel, by decide +kernel⟩, List.mem_of_getElem? (i := 10) (by decide +kernel), List.mem_of_getElem? (i := 231) (by decide +kernel), List.mem_of_getElem? (i := 232) (by decide +kernel)⟩
theorem lw_p7 : lw_okq (⟨"NobodyLookedYesterday", "weightTonight", "(I)I"⟩, 10) := ⟨⟨by decide +kernel, by decide +kernel⟩, List.mem_of_getElem? (i := 10) (by decide +kernel), List.mem_of_getElem? (i := 243) (by decide +kernel), List.mem_of_getElem? (i := 244) (by decide +kernel)⟩
theorem lw_p8 : lw_okq (⟨"NobodyLookedYesterday$Yard", "weightOf", "(I)I"⟩, 13) := ⟨⟨by decide +kernel, by decide +kernel⟩, List.mem_of_getElem? (i := 18) (by decide +kernel), List.mem_of_getElem? (i := 259) (by decide +kernel), List.mem_of_getElem? (i := 260) (by decide +kernel)⟩
theorem lw_p9 : lw_okq (⟨"NobodyLookedYesterday$Yard", "weighAlike", "(I)I"⟩, 13) := ⟨⟨by decide +kernel, by decide +kernel⟩, List.mem_of_getElem? (i := 18) (by decide +kernel), List.mem_of_getElem? (i := 270) (by decide +kernel), List.mem_of_getElem? (i := 271) (by decide +kernel)⟩
theorem lw_p10 : lw_okq (⟨"NobodyLookedYesterday$Yard", "emptyNest", "(I)I"⟩, 13) := ⟨⟨by decide +kernel, by decide +kernel⟩, List.mem_of_getElem? (i := 18) (by decide +kernel), List.mem_of_getElem? (i := 302) (by decide +kernel), List.mem_of_getElem? (i := 303) (by decide +kernel)⟩
theorem lw_p11 : lw_okq (⟨"NobodyLookedYesterday$Yard", "nestByLot", "(I)I"⟩, 13) := ⟨⟨by decide +kernel, by decide +kernel⟩, List.mem_of_getElem? (i := 18) (by decide +kernel), List.mem_of_getElem? (i := 315) (by decide +kernel), List.mem_of_getElem? (i := 316) (by decide +kernel)⟩
theorem lw_p12 : lw_okq (⟨"NobodyLookedYesterday$Yard", "ageEggs", "(I)V"⟩, 13) := ⟨⟨by decide +kernel, by decide +kernel⟩, List.mem_of_getElem? (i := 18) (by decide +kernel), List.mem_of_getElem? (i := 324) (by decide +kernel), List.mem_of_getElem? (i := 325) (by decide +kernel)⟩
theorem lw_p13 : lw_okq (⟨"NobodyLookedYesterday$Planner", "listAllowed", "(LNobodyLookedYesterday$Yard;)V"⟩, 6) := ⟨⟨by decide +kernel, by decide +kernel⟩, List.mem_of_getElem? (i := 83) (by decide +kernel), List.mem_of_getElem? (i := 348) (by decide +kernel), List.mem_of_getElem? (i := 349) (by decide +kernel)⟩
theorem lw_p14 : lw_okq (⟨"NobodyLookedYesterday$Planner", "mostToday", "(I)I"⟩, 6) := ⟨⟨by decide +kernel, by decide +kernel⟩, List.mem_of_getElem? (i := 83) (by decide +kernel), List.mem_of_getElem? (i := 357) (by decide +kernel), List.mem_of_getElem? (i := 358) (by decide +kernel)⟩
theorem lw_p15 : lw_okq (⟨"NobodyLookedYesterday$Planner", "noteFirst", "(II)V"⟩, 6) := ⟨⟨by decide +kernel, by decide +kernel⟩, List.mem_of_getElem? (i := 83) (by decide +kernel), List.mem_of_getElem? (i := 362) (by decide +kernel), List.mem_of_getElem? (i := 363) (by decide +kernel)⟩
def lw_privs_1 : List (MethodName × Nat) := [(⟨"NobodyLookedYesterday", "refuse", "(I)I"⟩, 10), (⟨"NobodyLookedYesterday$FarmText", "firstUnfit", "()I"⟩, 2), (⟨"NobodyLookedYesterday$FarmText", "digitsBehind", "(I)I"⟩, 2), (⟨"NobodyLookedYesterday$FarmText", "letterAt", "(I)I"⟩, 2), (⟨"NobodyLookedYesterday$FarmText", "digitAt", "(I)I"⟩, 2), (⟨"NobodyLookedYesterday$FarmText", "applyStatement", "(LNobodyLookedYesterday$Yard;II)Z"⟩, 2), (⟨"NobodyLookedYesterday", "isNoNest", "(I)Z"⟩, 10), (⟨"NobodyLookedYesterday", "weightTonight", "(I)I"⟩, 10), (⟨"NobodyLookedYesterday$Yard", "weightOf", "(I)I"⟩, 13), (⟨"NobodyLookedYesterday$Yard", "weighAlike", "(I)I"⟩, 13), (⟨"NobodyLookedYesterday$Yard", "emptyNest", "(I)I"⟩, 13), (⟨"NobodyLookedYesterday$Yard", "nestByLot", "(I)I"⟩, 13), (⟨"NobodyLookedYesterday$Yard", "ageEggs", "(I)V"⟩, 13), (⟨"NobodyLookedYesterday$Planner", "listAllowed", "(LNobodyLookedYesterday$Yard;)V"⟩, 6), (⟨"NobodyLookedYesterday$Planner", "mostToday", "(I)I"⟩, 6), (⟨"NobodyLookedYesterday$Planner", "noteFirst", "(II)V"⟩, 6)]
theorem lw_r1 : ∀ q ∈ lw_privs_1, lw_okq q := List.forall_mem_cons.mpr ⟨lw_p0, List.forall_mem_cons.mpr ⟨lw_p1, List.forall_mem_cons.mpr ⟨lw_p2, List.forall_mem_cons.mpr ⟨lw_p3, List.forall_mem_cons.mpr ⟨lw_p4, List.forall_mem_cons.mpr ⟨lw_p5, List.forall_mem_cons.mpr ⟨lw_p6, List.forall_mem_cons.mpr ⟨lw_p7, List.forall_mem_cons.mpr ⟨lw_p8, List.forall_mem_cons.mpr ⟨lw_p9, List.forall_mem_cons.mpr ⟨lw_p10, List.forall_mem_cons.mpr ⟨lw_p11, List.forall_mem_cons.mpr ⟨lw_p12, List.forall_mem_cons.mpr ⟨lw_p13, List.forall_mem_cons.mpr ⟨lw_p14, List.forall_mem_cons.mpr ⟨lw_p15, fun _ h => absurd h List.not_mem_nil⟩⟩⟩⟩⟩⟩⟩⟩⟩⟩⟩⟩⟩⟩⟩⟩
theorem lw_p16 : lw_okq (⟨"NobodyLookedYesterday$Planner", "laidByAnySet", "(LNobodyLookedYesterday$Yard;)I"⟩, 6) := ⟨⟨by decide +kernel, by decide +kernel⟩, List.mem_of_getElem? (i := 83) (by decide +kernel), List.mem_of_getElem? (i := 400) (by decide +kernel), List.mem_of_getElem? (i := 401) (by decide +kernel)⟩
theorem lw_p17 : lw_okq (⟨"NobodyLookedYesterday", "layRow", "(I)V"⟩, 10) := ⟨⟨by decide +kernel, by decide +kernel⟩, List.mem_of_getElem? (i := 10) (by decide +kernel), List.mem_of_getElem? (i := 412) (by decide +kernel), List.mem_of_getElem? (i := 413) (by decide +kernel)⟩
theorem lw_p18 : lw_okq (⟨"NobodyLookedYesterday", "firstUntrue", "(I)I"⟩, 10) := ⟨⟨by decide +kernel, by decide +kernel⟩, List.mem_of_getElem? (i := 10) (by decide +kernel), List.mem_of_getElem? (i := 416) (by decide +kernel), List.mem_of_getElem? (i := 417) (by decide +kernel)⟩
theorem lw_p19 : lw_okq (⟨"NobodyLookedYesterday", "nightsUntilUnlike", "(II)I"⟩, 10) := ⟨⟨by decide +kernel, by decide +kernel⟩, List.mem_of_getElem? (i := 10) (by decide +kernel), List.mem_of_getElem? (i := 424) (by decide +kernel), List.mem_of_getElem? (i := 425) (by decide +kernel)⟩
theorem lw_p20 : lw_okq (⟨"NobodyLookedYesterdayModel", "carryAll", "([IZ)V"⟩, 40) := ⟨⟨by decide +kernel, by decide +kernel⟩, List.mem_of_getElem? (i := 484) (by decide +kernel), List.mem_of_getElem? (i := 615) (by decide +kernel), List.mem_of_getElem? (i := 616) (by decide +kernel)⟩
theorem lw_p21 : lw_okq (⟨"NobodyLookedYesterdayModel", "carry", "(I)I"⟩, 40) := ⟨⟨by decide +kernel, by decide +kernel⟩, List.mem_of_getElem? (i := 484) (by decide +kernel), List.mem_of_getElem? (i := 619) (by decide +kernel), List.mem_of_getElem? (i := 620) (by decide +kernel)⟩
theorem lw_p22 : lw_okq (⟨"NobodyLookedYesterdayModel", "refuse", "(I)I"⟩, 40) := ⟨⟨by decide +kernel, by decide +kernel⟩, List.mem_of_getElem? (i := 484) (by decide +kernel), List.mem_of_getElem? (i := 627) (by decide +kernel), List.mem_of_getElem? (i := 628) (by decide +kernel)⟩
theorem lw_p23 : lw_okq (⟨"NobodyLookedYesterdayModel", "readStatement", "()V"⟩, 40) := ⟨⟨by decide +kernel, by decide +kernel⟩, List.mem_of_getElem? (i := 484) (by decide +kernel), List.mem_of_getElem? (i := 639) (by decide +kernel), List.mem_of_getElem? (i := 640) (by decide +kernel)⟩
theorem lw_p24 : lw_okq (⟨"NobodyLookedYesterdayModel", "here", "()I"⟩, 40) := ⟨⟨by decide +kernel, by decide +kernel⟩, List.mem_of_getElem? (i := 484) (by decide +kernel), List.mem_of_getElem? (i := 643) (by decide +kernel), List.mem_of_getElem? (i := 644) (by decide +kernel)⟩
theorem lw_p25 : lw_okq (⟨"NobodyLookedYesterdayModel", "readDigit", "()I"⟩, 40) := ⟨⟨by decide +kernel, by decide +kernel⟩, List.mem_of_getElem? (i := 484) (by decide +kernel), List.mem_of_getElem? (i := 647) (by decide +kernel), List.mem_of_getElem? (i := 648) (by decide +kernel)⟩
theorem lw_p26 : lw_okq (⟨"NobodyLookedYesterdayModel", "open", "()V"⟩, 40) := ⟨⟨by decide +kernel, by decide +kernel⟩, List.mem_of_getElem? (i := 484) (by decide +kernel), List.mem_of_getElem? (i := 656) (by decide +kernel), List.mem_of_getElem? (i := 657) (by decide +kernel)⟩
theorem lw_p27 : lw_okq (⟨"NobodyLookedYesterdayModel", "comes", "(I)Z"⟩, 40) := ⟨⟨by decide +kernel, by decide +kernel⟩, List.mem_of_getElem? (i := 484) (by decide +kernel), List.mem_of_getElem? (i := 660) (by decide +kernel), List.mem_of_getElem? (i := 661) (by decide +kernel)⟩
theorem lw_p28 : lw_okq (⟨"NobodyLookedYesterdayModel", "isNest", "(I)Z"⟩, 40) := ⟨⟨by decide +kernel, by decide +kernel⟩, List.mem_of_getElem? (i := 484) (by decide +kernel), List.mem_of_getElem? (i := 664) (by decide +kernel), List.mem_of_getElem? (i := 665) (by decide +kernel)⟩
theorem lw_p29 : lw_okq (⟨"NobodyLookedYesterdayModel", "close", "()V"⟩, 40) := ⟨⟨by decide +kernel, by decide +kernel⟩, List.mem_of_getElem? (i := 484) (by decide +kernel), List.mem_of_getElem? (i := 668) (by decide +kernel), List.mem_of_getElem? (i := 669) (by decide +kernel)⟩
theorem lw_p30 : lw_okq (⟨"NobodyLookedYesterdayModel", "eggsIn", "(I)I"⟩, 40) := ⟨⟨by decide +kernel, by decide +kernel⟩, List.mem_of_getElem? (i := 484) (by decide +kernel), List.mem_of_getElem? (i := 676) (by decide +kernel), List.mem_of_getElem? (i := 677) (by decide +kernel)⟩
theorem lw_p31 : lw_okq (⟨"NobodyLookedYesterdayModel", "oldest", "(I)I"⟩, 40) := ⟨⟨by decide +kernel, by decide +kernel⟩, List.mem_of_getElem? (i := 484) (by decide +kernel), List.mem_of_getElem? (i := 680) (by decide +kernel), List.mem_of_getElem? (i := 681) (by decide +kernel)⟩
def lw_privs_2 : List (MethodName × Nat) := [(⟨"NobodyLookedYesterday$Planner", "laidByAnySet", "(LNobodyLookedYesterday$Yard;)I"⟩, 6), (⟨"NobodyLookedYesterday", "layRow", "(I)V"⟩, 10), (⟨"NobodyLookedYesterday", "firstUntrue", "(I)I"⟩, 10), (⟨"NobodyLookedYesterday", "nightsUntilUnlike", "(II)I"⟩, 10), (⟨"NobodyLookedYesterdayModel", "carryAll", "([IZ)V"⟩, 40), (⟨"NobodyLookedYesterdayModel", "carry", "(I)I"⟩, 40), (⟨"NobodyLookedYesterdayModel", "refuse", "(I)I"⟩, 40), (⟨"NobodyLookedYesterdayModel", "readStatement", "()V"⟩, 40), (⟨"NobodyLookedYesterdayModel", "here", "()I"⟩, 40), (⟨"NobodyLookedYesterdayModel", "readDigit", "()I"⟩, 40), (⟨"NobodyLookedYesterdayModel", "open", "()V"⟩, 40), (⟨"NobodyLookedYesterdayModel", "comes", "(I)Z"⟩, 40), (⟨"NobodyLookedYesterdayModel", "isNest", "(I)Z"⟩, 40), (⟨"NobodyLookedYesterdayModel", "close", "()V"⟩, 40), (⟨"NobodyLookedYesterdayModel", "eggsIn", "(I)I"⟩, 40), (⟨"NobodyLookedYesterdayModel", "oldest", "(I)I"⟩, 40)]
theorem lw_r2 : ∀ q ∈ lw_privs_2, lw_okq q := List.forall_mem_cons.mpr ⟨lw_p16, List.forall_mem_cons.mpr ⟨lw_p17, List.forall_mem_cons.mpr ⟨lw_p18, List.forall_mem_cons.mpr ⟨lw_p19, List.forall_mem_cons.mpr ⟨lw_p20, List.forall_mem_cons.mpr ⟨lw_p21, List.forall_mem_cons.mpr ⟨lw_p22, List.forall_mem_cons.mpr ⟨lw_p23, List.forall_mem_cons.mpr ⟨lw_p24, List.forall_mem_cons.mpr ⟨lw_p25, List.forall_mem_cons.mpr ⟨lw_p26, List.forall_mem_cons.mpr ⟨lw_p27, List.forall_mem_cons.mpr ⟨lw_p28, List.forall_mem_cons.mpr ⟨lw_p29, List.forall_mem_cons.mpr ⟨lw_p30, List.forall_mem_cons.mpr ⟨lw_p31, fun _ h => absurd h List.not_mem_nil⟩⟩⟩⟩⟩⟩⟩⟩⟩⟩⟩⟩⟩⟩⟩⟩
theorem lw_p32 : lw_okq (⟨"NobodyLookedYesterdayModel", "weigh", "()V"⟩, 40) := ⟨⟨by decide +kernel, by decide +kernel⟩, List.mem_of_getElem? (i := 484) (by decide +kernel), List.mem_of_getElem? (i := 684) (by decide +kernel), List.mem_of_getElem? (i := 685) (by decide +kernel)⟩
theorem lw_p33 : lw_okq (⟨"NobodyLookedYesterdayModel", "mayBits", "()I"⟩, 40) := ⟨⟨by decide +kernel, by decide +kernel⟩, List.mem_of_getElem? (i := 484) (by decide +kernel), List.mem_of_getElem? (i := 688) (by decide +kernel), List.mem_of_getElem? (i := 689) (by decide +kernel)⟩
theorem lw_p34 : lw_okq (⟨"NobodyLookedYesterdayModel", "rawWeight", "(I)I"⟩, 40) := ⟨⟨by decide +kernel, by decide +kernel⟩, List.mem_of_getElem? (i := 484) (by decide +kernel), List.mem_of_getElem? (i := 692) (by decide +kernel), List.mem_of_getElem? (i := 693) (by decide +kernel)⟩
theorem lw_p35 : lw_okq (⟨"NobodyLookedYesterdayModel", "minutesOf", "(I)I"⟩, 40) := ⟨⟨by decide +kernel, by decide +kernel⟩, List.mem_of_getElem? (i := 484) (by decide +kernel), List.mem_of_getElem? (i := 708) (by decide +kernel), List.mem_of_getElem? (i := 709) (by decide +kernel)⟩
theorem lw_p36 : lw_okq (⟨"NobodyLookedYesterdayModel", "take", "(I)I"⟩, 40) := ⟨⟨by decide +kernel, by decide +kernel⟩, List.mem_of_getElem? (i := 484) (by decide +kernel), List.mem_of_getElem? (i := 712) (by decide +kernel), List.mem_of_getElem? (i := 713) (by decide +kernel)⟩
theorem lw_p37 : lw_okq (⟨"NobodyLookedYesterdayModel", "nightOn", "()I"⟩, 40) := ⟨⟨by decide +kernel, by decide +kernel⟩, List.mem_of_getElem? (i := 484) (by decide +kernel), List.mem_of_getElem? (i := 720) (by decide +kernel), List.mem_of_getElem? (i := 721) (by decide +kernel)⟩
theorem lw_p38 : lw_okq (⟨"NobodyLookedYesterdayModel", "laysAt", "()I"⟩, 40) := ⟨⟨by decide +kernel, by decide +kernel⟩, List.mem_of_getElem? (i := 484) (by decide +kernel), List.mem_of_getElem? (i := 724) (by decide +kernel), List.mem_of_getElem? (i := 725) (by decide +kernel)⟩
theorem lw_p39 : lw_okq (⟨"NobodyLookedYesterdayModel", "nightAt", "(I)V"⟩, 40) := ⟨⟨by decide +kernel, by decide +kernel⟩, List.mem_of_getElem? (i := 484) (by decide +kernel), List.mem_of_getElem? (i := 728) (by decide +kernel), List.mem_of_getElem? (i := 729) (by decide +kernel)⟩
theorem lw_p40 : lw_okq (⟨"NobodyLookedYesterdayModel", "allows", "(I)Z"⟩, 40) := ⟨⟨by decide +kernel, by decide +kernel⟩, List.mem_of_getElem? (i := 484) (by decide +kernel), List.mem_of_getElem? (i := 745) (by decide +kernel), List.mem_of_getElem? (i := 746) (by decide +kernel)⟩
theorem lw_p41 : lw_okq (⟨"NobodyLookedYesterdayModel", "bestOfDay", "()I"⟩, 40) := ⟨⟨by decide +kernel, by decide +kernel⟩, List.mem_of_getElem? (i := 484) (by decide +kernel), List.mem_of_getElem? (i := 749) (by decide +kernel), List.mem_of_getElem? (i := 750) (by decide +kernel)⟩
theorem lw_p42 : lw_okq (⟨"NobodyLookedYesterdayModel", "eggsOf", "(I)I"⟩, 40) := ⟨⟨by decide +kernel, by decide +kernel⟩, List.mem_of_getElem? (i := 484) (by decide +kernel), List.mem_of_getElem? (i := 753) (by decide +kernel), List.mem_of_getElem? (i := 754) (by decide +kernel)⟩
theorem lw_p43 : lw_okq (⟨"NobodyLookedYesterdayModel", "bestOfTwo", "()I"⟩, 40) := ⟨⟨by decide +kernel, by decide +kernel⟩, List.mem_of_getElem? (i := 484) (by decide +kernel), List.mem_of_getElem? (i := 757) (by decide +kernel), List.mem_of_getElem? (i := 758) (by decide +kernel)⟩
theorem lw_p44 : lw_okq (⟨"NobodyLookedYesterdayModel", "firstUnlike", "()I"⟩, 40) := ⟨⟨by decide +kernel, by decide +kernel⟩, List.mem_of_getElem? (i := 484) (by decide +kernel), List.mem_of_getElem? (i := 781) (by decide +kernel), List.mem_of_getElem? (i := 782) (by decide +kernel)⟩
theorem lw_p45 : lw_okq (⟨"NobodyLookedYesterdayModel", "eggsOfAll", "()I"⟩, 40) := ⟨⟨by decide +kernel, by decide +kernel⟩, List.mem_of_getElem? (i := 484) (by decide +kernel), List.mem_of_getElem? (i := 793) (by decide +kernel), List.mem_of_getElem? (i := 794) (by decide +kernel)⟩
theorem lw_p46 : lw_okq (⟨"NobodyLookedYesterdayModel", "draw", "(I)I"⟩, 40) := ⟨⟨by decide +kernel, by decide +kernel⟩, List.mem_of_getElem? (i := 484) (by decide +kernel), List.mem_of_getElem? (i := 817) (by decide +kernel), List.mem_of_getElem? (i := 818) (by decide +kernel)⟩
theorem lw_p47 : lw_okq (⟨"NobodyLookedYesterdayModel", "drawnNest", "()I"⟩, 40) := ⟨⟨by decide +kernel, by decide +kernel⟩, List.mem_of_getElem? (i := 484) (by decide +kernel), List.mem_of_getElem? (i := 824) (by decide +kernel), List.mem_of_getElem? (i := 825) (by decide +kernel)⟩
def lw_privs_3 : List (MethodName × Nat) := [(⟨"NobodyLookedYesterdayModel", "weigh", "()V"⟩, 40), (⟨"NobodyLookedYesterdayModel", "mayBits", "()I"⟩, 40), (⟨"NobodyLookedYesterdayModel", "rawWeight", "(I)I"⟩, 40), (⟨"NobodyLookedYesterdayModel", "minutesOf", "(I)I"⟩, 40), (⟨"NobodyLookedYesterdayModel", "take", "(I)I"⟩, 40), (⟨"NobodyLookedYesterdayModel", "nightOn", "()I"⟩, 40), (⟨"NobodyLookedYesterdayModel", "laysAt", "()I"⟩, 40), (⟨"NobodyLookedYesterdayModel", "nightAt", "(I)V"⟩, 40), (⟨"NobodyLookedYesterdayModel", "allows", "(I)Z"⟩, 40), (⟨"NobodyLookedYesterdayModel", "bestOfDay", "()I"⟩, 40), (⟨"NobodyLookedYesterdayModel", "eggsOf", "(I)I"⟩, 40), (⟨"NobodyLookedYesterdayModel", "bestOfTwo", "()I"⟩, 40), (⟨"NobodyLookedYesterdayModel", "firstUnlike", "()I"⟩, 40), (⟨"NobodyLookedYesterdayModel", "eggsOfAll", "()I"⟩, 40), (⟨"NobodyLookedYesterdayModel", "draw", "(I)I"⟩, 40), (⟨"NobodyLookedYesterdayModel", "drawnNest", "()I"⟩, 40)]
theorem lw_r3 : ∀ q ∈ lw_privs_3, lw_okq q := List.forall_mem_cons.mpr ⟨lw_p32, List.forall_mem_cons.mpr ⟨lw_p33, List.forall_mem_cons.mpr ⟨lw_p34, List.forall_mem_cons.mpr ⟨lw_p35, List.forall_mem_cons.mpr ⟨lw_p36, List.forall_mem_cons.mpr ⟨lw_p37, List.forall_mem_cons.mpr ⟨lw_p38, List.forall_mem_cons.mpr ⟨lw_p39, List.forall_mem_cons.mpr ⟨lw_p40, List.forall_mem_cons.mpr ⟨lw_p41, List.forall_mem_cons.mpr ⟨lw_p42, List.forall_mem_cons.mpr ⟨lw_p43, List.forall_mem_cons.mpr ⟨lw_p44, List.forall_mem_cons.mpr ⟨lw_p45, List.forall_mem_cons.mpr ⟨lw_p46, List.forall_mem_cons.mpr ⟨lw_p47, fun _ h => absurd h List.not_mem_nil⟩⟩⟩⟩⟩⟩⟩⟩⟩⟩⟩⟩⟩⟩⟩⟩
def lw_privs : List (MethodName × Nat) := lw_privs_1 ++ (lw_privs_2 ++ (lw_privs_3))
def lw_tbl : List Cond := k2_sels lw_privs ++ tables_1
theorem lw_privs_ok : ∀ q ∈ lw_privs, lw_okq q := by
  show ∀ q ∈ lw_privs_1 ++ (lw_privs_2 ++ (lw_privs_3)), lw_okq q
  exact List.forall_mem_append.mpr ⟨lw_r1, List.forall_mem_append.mpr ⟨lw_r2, lw_r3⟩⟩
def RX0 : String := "NobodyLookedYesterday$FarmText"
def TX0 : u_T := fun k => match k with
  | 0 => ("NobodyLookedYesterday$FarmText", "letters", "[I", true)
  | _ => ("NobodyLookedYesterday$FarmText", "length", "I", false)
def tyX0 : Nat → FieldType := fun k => match k with
  | 0 => .array .int
  | _ => .int
theorem nmX0 : ∀ a, a < 2 → ∀ b, b < 2 → a ≠ b → (TX0 a).2.1 ≠ (TX0 b).2.1 := by decide +kernel
theorem tyX0_ok : ∀ k, k < 2 → parseFieldDescriptor (TX0 k).2.2.1 = some (tyX0 k) := by decide +kernel
def RX1 : String := "NobodyLookedYesterday$Planner"
def TX1 : u_T := fun k => match k with
  | 0 => ("NobodyLookedYesterday$Planner", "minds", "[LNobodyLookedYesterday$Yard;", true)
  | 1 => ("NobodyLookedYesterday$Planner", "allowed", "[I", true)
  | 2 => ("NobodyLookedYesterday$Planner", "heaps", "[I", true)
  | 3 => ("NobodyLookedYesterday$Planner", "sums", "[I", true)
  | 4 => ("NobodyLookedYesterday$Planner", "allowedCount", "I", false)
  | _ => ("NobodyLookedYesterday$Planner", "firstSet", "I", false)
def tyX1 : Nat → FieldType := fun k => match k with
  | 0 => .array (.object "NobodyLookedYesterday$Yard")
  | 1 => .array .int
  | 2 => .array .int
  | 3 => .array .int
  | 4 => .int
  | _ => .int
theorem nmX1 : ∀ a, a < 6 → ∀ b, b < 6 → a ≠ b → (TX1 a).2.1 ≠ (TX1 b).2.1 := by decide +kernel
theorem tyX1_ok : ∀ k, k < 6 → parseFieldDescriptor (TX1 k).2.2.1 = some (tyX1 k) := by decide +kernel
def RX2 : String := "NobodyLookedYesterday$Yard"
def TX2 : u_T := fun k => match k with
  | 0 => ("NobodyLookedYesterday$Yard", "xs", "[I", true)
  | 1 => ("NobodyLookedYesterday$Yard", "ys", "[I", true)
  | 2 => ("NobodyLookedYesterday$Yard", "minutes", "[I", true)
  | 3 => ("NobodyLookedYesterday$Yard", "likings", "[I", true)
  | 4 => ("NobodyLookedYesterday$Yard", "eggs", "[I", true)
  | 5 => ("NobodyLookedYesterday$Yard", "figures", "[I", true)
  | 6 => ("NobodyLookedYesterday$Yard", "weights", "[I", true)
  | 7 => ("NobodyLookedYesterday$Yard", "nests", "I", false)
  | 8 => ("NobodyLookedYesterday$Yard", "last", "I", false)
  | 9 => ("NobodyLookedYesterday$Yard", "looked", "I", false)
  | 10 => ("NobodyLookedYesterday$Yard", "before", "I", false)
  | 11 => ("NobodyLookedYesterday$Yard", "day", "I", false)
  | _ => ("NobodyLookedYesterday$Yard", "found", "I", false)
def tyX2 : Nat → FieldType := fun k => match k with
  | 0 => .array .int
  | 1 => .array .int
  | 2 => .array .int
  | 3 => .array .int
  | 4 => .array .int
  | 5 => .array .int
  | 6 => .array .int
  | 7 => .int
  | 8 => .int
  | 9 => .int
  | 10 => .int
  | 11 => .int
  | _ => .int
theorem nmX2 : ∀ a, a < 13 → ∀ b, b < 13 → a ≠ b → (TX2 a).2.1 ≠ (TX2 b).2.1 := by decide +kernel
theorem tyX2_ok : ∀ k, k < 13 → parseFieldDescriptor (TX2 k).2.2.1 = some (tyX2 k) := by decide +kernel
def RX3 : String := "NobodyLookedYesterday"
def TX3 : u_T := fun k => match k with
  | 0 => ("NobodyLookedYesterday", "yard", "LNobodyLookedYesterday$Yard;", true)
  | 1 => ("NobodyLookedYesterday", "kept", "LNobodyLookedYesterday$Yard;", true)
  | 2 => ("NobodyLookedYesterday", "mind", "LNobodyLookedYesterday$Yard;", true)
  | 3 => ("NobodyLookedYesterday", "planner", "LNobodyLookedYesterday$Planner;", true)
  | 4 => ("NobodyLookedYesterday", "text", "LNobodyLookedYesterday$FarmText;", true)
  | 5 => ("NobodyLookedYesterday", "told", "[I", true)
  | 6 => ("NobodyLookedYesterday", "laid", "[I", true)
  | 7 => ("NobodyLookedYesterday", "refusals", "[I", true)
  | 8 => ("NobodyLookedYesterday", "toldCount", "I", false)
  | _ => ("NobodyLookedYesterday", "isKept", "Z", false)
def tyX3 : Nat → FieldType := fun k => match k with
  | 0 => .object "NobodyLookedYesterday$Yard"
  | 1 => .object "NobodyLookedYesterday$Yard"
  | 2 => .object "NobodyLookedYesterday$Yard"
  | 3 => .object "NobodyLookedYesterday$Planner"
  | 4 => .object "NobodyLookedYesterday$FarmText"
  | 5 => .array .int
  | 6 => .array .int
  | 7 => .array .int
  | 8 => .int
  | _ => .boolean
theorem nmX3 : ∀ a, a < 10 → ∀ b, b < 10 → a ≠ b → (TX3 a).2.1 ≠ (TX3 b).2.1 := by decide +kernel
theorem tyX3_ok : ∀ k, k < 10 → parseFieldDescriptor (TX3 k).2.2.1 = some (tyX3 k) := by decide +kernel
def RX4 : String := "NobodyLookedYesterdayModel"
def TX4 : u_T := fun k => match k with
  | 0 => ("NobodyLookedYesterdayModel", "nests", "I", false)
  | 1 => ("NobodyLookedYesterdayModel", "kind", "I", false)
  | 2 => ("NobodyLookedYesterdayModel", "figure", "I", false)
  | 3 => ("NobodyLookedYesterdayModel", "time", "I", false)
  | 4 => ("NobodyLookedYesterdayModel", "rat", "I", false)
  | 5 => ("NobodyLookedYesterdayModel", "last", "I", false)
  | 6 => ("NobodyLookedYesterdayModel", "looked", "I", false)
  | 7 => ("NobodyLookedYesterdayModel", "before", "I", false)
  | 8 => ("NobodyLookedYesterdayModel", "days", "I", false)
  | 9 => ("NobodyLookedYesterdayModel", "found", "I", false)
  | 10 => ("NobodyLookedYesterdayModel", "xs", "[I", true)
  | 11 => ("NobodyLookedYesterdayModel", "ys", "[I", true)
  | 12 => ("NobodyLookedYesterdayModel", "minutes", "[I", true)
  | 13 => ("NobodyLookedYesterdayModel", "likings", "[I", true)
  | 14 => ("NobodyLookedYesterdayModel", "eggs", "[I", true)
  | 15 => ("NobodyLookedYesterdayModel", "thrown", "I", false)
  | 16 => ("NobodyLookedYesterdayModel", "refusals", "[I", true)
  | 17 => ("NobodyLookedYesterdayModel", "gone", "I", false)
  | 18 => ("NobodyLookedYesterdayModel", "weights", "[I", true)
  | 19 => ("NobodyLookedYesterdayModel", "weightOfAll", "I", false)
  | 20 => ("NobodyLookedYesterdayModel", "kept", "[I", true)
  | 21 => ("NobodyLookedYesterdayModel", "keptTwo", "[I", true)
  | 22 => ("NobodyLookedYesterdayModel", "keptThree", "[I", true)
  | 23 => ("NobodyLookedYesterdayModel", "imaged", "[I", true)
  | 24 => ("NobodyLookedYesterdayModel", "hasImage", "Z", false)
  | 25 => ("NobodyLookedYesterdayModel", "place", "I", false)
  | 26 => ("NobodyLookedYesterdayModel", "isTaking", "Z", false)
  | 27 => ("NobodyLookedYesterdayModel", "keptIn", "[I", false)
  | 28 => ("NobodyLookedYesterdayModel", "letters", "[I", true)
  | 29 => ("NobodyLookedYesterdayModel", "letterMany", "I", false)
  | 30 => ("NobodyLookedYesterdayModel", "at", "I", false)
  | 31 => ("NobodyLookedYesterdayModel", "isBad", "Z", false)
  | 32 => ("NobodyLookedYesterdayModel", "statements", "I", false)
  | 33 => ("NobodyLookedYesterdayModel", "placeOf", "[I", true)
  | 34 => ("NobodyLookedYesterdayModel", "letterOf", "[I", true)
  | 35 => ("NobodyLookedYesterdayModel", "told", "[I", true)
  | 36 => ("NobodyLookedYesterdayModel", "row", "[I", true)
  | 37 => ("NobodyLookedYesterdayModel", "rowMany", "I", false)
  | 38 => ("NobodyLookedYesterdayModel", "laid", "[I", true)
  | _ => ("NobodyLookedYesterdayModel", "seed", "I", false)
def tyX4 : Nat → FieldType := fun k => match k with
  | 0 => .int
  | 1 => .int
  | 2 => .int
  | 3 => .int
  | 4 => .int
  | 5 => .int
  | 6 => .int
  | 7 => .int
  | 8 => .int
  | 9 => .int
  | 10 => .array .int
  | 11 => .array .int
  | 12 => .array .int
  | 13 => .array .int
  | 14 => .array .int
  | 15 => .int
  | 16 => .array .int
  | 17 => .int
  | 18 => .array .int
  | 19 => .int
  | 20 => .array .int
  | 21 => .array .int
  | 22 => .array .int
  | 23 => .array .int
  | 24 => .boolean
  | 25 => .int
  | 26 => .boolean
  | 27 => .array .int
  | 28 => .array .int
  | 29 => .int
  | 30 => .int
  | 31 => .boolean
  | 32 => .int
  | 33 => .array .int
  | 34 => .array .int
  | 35 => .array .int
  | 36 => .array .int
  | 37 => .int
  | 38 => .array .int
  | _ => .int
theorem nmX4 : ∀ a, a < 40 → ∀ b, b < 40 → a ≠ b → (TX4 a).2.1 ≠ (TX4 b).2.1 := by decide +kernel
theorem tyX4_ok : ∀ k, k < 40 → parseFieldDescriptor (TX4 k).2.2.1 = some (tyX4 k) := by decide +kernel
def RJ6 : String := "java/lang/Integer"
def RJ9 : String := "java/lang/Math"
def RJ10 : String := "java/lang/System"
abbrev cX0_init : ByteArray := prog_2_method_1_code
def yX0_init : MethodName := ⟨RX0, "<init>", "()V"⟩
abbrev cX0_append : ByteArray := prog_2_method_2_code
def yX0_append : MethodName := ⟨RX0, "append", "(I)I"⟩
abbrev cX0_readInto : ByteArray := prog_2_method_3_code
def yX0_readInto : MethodName := ⟨RX0, "readInto", "(LNobodyLookedYesterday$Yard;)I"⟩
abbrev cX0_firstUnfit : ByteArray := prog_2_method_4_code
def yX0_firstUnfit : MethodName := ⟨RX0, "firstUnfit", "()I"⟩
abbrev cX0_applyStatement : ByteArray := prog_2_method_5_code
def yX0_applyStatement : MethodName := ⟨RX0, "applyStatement", "(LNobodyLookedYesterday$Yard;II)Z"⟩
abbrev cX0_leastDigits : ByteArray := prog_2_method_6_code
def yX0_leastDigits : MethodName := ⟨RX0, "leastDigits", "(I)I"⟩
abbrev cX0_digitsBehind : ByteArray := prog_2_method_7_code
def yX0_digitsBehind : MethodName := ⟨RX0, "digitsBehind", "(I)I"⟩
abbrev cX0_digitAt : ByteArray := prog_2_method_8_code
def yX0_digitAt : MethodName := ⟨RX0, "digitAt", "(I)I"⟩
abbrev cX0_letterAt : ByteArray := prog_2_method_9_code
def yX0_letterAt : MethodName := ⟨RX0, "letterAt", "(I)I"⟩
abbrev cX1_init : ByteArray := prog_3_method_1_code
def yX1_init : MethodName := ⟨RX1, "<init>", "()V"⟩
abbrev cX1_listAllowed : ByteArray := prog_3_method_2_code
def yX1_listAllowed : MethodName := ⟨RX1, "listAllowed", "(LNobodyLookedYesterday$Yard;)V"⟩
abbrev cX1_mostFound : ByteArray := prog_3_method_3_code
def yX1_mostFound : MethodName := ⟨RX1, "mostFound", "(LNobodyLookedYesterday$Yard;I)I"⟩
abbrev cX1_mostFrom : ByteArray := prog_3_method_4_code
def yX1_mostFrom : MethodName := ⟨RX1, "mostFrom", "(LNobodyLookedYesterday$Planner;II)I"⟩
abbrev cX1_noteFirst : ByteArray := prog_3_method_5_code
def yX1_noteFirst : MethodName := ⟨RX1, "noteFirst", "(II)V"⟩
abbrev cX1_mostToday : ByteArray := prog_3_method_6_code
def yX1_mostToday : MethodName := ⟨RX1, "mostToday", "(I)I"⟩
abbrev cX1_leastShutting : ByteArray := prog_3_method_7_code
def yX1_leastShutting : MethodName := ⟨RX1, "leastShutting", "(LNobodyLookedYesterday$Yard;)I"⟩
abbrev cX1_fewestDays : ByteArray := prog_3_method_8_code
def yX1_fewestDays : MethodName := ⟨RX1, "fewestDays", "(LNobodyLookedYesterday$Yard;I)I"⟩
abbrev cX1_laidByAnySet : ByteArray := prog_3_method_9_code
def yX1_laidByAnySet : MethodName := ⟨RX1, "laidByAnySet", "(LNobodyLookedYesterday$Yard;)I"⟩
abbrev cX2_init : ByteArray := prog_4_method_1_code
def yX2_init : MethodName := ⟨RX2, "<init>", "()V"⟩
abbrev cX2_copyFrom : ByteArray := prog_4_method_2_code
def yX2_copyFrom : MethodName := ⟨RX2, "copyFrom", "(LNobodyLookedYesterday$Yard;)V"⟩
abbrev cX2_copyCourse : ByteArray := prog_4_method_3_code
def yX2_copyCourse : MethodName := ⟨RX2, "copyCourse", "(LNobodyLookedYesterday$Yard;)V"⟩
abbrev cX2_addNest : ByteArray := prog_4_method_4_code
def yX2_addNest : MethodName := ⟨RX2, "addNest", "(IIII)Z"⟩
abbrev cX2_addEgg : ByteArray := prog_4_method_5_code
def yX2_addEgg : MethodName := ⟨RX2, "addEgg", "(II)Z"⟩
abbrev cX2_change : ByteArray := prog_4_method_6_code
def yX2_change : MethodName := ⟨RX2, "change", "(II)Z"⟩
abbrev cX2_allNests : ByteArray := prog_4_method_7_code
def yX2_allNests : MethodName := ⟨RX2, "allNests", "()I"⟩
abbrev cX2_eggsAt : ByteArray := prog_4_method_8_code
def yX2_eggsAt : MethodName := ⟨RX2, "eggsAt", "(I)I"⟩
abbrev cX2_allEggs : ByteArray := prog_4_method_9_code
def yX2_allEggs : MethodName := ⟨RX2, "allEggs", "()I"⟩
abbrev cX2_greatestAge : ByteArray := prog_4_method_10_code
def yX2_greatestAge : MethodName := ⟨RX2, "greatestAge", "(I)I"⟩
abbrev cX2_minutesOf : ByteArray := prog_4_method_11_code
def yX2_minutesOf : MethodName := ⟨RX2, "minutesOf", "(I)I"⟩
abbrev cX2_timeLeft : ByteArray := prog_4_method_12_code
def yX2_timeLeft : MethodName := ⟨RX2, "timeLeft", "()I"⟩
abbrev cX2_takeEggs : ByteArray := prog_4_method_13_code
def yX2_takeEggs : MethodName := ⟨RX2, "takeEggs", "(I)I"⟩
abbrev cX2_emptyNest : ByteArray := prog_4_method_14_code
def yX2_emptyNest : MethodName := ⟨RX2, "emptyNest", "(I)I"⟩
abbrev cX2_mayAmong : ByteArray := prog_4_method_15_code
def yX2_mayAmong : MethodName := ⟨RX2, "mayAmong", "(I)I"⟩
abbrev cX2_weigh : ByteArray := prog_4_method_16_code
def yX2_weigh : MethodName := ⟨RX2, "weigh", "(I)I"⟩
abbrev cX2_weighAlike : ByteArray := prog_4_method_17_code
def yX2_weighAlike : MethodName := ⟨RX2, "weighAlike", "(I)I"⟩
abbrev cX2_weightOf : ByteArray := prog_4_method_18_code
def yX2_weightOf : MethodName := ⟨RX2, "weightOf", "(I)I"⟩
abbrev cX2_laysAmong : ByteArray := prog_4_method_19_code
def yX2_laysAmong : MethodName := ⟨RX2, "laysAmong", "(I)I"⟩
abbrev cX2_nestByLot : ByteArray := prog_4_method_20_code
def yX2_nestByLot : MethodName := ⟨RX2, "nestByLot", "(I)I"⟩
abbrev cX2_nestAtWeight : ByteArray := prog_4_method_21_code
def yX2_nestAtWeight : MethodName := ⟨RX2, "nestAtWeight", "(I)I"⟩
abbrev cX2_passNight : ByteArray := prog_4_method_22_code
def yX2_passNight : MethodName := ⟨RX2, "passNight", "(I)V"⟩
abbrev cX2_ageEggs : ByteArray := prog_4_method_23_code
def yX2_ageEggs : MethodName := ⟨RX2, "ageEggs", "(I)V"⟩
abbrev cX3_init : ByteArray := prog_1_method_1_code
def yX3_init : MethodName := ⟨RX3, "<init>", "()V"⟩
abbrev cX3_feed : ByteArray := prog_1_method_2_code
def yX3_feed : MethodName := ⟨RX3, "feed", "(I)I"⟩
abbrev cX3_farm : ByteArray := prog_1_method_3_code
def yX3_farm : MethodName := ⟨RX3, "farm", "()I"⟩
abbrev cX3_nest : ByteArray := prog_1_method_4_code
def yX3_nest : MethodName := ⟨RX3, "nest", "(II)I"⟩
abbrev cX3_set : ByteArray := prog_1_method_5_code
def yX3_set : MethodName := ⟨RX3, "set", "(II)I"⟩
abbrev cX3_look : ByteArray := prog_1_method_6_code
def yX3_look : MethodName := ⟨RX3, "look", "(I)I"⟩
abbrev cX3_night : ByteArray := prog_1_method_7_code
def yX3_night : MethodName := ⟨RX3, "night", "()I"⟩
abbrev cX3_tonight : ByteArray := prog_1_method_8_code
def yX3_tonight : MethodName := ⟨RX3, "tonight", "(I)I"⟩
abbrev cX3_likely : ByteArray := prog_1_method_9_code
def yX3_likely : MethodName := ⟨RX3, "likely", "(II)J"⟩
abbrev cX3_plan : ByteArray := prog_1_method_10_code
def yX3_plan : MethodName := ⟨RX3, "plan", "(II)I"⟩
abbrev cX3_each : ByteArray := prog_1_method_11_code
def yX3_each : MethodName := ⟨RX3, "each", "(II)I"⟩
abbrev cX3_shut : ByteArray := prog_1_method_12_code
def yX3_shut : MethodName := ⟨RX3, "shut", "()I"⟩
abbrev cX3_lead : ByteArray := prog_1_method_13_code
def yX3_lead : MethodName := ⟨RX3, "lead", "(I)I"⟩
abbrev cX3_row : ByteArray := prog_1_method_14_code
def yX3_row : MethodName := ⟨RX3, "row", "(I)I"⟩
abbrev cX3_ways : ByteArray := prog_1_method_15_code
def yX3_ways : MethodName := ⟨RX3, "ways", "()I"⟩
abbrev cX3_soon : ByteArray := prog_1_method_16_code
def yX3_soon : MethodName := ⟨RX3, "soon", "()I"⟩
abbrev cX3_settle : ByteArray := prog_1_method_17_code
def yX3_settle : MethodName := ⟨RX3, "settle", "(I)I"⟩
abbrev cX3_without : ByteArray := prog_1_method_18_code
def yX3_without : MethodName := ⟨RX3, "without", "(I)I"⟩
abbrev cX3_put : ByteArray := prog_1_method_19_code
def yX3_put : MethodName := ⟨RX3, "put", "(III)I"⟩
abbrev cX3_been : ByteArray := prog_1_method_20_code
def yX3_been : MethodName := ⟨RX3, "been", "(I)I"⟩
abbrev cX3_judge : ByteArray := prog_1_method_21_code
def yX3_judge : MethodName := ⟨RX3, "judge", "()I"⟩
abbrev cX3_seeds : ByteArray := prog_1_method_22_code
def yX3_seeds : MethodName := ⟨RX3, "seeds", "(II)I"⟩
abbrev cX3_clear : ByteArray := prog_1_method_23_code
def yX3_clear : MethodName := ⟨RX3, "clear", "()I"⟩
abbrev cX3_image : ByteArray := prog_1_method_24_code
def yX3_image : MethodName := ⟨RX3, "image", "()I"⟩
abbrev cX3_restore : ByteArray := prog_1_method_25_code
def yX3_restore : MethodName := ⟨RX3, "restore", "()I"⟩
abbrev cX3_count : ByteArray := prog_1_method_26_code
def yX3_count : MethodName := ⟨RX3, "count", "(I)I"⟩
abbrev cX3_refuse : ByteArray := prog_1_method_27_code
def yX3_refuse : MethodName := ⟨RX3, "refuse", "(I)I"⟩
abbrev cX3_isNoNest : ByteArray := prog_1_method_28_code
def yX3_isNoNest : MethodName := ⟨RX3, "isNoNest", "(I)Z"⟩
abbrev cX3_weightTonight : ByteArray := prog_1_method_29_code
def yX3_weightTonight : MethodName := ⟨RX3, "weightTonight", "(I)I"⟩
abbrev cX3_layRow : ByteArray := prog_1_method_30_code
def yX3_layRow : MethodName := ⟨RX3, "layRow", "(I)V"⟩
abbrev cX3_firstUntrue : ByteArray := prog_1_method_31_code
def yX3_firstUntrue : MethodName := ⟨RX3, "firstUntrue", "(I)I"⟩
abbrev cX3_nightsUntilUnlike : ByteArray := prog_1_method_32_code
def yX3_nightsUntilUnlike : MethodName := ⟨RX3, "nightsUntilUnlike", "(II)I"⟩
abbrev cX3_nextSeed : ByteArray := prog_1_method_33_code
def yX3_nextSeed : MethodName := ⟨RX3, "nextSeed", "(I)I"⟩
abbrev cX3_drawBelow : ByteArray := prog_1_method_34_code
def yX3_drawBelow : MethodName := ⟨RX3, "drawBelow", "(II)I"⟩
abbrev cX3_commonDivisor : ByteArray := prog_1_method_35_code
def yX3_commonDivisor : MethodName := ⟨RX3, "commonDivisor", "(II)I"⟩
abbrev cX4_init : ByteArray := prog_6_method_1_code
def yX4_init : MethodName := ⟨RX4, "<init>", "()V"⟩
abbrev cX4_in : ByteArray := prog_6_method_3_code
def yX4_in : MethodName := ⟨RX4, "in", "(JJJ)Z"⟩
abbrev cX4_refuse : ByteArray := prog_6_method_4_code
def yX4_refuse : MethodName := ⟨RX4, "refuse", "(I)I"⟩
abbrev cX4_isNest : ByteArray := prog_6_method_5_code
def yX4_isNest : MethodName := ⟨RX4, "isNest", "(I)Z"⟩
abbrev cX4_eggsIn : ByteArray := prog_6_method_6_code
def yX4_eggsIn : MethodName := ⟨RX4, "eggsIn", "(I)I"⟩
abbrev cX4_mayBits : ByteArray := prog_6_method_7_code
def yX4_mayBits : MethodName := ⟨RX4, "mayBits", "()I"⟩
abbrev cX4_apart : ByteArray := prog_6_method_8_code
def yX4_apart : MethodName := ⟨RX4, "apart", "(II)I"⟩
abbrev cX4_rawWeight : ByteArray := prog_6_method_9_code
def yX4_rawWeight : MethodName := ⟨RX4, "rawWeight", "(I)I"⟩
abbrev cX4_weigh : ByteArray := prog_6_method_10_code
def yX4_weigh : MethodName := ⟨RX4, "weigh", "()V"⟩
abbrev cX4_laysAt : ByteArray := prog_6_method_11_code
def yX4_laysAt : MethodName := ⟨RX4, "laysAt", "()I"⟩
abbrev cX4_nightAt : ByteArray := prog_6_method_12_code
def yX4_nightAt : MethodName := ⟨RX4, "nightAt", "(I)V"⟩
abbrev cX4_nightOn : ByteArray := prog_6_method_13_code
def yX4_nightOn : MethodName := ⟨RX4, "nightOn", "()I"⟩
abbrev cX4_take : ByteArray := prog_6_method_14_code
def yX4_take : MethodName := ⟨RX4, "take", "(I)I"⟩
abbrev cX4_minutesOf : ByteArray := prog_6_method_15_code
def yX4_minutesOf : MethodName := ⟨RX4, "minutesOf", "(I)I"⟩
abbrev cX4_carry : ByteArray := prog_6_method_16_code
def yX4_carry : MethodName := ⟨RX4, "carry", "(I)I"⟩
abbrev cX4_carryAll : ByteArray := prog_6_method_17_code
def yX4_carryAll : MethodName := ⟨RX4, "carryAll", "([IZ)V"⟩
abbrev cX4_open : ByteArray := prog_6_method_18_code
def yX4_open : MethodName := ⟨RX4, "open", "()V"⟩
abbrev cX4_close : ByteArray := prog_6_method_19_code
def yX4_close : MethodName := ⟨RX4, "close", "()V"⟩
abbrev cX4_image : ByteArray := prog_6_method_20_code
def yX4_image : MethodName := ⟨RX4, "image", "()I"⟩
abbrev cX4_restore : ByteArray := prog_6_method_21_code
def yX4_restore : MethodName := ⟨RX4, "restore", "()I"⟩
abbrev cX4_feed : ByteArray := prog_6_method_22_code
def yX4_feed : MethodName := ⟨RX4, "feed", "(I)I"⟩
abbrev cX4_here : ByteArray := prog_6_method_23_code
def yX4_here : MethodName := ⟨RX4, "here", "()I"⟩
abbrev cX4_readDigit : ByteArray := prog_6_method_24_code
def yX4_readDigit : MethodName := ⟨RX4, "readDigit", "()I"⟩
abbrev cX4_readStatement : ByteArray := prog_6_method_25_code
def yX4_readStatement : MethodName := ⟨RX4, "readStatement", "()V"⟩
abbrev cX4_comes : ByteArray := prog_6_method_26_code
def yX4_comes : MethodName := ⟨RX4, "comes", "(I)Z"⟩
abbrev cX4_farm : ByteArray := prog_6_method_27_code
def yX4_farm : MethodName := ⟨RX4, "farm", "()I"⟩
abbrev cX4_nest : ByteArray := prog_6_method_28_code
def yX4_nest : MethodName := ⟨RX4, "nest", "(II)I"⟩
abbrev cX4_oldest : ByteArray := prog_6_method_29_code
def yX4_oldest : MethodName := ⟨RX4, "oldest", "(I)I"⟩
abbrev cX4_set : ByteArray := prog_6_method_30_code
def yX4_set : MethodName := ⟨RX4, "set", "(II)I"⟩
abbrev cX4_look : ByteArray := prog_6_method_31_code
def yX4_look : MethodName := ⟨RX4, "look", "(I)I"⟩
abbrev cX4_night : ByteArray := prog_6_method_32_code
def yX4_night : MethodName := ⟨RX4, "night", "()I"⟩
abbrev cX4_tonight : ByteArray := prog_6_method_33_code
def yX4_tonight : MethodName := ⟨RX4, "tonight", "(I)I"⟩
abbrev cX4_likely : ByteArray := prog_6_method_34_code
def yX4_likely : MethodName := ⟨RX4, "likely", "(II)J"⟩
abbrev cX4_allows : ByteArray := prog_6_method_35_code
def yX4_allows : MethodName := ⟨RX4, "allows", "(I)Z"⟩
abbrev cX4_eggsOf : ByteArray := prog_6_method_36_code
def yX4_eggsOf : MethodName := ⟨RX4, "eggsOf", "(I)I"⟩
abbrev cX4_bestOfDay : ByteArray := prog_6_method_37_code
def yX4_bestOfDay : MethodName := ⟨RX4, "bestOfDay", "()I"⟩
abbrev cX4_bestOfTwo : ByteArray := prog_6_method_38_code
def yX4_bestOfTwo : MethodName := ⟨RX4, "bestOfTwo", "()I"⟩
abbrev cX4_plan : ByteArray := prog_6_method_39_code
def yX4_plan : MethodName := ⟨RX4, "plan", "(II)I"⟩
abbrev cX4_each : ByteArray := prog_6_method_40_code
def yX4_each : MethodName := ⟨RX4, "each", "(II)I"⟩
abbrev cX4_shut : ByteArray := prog_6_method_41_code
def yX4_shut : MethodName := ⟨RX4, "shut", "()I"⟩
abbrev cX4_lead : ByteArray := prog_6_method_42_code
def yX4_lead : MethodName := ⟨RX4, "lead", "(I)I"⟩
abbrev cX4_row : ByteArray := prog_6_method_43_code
def yX4_row : MethodName := ⟨RX4, "row", "(I)I"⟩
abbrev cX4_firstUnlike : ByteArray := prog_6_method_44_code
def yX4_firstUnlike : MethodName := ⟨RX4, "firstUnlike", "()I"⟩
abbrev cX4_ways : ByteArray := prog_6_method_45_code
def yX4_ways : MethodName := ⟨RX4, "ways", "()I"⟩
abbrev cX4_soon : ByteArray := prog_6_method_46_code
def yX4_soon : MethodName := ⟨RX4, "soon", "()I"⟩
abbrev cX4_eggsOfAll : ByteArray := prog_6_method_47_code
def yX4_eggsOfAll : MethodName := ⟨RX4, "eggsOfAll", "()I"⟩
abbrev cX4_settle : ByteArray := prog_6_method_48_code
def yX4_settle : MethodName := ⟨RX4, "settle", "(I)I"⟩
abbrev cX4_without : ByteArray := prog_6_method_49_code
def yX4_without : MethodName := ⟨RX4, "without", "(I)I"⟩
abbrev cX4_put : ByteArray := prog_6_method_50_code
def yX4_put : MethodName := ⟨RX4, "put", "(III)I"⟩
abbrev cX4_been : ByteArray := prog_6_method_51_code
def yX4_been : MethodName := ⟨RX4, "been", "(I)I"⟩
abbrev cX4_judge : ByteArray := prog_6_method_52_code
def yX4_judge : MethodName := ⟨RX4, "judge", "()I"⟩
abbrev cX4_draw : ByteArray := prog_6_method_53_code
def yX4_draw : MethodName := ⟨RX4, "draw", "(I)I"⟩
abbrev cX4_drawnNest : ByteArray := prog_6_method_54_code
def yX4_drawnNest : MethodName := ⟨RX4, "drawnNest", "()I"⟩
abbrev cX4_seeds : ByteArray := prog_6_method_55_code
def yX4_seeds : MethodName := ⟨RX4, "seeds", "(II)I"⟩
abbrev cX4_clear : ByteArray := prog_6_method_56_code
def yX4_clear : MethodName := ⟨RX4, "clear", "()I"⟩
abbrev cX4_count : ByteArray := prog_6_method_57_code
def yX4_count : MethodName := ⟨RX4, "count", "(I)I"⟩
abbrev cJ6_numberOfTrailingZeros_0f7a4 : ByteArray := prog_7_method_48_code
def yJ6_numberOfTrailingZeros_0f7a4 : MethodName := ⟨RJ6, "numberOfTrailingZeros", "(I)I"⟩
abbrev cJ6_bitCount_0f7a4 : ByteArray := prog_7_method_49_code
def yJ6_bitCount_0f7a4 : MethodName := ⟨RJ6, "bitCount", "(I)I"⟩
abbrev cJ9_abs_0f7a4 : ByteArray := prog_8_method_59_code
def yJ9_abs_0f7a4 : MethodName := ⟨RJ9, "abs", "(I)I"⟩
abbrev cJ9_max_7cf53 : ByteArray := prog_8_method_65_code
def yJ9_max_7cf53 : MethodName := ⟨RJ9, "max", "(II)I"⟩
def zz_cl : List vw_C := [(RX0, TX0, 2), (RX1, TX1, 6), (RX2, TX2, 13), (RX3, TX3, 10), (RX4, TX4, 40)]
end
section
/-! ===== the plain machine: values are whole numbers, memory is cells of numbers ===== -/
abbrev zz_V : Type := Int ⊕ Int ⊕ Nat
abbrev zz_M : Type := Nat → Nat → Int
abbrev zi (z : Int) : zz_V := .inl z
abbrev zj (z : Int) : zz_V := .inr (.inl z)
abbrev zr (k : Nat) : zz_V := .inr (.inr k)
def zz_in (z : Int) : Prop := -2147483648 ≤ z ∧ z ≤ 2147483647
def zz_inl (z : Int) : Prop := -9223372036854775808 ≤ z ∧ z ≤ 9223372036854775807
def nrm (z : Int) : Int := (Int32.ofInt z).toInt
theorem nrm_in (z : Int) : zz_in (nrm z) := ⟨Int32.le_toInt _, Int32.toInt_le _⟩
theorem i32_of {z : Int} (h : zz_in z) : (Int32.ofInt z).toInt = z := by
  rw [Int32.toInt_ofInt]
  unfold zz_in at h
  rw [show Int32.size = 4294967296 from rfl]
  exact Int.bmod_eq_of_le (by omega) (by omega)
theorem nrm_id {z : Int} (h1 : -2147483648 ≤ z) (h2 : z ≤ 2147483647) : nrm z = z := i32_of ⟨h1, h2⟩
theorem i32_nrm (z : Int) : Int32.ofInt (nrm z) = Int32.ofInt z := Int32.ofInt_toInt _
theorem i32_inj {a b : Int} (ha : zz_in a) (hb : zz_in b) (h : Int32.ofInt a = Int32.ofInt b) : a = b := by
  rw [← i32_of ha, ← i32_of hb, h]
theorem i32_eq {a b : Int} (ha : zz_in a) (hb : zz_in b) : Int32.ofInt a = Int32.ofInt b ↔ a = b := ⟨i32_inj ha hb, fun h => by rw [h]⟩
theorem i32_lt {a b : Int} (ha : zz_in a) (hb : zz_in b) : Int32.ofInt a < Int32.ofInt b ↔ a < b := by
  rw [Int32.lt_iff_toInt_lt, i32_of ha, i32_of hb]
theorem i32_le {a b : Int} (ha : zz_in a) (hb : zz_in b) : Int32.ofInt a ≤ Int32.ofInt b ↔ a ≤ b := by
  rw [Int32.le_iff_toInt_le, i32_of ha, i32_of hb]
theorem i64_of {z : Int} (h : zz_inl z) : (Int64.ofInt z).toInt = z := by
  rw [Int64.toInt_ofInt]
  unfold zz_inl at h
  rw [show Int64.size = 18446744073709551616 from rfl]
  exact Int.bmod_eq_of_le (by omega) (by omega)
def nrml (z : Int) : Int := (Int64.ofInt z).toInt
theorem nrml_in (z : Int) : zz_inl (nrml z) := ⟨Int64.le_toInt _, Int64.toInt_le _⟩
theorem nrml_id {z : Int} (h1 : -9223372036854775808 ≤ z) (h2 : z ≤ 9223372036854775807) : nrml z = z := i64_of ⟨h1, h2⟩
theorem i64_nrml (z : Int) : Int64.ofInt (nrml z) = Int64.ofInt z := Int64.ofInt_toInt _
-- the operations
def idv (a b : Int) : Int := (Int32.ofInt a / Int32.ofInt b).toInt
def irm (a b : Int) : Int := (Int32.ofInt a - Int32.ofInt a / Int32.ofInt b * Int32.ofInt b).toInt
def ian (a b : Int) : Int := (Int32.ofInt a &&& Int32.ofInt b).toInt
def ior (a b : Int) : Int := (Int32.ofInt a ||| Int32.ofInt b).toInt
def ixr (a b : Int) : Int := (Int32.ofInt a ^^^ Int32.ofInt b).toInt
def isl (a b : Int) : Int := (Int32.ofInt a <<< (Int32.ofInt b &&& 31)).toInt
def isr (a b : Int) : Int := (Int32.ofInt a >>> (Int32.ofInt b &&& 31)).toInt
def ius (a b : Int) : Int := ((Int32.ofInt a).toUInt32 >>> ((Int32.ofInt b).toUInt32 &&& Int32.toUInt32 31)).toInt32.toInt
theorem i32_back (x : Int32) : Int32.ofInt x.toInt = x := Int32.ofInt_toInt x
theorem i32_in (x : Int32) : zz_in x.toInt := ⟨Int32.le_toInt _, Int32.toInt_le _⟩
-- cells: kinds and lengths (0 numbers, 1 the three minds, 2 + a class)
def kd_y : List (Nat × Nat) := [(4, 13), (0, 6), (0, 6), (0, 6), (0, 6), (0, 60), (0, 4), (0, 6)]
def kd_L : List (Nat × Nat) := kd_y ++ kd_y ++ kd_y ++ kd_y ++ kd_y ++ kd_y ++
  [(3, 6), (1, 3), (0, 64), (0, 6), (0, 64), (2, 2), (0, 80), (5, 10), (0, 8), (0, 48), (0, 7),
   (6, 40), (0, 7), (0, 7), (0, 7), (0, 7), (0, 70), (0, 7), (0, 7), (0, 108), (0, 108), (0, 108), (0, 108), (0, 80), (0, 41), (0, 41), (0, 164), (0, 8), (0, 48)]
def kd (k : Nat) : Nat × Nat := kd_L.getD k (99, 0)
theorem kd_len : kd_L.length = 77 := rfl
theorem kd_lt {k a n : Nat} (h : kd k = (a, n)) (ha : a ≠ 99) : k < 77 := by
  rcases Nat.lt_or_ge k 77 with q | q
  · exact q
  · exfalso
    apply ha
    unfold kd at h
    rw [List.getD_eq_getElem?_getD, List.getElem?_eq_none (by rw [kd_len]; exact q)] at h
    exact (Prod.mk.inj h).1.symm
/-- the place of the array or object that field k of the object o holds, for good -/
def pt (o k : Nat) : Nat := if o < 54 then o + 1 + k else if o = 55 then ([0, 8, 16, 48, 53, 56, 57, 58] : List Nat).getD k 0 else
  ([0, 0, 0, 0, 0, 0, 0, 0, 0, 0, 60, 61, 62, 63, 64, 0, 65, 0, 66, 0, 67, 68, 69, 70, 0, 0, 0, 0, 71, 0, 0, 0, 0, 72, 73, 74, 75, 0, 76, 0] : List Nat).getD k 0
/-- a field's kind: 0 a number, 1 a boolean, 2 an array or object for good, 3 an array that may change -/
def ft (c k : Nat) : Nat := match c with
  | 0 => if k = 0 then 2 else 0
  | 1 => if k < 4 then 2 else 0
  | 2 => if k < 7 then 2 else 0
  | 3 => if k < 8 then 2 else if k = 9 then 1 else 0
  | _ => ([0, 0, 0, 0, 0, 0, 0, 0, 0, 0, 2, 2, 2, 2, 2, 0, 2, 0, 2, 0, 2, 2, 2, 2, 1, 0, 1, 3, 2, 0, 0, 1, 0, 2, 2, 2, 2, 0, 2, 0] : List Nat).getD k 0
def gv (ad : Nat → Nat) (v : zz_V) : Value := match v with
  | .inl z => .int (Int32.ofInt z)
  | .inr (.inl z) => .long (Int64.ofInt z)
  | .inr (.inr k) => .ref (ad k)
def okv (v : zz_V) : Prop := match v with
  | .inl z => zz_in z
  | .inr (.inl z) => zz_inl z
  | .inr (.inr _) => True
def okm (m : zz_M) : Prop := ∀ k j, zz_in (m k j)
def fv (ad : Nat → Nat) (m : zz_M) (o c k : Nat) : Value := match ft c k with
  | 2 => .ref (ad (pt o k))
  | 3 => if m o k < 0 then .null else .ref (ad (m o k).toNat)
  | _ => .int (Int32.ofInt (m o k))
def ce (ad : Nat → Nat) (cI cY : ClassId) (m : zz_M) (k : Nat) : va_E := match (kd k).1 with
  | 0 => .inl (cI, ((kd k).2, .inl fun j => Int32.ofInt (m k j)))
  | 1 => .inl (cY, ((kd k).2, .inr (.inr (.inr (.inr fun j => some (ad (24 + 8 * j)))))))
  | c + 2 => .inr (c, (List.range (kd k).2).map (fv ad m k c))
def wl (ad : Nat → Nat) (cI cY : ClassId) (m : zz_M) : va_W := (List.range 77).map fun k => (ad k, ce ad cI cY m k)
def up (m : zz_M) (k j : Nat) (v : Int) : zz_M := fun k' j' => if k' = k ∧ j' = j then v else m k' j'
theorem up_same (m : zz_M) (k j : Nat) (v : Int) : up m k j v k j = v := if_pos ⟨rfl, rfl⟩
theorem up_cell {m : zz_M} {k j k' : Nat} {v : Int} (h : k' ≠ k) : up m k j v k' = m k' := by
  funext j'
  exact if_neg (fun q => h q.1)
theorem up_ok {m : zz_M} {k j : Nat} {v : Int} (h : okm m) (hv : zz_in v) : okm (up m k j v) := by
  intro k' j'
  unfold up
  split
  · exact hv
  · exact h k' j'
theorem wl_get {ad : Nat → Nat} {cI cY : ClassId} {m : zz_M} {k : Nat} (h : k < 77) : (wl ad cI cY m)[k]? = some (ad k, ce ad cI cY m k) := by
  unfold wl
  rw [List.getElem?_map, List.getElem?_range h]
  rfl
theorem wl_inv {ad : Nat → Nat} {cI cY : ClassId} {m : zz_M} {k : Nat} {q : Nat × va_E} (h : (wl ad cI cY m)[k]? = some q) : k < 77 ∧ q.1 = ad k := by
  have hk : k < 77 := by
    have := (List.getElem?_eq_some_iff.mp h).1
    simpa [wl] using this
  refine ⟨hk, ?_⟩
  rw [wl_get hk] at h
  rw [← Option.some.inj h]
theorem ce_kept {ad : Nat → Nat} {cI cY : ClassId} {m m' : zz_M} {k : Nat} (h : m' k = m k) : ce ad cI cY m' k = ce ad cI cY m k := by
  unfold ce
  split
  · rw [h]
  · rfl
  · congr 2
    apply List.map_congr_left
    intro j _
    unfold fv
    rw [h]
theorem wl_set {ad : Nat → Nat} {cI cY : ClassId} {m m' : zz_M} {k : Nat} {e : va_E} (h : ∀ k', k' ≠ k → m' k' = m k') (he : ce ad cI cY m' k = e) : (wl ad cI cY m).set k (ad k, e) = wl ad cI cY m' := by
  apply List.ext_getElem?
  intro i
  by_cases hi : i < 77
  · rw [wl_get hi]
    by_cases hik : i = k
    · subst hik
      rw [List.getElem?_set_self (by simpa [wl] using hi), he]
    · rw [List.getElem?_set_ne (Ne.symm hik), wl_get hi, ce_kept (h i hik)]
  · rw [List.getElem?_eq_none (by simp [wl]; omega), List.getElem?_eq_none (by simp [wl]; omega)]
/-- the addresses are apart and in A -/
def adok (A : Nat → Prop) (ad : Nat → Nat) : Prop := (∀ i j, i < 77 → j < 77 → ad i = ad j → i = j) ∧ ∀ i, i < 77 → A (ad i)
theorem wl_D {A : Nat → Prop} {ad : Nat → Nat} {cI cY : ClassId} {m : zz_M} (h : adok A ad) : va_D A (wl ad cI cY m) := by
  refine ⟨fun i j x y hx hy hxy => ?_, fun k q hk => ?_⟩
  · obtain ⟨h1, h2⟩ := wl_inv hx
    obtain ⟨h3, h4⟩ := wl_inv hy
    exact h.1 i j h1 h3 (by rw [← h2, ← h4]; exact hxy)
  · obtain ⟨h1, h2⟩ := wl_inv hk
    rw [h2]
    exact h.2 k h1
def zz_tys (cI cY : ClassId) : List (ClassId × FieldType) := [(cI, .int), (cY, .object "NobodyLookedYesterday$Yard")]
-- what nobody writes: 77, 78 the least and greatest figures, 79 the script
abbrev zz_E : Type := Nat × (Nat → Int)
def ro (E : zz_E) (k j : Nat) : Int := if k = 77 then ([0, 0, 0, 1] : List Int).getD j 0 else if k = 78 then ([5, 9, 40, 9] : List Int).getD j 0 else E.2 j
def rn (E : zz_E) (k : Nat) : Nat := if k = 79 then E.1 else 4
def zz_Ro (E : zz_E) (ad : Nat → Nat) (A : Nat → Prop) (U : State) (H : Heap) : Prop :=
  (∀ k, 77 ≤ k → k < 80 → va_T .int (ad k) (rn E k) (fun j => .int (Int32.ofInt (ro E k j))) A U H) ∧
  va_Z "NobodyLookedYesterday" "LEAST" "[I" (.ref (ad 77)) A U H ∧ va_Z "NobodyLookedYesterday" "GREATEST" "[I" (.ref (ad 78)) A U H
theorem zz_Ro.moved {E : zz_E} {ad : Nat → Nat} {A : Nat → Prop} {u U : State} {H : Heap} (hvm : u.vm.Alike U.vm) (h : zz_Ro E ad A u H) : zz_Ro E ad A U H :=
  ⟨fun k h1 h2 => va_T.moved hvm (h.1 k h1 h2), va_Z.moved hvm h.2.1, va_Z.moved hvm h.2.2⟩
theorem zz_Ro.kept {E : zz_E} {ad : Nat → Nat} {A : Nat → Prop} {U : State} {H H1 : Heap} (h : zz_Ro E ad A U H) (hq : ∀ a : Nat, a < H.size → ¬ A a → H1[a]? = H[a]?) : zz_Ro E ad A U H1 :=
  ⟨fun k h1 h2 => va_T.kept (h.1 k h1 h2) hq, va_Z.kept h.2.1 hq, va_Z.kept h.2.2 hq⟩
def zz_E.ok (E : zz_E) : Prop := E.1 ≤ 2048 ∧ ∀ j, zz_in (E.2 j)
theorem ro_in {E : zz_E} (h : zz_E.ok E) {k j : Nat} (hj : j < rn E k) : zz_in (ro E k j) := by
  unfold ro
  split
  · rename_i hk
    have : j < 4 := by simpa [rn, hk] using hj
    match j, this with
    | 0, _ => exact ⟨by decide, by decide⟩
    | 1, _ => exact ⟨by decide, by decide⟩
    | 2, _ => exact ⟨by decide, by decide⟩
    | 3, _ => exact ⟨by decide, by decide⟩
  · split
    · rename_i hk hk2
      have : j < 4 := by simpa [rn, hk2] using hj
      match j, this with
      | 0, _ => exact ⟨by decide, by decide⟩
      | 1, _ => exact ⟨by decide, by decide⟩
      | 2, _ => exact ⟨by decide, by decide⟩
      | 3, _ => exact ⟨by decide, by decide⟩
    · exact h.2 j
-- locals, by place
def gl (ad : Nat → Nat) : Nat → List (Option zz_V) → List (Nat × Value)
  | _, [] => []
  | i, none :: L => gl ad (i + 1) L
  | i, some v :: L => (i, gv ad v) :: gl ad (i + 1) L
theorem gl_mem {ad : Nat → Nat} {q : Nat × Value} : ∀ {L : List (Option zz_V)} {i : Nat}, q ∈ gl ad i L ↔ ∃ k v, L[k]? = some (some v) ∧ q = (i + k, gv ad v)
  | [], i => by simp [gl]
  | none :: L, i => by
    rw [gl, gl_mem]
    constructor
    · rintro ⟨k, v, h, rfl⟩
      exact ⟨k + 1, v, by simpa using h, by congr 1; omega⟩
    · rintro ⟨k, v, h, rfl⟩
      cases k with
      | zero => simp at h
      | succ k => exact ⟨k, v, by simpa using h, by congr 1; omega⟩
  | some w :: L, i => by
    rw [gl, List.mem_cons, gl_mem]
    constructor
    · rintro (rfl | ⟨k, v, h, rfl⟩)
      · exact ⟨0, w, rfl, rfl⟩
      · exact ⟨k + 1, v, by simpa using h, by congr 1; omega⟩
    · rintro ⟨k, v, h, rfl⟩
      cases k with
      | zero => left; simp at h; subst h; rfl
      | succ k => right; exact ⟨k, v, by simpa using h, by congr 1; omega⟩
def njl : List (Option zz_V) → Bool
  | [] => true
  | some (.inr (.inl _)) :: _ => false
  | _ :: L => njl L
theorem njl_cat {ad : Nat → Nat} : ∀ {L : List (Option zz_V)}, njl L = true → ∀ v, some v ∈ L → (gv ad v).category = 1
  | [], _, v, h => by cases h
  | none :: L, hn, v, h => by
    rcases List.mem_cons.mp h with q | q
    · cases q
    · exact njl_cat (L := L) (by simpa [njl] using hn) v q
  | some (.inl z) :: L, hn, v, h => by
    rcases List.mem_cons.mp h with q | q
    · cases q; rfl
    · exact njl_cat (L := L) (by simpa [njl] using hn) v q
  | some (.inr (.inr z)) :: L, hn, v, h => by
    rcases List.mem_cons.mp h with q | q
    · cases q; rfl
    · exact njl_cat (L := L) (by simpa [njl] using hn) v q
  | some (.inr (.inl z)) :: L, hn, v, h => by simp [njl] at hn
theorem gl_at {ad : Nat → Nat} {ls : Array Slot} {nL i : Nat} {L : List (Option zz_V)} {v : zz_V} (h : lv_has ls nL (gl ad 0 L)) (hk : L[i]? = some (some v)) : ls[i]? = some (.val (gv ad v)) := by
  have := h.2.2 (i, gv ad v) (gl_mem.mpr ⟨i, v, hk, by simp⟩)
  exact this
theorem gl_weak {ad : Nat → Nat} {ls : Array Slot} {nL : Nat} {L L' : List (Option zz_V)} (h : lv_has ls nL (gl ad 0 L)) (hw : ∀ (i : Nat) (v : zz_V), L'[i]? = some (some v) → L[i]? = some (some v)) : lv_has ls nL (gl ad 0 L') := by
  refine ⟨h.1, h.2.1, fun q hq => ?_⟩
  obtain ⟨k, v, h1, h2⟩ := gl_mem.mp hq
  exact h.2.2 q (gl_mem.mpr ⟨k, v, hw k v h1, h2⟩)
theorem gl_store {ad : Nat → Nat} {ls' : Array Slot} {nL i : Nat} {L L' : List (Option zz_V)} {v : zz_V} (h : lv_has ls' nL ((i, gv ad v) :: (gl ad 0 L).filter (fun q => !(q.1 == i) && !(q.1 + 1 == i && q.2.category == 2)))) (hn : njl L = true)
    (hw : ∀ (k : Nat) (w : zz_V), L'[k]? = some (some w) → (k = i ∧ w = v) ∨ (k ≠ i ∧ L[k]? = some (some w))) : lv_has ls' nL (gl ad 0 L') := by
  refine ⟨h.1, h.2.1, fun q hq => ?_⟩
  obtain ⟨k, w, h1, h2⟩ := gl_mem.mp hq
  apply h.2.2 q
  rcases hw k w h1 with ⟨rfl, rfl⟩ | ⟨h3, h4⟩
  · rw [h2]
    simp
  · apply List.mem_cons_of_mem
    apply List.mem_filter.mpr
    refine ⟨gl_mem.mpr ⟨k, w, h4, h2⟩, ?_⟩
    have hc := njl_cat (ad := ad) hn w (List.mem_of_getElem? h4)
    rw [h2]
    simp [h3, hc]
/-! the words of the tables that every method's run may use: those that stay when the tables warm up, and the links to private fields of nest mates -/
def zz_nf : Cond → Bool
  | .fieldLinkNest .. => true
  | _ => false
def zz_T : List Cond := lw_tbl.filter (fun w => goodWord w || zz_nf w)
def zz_G : List Cond := lw_tbl.filter goodWord
theorem zz_T_mem {w : Cond} (h : w ∈ lw_tbl) (hg : (goodWord w || zz_nf w) = true) : w ∈ zz_T := List.mem_filter.mpr ⟨h, hg⟩
theorem zz_T_tbl {w : Cond} (h : w ∈ zz_T) : w ∈ lw_tbl := (List.mem_filter.mp h).1
theorem zz_T_cases {w : Cond} (h : w ∈ zz_T) : w ∈ zz_G ∨ zz_nf w = true := by
  obtain ⟨h1, h2⟩ := List.mem_filter.mp h
  rcases Bool.or_eq_true_iff.mp h2 with q | q
  · exact Or.inl (List.mem_filter.mpr ⟨h1, q⟩)
  · exact Or.inr q
theorem zz_G_T {w : Cond} (h : w ∈ zz_G) : w ∈ zz_T := by
  obtain ⟨h1, h2⟩ := List.mem_filter.mp h
  exact List.mem_filter.mpr ⟨h1, by rw [h2]; rfl⟩
def zz_N (U : State) : Prop := ∀ w ∈ zz_T, zz_nf w = true → va_Nw w U
theorem zz_N.same {u U : State} (h : u.vm = U.vm) (hN : zz_N u) : zz_N U := by
  intro w hw hn
  have h1 := hN w hw hn
  match w, hn with
  | .fieldLinkNest .., _ => exact va_Nw.same rfl h h1
theorem zz_N.warm {s U : State} (hW : s.WarmedH U.vm) (hN : zz_N s) : zz_N U := by
  intro w hw hn
  have h1 := hN w hw hn
  match w, hn with
  | .fieldLinkNest .., _ => exact va_Nw.warmF hW h1
theorem zz_N.of {s : State} {args : Array Value} (h : ∀ w ∈ zz_T, w.before args s = true) : zz_N s := by
  intro w hw hn
  have h1 := h w hw
  match w, hn with
  | .fieldLinkNest .., _ => exact va_Nw.of rfl h1
theorem zz_T_of {s : State} {args : Array Value} (h : ∀ w ∈ zz_G, w.before args s = true) (hN : zz_N s) : ∀ w ∈ zz_T, w.before args s = true := by
  intro w hw
  rcases zz_T_cases hw with q | q
  · exact h w q
  · have h1 := hN w hw q
    match w, q with
    | .fieldLinkNest .., _ => exact va_Nw.use rfl h1
theorem zz_G_good : ∀ w ∈ zz_G, (w.onTables && w.keeps) = true ∨ ∃ ty, w = .arrayClass ty := fun w h => good_of_word (List.mem_filter.mp h).2
end
section
/-! ===== what it means that a run from here comes to an end at which Q holds ===== -/
/-- the surroundings of a method's run, the same from its entry to its end -/
def zz_C (E : zz_E) (p : Program) (R : Room) (s : State) (mi : MethodId) (args : Array Value) (meth : Method) (c : Code) (cc : ByteArray) (nL : Nat) (own : String) (A : Nat → Prop) (D : va_G) (cI cY : ClassId) (ad : Nat → Nat) (d cells slots : Nat) : Prop :=
  (p.tables.exec = Jvm.exec ∧ c.code = cc ∧ c.maxLocals = nL ∧ s.vm.findClass own = some mi.cls ∧ ∀ w ∈ zz_T, w.before args s = true) ∧
  va_K D zz_cl (zz_tys cI cY) s ∧ zz_Ro E ad A s s.heap ∧ zz_E.ok E ∧ adok A ad ∧ d ≤ R.frames ∧ 128 * d ≤ R.locals ∧ cells ≤ R.cells ∧ slots ≤ R.slots
/-- the stack at a return -/
def rtat (cc : ByteArray) (pc : Nat) (S : List zz_V) (r : Option zz_V) : Prop := match r with
  | none => S = [] ∧ decode cc pc = .ok (.return_, 1)
  | some (.inl z) => S = [zi z] ∧ decode cc pc = .ok (.ireturn, 1)
  | some (.inr (.inl z)) => S = [zj z] ∧ decode cc pc = .ok (.lreturn, 1)
  | some (.inr (.inr _)) => False
def Ex (E : zz_E) (cc : ByteArray) (nL : Nat) (own : String) (d : Nat) (Q : Option zz_V → zz_M → Prop) (pc : Nat) (L : List (Option zz_V)) (S : List zz_V) (m : zz_M) : Prop :=
  ∀ (p : Program) (l : Launch) (e : Env) (R : Room) (s : State) (mi : MethodId) (args : Array Value) (below : List Frame) (meth : Method) (c : Code) (A : Nat → Prop) (D : va_G) (cI cY : ClassId) (ad : Nat → Nat) (cells slots : Nat) (Qs : State → Prop),
    zz_C E p R s mi args meth c cc nL own A D cI cY ad d cells slots →
    (∀ (r : Option zz_V) (pc' : Nat) (S' : List zz_V) (ls' : Array Slot) (m' : zz_M) (H' : Heap) (locs' : List Loc), rtat cc pc' S' r → Q r m' → (∀ v ∈ S', okv v) → okm m' → va_P D zz_cl (wl ad cI cY m') H' → va_S A s.heap H' locs' →
      W p l e R s mi args below meth c H' locs' cells slots Qs (F0 mi pc' ls' (S'.map (gv ad)))) →
    ∀ (H : Heap) (locs : List Loc) (ls : Array Slot), (∀ v, some v ∈ L → okv v) → (∀ v ∈ S, okv v) → okm m → va_P D zz_cl (wl ad cI cY m) H → va_S A s.heap H locs → lv_has ls nL (gl ad 0 L) →
      W p l e R s mi args below meth c H locs cells slots Qs (F0 mi pc ls (S.map (gv ad)))
/-- a method's contract, in plain words -/
def zz_Pc (E : zz_E) (A : Nat → Prop) (D : va_G) (cI cY : ClassId) (ad : Nat → Nat) (as : List zz_V) (m : zz_M) : Array Value → State → Prop := fun v U =>
  v = (as.map (gv ad)).toArray ∧ va_P D zz_cl (wl ad cI cY m) U.heap ∧ va_K D zz_cl (zz_tys cI cY) U ∧ zz_Ro E ad A U U.heap ∧ zz_N U
def zz_Qc (E : zz_E) (A : Nat → Prop) (D : va_G) (cI cY : ClassId) (ad : Nat → Nat) (Q : Option zz_V → zz_M → Prop) : Array Value → State → Outcome → State → Prop := fun _ st oc t =>
  (∃ (r : Option zz_V) (m' : zz_M), oc = .returned (r.map (gv ad)) ∧ Q r m' ∧ (∀ v, r = some v → okv v) ∧ okm m' ∧ va_P D zz_cl (wl ad cI cY m') t.heap) ∧ va_F A st t
def zz_rm (d : Nat) : Room := { frames := d, cells := 0, slots := 0, locals := 128 * d }
def Mt (E : zz_E) (d : Nat) (y : MethodName) (cc : ByteArray) (nL : Nat) (ret : Option FieldType) (as : List zz_V) (m : zz_M) (Q : Option zz_V → zz_M → Prop) : Prop :=
  zz_E.ok E → (∀ v ∈ as, okv v) → okm m → ∀ (l : Launch) (A : Nat → Prop) (D : va_G) (cI cY : ClassId) (ad : Nat → Nat), adok A ad →
    Met l y (.code y cc nL ret :: zz_G) (zz_rm d) (zz_Pc E A D cI cY ad as m) (zz_Qc E A D cI cY ad Q) 0 0 A
section EXR
variable {E : zz_E} {cc : ByteArray} {nL : Nat} {own : String} {d : Nat} {Q : Option zz_V → zz_M → Prop} {pc : Nat} {L : List (Option zz_V)} {S : List zz_V} {m : zz_M}
theorem Ex.post {Q' : Option zz_V → zz_M → Prop} (h : ∀ r m', Q' r m' → Q r m') (kk : Ex E cc nL own d Q' pc L S m) : Ex E cc nL own d Q pc L S m := by
  intro p l e R s mi args below meth c A D cI cY ad cells slots Qs hC hK
  exact kk p l e R s mi args below meth c A D cI cY ad cells slots Qs hC (fun r pc' S' ls' m' H' locs' h1 h2 => hK r pc' S' ls' m' H' locs' h1 (h r m' h2))
theorem Ex.weak {L' : List (Option zz_V)} (hw : ∀ (i : Nat) (v : zz_V), L'[i]? = some (some v) → L[i]? = some (some v)) (kk : Ex E cc nL own d Q pc L' S m) : Ex E cc nL own d Q pc L S m := by
  intro p l e R s mi args below meth c A D cI cY ad cells slots Qs hC hK H locs ls hL hS hm hP hV hl
  refine kk p l e R s mi args below meth c A D cI cY ad cells slots Qs hC hK H locs ls (fun v hv => ?_) hS hm hP hV (gl_weak hl hw)
  obtain ⟨i, hi⟩ := List.getElem?_of_mem hv
  exact hL v (List.mem_of_getElem? (hw i v hi))
/-- the numbers in memory are ints -/
theorem Ex.okm (kk : okm m → Ex E cc nL own d Q pc L S m) : Ex E cc nL own d Q pc L S m := by
  intro p l e R s mi args below meth c A D cI cY ad cells slots Qs hC hK H locs ls hL hS hm
  exact kk hm p l e R s mi args below meth c A D cI cY ad cells slots Qs hC hK H locs ls hL hS hm
theorem Ex.okL (kk : (∀ v, some v ∈ L → okv v) → Ex E cc nL own d Q pc L S m) : Ex E cc nL own d Q pc L S m := by
  intro p l e R s mi args below meth c A D cI cY ad cells slots Qs hC hK H locs ls hL hS hm
  exact kk hL p l e R s mi args below meth c A D cI cY ad cells slots Qs hC hK H locs ls hL hS hm
theorem Ex.okS (kk : (∀ v ∈ S, okv v) → Ex E cc nL own d Q pc L S m) : Ex E cc nL own d Q pc L S m := by
  intro p l e R s mi args below meth c A D cI cY ad cells slots Qs hC hK H locs ls hL hS hm
  exact kk hS p l e R s mi args below meth c A D cI cY ad cells slots Qs hC hK H locs ls hL hS hm
theorem Ex.okE (kk : zz_E.ok E → Ex E cc nL own d Q pc L S m) : Ex E cc nL own d Q pc L S m := by
  intro p l e R s mi args below meth c A D cI cY ad cells slots Qs hC
  exact kk hC.2.2.2.1 p l e R s mi args below meth c A D cI cY ad cells slots Qs hC
theorem Ex.eq {L' : List (Option zz_V)} {S' : List zz_V} {m' : zz_M} (hL : L = L') (hS : S = S') (hm : m = m') (kk : Ex E cc nL own d Q pc L' S' m') : Ex E cc nL own d Q pc L S m := by
  subst hL hS hm
  exact kk
-- the ends
theorem xe_i {z : Int} (hd : decode cc pc = .ok (.ireturn, 1)) (hq : Q (some (zi z)) m) : Ex E cc nL own d Q pc L [zi z] m := by
  intro p l e R s mi args below meth c A D cI cY ad cells slots Qs hC hK H locs ls hL hS hm hP hV hl
  exact hK (some (zi z)) pc [zi z] ls m H locs ⟨rfl, hd⟩ hq hS hm hP hV
theorem xe_l {z : Int} (hd : decode cc pc = .ok (.lreturn, 1)) (hq : Q (some (zj z)) m) : Ex E cc nL own d Q pc L [zj z] m := by
  intro p l e R s mi args below meth c A D cI cY ad cells slots Qs hC hK H locs ls hL hS hm hP hV hl
  exact hK (some (zj z)) pc [zj z] ls m H locs ⟨rfl, hd⟩ hq hS hm hP hV
theorem xe_v (hd : decode cc pc = .ok (.return_, 1)) (hq : Q none m) : Ex E cc nL own d Q pc L [] m := by
  intro p l e R s mi args below meth c A D cI cY ad cells slots Qs hC hK H locs ls hL hS hm hP hV hl
  exact hK none pc [] ls m H locs ⟨rfl, hd⟩ hq hS hm hP hV
/-- a step that changes the stack alone -/
theorem ex_st {pc' : Nat} {S' : List zz_V} (hok : (∀ v, some v ∈ L → okv v) → (∀ v ∈ S, okv v) → okm m → ∀ v ∈ S', okv v)
    (hw : ∀ (p : Program) (l : Launch) (e : Env) (R : Room) (s : State) (mi : MethodId) (args : Array Value) (below : List Frame) (meth : Method) (c : Code) (A : Nat → Prop) (D : va_G) (cI cY : ClassId) (ad : Nat → Nat) (cells slots : Nat) (Qs : State → Prop) (H : Heap) (locs : List Loc) (ls : Array Slot),
      zz_C E p R s mi args meth c cc nL own A D cI cY ad d cells slots → (∀ v, some v ∈ L → okv v) → (∀ v ∈ S, okv v) → okm m → va_P D zz_cl (wl ad cI cY m) H → va_S A s.heap H locs → lv_has ls nL (gl ad 0 L) →
      W p l e R s mi args below meth c H locs cells slots Qs (F0 mi pc' ls (S'.map (gv ad))) → W p l e R s mi args below meth c H locs cells slots Qs (F0 mi pc ls (S.map (gv ad))))
    (kk : Ex E cc nL own d Q pc' L S' m) : Ex E cc nL own d Q pc L S m := by
  intro p l e R s mi args below meth c A D cI cY ad cells slots Qs hC hK H locs ls hL hS hm hP hV hl
  exact hw p l e R s mi args below meth c A D cI cY ad cells slots Qs H locs ls hC hL hS hm hP hV hl (kk p l e R s mi args below meth c A D cI cY ad cells slots Qs hC hK H locs ls hL (hok hL hS hm) hm hP hV hl)
theorem ok_cons {v : zz_V} {S : List zz_V} (h : okv v) (hS : ∀ w ∈ S, okv w) : ∀ w ∈ v :: S, okv w := by
  intro w hw
  rcases List.mem_cons.mp hw with rfl | q
  · exact h
  · exact hS w q
theorem ok_tl {v : zz_V} {S : List zz_V} (hS : ∀ w ∈ v :: S, okv w) : ∀ w ∈ S, okv w := fun w hw => hS w (List.mem_cons_of_mem _ hw)
theorem ok_hd {v : zz_V} {S : List zz_V} (hS : ∀ w ∈ v :: S, okv w) : okv v := hS v List.mem_cons_self
theorem x_iconst {n : Int} (hd : decode cc pc = .ok (.iconst n, 1)) (hn : -1 ≤ n ∧ n ≤ 5) (kk : Ex E cc nL own d Q (pc + 1) L (zi n :: S) m) : Ex E cc nL own d Q pc L S m :=
  ex_st (fun _ hS _ => ok_cons (v := zi n) (show zz_in n from ⟨by omega, by omega⟩) hS) (fun p l e R s mi args below meth c A D cI cY ad cells slots Qs H locs ls hC hL hS hm hP hV hl k => lv_iconst hC.1.1 hC.1.2.1 hd rfl k) kk
theorem x_bipush {n : Int} (hd : decode cc pc = .ok (.bipush n, 2)) (hn : -128 ≤ n ∧ n ≤ 127) (kk : Ex E cc nL own d Q (pc + 2) L (zi n :: S) m) : Ex E cc nL own d Q pc L S m := by
  refine ex_st (fun _ hS _ => ok_cons (v := zi n) (show zz_in n from ⟨by omega, by omega⟩) hS) (fun p l e R s mi args below meth c A D cI cY ad cells slots Qs H locs ls hC hL hS hm hP hV hl k => lv_bipush hC.1.1 hC.1.2.1 hd ?_ k) kk
  apply Int32.toInt_inj.mp
  rw [Int8.toInt_toInt32, i32_of ⟨by omega, by omega⟩, Int8.toInt_ofInt, show Int8.size = 256 from rfl]
  exact Int.bmod_eq_of_le (by omega) (by omega)
theorem x_sipush {n : Int} (hd : decode cc pc = .ok (.sipush n, 3)) (hn : -32768 ≤ n ∧ n ≤ 32767) (kk : Ex E cc nL own d Q (pc + 3) L (zi n :: S) m) : Ex E cc nL own d Q pc L S m := by
  refine ex_st (fun _ hS _ => ok_cons (v := zi n) (show zz_in n from ⟨by omega, by omega⟩) hS) (fun p l e R s mi args below meth c A D cI cY ad cells slots Qs H locs ls hC hL hS hm hP hV hl k => lv_sipush hC.1.1 hC.1.2.1 hd ?_ k) kk
  apply Int32.toInt_inj.mp
  rw [Int16.toInt_toInt32, i32_of ⟨by omega, by omega⟩, Int16.toInt_ofInt, show Int16.size = 65536 from rfl]
  exact Int.bmod_eq_of_le (by omega) (by omega)
theorem x_lconst {n : Fin 2} {z : Int} (hd : decode cc pc = .ok (.lconst n, 1)) (hz : ((n : Nat) : Int) = z) (kk : Ex E cc nL own d Q (pc + 1) L (zj z :: S) m) : Ex E cc nL own d Q pc L S m := by
  subst hz
  refine ex_st (fun _ hS _ => ok_cons (v := zj ((n : Nat) : Int)) (show zz_inl ((n : Nat) : Int) from ⟨by have := n.isLt; omega, by have := n.isLt; omega⟩) hS) (fun p l e R s mi args below meth c A D cI cY ad cells slots Qs H locs ls hC hL hS hm hP hV hl k => lv_lconst hC.1.1 hC.1.2.1 hd ?_ k) kk
  exact (Int64.ofInt_eq_ofNat).symm
theorem x_ldc {idx : Nat} {v : Int} (hd : decode cc pc = .ok (.ldc idx, 2)) (hv : zz_in v) (hc : Cond.constant own idx (Int32.ofInt v) ∈ zz_T) (kk : Ex E cc nL own d Q (pc + 2) L (zi v :: S) m) : Ex E cc nL own d Q pc L S m :=
  ex_st (fun _ hS _ => ok_cons (v := zi v) (show zz_in v from hv) hS) (fun p l e R s mi args below meth c A D cI cY ad cells slots Qs H locs ls hC hL hS hm hP hV hl k => lv_ldc hC.1.1 hC.1.2.1 hC.1.2.2.2.1 (hC.1.2.2.2.2 _ hc) hd k) kk
theorem x_ldcw {idx : Nat} {v : Int} (hd : decode cc pc = .ok (.ldc_w idx, 3)) (hv : zz_in v) (hc : Cond.constant own idx (Int32.ofInt v) ∈ zz_T) (kk : Ex E cc nL own d Q (pc + 3) L (zi v :: S) m) : Ex E cc nL own d Q pc L S m :=
  ex_st (fun _ hS _ => ok_cons (v := zi v) (show zz_in v from hv) hS) (fun p l e R s mi args below meth c A D cI cY ad cells slots Qs H locs ls hC hL hS hm hP hV hl k => lv_ldcw hC.1.1 hC.1.2.1 hC.1.2.2.2.1 (hC.1.2.2.2.2 _ hc) hd k) kk
theorem x_ldc2 {idx : Nat} {v : Int} (hd : decode cc pc = .ok (.ldc2_w idx, 3)) (hv : zz_inl v) (hc : Cond.constantLong own idx (Int64.ofInt v) ∈ zz_T) (kk : Ex E cc nL own d Q (pc + 3) L (zj v :: S) m) : Ex E cc nL own d Q pc L S m :=
  ex_st (fun _ hS _ => ok_cons (v := zj v) (show zz_inl v from hv) hS) (fun p l e R s mi args below meth c A D cI cY ad cells slots Qs H locs ls hC hL hS hm hP hV hl k => lv_ldc2 hC.1.1 hC.1.2.1 hC.1.2.2.2.1 (hC.1.2.2.2.2 _ hc) hd k) kk
-- locals
theorem x_iloadG {i pc' : Nat} {z : Int} (hd : decode cc pc = .ok (.iload i, 2) ∧ pc' = pc + 2 ∨ ∃ k : Fin 4, decode cc pc = .ok (.iload_n k, 1) ∧ (k : Nat) = i ∧ pc' = pc + 1) (hL : L[i]? = some (some (zi z))) (kk : Ex E cc nL own d Q pc' L (zi z :: S) m) : Ex E cc nL own d Q pc L S m := by
  refine ex_st (fun hl hS _ => ok_cons (hl _ (List.mem_of_getElem? hL)) hS) (fun p l e R s mi args below meth c A D cI cY ad cells slots Qs H locs ls hC _ hS hm hP hV hl k => ?_) kk
  have hv := gl_at hl hL
  rcases hd with ⟨hd, rfl⟩ | ⟨f, hd, hf, rfl⟩
  · exact lv_iload hC.1.1 hC.1.2.1 hd hv k
  · exact lv_iload_n hC.1.1 hC.1.2.1 hd hf hv k
theorem x_aloadG {i pc' : Nat} {z : Nat} (hd : decode cc pc = .ok (.aload i, 2) ∧ pc' = pc + 2 ∨ ∃ k : Fin 4, decode cc pc = .ok (.aload_n k, 1) ∧ (k : Nat) = i ∧ pc' = pc + 1) (hL : L[i]? = some (some (zr z))) (kk : Ex E cc nL own d Q pc' L (zr z :: S) m) : Ex E cc nL own d Q pc L S m := by
  refine ex_st (fun hl hS _ => ok_cons (hl _ (List.mem_of_getElem? hL)) hS) (fun p l e R s mi args below meth c A D cI cY ad cells slots Qs H locs ls hC _ hS hm hP hV hl k => ?_) kk
  have hv := gl_at hl hL
  rcases hd with ⟨hd, rfl⟩ | ⟨f, hd, hf, rfl⟩
  · exact lv_aload hC.1.1 hC.1.2.1 hd hv k
  · exact lv_aload_n hC.1.1 hC.1.2.1 hd hf hv k
theorem x_lloadG {i pc' : Nat} {z : Int} (hd : decode cc pc = .ok (.lload i, 2) ∧ pc' = pc + 2 ∨ ∃ k : Fin 4, decode cc pc = .ok (.lload_n k, 1) ∧ (k : Nat) = i ∧ pc' = pc + 1) (hL : L[i]? = some (some (zj z))) (kk : Ex E cc nL own d Q pc' L (zj z :: S) m) : Ex E cc nL own d Q pc L S m := by
  refine ex_st (fun hl hS _ => ok_cons (hl _ (List.mem_of_getElem? hL)) hS) (fun p l e R s mi args below meth c A D cI cY ad cells slots Qs H locs ls hC _ hS hm hP hV hl k => ?_) kk
  have hv := gl_at hl hL
  rcases hd with ⟨hd, rfl⟩ | ⟨f, hd, hf, rfl⟩
  · exact lv_lload hC.1.1 hC.1.2.1 hd hv k
  · exact lv_lload_n hC.1.1 hC.1.2.1 hd hf hv k
theorem set_rule {i : Nat} {v : zz_V} {L : List (Option zz_V)} : ∀ (k : Nat) (w : zz_V), (L.set i (some v))[k]? = some (some w) → (k = i ∧ w = v) ∨ (k ≠ i ∧ L[k]? = some (some w)) := by
  intro k w h
  by_cases hk : k = i
  · subst hk
    left
    have hl : k < L.length := by
      have := (List.getElem?_eq_some_iff.mp h).1
      simpa using this
    rw [List.getElem?_set_self hl] at h
    cases h
    exact ⟨rfl, rfl⟩
  · right
    rw [List.getElem?_set_ne (Ne.symm hk)] at h
    exact ⟨hk, h⟩
theorem ok_set {i : Nat} {v : zz_V} {L : List (Option zz_V)} (hL : ∀ v, some v ∈ L → okv v) (hv : okv v) : ∀ w, some w ∈ L.set i (some v) → okv w := by
  intro w hw
  rcases List.mem_or_eq_of_mem_set hw with h | h
  · exact hL w h
  · cases h; exact hv
theorem x_storeG {i pc' : Nat} {v : zz_V} (hi : i < nL) (hn : njl L = true)
    (hd : (∃ z, v = zi z ∧ (decode cc pc = .ok (.istore i, 2) ∧ pc' = pc + 2 ∨ ∃ k : Fin 4, decode cc pc = .ok (.istore_n k, 1) ∧ (k : Nat) = i ∧ pc' = pc + 1)) ∨ (∃ z, v = zr z ∧ (decode cc pc = .ok (.astore i, 2) ∧ pc' = pc + 2 ∨ ∃ k : Fin 4, decode cc pc = .ok (.astore_n k, 1) ∧ (k : Nat) = i ∧ pc' = pc + 1)))
    (kk : Ex E cc nL own d Q pc' (L.set i (some v)) S m) : Ex E cc nL own d Q pc L (v :: S) m := by
  intro p l e R s mi args below meth c A D cI cY ad cells slots Qs hC hK H locs ls hL hS hm hP hV hl
  have go : ∀ ls' : Array Slot, lv_has ls' nL ((i, gv ad v) :: (gl ad 0 L).filter (fun q => !(q.1 == i) && !(q.1 + 1 == i && q.2.category == 2))) → W p l e R s mi args below meth c H locs cells slots Qs (F0 mi pc' ls' (S.map (gv ad))) := fun ls' h =>
    kk p l e R s mi args below meth c A D cI cY ad cells slots Qs hC hK H locs ls' (ok_set hL (ok_hd hS)) (ok_tl hS) hm hP hV (gl_store h hn set_rule)
  rcases hd with ⟨z, rfl, hd⟩ | ⟨z, rfl, hd⟩ <;> rcases hd with ⟨hd, rfl⟩ | ⟨f, hd, hf, rfl⟩
  · exact lv_istore hC.1.1 hC.1.2.1 hd hl hi rfl go
  · exact lv_istore_n hC.1.1 hC.1.2.1 hd hf hl hi rfl go
  · exact lv_astore hC.1.1 hC.1.2.1 hd hl hi rfl go
  · exact lv_astore_n hC.1.1 hC.1.2.1 hd hf hl hi rfl go
theorem x_iincG {i : Nat} {n z v : Int} (hi : i < nL) (hn : njl L = true) (hd : decode cc pc = .ok (.iinc i n, 3)) (hL : L[i]? = some (some (zi z))) (hv : nrm (z + n) = v) (kk : Ex E cc nL own d Q (pc + 3) (L.set i (some (zi v))) S m) : Ex E cc nL own d Q pc L S m := by
  subst hv
  intro p l e R s mi args below meth c A D cI cY ad cells slots Qs hC hK H locs ls hLo hS hm hP hV hl
  have hmem : (i, gv ad (zi z)) ∈ gl ad 0 L := gl_mem.mpr ⟨i, _, hL, by simp⟩
  obtain ⟨k, hk⟩ := List.getElem?_of_mem hmem
  refine lv_iinc (v := Int32.ofInt (nrm (z + n))) hC.1.1 hC.1.2.1 hd hl hk ?_ hi rfl (fun ls' h => ?_)
  · rw [i32_nrm, Int32.ofInt_add]
  · exact kk p l e R s mi args below meth c A D cI cY ad cells slots Qs hC hK H locs ls' (ok_set hLo (nrm_in _)) hS hm hP hV (gl_store (v := zi (nrm (z + n))) h hn set_rule)
-- arithmetic
theorem ex_i2 {a b r : Int} {pc' : Nat} (hr : zz_in r) (hw : ∀ (p : Program) (l : Launch) (e : Env) (R : Room) (s : State) (mi : MethodId) (args : Array Value) (below : List Frame) (meth : Method) (c : Code) (cells slots : Nat) (Qs : State → Prop) (H : Heap) (locs : List Loc) (ls : Array Slot) (rest : List Value),
      p.tables.exec = Jvm.exec → c.code = cc → zz_in a → zz_in b → W p l e R s mi args below meth c H locs cells slots Qs (F0 mi pc' ls (.int (Int32.ofInt r) :: rest)) → W p l e R s mi args below meth c H locs cells slots Qs (F0 mi pc ls (.int (Int32.ofInt b) :: .int (Int32.ofInt a) :: rest)))
    (kk : Ex E cc nL own d Q pc' L (zi r :: S) m) : Ex E cc nL own d Q pc L (zi b :: zi a :: S) m :=
  ex_st (fun _ hS _ => ok_cons (v := zi r) hr (ok_tl (ok_tl hS))) (fun p l e R s mi args below meth c A D cI cY ad cells slots Qs H locs ls hC hL hS hm hP hV hl k => hw p l e R s mi args below meth c cells slots Qs H locs ls _ hC.1.1 hC.1.2.1 (ok_hd (ok_tl hS)) (ok_hd hS) k) kk
end EXR
end
section
section EXA
variable {E : zz_E} {cc : ByteArray} {nL : Nat} {own : String} {d : Nat} {Q : Option zz_V → zz_M → Prop} {pc tgt : Nat} {L : List (Option zz_V)} {S : List zz_V} {m : zz_M} {a b v off : Int}
theorem x_iadd (hd : decode cc pc = .ok (.iadd, 1)) (hv : nrm (a + b) = v) (kk : Ex E cc nL own d Q (pc + 1) L (zi v :: S) m) : Ex E cc nL own d Q pc L (zi b :: zi a :: S) m := by
  subst hv
  refine ex_i2 (nrm_in _) (fun p l e R s mi args below meth c cells slots Qs H locs ls rest hx hb ha hb2 k => lv_iadd hx hb hd ?_) kk
  rw [i32_nrm, Int32.ofInt_add] at k
  exact k
theorem x_isub (hd : decode cc pc = .ok (.isub, 1)) (hv : nrm (a - b) = v) (kk : Ex E cc nL own d Q (pc + 1) L (zi v :: S) m) : Ex E cc nL own d Q pc L (zi b :: zi a :: S) m := by
  subst hv
  refine ex_i2 (nrm_in _) (fun p l e R s mi args below meth c cells slots Qs H locs ls rest hx hb ha hb2 k => lv_isub hx hb hd ?_) kk
  rw [i32_nrm, Int32.ofInt_sub] at k
  exact k
theorem x_imul (hd : decode cc pc = .ok (.imul, 1)) (hv : nrm (a * b) = v) (kk : Ex E cc nL own d Q (pc + 1) L (zi v :: S) m) : Ex E cc nL own d Q pc L (zi b :: zi a :: S) m := by
  subst hv
  refine ex_i2 (nrm_in _) (fun p l e R s mi args below meth c cells slots Qs H locs ls rest hx hb ha hb2 k => lv_imul hx hb hd ?_) kk
  rw [i32_nrm, Int32.ofInt_mul] at k
  exact k
theorem x_iand (hd : decode cc pc = .ok (.iand, 1)) (hv : ian a b = v) (kk : Ex E cc nL own d Q (pc + 1) L (zi v :: S) m) : Ex E cc nL own d Q pc L (zi b :: zi a :: S) m := by
  subst hv
  refine ex_i2 (i32_in _) (fun p l e R s mi args below meth c cells slots Qs H locs ls rest hx hb ha hb2 k => lv_iand hx hb hd ?_) kk
  rw [i32_back] at k
  exact k
theorem x_ior (hd : decode cc pc = .ok (.ior, 1)) (hv : ior a b = v) (kk : Ex E cc nL own d Q (pc + 1) L (zi v :: S) m) : Ex E cc nL own d Q pc L (zi b :: zi a :: S) m := by
  subst hv
  refine ex_i2 (i32_in _) (fun p l e R s mi args below meth c cells slots Qs H locs ls rest hx hb ha hb2 k => lv_ior hx hb hd ?_) kk
  rw [i32_back] at k
  exact k
theorem x_ixor (hd : decode cc pc = .ok (.ixor, 1)) (hv : ixr a b = v) (kk : Ex E cc nL own d Q (pc + 1) L (zi v :: S) m) : Ex E cc nL own d Q pc L (zi b :: zi a :: S) m := by
  subst hv
  refine ex_i2 (i32_in _) (fun p l e R s mi args below meth c cells slots Qs H locs ls rest hx hb ha hb2 k => lv_ixor hx hb hd ?_) kk
  rw [i32_back] at k
  exact k
theorem x_ishl (hd : decode cc pc = .ok (.ishl, 1)) (hv : isl a b = v) (kk : Ex E cc nL own d Q (pc + 1) L (zi v :: S) m) : Ex E cc nL own d Q pc L (zi b :: zi a :: S) m := by
  subst hv
  refine ex_i2 (i32_in _) (fun p l e R s mi args below meth c cells slots Qs H locs ls rest hx hb ha hb2 k => lv_ishl hx hb hd ?_) kk
  rw [i32_back] at k
  exact k
theorem x_ishr (hd : decode cc pc = .ok (.ishr, 1)) (hv : isr a b = v) (kk : Ex E cc nL own d Q (pc + 1) L (zi v :: S) m) : Ex E cc nL own d Q pc L (zi b :: zi a :: S) m := by
  subst hv
  refine ex_i2 (i32_in _) (fun p l e R s mi args below meth c cells slots Qs H locs ls rest hx hb ha hb2 k => lv_ishr hx hb hd ?_) kk
  rw [i32_back] at k
  exact k
theorem x_iushr (hd : decode cc pc = .ok (.iushr, 1)) (hv : ius a b = v) (kk : Ex E cc nL own d Q (pc + 1) L (zi v :: S) m) : Ex E cc nL own d Q pc L (zi b :: zi a :: S) m := by
  subst hv
  exact ex_i2 (i32_in _) (fun p l e R s mi args below meth c cells slots Qs H locs ls rest hx hb ha hb2 k => lv_iushr hx hb hd (i32_back _).symm k) kk
theorem i32_ne0 {b : Int} (hb : zz_in b) (h : b ≠ 0) : ¬ Int32.ofInt b = 0 := fun q => h (i32_inj hb ⟨by decide, by decide⟩ q)
theorem x_idiv (hd : decode cc pc = .ok (.idiv, 1)) (hne : b ≠ 0) (hv : idv a b = v) (kk : Ex E cc nL own d Q (pc + 1) L (zi v :: S) m) : Ex E cc nL own d Q pc L (zi b :: zi a :: S) m := by
  subst hv
  refine ex_i2 (i32_in _) (fun p l e R s mi args below meth c cells slots Qs H locs ls rest hx hb ha hb2 k => lv_idiv hx hb hd (i32_ne0 hb2 hne) ?_) kk
  rw [i32_back] at k
  exact k
theorem x_irem (hd : decode cc pc = .ok (.irem, 1)) (hne : b ≠ 0) (hv : irm a b = v) (kk : Ex E cc nL own d Q (pc + 1) L (zi v :: S) m) : Ex E cc nL own d Q pc L (zi b :: zi a :: S) m := by
  subst hv
  refine ex_i2 (i32_in _) (fun p l e R s mi args below meth c cells slots Qs H locs ls rest hx hb ha hb2 k => lv_irem hx hb hd (i32_ne0 hb2 hne) ?_) kk
  rw [i32_back] at k
  exact k
theorem x_ineg (hd : decode cc pc = .ok (.ineg, 1)) (hv : nrm (-a) = v) (kk : Ex E cc nL own d Q (pc + 1) L (zi v :: S) m) : Ex E cc nL own d Q pc L (zi a :: S) m := by
  subst hv
  refine ex_st (fun _ hS _ => ok_cons (v := zi (nrm (-a))) (nrm_in _) (ok_tl hS)) (fun p l e R s mi args below meth c A D cI cY ad cells slots Qs H locs ls hC hL hS hm hP hV hl k => lv_ineg hC.1.1 hC.1.2.1 hd ?_) kk
  have e2 : -Int32.ofInt a = Int32.ofInt (nrm (-a)) := by rw [i32_nrm, Int32.ofInt_neg]
  rw [e2]
  exact k
-- longs
theorem x_i2l (hd : decode cc pc = .ok (.i2l, 1)) (kk : Ex E cc nL own d Q (pc + 1) L (zj a :: S) m) : Ex E cc nL own d Q pc L (zi a :: S) m := by
  refine ex_st (fun _ hS _ => ok_cons (v := zj a) (show zz_inl a from ?_) (ok_tl hS)) (fun p l e R s mi args below meth c A D cI cY ad cells slots Qs H locs ls hC hL hS hm hP hV hl k => lv_i2l hC.1.1 hC.1.2.1 hd ?_ k) kk
  · have h := ok_hd hS
    exact ⟨by have := h.1; omega, by have := h.2; omega⟩
  · have h : zz_in a := ok_hd hS
    apply Int64.toInt_inj.mp
    rw [Int32.toInt_toInt64, i32_of h, i64_of ⟨by have := h.1; omega, by have := h.2; omega⟩]
theorem x_lsub (hd : decode cc pc = .ok (.lsub, 1)) (hv : nrml (a - b) = v) (kk : Ex E cc nL own d Q (pc + 1) L (zj v :: S) m) : Ex E cc nL own d Q pc L (zj b :: zj a :: S) m := by
  subst hv
  refine ex_st (fun _ hS _ => ok_cons (v := zj _) (nrml_in _) (ok_tl (ok_tl hS))) (fun p l e R s mi args below meth c A D cI cY ad cells slots Qs H locs ls hC hL hS hm hP hV hl k => lv_lsub hC.1.1 hC.1.2.1 hd ?_) kk
  have e2 : Int64.ofInt a - Int64.ofInt b = Int64.ofInt (nrml (a - b)) := by rw [i64_nrml, Int64.ofInt_sub]
  rw [e2]
  exact k
def lcm_ (a b : Int) : Int := if b < a then 1 else if a = b then 0 else -1
theorem x_lcmp (hd : decode cc pc = .ok (.lcmp, 1)) (kk : Ex E cc nL own d Q (pc + 1) L (zi (lcm_ a b) :: S) m) : Ex E cc nL own d Q pc L (zj b :: zj a :: S) m := by
  refine ex_st (fun _ hS _ => ok_cons (v := zi _) (show zz_in _ from ?_) (ok_tl (ok_tl hS))) (fun p l e R s mi args below meth c A D cI cY ad cells slots Qs H locs ls hC hL hS hm hP hV hl k => W.lcmp hC.1.1 hC.1.2.1 hd ?_) kk
  · unfold lcm_ zz_in
    split <;> try split
    all_goals omega
  · have ha : zz_inl a := ok_hd (ok_tl hS)
    have hb : zz_inl b := ok_hd hS
    have e2 : lg_cmp (Int64.ofInt a) (Int64.ofInt b) = Int32.ofInt (lcm_ a b) := by
      unfold lg_cmp lcm_
      simp only [GT.gt, Int64.lt_iff_toInt_lt, ← Int64.toInt_inj, i64_of ha, i64_of hb]
      split
      · rfl
      · split <;> rfl
    rw [e2]
    exact k
-- the stack
theorem x_dup (hd : decode cc pc = .ok (.dup, 1)) (kk : Ex E cc nL own d Q (pc + 1) L (zi a :: zi a :: S) m) : Ex E cc nL own d Q pc L (zi a :: S) m :=
  ex_st (fun _ hS _ => ok_cons (ok_hd hS) hS) (fun p l e R s mi args below meth c A D cI cY ad cells slots Qs H locs ls hC hL hS hm hP hV hl k => lv_dup hC.1.1 hC.1.2.1 hd rfl k) kk
theorem x_dupr {k : Nat} (hd : decode cc pc = .ok (.dup, 1)) (kk : Ex E cc nL own d Q (pc + 1) L (zr k :: zr k :: S) m) : Ex E cc nL own d Q pc L (zr k :: S) m :=
  ex_st (fun _ hS _ => ok_cons (ok_hd hS) hS) (fun p l e R s mi args below meth c A D cI cY ad cells slots Qs H locs ls hC hL hS hm hP hV hl k => lv_dup hC.1.1 hC.1.2.1 hd rfl k) kk
theorem x_dup2 {k : Nat} (hd : decode cc pc = .ok (.dup2, 1)) (kk : Ex E cc nL own d Q (pc + 1) L (zi a :: zr k :: zi a :: zr k :: S) m) : Ex E cc nL own d Q pc L (zi a :: zr k :: S) m :=
  ex_st (fun _ hS _ => ok_cons (ok_hd hS) (ok_cons (ok_hd (ok_tl hS)) hS)) (fun p l e R s mi args below meth c A D cI cY ad cells slots Qs H locs ls hC hL hS hm hP hV hl k => lv_dup2_11 hC.1.1 hC.1.2.1 hd rfl rfl k) kk
theorem x_pop (hd : decode cc pc = .ok (.pop, 1)) (kk : Ex E cc nL own d Q (pc + 1) L S m) : Ex E cc nL own d Q pc L (zi a :: S) m :=
  ex_st (fun _ hS _ => ok_tl hS) (fun p l e R s mi args below meth c A D cI cY ad cells slots Qs H locs ls hC hL hS hm hP hV hl k => lv_pop hC.1.1 hC.1.2.1 hd rfl k) kk
theorem x_goto (hd : decode cc pc = .ok (.goto off, 3)) (ht : (pc : Int) + off = (tgt : Int)) (kk : Ex E cc nL own d Q tgt L S m) : Ex E cc nL own d Q pc L S m :=
  ex_st (fun _ hS _ => hS) (fun p l e R s mi args below meth c A D cI cY ad cells slots Qs H locs ls hC hL hS hm hP hV hl k => lv_goto hC.1.1 hC.1.2.1 hd ht k) kk
theorem x_icmp_eq (hd : decode cc pc = .ok (.if_icmp .eq off, 3)) (ht : (pc : Int) + off = (tgt : Int)) (kt : a = b → Ex E cc nL own d Q tgt L S m) (kf : a ≠ b → Ex E cc nL own d Q (pc + 3) L S m) : Ex E cc nL own d Q pc L (zi b :: zi a :: S) m := by
  intro p l e R s mi args below meth c A D cI cY ad cells slots Qs hC hK H locs ls hL hS hm hP hV hl
  have ha : zz_in a := ok_hd (ok_tl hS)
  have hb : zz_in b := ok_hd hS
  have kt := fun h => kt h p l e R s mi args below meth c A D cI cY ad cells slots Qs hC hK H locs ls hL (ok_tl (ok_tl hS)) hm hP hV hl
  have kf := fun h => kf h p l e R s mi args below meth c A D cI cY ad cells slots Qs hC hK H locs ls hL (ok_tl (ok_tl hS)) hm hP hV hl
  exact lv_icmp_eq hC.1.1 hC.1.2.1 hd ht (fun h => kt (i32_inj ha hb h)) (fun h => kf (fun q => h (congrArg Int32.ofInt q)))
theorem x_if_eq (hd : decode cc pc = .ok (.ifCond .eq off, 3)) (ht : (pc : Int) + off = (tgt : Int)) (kt : a = 0 → Ex E cc nL own d Q tgt L S m) (kf : a ≠ 0 → Ex E cc nL own d Q (pc + 3) L S m) : Ex E cc nL own d Q pc L (zi a :: S) m := by
  intro p l e R s mi args below meth c A D cI cY ad cells slots Qs hC hK H locs ls hL hS hm hP hV hl
  have ha : zz_in a := ok_hd hS
  have hb : zz_in 0 := ⟨by decide, by decide⟩
  have kt := fun h => kt h p l e R s mi args below meth c A D cI cY ad cells slots Qs hC hK H locs ls hL (ok_tl hS) hm hP hV hl
  have kf := fun h => kf h p l e R s mi args below meth c A D cI cY ad cells slots Qs hC hK H locs ls hL (ok_tl hS) hm hP hV hl
  exact lv_if_eq hC.1.1 hC.1.2.1 hd ht (fun h => kt (i32_inj ha hb h)) (fun h => kf (fun q => h (congrArg Int32.ofInt q)))
theorem x_icmp_ne (hd : decode cc pc = .ok (.if_icmp .ne off, 3)) (ht : (pc : Int) + off = (tgt : Int)) (kt : a ≠ b → Ex E cc nL own d Q tgt L S m) (kf : a = b → Ex E cc nL own d Q (pc + 3) L S m) : Ex E cc nL own d Q pc L (zi b :: zi a :: S) m := by
  intro p l e R s mi args below meth c A D cI cY ad cells slots Qs hC hK H locs ls hL hS hm hP hV hl
  have ha : zz_in a := ok_hd (ok_tl hS)
  have hb : zz_in b := ok_hd hS
  have kt := fun h => kt h p l e R s mi args below meth c A D cI cY ad cells slots Qs hC hK H locs ls hL (ok_tl (ok_tl hS)) hm hP hV hl
  have kf := fun h => kf h p l e R s mi args below meth c A D cI cY ad cells slots Qs hC hK H locs ls hL (ok_tl (ok_tl hS)) hm hP hV hl
  exact lv_icmp_ne hC.1.1 hC.1.2.1 hd ht (fun h => kt (fun q => h (congrArg Int32.ofInt q))) (fun h => kf (i32_inj ha hb h))
theorem x_if_ne (hd : decode cc pc = .ok (.ifCond .ne off, 3)) (ht : (pc : Int) + off = (tgt : Int)) (kt : a ≠ 0 → Ex E cc nL own d Q tgt L S m) (kf : a = 0 → Ex E cc nL own d Q (pc + 3) L S m) : Ex E cc nL own d Q pc L (zi a :: S) m := by
  intro p l e R s mi args below meth c A D cI cY ad cells slots Qs hC hK H locs ls hL hS hm hP hV hl
  have ha : zz_in a := ok_hd hS
  have hb : zz_in 0 := ⟨by decide, by decide⟩
  have kt := fun h => kt h p l e R s mi args below meth c A D cI cY ad cells slots Qs hC hK H locs ls hL (ok_tl hS) hm hP hV hl
  have kf := fun h => kf h p l e R s mi args below meth c A D cI cY ad cells slots Qs hC hK H locs ls hL (ok_tl hS) hm hP hV hl
  exact lv_if_ne hC.1.1 hC.1.2.1 hd ht (fun h => kt (fun q => h (congrArg Int32.ofInt q))) (fun h => kf (i32_inj ha hb h))
theorem x_icmp_lt (hd : decode cc pc = .ok (.if_icmp .lt off, 3)) (ht : (pc : Int) + off = (tgt : Int)) (kt : a < b → Ex E cc nL own d Q tgt L S m) (kf : b ≤ a → Ex E cc nL own d Q (pc + 3) L S m) : Ex E cc nL own d Q pc L (zi b :: zi a :: S) m := by
  intro p l e R s mi args below meth c A D cI cY ad cells slots Qs hC hK H locs ls hL hS hm hP hV hl
  have ha : zz_in a := ok_hd (ok_tl hS)
  have hb : zz_in b := ok_hd hS
  have kt := fun h => kt h p l e R s mi args below meth c A D cI cY ad cells slots Qs hC hK H locs ls hL (ok_tl (ok_tl hS)) hm hP hV hl
  have kf := fun h => kf h p l e R s mi args below meth c A D cI cY ad cells slots Qs hC hK H locs ls hL (ok_tl (ok_tl hS)) hm hP hV hl
  exact lv_icmp_lt hC.1.1 hC.1.2.1 hd ht (fun h => kt ((i32_lt ha hb).mp h)) (fun h => kf (Int.not_lt.mp (fun q => h ((i32_lt ha hb).mpr q))))
theorem x_if_lt (hd : decode cc pc = .ok (.ifCond .lt off, 3)) (ht : (pc : Int) + off = (tgt : Int)) (kt : a < 0 → Ex E cc nL own d Q tgt L S m) (kf : 0 ≤ a → Ex E cc nL own d Q (pc + 3) L S m) : Ex E cc nL own d Q pc L (zi a :: S) m := by
  intro p l e R s mi args below meth c A D cI cY ad cells slots Qs hC hK H locs ls hL hS hm hP hV hl
  have ha : zz_in a := ok_hd hS
  have hb : zz_in 0 := ⟨by decide, by decide⟩
  have kt := fun h => kt h p l e R s mi args below meth c A D cI cY ad cells slots Qs hC hK H locs ls hL (ok_tl hS) hm hP hV hl
  have kf := fun h => kf h p l e R s mi args below meth c A D cI cY ad cells slots Qs hC hK H locs ls hL (ok_tl hS) hm hP hV hl
  exact lv_if_lt hC.1.1 hC.1.2.1 hd ht (fun h => kt ((i32_lt ha hb).mp h)) (fun h => kf (Int.not_lt.mp (fun q => h ((i32_lt ha hb).mpr q))))
theorem x_icmp_ge (hd : decode cc pc = .ok (.if_icmp .ge off, 3)) (ht : (pc : Int) + off = (tgt : Int)) (kt : b ≤ a → Ex E cc nL own d Q tgt L S m) (kf : a < b → Ex E cc nL own d Q (pc + 3) L S m) : Ex E cc nL own d Q pc L (zi b :: zi a :: S) m := by
  intro p l e R s mi args below meth c A D cI cY ad cells slots Qs hC hK H locs ls hL hS hm hP hV hl
  have ha : zz_in a := ok_hd (ok_tl hS)
  have hb : zz_in b := ok_hd hS
  have kt := fun h => kt h p l e R s mi args below meth c A D cI cY ad cells slots Qs hC hK H locs ls hL (ok_tl (ok_tl hS)) hm hP hV hl
  have kf := fun h => kf h p l e R s mi args below meth c A D cI cY ad cells slots Qs hC hK H locs ls hL (ok_tl (ok_tl hS)) hm hP hV hl
  exact lv_icmp_ge hC.1.1 hC.1.2.1 hd ht (fun h => kt ((i32_le hb ha).mp h)) (fun h => kf (Int.not_le.mp (fun q => h ((i32_le hb ha).mpr q))))
theorem x_if_ge (hd : decode cc pc = .ok (.ifCond .ge off, 3)) (ht : (pc : Int) + off = (tgt : Int)) (kt : 0 ≤ a → Ex E cc nL own d Q tgt L S m) (kf : a < 0 → Ex E cc nL own d Q (pc + 3) L S m) : Ex E cc nL own d Q pc L (zi a :: S) m := by
  intro p l e R s mi args below meth c A D cI cY ad cells slots Qs hC hK H locs ls hL hS hm hP hV hl
  have ha : zz_in a := ok_hd hS
  have hb : zz_in 0 := ⟨by decide, by decide⟩
  have kt := fun h => kt h p l e R s mi args below meth c A D cI cY ad cells slots Qs hC hK H locs ls hL (ok_tl hS) hm hP hV hl
  have kf := fun h => kf h p l e R s mi args below meth c A D cI cY ad cells slots Qs hC hK H locs ls hL (ok_tl hS) hm hP hV hl
  exact lv_if_ge hC.1.1 hC.1.2.1 hd ht (fun h => kt ((i32_le hb ha).mp h)) (fun h => kf (Int.not_le.mp (fun q => h ((i32_le hb ha).mpr q))))
theorem x_icmp_gt (hd : decode cc pc = .ok (.if_icmp .gt off, 3)) (ht : (pc : Int) + off = (tgt : Int)) (kt : b < a → Ex E cc nL own d Q tgt L S m) (kf : a ≤ b → Ex E cc nL own d Q (pc + 3) L S m) : Ex E cc nL own d Q pc L (zi b :: zi a :: S) m := by
  intro p l e R s mi args below meth c A D cI cY ad cells slots Qs hC hK H locs ls hL hS hm hP hV hl
  have ha : zz_in a := ok_hd (ok_tl hS)
  have hb : zz_in b := ok_hd hS
  have kt := fun h => kt h p l e R s mi args below meth c A D cI cY ad cells slots Qs hC hK H locs ls hL (ok_tl (ok_tl hS)) hm hP hV hl
  have kf := fun h => kf h p l e R s mi args below meth c A D cI cY ad cells slots Qs hC hK H locs ls hL (ok_tl (ok_tl hS)) hm hP hV hl
  exact lv_icmp_gt hC.1.1 hC.1.2.1 hd ht (fun h => kt ((i32_lt hb ha).mp h)) (fun h => kf (Int.not_lt.mp (fun q => h ((i32_lt hb ha).mpr q))))
theorem x_if_gt (hd : decode cc pc = .ok (.ifCond .gt off, 3)) (ht : (pc : Int) + off = (tgt : Int)) (kt : 0 < a → Ex E cc nL own d Q tgt L S m) (kf : a ≤ 0 → Ex E cc nL own d Q (pc + 3) L S m) : Ex E cc nL own d Q pc L (zi a :: S) m := by
  intro p l e R s mi args below meth c A D cI cY ad cells slots Qs hC hK H locs ls hL hS hm hP hV hl
  have ha : zz_in a := ok_hd hS
  have hb : zz_in 0 := ⟨by decide, by decide⟩
  have kt := fun h => kt h p l e R s mi args below meth c A D cI cY ad cells slots Qs hC hK H locs ls hL (ok_tl hS) hm hP hV hl
  have kf := fun h => kf h p l e R s mi args below meth c A D cI cY ad cells slots Qs hC hK H locs ls hL (ok_tl hS) hm hP hV hl
  exact lv_if_gt hC.1.1 hC.1.2.1 hd ht (fun h => kt ((i32_lt hb ha).mp h)) (fun h => kf (Int.not_lt.mp (fun q => h ((i32_lt hb ha).mpr q))))
theorem x_icmp_le (hd : decode cc pc = .ok (.if_icmp .le off, 3)) (ht : (pc : Int) + off = (tgt : Int)) (kt : a ≤ b → Ex E cc nL own d Q tgt L S m) (kf : b < a → Ex E cc nL own d Q (pc + 3) L S m) : Ex E cc nL own d Q pc L (zi b :: zi a :: S) m := by
  intro p l e R s mi args below meth c A D cI cY ad cells slots Qs hC hK H locs ls hL hS hm hP hV hl
  have ha : zz_in a := ok_hd (ok_tl hS)
  have hb : zz_in b := ok_hd hS
  have kt := fun h => kt h p l e R s mi args below meth c A D cI cY ad cells slots Qs hC hK H locs ls hL (ok_tl (ok_tl hS)) hm hP hV hl
  have kf := fun h => kf h p l e R s mi args below meth c A D cI cY ad cells slots Qs hC hK H locs ls hL (ok_tl (ok_tl hS)) hm hP hV hl
  exact lv_icmp_le hC.1.1 hC.1.2.1 hd ht (fun h => kt ((i32_le ha hb).mp h)) (fun h => kf (Int.not_le.mp (fun q => h ((i32_le ha hb).mpr q))))
theorem x_if_le (hd : decode cc pc = .ok (.ifCond .le off, 3)) (ht : (pc : Int) + off = (tgt : Int)) (kt : a ≤ 0 → Ex E cc nL own d Q tgt L S m) (kf : 0 < a → Ex E cc nL own d Q (pc + 3) L S m) : Ex E cc nL own d Q pc L (zi a :: S) m := by
  intro p l e R s mi args below meth c A D cI cY ad cells slots Qs hC hK H locs ls hL hS hm hP hV hl
  have ha : zz_in a := ok_hd hS
  have hb : zz_in 0 := ⟨by decide, by decide⟩
  have kt := fun h => kt h p l e R s mi args below meth c A D cI cY ad cells slots Qs hC hK H locs ls hL (ok_tl hS) hm hP hV hl
  have kf := fun h => kf h p l e R s mi args below meth c A D cI cY ad cells slots Qs hC hK H locs ls hL (ok_tl hS) hm hP hV hl
  exact lv_if_le hC.1.1 hC.1.2.1 hd ht (fun h => kt ((i32_le ha hb).mp h)) (fun h => kf (Int.not_le.mp (fun q => h ((i32_le ha hb).mpr q))))
theorem x_tin {dflt lo hi : Int} {offs : Array Int} {len : Nat} (hd : decode cc pc = .ok (.tableswitch dflt lo hi offs, len)) (h1 : lo ≤ a) (h2 : a ≤ hi) (ho : offs[(a - lo).toNat]? = some off) (ht : (pc : Int) + off = (tgt : Int)) (kk : Ex E cc nL own d Q tgt L S m) : Ex E cc nL own d Q pc L (zi a :: S) m :=
  ex_st (fun _ hS _ => ok_tl hS) (fun p l e R s mi args below meth c A D cI cY ad cells slots Qs H locs ls hC hL hS hm hP hV hl k => lv_tableIn hC.1.1 hC.1.2.1 hd (by rw [i32_of (ok_hd hS)]; omega) (by rw [i32_of (ok_hd hS)]; omega) (by rw [i32_of (ok_hd hS)]; exact ho) ht k) kk
theorem x_tout {dflt lo hi : Int} {offs : Array Int} {len : Nat} (hd : decode cc pc = .ok (.tableswitch dflt lo hi offs, len)) (h : a < lo ∨ hi < a) (ht : (pc : Int) + dflt = (tgt : Int)) (kk : Ex E cc nL own d Q tgt L S m) : Ex E cc nL own d Q pc L (zi a :: S) m :=
  ex_st (fun _ hS _ => ok_tl hS) (fun p l e R s mi args below meth c A D cI cY ad cells slots Qs H locs ls hC hL hS hm hP hV hl k => lv_tableOut hC.1.1 hC.1.2.1 hd (by rw [i32_of (ok_hd hS)]; exact h) ht k) kk
theorem x_look {dflt : Int} {ps : Array (Int × Int)} {len : Nat} (hd : decode cc pc = .ok (.lookupswitch dflt ps, len)) (hp : (ps.toList.zip (ps.toList.drop 1)).all (fun (a, next) => a.1 < next.1) = true) (ho : Op.lookupswitch.offset ps.toList dflt a = off) (ht : (pc : Int) + off = (tgt : Int)) (kk : Ex E cc nL own d Q tgt L S m) : Ex E cc nL own d Q pc L (zi a :: S) m :=
  ex_st (fun _ hS _ => ok_tl hS) (fun p l e R s mi args below meth c A D cI cY ad cells slots Qs H locs ls hC hL hS hm hP hV hl k => lv_lookup hC.1.1 hC.1.2.1 hd hp (by rw [i32_of (ok_hd hS)]; exact ho) ht k) kk
end EXA
section EXL
variable {E : zz_E} {cc : ByteArray} {nL : Nat} {own : String} {d : Nat} {Q : Option zz_V → zz_M → Prop} {pc : Nat} {L : List (Option zz_V)} {S : List zz_V} {m : zz_M} {z v n : Int} {k : Nat}
theorem x_iload0 (hd : decode cc pc = .ok (.iload_n 0, 1)) (kk : Ex E cc nL own d Q (pc + 1) (some (zi z) :: L) (zi z :: S) m) : Ex E cc nL own d Q pc (some (zi z) :: L) S m := x_iloadG (i := 0) (Or.inr ⟨0, hd, rfl, rfl⟩) rfl kk
theorem x_istore0 {o : Option zz_V} (hd : decode cc pc = .ok (.istore_n 0, 1)) (hi : 0 < nL) (hn : njl (o :: L) = true) (kk : Ex E cc nL own d Q (pc + 1) (some (zi z) :: L) S m) : Ex E cc nL own d Q pc (o :: L) (zi z :: S) m := x_storeG (i := 0) hi hn (Or.inl ⟨z, rfl, Or.inr ⟨0, hd, rfl, rfl⟩⟩) kk
theorem x_aload0 (hd : decode cc pc = .ok (.aload_n 0, 1)) (kk : Ex E cc nL own d Q (pc + 1) (some (zr k) :: L) (zr k :: S) m) : Ex E cc nL own d Q pc (some (zr k) :: L) S m := x_aloadG (i := 0) (Or.inr ⟨0, hd, rfl, rfl⟩) rfl kk
theorem x_astore0 {o : Option zz_V} (hd : decode cc pc = .ok (.astore_n 0, 1)) (hi : 0 < nL) (hn : njl (o :: L) = true) (kk : Ex E cc nL own d Q (pc + 1) (some (zr k) :: L) S m) : Ex E cc nL own d Q pc (o :: L) (zr k :: S) m := x_storeG (i := 0) hi hn (Or.inr ⟨k, rfl, Or.inr ⟨0, hd, rfl, rfl⟩⟩) kk
theorem x_iinc0 (hd : decode cc pc = .ok (.iinc 0 n, 3)) (hi : 0 < nL) (hn : njl (some (zi z) :: L) = true) (hv : nrm (z + n) = v) (kk : Ex E cc nL own d Q (pc + 3) (some (zi v) :: L) S m) : Ex E cc nL own d Q pc (some (zi z) :: L) S m := x_iincG (i := 0) hi hn hd rfl hv kk
theorem x_iload1 {l0 : Option zz_V} (hd : decode cc pc = .ok (.iload_n 1, 1)) (kk : Ex E cc nL own d Q (pc + 1) (l0 :: some (zi z) :: L) (zi z :: S) m) : Ex E cc nL own d Q pc (l0 :: some (zi z) :: L) S m := x_iloadG (i := 1) (Or.inr ⟨1, hd, rfl, rfl⟩) rfl kk
theorem x_istore1 {l0 : Option zz_V} {o : Option zz_V} (hd : decode cc pc = .ok (.istore_n 1, 1)) (hi : 1 < nL) (hn : njl (l0 :: o :: L) = true) (kk : Ex E cc nL own d Q (pc + 1) (l0 :: some (zi z) :: L) S m) : Ex E cc nL own d Q pc (l0 :: o :: L) (zi z :: S) m := x_storeG (i := 1) hi hn (Or.inl ⟨z, rfl, Or.inr ⟨1, hd, rfl, rfl⟩⟩) kk
theorem x_aload1 {l0 : Option zz_V} (hd : decode cc pc = .ok (.aload_n 1, 1)) (kk : Ex E cc nL own d Q (pc + 1) (l0 :: some (zr k) :: L) (zr k :: S) m) : Ex E cc nL own d Q pc (l0 :: some (zr k) :: L) S m := x_aloadG (i := 1) (Or.inr ⟨1, hd, rfl, rfl⟩) rfl kk
theorem x_astore1 {l0 : Option zz_V} {o : Option zz_V} (hd : decode cc pc = .ok (.astore_n 1, 1)) (hi : 1 < nL) (hn : njl (l0 :: o :: L) = true) (kk : Ex E cc nL own d Q (pc + 1) (l0 :: some (zr k) :: L) S m) : Ex E cc nL own d Q pc (l0 :: o :: L) (zr k :: S) m := x_storeG (i := 1) hi hn (Or.inr ⟨k, rfl, Or.inr ⟨1, hd, rfl, rfl⟩⟩) kk
theorem x_iinc1 {l0 : Option zz_V} (hd : decode cc pc = .ok (.iinc 1 n, 3)) (hi : 1 < nL) (hn : njl (l0 :: some (zi z) :: L) = true) (hv : nrm (z + n) = v) (kk : Ex E cc nL own d Q (pc + 3) (l0 :: some (zi v) :: L) S m) : Ex E cc nL own d Q pc (l0 :: some (zi z) :: L) S m := x_iincG (i := 1) hi hn hd rfl hv kk
theorem x_iload2 {l0 l1 : Option zz_V} (hd : decode cc pc = .ok (.iload_n 2, 1)) (kk : Ex E cc nL own d Q (pc + 1) (l0 :: l1 :: some (zi z) :: L) (zi z :: S) m) : Ex E cc nL own d Q pc (l0 :: l1 :: some (zi z) :: L) S m := x_iloadG (i := 2) (Or.inr ⟨2, hd, rfl, rfl⟩) rfl kk
theorem x_istore2 {l0 l1 : Option zz_V} {o : Option zz_V} (hd : decode cc pc = .ok (.istore_n 2, 1)) (hi : 2 < nL) (hn : njl (l0 :: l1 :: o :: L) = true) (kk : Ex E cc nL own d Q (pc + 1) (l0 :: l1 :: some (zi z) :: L) S m) : Ex E cc nL own d Q pc (l0 :: l1 :: o :: L) (zi z :: S) m := x_storeG (i := 2) hi hn (Or.inl ⟨z, rfl, Or.inr ⟨2, hd, rfl, rfl⟩⟩) kk
theorem x_aload2 {l0 l1 : Option zz_V} (hd : decode cc pc = .ok (.aload_n 2, 1)) (kk : Ex E cc nL own d Q (pc + 1) (l0 :: l1 :: some (zr k) :: L) (zr k :: S) m) : Ex E cc nL own d Q pc (l0 :: l1 :: some (zr k) :: L) S m := x_aloadG (i := 2) (Or.inr ⟨2, hd, rfl, rfl⟩) rfl kk
theorem x_astore2 {l0 l1 : Option zz_V} {o : Option zz_V} (hd : decode cc pc = .ok (.astore_n 2, 1)) (hi : 2 < nL) (hn : njl (l0 :: l1 :: o :: L) = true) (kk : Ex E cc nL own d Q (pc + 1) (l0 :: l1 :: some (zr k) :: L) S m) : Ex E cc nL own d Q pc (l0 :: l1 :: o :: L) (zr k :: S) m := x_storeG (i := 2) hi hn (Or.inr ⟨k, rfl, Or.inr ⟨2, hd, rfl, rfl⟩⟩) kk
theorem x_iinc2 {l0 l1 : Option zz_V} (hd : decode cc pc = .ok (.iinc 2 n, 3)) (hi : 2 < nL) (hn : njl (l0 :: l1 :: some (zi z) :: L) = true) (hv : nrm (z + n) = v) (kk : Ex E cc nL own d Q (pc + 3) (l0 :: l1 :: some (zi v) :: L) S m) : Ex E cc nL own d Q pc (l0 :: l1 :: some (zi z) :: L) S m := x_iincG (i := 2) hi hn hd rfl hv kk
theorem x_iload3 {l0 l1 l2 : Option zz_V} (hd : decode cc pc = .ok (.iload_n 3, 1)) (kk : Ex E cc nL own d Q (pc + 1) (l0 :: l1 :: l2 :: some (zi z) :: L) (zi z :: S) m) : Ex E cc nL own d Q pc (l0 :: l1 :: l2 :: some (zi z) :: L) S m := x_iloadG (i := 3) (Or.inr ⟨3, hd, rfl, rfl⟩) rfl kk
theorem x_istore3 {l0 l1 l2 : Option zz_V} {o : Option zz_V} (hd : decode cc pc = .ok (.istore_n 3, 1)) (hi : 3 < nL) (hn : njl (l0 :: l1 :: l2 :: o :: L) = true) (kk : Ex E cc nL own d Q (pc + 1) (l0 :: l1 :: l2 :: some (zi z) :: L) S m) : Ex E cc nL own d Q pc (l0 :: l1 :: l2 :: o :: L) (zi z :: S) m := x_storeG (i := 3) hi hn (Or.inl ⟨z, rfl, Or.inr ⟨3, hd, rfl, rfl⟩⟩) kk
theorem x_aload3 {l0 l1 l2 : Option zz_V} (hd : decode cc pc = .ok (.aload_n 3, 1)) (kk : Ex E cc nL own d Q (pc + 1) (l0 :: l1 :: l2 :: some (zr k) :: L) (zr k :: S) m) : Ex E cc nL own d Q pc (l0 :: l1 :: l2 :: some (zr k) :: L) S m := x_aloadG (i := 3) (Or.inr ⟨3, hd, rfl, rfl⟩) rfl kk
theorem x_astore3 {l0 l1 l2 : Option zz_V} {o : Option zz_V} (hd : decode cc pc = .ok (.astore_n 3, 1)) (hi : 3 < nL) (hn : njl (l0 :: l1 :: l2 :: o :: L) = true) (kk : Ex E cc nL own d Q (pc + 1) (l0 :: l1 :: l2 :: some (zr k) :: L) S m) : Ex E cc nL own d Q pc (l0 :: l1 :: l2 :: o :: L) (zr k :: S) m := x_storeG (i := 3) hi hn (Or.inr ⟨k, rfl, Or.inr ⟨3, hd, rfl, rfl⟩⟩) kk
theorem x_iinc3 {l0 l1 l2 : Option zz_V} (hd : decode cc pc = .ok (.iinc 3 n, 3)) (hi : 3 < nL) (hn : njl (l0 :: l1 :: l2 :: some (zi z) :: L) = true) (hv : nrm (z + n) = v) (kk : Ex E cc nL own d Q (pc + 3) (l0 :: l1 :: l2 :: some (zi v) :: L) S m) : Ex E cc nL own d Q pc (l0 :: l1 :: l2 :: some (zi z) :: L) S m := x_iincG (i := 3) hi hn hd rfl hv kk
theorem x_iload4 {l0 l1 l2 l3 : Option zz_V} (hd : decode cc pc = .ok (.iload 4, 2)) (kk : Ex E cc nL own d Q (pc + 2) (l0 :: l1 :: l2 :: l3 :: some (zi z) :: L) (zi z :: S) m) : Ex E cc nL own d Q pc (l0 :: l1 :: l2 :: l3 :: some (zi z) :: L) S m := x_iloadG (i := 4) (Or.inl ⟨hd, rfl⟩) rfl kk
theorem x_istore4 {l0 l1 l2 l3 : Option zz_V} {o : Option zz_V} (hd : decode cc pc = .ok (.istore 4, 2)) (hi : 4 < nL) (hn : njl (l0 :: l1 :: l2 :: l3 :: o :: L) = true) (kk : Ex E cc nL own d Q (pc + 2) (l0 :: l1 :: l2 :: l3 :: some (zi z) :: L) S m) : Ex E cc nL own d Q pc (l0 :: l1 :: l2 :: l3 :: o :: L) (zi z :: S) m := x_storeG (i := 4) hi hn (Or.inl ⟨z, rfl, Or.inl ⟨hd, rfl⟩⟩) kk
theorem x_aload4 {l0 l1 l2 l3 : Option zz_V} (hd : decode cc pc = .ok (.aload 4, 2)) (kk : Ex E cc nL own d Q (pc + 2) (l0 :: l1 :: l2 :: l3 :: some (zr k) :: L) (zr k :: S) m) : Ex E cc nL own d Q pc (l0 :: l1 :: l2 :: l3 :: some (zr k) :: L) S m := x_aloadG (i := 4) (Or.inl ⟨hd, rfl⟩) rfl kk
theorem x_astore4 {l0 l1 l2 l3 : Option zz_V} {o : Option zz_V} (hd : decode cc pc = .ok (.astore 4, 2)) (hi : 4 < nL) (hn : njl (l0 :: l1 :: l2 :: l3 :: o :: L) = true) (kk : Ex E cc nL own d Q (pc + 2) (l0 :: l1 :: l2 :: l3 :: some (zr k) :: L) S m) : Ex E cc nL own d Q pc (l0 :: l1 :: l2 :: l3 :: o :: L) (zr k :: S) m := x_storeG (i := 4) hi hn (Or.inr ⟨k, rfl, Or.inl ⟨hd, rfl⟩⟩) kk
theorem x_iinc4 {l0 l1 l2 l3 : Option zz_V} (hd : decode cc pc = .ok (.iinc 4 n, 3)) (hi : 4 < nL) (hn : njl (l0 :: l1 :: l2 :: l3 :: some (zi z) :: L) = true) (hv : nrm (z + n) = v) (kk : Ex E cc nL own d Q (pc + 3) (l0 :: l1 :: l2 :: l3 :: some (zi v) :: L) S m) : Ex E cc nL own d Q pc (l0 :: l1 :: l2 :: l3 :: some (zi z) :: L) S m := x_iincG (i := 4) hi hn hd rfl hv kk
theorem x_iload5 {l0 l1 l2 l3 l4 : Option zz_V} (hd : decode cc pc = .ok (.iload 5, 2)) (kk : Ex E cc nL own d Q (pc + 2) (l0 :: l1 :: l2 :: l3 :: l4 :: some (zi z) :: L) (zi z :: S) m) : Ex E cc nL own d Q pc (l0 :: l1 :: l2 :: l3 :: l4 :: some (zi z) :: L) S m := x_iloadG (i := 5) (Or.inl ⟨hd, rfl⟩) rfl kk
theorem x_istore5 {l0 l1 l2 l3 l4 : Option zz_V} {o : Option zz_V} (hd : decode cc pc = .ok (.istore 5, 2)) (hi : 5 < nL) (hn : njl (l0 :: l1 :: l2 :: l3 :: l4 :: o :: L) = true) (kk : Ex E cc nL own d Q (pc + 2) (l0 :: l1 :: l2 :: l3 :: l4 :: some (zi z) :: L) S m) : Ex E cc nL own d Q pc (l0 :: l1 :: l2 :: l3 :: l4 :: o :: L) (zi z :: S) m := x_storeG (i := 5) hi hn (Or.inl ⟨z, rfl, Or.inl ⟨hd, rfl⟩⟩) kk
theorem x_aload5 {l0 l1 l2 l3 l4 : Option zz_V} (hd : decode cc pc = .ok (.aload 5, 2)) (kk : Ex E cc nL own d Q (pc + 2) (l0 :: l1 :: l2 :: l3 :: l4 :: some (zr k) :: L) (zr k :: S) m) : Ex E cc nL own d Q pc (l0 :: l1 :: l2 :: l3 :: l4 :: some (zr k) :: L) S m := x_aloadG (i := 5) (Or.inl ⟨hd, rfl⟩) rfl kk
theorem x_astore5 {l0 l1 l2 l3 l4 : Option zz_V} {o : Option zz_V} (hd : decode cc pc = .ok (.astore 5, 2)) (hi : 5 < nL) (hn : njl (l0 :: l1 :: l2 :: l3 :: l4 :: o :: L) = true) (kk : Ex E cc nL own d Q (pc + 2) (l0 :: l1 :: l2 :: l3 :: l4 :: some (zr k) :: L) S m) : Ex E cc nL own d Q pc (l0 :: l1 :: l2 :: l3 :: l4 :: o :: L) (zr k :: S) m := x_storeG (i := 5) hi hn (Or.inr ⟨k, rfl, Or.inl ⟨hd, rfl⟩⟩) kk
theorem x_iinc5 {l0 l1 l2 l3 l4 : Option zz_V} (hd : decode cc pc = .ok (.iinc 5 n, 3)) (hi : 5 < nL) (hn : njl (l0 :: l1 :: l2 :: l3 :: l4 :: some (zi z) :: L) = true) (hv : nrm (z + n) = v) (kk : Ex E cc nL own d Q (pc + 3) (l0 :: l1 :: l2 :: l3 :: l4 :: some (zi v) :: L) S m) : Ex E cc nL own d Q pc (l0 :: l1 :: l2 :: l3 :: l4 :: some (zi z) :: L) S m := x_iincG (i := 5) hi hn hd rfl hv kk
theorem x_iload6 {l0 l1 l2 l3 l4 l5 : Option zz_V} (hd : decode cc pc = .ok (.iload 6, 2)) (kk : Ex E cc nL own d Q (pc + 2) (l0 :: l1 :: l2 :: l3 :: l4 :: l5 :: some (zi z) :: L) (zi z :: S) m) : Ex E cc nL own d Q pc (l0 :: l1 :: l2 :: l3 :: l4 :: l5 :: some (zi z) :: L) S m := x_iloadG (i := 6) (Or.inl ⟨hd, rfl⟩) rfl kk
theorem x_istore6 {l0 l1 l2 l3 l4 l5 : Option zz_V} {o : Option zz_V} (hd : decode cc pc = .ok (.istore 6, 2)) (hi : 6 < nL) (hn : njl (l0 :: l1 :: l2 :: l3 :: l4 :: l5 :: o :: L) = true) (kk : Ex E cc nL own d Q (pc + 2) (l0 :: l1 :: l2 :: l3 :: l4 :: l5 :: some (zi z) :: L) S m) : Ex E cc nL own d Q pc (l0 :: l1 :: l2 :: l3 :: l4 :: l5 :: o :: L) (zi z :: S) m := x_storeG (i := 6) hi hn (Or.inl ⟨z, rfl, Or.inl ⟨hd, rfl⟩⟩) kk
theorem x_aload6 {l0 l1 l2 l3 l4 l5 : Option zz_V} (hd : decode cc pc = .ok (.aload 6, 2)) (kk : Ex E cc nL own d Q (pc + 2) (l0 :: l1 :: l2 :: l3 :: l4 :: l5 :: some (zr k) :: L) (zr k :: S) m) : Ex E cc nL own d Q pc (l0 :: l1 :: l2 :: l3 :: l4 :: l5 :: some (zr k) :: L) S m := x_aloadG (i := 6) (Or.inl ⟨hd, rfl⟩) rfl kk
theorem x_astore6 {l0 l1 l2 l3 l4 l5 : Option zz_V} {o : Option zz_V} (hd : decode cc pc = .ok (.astore 6, 2)) (hi : 6 < nL) (hn : njl (l0 :: l1 :: l2 :: l3 :: l4 :: l5 :: o :: L) = true) (kk : Ex E cc nL own d Q (pc + 2) (l0 :: l1 :: l2 :: l3 :: l4 :: l5 :: some (zr k) :: L) S m) : Ex E cc nL own d Q pc (l0 :: l1 :: l2 :: l3 :: l4 :: l5 :: o :: L) (zr k :: S) m := x_storeG (i := 6) hi hn (Or.inr ⟨k, rfl, Or.inl ⟨hd, rfl⟩⟩) kk
theorem x_iinc6 {l0 l1 l2 l3 l4 l5 : Option zz_V} (hd : decode cc pc = .ok (.iinc 6 n, 3)) (hi : 6 < nL) (hn : njl (l0 :: l1 :: l2 :: l3 :: l4 :: l5 :: some (zi z) :: L) = true) (hv : nrm (z + n) = v) (kk : Ex E cc nL own d Q (pc + 3) (l0 :: l1 :: l2 :: l3 :: l4 :: l5 :: some (zi v) :: L) S m) : Ex E cc nL own d Q pc (l0 :: l1 :: l2 :: l3 :: l4 :: l5 :: some (zi z) :: L) S m := x_iincG (i := 6) hi hn hd rfl hv kk
theorem x_iload7 {l0 l1 l2 l3 l4 l5 l6 : Option zz_V} (hd : decode cc pc = .ok (.iload 7, 2)) (kk : Ex E cc nL own d Q (pc + 2) (l0 :: l1 :: l2 :: l3 :: l4 :: l5 :: l6 :: some (zi z) :: L) (zi z :: S) m) : Ex E cc nL own d Q pc (l0 :: l1 :: l2 :: l3 :: l4 :: l5 :: l6 :: some (zi z) :: L) S m := x_iloadG (i := 7) (Or.inl ⟨hd, rfl⟩) rfl kk
theorem x_istore7 {l0 l1 l2 l3 l4 l5 l6 : Option zz_V} {o : Option zz_V} (hd : decode cc pc = .ok (.istore 7, 2)) (hi : 7 < nL) (hn : njl (l0 :: l1 :: l2 :: l3 :: l4 :: l5 :: l6 :: o :: L) = true) (kk : Ex E cc nL own d Q (pc + 2) (l0 :: l1 :: l2 :: l3 :: l4 :: l5 :: l6 :: some (zi z) :: L) S m) : Ex E cc nL own d Q pc (l0 :: l1 :: l2 :: l3 :: l4 :: l5 :: l6 :: o :: L) (zi z :: S) m := x_storeG (i := 7) hi hn (Or.inl ⟨z, rfl, Or.inl ⟨hd, rfl⟩⟩) kk
theorem x_aload7 {l0 l1 l2 l3 l4 l5 l6 : Option zz_V} (hd : decode cc pc = .ok (.aload 7, 2)) (kk : Ex E cc nL own d Q (pc + 2) (l0 :: l1 :: l2 :: l3 :: l4 :: l5 :: l6 :: some (zr k) :: L) (zr k :: S) m) : Ex E cc nL own d Q pc (l0 :: l1 :: l2 :: l3 :: l4 :: l5 :: l6 :: some (zr k) :: L) S m := x_aloadG (i := 7) (Or.inl ⟨hd, rfl⟩) rfl kk
theorem x_astore7 {l0 l1 l2 l3 l4 l5 l6 : Option zz_V} {o : Option zz_V} (hd : decode cc pc = .ok (.astore 7, 2)) (hi : 7 < nL) (hn : njl (l0 :: l1 :: l2 :: l3 :: l4 :: l5 :: l6 :: o :: L) = true) (kk : Ex E cc nL own d Q (pc + 2) (l0 :: l1 :: l2 :: l3 :: l4 :: l5 :: l6 :: some (zr k) :: L) S m) : Ex E cc nL own d Q pc (l0 :: l1 :: l2 :: l3 :: l4 :: l5 :: l6 :: o :: L) (zr k :: S) m := x_storeG (i := 7) hi hn (Or.inr ⟨k, rfl, Or.inl ⟨hd, rfl⟩⟩) kk
theorem x_iinc7 {l0 l1 l2 l3 l4 l5 l6 : Option zz_V} (hd : decode cc pc = .ok (.iinc 7 n, 3)) (hi : 7 < nL) (hn : njl (l0 :: l1 :: l2 :: l3 :: l4 :: l5 :: l6 :: some (zi z) :: L) = true) (hv : nrm (z + n) = v) (kk : Ex E cc nL own d Q (pc + 3) (l0 :: l1 :: l2 :: l3 :: l4 :: l5 :: l6 :: some (zi v) :: L) S m) : Ex E cc nL own d Q pc (l0 :: l1 :: l2 :: l3 :: l4 :: l5 :: l6 :: some (zi z) :: L) S m := x_iincG (i := 7) hi hn hd rfl hv kk
theorem x_iload8 {l0 l1 l2 l3 l4 l5 l6 l7 : Option zz_V} (hd : decode cc pc = .ok (.iload 8, 2)) (kk : Ex E cc nL own d Q (pc + 2) (l0 :: l1 :: l2 :: l3 :: l4 :: l5 :: l6 :: l7 :: some (zi z) :: L) (zi z :: S) m) : Ex E cc nL own d Q pc (l0 :: l1 :: l2 :: l3 :: l4 :: l5 :: l6 :: l7 :: some (zi z) :: L) S m := x_iloadG (i := 8) (Or.inl ⟨hd, rfl⟩) rfl kk
theorem x_istore8 {l0 l1 l2 l3 l4 l5 l6 l7 : Option zz_V} {o : Option zz_V} (hd : decode cc pc = .ok (.istore 8, 2)) (hi : 8 < nL) (hn : njl (l0 :: l1 :: l2 :: l3 :: l4 :: l5 :: l6 :: l7 :: o :: L) = true) (kk : Ex E cc nL own d Q (pc + 2) (l0 :: l1 :: l2 :: l3 :: l4 :: l5 :: l6 :: l7 :: some (zi z) :: L) S m) : Ex E cc nL own d Q pc (l0 :: l1 :: l2 :: l3 :: l4 :: l5 :: l6 :: l7 :: o :: L) (zi z :: S) m := x_storeG (i := 8) hi hn (Or.inl ⟨z, rfl, Or.inl ⟨hd, rfl⟩⟩) kk
theorem x_aload8 {l0 l1 l2 l3 l4 l5 l6 l7 : Option zz_V} (hd : decode cc pc = .ok (.aload 8, 2)) (kk : Ex E cc nL own d Q (pc + 2) (l0 :: l1 :: l2 :: l3 :: l4 :: l5 :: l6 :: l7 :: some (zr k) :: L) (zr k :: S) m) : Ex E cc nL own d Q pc (l0 :: l1 :: l2 :: l3 :: l4 :: l5 :: l6 :: l7 :: some (zr k) :: L) S m := x_aloadG (i := 8) (Or.inl ⟨hd, rfl⟩) rfl kk
theorem x_astore8 {l0 l1 l2 l3 l4 l5 l6 l7 : Option zz_V} {o : Option zz_V} (hd : decode cc pc = .ok (.astore 8, 2)) (hi : 8 < nL) (hn : njl (l0 :: l1 :: l2 :: l3 :: l4 :: l5 :: l6 :: l7 :: o :: L) = true) (kk : Ex E cc nL own d Q (pc + 2) (l0 :: l1 :: l2 :: l3 :: l4 :: l5 :: l6 :: l7 :: some (zr k) :: L) S m) : Ex E cc nL own d Q pc (l0 :: l1 :: l2 :: l3 :: l4 :: l5 :: l6 :: l7 :: o :: L) (zr k :: S) m := x_storeG (i := 8) hi hn (Or.inr ⟨k, rfl, Or.inl ⟨hd, rfl⟩⟩) kk
theorem x_iinc8 {l0 l1 l2 l3 l4 l5 l6 l7 : Option zz_V} (hd : decode cc pc = .ok (.iinc 8 n, 3)) (hi : 8 < nL) (hn : njl (l0 :: l1 :: l2 :: l3 :: l4 :: l5 :: l6 :: l7 :: some (zi z) :: L) = true) (hv : nrm (z + n) = v) (kk : Ex E cc nL own d Q (pc + 3) (l0 :: l1 :: l2 :: l3 :: l4 :: l5 :: l6 :: l7 :: some (zi v) :: L) S m) : Ex E cc nL own d Q pc (l0 :: l1 :: l2 :: l3 :: l4 :: l5 :: l6 :: l7 :: some (zi z) :: L) S m := x_iincG (i := 8) hi hn hd rfl hv kk
theorem x_iload9 {l0 l1 l2 l3 l4 l5 l6 l7 l8 : Option zz_V} (hd : decode cc pc = .ok (.iload 9, 2)) (kk : Ex E cc nL own d Q (pc + 2) (l0 :: l1 :: l2 :: l3 :: l4 :: l5 :: l6 :: l7 :: l8 :: some (zi z) :: L) (zi z :: S) m) : Ex E cc nL own d Q pc (l0 :: l1 :: l2 :: l3 :: l4 :: l5 :: l6 :: l7 :: l8 :: some (zi z) :: L) S m := x_iloadG (i := 9) (Or.inl ⟨hd, rfl⟩) rfl kk
theorem x_istore9 {l0 l1 l2 l3 l4 l5 l6 l7 l8 : Option zz_V} {o : Option zz_V} (hd : decode cc pc = .ok (.istore 9, 2)) (hi : 9 < nL) (hn : njl (l0 :: l1 :: l2 :: l3 :: l4 :: l5 :: l6 :: l7 :: l8 :: o :: L) = true) (kk : Ex E cc nL own d Q (pc + 2) (l0 :: l1 :: l2 :: l3 :: l4 :: l5 :: l6 :: l7 :: l8 :: some (zi z) :: L) S m) : Ex E cc nL own d Q pc (l0 :: l1 :: l2 :: l3 :: l4 :: l5 :: l6 :: l7 :: l8 :: o :: L) (zi z :: S) m := x_storeG (i := 9) hi hn (Or.inl ⟨z, rfl, Or.inl ⟨hd, rfl⟩⟩) kk
theorem x_aload9 {l0 l1 l2 l3 l4 l5 l6 l7 l8 : Option zz_V} (hd : decode cc pc = .ok (.aload 9, 2)) (kk : Ex E cc nL own d Q (pc + 2) (l0 :: l1 :: l2 :: l3 :: l4 :: l5 :: l6 :: l7 :: l8 :: some (zr k) :: L) (zr k :: S) m) : Ex E cc nL own d Q pc (l0 :: l1 :: l2 :: l3 :: l4 :: l5 :: l6 :: l7 :: l8 :: some (zr k) :: L) S m := x_aloadG (i := 9) (Or.inl ⟨hd, rfl⟩) rfl kk
theorem x_astore9 {l0 l1 l2 l3 l4 l5 l6 l7 l8 : Option zz_V} {o : Option zz_V} (hd : decode cc pc = .ok (.astore 9, 2)) (hi : 9 < nL) (hn : njl (l0 :: l1 :: l2 :: l3 :: l4 :: l5 :: l6 :: l7 :: l8 :: o :: L) = true) (kk : Ex E cc nL own d Q (pc + 2) (l0 :: l1 :: l2 :: l3 :: l4 :: l5 :: l6 :: l7 :: l8 :: some (zr k) :: L) S m) : Ex E cc nL own d Q pc (l0 :: l1 :: l2 :: l3 :: l4 :: l5 :: l6 :: l7 :: l8 :: o :: L) (zr k :: S) m := x_storeG (i := 9) hi hn (Or.inr ⟨k, rfl, Or.inl ⟨hd, rfl⟩⟩) kk
theorem x_iinc9 {l0 l1 l2 l3 l4 l5 l6 l7 l8 : Option zz_V} (hd : decode cc pc = .ok (.iinc 9 n, 3)) (hi : 9 < nL) (hn : njl (l0 :: l1 :: l2 :: l3 :: l4 :: l5 :: l6 :: l7 :: l8 :: some (zi z) :: L) = true) (hv : nrm (z + n) = v) (kk : Ex E cc nL own d Q (pc + 3) (l0 :: l1 :: l2 :: l3 :: l4 :: l5 :: l6 :: l7 :: l8 :: some (zi v) :: L) S m) : Ex E cc nL own d Q pc (l0 :: l1 :: l2 :: l3 :: l4 :: l5 :: l6 :: l7 :: l8 :: some (zi z) :: L) S m := x_iincG (i := 9) hi hn hd rfl hv kk
theorem x_lload0 (hd : decode cc pc = .ok (.lload_n 0, 1)) (kk : Ex E cc nL own d Q (pc + 1) (some (zj z) :: L) (zj z :: S) m) : Ex E cc nL own d Q pc (some (zj z) :: L) S m := x_lloadG (i := 0) (Or.inr ⟨0, hd, rfl, rfl⟩) rfl kk
theorem x_lload2 {l0 l1 : Option zz_V} (hd : decode cc pc = .ok (.lload_n 2, 1)) (kk : Ex E cc nL own d Q (pc + 1) (l0 :: l1 :: some (zj z) :: L) (zj z :: S) m) : Ex E cc nL own d Q pc (l0 :: l1 :: some (zj z) :: L) S m := x_lloadG (i := 2) (Or.inr ⟨2, hd, rfl, rfl⟩) rfl kk
theorem x_lload4 {l0 l1 l2 l3 : Option zz_V} (hd : decode cc pc = .ok (.lload 4, 2)) (kk : Ex E cc nL own d Q (pc + 2) (l0 :: l1 :: l2 :: l3 :: some (zj z) :: L) (zj z :: S) m) : Ex E cc nL own d Q pc (l0 :: l1 :: l2 :: l3 :: some (zj z) :: L) S m := x_lloadG (i := 4) (Or.inl ⟨hd, rfl⟩) rfl kk
end EXL
end
section
/-! ===== memory and calls ===== -/
section EXM
variable {E : zz_E} {cc : ByteArray} {nL : Nat} {own : String} {d : Nat} {Q : Option zz_V → zz_M → Prop} {pc tgt : Nat} {L : List (Option zz_V)} {S : List zz_V} {m : zz_M} {z v : Int} {o k n idx ci N : Nat}
variable {ad : Nat → Nat} {cI cY : ClassId}
theorem ce_arr (h : kd o = (0, n)) : ce ad cI cY m o = .inl (cI, (n, .inl fun j => Int32.ofInt (m o j))) := by
  unfold ce
  rw [h]
theorem ce_ref (h : kd o = (1, n)) : ce ad cI cY m o = .inl (cY, (n, .inr (.inr (.inr (.inr fun j => some (ad (24 + 8 * j))))))) := by
  unfold ce
  rw [h]
theorem ce_obj (h : kd o = (ci + 2, N)) : ce ad cI cY m o = .inr (ci, (List.range N).map (fv ad m o ci)) := by
  unfold ce
  rw [h]
theorem wl_arr (h : kd o = (0, n)) : (wl ad cI cY m)[o]? = some (ad o, .inl (cI, (n, .inl fun j => Int32.ofInt (m o j)))) := by
  rw [wl_get (kd_lt h (by decide)), ce_arr h]
theorem wl_ref (h : kd o = (1, n)) : (wl ad cI cY m)[o]? = some (ad o, .inl (cY, (n, .inr (.inr (.inr (.inr fun j => some (ad (24 + 8 * j)))))))) := by
  rw [wl_get (kd_lt h (by decide)), ce_ref h]
theorem wl_obj (h : kd o = (ci + 2, N)) (hci : ci < 5) : (wl ad cI cY m)[o]? = some (ad o, .inr (ci, (List.range N).map (fv ad m o ci))) := by
  rw [wl_get (kd_lt h (by omega)), ce_obj h]
def zz_fd (own : String) (idx ci k N : Nat) : Prop := ∃ (C : String) (T : u_T), zz_cl[ci]? = some (C, T, N) ∧ k < N ∧ (Cond.fieldLink own idx C (T k).2.1 (T k).2.2.1 ∈ zz_T ∨ ∃ host, Cond.fieldLinkNest own idx C (T k).2.1 (T k).2.2.1 host ∈ zz_T)
/-- what the tables say of each class's fields -/
def zz_fits (ci : Nat) (T : u_T) (ty : Nat → FieldType) (k : Nat) : Bool := (ft ci k == 2) || ((T k).2.2.2 == false && ((ft ci k == 0 && ty k == .int) || (ft ci k == 1 && ty k == .boolean) || (ft ci k == 3 && ty k == .array .int)))
theorem zz_cls {ci N : Nat} {C : String} {T : u_T} (h : zz_cl[ci]? = some (C, T, N)) : ci < 5 ∧ (∀ w ∈ u_ws C T N, w ∈ zz_T) ∧ (∃ ty : Nat → FieldType, (∀ k, k < N → parseFieldDescriptor (T k).2.2.1 = some (ty k)) ∧ ∀ k, k < N → zz_fits ci T ty k = true) ∧
    (∀ a, a < N → ∀ b, b < N → a ≠ b → (T a).2.1 ≠ (T b).2.1) ∧ ∀ k, k < N → (T k).1 = C := by
  match ci, h with
  | 0, h => cases h; exact ⟨by decide, by decide +kernel, ⟨tyX0, tyX0_ok, by decide +kernel⟩, nmX0, by decide +kernel⟩
  | 1, h => cases h; exact ⟨by decide, by decide +kernel, ⟨tyX1, tyX1_ok, by decide +kernel⟩, nmX1, by decide +kernel⟩
  | 2, h => cases h; exact ⟨by decide, by decide +kernel, ⟨tyX2, tyX2_ok, by decide +kernel⟩, nmX2, by decide +kernel⟩
  | 3, h => cases h; exact ⟨by decide, by decide +kernel, ⟨tyX3, tyX3_ok, by decide +kernel⟩, nmX3, by decide +kernel⟩
  | 4, h => cases h; exact ⟨by decide, by decide +kernel, ⟨tyX4, tyX4_ok, by decide +kernel⟩, nmX4, by decide +kernel⟩
  | k + 5, h => simp [zz_cl] at h
/-- a field is read -/
theorem x_getG {w : zz_V} (hd : decode cc pc = .ok (.getfield idx, 3)) (hf : zz_fd own idx ci k N) (hk : kd o = (ci + 2, N)) (hw : okm m → okv w) (he : ∀ ad, fv ad m o ci k = gv ad w) (kk : Ex E cc nL own d Q (pc + 3) L (w :: S) m) : Ex E cc nL own d Q pc L (zr o :: S) m := by
  refine ex_st (fun _ hS hm => ok_cons (hw hm) (ok_tl hS)) (fun p l e R s mi args below meth c A D cI cY ad cells slots Qs H locs ls hC hL hS hm hP hV hl kq => ?_) kk
  obtain ⟨C, T, hcl, hkN, hlink⟩ := hf
  obtain ⟨hci, hin, -, -, hdec⟩ := zz_cls hcl
  have he0 := wl_obj (ad := ad) (cI := cI) (cY := cY) (m := m) hk hci
  have hv : ((List.range N).map (fv ad m o ci))[k]? = some (gv ad w) := by
    rw [List.getElem?_map, List.getElem?_range hkN, ← he ad]
    rfl
  have hs : ∀ x, s.fieldFound? (T k).1 (T k).2.1 (T k).2.2.1 = some x → s.fieldFound? C (T k).2.1 (T k).2.2.1 = some x := by
    rw [hdec k hkN]
    exact fun _ h => h
  rcases hlink with h | ⟨host, h⟩
  · exact va_get hC.1.1 hC.1.2.1 hC.1.2.2.2.2 hin hC.1.2.2.2.1 hC.2.1 hP o he0 hcl k hkN (hC.1.2.2.2.2 _ h) hs hv hd kq
  · exact va_getN hC.1.1 hC.1.2.1 hC.1.2.2.2.2 hin hC.1.2.2.2.1 hC.2.1 hP o he0 hcl k hkN (hC.1.2.2.2.2 _ h) hs hv hd kq
theorem x_getI (hd : decode cc pc = .ok (.getfield idx, 3)) (hf : zz_fd own idx ci k N) (hk : kd o = (ci + 2, N)) (ht : ft ci k = 0 ∨ ft ci k = 1) (hv : m o k = v) (kk : Ex E cc nL own d Q (pc + 3) L (zi v :: S) m) : Ex E cc nL own d Q pc L (zr o :: S) m := by
  subst hv
  refine x_getG (w := zi (m o k)) hd hf hk (fun hm => hm o k) (fun ad => ?_) kk
  unfold fv
  rcases ht with h | h <;> rw [h] <;> rfl
theorem x_getR {q : Nat} (hd : decode cc pc = .ok (.getfield idx, 3)) (hf : zz_fd own idx ci k N) (hk : kd o = (ci + 2, N)) (ht : ft ci k = 2) (hv : pt o k = q) (kk : Ex E cc nL own d Q (pc + 3) L (zr q :: S) m) : Ex E cc nL own d Q pc L (zr o :: S) m := by
  subst hv
  refine x_getG (w := zr (pt o k)) hd hf hk (fun hm => trivial) (fun ad => ?_) kk
  unfold fv
  rw [ht]
  rfl
theorem x_getD {q : Nat} (hd : decode cc pc = .ok (.getfield idx, 3)) (hf : zz_fd own idx ci k N) (hk : kd o = (ci + 2, N)) (ht : ft ci k = 3) (hv : m o k = (q : Int)) (kk : Ex E cc nL own d Q (pc + 3) L (zr q :: S) m) : Ex E cc nL own d Q pc L (zr o :: S) m := by
  refine x_getG (w := zr q) hd hf hk (fun hm => trivial) (fun ad => ?_) kk
  unfold fv
  rw [ht, hv]
  show (if (q : Int) < 0 then Value.null else .ref (ad (q : Int).toNat)) = _
  rw [if_neg (by omega)]
  rfl
/-- a field is written -/
theorem x_putG {w : zz_V} {z : Int} (hd : decode cc pc = .ok (.putfield idx, 3)) (hf : zz_fd own idx ci k N) (hk : kd o = (ci + 2, N)) (h2 : ft ci k ≠ 2) (hw : zz_in z ∨ okv w → zz_in z) (he : ∀ ad, fv ad (up m o k z) o ci k = gv ad w) (hn : ∀ ad ty, (ft ci k = 0 → ty = .int) → (ft ci k = 1 → ty = .boolean) → (ft ci k = 3 → ty = .array .int) → narrow ty (gv ad w) = gv ad w ∧ fits ty (gv ad w) = true) (kk : Ex E cc nL own d Q (pc + 3) L S (up m o k z)) : Ex E cc nL own d Q pc L (w :: zr o :: S) m := by
  intro p l e R s mi args below meth c A D cI cY ad cells slots Qs hC hK H locs ls hL hS hm hP hV hl
  obtain ⟨C, T, hcl, hkN, hlink⟩ := hf
  obtain ⟨hci, hin, ⟨ty, hty, hfit⟩, hnm, hdec⟩ := zz_cls hcl
  have he0 := wl_obj (ad := ad) (cI := cI) (cY := cY) (m := m) hk hci
  have hs : ∀ x, s.fieldFound? (T k).1 (T k).2.1 (T k).2.2.1 = some x → s.fieldFound? C (T k).2.1 (T k).2.2.1 = some x := by
    rw [hdec k hkN]
    exact fun _ h => h
  have hf1 := hfit k hkN
  have hfin : (T k).2.2.2 = false := by
    unfold zz_fits at hf1
    simp only [Bool.or_eq_true, Bool.and_eq_true, beq_iff_eq] at hf1
    rcases hf1 with h | h
    · exact absurd h h2
    · exact h.1
  have htys : (ft ci k = 0 → ty k = .int) ∧ (ft ci k = 1 → ty k = .boolean) ∧ (ft ci k = 3 → ty k = .array .int) := by
    unfold zz_fits at hf1
    simp only [Bool.or_eq_true, Bool.and_eq_true, beq_iff_eq] at hf1
    refine ⟨fun h => ?_, fun h => ?_, fun h => ?_⟩ <;> rw [h] at hf1 <;> simp at hf1 <;> exact hf1.2
  obtain ⟨hna, hfi⟩ := hn ad (ty k) htys.1 htys.2.1 htys.2.2
  have hset : (wl ad cI cY m).set o (ad o, .inr (ci, ((List.range N).map (fv ad m o ci)).set k (gv ad w))) = wl ad cI cY (up m o k z) := by
    refine wl_set (fun k' h => up_cell h) ?_
    rw [ce_obj hk]
    congr 2
    apply List.ext_getElem?
    intro i
    by_cases hi : i < N
    · by_cases hik : i = k
      · subst hik
        rw [List.getElem?_set_self (by simpa using hi), List.getElem?_map, List.getElem?_range hi]
        show some _ = _
        rw [← he ad]
      · rw [List.getElem?_set_ne (Ne.symm hik), List.getElem?_map, List.getElem?_map, List.getElem?_range hi]
        show some _ = some _
        congr 1
        unfold fv
        rw [show up m o k z o i = m o i from if_neg (fun q => hik q.2)]
    · rw [List.getElem?_eq_none (by simp; omega), List.getElem?_eq_none (by simp; omega)]
  have hzi : zz_in z := hw (Or.inr (ok_hd hS))
  have go : ∀ (H1 : Heap) (locs1 : List Loc), va_P D zz_cl ((wl ad cI cY m).set o (ad o, .inr (ci, ((List.range N).map (fv ad m o ci)).set k (gv ad w)))) H1 → va_D A ((wl ad cI cY m).set o (ad o, .inr (ci, ((List.range N).map (fv ad m o ci)).set k (gv ad w)))) → va_S A s.heap H1 locs1 → W p l e R s mi args below meth c H1 locs1 cells slots Qs (F0 mi (pc + 3) ls (S.map (gv ad))) := by
    intro H1 locs1 hP1 _ hV1
    rw [hset] at hP1
    exact kk p l e R s mi args below meth c A D cI cY ad cells slots Qs hC hK H1 locs1 ls hL (ok_tl (ok_tl hS)) (up_ok hm hzi) hP1 hV1 hl
  rcases hlink with h | ⟨host, h⟩
  · exact va_put hC.1.1 hC.1.2.1 hC.1.2.2.2.2 hin ty hty hnm hC.1.2.2.2.1 hC.2.1 hP (wl_D hC.2.2.2.2.1) hV o he0 hcl k hkN (hC.1.2.2.2.2 _ h) hs hfin (hty k hkN) hna hfi (by simpa using hkN) hd go
  · exact va_putN hC.1.1 hC.1.2.1 hC.1.2.2.2.2 hin ty hty hnm hC.1.2.2.2.1 hC.2.1 hP (wl_D hC.2.2.2.2.1) hV o he0 hcl k hkN (hC.1.2.2.2.2 _ h) hs hfin (hty k hkN) hna hfi (by simpa using hkN) hd go
theorem x_putI (hd : decode cc pc = .ok (.putfield idx, 3)) (hf : zz_fd own idx ci k N) (hk : kd o = (ci + 2, N)) (ht : ft ci k = 0) (kk : Ex E cc nL own d Q (pc + 3) L S (up m o k z)) : Ex E cc nL own d Q pc L (zi z :: zr o :: S) m := by
  refine x_putG (z := z) hd hf hk (by rw [ht]; decide) (fun h => h.elim id id) (fun ad => ?_) (fun ad ty h0 _ _ => ?_) kk
  · unfold fv
    rw [ht, up_same]
    rfl
  · rw [h0 ht]
    exact ⟨rfl, rfl⟩
theorem x_putZ (hd : decode cc pc = .ok (.putfield idx, 3)) (hf : zz_fd own idx ci k N) (hk : kd o = (ci + 2, N)) (ht : ft ci k = 1) (hz : z = 0 ∨ z = 1) (kk : Ex E cc nL own d Q (pc + 3) L S (up m o k z)) : Ex E cc nL own d Q pc L (zi z :: zr o :: S) m := by
  refine x_putG (z := z) hd hf hk (by rw [ht]; decide) (fun h => h.elim id id) (fun ad => ?_) (fun ad ty _ h1 _ => ?_) kk
  · unfold fv
    rw [ht, up_same]
    rfl
  · rw [h1 ht]
    rcases hz with rfl | rfl
    · exact ⟨(by decide +kernel : narrow .boolean (.int (Int32.ofInt 0)) = .int (Int32.ofInt 0)), (by decide +kernel : fits .boolean (.int (Int32.ofInt 0)) = true)⟩
    · exact ⟨(by decide +kernel : narrow .boolean (.int (Int32.ofInt 1)) = .int (Int32.ofInt 1)), (by decide +kernel : fits .boolean (.int (Int32.ofInt 1)) = true)⟩
theorem x_putD {q : Nat} (hd : decode cc pc = .ok (.putfield idx, 3)) (hf : zz_fd own idx ci k N) (hk : kd o = (ci + 2, N)) (ht : ft ci k = 3) (hq : kd q = (0, n)) (kk : Ex E cc nL own d Q (pc + 3) L S (up m o k (q : Int))) : Ex E cc nL own d Q pc L (zr q :: zr o :: S) m := by
  have hq77 : q < 77 := kd_lt hq (by decide)
  refine x_putG (z := (q : Int)) hd hf hk (by rw [ht]; decide) (fun _ => ⟨by omega, by omega⟩) (fun ad => ?_) (fun ad ty _ _ h3 => ?_) kk
  · unfold fv
    rw [ht, up_same]
    show (if (q : Int) < 0 then Value.null else .ref (ad (q : Int).toNat)) = _
    rw [if_neg (by omega)]
    rfl
  · rw [h3 ht]
    exact ⟨rfl, rfl⟩
-- arrays
theorem i32_idx {z : Int} (hz : zz_in z) (h0 : 0 ≤ z) : (Int32.ofInt z).toNatClampNeg = z.toNat := by
  show (Int32.ofInt z).toInt.toNat = _
  rw [i32_of hz]
theorem i32_bd {z : Int} {n : Nat} (hz : zz_in z) (h0 : 0 ≤ z) (h1 : z < n) : vp_in (Int32.ofInt z) n := by
  rintro (h | h)
  · have := (i32_lt hz (b := 0) ⟨by decide, by decide⟩).mp h
    omega
  · rw [i32_idx hz h0] at h
    omega
theorem x_iald (hd : decode cc pc = .ok (.iaload, 1)) (hk : kd k = (0, n)) (h0 : 0 ≤ z) (h1 : z < n) (hv : m k z.toNat = v) (kk : Ex E cc nL own d Q (pc + 1) L (zi v :: S) m) : Ex E cc nL own d Q pc L (zi z :: zr k :: S) m := by
  subst hv
  refine ex_st (fun _ hS hm => ok_cons (v := zi _) (hm k _) (ok_tl (ok_tl hS))) (fun p l e R s mi args below meth c A D cI cY ad cells slots Qs H locs ls hC hL hS hm hP hV hl kq => ?_) kk
  have hz : zz_in z := ok_hd hS
  refine va_iald hC.1.1 hC.1.2.1 hC.2.1 hP k 0 (wl_arr hk) rfl (i32_bd hz h0 h1) hd ?_
  rw [i32_idx hz h0]
  exact kq
theorem x_iast {x : Int} (hd : decode cc pc = .ok (.iastore, 1)) (hk : kd k = (0, n)) (h0 : 0 ≤ z) (h1 : z < n) (kk : Ex E cc nL own d Q (pc + 1) L S (up m k z.toNat x)) : Ex E cc nL own d Q pc L (zi x :: zi z :: zr k :: S) m := by
  intro p l e R s mi args below meth c A D cI cY ad cells slots Qs hC hK H locs ls hL hS hm hP hV hl
  have hz : zz_in z := ok_hd (ok_tl hS)
  have hset : (wl ad cI cY m).set k (ad k, .inl (cI, (n, .inl (upd (fun j => Int32.ofInt (m k j)) (Int32.ofInt z).toNatClampNeg (Int32.ofInt x))))) = wl ad cI cY (up m k z.toNat x) := by
    refine wl_set (fun k' h => up_cell h) ?_
    rw [ce_arr hk, i32_idx hz h0]
    congr 4
    funext j
    unfold upd up
    by_cases hj : j = z.toNat
    · rw [if_pos ⟨rfl, hj⟩, if_pos hj]
    · rw [if_neg (fun q => hj q.2), if_neg hj]
  refine va_iast hC.1.1 hC.1.2.1 hC.2.1 hP (wl_D hC.2.2.2.2.1) hV k 0 (wl_arr hk) rfl (i32_bd hz h0 h1) hd (fun H1 locs1 hP1 _ hV1 => ?_)
  rw [hset] at hP1
  exact kk p l e R s mi args below meth c A D cI cY ad cells slots Qs hC hK H1 locs1 ls hL (ok_tl (ok_tl (ok_tl hS))) (up_ok hm (ok_hd hS)) hP1 hV1 hl
theorem x_aald (hd : decode cc pc = .ok (.aaload, 1)) (hk : kd k = (1, n)) (h0 : 0 ≤ z) (h1 : z < n) {q : Nat} (hv : 24 + 8 * z.toNat = q) (kk : Ex E cc nL own d Q (pc + 1) L (zr q :: S) m) : Ex E cc nL own d Q pc L (zi z :: zr k :: S) m := by
  subst hv
  refine ex_st (fun _ hS hm => ok_cons (v := zr _) trivial (ok_tl (ok_tl hS))) (fun p l e R s mi args below meth c A D cI cY ad cells slots Qs H locs ls hC hL hS hm hP hV hl kq => ?_) kk
  have hz : zz_in z := ok_hd hS
  refine va_aldq hC.1.1 hC.1.2.1 hC.2.1 hP k 1 (wl_ref hk) rfl (i32_bd hz h0 h1) hd ?_
  rw [i32_idx hz h0]
  exact kq
theorem x_alen (hd : decode cc pc = .ok (.arraylength, 1)) (hk : kd k = (0, n) ∨ kd k = (1, n)) (hn : n < 1000) (kk : Ex E cc nL own d Q (pc + 1) L (zi (n : Int) :: S) m) : Ex E cc nL own d Q pc L (zr k :: S) m := by
  refine ex_st (fun _ hS hm => ok_cons (v := zi _) (show zz_in (n : Int) from ⟨by omega, by omega⟩) (ok_tl hS)) (fun p l e R s mi args below meth c A D cI cY ad cells slots Qs H locs ls hC hL hS hm hP hV hl kq => ?_) kk
  have e0 : Int32.ofNat n = Int32.ofInt (n : Int) := (Int32.ofInt_eq_ofNat).symm
  rcases hk with hk | hk
  · exact va_alen hC.1.1 hC.1.2.1 hC.2.1 hP k 0 (wl_arr hk) rfl e0 hd kq
  · exact va_alen hC.1.1 hC.1.2.1 hC.2.1 hP k 1 (wl_ref hk) rfl e0 hd kq
theorem x_rald (hd : decode cc pc = .ok (.iaload, 1)) (hk : 77 ≤ k ∧ k < 80) (h0 : 0 ≤ z) (h1 : z < rn E k) (hv : ro E k z.toNat = v) (kk : Ex E cc nL own d Q (pc + 1) L (zi v :: S) m) : Ex E cc nL own d Q pc L (zi z :: zr k :: S) m := by
  subst hv
  intro p l e R s mi args below meth c A D cI cY ad cells slots Qs hC hK H locs ls hL hS hm hP hV hl
  have hz : zz_in z := ok_hd hS
  obtain ⟨cell, g1, g2, g3, g4, g5, g6, g7⟩ := hC.2.2.1.1 k hk.1 hk.2
  have hlt : z.toNat < rn E k := by omega
  refine W.iald (v := .int (Int32.ofInt (ro E k z.toNat))) hC.1.1 hC.1.2.1 (a := ad k) (cell := cell) (j := Int32.ofInt z) (by rw [hV.2.1 (ad k) (Array.getElem?_eq_some_iff.mp g1).1 g7]; exact g1) g2 g3 ?_ (by rw [i32_idx hz h0]; exact g6 _ hlt) rfl rfl hd ?_
  · have hb := i32_bd hz h0 (show z < ((rn E k : Nat) : Int) from h1)
    rintro (h | h)
    · exact hb (Or.inl h)
    · exact hb (Or.inr (Nat.le_trans g4 h))
  · exact kk p l e R s mi args below meth c A D cI cY ad cells slots Qs hC hK H locs ls hL (ok_cons (v := zi _) (ro_in hC.2.2.2.1 hlt) (ok_tl (ok_tl hS))) hm hP hV hl
theorem x_ralen (hd : decode cc pc = .ok (.arraylength, 1)) (hk : 77 ≤ k ∧ k < 80) (kk : Ex E cc nL own d Q (pc + 1) L (zi (rn E k : Int) :: S) m) : Ex E cc nL own d Q pc L (zr k :: S) m := by
  intro p l e R s mi args below meth c A D cI cY ad cells slots Qs hC hK H locs ls hL hS hm hP hV hl
  obtain ⟨cell, g1, g2, g3, g4, g5, g6, g7⟩ := hC.2.2.1.1 k hk.1 hk.2
  have hn : rn E k ≤ 2048 := by
    unfold rn
    split
    · exact hC.2.2.2.1.1
    · omega
  have e0 : Int32.ofNat (rn E k) = Int32.ofInt (rn E k : Int) := (Int32.ofInt_eq_ofNat).symm
  refine W.alen (n := Int32.ofInt (rn E k : Int)) hC.1.1 hC.1.2.1 (a := ad k) (cell := cell) (by rw [hV.2.1 (ad k) (Array.getElem?_eq_some_iff.mp g1).1 g7]; exact g1) g2 (by rw [g5, e0]) rfl rfl hd ?_
  exact kk p l e R s mi args below meth c A D cI cY ad cells slots Qs hC hK H locs ls hL (ok_cons (v := zi _) (show zz_in (rn E k : Int) from ⟨by omega, by omega⟩) (ok_tl hS)) hm hP hV hl
/-- the two static arrays: 77 LEAST, 78 GREATEST -/
def zz_st (own : String) (idx q : Nat) : Prop := ∃ n : String, ((q = 77 ∧ n = "LEAST") ∨ (q = 78 ∧ n = "GREATEST")) ∧ (Cond.fieldLink own idx "NobodyLookedYesterday" n "[I" ∈ zz_T ∨ ∃ host, Cond.fieldLinkNest own idx "NobodyLookedYesterday" n "[I" host ∈ zz_T)
theorem x_gets {q : Nat} (hd : decode cc pc = .ok (.getstatic idx, 3)) (hf : zz_st own idx q) (kk : Ex E cc nL own d Q (pc + 3) L (zr q :: S) m) : Ex E cc nL own d Q pc L S m := by
  refine ex_st (fun _ hS hm => ok_cons (v := zr _) trivial hS) (fun p l e R s mi args below meth c A D cI cY ad cells slots Qs H locs ls hC hL hS hm hP hV hl kq => ?_) kk
  obtain ⟨n, hq, hl1⟩ := hf
  have hZ : va_Z "NobodyLookedYesterday" n "[I" (.ref (ad q)) A s s.heap := by
    rcases hq with ⟨rfl, rfl⟩ | ⟨rfl, rfl⟩
    · exact hC.2.2.1.2.1
    · exact hC.2.2.1.2.2
  rcases hl1 with h | ⟨host, h⟩
  · exact va_gets hC.1.1 hC.1.2.1 hZ hV hC.1.2.2.2.1 (hC.1.2.2.2.2 _ h) (fun _ h => h) hd kq
  · exact va_getsN hC.1.1 hC.1.2.1 hZ hV hC.1.2.2.2.1 (hC.1.2.2.2.2 _ h) (fun _ h => h) hd kq
end EXM
end
section
/-! ===== calls ===== -/
theorem zz_Pc_blind {E : zz_E} {A : Nat → Prop} {D : va_G} {cI cY : ClassId} {ad : Nat → Nat} {as : List zz_V} {m : zz_M} : FrameBlind (zz_Pc E A D cI cY ad as m) :=
  fun a U g mk h => ⟨h.1, h.2.1, va_K.moved (u := U) (U := U.calling g mk a) (Vm.Alike.refl U.vm) h.2.2.1, zz_Ro.moved (u := U) (U := U.calling g mk a) (Vm.Alike.refl U.vm) h.2.2.2.1, zz_N.same (u := U) (U := U.calling g mk a) rfl h.2.2.2.2⟩
def catsum (ad : Nat → Nat) (S : List zz_V) : Nat := ((S.map (gv ad)).map fun v => v.category).sum
def cat8 : List zz_V → Nat
  | [] => 0
  | .inr (.inl _) :: S => 2 + cat8 S
  | _ :: S => 1 + cat8 S
theorem catsum_eq (ad : Nat → Nat) : ∀ S : List zz_V, catsum ad S = cat8 S
  | [] => rfl
  | .inl z :: S => by
    have h := catsum_eq ad S
    unfold catsum at h ⊢
    rw [List.map_cons, List.map_cons, List.sum_cons, h]
    rfl
  | .inr (.inl z) :: S => by
    have h := catsum_eq ad S
    unfold catsum at h ⊢
    rw [List.map_cons, List.map_cons, List.sum_cons, h]
    rfl
  | .inr (.inr z) :: S => by
    have h := catsum_eq ad S
    unfold catsum at h ⊢
    rw [List.map_cons, List.map_cons, List.sum_cons, h]
    rfl
section EXK
variable {E : zz_E} {cc : ByteArray} {nL : Nat} {own : String} {d : Nat} {Q Q' : Option zz_V → zz_M → Prop} {pc tgt : Nat} {L : List (Option zz_V)} {S : List zz_V} {m : zz_M} {z v : Int} {o k n idx ci N d' : Nat}
variable {p : Program} {l : Launch} {e : Env} {R : Room} {s : State} {mi : MethodId} {args : Array Value} {below : List Frame} {meth : Method} {c : Code} {A : Nat → Prop} {D : va_G} {cI cY : ClassId} {ad : Nat → Nat} {cells slots : Nat} {Qs : State → Prop} {H : Heap} {locs : List Loc} {ls : Array Slot}
theorem ex_run {st0 : List Value} {as : Array Value} {pc' : Nat} (hr : va_Run p l e R s mi args below meth c H locs cells slots 0 0 (F0 mi pc ls st0) (S.map (gv ad)) (zz_Qc E A D cI cY ad Q' as) A) (hV : va_S A s.heap H locs)
    (kk : ∀ (r : Option zz_V) (m' : zz_M) (H' : Heap) (locs' : List Loc), Q' r m' → (∀ v, r = some v → okv v) → okm m' → va_P D zz_cl (wl ad cI cY m') H' → va_S A s.heap H' locs' → W p l e R s mi args below meth c H' locs' cells slots Qs (F0 mi (pc + 3) ls ((r.toList ++ S).map (gv ad)))) :
    W p l e R s mi args below meth c H locs cells slots Qs (F0 mi pc ls st0) := by
  intro T hT X
  obtain ⟨v, st₀, t, T', Lc, h0, X', hL, e1, e2, ⟨⟨r, m', hv, hq, hok, hom, hP⟩, hz, hk⟩, st⟩ := hr T hT X
  cases hv
  rw [h0] at hz hk
  obtain ⟨t2, a1, b1⟩ := kk r m' t.heap (locs ++ Lc) hq hok hom hP
    ⟨Nat.le_trans hV.1 hz, fun q h1 h2 => by rw [hk q (Nat.lt_of_lt_of_le h1 hV.1) h2]; exact hV.2.1 q h1 h2, fun q hq => by
      rcases List.mem_append.mp hq with h | h
      · exact hV.2.2 q h
      · exact hL q h⟩ T' e1 X'
  refine ⟨t2, st t2 ?_, b1⟩
  cases r <;> exact a1
/-- a call's words: 'true' of a virtual one -/
def zz_cv (own : String) (idx : Nat) (y : MethodName) (cc' : ByteArray) (nL' : Nat) (ret' : Option FieldType) (n : Nat) : Prop :=
  Cond.methodLink own idx y ∈ zz_T ∧ Cond.initialized y.cls ∈ zz_T ∧ Cond.code y cc' nL' ret' ∈ zz_G ∧ (y.cls ≠ "java/lang/invoke/MethodHandle" ∧ y.cls ≠ "java/lang/invoke/VarHandle") ∧ (parseMethodDescriptor y.desc).map (fun d => d.parameters.length) = some n ∧ nL' ≤ 40
theorem ex_cb {y : MethodName} {cc' : ByteArray} {nL' : Nat} {ret' : Option FieldType} (hw : zz_cv own idx y cc' nL' ret' n) (hd' : d' + 1 ≤ d) (hC : zz_C E p R s mi args meth c cc nL own A D cI cY ad d cells slots) : CallB R s args own idx y cc' nL' ret' (.code y cc' nL' ret' :: zz_G) (zz_rm d') 0 0 n := by
  obtain ⟨h1, h2, h3, h4, h5, h6⟩ := hw
  obtain ⟨⟨hx, hb, hml, hown, hts⟩, -, -, -, -, hR1, hR2, -, -⟩ := hC
  refine callB_of n hts (fun w hw => ?_) rfl rfl rfl (hts _ h2) (hts _ h1) ⟨h4.1, h4.2, h5⟩ ⟨?_, ?_⟩
  · rcases List.mem_cons.mp hw with rfl | h
    · exact ⟨zz_G_T h3, zz_G_good _ h3⟩
    · exact ⟨zz_G_T h, zz_G_good _ h⟩
  · show d' + 1 ≤ R.frames
    omega
  · show 8 + (nL' + 11) + 128 * d' ≤ R.locals
    omega
theorem ex_pre {as : List zz_V} (hC : zz_C E p R s mi args meth c cc nL own A D cI cY ad d cells slots) (hP : va_P D zz_cl (wl ad cI cY m) H) (hV : va_S A s.heap H locs) {U : State} (hU : U.heap = H) (hW : s.WarmedH U.vm) : zz_Pc E A D cI cY ad as m (as.map (gv ad)).toArray U := by
  refine ⟨rfl, by rw [hU]; exact hP, va_K.moved hW.alike hC.2.1, ?_, (zz_N.of hC.1.2.2.2.2).warm hW⟩
  exact (hC.2.2.1.moved hW.alike).kept (fun a h1 h2 => by rw [hU]; exact hV.2.1 a h1 h2)
theorem x_callvG {y : MethodName} {cc' : ByteArray} {nL' : Nat} {ret' : Option FieldType} {As : List zz_V} {T : u_T} {S0 : List zz_V} (hd : decode cc pc = .ok (.invokevirtual idx, 3)) (hw : zz_cv own idx y cc' nL' ret' n) (hi : Cond.instanceMethod y ∈ zz_T ∧ Cond.selects y.cls y y ∈ zz_T) (hn : As.length = n)
    (hk : kd o = (ci + 2, N)) (hcl : zz_cl[ci]? = some (y.cls, T, N)) (hd' : d' + 1 ≤ d) (hS8 : cat8 S ≤ 8) (hS0 : S0 = As.reverse ++ zr o :: S) (hM : Mt E d' y cc' nL' ret' (zr o :: As) m Q') (kk : ∀ r m', Q' r m' → Ex E cc nL own d Q (pc + 3) L (r.toList ++ S) m') : Ex E cc nL own d Q pc L S0 m := by
  subst hS0
  intro p l e R s mi args below meth c A D cI cY ad cells slots Qs hC hK H locs ls hL hS hm hP hV hl
  have hci := (zz_cls hcl).1
  have hokA : ∀ v ∈ zr o :: As, okv v := by
    intro v hv
    rcases List.mem_cons.mp hv with rfl | h
    · trivial
    · exact hS v (List.mem_append_left _ (List.mem_reverse.mpr h))
  have hokS : ∀ v ∈ S, okv v := fun v hv => hS v (List.mem_append_right _ (List.mem_cons_of_mem _ hv))
  have hMm := hM hC.2.2.2.1 hokA hm l A D cI cY ad hC.2.2.2.2.1
  have he := wl_obj (ad := ad) (cI := cI) (cY := cY) (m := m) hk hci
  have hr : va_Run p l e R s mi args below meth c H locs cells slots 0 0 (F0 mi pc ls ((As.reverse ++ zr o :: S).map (gv ad))) (S.map (gv ad)) (zz_Qc E A D cI cY ad Q' (Value.ref (ad o) :: As.map (gv ad)).toArray) A := by
    refine va_runV (As := As.map (gv ad)) (C := y.cls) (Ts := zz_T) ⟨hC.1.1, hC.1.2.1, hC.1.2.2.1, hC.1.2.2.2.1, hC.1.2.2.2.2⟩ hMm ⟨ex_cb hw hd' hC, hC.1.2.2.2.2 _ hi.1, hC.1.2.2.2.2 _ hi.2⟩ ⟨zz_Pc_blind, va_recv hC.2.1 hP hcl he, fun U hU hW => ex_pre (as := zr o :: As) hC hP hV hU hW⟩ rfl (by simpa using hn) hl.1 ?_ ?_ hd ⟨by have := hC.2.2.2.2.2.2.2.1; omega, by have := hC.2.2.2.2.2.2.2.2; omega⟩
    · show (As.reverse ++ zr o :: S).map (gv ad) = _
      rw [List.map_append, List.map_reverse, List.map_cons]
      rfl
    · show 2 * 0 + _ ≤ 8
      have := catsum_eq ad S
      unfold catsum at this
      omega
  refine ex_run (pc' := pc) hr hV (fun r m' H' locs' hq hok hom hP' hV' => ?_)
  exact kk r m' hq p l e R s mi args below meth c A D cI cY ad cells slots Qs hC hK H' locs' ls hL (fun v hv => by
    rcases List.mem_append.mp hv with h | h
    · exact hok v (Option.mem_toList.mp h)
    · exact hokS v h) hom hP' hV' hl
theorem x_callsG {y : MethodName} {cc' : ByteArray} {nL' : Nat} {ret' : Option FieldType} {As : List zz_V} {S0 : List zz_V} (hd : decode cc pc = .ok (.invokestatic idx, 3)) (hw : zz_cv own idx y cc' nL' ret' n) (hi : Cond.static y ∈ zz_T) (hn : As.length = n)
    (hd' : d' + 1 ≤ d) (hS8 : cat8 S ≤ 8) (hS0 : S0 = As.reverse ++ S) (hM : Mt E d' y cc' nL' ret' As m Q') (kk : ∀ r m', Q' r m' → Ex E cc nL own d Q (pc + 3) L (r.toList ++ S) m') : Ex E cc nL own d Q pc L S0 m := by
  subst hS0
  intro p l e R s mi args below meth c A D cI cY ad cells slots Qs hC hK H locs ls hL hS hm hP hV hl
  have hokA : ∀ v ∈ As, okv v := fun v h => hS v (List.mem_append_left _ (List.mem_reverse.mpr h))
  have hokS : ∀ v ∈ S, okv v := fun v hv => hS v (List.mem_append_right _ hv)
  have hMm := hM hC.2.2.2.1 hokA hm l A D cI cY ad hC.2.2.2.2.1
  have hr : va_Run p l e R s mi args below meth c H locs cells slots 0 0 (F0 mi pc ls ((As.reverse ++ S).map (gv ad))) (S.map (gv ad)) (zz_Qc E A D cI cY ad Q' (As.map (gv ad)).toArray) A := by
    refine va_runS (As := As.map (gv ad)) (Ts := zz_T) ⟨hC.1.1, hC.1.2.1, hC.1.2.2.1, hC.1.2.2.2.1, hC.1.2.2.2.2⟩ hMm ⟨ex_cb hw hd' hC, hC.1.2.2.2.2 _ hi⟩ ⟨zz_Pc_blind, fun U hU hW => ex_pre hC hP hV hU hW⟩ rfl (by simpa using hn) hl.1 ?_ ?_ hd ⟨by have := hC.2.2.2.2.2.2.2.1; omega, by have := hC.2.2.2.2.2.2.2.2; omega⟩
    · show (As.reverse ++ S).map (gv ad) = _
      rw [List.map_append, List.map_reverse]
    · show 2 * 0 + _ ≤ 8
      have := catsum_eq ad S
      unfold catsum at this
      omega
  refine ex_run (pc' := pc) hr hV (fun r m' H' locs' hq hok hom hP' hV' => ?_)
  exact kk r m' hq p l e R s mi args below meth c A D cI cY ad cells slots Qs hC hK H' locs' ls hL (fun v hv => by
    rcases List.mem_append.mp hv with h | h
    · exact hok v (Option.mem_toList.mp h)
    · exact hokS v h) hom hP' hV' hl
theorem x_callv0 {y : MethodName} {cc' : ByteArray} {nL' : Nat} {ret' : Option FieldType} {T : u_T} (hd : decode cc pc = .ok (.invokevirtual idx, 3)) (hw : zz_cv own idx y cc' nL' ret' 0) (hi : Cond.instanceMethod y ∈ zz_T ∧ Cond.selects y.cls y y ∈ zz_T)
    (hk : kd o = (ci + 2, N)) (hcl : zz_cl[ci]? = some (y.cls, T, N)) (hd' : d' + 1 ≤ d) (hS8 : cat8 S ≤ 8) (hM : Mt E d' y cc' nL' ret' [zr o] m Q') (kk : ∀ r m', Q' r m' → Ex E cc nL own d Q (pc + 3) L (r.toList ++ S) m') : Ex E cc nL own d Q pc L (zr o :: S) m :=
  x_callvG (As := []) hd hw hi rfl hk hcl hd' hS8 rfl hM kk
theorem x_calls0 {y : MethodName} {cc' : ByteArray} {nL' : Nat} {ret' : Option FieldType} (hd : decode cc pc = .ok (.invokestatic idx, 3)) (hw : zz_cv own idx y cc' nL' ret' 0) (hi : Cond.static y ∈ zz_T) (hd' : d' + 1 ≤ d) (hS8 : cat8 S ≤ 8) (hM : Mt E d' y cc' nL' ret' [] m Q') (kk : ∀ r m', Q' r m' → Ex E cc nL own d Q (pc + 3) L (r.toList ++ S) m') : Ex E cc nL own d Q pc L (S) m :=
  x_callsG (As := []) hd hw hi rfl hd' hS8 rfl hM kk
theorem x_callv1 {v0 : zz_V} {y : MethodName} {cc' : ByteArray} {nL' : Nat} {ret' : Option FieldType} {T : u_T} (hd : decode cc pc = .ok (.invokevirtual idx, 3)) (hw : zz_cv own idx y cc' nL' ret' 1) (hi : Cond.instanceMethod y ∈ zz_T ∧ Cond.selects y.cls y y ∈ zz_T)
    (hk : kd o = (ci + 2, N)) (hcl : zz_cl[ci]? = some (y.cls, T, N)) (hd' : d' + 1 ≤ d) (hS8 : cat8 S ≤ 8) (hM : Mt E d' y cc' nL' ret' [zr o, v0] m Q') (kk : ∀ r m', Q' r m' → Ex E cc nL own d Q (pc + 3) L (r.toList ++ S) m') : Ex E cc nL own d Q pc L (v0 :: zr o :: S) m :=
  x_callvG (As := [v0]) hd hw hi rfl hk hcl hd' hS8 rfl hM kk
theorem x_calls1 {v0 : zz_V} {y : MethodName} {cc' : ByteArray} {nL' : Nat} {ret' : Option FieldType} (hd : decode cc pc = .ok (.invokestatic idx, 3)) (hw : zz_cv own idx y cc' nL' ret' 1) (hi : Cond.static y ∈ zz_T) (hd' : d' + 1 ≤ d) (hS8 : cat8 S ≤ 8) (hM : Mt E d' y cc' nL' ret' [v0] m Q') (kk : ∀ r m', Q' r m' → Ex E cc nL own d Q (pc + 3) L (r.toList ++ S) m') : Ex E cc nL own d Q pc L (v0 :: S) m :=
  x_callsG (As := [v0]) hd hw hi rfl hd' hS8 rfl hM kk
theorem x_callv2 {v0 v1 : zz_V} {y : MethodName} {cc' : ByteArray} {nL' : Nat} {ret' : Option FieldType} {T : u_T} (hd : decode cc pc = .ok (.invokevirtual idx, 3)) (hw : zz_cv own idx y cc' nL' ret' 2) (hi : Cond.instanceMethod y ∈ zz_T ∧ Cond.selects y.cls y y ∈ zz_T)
    (hk : kd o = (ci + 2, N)) (hcl : zz_cl[ci]? = some (y.cls, T, N)) (hd' : d' + 1 ≤ d) (hS8 : cat8 S ≤ 8) (hM : Mt E d' y cc' nL' ret' [zr o, v0, v1] m Q') (kk : ∀ r m', Q' r m' → Ex E cc nL own d Q (pc + 3) L (r.toList ++ S) m') : Ex E cc nL own d Q pc L (v1 :: v0 :: zr o :: S) m :=
  x_callvG (As := [v0, v1]) hd hw hi rfl hk hcl hd' hS8 rfl hM kk
theorem x_calls2 {v0 v1 : zz_V} {y : MethodName} {cc' : ByteArray} {nL' : Nat} {ret' : Option FieldType} (hd : decode cc pc = .ok (.invokestatic idx, 3)) (hw : zz_cv own idx y cc' nL' ret' 2) (hi : Cond.static y ∈ zz_T) (hd' : d' + 1 ≤ d) (hS8 : cat8 S ≤ 8) (hM : Mt E d' y cc' nL' ret' [v0, v1] m Q') (kk : ∀ r m', Q' r m' → Ex E cc nL own d Q (pc + 3) L (r.toList ++ S) m') : Ex E cc nL own d Q pc L (v1 :: v0 :: S) m :=
  x_callsG (As := [v0, v1]) hd hw hi rfl hd' hS8 rfl hM kk
theorem x_callv3 {v0 v1 v2 : zz_V} {y : MethodName} {cc' : ByteArray} {nL' : Nat} {ret' : Option FieldType} {T : u_T} (hd : decode cc pc = .ok (.invokevirtual idx, 3)) (hw : zz_cv own idx y cc' nL' ret' 3) (hi : Cond.instanceMethod y ∈ zz_T ∧ Cond.selects y.cls y y ∈ zz_T)
    (hk : kd o = (ci + 2, N)) (hcl : zz_cl[ci]? = some (y.cls, T, N)) (hd' : d' + 1 ≤ d) (hS8 : cat8 S ≤ 8) (hM : Mt E d' y cc' nL' ret' [zr o, v0, v1, v2] m Q') (kk : ∀ r m', Q' r m' → Ex E cc nL own d Q (pc + 3) L (r.toList ++ S) m') : Ex E cc nL own d Q pc L (v2 :: v1 :: v0 :: zr o :: S) m :=
  x_callvG (As := [v0, v1, v2]) hd hw hi rfl hk hcl hd' hS8 rfl hM kk
theorem x_calls3 {v0 v1 v2 : zz_V} {y : MethodName} {cc' : ByteArray} {nL' : Nat} {ret' : Option FieldType} (hd : decode cc pc = .ok (.invokestatic idx, 3)) (hw : zz_cv own idx y cc' nL' ret' 3) (hi : Cond.static y ∈ zz_T) (hd' : d' + 1 ≤ d) (hS8 : cat8 S ≤ 8) (hM : Mt E d' y cc' nL' ret' [v0, v1, v2] m Q') (kk : ∀ r m', Q' r m' → Ex E cc nL own d Q (pc + 3) L (r.toList ++ S) m') : Ex E cc nL own d Q pc L (v2 :: v1 :: v0 :: S) m :=
  x_callsG (As := [v0, v1, v2]) hd hw hi rfl hd' hS8 rfl hM kk
theorem x_callv4 {v0 v1 v2 v3 : zz_V} {y : MethodName} {cc' : ByteArray} {nL' : Nat} {ret' : Option FieldType} {T : u_T} (hd : decode cc pc = .ok (.invokevirtual idx, 3)) (hw : zz_cv own idx y cc' nL' ret' 4) (hi : Cond.instanceMethod y ∈ zz_T ∧ Cond.selects y.cls y y ∈ zz_T)
    (hk : kd o = (ci + 2, N)) (hcl : zz_cl[ci]? = some (y.cls, T, N)) (hd' : d' + 1 ≤ d) (hS8 : cat8 S ≤ 8) (hM : Mt E d' y cc' nL' ret' [zr o, v0, v1, v2, v3] m Q') (kk : ∀ r m', Q' r m' → Ex E cc nL own d Q (pc + 3) L (r.toList ++ S) m') : Ex E cc nL own d Q pc L (v3 :: v2 :: v1 :: v0 :: zr o :: S) m :=
  x_callvG (As := [v0, v1, v2, v3]) hd hw hi rfl hk hcl hd' hS8 rfl hM kk
theorem x_calls4 {v0 v1 v2 v3 : zz_V} {y : MethodName} {cc' : ByteArray} {nL' : Nat} {ret' : Option FieldType} (hd : decode cc pc = .ok (.invokestatic idx, 3)) (hw : zz_cv own idx y cc' nL' ret' 4) (hi : Cond.static y ∈ zz_T) (hd' : d' + 1 ≤ d) (hS8 : cat8 S ≤ 8) (hM : Mt E d' y cc' nL' ret' [v0, v1, v2, v3] m Q') (kk : ∀ r m', Q' r m' → Ex E cc nL own d Q (pc + 3) L (r.toList ++ S) m') : Ex E cc nL own d Q pc L (v3 :: v2 :: v1 :: v0 :: S) m :=
  x_callsG (As := [v0, v1, v2, v3]) hd hw hi rfl hd' hS8 rfl hM kk
/-- Math.abs, Math.max -/
def zz_ma (own : String) (idx : Nat) : Prop := Cond.methodLink own idx Lib.Math.abs.name ∈ zz_T ∧ Cond.static Lib.Math.abs.name ∈ zz_T ∧ Cond.initialized "java/lang/Math" ∈ zz_T ∧ Cond.code Lib.Math.abs.name Lib.Math.abs.code 1 (some .int) ∈ zz_T
def zz_mx (own : String) (idx : Nat) : Prop := Cond.methodLink own idx Lib.Math.max.name ∈ zz_T ∧ Cond.static Lib.Math.max.name ∈ zz_T ∧ Cond.initialized "java/lang/Math" ∈ zz_T ∧ Cond.code Lib.Math.max.name Lib.Math.max.code 2 (some .int) ∈ zz_T
theorem x_abs {a : Int} (hd : decode cc pc = .ok (.invokestatic idx, 3)) (hw : zz_ma own idx) (hd' : 1 ≤ d) (hS8 : cat8 S ≤ 8) (hv : nrm (if 0 ≤ a then a else -a) = v) (kk : Ex E cc nL own d Q (pc + 3) L (zi v :: S) m) : Ex E cc nL own d Q pc L (zi a :: S) m := by
  subst hv
  refine ex_st (fun _ hS hm => ok_cons (v := zi _) (nrm_in _) (ok_tl hS)) (fun p l e R s mi args below meth c A D cI cY ad cells slots Qs H locs ls hC hL hS hm hP hV hl kq => ?_) kk
  have ha : zz_in a := ok_hd hS
  have hts := hC.1.2.2.2.2
  have h8 := catsum_eq ad S
  unfold catsum at h8
  have hR1 := hC.2.2.2.2.2.1
  have hR2 := hC.2.2.2.2.2.2.1
  refine va_mabs hC.1.1 hC.1.2.1 (hC.1.2.2.1.trans hl.1.symm) hC.1.2.2.2.1 (hts _ hw.1) (hts _ hw.2.1) (hts _ hw.2.2.1) (hts _ hw.2.2.2) (by omega) (by rw [h8]; omega) hC.2.2.2.2.2.2.2.1 hC.2.2.2.2.2.2.2.2 hd ?_
  have e0 : (if 0 ≤ Int32.ofInt a then Int32.ofInt a else 0 - Int32.ofInt a) = Int32.ofInt (nrm (if 0 ≤ a then a else -a)) := by
    rw [i32_nrm]
    have h : (0 : Int32) ≤ Int32.ofInt a ↔ 0 ≤ a := i32_le (a := 0) (b := a) ⟨by decide, by decide⟩ ha
    by_cases h0 : 0 ≤ a
    · rw [if_pos h0, if_pos (h.mpr h0)]
    · rw [if_neg h0, if_neg (fun q => h0 (h.mp q)), Int32.ofInt_neg, Int32.zero_sub]
  rw [e0]
  exact kq
theorem x_max {a b : Int} (hd : decode cc pc = .ok (.invokestatic idx, 3)) (hw : zz_mx own idx) (hd' : 1 ≤ d) (hS8 : cat8 S ≤ 8) (hv : (if a < b then b else a) = v) (kk : Ex E cc nL own d Q (pc + 3) L (zi v :: S) m) : Ex E cc nL own d Q pc L (zi b :: zi a :: S) m := by
  subst hv
  refine ex_st (fun _ hS hm => ok_cons (v := zi _) (by split; exact ok_hd hS; exact ok_hd (ok_tl hS)) (ok_tl (ok_tl hS))) (fun p l e R s mi args below meth c A D cI cY ad cells slots Qs H locs ls hC hL hS hm hP hV hl kq => ?_) kk
  have ha : zz_in a := ok_hd (ok_tl hS)
  have hb : zz_in b := ok_hd hS
  have hts := hC.1.2.2.2.2
  have h8 := catsum_eq ad S
  unfold catsum at h8
  have hR1 := hC.2.2.2.2.2.1
  have hR2 := hC.2.2.2.2.2.2.1
  refine va_mmax hC.1.1 hC.1.2.1 (hC.1.2.2.1.trans hl.1.symm) hC.1.2.2.2.1 (hts _ hw.1) (hts _ hw.2.1) (hts _ hw.2.2.1) (hts _ hw.2.2.2) (by omega) (by rw [h8]; omega) hC.2.2.2.2.2.2.2.1 hC.2.2.2.2.2.2.2.2 hd ?_
  have e0 : (if Int32.ofInt a < Int32.ofInt b then Int32.ofInt b else Int32.ofInt a) = Int32.ofInt (if a < b then b else a) := by
    by_cases h0 : a < b
    · rw [if_pos h0, if_pos ((i32_lt ha hb).mpr h0)]
    · rw [if_neg h0, if_neg (fun q => h0 ((i32_lt ha hb).mp q))]
  rw [e0]
  exact kq
/-- System.arraycopy from the start of one array to the start of another -/
def cpm (m : zz_M) (a b n : Nat) : zz_M := fun k j => if k = b ∧ j < n then m a j else m k j
def zz_ac (own : String) (idx : Nat) : Prop := Cond.methodLink own idx arraycopyName ∈ zz_T ∧ Cond.native arraycopyName ∈ zz_T ∧ Cond.static arraycopyName ∈ zz_T ∧ Cond.initialized "java/lang/System" ∈ zz_T
theorem x_copy {a b na nb len : Nat} {z : Int} (hd : decode cc pc = .ok (.invokestatic idx, 3)) (hw : zz_ac own idx) (hd' : 1 ≤ d) (hS8 : cat8 S ≤ 8) (ha : kd a = (0, na)) (hb : kd b = (0, nb)) (hz : (len : Int) = z) (h1 : len ≤ na) (h2 : len ≤ nb) (kk : Ex E cc nL own d Q (pc + 3) L S (cpm m a b len)) : Ex E cc nL own d Q pc L (zi z :: zi 0 :: zr b :: zi 0 :: zr a :: S) m := by
  subst hz
  intro p l e R s mi args below meth c A D cI cY ad cells slots Qs hC hK H locs ls hL hS hm hP hV hl
  have hzi : zz_in (len : Int) := ok_hd hS
  have h0i : zz_in 0 := ⟨by decide, by decide⟩
  have hts := hC.1.2.2.2.2
  have h8 := catsum_eq ad S
  unfold catsum at h8
  have hR1 := hC.2.2.2.2.2.1
  have hR2 := hC.2.2.2.2.2.2.1
  have e0 : (Int32.ofInt 0).toNatClampNeg = 0 := by decide
  have el : (Int32.ofInt (len : Int)).toNatClampNeg = len := by rw [i32_idx hzi (by omega)]; omega
  have hnn : ¬ Int32.ofInt (len : Int) < 0 := by
    intro q
    have := (i32_lt hzi h0i).mp q
    omega
  have hset : (wl ad cI cY m).set b (ad b, .inl (cI, (nb, .inl (va_cpy (fun j => Int32.ofInt (m a j)) (fun j => Int32.ofInt (m b j)) (Int32.ofInt 0).toNatClampNeg (Int32.ofInt 0).toNatClampNeg (Int32.ofInt (len : Int)).toNatClampNeg)))) = wl ad cI cY (cpm m a b len) := by
    refine wl_set (fun k' h => by funext j; exact if_neg (fun q => h q.1)) ?_
    rw [ce_arr hb, e0, el]
    congr 4
    funext j
    unfold va_cpy cpm
    by_cases hj : j < len
    · rw [if_pos ⟨rfl, hj⟩, if_pos ⟨Nat.zero_le _, by omega⟩]
      simp
    · rw [if_neg (fun q => hj q.2), if_neg (fun q => hj (by omega))]
  refine va_copyi hC.1.1 hC.1.2.1 (hC.1.2.2.1.trans hl.1.symm) hC.1.2.2.2.1 (hts _ hw.1) (hts _ hw.2.1) (hts _ hw.2.2.1) (hts _ hw.2.2.2) hC.2.1 hP (wl_D hC.2.2.2.2.1) hV a b 0 0 (wl_arr ha) (wl_arr hb) rfl rfl rfl (by decide) (by decide) hnn (by rw [e0, el]; omega) (by rw [e0, el]; omega) (fun i hi => rfl) (by omega) (by rw [h8, show nativeFrameWords "java/lang/System" "arraycopy" 5 = 7 from by decide]; omega) hd (fun H1 locs1 hP1 _ hV1 => ?_)
  rw [hset] at hP1
  refine kk p l e R s mi args below meth c A D cI cY ad cells slots Qs hC hK H1 locs1 ls hL (ok_tl (ok_tl (ok_tl (ok_tl (ok_tl hS))))) (fun k j => ?_) hP1 hV1 hl
  unfold cpm
  split
  · exact hm _ _
  · exact hm _ _
end EXK
/-! ===== a method's contract out of its run ===== -/
def entL : List zz_V → List (Option zz_V)
  | [] => []
  | .inr (.inl z) :: as => some (zj z) :: none :: entL as
  | v :: as => some v :: entL as
theorem gl_app_none {ad : Nat → Nat} (n : Nat) : ∀ (i : Nat), gl ad i (List.replicate n none) = [] := by
  induction n with
  | zero => intro i; rfl
  | succ n ih => intro i; rw [List.replicate_succ, gl, ih]
theorem gl_ent {ad : Nat → Nat} (n : Nat) : ∀ (as : List zz_V) (i : Nat), gl ad i (entL as ++ List.replicate n none) = lv_args i (as.map (gv ad))
  | [], i => gl_app_none n i
  | .inl z :: as, i => by
    show _ :: gl ad (i + 1) (entL as ++ List.replicate n none) = _
    rw [gl_ent n as (i + 1)]
    rfl
  | .inr (.inl z) :: as, i => by
    show _ :: gl ad (i + 1 + 1) (entL as ++ List.replicate n none) = _
    rw [gl_ent n as (i + 1 + 1)]
    rfl
  | .inr (.inr z) :: as, i => by
    show _ :: gl ad (i + 1) (entL as ++ List.replicate n none) = _
    rw [gl_ent n as (i + 1)]
    rfl
def lens : List zz_V → Nat
  | [] => 0
  | .inr (.inl _) :: as => 2 + lens as
  | _ :: as => 1 + lens as
theorem lens_eq {ad : Nat → Nat} : ∀ as : List zz_V, (lg_sl (as.map (gv ad))).length = lens as
  | [] => rfl
  | .inl z :: as => by
    have h := lens_eq (ad := ad) as
    unfold lg_sl at h ⊢
    rw [List.map_cons, List.flatMap_cons, List.length_append, h]
    rfl
  | .inr (.inl z) :: as => by
    have h := lens_eq (ad := ad) as
    unfold lg_sl at h ⊢
    rw [List.map_cons, List.flatMap_cons, List.length_append, h]
    rfl
  | .inr (.inr z) :: as => by
    have h := lens_eq (ad := ad) as
    unfold lg_sl at h ⊢
    rw [List.map_cons, List.flatMap_cons, List.length_append, h]
    rfl
theorem Mt.of {E : zz_E} {d : Nat} {y : MethodName} {cc : ByteArray} {nL : Nat} {ret : Option FieldType} {as : List zz_V} {m : zz_M} {Q : Option zz_V → zz_M → Prop} (n : Nat) (hy : plainName y.cls = true) (hn : lens as ≤ nL)
    (hret : ret = some .int ∨ (ret = some .boolean ∧ ∀ z m', Q (some (zi z)) m' → z = 0 ∨ z = 1) ∨ ret = some .long ∨ ret = none) (hrt : ∀ r m', Q r m' → (ret = none ↔ r = none) ∧ (ret = some .long ↔ ∃ z, r = some (zj z)))
    (hex : Ex E cc nL y.cls d Q 0 (entL as ++ List.replicate n none) [] m) : Mt E d y cc nL ret as m Q := by
  intro hE has hm l A D cI cY ad had
  refine Met.ofW (cc := cc) (maxL := nL) (ret := ret) hy rfl ?_
  intro p e s mi args below meth c s₁ B hml hv
  obtain ⟨rfl, hP, hKn, hRo, hNf⟩ := hv
  have hts := atoms_spec (ws := Cond.code y cc nL ret :: zz_G) B.pre
  have hown : s.vm.findClass y.cls = some mi.cls := findClass_of_methodNamed B.named
  have hlocks := B.notSynchronized
  have hr := B.returns
  have hl := lv_entry (as.map (gv ad)) (n := nL) (by rw [lens_eq]; exact hn)
  rw [lg_entry_eq]
  generalize (lg_sl (as.map (gv ad)) ++ List.replicate (nL - (lg_sl (as.map (gv ad))).length) Slot.unset).toArray = ls at hl ⊢
  rw [← gl_ent n as 0] at hl
  have hC : zz_C E p (headSpec (Cond.code y cc nL ret :: zz_G) (zz_rm d)).room s mi (as.map (gv ad)).toArray meth c cc nL y.cls A D cI cY ad d 0 0 :=
    ⟨⟨B.exec, B.bytes, hml, hown, zz_T_of (fun w hw => hts w (List.mem_cons_of_mem _ hw)) hNf⟩, hKn, hRo, hE, had, Nat.le_refl _, Nat.le_refl _, Nat.le_refl _, Nat.le_refl _⟩
  refine hex p l e _ s mi _ below meth c A D cI cY ad 0 0 _ hC ?_ s.heap [] ls ?_ (fun v hv => by cases hv) hm hP va_S.rf hl
  · intro r pc' S' ls' m' H' locs' hrt' hq hS' hm' hP' hV'
    have fin : ∀ t : State, t.heap = H' → s.WarmedH t.vm → zz_Qc E A D cI cY ad Q (as.map (gv ad)).toArray s (.returned (r.map (gv ad))) t := by
      intro t ht hW
      refine ⟨⟨r, m', rfl, hq, fun v hv => ?_, hm', by rw [ht]; exact hP'⟩, hV'.F ht⟩
      subst hv
      match v, hrt' with
      | .inl z, h => exact hS' _ (by rw [h.1]; exact List.mem_cons_self)
      | .inr (.inl z), h => exact hS' _ (by rw [h.1]; exact List.mem_cons_self)
      | .inr (.inr z), h => exact trivial
    have hr1 := hrt r m' hq
    match r, hrt', fin, hr1, hq with
    | none, ⟨h1, h2⟩, fin, hr1, _ =>
      subst h1
      have hr0 : ret = none := hr1.1.mpr rfl
      subst hr0
      exact W.vret B.exec B.bytes hr fin hV'.2.2 h2
    | some (.inl z), ⟨h1, h2⟩, fin, hr1, hq =>
      subst h1
      rcases hret with h | ⟨h, hz⟩ | h | h
      · subst h
        exact W.iret B.exec B.bytes hr fin hV'.2.2 h2
      · subst h
        rcases hz z m' hq with rfl | rfl
        · exact W.zret B.exec B.bytes hr (by decide +kernel : narrow .boolean (.int (Int32.ofInt 0)) = .int (Int32.ofInt 0)) fin hV'.2.2 h2
        · exact W.zret B.exec B.bytes hr (by decide +kernel : narrow .boolean (.int (Int32.ofInt 1)) = .int (Int32.ofInt 1)) fin hV'.2.2 h2
      · obtain ⟨z', hz'⟩ := hr1.2.mp h
        cases hz'
      · exact absurd (hr1.1.mp h) (by simp)
    | some (.inr (.inl z)), ⟨h1, h2⟩, fin, hr1, _ =>
      subst h1
      have hr0 : ret = some .long := hr1.2.mpr ⟨z, rfl⟩
      subst hr0
      exact W.lret B.exec B.bytes hr fin hV'.2.2 h2
  · intro v hv
    have : ∀ (as : List zz_V), (∀ v ∈ as, okv v) → ∀ v, some v ∈ entL as ++ List.replicate n none → okv v := by
      intro as
      induction as with
      | nil =>
        intro _ v hv
        have hv : some v ∈ List.replicate n (none : Option zz_V) := hv
        have := List.eq_of_mem_replicate hv
        cases this
      | cons w as ih =>
        intro h v hv
        have h2 := ih (fun v hv => h v (List.mem_cons_of_mem _ hv))
        have h3 := h w List.mem_cons_self
        match w, hv, h3 with
        | .inl z, hv, h3 =>
          rcases List.mem_cons.mp hv with q | q
          · cases q; exact h3
          · exact h2 v q
        | .inr (.inr z), hv, h3 =>
          rcases List.mem_cons.mp hv with q | q
          · cases q; exact h3
          · exact h2 v q
        | .inr (.inl z), hv, h3 =>
          rcases List.mem_cons.mp hv with q | q
          · cases q; exact h3
          · rcases List.mem_cons.mp q with q | q
            · cases q
            · exact h2 v q
    exact this as has v hv
end
section
/-! ===== what the tables say of each link ===== -/
def zz_RL : String := "NobodyLookedYesterdayLaw"
theorem fd_X2_9 : zz_fd RX2 9 2 0 13 := ⟨RX2, TX2, rfl, by decide, Or.inl (zz_T_mem (List.mem_of_getElem? (i := 71) (by decide +kernel)) (by decide +kernel))⟩
theorem fd_X3_69 : zz_fd RX3 69 2 0 13 := ⟨RX2, TX2, rfl, by decide, Or.inr ⟨"NobodyLookedYesterday", zz_T_mem (List.mem_of_getElem? (i := 72) (by decide +kernel)) (by decide +kernel)⟩⟩
theorem fd_X2_15 : zz_fd RX2 15 2 1 13 := ⟨RX2, TX2, rfl, by decide, Or.inl (zz_T_mem (List.mem_of_getElem? (i := 73) (by decide +kernel)) (by decide +kernel))⟩
theorem fd_X3_72 : zz_fd RX3 72 2 1 13 := ⟨RX2, TX2, rfl, by decide, Or.inr ⟨"NobodyLookedYesterday", zz_T_mem (List.mem_of_getElem? (i := 74) (by decide +kernel)) (by decide +kernel)⟩⟩
theorem fd_X2_18 : zz_fd RX2 18 2 2 13 := ⟨RX2, TX2, rfl, by decide, Or.inl (zz_T_mem (List.mem_of_getElem? (i := 75) (by decide +kernel)) (by decide +kernel))⟩
theorem fd_X3_75 : zz_fd RX3 75 2 2 13 := ⟨RX2, TX2, rfl, by decide, Or.inr ⟨"NobodyLookedYesterday", zz_T_mem (List.mem_of_getElem? (i := 76) (by decide +kernel)) (by decide +kernel)⟩⟩
theorem fd_X2_21 : zz_fd RX2 21 2 3 13 := ⟨RX2, TX2, rfl, by decide, Or.inl (zz_T_mem (List.mem_of_getElem? (i := 77) (by decide +kernel)) (by decide +kernel))⟩
theorem fd_X3_78 : zz_fd RX3 78 2 3 13 := ⟨RX2, TX2, rfl, by decide, Or.inr ⟨"NobodyLookedYesterday", zz_T_mem (List.mem_of_getElem? (i := 78) (by decide +kernel)) (by decide +kernel)⟩⟩
theorem fd_X2_24 : zz_fd RX2 24 2 4 13 := ⟨RX2, TX2, rfl, by decide, Or.inl (zz_T_mem (List.mem_of_getElem? (i := 79) (by decide +kernel)) (by decide +kernel))⟩
theorem fd_X3_180 : zz_fd RX3 180 2 4 13 := ⟨RX2, TX2, rfl, by decide, Or.inr ⟨"NobodyLookedYesterday", zz_T_mem (List.mem_of_getElem? (i := 80) (by decide +kernel)) (by decide +kernel)⟩⟩
theorem fd_X2_27 : zz_fd RX2 27 2 5 13 := ⟨RX2, TX2, rfl, by decide, Or.inl (zz_T_mem (List.mem_of_getElem? (i := 81) (by decide +kernel)) (by decide +kernel))⟩
theorem fd_X1_39 : zz_fd RX1 39 2 5 13 := ⟨RX2, TX2, rfl, by decide, Or.inr ⟨"NobodyLookedYesterday", zz_T_mem (List.mem_of_getElem? (i := 82) (by decide +kernel)) (by decide +kernel)⟩⟩
theorem fd_X3_99 : zz_fd RX3 99 2 5 13 := ⟨RX2, TX2, rfl, by decide, Or.inr ⟨"NobodyLookedYesterday", zz_T_mem (List.mem_of_getElem? (i := 83) (by decide +kernel)) (by decide +kernel)⟩⟩
theorem fd_X2_30 : zz_fd RX2 30 2 6 13 := ⟨RX2, TX2, rfl, by decide, Or.inl (zz_T_mem (List.mem_of_getElem? (i := 84) (by decide +kernel)) (by decide +kernel))⟩
theorem fd_X3_136 : zz_fd RX3 136 2 6 13 := ⟨RX2, TX2, rfl, by decide, Or.inr ⟨"NobodyLookedYesterday", zz_T_mem (List.mem_of_getElem? (i := 85) (by decide +kernel)) (by decide +kernel)⟩⟩
theorem fd_X1_28 : zz_fd RX1 28 2 7 13 := ⟨RX2, TX2, rfl, by decide, Or.inr ⟨"NobodyLookedYesterday", zz_T_mem (List.mem_of_getElem? (i := 86) (by decide +kernel)) (by decide +kernel)⟩⟩
theorem fd_X2_43 : zz_fd RX2 43 2 7 13 := ⟨RX2, TX2, rfl, by decide, Or.inl (zz_T_mem (List.mem_of_getElem? (i := 87) (by decide +kernel)) (by decide +kernel))⟩
theorem fd_X3_112 : zz_fd RX3 112 2 7 13 := ⟨RX2, TX2, rfl, by decide, Or.inr ⟨"NobodyLookedYesterday", zz_T_mem (List.mem_of_getElem? (i := 88) (by decide +kernel)) (by decide +kernel)⟩⟩
theorem fd_X2_33 : zz_fd RX2 33 2 8 13 := ⟨RX2, TX2, rfl, by decide, Or.inl (zz_T_mem (List.mem_of_getElem? (i := 89) (by decide +kernel)) (by decide +kernel))⟩
theorem fd_X1_97 : zz_fd RX1 97 2 8 13 := ⟨RX2, TX2, rfl, by decide, Or.inr ⟨"NobodyLookedYesterday", zz_T_mem (List.mem_of_getElem? (i := 90) (by decide +kernel)) (by decide +kernel)⟩⟩
theorem fd_X3_196 : zz_fd RX3 196 2 8 13 := ⟨RX2, TX2, rfl, by decide, Or.inr ⟨"NobodyLookedYesterday", zz_T_mem (List.mem_of_getElem? (i := 91) (by decide +kernel)) (by decide +kernel)⟩⟩
theorem fd_X2_56 : zz_fd RX2 56 2 9 13 := ⟨RX2, TX2, rfl, by decide, Or.inl (zz_T_mem (List.mem_of_getElem? (i := 92) (by decide +kernel)) (by decide +kernel))⟩
theorem fd_X1_49 : zz_fd RX1 49 2 9 13 := ⟨RX2, TX2, rfl, by decide, Or.inr ⟨"NobodyLookedYesterday", zz_T_mem (List.mem_of_getElem? (i := 93) (by decide +kernel)) (by decide +kernel)⟩⟩
theorem fd_X3_90 : zz_fd RX3 90 2 9 13 := ⟨RX2, TX2, rfl, by decide, Or.inr ⟨"NobodyLookedYesterday", zz_T_mem (List.mem_of_getElem? (i := 94) (by decide +kernel)) (by decide +kernel)⟩⟩
theorem fd_X2_46 : zz_fd RX2 46 2 10 13 := ⟨RX2, TX2, rfl, by decide, Or.inl (zz_T_mem (List.mem_of_getElem? (i := 95) (by decide +kernel)) (by decide +kernel))⟩
theorem fd_X3_199 : zz_fd RX3 199 2 10 13 := ⟨RX2, TX2, rfl, by decide, Or.inr ⟨"NobodyLookedYesterday", zz_T_mem (List.mem_of_getElem? (i := 96) (by decide +kernel)) (by decide +kernel)⟩⟩
theorem fd_X2_59 : zz_fd RX2 59 2 11 13 := ⟨RX2, TX2, rfl, by decide, Or.inl (zz_T_mem (List.mem_of_getElem? (i := 97) (by decide +kernel)) (by decide +kernel))⟩
theorem fd_X3_115 : zz_fd RX3 115 2 11 13 := ⟨RX2, TX2, rfl, by decide, Or.inr ⟨"NobodyLookedYesterday", zz_T_mem (List.mem_of_getElem? (i := 98) (by decide +kernel)) (by decide +kernel)⟩⟩
theorem fd_X1_104 : zz_fd RX1 104 2 11 13 := ⟨RX2, TX2, rfl, by decide, Or.inr ⟨"NobodyLookedYesterday", zz_T_mem (List.mem_of_getElem? (i := 99) (by decide +kernel)) (by decide +kernel)⟩⟩
theorem fd_X2_49 : zz_fd RX2 49 2 12 13 := ⟨RX2, TX2, rfl, by decide, Or.inl (zz_T_mem (List.mem_of_getElem? (i := 100) (by decide +kernel)) (by decide +kernel))⟩
theorem fd_X3_109 : zz_fd RX3 109 2 12 13 := ⟨RX2, TX2, rfl, by decide, Or.inr ⟨"NobodyLookedYesterday", zz_T_mem (List.mem_of_getElem? (i := 101) (by decide +kernel)) (by decide +kernel)⟩⟩
theorem fd_X1_12 : zz_fd RX1 12 1 0 6 := ⟨RX1, TX1, rfl, by decide, Or.inl (zz_T_mem (List.mem_of_getElem? (i := 139) (by decide +kernel)) (by decide +kernel))⟩
theorem fd_X1_18 : zz_fd RX1 18 1 1 6 := ⟨RX1, TX1, rfl, by decide, Or.inl (zz_T_mem (List.mem_of_getElem? (i := 140) (by decide +kernel)) (by decide +kernel))⟩
theorem fd_X1_22 : zz_fd RX1 22 1 2 6 := ⟨RX1, TX1, rfl, by decide, Or.inl (zz_T_mem (List.mem_of_getElem? (i := 141) (by decide +kernel)) (by decide +kernel))⟩
theorem fd_X1_25 : zz_fd RX1 25 1 3 6 := ⟨RX1, TX1, rfl, by decide, Or.inl (zz_T_mem (List.mem_of_getElem? (i := 142) (by decide +kernel)) (by decide +kernel))⟩
theorem fd_X1_32 : zz_fd RX1 32 1 4 6 := ⟨RX1, TX1, rfl, by decide, Or.inl (zz_T_mem (List.mem_of_getElem? (i := 143) (by decide +kernel)) (by decide +kernel))⟩
theorem fd_X1_83 : zz_fd RX1 83 1 5 6 := ⟨RX1, TX1, rfl, by decide, Or.inl (zz_T_mem (List.mem_of_getElem? (i := 144) (by decide +kernel)) (by decide +kernel))⟩
theorem fd_X3_147 : zz_fd RX3 147 1 5 6 := ⟨RX1, TX1, rfl, by decide, Or.inr ⟨"NobodyLookedYesterday", zz_T_mem (List.mem_of_getElem? (i := 145) (by decide +kernel)) (by decide +kernel)⟩⟩
theorem fd_X0_9 : zz_fd RX0 9 0 0 2 := ⟨RX0, TX0, rfl, by decide, Or.inl (zz_T_mem (List.mem_of_getElem? (i := 165) (by decide +kernel)) (by decide +kernel))⟩
theorem fd_X0_15 : zz_fd RX0 15 0 1 2 := ⟨RX0, TX0, rfl, by decide, Or.inl (zz_T_mem (List.mem_of_getElem? (i := 166) (by decide +kernel)) (by decide +kernel))⟩
theorem fd_X3_50 : zz_fd RX3 50 0 1 2 := ⟨RX0, TX0, rfl, by decide, Or.inr ⟨"NobodyLookedYesterday", zz_T_mem (List.mem_of_getElem? (i := 167) (by decide +kernel)) (by decide +kernel)⟩⟩
theorem fd_X3_10 : zz_fd RX3 10 3 0 10 := ⟨RX3, TX3, rfl, by decide, Or.inl (zz_T_mem (List.mem_of_getElem? (i := 173) (by decide +kernel)) (by decide +kernel))⟩
theorem fd_X3_16 : zz_fd RX3 16 3 1 10 := ⟨RX3, TX3, rfl, by decide, Or.inl (zz_T_mem (List.mem_of_getElem? (i := 174) (by decide +kernel)) (by decide +kernel))⟩
theorem fd_X3_19 : zz_fd RX3 19 3 2 10 := ⟨RX3, TX3, rfl, by decide, Or.inl (zz_T_mem (List.mem_of_getElem? (i := 175) (by decide +kernel)) (by decide +kernel))⟩
theorem fd_X3_25 : zz_fd RX3 25 3 3 10 := ⟨RX3, TX3, rfl, by decide, Or.inl (zz_T_mem (List.mem_of_getElem? (i := 176) (by decide +kernel)) (by decide +kernel))⟩
theorem fd_X3_32 : zz_fd RX3 32 3 4 10 := ⟨RX3, TX3, rfl, by decide, Or.inl (zz_T_mem (List.mem_of_getElem? (i := 177) (by decide +kernel)) (by decide +kernel))⟩
theorem fd_X3_36 : zz_fd RX3 36 3 5 10 := ⟨RX3, TX3, rfl, by decide, Or.inl (zz_T_mem (List.mem_of_getElem? (i := 178) (by decide +kernel)) (by decide +kernel))⟩
theorem fd_X3_40 : zz_fd RX3 40 3 6 10 := ⟨RX3, TX3, rfl, by decide, Or.inl (zz_T_mem (List.mem_of_getElem? (i := 179) (by decide +kernel)) (by decide +kernel))⟩
theorem fd_X3_43 : zz_fd RX3 43 3 7 10 := ⟨RX3, TX3, rfl, by decide, Or.inl (zz_T_mem (List.mem_of_getElem? (i := 180) (by decide +kernel)) (by decide +kernel))⟩
theorem fd_X3_156 : zz_fd RX3 156 3 8 10 := ⟨RX3, TX3, rfl, by decide, Or.inl (zz_T_mem (List.mem_of_getElem? (i := 181) (by decide +kernel)) (by decide +kernel))⟩
theorem fd_X3_192 : zz_fd RX3 192 3 9 10 := ⟨RX3, TX3, rfl, by decide, Or.inl (zz_T_mem (List.mem_of_getElem? (i := 182) (by decide +kernel)) (by decide +kernel))⟩
theorem cv_L_13 : zz_cv zz_RL 13 yX3_feed cX3_feed 2 (some .int) 1 := ⟨zz_T_mem (List.mem_of_getElem? (i := 204) (by decide +kernel)) (by decide +kernel), zz_T_mem (List.mem_of_getElem? (i := 49) (by decide +kernel)) (by decide +kernel), List.mem_filter.mpr ⟨List.mem_of_getElem? (i := 207) (by decide +kernel), by decide +kernel⟩, ⟨by decide +kernel, by decide +kernel⟩, by decide +kernel, by decide⟩
theorem cv_X3_46 : zz_cv RX3 46 yX3_refuse cX3_refuse 3 (some .int) 1 := ⟨zz_T_mem (List.mem_of_getElem? (i := 208) (by decide +kernel)) (by decide +kernel), zz_T_mem (List.mem_of_getElem? (i := 49) (by decide +kernel)) (by decide +kernel), List.mem_filter.mpr ⟨List.mem_of_getElem? (i := 211) (by decide +kernel), by decide +kernel⟩, ⟨by decide +kernel, by decide +kernel⟩, by decide +kernel, by decide⟩
theorem cv_X3_54 : zz_cv RX3 54 yX0_append cX0_append 2 (some .int) 1 := ⟨zz_T_mem (List.mem_of_getElem? (i := 212) (by decide +kernel)) (by decide +kernel), zz_T_mem (List.mem_of_getElem? (i := 52) (by decide +kernel)) (by decide +kernel), List.mem_filter.mpr ⟨List.mem_of_getElem? (i := 215) (by decide +kernel), by decide +kernel⟩, ⟨by decide +kernel, by decide +kernel⟩, by decide +kernel, by decide⟩
theorem cv_L_18 : zz_cv zz_RL 18 yX3_farm cX3_farm 2 (some .int) 0 := ⟨zz_T_mem (List.mem_of_getElem? (i := 216) (by decide +kernel)) (by decide +kernel), zz_T_mem (List.mem_of_getElem? (i := 49) (by decide +kernel)) (by decide +kernel), List.mem_filter.mpr ⟨List.mem_of_getElem? (i := 219) (by decide +kernel), by decide +kernel⟩, ⟨by decide +kernel, by decide +kernel⟩, by decide +kernel, by decide⟩
theorem cv_X3_57 : zz_cv RX3 57 yX2_copyFrom cX2_copyFrom 2 none 1 := ⟨zz_T_mem (List.mem_of_getElem? (i := 220) (by decide +kernel)) (by decide +kernel), zz_T_mem (List.mem_of_getElem? (i := 50) (by decide +kernel)) (by decide +kernel), List.mem_filter.mpr ⟨List.mem_of_getElem? (i := 223) (by decide +kernel), by decide +kernel⟩, ⟨by decide +kernel, by decide +kernel⟩, by decide +kernel, by decide⟩
theorem ac_X2_37 : zz_ac RX2 37 := ⟨zz_T_mem (List.mem_of_getElem? (i := 224) (by decide +kernel)) (by decide +kernel), zz_T_mem (List.mem_of_getElem? (i := 226) (by decide +kernel)) (by decide +kernel), zz_T_mem (List.mem_of_getElem? (i := 225) (by decide +kernel)) (by decide +kernel), zz_T_mem (List.mem_of_getElem? (i := 54) (by decide +kernel)) (by decide +kernel)⟩
theorem cv_X2_52 : zz_cv RX2 52 yX2_copyCourse cX2_copyCourse 2 none 1 := ⟨zz_T_mem (List.mem_of_getElem? (i := 227) (by decide +kernel)) (by decide +kernel), zz_T_mem (List.mem_of_getElem? (i := 50) (by decide +kernel)) (by decide +kernel), List.mem_filter.mpr ⟨List.mem_of_getElem? (i := 230) (by decide +kernel), by decide +kernel⟩, ⟨by decide +kernel, by decide +kernel⟩, by decide +kernel, by decide⟩
theorem cv_X3_61 : zz_cv RX3 61 yX0_readInto cX0_readInto 6 (some .int) 1 := ⟨zz_T_mem (List.mem_of_getElem? (i := 231) (by decide +kernel)) (by decide +kernel), zz_T_mem (List.mem_of_getElem? (i := 52) (by decide +kernel)) (by decide +kernel), List.mem_filter.mpr ⟨List.mem_of_getElem? (i := 234) (by decide +kernel), by decide +kernel⟩, ⟨by decide +kernel, by decide +kernel⟩, by decide +kernel, by decide⟩
theorem cv_X0_19 : zz_cv RX0 19 yX0_firstUnfit cX0_firstUnfit 4 (some .int) 0 := ⟨zz_T_mem (List.mem_of_getElem? (i := 235) (by decide +kernel)) (by decide +kernel), zz_T_mem (List.mem_of_getElem? (i := 52) (by decide +kernel)) (by decide +kernel), List.mem_filter.mpr ⟨List.mem_of_getElem? (i := 238) (by decide +kernel), by decide +kernel⟩, ⟨by decide +kernel, by decide +kernel⟩, by decide +kernel, by decide⟩
theorem cv_X0_31 : zz_cv RX0 31 yX0_leastDigits cX0_leastDigits 1 (some .int) 1 := ⟨zz_T_mem (List.mem_of_getElem? (i := 239) (by decide +kernel)) (by decide +kernel), zz_T_mem (List.mem_of_getElem? (i := 52) (by decide +kernel)) (by decide +kernel), List.mem_filter.mpr ⟨List.mem_of_getElem? (i := 241) (by decide +kernel), by decide +kernel⟩, ⟨by decide +kernel, by decide +kernel⟩, by decide +kernel, by decide⟩
theorem cv_X0_23 : zz_cv RX0 23 yX0_digitsBehind cX0_digitsBehind 5 (some .int) 1 := ⟨zz_T_mem (List.mem_of_getElem? (i := 242) (by decide +kernel)) (by decide +kernel), zz_T_mem (List.mem_of_getElem? (i := 52) (by decide +kernel)) (by decide +kernel), List.mem_filter.mpr ⟨List.mem_of_getElem? (i := 245) (by decide +kernel), by decide +kernel⟩, ⟨by decide +kernel, by decide +kernel⟩, by decide +kernel, by decide⟩
theorem cv_X0_34 : zz_cv RX0 34 yX0_letterAt cX0_letterAt 2 (some .int) 1 := ⟨zz_T_mem (List.mem_of_getElem? (i := 246) (by decide +kernel)) (by decide +kernel), zz_T_mem (List.mem_of_getElem? (i := 52) (by decide +kernel)) (by decide +kernel), List.mem_filter.mpr ⟨List.mem_of_getElem? (i := 249) (by decide +kernel), by decide +kernel⟩, ⟨by decide +kernel, by decide +kernel⟩, by decide +kernel, by decide⟩
theorem cv_X0_37 : zz_cv RX0 37 yX0_digitAt cX0_digitAt 3 (some .int) 1 := ⟨zz_T_mem (List.mem_of_getElem? (i := 250) (by decide +kernel)) (by decide +kernel), zz_T_mem (List.mem_of_getElem? (i := 52) (by decide +kernel)) (by decide +kernel), List.mem_filter.mpr ⟨List.mem_of_getElem? (i := 253) (by decide +kernel), by decide +kernel⟩, ⟨by decide +kernel, by decide +kernel⟩, by decide +kernel, by decide⟩
theorem cv_X0_27 : zz_cv RX0 27 yX0_applyStatement cX0_applyStatement 6 (some .boolean) 3 := ⟨zz_T_mem (List.mem_of_getElem? (i := 254) (by decide +kernel)) (by decide +kernel), zz_T_mem (List.mem_of_getElem? (i := 52) (by decide +kernel)) (by decide +kernel), List.mem_filter.mpr ⟨List.mem_of_getElem? (i := 257) (by decide +kernel), by decide +kernel⟩, ⟨by decide +kernel, by decide +kernel⟩, by decide +kernel, by decide⟩
theorem cv_X0_40 : zz_cv RX0 40 yX2_addNest cX2_addNest 5 (some .boolean) 4 := ⟨zz_T_mem (List.mem_of_getElem? (i := 258) (by decide +kernel)) (by decide +kernel), zz_T_mem (List.mem_of_getElem? (i := 50) (by decide +kernel)) (by decide +kernel), List.mem_filter.mpr ⟨List.mem_of_getElem? (i := 261) (by decide +kernel), by decide +kernel⟩, ⟨by decide +kernel, by decide +kernel⟩, by decide +kernel, by decide⟩
theorem cv_X0_46 : zz_cv RX0 46 yX2_change cX2_change 3 (some .boolean) 2 := ⟨zz_T_mem (List.mem_of_getElem? (i := 262) (by decide +kernel)) (by decide +kernel), zz_T_mem (List.mem_of_getElem? (i := 50) (by decide +kernel)) (by decide +kernel), List.mem_filter.mpr ⟨List.mem_of_getElem? (i := 265) (by decide +kernel), by decide +kernel⟩, ⟨by decide +kernel, by decide +kernel⟩, by decide +kernel, by decide⟩
theorem st_X2_62 : zz_st RX2 62 77 := ⟨"LEAST", Or.inl ⟨rfl, rfl⟩, Or.inr ⟨"NobodyLookedYesterday", zz_T_mem (List.mem_of_getElem? (i := 266) (by decide +kernel)) (by decide +kernel)⟩⟩
theorem st_X2_65 : zz_st RX2 65 78 := ⟨"GREATEST", Or.inr ⟨rfl, rfl⟩, Or.inr ⟨"NobodyLookedYesterday", zz_T_mem (List.mem_of_getElem? (i := 268) (by decide +kernel)) (by decide +kernel)⟩⟩
theorem cv_X0_50 : zz_cv RX0 50 yX2_addEgg cX2_addEgg 4 (some .boolean) 2 := ⟨zz_T_mem (List.mem_of_getElem? (i := 270) (by decide +kernel)) (by decide +kernel), zz_T_mem (List.mem_of_getElem? (i := 50) (by decide +kernel)) (by decide +kernel), List.mem_filter.mpr ⟨List.mem_of_getElem? (i := 273) (by decide +kernel), by decide +kernel⟩, ⟨by decide +kernel, by decide +kernel⟩, by decide +kernel, by decide⟩
theorem cv_L_23 : zz_cv zz_RL 23 yX3_nest cX3_nest 3 (some .int) 2 := ⟨zz_T_mem (List.mem_of_getElem? (i := 274) (by decide +kernel)) (by decide +kernel), zz_T_mem (List.mem_of_getElem? (i := 49) (by decide +kernel)) (by decide +kernel), List.mem_filter.mpr ⟨List.mem_of_getElem? (i := 277) (by decide +kernel), by decide +kernel⟩, ⟨by decide +kernel, by decide +kernel⟩, by decide +kernel, by decide⟩
theorem cv_X3_65 : zz_cv RX3 65 yX3_isNoNest cX3_isNoNest 2 (some .boolean) 1 := ⟨zz_T_mem (List.mem_of_getElem? (i := 278) (by decide +kernel)) (by decide +kernel), zz_T_mem (List.mem_of_getElem? (i := 49) (by decide +kernel)) (by decide +kernel), List.mem_filter.mpr ⟨List.mem_of_getElem? (i := 281) (by decide +kernel), by decide +kernel⟩, ⟨by decide +kernel, by decide +kernel⟩, by decide +kernel, by decide⟩
theorem cv_X3_81 : zz_cv RX3 81 yX2_eggsAt cX2_eggsAt 5 (some .int) 1 := ⟨zz_T_mem (List.mem_of_getElem? (i := 282) (by decide +kernel)) (by decide +kernel), zz_T_mem (List.mem_of_getElem? (i := 50) (by decide +kernel)) (by decide +kernel), List.mem_filter.mpr ⟨List.mem_of_getElem? (i := 285) (by decide +kernel), by decide +kernel⟩, ⟨by decide +kernel, by decide +kernel⟩, by decide +kernel, by decide⟩
theorem cv_X3_84 : zz_cv RX3 84 yX2_greatestAge cX2_greatestAge 3 (some .int) 1 := ⟨zz_T_mem (List.mem_of_getElem? (i := 286) (by decide +kernel)) (by decide +kernel), zz_T_mem (List.mem_of_getElem? (i := 50) (by decide +kernel)) (by decide +kernel), List.mem_filter.mpr ⟨List.mem_of_getElem? (i := 289) (by decide +kernel), by decide +kernel⟩, ⟨by decide +kernel, by decide +kernel⟩, by decide +kernel, by decide⟩
theorem cv_X3_87 : zz_cv RX3 87 yX3_weightTonight cX3_weightTonight 2 (some .int) 1 := ⟨zz_T_mem (List.mem_of_getElem? (i := 290) (by decide +kernel)) (by decide +kernel), zz_T_mem (List.mem_of_getElem? (i := 49) (by decide +kernel)) (by decide +kernel), List.mem_filter.mpr ⟨List.mem_of_getElem? (i := 293) (by decide +kernel), by decide +kernel⟩, ⟨by decide +kernel, by decide +kernel⟩, by decide +kernel, by decide⟩
theorem cv_X3_118 : zz_cv RX3 118 yX2_allNests cX2_allNests 1 (some .int) 0 := ⟨zz_T_mem (List.mem_of_getElem? (i := 294) (by decide +kernel)) (by decide +kernel), zz_T_mem (List.mem_of_getElem? (i := 50) (by decide +kernel)) (by decide +kernel), List.mem_filter.mpr ⟨List.mem_of_getElem? (i := 297) (by decide +kernel), by decide +kernel⟩, ⟨by decide +kernel, by decide +kernel⟩, by decide +kernel, by decide⟩
theorem cv_X3_128 : zz_cv RX3 128 yX2_mayAmong cX2_mayAmong 3 (some .int) 1 := ⟨zz_T_mem (List.mem_of_getElem? (i := 298) (by decide +kernel)) (by decide +kernel), zz_T_mem (List.mem_of_getElem? (i := 50) (by decide +kernel)) (by decide +kernel), List.mem_filter.mpr ⟨List.mem_of_getElem? (i := 301) (by decide +kernel), by decide +kernel⟩, ⟨by decide +kernel, by decide +kernel⟩, by decide +kernel, by decide⟩
theorem cv_X3_133 : zz_cv RX3 133 yX2_weigh cX2_weigh 4 (some .int) 1 := ⟨zz_T_mem (List.mem_of_getElem? (i := 302) (by decide +kernel)) (by decide +kernel), zz_T_mem (List.mem_of_getElem? (i := 50) (by decide +kernel)) (by decide +kernel), List.mem_filter.mpr ⟨List.mem_of_getElem? (i := 305) (by decide +kernel), by decide +kernel⟩, ⟨by decide +kernel, by decide +kernel⟩, by decide +kernel, by decide⟩
theorem cv_X2_78 : zz_cv RX2 78 yX2_weightOf cX2_weightOf 5 (some .int) 1 := ⟨zz_T_mem (List.mem_of_getElem? (i := 306) (by decide +kernel)) (by decide +kernel), zz_T_mem (List.mem_of_getElem? (i := 50) (by decide +kernel)) (by decide +kernel), List.mem_filter.mpr ⟨List.mem_of_getElem? (i := 309) (by decide +kernel), by decide +kernel⟩, ⟨by decide +kernel, by decide +kernel⟩, by decide +kernel, by decide⟩
theorem ma_X2_89 : zz_ma RX2 89 := ⟨zz_T_mem (List.mem_of_getElem? (i := 310) (by decide +kernel)) (by decide +kernel), zz_T_mem (List.mem_of_getElem? (i := 311) (by decide +kernel)) (by decide +kernel), zz_T_mem (List.mem_of_getElem? (i := 55) (by decide +kernel)) (by decide +kernel), zz_T_mem (List.mem_of_getElem? (i := 312) (by decide +kernel)) (by decide +kernel)⟩
theorem cv_X2_68 : zz_cv RX2 68 yX2_eggsAt cX2_eggsAt 5 (some .int) 1 := ⟨zz_T_mem (List.mem_of_getElem? (i := 313) (by decide +kernel)) (by decide +kernel), zz_T_mem (List.mem_of_getElem? (i := 50) (by decide +kernel)) (by decide +kernel), List.mem_filter.mpr ⟨List.mem_of_getElem? (i := 285) (by decide +kernel), by decide +kernel⟩, ⟨by decide +kernel, by decide +kernel⟩, by decide +kernel, by decide⟩
theorem mx_X2_94 : zz_mx RX2 94 := ⟨zz_T_mem (List.mem_of_getElem? (i := 314) (by decide +kernel)) (by decide +kernel), zz_T_mem (List.mem_of_getElem? (i := 315) (by decide +kernel)) (by decide +kernel), zz_T_mem (List.mem_of_getElem? (i := 55) (by decide +kernel)) (by decide +kernel), zz_T_mem (List.mem_of_getElem? (i := 316) (by decide +kernel)) (by decide +kernel)⟩
theorem cv_X2_81 : zz_cv RX2 81 yX2_weighAlike cX2_weighAlike 3 (some .int) 1 := ⟨zz_T_mem (List.mem_of_getElem? (i := 317) (by decide +kernel)) (by decide +kernel), zz_T_mem (List.mem_of_getElem? (i := 50) (by decide +kernel)) (by decide +kernel), List.mem_filter.mpr ⟨List.mem_of_getElem? (i := 320) (by decide +kernel), by decide +kernel⟩, ⟨by decide +kernel, by decide +kernel⟩, by decide +kernel, by decide⟩
theorem cv_X2_84 : zz_cv RX2 84 yJ6_bitCount_0f7a4 cJ6_bitCount_0f7a4 1 (some .int) 1 := ⟨zz_T_mem (List.mem_of_getElem? (i := 321) (by decide +kernel)) (by decide +kernel), zz_T_mem (List.mem_of_getElem? (i := 56) (by decide +kernel)) (by decide +kernel), List.mem_filter.mpr ⟨List.mem_of_getElem? (i := 323) (by decide +kernel), by decide +kernel⟩, ⟨by decide +kernel, by decide +kernel⟩, by decide +kernel, by decide⟩
theorem cv_L_28 : zz_cv zz_RL 28 yX3_set cX3_set 4 (some .int) 2 := ⟨zz_T_mem (List.mem_of_getElem? (i := 327) (by decide +kernel)) (by decide +kernel), zz_T_mem (List.mem_of_getElem? (i := 49) (by decide +kernel)) (by decide +kernel), List.mem_filter.mpr ⟨List.mem_of_getElem? (i := 330) (by decide +kernel), by decide +kernel⟩, ⟨by decide +kernel, by decide +kernel⟩, by decide +kernel, by decide⟩
theorem st_X3_93 : zz_st RX3 93 77 := ⟨"LEAST", Or.inl ⟨rfl, rfl⟩, Or.inl (zz_T_mem (List.mem_of_getElem? (i := 331) (by decide +kernel)) (by decide +kernel))⟩
theorem st_X3_96 : zz_st RX3 96 78 := ⟨"GREATEST", Or.inr ⟨rfl, rfl⟩, Or.inl (zz_T_mem (List.mem_of_getElem? (i := 332) (by decide +kernel)) (by decide +kernel))⟩
theorem cv_L_32 : zz_cv zz_RL 32 yX3_look cX3_look 4 (some .int) 1 := ⟨zz_T_mem (List.mem_of_getElem? (i := 333) (by decide +kernel)) (by decide +kernel), zz_T_mem (List.mem_of_getElem? (i := 49) (by decide +kernel)) (by decide +kernel), List.mem_filter.mpr ⟨List.mem_of_getElem? (i := 336) (by decide +kernel), by decide +kernel⟩, ⟨by decide +kernel, by decide +kernel⟩, by decide +kernel, by decide⟩
theorem cv_X3_102 : zz_cv RX3 102 yX2_timeLeft cX2_timeLeft 1 (some .int) 0 := ⟨zz_T_mem (List.mem_of_getElem? (i := 337) (by decide +kernel)) (by decide +kernel), zz_T_mem (List.mem_of_getElem? (i := 50) (by decide +kernel)) (by decide +kernel), List.mem_filter.mpr ⟨List.mem_of_getElem? (i := 340) (by decide +kernel), by decide +kernel⟩, ⟨by decide +kernel, by decide +kernel⟩, by decide +kernel, by decide⟩
theorem cv_X2_72 : zz_cv RX2 72 yX2_minutesOf cX2_minutesOf 4 (some .int) 1 := ⟨zz_T_mem (List.mem_of_getElem? (i := 341) (by decide +kernel)) (by decide +kernel), zz_T_mem (List.mem_of_getElem? (i := 50) (by decide +kernel)) (by decide +kernel), List.mem_filter.mpr ⟨List.mem_of_getElem? (i := 344) (by decide +kernel), by decide +kernel⟩, ⟨by decide +kernel, by decide +kernel⟩, by decide +kernel, by decide⟩
theorem cv_X3_106 : zz_cv RX3 106 yX2_takeEggs cX2_takeEggs 4 (some .int) 1 := ⟨zz_T_mem (List.mem_of_getElem? (i := 345) (by decide +kernel)) (by decide +kernel), zz_T_mem (List.mem_of_getElem? (i := 50) (by decide +kernel)) (by decide +kernel), List.mem_filter.mpr ⟨List.mem_of_getElem? (i := 348) (by decide +kernel), by decide +kernel⟩, ⟨by decide +kernel, by decide +kernel⟩, by decide +kernel, by decide⟩
theorem cv_X2_75 : zz_cv RX2 75 yX2_emptyNest cX2_emptyNest 5 (some .int) 1 := ⟨zz_T_mem (List.mem_of_getElem? (i := 349) (by decide +kernel)) (by decide +kernel), zz_T_mem (List.mem_of_getElem? (i := 50) (by decide +kernel)) (by decide +kernel), List.mem_filter.mpr ⟨List.mem_of_getElem? (i := 352) (by decide +kernel), by decide +kernel⟩, ⟨by decide +kernel, by decide +kernel⟩, by decide +kernel, by decide⟩
theorem cv_L_36 : zz_cv zz_RL 36 yX3_night cX3_night 2 (some .int) 0 := ⟨zz_T_mem (List.mem_of_getElem? (i := 353) (by decide +kernel)) (by decide +kernel), zz_T_mem (List.mem_of_getElem? (i := 49) (by decide +kernel)) (by decide +kernel), List.mem_filter.mpr ⟨List.mem_of_getElem? (i := 356) (by decide +kernel), by decide +kernel⟩, ⟨by decide +kernel, by decide +kernel⟩, by decide +kernel, by decide⟩
theorem cv_X3_121 : zz_cv RX3 121 yX2_laysAmong cX2_laysAmong 6 (some .int) 1 := ⟨zz_T_mem (List.mem_of_getElem? (i := 357) (by decide +kernel)) (by decide +kernel), zz_T_mem (List.mem_of_getElem? (i := 50) (by decide +kernel)) (by decide +kernel), List.mem_filter.mpr ⟨List.mem_of_getElem? (i := 360) (by decide +kernel), by decide +kernel⟩, ⟨by decide +kernel, by decide +kernel⟩, by decide +kernel, by decide⟩
theorem cv_X2_98 : zz_cv RX2 98 yX2_mayAmong cX2_mayAmong 3 (some .int) 1 := ⟨zz_T_mem (List.mem_of_getElem? (i := 361) (by decide +kernel)) (by decide +kernel), zz_T_mem (List.mem_of_getElem? (i := 50) (by decide +kernel)) (by decide +kernel), List.mem_filter.mpr ⟨List.mem_of_getElem? (i := 301) (by decide +kernel), by decide +kernel⟩, ⟨by decide +kernel, by decide +kernel⟩, by decide +kernel, by decide⟩
theorem cv_X2_101 : zz_cv RX2 101 yX2_nestByLot cX2_nestByLot 5 (some .int) 1 := ⟨zz_T_mem (List.mem_of_getElem? (i := 362) (by decide +kernel)) (by decide +kernel), zz_T_mem (List.mem_of_getElem? (i := 50) (by decide +kernel)) (by decide +kernel), List.mem_filter.mpr ⟨List.mem_of_getElem? (i := 365) (by decide +kernel), by decide +kernel⟩, ⟨by decide +kernel, by decide +kernel⟩, by decide +kernel, by decide⟩
theorem cv_X2_104 : zz_cv RX2 104 yX2_weigh cX2_weigh 4 (some .int) 1 := ⟨zz_T_mem (List.mem_of_getElem? (i := 366) (by decide +kernel)) (by decide +kernel), zz_T_mem (List.mem_of_getElem? (i := 50) (by decide +kernel)) (by decide +kernel), List.mem_filter.mpr ⟨List.mem_of_getElem? (i := 305) (by decide +kernel), by decide +kernel⟩, ⟨by decide +kernel, by decide +kernel⟩, by decide +kernel, by decide⟩
theorem cv_X3_124 : zz_cv RX3 124 yX2_passNight cX2_passNight 3 none 1 := ⟨zz_T_mem (List.mem_of_getElem? (i := 367) (by decide +kernel)) (by decide +kernel), zz_T_mem (List.mem_of_getElem? (i := 50) (by decide +kernel)) (by decide +kernel), List.mem_filter.mpr ⟨List.mem_of_getElem? (i := 370) (by decide +kernel), by decide +kernel⟩, ⟨by decide +kernel, by decide +kernel⟩, by decide +kernel, by decide⟩
theorem cv_X2_107 : zz_cv RX2 107 yX2_ageEggs cX2_ageEggs 3 none 1 := ⟨zz_T_mem (List.mem_of_getElem? (i := 371) (by decide +kernel)) (by decide +kernel), zz_T_mem (List.mem_of_getElem? (i := 50) (by decide +kernel)) (by decide +kernel), List.mem_filter.mpr ⟨List.mem_of_getElem? (i := 374) (by decide +kernel), by decide +kernel⟩, ⟨by decide +kernel, by decide +kernel⟩, by decide +kernel, by decide⟩
theorem cv_L_40 : zz_cv zz_RL 40 yX3_tonight cX3_tonight 3 (some .int) 1 := ⟨zz_T_mem (List.mem_of_getElem? (i := 375) (by decide +kernel)) (by decide +kernel), zz_T_mem (List.mem_of_getElem? (i := 49) (by decide +kernel)) (by decide +kernel), List.mem_filter.mpr ⟨List.mem_of_getElem? (i := 378) (by decide +kernel), by decide +kernel⟩, ⟨by decide +kernel, by decide +kernel⟩, by decide +kernel, by decide⟩
theorem cv_L_44 : zz_cv zz_RL 44 yX3_likely cX3_likely 5 (some .long) 2 := ⟨zz_T_mem (List.mem_of_getElem? (i := 379) (by decide +kernel)) (by decide +kernel), zz_T_mem (List.mem_of_getElem? (i := 49) (by decide +kernel)) (by decide +kernel), List.mem_filter.mpr ⟨List.mem_of_getElem? (i := 382) (by decide +kernel), by decide +kernel⟩, ⟨by decide +kernel, by decide +kernel⟩, by decide +kernel, by decide⟩
theorem cv_X3_139 : zz_cv RX3 139 yX3_commonDivisor cX3_commonDivisor 6 (some .int) 2 := ⟨zz_T_mem (List.mem_of_getElem? (i := 384) (by decide +kernel)) (by decide +kernel), zz_T_mem (List.mem_of_getElem? (i := 49) (by decide +kernel)) (by decide +kernel), List.mem_filter.mpr ⟨List.mem_of_getElem? (i := 386) (by decide +kernel), by decide +kernel⟩, ⟨by decide +kernel, by decide +kernel⟩, by decide +kernel, by decide⟩
theorem cv_L_49 : zz_cv zz_RL 49 yX3_plan cX3_plan 4 (some .int) 2 := ⟨zz_T_mem (List.mem_of_getElem? (i := 387) (by decide +kernel)) (by decide +kernel), zz_T_mem (List.mem_of_getElem? (i := 49) (by decide +kernel)) (by decide +kernel), List.mem_filter.mpr ⟨List.mem_of_getElem? (i := 390) (by decide +kernel), by decide +kernel⟩, ⟨by decide +kernel, by decide +kernel⟩, by decide +kernel, by decide⟩
theorem cv_X3_143 : zz_cv RX3 143 yX1_mostFound cX1_mostFound 4 (some .int) 2 := ⟨zz_T_mem (List.mem_of_getElem? (i := 391) (by decide +kernel)) (by decide +kernel), zz_T_mem (List.mem_of_getElem? (i := 51) (by decide +kernel)) (by decide +kernel), List.mem_filter.mpr ⟨List.mem_of_getElem? (i := 394) (by decide +kernel), by decide +kernel⟩, ⟨by decide +kernel, by decide +kernel⟩, by decide +kernel, by decide⟩
theorem cv_X1_42 : zz_cv RX1 42 yX1_listAllowed cX1_listAllowed 4 none 1 := ⟨zz_T_mem (List.mem_of_getElem? (i := 395) (by decide +kernel)) (by decide +kernel), zz_T_mem (List.mem_of_getElem? (i := 51) (by decide +kernel)) (by decide +kernel), List.mem_filter.mpr ⟨List.mem_of_getElem? (i := 398) (by decide +kernel), by decide +kernel⟩, ⟨by decide +kernel, by decide +kernel⟩, by decide +kernel, by decide⟩
theorem cv_X1_35 : zz_cv RX1 35 yX2_minutesOf cX2_minutesOf 4 (some .int) 1 := ⟨zz_T_mem (List.mem_of_getElem? (i := 399) (by decide +kernel)) (by decide +kernel), zz_T_mem (List.mem_of_getElem? (i := 50) (by decide +kernel)) (by decide +kernel), List.mem_filter.mpr ⟨List.mem_of_getElem? (i := 344) (by decide +kernel), by decide +kernel⟩, ⟨by decide +kernel, by decide +kernel⟩, by decide +kernel, by decide⟩
theorem cv_X1_46 : zz_cv RX1 46 yX2_copyFrom cX2_copyFrom 2 none 1 := ⟨zz_T_mem (List.mem_of_getElem? (i := 400) (by decide +kernel)) (by decide +kernel), zz_T_mem (List.mem_of_getElem? (i := 50) (by decide +kernel)) (by decide +kernel), List.mem_filter.mpr ⟨List.mem_of_getElem? (i := 223) (by decide +kernel), by decide +kernel⟩, ⟨by decide +kernel, by decide +kernel⟩, by decide +kernel, by decide⟩
theorem cv_X1_52 : zz_cv RX1 52 yX1_mostFrom cX1_mostFrom 9 (some .int) 3 := ⟨zz_T_mem (List.mem_of_getElem? (i := 401) (by decide +kernel)) (by decide +kernel), zz_T_mem (List.mem_of_getElem? (i := 51) (by decide +kernel)) (by decide +kernel), List.mem_filter.mpr ⟨List.mem_of_getElem? (i := 403) (by decide +kernel), by decide +kernel⟩, ⟨by decide +kernel, by decide +kernel⟩, by decide +kernel, by decide⟩
theorem cv_X1_56 : zz_cv RX1 56 yX1_mostToday cX1_mostToday 6 (some .int) 1 := ⟨zz_T_mem (List.mem_of_getElem? (i := 404) (by decide +kernel)) (by decide +kernel), zz_T_mem (List.mem_of_getElem? (i := 51) (by decide +kernel)) (by decide +kernel), List.mem_filter.mpr ⟨List.mem_of_getElem? (i := 407) (by decide +kernel), by decide +kernel⟩, ⟨by decide +kernel, by decide +kernel⟩, by decide +kernel, by decide⟩
theorem cv_X1_86 : zz_cv RX1 86 yX2_eggsAt cX2_eggsAt 5 (some .int) 1 := ⟨zz_T_mem (List.mem_of_getElem? (i := 408) (by decide +kernel)) (by decide +kernel), zz_T_mem (List.mem_of_getElem? (i := 50) (by decide +kernel)) (by decide +kernel), List.mem_filter.mpr ⟨List.mem_of_getElem? (i := 285) (by decide +kernel), by decide +kernel⟩, ⟨by decide +kernel, by decide +kernel⟩, by decide +kernel, by decide⟩
theorem cv_X1_79 : zz_cv RX1 79 yX1_noteFirst cX1_noteFirst 3 none 2 := ⟨zz_T_mem (List.mem_of_getElem? (i := 409) (by decide +kernel)) (by decide +kernel), zz_T_mem (List.mem_of_getElem? (i := 51) (by decide +kernel)) (by decide +kernel), List.mem_filter.mpr ⟨List.mem_of_getElem? (i := 412) (by decide +kernel), by decide +kernel⟩, ⟨by decide +kernel, by decide +kernel⟩, by decide +kernel, by decide⟩
theorem cv_X1_89 : zz_cv RX1 89 yJ6_numberOfTrailingZeros_0f7a4 cJ6_numberOfTrailingZeros_0f7a4 2 (some .int) 1 := ⟨zz_T_mem (List.mem_of_getElem? (i := 413) (by decide +kernel)) (by decide +kernel), zz_T_mem (List.mem_of_getElem? (i := 56) (by decide +kernel)) (by decide +kernel), List.mem_filter.mpr ⟨List.mem_of_getElem? (i := 415) (by decide +kernel), by decide +kernel⟩, ⟨by decide +kernel, by decide +kernel⟩, by decide +kernel, by decide⟩
theorem cv_X1_59 : zz_cv RX1 59 yX2_allEggs cX2_allEggs 3 (some .int) 0 := ⟨zz_T_mem (List.mem_of_getElem? (i := 417) (by decide +kernel)) (by decide +kernel), zz_T_mem (List.mem_of_getElem? (i := 50) (by decide +kernel)) (by decide +kernel), List.mem_filter.mpr ⟨List.mem_of_getElem? (i := 420) (by decide +kernel), by decide +kernel⟩, ⟨by decide +kernel, by decide +kernel⟩, by decide +kernel, by decide⟩
theorem cv_X1_63 : zz_cv RX1 63 yX2_copyCourse cX2_copyCourse 2 none 1 := ⟨zz_T_mem (List.mem_of_getElem? (i := 421) (by decide +kernel)) (by decide +kernel), zz_T_mem (List.mem_of_getElem? (i := 50) (by decide +kernel)) (by decide +kernel), List.mem_filter.mpr ⟨List.mem_of_getElem? (i := 230) (by decide +kernel), by decide +kernel⟩, ⟨by decide +kernel, by decide +kernel⟩, by decide +kernel, by decide⟩
theorem cv_X1_66 : zz_cv RX1 66 yX2_takeEggs cX2_takeEggs 4 (some .int) 1 := ⟨zz_T_mem (List.mem_of_getElem? (i := 422) (by decide +kernel)) (by decide +kernel), zz_T_mem (List.mem_of_getElem? (i := 50) (by decide +kernel)) (by decide +kernel), List.mem_filter.mpr ⟨List.mem_of_getElem? (i := 348) (by decide +kernel), by decide +kernel⟩, ⟨by decide +kernel, by decide +kernel⟩, by decide +kernel, by decide⟩
theorem cv_X1_69 : zz_cv RX1 69 yX2_allNests cX2_allNests 1 (some .int) 0 := ⟨zz_T_mem (List.mem_of_getElem? (i := 423) (by decide +kernel)) (by decide +kernel), zz_T_mem (List.mem_of_getElem? (i := 50) (by decide +kernel)) (by decide +kernel), List.mem_filter.mpr ⟨List.mem_of_getElem? (i := 297) (by decide +kernel), by decide +kernel⟩, ⟨by decide +kernel, by decide +kernel⟩, by decide +kernel, by decide⟩
theorem cv_X1_72 : zz_cv RX1 72 yX2_laysAmong cX2_laysAmong 6 (some .int) 1 := ⟨zz_T_mem (List.mem_of_getElem? (i := 424) (by decide +kernel)) (by decide +kernel), zz_T_mem (List.mem_of_getElem? (i := 50) (by decide +kernel)) (by decide +kernel), List.mem_filter.mpr ⟨List.mem_of_getElem? (i := 360) (by decide +kernel), by decide +kernel⟩, ⟨by decide +kernel, by decide +kernel⟩, by decide +kernel, by decide⟩
theorem cv_X1_75 : zz_cv RX1 75 yX2_passNight cX2_passNight 3 none 1 := ⟨zz_T_mem (List.mem_of_getElem? (i := 425) (by decide +kernel)) (by decide +kernel), zz_T_mem (List.mem_of_getElem? (i := 50) (by decide +kernel)) (by decide +kernel), List.mem_filter.mpr ⟨List.mem_of_getElem? (i := 370) (by decide +kernel), by decide +kernel⟩, ⟨by decide +kernel, by decide +kernel⟩, by decide +kernel, by decide⟩
theorem cv_L_53 : zz_cv zz_RL 53 yX3_each cX3_each 5 (some .int) 2 := ⟨zz_T_mem (List.mem_of_getElem? (i := 426) (by decide +kernel)) (by decide +kernel), zz_T_mem (List.mem_of_getElem? (i := 49) (by decide +kernel)) (by decide +kernel), List.mem_filter.mpr ⟨List.mem_of_getElem? (i := 429) (by decide +kernel), by decide +kernel⟩, ⟨by decide +kernel, by decide +kernel⟩, by decide +kernel, by decide⟩
theorem cv_L_57 : zz_cv zz_RL 57 yX3_shut cX3_shut 1 (some .int) 0 := ⟨zz_T_mem (List.mem_of_getElem? (i := 430) (by decide +kernel)) (by decide +kernel), zz_T_mem (List.mem_of_getElem? (i := 49) (by decide +kernel)) (by decide +kernel), List.mem_filter.mpr ⟨List.mem_of_getElem? (i := 433) (by decide +kernel), by decide +kernel⟩, ⟨by decide +kernel, by decide +kernel⟩, by decide +kernel, by decide⟩
theorem cv_X3_150 : zz_cv RX3 150 yX1_leastShutting cX1_leastShutting 3 (some .int) 1 := ⟨zz_T_mem (List.mem_of_getElem? (i := 434) (by decide +kernel)) (by decide +kernel), zz_T_mem (List.mem_of_getElem? (i := 51) (by decide +kernel)) (by decide +kernel), List.mem_filter.mpr ⟨List.mem_of_getElem? (i := 437) (by decide +kernel), by decide +kernel⟩, ⟨by decide +kernel, by decide +kernel⟩, by decide +kernel, by decide⟩
theorem cv_X1_94 : zz_cv RX1 94 yJ6_bitCount_0f7a4 cJ6_bitCount_0f7a4 1 (some .int) 1 := ⟨zz_T_mem (List.mem_of_getElem? (i := 438) (by decide +kernel)) (by decide +kernel), zz_T_mem (List.mem_of_getElem? (i := 56) (by decide +kernel)) (by decide +kernel), List.mem_filter.mpr ⟨List.mem_of_getElem? (i := 323) (by decide +kernel), by decide +kernel⟩, ⟨by decide +kernel, by decide +kernel⟩, by decide +kernel, by decide⟩
theorem cv_L_61 : zz_cv zz_RL 61 yX3_lead cX3_lead 2 (some .int) 1 := ⟨zz_T_mem (List.mem_of_getElem? (i := 439) (by decide +kernel)) (by decide +kernel), zz_T_mem (List.mem_of_getElem? (i := 49) (by decide +kernel)) (by decide +kernel), List.mem_filter.mpr ⟨List.mem_of_getElem? (i := 442) (by decide +kernel), by decide +kernel⟩, ⟨by decide +kernel, by decide +kernel⟩, by decide +kernel, by decide⟩
theorem cv_X3_153 : zz_cv RX3 153 yX1_fewestDays cX1_fewestDays 8 (some .int) 2 := ⟨zz_T_mem (List.mem_of_getElem? (i := 443) (by decide +kernel)) (by decide +kernel), zz_T_mem (List.mem_of_getElem? (i := 51) (by decide +kernel)) (by decide +kernel), List.mem_filter.mpr ⟨List.mem_of_getElem? (i := 446) (by decide +kernel), by decide +kernel⟩, ⟨by decide +kernel, by decide +kernel⟩, by decide +kernel, by decide⟩
theorem cv_X1_100 : zz_cv RX1 100 yX1_laidByAnySet cX1_laidByAnySet 6 (some .int) 1 := ⟨zz_T_mem (List.mem_of_getElem? (i := 447) (by decide +kernel)) (by decide +kernel), zz_T_mem (List.mem_of_getElem? (i := 51) (by decide +kernel)) (by decide +kernel), List.mem_filter.mpr ⟨List.mem_of_getElem? (i := 450) (by decide +kernel), by decide +kernel⟩, ⟨by decide +kernel, by decide +kernel⟩, by decide +kernel, by decide⟩
theorem cv_L_65 : zz_cv zz_RL 65 yX3_row cX3_row 2 (some .int) 1 := ⟨zz_T_mem (List.mem_of_getElem? (i := 451) (by decide +kernel)) (by decide +kernel), zz_T_mem (List.mem_of_getElem? (i := 49) (by decide +kernel)) (by decide +kernel), List.mem_filter.mpr ⟨List.mem_of_getElem? (i := 454) (by decide +kernel), by decide +kernel⟩, ⟨by decide +kernel, by decide +kernel⟩, by decide +kernel, by decide⟩
theorem cv_L_69 : zz_cv zz_RL 69 yX3_ways cX3_ways 3 (some .int) 0 := ⟨zz_T_mem (List.mem_of_getElem? (i := 455) (by decide +kernel)) (by decide +kernel), zz_T_mem (List.mem_of_getElem? (i := 49) (by decide +kernel)) (by decide +kernel), List.mem_filter.mpr ⟨List.mem_of_getElem? (i := 458) (by decide +kernel), by decide +kernel⟩, ⟨by decide +kernel, by decide +kernel⟩, by decide +kernel, by decide⟩
theorem cv_X3_159 : zz_cv RX3 159 yX3_layRow cX3_layRow 4 none 1 := ⟨zz_T_mem (List.mem_of_getElem? (i := 459) (by decide +kernel)) (by decide +kernel), zz_T_mem (List.mem_of_getElem? (i := 49) (by decide +kernel)) (by decide +kernel), List.mem_filter.mpr ⟨List.mem_of_getElem? (i := 462) (by decide +kernel), by decide +kernel⟩, ⟨by decide +kernel, by decide +kernel⟩, by decide +kernel, by decide⟩
theorem cv_X3_162 : zz_cv RX3 162 yX3_firstUntrue cX3_firstUntrue 3 (some .int) 1 := ⟨zz_T_mem (List.mem_of_getElem? (i := 463) (by decide +kernel)) (by decide +kernel), zz_T_mem (List.mem_of_getElem? (i := 49) (by decide +kernel)) (by decide +kernel), List.mem_filter.mpr ⟨List.mem_of_getElem? (i := 466) (by decide +kernel), by decide +kernel⟩, ⟨by decide +kernel, by decide +kernel⟩, by decide +kernel, by decide⟩
theorem cv_L_73 : zz_cv zz_RL 73 yX3_soon cX3_soon 4 (some .int) 0 := ⟨zz_T_mem (List.mem_of_getElem? (i := 467) (by decide +kernel)) (by decide +kernel), zz_T_mem (List.mem_of_getElem? (i := 49) (by decide +kernel)) (by decide +kernel), List.mem_filter.mpr ⟨List.mem_of_getElem? (i := 470) (by decide +kernel), by decide +kernel⟩, ⟨by decide +kernel, by decide +kernel⟩, by decide +kernel, by decide⟩
theorem cv_X3_165 : zz_cv RX3 165 yX3_nightsUntilUnlike cX3_nightsUntilUnlike 4 (some .int) 2 := ⟨zz_T_mem (List.mem_of_getElem? (i := 471) (by decide +kernel)) (by decide +kernel), zz_T_mem (List.mem_of_getElem? (i := 49) (by decide +kernel)) (by decide +kernel), List.mem_filter.mpr ⟨List.mem_of_getElem? (i := 474) (by decide +kernel), by decide +kernel⟩, ⟨by decide +kernel, by decide +kernel⟩, by decide +kernel, by decide⟩
theorem mx_X3_168 : zz_mx RX3 168 := ⟨zz_T_mem (List.mem_of_getElem? (i := 475) (by decide +kernel)) (by decide +kernel), zz_T_mem (List.mem_of_getElem? (i := 315) (by decide +kernel)) (by decide +kernel), zz_T_mem (List.mem_of_getElem? (i := 55) (by decide +kernel)) (by decide +kernel), zz_T_mem (List.mem_of_getElem? (i := 316) (by decide +kernel)) (by decide +kernel)⟩
theorem cv_L_77 : zz_cv zz_RL 77 yX3_settle cX3_settle 3 (some .int) 1 := ⟨zz_T_mem (List.mem_of_getElem? (i := 476) (by decide +kernel)) (by decide +kernel), zz_T_mem (List.mem_of_getElem? (i := 49) (by decide +kernel)) (by decide +kernel), List.mem_filter.mpr ⟨List.mem_of_getElem? (i := 479) (by decide +kernel), by decide +kernel⟩, ⟨by decide +kernel, by decide +kernel⟩, by decide +kernel, by decide⟩
theorem cv_X3_173 : zz_cv RX3 173 yX2_allEggs cX2_allEggs 3 (some .int) 0 := ⟨zz_T_mem (List.mem_of_getElem? (i := 480) (by decide +kernel)) (by decide +kernel), zz_T_mem (List.mem_of_getElem? (i := 50) (by decide +kernel)) (by decide +kernel), List.mem_filter.mpr ⟨List.mem_of_getElem? (i := 420) (by decide +kernel), by decide +kernel⟩, ⟨by decide +kernel, by decide +kernel⟩, by decide +kernel, by decide⟩
theorem cv_L_81 : zz_cv zz_RL 81 yX3_without cX3_without 2 (some .int) 1 := ⟨zz_T_mem (List.mem_of_getElem? (i := 481) (by decide +kernel)) (by decide +kernel), zz_T_mem (List.mem_of_getElem? (i := 49) (by decide +kernel)) (by decide +kernel), List.mem_filter.mpr ⟨List.mem_of_getElem? (i := 484) (by decide +kernel), by decide +kernel⟩, ⟨by decide +kernel, by decide +kernel⟩, by decide +kernel, by decide⟩
theorem cv_L_85 : zz_cv zz_RL 85 yX3_put cX3_put 4 (some .int) 3 := ⟨zz_T_mem (List.mem_of_getElem? (i := 485) (by decide +kernel)) (by decide +kernel), zz_T_mem (List.mem_of_getElem? (i := 49) (by decide +kernel)) (by decide +kernel), List.mem_filter.mpr ⟨List.mem_of_getElem? (i := 488) (by decide +kernel), by decide +kernel⟩, ⟨by decide +kernel, by decide +kernel⟩, by decide +kernel, by decide⟩
theorem cv_X3_176 : zz_cv RX3 176 yX2_addNest cX2_addNest 5 (some .boolean) 4 := ⟨zz_T_mem (List.mem_of_getElem? (i := 489) (by decide +kernel)) (by decide +kernel), zz_T_mem (List.mem_of_getElem? (i := 50) (by decide +kernel)) (by decide +kernel), List.mem_filter.mpr ⟨List.mem_of_getElem? (i := 261) (by decide +kernel), by decide +kernel⟩, ⟨by decide +kernel, by decide +kernel⟩, by decide +kernel, by decide⟩
theorem cv_L_90 : zz_cv zz_RL 90 yX3_been cX3_been 3 (some .int) 1 := ⟨zz_T_mem (List.mem_of_getElem? (i := 490) (by decide +kernel)) (by decide +kernel), zz_T_mem (List.mem_of_getElem? (i := 49) (by decide +kernel)) (by decide +kernel), List.mem_filter.mpr ⟨List.mem_of_getElem? (i := 493) (by decide +kernel), by decide +kernel⟩, ⟨by decide +kernel, by decide +kernel⟩, by decide +kernel, by decide⟩
theorem cv_L_94 : zz_cv zz_RL 94 yX3_judge cX3_judge 3 (some .int) 0 := ⟨zz_T_mem (List.mem_of_getElem? (i := 494) (by decide +kernel)) (by decide +kernel), zz_T_mem (List.mem_of_getElem? (i := 49) (by decide +kernel)) (by decide +kernel), List.mem_filter.mpr ⟨List.mem_of_getElem? (i := 497) (by decide +kernel), by decide +kernel⟩, ⟨by decide +kernel, by decide +kernel⟩, by decide +kernel, by decide⟩
theorem cv_L_98 : zz_cv zz_RL 98 yX3_seeds cX3_seeds 7 (some .int) 2 := ⟨zz_T_mem (List.mem_of_getElem? (i := 498) (by decide +kernel)) (by decide +kernel), zz_T_mem (List.mem_of_getElem? (i := 49) (by decide +kernel)) (by decide +kernel), List.mem_filter.mpr ⟨List.mem_of_getElem? (i := 501) (by decide +kernel), by decide +kernel⟩, ⟨by decide +kernel, by decide +kernel⟩, by decide +kernel, by decide⟩
theorem cv_X3_183 : zz_cv RX3 183 yX3_nextSeed cX3_nextSeed 1 (some .int) 1 := ⟨zz_T_mem (List.mem_of_getElem? (i := 502) (by decide +kernel)) (by decide +kernel), zz_T_mem (List.mem_of_getElem? (i := 49) (by decide +kernel)) (by decide +kernel), List.mem_filter.mpr ⟨List.mem_of_getElem? (i := 504) (by decide +kernel), by decide +kernel⟩, ⟨by decide +kernel, by decide +kernel⟩, by decide +kernel, by decide⟩
theorem cv_X3_186 : zz_cv RX3 186 yX3_drawBelow cX3_drawBelow 2 (some .int) 2 := ⟨zz_T_mem (List.mem_of_getElem? (i := 506) (by decide +kernel)) (by decide +kernel), zz_T_mem (List.mem_of_getElem? (i := 49) (by decide +kernel)) (by decide +kernel), List.mem_filter.mpr ⟨List.mem_of_getElem? (i := 508) (by decide +kernel), by decide +kernel⟩, ⟨by decide +kernel, by decide +kernel⟩, by decide +kernel, by decide⟩
theorem cv_X3_189 : zz_cv RX3 189 yX2_nestAtWeight cX2_nestAtWeight 4 (some .int) 1 := ⟨zz_T_mem (List.mem_of_getElem? (i := 511) (by decide +kernel)) (by decide +kernel), zz_T_mem (List.mem_of_getElem? (i := 50) (by decide +kernel)) (by decide +kernel), List.mem_filter.mpr ⟨List.mem_of_getElem? (i := 514) (by decide +kernel), by decide +kernel⟩, ⟨by decide +kernel, by decide +kernel⟩, by decide +kernel, by decide⟩
theorem cv_L_102 : zz_cv zz_RL 102 yX3_clear cX3_clear 2 (some .int) 0 := ⟨zz_T_mem (List.mem_of_getElem? (i := 515) (by decide +kernel)) (by decide +kernel), zz_T_mem (List.mem_of_getElem? (i := 49) (by decide +kernel)) (by decide +kernel), List.mem_filter.mpr ⟨List.mem_of_getElem? (i := 518) (by decide +kernel), by decide +kernel⟩, ⟨by decide +kernel, by decide +kernel⟩, by decide +kernel, by decide⟩
theorem cv_L_106 : zz_cv zz_RL 106 yX3_image cX3_image 1 (some .int) 0 := ⟨zz_T_mem (List.mem_of_getElem? (i := 519) (by decide +kernel)) (by decide +kernel), zz_T_mem (List.mem_of_getElem? (i := 49) (by decide +kernel)) (by decide +kernel), List.mem_filter.mpr ⟨List.mem_of_getElem? (i := 522) (by decide +kernel), by decide +kernel⟩, ⟨by decide +kernel, by decide +kernel⟩, by decide +kernel, by decide⟩
theorem cv_L_110 : zz_cv zz_RL 110 yX3_restore cX3_restore 1 (some .int) 0 := ⟨zz_T_mem (List.mem_of_getElem? (i := 523) (by decide +kernel)) (by decide +kernel), zz_T_mem (List.mem_of_getElem? (i := 49) (by decide +kernel)) (by decide +kernel), List.mem_filter.mpr ⟨List.mem_of_getElem? (i := 526) (by decide +kernel), by decide +kernel⟩, ⟨by decide +kernel, by decide +kernel⟩, by decide +kernel, by decide⟩
theorem cv_L_114 : zz_cv zz_RL 114 yX3_count cX3_count 2 (some .int) 1 := ⟨zz_T_mem (List.mem_of_getElem? (i := 527) (by decide +kernel)) (by decide +kernel), zz_T_mem (List.mem_of_getElem? (i := 49) (by decide +kernel)) (by decide +kernel), List.mem_filter.mpr ⟨List.mem_of_getElem? (i := 530) (by decide +kernel), by decide +kernel⟩, ⟨by decide +kernel, by decide +kernel⟩, by decide +kernel, by decide⟩
theorem fd_X4_77 : zz_fd RX4 77 4 0 40 := ⟨RX4, TX4, rfl, by decide, Or.inl (zz_T_mem (List.mem_of_getElem? (i := 537) (by decide +kernel)) (by decide +kernel))⟩
theorem fd_X4_95 : zz_fd RX4 95 4 1 40 := ⟨RX4, TX4, rfl, by decide, Or.inl (zz_T_mem (List.mem_of_getElem? (i := 538) (by decide +kernel)) (by decide +kernel))⟩
theorem fd_X4_98 : zz_fd RX4 98 4 2 40 := ⟨RX4, TX4, rfl, by decide, Or.inl (zz_T_mem (List.mem_of_getElem? (i := 539) (by decide +kernel)) (by decide +kernel))⟩
theorem fd_X4_7 : zz_fd RX4 7 4 3 40 := ⟨RX4, TX4, rfl, by decide, Or.inl (zz_T_mem (List.mem_of_getElem? (i := 540) (by decide +kernel)) (by decide +kernel))⟩
theorem fd_X4_13 : zz_fd RX4 13 4 4 40 := ⟨RX4, TX4, rfl, by decide, Or.inl (zz_T_mem (List.mem_of_getElem? (i := 541) (by decide +kernel)) (by decide +kernel))⟩
theorem fd_X4_16 : zz_fd RX4 16 4 5 40 := ⟨RX4, TX4, rfl, by decide, Or.inl (zz_T_mem (List.mem_of_getElem? (i := 542) (by decide +kernel)) (by decide +kernel))⟩
theorem fd_X4_84 : zz_fd RX4 84 4 6 40 := ⟨RX4, TX4, rfl, by decide, Or.inl (zz_T_mem (List.mem_of_getElem? (i := 543) (by decide +kernel)) (by decide +kernel))⟩
theorem fd_X4_117 : zz_fd RX4 117 4 7 40 := ⟨RX4, TX4, rfl, by decide, Or.inl (zz_T_mem (List.mem_of_getElem? (i := 544) (by decide +kernel)) (by decide +kernel))⟩
theorem fd_X4_114 : zz_fd RX4 114 4 8 40 := ⟨RX4, TX4, rfl, by decide, Or.inl (zz_T_mem (List.mem_of_getElem? (i := 545) (by decide +kernel)) (by decide +kernel))⟩
theorem fd_X4_140 : zz_fd RX4 140 4 9 40 := ⟨RX4, TX4, rfl, by decide, Or.inl (zz_T_mem (List.mem_of_getElem? (i := 546) (by decide +kernel)) (by decide +kernel))⟩
theorem fd_X4_19 : zz_fd RX4 19 4 10 40 := ⟨RX4, TX4, rfl, by decide, Or.inl (zz_T_mem (List.mem_of_getElem? (i := 547) (by decide +kernel)) (by decide +kernel))⟩
theorem fd_X4_23 : zz_fd RX4 23 4 11 40 := ⟨RX4, TX4, rfl, by decide, Or.inl (zz_T_mem (List.mem_of_getElem? (i := 548) (by decide +kernel)) (by decide +kernel))⟩
theorem fd_X4_26 : zz_fd RX4 26 4 12 40 := ⟨RX4, TX4, rfl, by decide, Or.inl (zz_T_mem (List.mem_of_getElem? (i := 549) (by decide +kernel)) (by decide +kernel))⟩
theorem fd_X4_29 : zz_fd RX4 29 4 13 40 := ⟨RX4, TX4, rfl, by decide, Or.inl (zz_T_mem (List.mem_of_getElem? (i := 550) (by decide +kernel)) (by decide +kernel))⟩
theorem fd_X4_32 : zz_fd RX4 32 4 14 40 := ⟨RX4, TX4, rfl, by decide, Or.inl (zz_T_mem (List.mem_of_getElem? (i := 551) (by decide +kernel)) (by decide +kernel))⟩
theorem fd_X4_74 : zz_fd RX4 74 4 15 40 := ⟨RX4, TX4, rfl, by decide, Or.inl (zz_T_mem (List.mem_of_getElem? (i := 552) (by decide +kernel)) (by decide +kernel))⟩
theorem fd_X4_35 : zz_fd RX4 35 4 16 40 := ⟨RX4, TX4, rfl, by decide, Or.inl (zz_T_mem (List.mem_of_getElem? (i := 553) (by decide +kernel)) (by decide +kernel))⟩
theorem fd_X4_38 : zz_fd RX4 38 4 17 40 := ⟨RX4, TX4, rfl, by decide, Or.inl (zz_T_mem (List.mem_of_getElem? (i := 554) (by decide +kernel)) (by decide +kernel))⟩
theorem fd_X4_41 : zz_fd RX4 41 4 18 40 := ⟨RX4, TX4, rfl, by decide, Or.inl (zz_T_mem (List.mem_of_getElem? (i := 555) (by decide +kernel)) (by decide +kernel))⟩
theorem fd_X4_105 : zz_fd RX4 105 4 19 40 := ⟨RX4, TX4, rfl, by decide, Or.inl (zz_T_mem (List.mem_of_getElem? (i := 556) (by decide +kernel)) (by decide +kernel))⟩
theorem fd_X4_44 : zz_fd RX4 44 4 20 40 := ⟨RX4, TX4, rfl, by decide, Or.inl (zz_T_mem (List.mem_of_getElem? (i := 557) (by decide +kernel)) (by decide +kernel))⟩
theorem fd_X4_47 : zz_fd RX4 47 4 21 40 := ⟨RX4, TX4, rfl, by decide, Or.inl (zz_T_mem (List.mem_of_getElem? (i := 558) (by decide +kernel)) (by decide +kernel))⟩
theorem fd_X4_50 : zz_fd RX4 50 4 22 40 := ⟨RX4, TX4, rfl, by decide, Or.inl (zz_T_mem (List.mem_of_getElem? (i := 559) (by decide +kernel)) (by decide +kernel))⟩
theorem fd_X4_53 : zz_fd RX4 53 4 23 40 := ⟨RX4, TX4, rfl, by decide, Or.inl (zz_T_mem (List.mem_of_getElem? (i := 560) (by decide +kernel)) (by decide +kernel))⟩
theorem fd_X4_147 : zz_fd RX4 147 4 24 40 := ⟨RX4, TX4, rfl, by decide, Or.inl (zz_T_mem (List.mem_of_getElem? (i := 561) (by decide +kernel)) (by decide +kernel))⟩
theorem fd_X4_134 : zz_fd RX4 134 4 25 40 := ⟨RX4, TX4, rfl, by decide, Or.inl (zz_T_mem (List.mem_of_getElem? (i := 562) (by decide +kernel)) (by decide +kernel))⟩
theorem fd_X4_127 : zz_fd RX4 127 4 26 40 := ⟨RX4, TX4, rfl, by decide, Or.inl (zz_T_mem (List.mem_of_getElem? (i := 563) (by decide +kernel)) (by decide +kernel))⟩
theorem fd_X4_131 : zz_fd RX4 131 4 27 40 := ⟨RX4, TX4, rfl, by decide, Or.inl (zz_T_mem (List.mem_of_getElem? (i := 564) (by decide +kernel)) (by decide +kernel))⟩
theorem fd_X4_56 : zz_fd RX4 56 4 28 40 := ⟨RX4, TX4, rfl, by decide, Or.inl (zz_T_mem (List.mem_of_getElem? (i := 565) (by decide +kernel)) (by decide +kernel))⟩
theorem fd_X4_153 : zz_fd RX4 153 4 29 40 := ⟨RX4, TX4, rfl, by decide, Or.inl (zz_T_mem (List.mem_of_getElem? (i := 566) (by decide +kernel)) (by decide +kernel))⟩
theorem fd_X4_156 : zz_fd RX4 156 4 30 40 := ⟨RX4, TX4, rfl, by decide, Or.inl (zz_T_mem (List.mem_of_getElem? (i := 567) (by decide +kernel)) (by decide +kernel))⟩
theorem fd_X4_159 : zz_fd RX4 159 4 31 40 := ⟨RX4, TX4, rfl, by decide, Or.inl (zz_T_mem (List.mem_of_getElem? (i := 568) (by decide +kernel)) (by decide +kernel))⟩
theorem fd_X4_169 : zz_fd RX4 169 4 32 40 := ⟨RX4, TX4, rfl, by decide, Or.inl (zz_T_mem (List.mem_of_getElem? (i := 569) (by decide +kernel)) (by decide +kernel))⟩
theorem fd_X4_59 : zz_fd RX4 59 4 33 40 := ⟨RX4, TX4, rfl, by decide, Or.inl (zz_T_mem (List.mem_of_getElem? (i := 570) (by decide +kernel)) (by decide +kernel))⟩
theorem fd_X4_62 : zz_fd RX4 62 4 34 40 := ⟨RX4, TX4, rfl, by decide, Or.inl (zz_T_mem (List.mem_of_getElem? (i := 571) (by decide +kernel)) (by decide +kernel))⟩
theorem fd_X4_65 : zz_fd RX4 65 4 35 40 := ⟨RX4, TX4, rfl, by decide, Or.inl (zz_T_mem (List.mem_of_getElem? (i := 572) (by decide +kernel)) (by decide +kernel))⟩
theorem fd_X4_68 : zz_fd RX4 68 4 36 40 := ⟨RX4, TX4, rfl, by decide, Or.inl (zz_T_mem (List.mem_of_getElem? (i := 573) (by decide +kernel)) (by decide +kernel))⟩
theorem fd_X4_219 : zz_fd RX4 219 4 37 40 := ⟨RX4, TX4, rfl, by decide, Or.inl (zz_T_mem (List.mem_of_getElem? (i := 574) (by decide +kernel)) (by decide +kernel))⟩
theorem fd_X4_71 : zz_fd RX4 71 4 38 40 := ⟨RX4, TX4, rfl, by decide, Or.inl (zz_T_mem (List.mem_of_getElem? (i := 575) (by decide +kernel)) (by decide +kernel))⟩
theorem fd_X4_228 : zz_fd RX4 228 4 39 40 := ⟨RX4, TX4, rfl, by decide, Or.inl (zz_T_mem (List.mem_of_getElem? (i := 576) (by decide +kernel)) (by decide +kernel))⟩
theorem cv_L_109 : zz_cv zz_RL 109 yX4_image cX4_image 1 (some .int) 0 := ⟨zz_T_mem (List.mem_of_getElem? (i := 658) (by decide +kernel)) (by decide +kernel), zz_T_mem (List.mem_of_getElem? (i := 53) (by decide +kernel)) (by decide +kernel), List.mem_filter.mpr ⟨List.mem_of_getElem? (i := 661) (by decide +kernel), by decide +kernel⟩, ⟨by decide +kernel, by decide +kernel⟩, by decide +kernel, by decide⟩
theorem cv_X4_143 : zz_cv RX4 143 yX4_carryAll cX4_carryAll 4 none 2 := ⟨zz_T_mem (List.mem_of_getElem? (i := 662) (by decide +kernel)) (by decide +kernel), zz_T_mem (List.mem_of_getElem? (i := 53) (by decide +kernel)) (by decide +kernel), List.mem_filter.mpr ⟨List.mem_of_getElem? (i := 665) (by decide +kernel), by decide +kernel⟩, ⟨by decide +kernel, by decide +kernel⟩, by decide +kernel, by decide⟩
theorem cv_X4_137 : zz_cv RX4 137 yX4_carry cX4_carry 2 (some .int) 1 := ⟨zz_T_mem (List.mem_of_getElem? (i := 666) (by decide +kernel)) (by decide +kernel), zz_T_mem (List.mem_of_getElem? (i := 53) (by decide +kernel)) (by decide +kernel), List.mem_filter.mpr ⟨List.mem_of_getElem? (i := 669) (by decide +kernel), by decide +kernel⟩, ⟨by decide +kernel, by decide +kernel⟩, by decide +kernel, by decide⟩
theorem cv_L_113 : zz_cv zz_RL 113 yX4_restore cX4_restore 1 (some .int) 0 := ⟨zz_T_mem (List.mem_of_getElem? (i := 670) (by decide +kernel)) (by decide +kernel), zz_T_mem (List.mem_of_getElem? (i := 53) (by decide +kernel)) (by decide +kernel), List.mem_filter.mpr ⟨List.mem_of_getElem? (i := 673) (by decide +kernel), by decide +kernel⟩, ⟨by decide +kernel, by decide +kernel⟩, by decide +kernel, by decide⟩
theorem cv_X4_150 : zz_cv RX4 150 yX4_refuse cX4_refuse 2 (some .int) 1 := ⟨zz_T_mem (List.mem_of_getElem? (i := 674) (by decide +kernel)) (by decide +kernel), zz_T_mem (List.mem_of_getElem? (i := 53) (by decide +kernel)) (by decide +kernel), List.mem_filter.mpr ⟨List.mem_of_getElem? (i := 677) (by decide +kernel), by decide +kernel⟩, ⟨by decide +kernel, by decide +kernel⟩, by decide +kernel, by decide⟩
theorem cv_L_17 : zz_cv zz_RL 17 yX4_feed cX4_feed 2 (some .int) 1 := ⟨zz_T_mem (List.mem_of_getElem? (i := 678) (by decide +kernel)) (by decide +kernel), zz_T_mem (List.mem_of_getElem? (i := 53) (by decide +kernel)) (by decide +kernel), List.mem_filter.mpr ⟨List.mem_of_getElem? (i := 681) (by decide +kernel), by decide +kernel⟩, ⟨by decide +kernel, by decide +kernel⟩, by decide +kernel, by decide⟩
theorem cv_L_22 : zz_cv zz_RL 22 yX4_farm cX4_farm 2 (some .int) 0 := ⟨zz_T_mem (List.mem_of_getElem? (i := 682) (by decide +kernel)) (by decide +kernel), zz_T_mem (List.mem_of_getElem? (i := 53) (by decide +kernel)) (by decide +kernel), List.mem_filter.mpr ⟨List.mem_of_getElem? (i := 685) (by decide +kernel), by decide +kernel⟩, ⟨by decide +kernel, by decide +kernel⟩, by decide +kernel, by decide⟩
theorem cv_X4_179 : zz_cv RX4 179 yX4_readStatement cX4_readStatement 5 none 0 := ⟨zz_T_mem (List.mem_of_getElem? (i := 686) (by decide +kernel)) (by decide +kernel), zz_T_mem (List.mem_of_getElem? (i := 53) (by decide +kernel)) (by decide +kernel), List.mem_filter.mpr ⟨List.mem_of_getElem? (i := 689) (by decide +kernel), by decide +kernel⟩, ⟨by decide +kernel, by decide +kernel⟩, by decide +kernel, by decide⟩
theorem cv_X4_162 : zz_cv RX4 162 yX4_here cX4_here 1 (some .int) 0 := ⟨zz_T_mem (List.mem_of_getElem? (i := 690) (by decide +kernel)) (by decide +kernel), zz_T_mem (List.mem_of_getElem? (i := 53) (by decide +kernel)) (by decide +kernel), List.mem_filter.mpr ⟨List.mem_of_getElem? (i := 693) (by decide +kernel), by decide +kernel⟩, ⟨by decide +kernel, by decide +kernel⟩, by decide +kernel, by decide⟩
theorem cv_X4_172 : zz_cv RX4 172 yX4_readDigit cX4_readDigit 1 (some .int) 0 := ⟨zz_T_mem (List.mem_of_getElem? (i := 694) (by decide +kernel)) (by decide +kernel), zz_T_mem (List.mem_of_getElem? (i := 53) (by decide +kernel)) (by decide +kernel), List.mem_filter.mpr ⟨List.mem_of_getElem? (i := 697) (by decide +kernel), by decide +kernel⟩, ⟨by decide +kernel, by decide +kernel⟩, by decide +kernel, by decide⟩
theorem cv_X4_80 : zz_cv RX4 80 yX4_in cX4_in 6 (some .boolean) 3 := ⟨zz_T_mem (List.mem_of_getElem? (i := 700) (by decide +kernel)) (by decide +kernel), zz_T_mem (List.mem_of_getElem? (i := 53) (by decide +kernel)) (by decide +kernel), List.mem_filter.mpr ⟨List.mem_of_getElem? (i := 702) (by decide +kernel), by decide +kernel⟩, ⟨by decide +kernel, by decide +kernel⟩, by decide +kernel, by decide⟩
theorem cv_X4_182 : zz_cv RX4 182 yX4_open cX4_open 1 none 0 := ⟨zz_T_mem (List.mem_of_getElem? (i := 703) (by decide +kernel)) (by decide +kernel), zz_T_mem (List.mem_of_getElem? (i := 53) (by decide +kernel)) (by decide +kernel), List.mem_filter.mpr ⟨List.mem_of_getElem? (i := 706) (by decide +kernel), by decide +kernel⟩, ⟨by decide +kernel, by decide +kernel⟩, by decide +kernel, by decide⟩
theorem cv_X4_185 : zz_cv RX4 185 yX4_comes cX4_comes 5 (some .boolean) 1 := ⟨zz_T_mem (List.mem_of_getElem? (i := 707) (by decide +kernel)) (by decide +kernel), zz_T_mem (List.mem_of_getElem? (i := 53) (by decide +kernel)) (by decide +kernel), List.mem_filter.mpr ⟨List.mem_of_getElem? (i := 710) (by decide +kernel), by decide +kernel⟩, ⟨by decide +kernel, by decide +kernel⟩, by decide +kernel, by decide⟩
theorem cv_X4_175 : zz_cv RX4 175 yX4_isNest cX4_isNest 2 (some .boolean) 1 := ⟨zz_T_mem (List.mem_of_getElem? (i := 711) (by decide +kernel)) (by decide +kernel), zz_T_mem (List.mem_of_getElem? (i := 53) (by decide +kernel)) (by decide +kernel), List.mem_filter.mpr ⟨List.mem_of_getElem? (i := 714) (by decide +kernel), by decide +kernel⟩, ⟨by decide +kernel, by decide +kernel⟩, by decide +kernel, by decide⟩
theorem cv_X4_188 : zz_cv RX4 188 yX4_close cX4_close 1 none 0 := ⟨zz_T_mem (List.mem_of_getElem? (i := 715) (by decide +kernel)) (by decide +kernel), zz_T_mem (List.mem_of_getElem? (i := 53) (by decide +kernel)) (by decide +kernel), List.mem_filter.mpr ⟨List.mem_of_getElem? (i := 718) (by decide +kernel), by decide +kernel⟩, ⟨by decide +kernel, by decide +kernel⟩, by decide +kernel, by decide⟩
theorem cv_L_27 : zz_cv zz_RL 27 yX4_nest cX4_nest 3 (some .int) 2 := ⟨zz_T_mem (List.mem_of_getElem? (i := 719) (by decide +kernel)) (by decide +kernel), zz_T_mem (List.mem_of_getElem? (i := 53) (by decide +kernel)) (by decide +kernel), List.mem_filter.mpr ⟨List.mem_of_getElem? (i := 722) (by decide +kernel), by decide +kernel⟩, ⟨by decide +kernel, by decide +kernel⟩, by decide +kernel, by decide⟩
theorem cv_X4_91 : zz_cv RX4 91 yX4_eggsIn cX4_eggsIn 4 (some .int) 1 := ⟨zz_T_mem (List.mem_of_getElem? (i := 723) (by decide +kernel)) (by decide +kernel), zz_T_mem (List.mem_of_getElem? (i := 53) (by decide +kernel)) (by decide +kernel), List.mem_filter.mpr ⟨List.mem_of_getElem? (i := 726) (by decide +kernel), by decide +kernel⟩, ⟨by decide +kernel, by decide +kernel⟩, by decide +kernel, by decide⟩
theorem cv_X4_191 : zz_cv RX4 191 yX4_oldest cX4_oldest 4 (some .int) 1 := ⟨zz_T_mem (List.mem_of_getElem? (i := 727) (by decide +kernel)) (by decide +kernel), zz_T_mem (List.mem_of_getElem? (i := 53) (by decide +kernel)) (by decide +kernel), List.mem_filter.mpr ⟨List.mem_of_getElem? (i := 730) (by decide +kernel), by decide +kernel⟩, ⟨by decide +kernel, by decide +kernel⟩, by decide +kernel, by decide⟩
theorem cv_X4_111 : zz_cv RX4 111 yX4_weigh cX4_weigh 3 none 0 := ⟨zz_T_mem (List.mem_of_getElem? (i := 731) (by decide +kernel)) (by decide +kernel), zz_T_mem (List.mem_of_getElem? (i := 53) (by decide +kernel)) (by decide +kernel), List.mem_filter.mpr ⟨List.mem_of_getElem? (i := 734) (by decide +kernel), by decide +kernel⟩, ⟨by decide +kernel, by decide +kernel⟩, by decide +kernel, by decide⟩
theorem cv_X4_101 : zz_cv RX4 101 yX4_mayBits cX4_mayBits 3 (some .int) 0 := ⟨zz_T_mem (List.mem_of_getElem? (i := 735) (by decide +kernel)) (by decide +kernel), zz_T_mem (List.mem_of_getElem? (i := 53) (by decide +kernel)) (by decide +kernel), List.mem_filter.mpr ⟨List.mem_of_getElem? (i := 738) (by decide +kernel), by decide +kernel⟩, ⟨by decide +kernel, by decide +kernel⟩, by decide +kernel, by decide⟩
theorem cv_X4_108 : zz_cv RX4 108 yX4_rawWeight cX4_rawWeight 6 (some .int) 1 := ⟨zz_T_mem (List.mem_of_getElem? (i := 739) (by decide +kernel)) (by decide +kernel), zz_T_mem (List.mem_of_getElem? (i := 53) (by decide +kernel)) (by decide +kernel), List.mem_filter.mpr ⟨List.mem_of_getElem? (i := 742) (by decide +kernel), by decide +kernel⟩, ⟨by decide +kernel, by decide +kernel⟩, by decide +kernel, by decide⟩
theorem cv_X4_87 : zz_cv RX4 87 yX4_apart cX4_apart 2 (some .int) 2 := ⟨zz_T_mem (List.mem_of_getElem? (i := 743) (by decide +kernel)) (by decide +kernel), zz_T_mem (List.mem_of_getElem? (i := 53) (by decide +kernel)) (by decide +kernel), List.mem_filter.mpr ⟨List.mem_of_getElem? (i := 745) (by decide +kernel), by decide +kernel⟩, ⟨by decide +kernel, by decide +kernel⟩, by decide +kernel, by decide⟩
theorem cv_L_31 : zz_cv zz_RL 31 yX4_set cX4_set 6 (some .int) 2 := ⟨zz_T_mem (List.mem_of_getElem? (i := 746) (by decide +kernel)) (by decide +kernel), zz_T_mem (List.mem_of_getElem? (i := 53) (by decide +kernel)) (by decide +kernel), List.mem_filter.mpr ⟨List.mem_of_getElem? (i := 749) (by decide +kernel), by decide +kernel⟩, ⟨by decide +kernel, by decide +kernel⟩, by decide +kernel, by decide⟩
theorem cv_L_35 : zz_cv zz_RL 35 yX4_look cX4_look 4 (some .int) 1 := ⟨zz_T_mem (List.mem_of_getElem? (i := 751) (by decide +kernel)) (by decide +kernel), zz_T_mem (List.mem_of_getElem? (i := 53) (by decide +kernel)) (by decide +kernel), List.mem_filter.mpr ⟨List.mem_of_getElem? (i := 754) (by decide +kernel), by decide +kernel⟩, ⟨by decide +kernel, by decide +kernel⟩, by decide +kernel, by decide⟩
theorem cv_X4_196 : zz_cv RX4 196 yX4_minutesOf cX4_minutesOf 4 (some .int) 1 := ⟨zz_T_mem (List.mem_of_getElem? (i := 755) (by decide +kernel)) (by decide +kernel), zz_T_mem (List.mem_of_getElem? (i := 53) (by decide +kernel)) (by decide +kernel), List.mem_filter.mpr ⟨List.mem_of_getElem? (i := 758) (by decide +kernel), by decide +kernel⟩, ⟨by decide +kernel, by decide +kernel⟩, by decide +kernel, by decide⟩
theorem cv_X4_199 : zz_cv RX4 199 yX4_take cX4_take 5 (some .int) 1 := ⟨zz_T_mem (List.mem_of_getElem? (i := 759) (by decide +kernel)) (by decide +kernel), zz_T_mem (List.mem_of_getElem? (i := 53) (by decide +kernel)) (by decide +kernel), List.mem_filter.mpr ⟨List.mem_of_getElem? (i := 762) (by decide +kernel), by decide +kernel⟩, ⟨by decide +kernel, by decide +kernel⟩, by decide +kernel, by decide⟩
theorem cv_L_39 : zz_cv zz_RL 39 yX4_night cX4_night 1 (some .int) 0 := ⟨zz_T_mem (List.mem_of_getElem? (i := 763) (by decide +kernel)) (by decide +kernel), zz_T_mem (List.mem_of_getElem? (i := 53) (by decide +kernel)) (by decide +kernel), List.mem_filter.mpr ⟨List.mem_of_getElem? (i := 766) (by decide +kernel), by decide +kernel⟩, ⟨by decide +kernel, by decide +kernel⟩, by decide +kernel, by decide⟩
theorem cv_X4_202 : zz_cv RX4 202 yX4_nightOn cX4_nightOn 2 (some .int) 0 := ⟨zz_T_mem (List.mem_of_getElem? (i := 767) (by decide +kernel)) (by decide +kernel), zz_T_mem (List.mem_of_getElem? (i := 53) (by decide +kernel)) (by decide +kernel), List.mem_filter.mpr ⟨List.mem_of_getElem? (i := 770) (by decide +kernel), by decide +kernel⟩, ⟨by decide +kernel, by decide +kernel⟩, by decide +kernel, by decide⟩
theorem cv_X4_120 : zz_cv RX4 120 yX4_laysAt cX4_laysAt 6 (some .int) 0 := ⟨zz_T_mem (List.mem_of_getElem? (i := 771) (by decide +kernel)) (by decide +kernel), zz_T_mem (List.mem_of_getElem? (i := 53) (by decide +kernel)) (by decide +kernel), List.mem_filter.mpr ⟨List.mem_of_getElem? (i := 774) (by decide +kernel), by decide +kernel⟩, ⟨by decide +kernel, by decide +kernel⟩, by decide +kernel, by decide⟩
theorem cv_X4_123 : zz_cv RX4 123 yX4_nightAt cX4_nightAt 4 none 1 := ⟨zz_T_mem (List.mem_of_getElem? (i := 775) (by decide +kernel)) (by decide +kernel), zz_T_mem (List.mem_of_getElem? (i := 53) (by decide +kernel)) (by decide +kernel), List.mem_filter.mpr ⟨List.mem_of_getElem? (i := 778) (by decide +kernel), by decide +kernel⟩, ⟨by decide +kernel, by decide +kernel⟩, by decide +kernel, by decide⟩
theorem cv_L_43 : zz_cv zz_RL 43 yX4_tonight cX4_tonight 2 (some .int) 1 := ⟨zz_T_mem (List.mem_of_getElem? (i := 779) (by decide +kernel)) (by decide +kernel), zz_T_mem (List.mem_of_getElem? (i := 53) (by decide +kernel)) (by decide +kernel), List.mem_filter.mpr ⟨List.mem_of_getElem? (i := 782) (by decide +kernel), by decide +kernel⟩, ⟨by decide +kernel, by decide +kernel⟩, by decide +kernel, by decide⟩
theorem cv_L_48 : zz_cv zz_RL 48 yX4_likely cX4_likely 6 (some .long) 2 := ⟨zz_T_mem (List.mem_of_getElem? (i := 783) (by decide +kernel)) (by decide +kernel), zz_T_mem (List.mem_of_getElem? (i := 53) (by decide +kernel)) (by decide +kernel), List.mem_filter.mpr ⟨List.mem_of_getElem? (i := 786) (by decide +kernel), by decide +kernel⟩, ⟨by decide +kernel, by decide +kernel⟩, by decide +kernel, by decide⟩
theorem cv_L_52 : zz_cv zz_RL 52 yX4_plan cX4_plan 8 (some .int) 2 := ⟨zz_T_mem (List.mem_of_getElem? (i := 788) (by decide +kernel)) (by decide +kernel), zz_T_mem (List.mem_of_getElem? (i := 53) (by decide +kernel)) (by decide +kernel), List.mem_filter.mpr ⟨List.mem_of_getElem? (i := 791) (by decide +kernel), by decide +kernel⟩, ⟨by decide +kernel, by decide +kernel⟩, by decide +kernel, by decide⟩
theorem cv_X4_207 : zz_cv RX4 207 yX4_allows cX4_allows 2 (some .boolean) 1 := ⟨zz_T_mem (List.mem_of_getElem? (i := 792) (by decide +kernel)) (by decide +kernel), zz_T_mem (List.mem_of_getElem? (i := 53) (by decide +kernel)) (by decide +kernel), List.mem_filter.mpr ⟨List.mem_of_getElem? (i := 795) (by decide +kernel), by decide +kernel⟩, ⟨by decide +kernel, by decide +kernel⟩, by decide +kernel, by decide⟩
theorem cv_X4_213 : zz_cv RX4 213 yX4_bestOfDay cX4_bestOfDay 4 (some .int) 0 := ⟨zz_T_mem (List.mem_of_getElem? (i := 796) (by decide +kernel)) (by decide +kernel), zz_T_mem (List.mem_of_getElem? (i := 53) (by decide +kernel)) (by decide +kernel), List.mem_filter.mpr ⟨List.mem_of_getElem? (i := 799) (by decide +kernel), by decide +kernel⟩, ⟨by decide +kernel, by decide +kernel⟩, by decide +kernel, by decide⟩
theorem cv_X4_210 : zz_cv RX4 210 yX4_eggsOf cX4_eggsOf 4 (some .int) 1 := ⟨zz_T_mem (List.mem_of_getElem? (i := 800) (by decide +kernel)) (by decide +kernel), zz_T_mem (List.mem_of_getElem? (i := 53) (by decide +kernel)) (by decide +kernel), List.mem_filter.mpr ⟨List.mem_of_getElem? (i := 803) (by decide +kernel), by decide +kernel⟩, ⟨by decide +kernel, by decide +kernel⟩, by decide +kernel, by decide⟩
theorem cv_X4_216 : zz_cv RX4 216 yX4_bestOfTwo cX4_bestOfTwo 4 (some .int) 0 := ⟨zz_T_mem (List.mem_of_getElem? (i := 804) (by decide +kernel)) (by decide +kernel), zz_T_mem (List.mem_of_getElem? (i := 53) (by decide +kernel)) (by decide +kernel), List.mem_filter.mpr ⟨List.mem_of_getElem? (i := 807) (by decide +kernel), by decide +kernel⟩, ⟨by decide +kernel, by decide +kernel⟩, by decide +kernel, by decide⟩
theorem cv_L_56 : zz_cv zz_RL 56 yX4_each cX4_each 6 (some .int) 2 := ⟨zz_T_mem (List.mem_of_getElem? (i := 808) (by decide +kernel)) (by decide +kernel), zz_T_mem (List.mem_of_getElem? (i := 53) (by decide +kernel)) (by decide +kernel), List.mem_filter.mpr ⟨List.mem_of_getElem? (i := 811) (by decide +kernel), by decide +kernel⟩, ⟨by decide +kernel, by decide +kernel⟩, by decide +kernel, by decide⟩
theorem cv_L_60 : zz_cv zz_RL 60 yX4_shut cX4_shut 4 (some .int) 0 := ⟨zz_T_mem (List.mem_of_getElem? (i := 812) (by decide +kernel)) (by decide +kernel), zz_T_mem (List.mem_of_getElem? (i := 53) (by decide +kernel)) (by decide +kernel), List.mem_filter.mpr ⟨List.mem_of_getElem? (i := 815) (by decide +kernel), by decide +kernel⟩, ⟨by decide +kernel, by decide +kernel⟩, by decide +kernel, by decide⟩
theorem cv_L_64 : zz_cv zz_RL 64 yX4_lead cX4_lead 10 (some .int) 1 := ⟨zz_T_mem (List.mem_of_getElem? (i := 816) (by decide +kernel)) (by decide +kernel), zz_T_mem (List.mem_of_getElem? (i := 53) (by decide +kernel)) (by decide +kernel), List.mem_filter.mpr ⟨List.mem_of_getElem? (i := 819) (by decide +kernel), by decide +kernel⟩, ⟨by decide +kernel, by decide +kernel⟩, by decide +kernel, by decide⟩
theorem cv_L_68 : zz_cv zz_RL 68 yX4_row cX4_row 2 (some .int) 1 := ⟨zz_T_mem (List.mem_of_getElem? (i := 820) (by decide +kernel)) (by decide +kernel), zz_T_mem (List.mem_of_getElem? (i := 53) (by decide +kernel)) (by decide +kernel), List.mem_filter.mpr ⟨List.mem_of_getElem? (i := 823) (by decide +kernel), by decide +kernel⟩, ⟨by decide +kernel, by decide +kernel⟩, by decide +kernel, by decide⟩
theorem cv_L_72 : zz_cv zz_RL 72 yX4_ways cX4_ways 4 (some .int) 0 := ⟨zz_T_mem (List.mem_of_getElem? (i := 824) (by decide +kernel)) (by decide +kernel), zz_T_mem (List.mem_of_getElem? (i := 53) (by decide +kernel)) (by decide +kernel), List.mem_filter.mpr ⟨List.mem_of_getElem? (i := 827) (by decide +kernel), by decide +kernel⟩, ⟨by decide +kernel, by decide +kernel⟩, by decide +kernel, by decide⟩
theorem cv_X4_222 : zz_cv RX4 222 yX4_firstUnlike cX4_firstUnlike 3 (some .int) 0 := ⟨zz_T_mem (List.mem_of_getElem? (i := 828) (by decide +kernel)) (by decide +kernel), zz_T_mem (List.mem_of_getElem? (i := 53) (by decide +kernel)) (by decide +kernel), List.mem_filter.mpr ⟨List.mem_of_getElem? (i := 831) (by decide +kernel), by decide +kernel⟩, ⟨by decide +kernel, by decide +kernel⟩, by decide +kernel, by decide⟩
theorem cv_L_76 : zz_cv zz_RL 76 yX4_soon cX4_soon 7 (some .int) 0 := ⟨zz_T_mem (List.mem_of_getElem? (i := 832) (by decide +kernel)) (by decide +kernel), zz_T_mem (List.mem_of_getElem? (i := 53) (by decide +kernel)) (by decide +kernel), List.mem_filter.mpr ⟨List.mem_of_getElem? (i := 835) (by decide +kernel), by decide +kernel⟩, ⟨by decide +kernel, by decide +kernel⟩, by decide +kernel, by decide⟩
theorem cv_L_80 : zz_cv zz_RL 80 yX4_settle cX4_settle 4 (some .int) 1 := ⟨zz_T_mem (List.mem_of_getElem? (i := 836) (by decide +kernel)) (by decide +kernel), zz_T_mem (List.mem_of_getElem? (i := 53) (by decide +kernel)) (by decide +kernel), List.mem_filter.mpr ⟨List.mem_of_getElem? (i := 839) (by decide +kernel), by decide +kernel⟩, ⟨by decide +kernel, by decide +kernel⟩, by decide +kernel, by decide⟩
theorem cv_X4_225 : zz_cv RX4 225 yX4_eggsOfAll cX4_eggsOfAll 1 (some .int) 0 := ⟨zz_T_mem (List.mem_of_getElem? (i := 840) (by decide +kernel)) (by decide +kernel), zz_T_mem (List.mem_of_getElem? (i := 53) (by decide +kernel)) (by decide +kernel), List.mem_filter.mpr ⟨List.mem_of_getElem? (i := 843) (by decide +kernel), by decide +kernel⟩, ⟨by decide +kernel, by decide +kernel⟩, by decide +kernel, by decide⟩
theorem cv_L_84 : zz_cv zz_RL 84 yX4_without cX4_without 3 (some .int) 1 := ⟨zz_T_mem (List.mem_of_getElem? (i := 844) (by decide +kernel)) (by decide +kernel), zz_T_mem (List.mem_of_getElem? (i := 53) (by decide +kernel)) (by decide +kernel), List.mem_filter.mpr ⟨List.mem_of_getElem? (i := 847) (by decide +kernel), by decide +kernel⟩, ⟨by decide +kernel, by decide +kernel⟩, by decide +kernel, by decide⟩
theorem cv_L_89 : zz_cv zz_RL 89 yX4_put cX4_put 6 (some .int) 3 := ⟨zz_T_mem (List.mem_of_getElem? (i := 848) (by decide +kernel)) (by decide +kernel), zz_T_mem (List.mem_of_getElem? (i := 53) (by decide +kernel)) (by decide +kernel), List.mem_filter.mpr ⟨List.mem_of_getElem? (i := 851) (by decide +kernel), by decide +kernel⟩, ⟨by decide +kernel, by decide +kernel⟩, by decide +kernel, by decide⟩
theorem cv_L_93 : zz_cv zz_RL 93 yX4_been cX4_been 3 (some .int) 1 := ⟨zz_T_mem (List.mem_of_getElem? (i := 852) (by decide +kernel)) (by decide +kernel), zz_T_mem (List.mem_of_getElem? (i := 53) (by decide +kernel)) (by decide +kernel), List.mem_filter.mpr ⟨List.mem_of_getElem? (i := 855) (by decide +kernel), by decide +kernel⟩, ⟨by decide +kernel, by decide +kernel⟩, by decide +kernel, by decide⟩
theorem cv_L_97 : zz_cv zz_RL 97 yX4_judge cX4_judge 2 (some .int) 0 := ⟨zz_T_mem (List.mem_of_getElem? (i := 856) (by decide +kernel)) (by decide +kernel), zz_T_mem (List.mem_of_getElem? (i := 53) (by decide +kernel)) (by decide +kernel), List.mem_filter.mpr ⟨List.mem_of_getElem? (i := 859) (by decide +kernel), by decide +kernel⟩, ⟨by decide +kernel, by decide +kernel⟩, by decide +kernel, by decide⟩
theorem cv_L_101 : zz_cv zz_RL 101 yX4_seeds cX4_seeds 6 (some .int) 2 := ⟨zz_T_mem (List.mem_of_getElem? (i := 860) (by decide +kernel)) (by decide +kernel), zz_T_mem (List.mem_of_getElem? (i := 53) (by decide +kernel)) (by decide +kernel), List.mem_filter.mpr ⟨List.mem_of_getElem? (i := 863) (by decide +kernel), by decide +kernel⟩, ⟨by decide +kernel, by decide +kernel⟩, by decide +kernel, by decide⟩
theorem cv_X4_234 : zz_cv RX4 234 yX4_draw cX4_draw 2 (some .int) 1 := ⟨zz_T_mem (List.mem_of_getElem? (i := 864) (by decide +kernel)) (by decide +kernel), zz_T_mem (List.mem_of_getElem? (i := 53) (by decide +kernel)) (by decide +kernel), List.mem_filter.mpr ⟨List.mem_of_getElem? (i := 867) (by decide +kernel), by decide +kernel⟩, ⟨by decide +kernel, by decide +kernel⟩, by decide +kernel, by decide⟩
theorem cv_X4_237 : zz_cv RX4 237 yX4_drawnNest cX4_drawnNest 3 (some .int) 0 := ⟨zz_T_mem (List.mem_of_getElem? (i := 871) (by decide +kernel)) (by decide +kernel), zz_T_mem (List.mem_of_getElem? (i := 53) (by decide +kernel)) (by decide +kernel), List.mem_filter.mpr ⟨List.mem_of_getElem? (i := 874) (by decide +kernel), by decide +kernel⟩, ⟨by decide +kernel, by decide +kernel⟩, by decide +kernel, by decide⟩
theorem cv_L_105 : zz_cv zz_RL 105 yX4_clear cX4_clear 2 (some .int) 0 := ⟨zz_T_mem (List.mem_of_getElem? (i := 875) (by decide +kernel)) (by decide +kernel), zz_T_mem (List.mem_of_getElem? (i := 53) (by decide +kernel)) (by decide +kernel), List.mem_filter.mpr ⟨List.mem_of_getElem? (i := 878) (by decide +kernel), by decide +kernel⟩, ⟨by decide +kernel, by decide +kernel⟩, by decide +kernel, by decide⟩
theorem cv_L_117 : zz_cv zz_RL 117 yX4_count cX4_count 2 (some .int) 1 := ⟨zz_T_mem (List.mem_of_getElem? (i := 879) (by decide +kernel)) (by decide +kernel), zz_T_mem (List.mem_of_getElem? (i := 53) (by decide +kernel)) (by decide +kernel), List.mem_filter.mpr ⟨List.mem_of_getElem? (i := 882) (by decide +kernel), by decide +kernel⟩, ⟨by decide +kernel, by decide +kernel⟩, by decide +kernel, by decide⟩
theorem ci_X0_append : Cond.instanceMethod yX0_append ∈ zz_T ∧ Cond.selects yX0_append.cls yX0_append yX0_append ∈ zz_T := ⟨zz_T_mem (List.mem_of_getElem? (i := 213) (by decide +kernel)) (by decide +kernel), zz_T_mem (List.mem_of_getElem? (i := 214) (by decide +kernel)) (by decide +kernel)⟩
theorem ci_X0_readInto : Cond.instanceMethod yX0_readInto ∈ zz_T ∧ Cond.selects yX0_readInto.cls yX0_readInto yX0_readInto ∈ zz_T := ⟨zz_T_mem (List.mem_of_getElem? (i := 232) (by decide +kernel)) (by decide +kernel), zz_T_mem (List.mem_of_getElem? (i := 233) (by decide +kernel)) (by decide +kernel)⟩
theorem ci_X0_firstUnfit : Cond.instanceMethod yX0_firstUnfit ∈ zz_T ∧ Cond.selects yX0_firstUnfit.cls yX0_firstUnfit yX0_firstUnfit ∈ zz_T := ⟨zz_T_mem (List.mem_of_getElem? (i := 237) (by decide +kernel)) (by decide +kernel), zz_T_mem (List.mem_of_getElem? (i := 1) (by decide +kernel)) (by decide +kernel)⟩
theorem ci_X0_applyStatement : Cond.instanceMethod yX0_applyStatement ∈ zz_T ∧ Cond.selects yX0_applyStatement.cls yX0_applyStatement yX0_applyStatement ∈ zz_T := ⟨zz_T_mem (List.mem_of_getElem? (i := 256) (by decide +kernel)) (by decide +kernel), zz_T_mem (List.mem_of_getElem? (i := 5) (by decide +kernel)) (by decide +kernel)⟩
theorem cs_X0_leastDigits : Cond.static yX0_leastDigits ∈ zz_T := zz_T_mem (List.mem_of_getElem? (i := 240) (by decide +kernel)) (by decide +kernel)
theorem ci_X0_digitsBehind : Cond.instanceMethod yX0_digitsBehind ∈ zz_T ∧ Cond.selects yX0_digitsBehind.cls yX0_digitsBehind yX0_digitsBehind ∈ zz_T := ⟨zz_T_mem (List.mem_of_getElem? (i := 244) (by decide +kernel)) (by decide +kernel), zz_T_mem (List.mem_of_getElem? (i := 2) (by decide +kernel)) (by decide +kernel)⟩
theorem ci_X0_digitAt : Cond.instanceMethod yX0_digitAt ∈ zz_T ∧ Cond.selects yX0_digitAt.cls yX0_digitAt yX0_digitAt ∈ zz_T := ⟨zz_T_mem (List.mem_of_getElem? (i := 252) (by decide +kernel)) (by decide +kernel), zz_T_mem (List.mem_of_getElem? (i := 4) (by decide +kernel)) (by decide +kernel)⟩
theorem ci_X0_letterAt : Cond.instanceMethod yX0_letterAt ∈ zz_T ∧ Cond.selects yX0_letterAt.cls yX0_letterAt yX0_letterAt ∈ zz_T := ⟨zz_T_mem (List.mem_of_getElem? (i := 248) (by decide +kernel)) (by decide +kernel), zz_T_mem (List.mem_of_getElem? (i := 3) (by decide +kernel)) (by decide +kernel)⟩
theorem ci_X1_listAllowed : Cond.instanceMethod yX1_listAllowed ∈ zz_T ∧ Cond.selects yX1_listAllowed.cls yX1_listAllowed yX1_listAllowed ∈ zz_T := ⟨zz_T_mem (List.mem_of_getElem? (i := 397) (by decide +kernel)) (by decide +kernel), zz_T_mem (List.mem_of_getElem? (i := 13) (by decide +kernel)) (by decide +kernel)⟩
theorem ci_X1_mostFound : Cond.instanceMethod yX1_mostFound ∈ zz_T ∧ Cond.selects yX1_mostFound.cls yX1_mostFound yX1_mostFound ∈ zz_T := ⟨zz_T_mem (List.mem_of_getElem? (i := 392) (by decide +kernel)) (by decide +kernel), zz_T_mem (List.mem_of_getElem? (i := 393) (by decide +kernel)) (by decide +kernel)⟩
theorem cs_X1_mostFrom : Cond.static yX1_mostFrom ∈ zz_T := zz_T_mem (List.mem_of_getElem? (i := 402) (by decide +kernel)) (by decide +kernel)
theorem ci_X1_noteFirst : Cond.instanceMethod yX1_noteFirst ∈ zz_T ∧ Cond.selects yX1_noteFirst.cls yX1_noteFirst yX1_noteFirst ∈ zz_T := ⟨zz_T_mem (List.mem_of_getElem? (i := 411) (by decide +kernel)) (by decide +kernel), zz_T_mem (List.mem_of_getElem? (i := 15) (by decide +kernel)) (by decide +kernel)⟩
theorem ci_X1_mostToday : Cond.instanceMethod yX1_mostToday ∈ zz_T ∧ Cond.selects yX1_mostToday.cls yX1_mostToday yX1_mostToday ∈ zz_T := ⟨zz_T_mem (List.mem_of_getElem? (i := 406) (by decide +kernel)) (by decide +kernel), zz_T_mem (List.mem_of_getElem? (i := 14) (by decide +kernel)) (by decide +kernel)⟩
theorem ci_X1_leastShutting : Cond.instanceMethod yX1_leastShutting ∈ zz_T ∧ Cond.selects yX1_leastShutting.cls yX1_leastShutting yX1_leastShutting ∈ zz_T := ⟨zz_T_mem (List.mem_of_getElem? (i := 435) (by decide +kernel)) (by decide +kernel), zz_T_mem (List.mem_of_getElem? (i := 436) (by decide +kernel)) (by decide +kernel)⟩
theorem ci_X1_fewestDays : Cond.instanceMethod yX1_fewestDays ∈ zz_T ∧ Cond.selects yX1_fewestDays.cls yX1_fewestDays yX1_fewestDays ∈ zz_T := ⟨zz_T_mem (List.mem_of_getElem? (i := 444) (by decide +kernel)) (by decide +kernel), zz_T_mem (List.mem_of_getElem? (i := 445) (by decide +kernel)) (by decide +kernel)⟩
theorem ci_X1_laidByAnySet : Cond.instanceMethod yX1_laidByAnySet ∈ zz_T ∧ Cond.selects yX1_laidByAnySet.cls yX1_laidByAnySet yX1_laidByAnySet ∈ zz_T := ⟨zz_T_mem (List.mem_of_getElem? (i := 449) (by decide +kernel)) (by decide +kernel), zz_T_mem (List.mem_of_getElem? (i := 16) (by decide +kernel)) (by decide +kernel)⟩
theorem ci_X2_copyFrom : Cond.instanceMethod yX2_copyFrom ∈ zz_T ∧ Cond.selects yX2_copyFrom.cls yX2_copyFrom yX2_copyFrom ∈ zz_T := ⟨zz_T_mem (List.mem_of_getElem? (i := 221) (by decide +kernel)) (by decide +kernel), zz_T_mem (List.mem_of_getElem? (i := 222) (by decide +kernel)) (by decide +kernel)⟩
theorem ci_X2_copyCourse : Cond.instanceMethod yX2_copyCourse ∈ zz_T ∧ Cond.selects yX2_copyCourse.cls yX2_copyCourse yX2_copyCourse ∈ zz_T := ⟨zz_T_mem (List.mem_of_getElem? (i := 228) (by decide +kernel)) (by decide +kernel), zz_T_mem (List.mem_of_getElem? (i := 229) (by decide +kernel)) (by decide +kernel)⟩
theorem ci_X2_addNest : Cond.instanceMethod yX2_addNest ∈ zz_T ∧ Cond.selects yX2_addNest.cls yX2_addNest yX2_addNest ∈ zz_T := ⟨zz_T_mem (List.mem_of_getElem? (i := 259) (by decide +kernel)) (by decide +kernel), zz_T_mem (List.mem_of_getElem? (i := 260) (by decide +kernel)) (by decide +kernel)⟩
theorem ci_X2_addEgg : Cond.instanceMethod yX2_addEgg ∈ zz_T ∧ Cond.selects yX2_addEgg.cls yX2_addEgg yX2_addEgg ∈ zz_T := ⟨zz_T_mem (List.mem_of_getElem? (i := 271) (by decide +kernel)) (by decide +kernel), zz_T_mem (List.mem_of_getElem? (i := 272) (by decide +kernel)) (by decide +kernel)⟩
theorem ci_X2_change : Cond.instanceMethod yX2_change ∈ zz_T ∧ Cond.selects yX2_change.cls yX2_change yX2_change ∈ zz_T := ⟨zz_T_mem (List.mem_of_getElem? (i := 263) (by decide +kernel)) (by decide +kernel), zz_T_mem (List.mem_of_getElem? (i := 264) (by decide +kernel)) (by decide +kernel)⟩
theorem ci_X2_allNests : Cond.instanceMethod yX2_allNests ∈ zz_T ∧ Cond.selects yX2_allNests.cls yX2_allNests yX2_allNests ∈ zz_T := ⟨zz_T_mem (List.mem_of_getElem? (i := 295) (by decide +kernel)) (by decide +kernel), zz_T_mem (List.mem_of_getElem? (i := 296) (by decide +kernel)) (by decide +kernel)⟩
theorem ci_X2_eggsAt : Cond.instanceMethod yX2_eggsAt ∈ zz_T ∧ Cond.selects yX2_eggsAt.cls yX2_eggsAt yX2_eggsAt ∈ zz_T := ⟨zz_T_mem (List.mem_of_getElem? (i := 283) (by decide +kernel)) (by decide +kernel), zz_T_mem (List.mem_of_getElem? (i := 284) (by decide +kernel)) (by decide +kernel)⟩
theorem ci_X2_allEggs : Cond.instanceMethod yX2_allEggs ∈ zz_T ∧ Cond.selects yX2_allEggs.cls yX2_allEggs yX2_allEggs ∈ zz_T := ⟨zz_T_mem (List.mem_of_getElem? (i := 418) (by decide +kernel)) (by decide +kernel), zz_T_mem (List.mem_of_getElem? (i := 419) (by decide +kernel)) (by decide +kernel)⟩
theorem ci_X2_greatestAge : Cond.instanceMethod yX2_greatestAge ∈ zz_T ∧ Cond.selects yX2_greatestAge.cls yX2_greatestAge yX2_greatestAge ∈ zz_T := ⟨zz_T_mem (List.mem_of_getElem? (i := 287) (by decide +kernel)) (by decide +kernel), zz_T_mem (List.mem_of_getElem? (i := 288) (by decide +kernel)) (by decide +kernel)⟩
theorem ci_X2_minutesOf : Cond.instanceMethod yX2_minutesOf ∈ zz_T ∧ Cond.selects yX2_minutesOf.cls yX2_minutesOf yX2_minutesOf ∈ zz_T := ⟨zz_T_mem (List.mem_of_getElem? (i := 342) (by decide +kernel)) (by decide +kernel), zz_T_mem (List.mem_of_getElem? (i := 343) (by decide +kernel)) (by decide +kernel)⟩
theorem ci_X2_timeLeft : Cond.instanceMethod yX2_timeLeft ∈ zz_T ∧ Cond.selects yX2_timeLeft.cls yX2_timeLeft yX2_timeLeft ∈ zz_T := ⟨zz_T_mem (List.mem_of_getElem? (i := 338) (by decide +kernel)) (by decide +kernel), zz_T_mem (List.mem_of_getElem? (i := 339) (by decide +kernel)) (by decide +kernel)⟩
theorem ci_X2_takeEggs : Cond.instanceMethod yX2_takeEggs ∈ zz_T ∧ Cond.selects yX2_takeEggs.cls yX2_takeEggs yX2_takeEggs ∈ zz_T := ⟨zz_T_mem (List.mem_of_getElem? (i := 346) (by decide +kernel)) (by decide +kernel), zz_T_mem (List.mem_of_getElem? (i := 347) (by decide +kernel)) (by decide +kernel)⟩
theorem ci_X2_emptyNest : Cond.instanceMethod yX2_emptyNest ∈ zz_T ∧ Cond.selects yX2_emptyNest.cls yX2_emptyNest yX2_emptyNest ∈ zz_T := ⟨zz_T_mem (List.mem_of_getElem? (i := 351) (by decide +kernel)) (by decide +kernel), zz_T_mem (List.mem_of_getElem? (i := 10) (by decide +kernel)) (by decide +kernel)⟩
theorem ci_X2_mayAmong : Cond.instanceMethod yX2_mayAmong ∈ zz_T ∧ Cond.selects yX2_mayAmong.cls yX2_mayAmong yX2_mayAmong ∈ zz_T := ⟨zz_T_mem (List.mem_of_getElem? (i := 299) (by decide +kernel)) (by decide +kernel), zz_T_mem (List.mem_of_getElem? (i := 300) (by decide +kernel)) (by decide +kernel)⟩
theorem ci_X2_weigh : Cond.instanceMethod yX2_weigh ∈ zz_T ∧ Cond.selects yX2_weigh.cls yX2_weigh yX2_weigh ∈ zz_T := ⟨zz_T_mem (List.mem_of_getElem? (i := 303) (by decide +kernel)) (by decide +kernel), zz_T_mem (List.mem_of_getElem? (i := 304) (by decide +kernel)) (by decide +kernel)⟩
theorem ci_X2_weighAlike : Cond.instanceMethod yX2_weighAlike ∈ zz_T ∧ Cond.selects yX2_weighAlike.cls yX2_weighAlike yX2_weighAlike ∈ zz_T := ⟨zz_T_mem (List.mem_of_getElem? (i := 319) (by decide +kernel)) (by decide +kernel), zz_T_mem (List.mem_of_getElem? (i := 9) (by decide +kernel)) (by decide +kernel)⟩
theorem ci_X2_weightOf : Cond.instanceMethod yX2_weightOf ∈ zz_T ∧ Cond.selects yX2_weightOf.cls yX2_weightOf yX2_weightOf ∈ zz_T := ⟨zz_T_mem (List.mem_of_getElem? (i := 308) (by decide +kernel)) (by decide +kernel), zz_T_mem (List.mem_of_getElem? (i := 8) (by decide +kernel)) (by decide +kernel)⟩
theorem ci_X2_laysAmong : Cond.instanceMethod yX2_laysAmong ∈ zz_T ∧ Cond.selects yX2_laysAmong.cls yX2_laysAmong yX2_laysAmong ∈ zz_T := ⟨zz_T_mem (List.mem_of_getElem? (i := 358) (by decide +kernel)) (by decide +kernel), zz_T_mem (List.mem_of_getElem? (i := 359) (by decide +kernel)) (by decide +kernel)⟩
theorem ci_X2_nestByLot : Cond.instanceMethod yX2_nestByLot ∈ zz_T ∧ Cond.selects yX2_nestByLot.cls yX2_nestByLot yX2_nestByLot ∈ zz_T := ⟨zz_T_mem (List.mem_of_getElem? (i := 364) (by decide +kernel)) (by decide +kernel), zz_T_mem (List.mem_of_getElem? (i := 11) (by decide +kernel)) (by decide +kernel)⟩
theorem ci_X2_nestAtWeight : Cond.instanceMethod yX2_nestAtWeight ∈ zz_T ∧ Cond.selects yX2_nestAtWeight.cls yX2_nestAtWeight yX2_nestAtWeight ∈ zz_T := ⟨zz_T_mem (List.mem_of_getElem? (i := 512) (by decide +kernel)) (by decide +kernel), zz_T_mem (List.mem_of_getElem? (i := 513) (by decide +kernel)) (by decide +kernel)⟩
theorem ci_X2_passNight : Cond.instanceMethod yX2_passNight ∈ zz_T ∧ Cond.selects yX2_passNight.cls yX2_passNight yX2_passNight ∈ zz_T := ⟨zz_T_mem (List.mem_of_getElem? (i := 368) (by decide +kernel)) (by decide +kernel), zz_T_mem (List.mem_of_getElem? (i := 369) (by decide +kernel)) (by decide +kernel)⟩
theorem ci_X2_ageEggs : Cond.instanceMethod yX2_ageEggs ∈ zz_T ∧ Cond.selects yX2_ageEggs.cls yX2_ageEggs yX2_ageEggs ∈ zz_T := ⟨zz_T_mem (List.mem_of_getElem? (i := 373) (by decide +kernel)) (by decide +kernel), zz_T_mem (List.mem_of_getElem? (i := 12) (by decide +kernel)) (by decide +kernel)⟩
theorem ci_X3_feed : Cond.instanceMethod yX3_feed ∈ zz_T ∧ Cond.selects yX3_feed.cls yX3_feed yX3_feed ∈ zz_T := ⟨zz_T_mem (List.mem_of_getElem? (i := 205) (by decide +kernel)) (by decide +kernel), zz_T_mem (List.mem_of_getElem? (i := 206) (by decide +kernel)) (by decide +kernel)⟩
theorem ci_X3_farm : Cond.instanceMethod yX3_farm ∈ zz_T ∧ Cond.selects yX3_farm.cls yX3_farm yX3_farm ∈ zz_T := ⟨zz_T_mem (List.mem_of_getElem? (i := 217) (by decide +kernel)) (by decide +kernel), zz_T_mem (List.mem_of_getElem? (i := 218) (by decide +kernel)) (by decide +kernel)⟩
theorem ci_X3_nest : Cond.instanceMethod yX3_nest ∈ zz_T ∧ Cond.selects yX3_nest.cls yX3_nest yX3_nest ∈ zz_T := ⟨zz_T_mem (List.mem_of_getElem? (i := 275) (by decide +kernel)) (by decide +kernel), zz_T_mem (List.mem_of_getElem? (i := 276) (by decide +kernel)) (by decide +kernel)⟩
theorem ci_X3_set : Cond.instanceMethod yX3_set ∈ zz_T ∧ Cond.selects yX3_set.cls yX3_set yX3_set ∈ zz_T := ⟨zz_T_mem (List.mem_of_getElem? (i := 328) (by decide +kernel)) (by decide +kernel), zz_T_mem (List.mem_of_getElem? (i := 329) (by decide +kernel)) (by decide +kernel)⟩
theorem ci_X3_look : Cond.instanceMethod yX3_look ∈ zz_T ∧ Cond.selects yX3_look.cls yX3_look yX3_look ∈ zz_T := ⟨zz_T_mem (List.mem_of_getElem? (i := 334) (by decide +kernel)) (by decide +kernel), zz_T_mem (List.mem_of_getElem? (i := 335) (by decide +kernel)) (by decide +kernel)⟩
theorem ci_X3_night : Cond.instanceMethod yX3_night ∈ zz_T ∧ Cond.selects yX3_night.cls yX3_night yX3_night ∈ zz_T := ⟨zz_T_mem (List.mem_of_getElem? (i := 354) (by decide +kernel)) (by decide +kernel), zz_T_mem (List.mem_of_getElem? (i := 355) (by decide +kernel)) (by decide +kernel)⟩
theorem ci_X3_tonight : Cond.instanceMethod yX3_tonight ∈ zz_T ∧ Cond.selects yX3_tonight.cls yX3_tonight yX3_tonight ∈ zz_T := ⟨zz_T_mem (List.mem_of_getElem? (i := 376) (by decide +kernel)) (by decide +kernel), zz_T_mem (List.mem_of_getElem? (i := 377) (by decide +kernel)) (by decide +kernel)⟩
theorem ci_X3_likely : Cond.instanceMethod yX3_likely ∈ zz_T ∧ Cond.selects yX3_likely.cls yX3_likely yX3_likely ∈ zz_T := ⟨zz_T_mem (List.mem_of_getElem? (i := 380) (by decide +kernel)) (by decide +kernel), zz_T_mem (List.mem_of_getElem? (i := 381) (by decide +kernel)) (by decide +kernel)⟩
theorem ci_X3_plan : Cond.instanceMethod yX3_plan ∈ zz_T ∧ Cond.selects yX3_plan.cls yX3_plan yX3_plan ∈ zz_T := ⟨zz_T_mem (List.mem_of_getElem? (i := 388) (by decide +kernel)) (by decide +kernel), zz_T_mem (List.mem_of_getElem? (i := 389) (by decide +kernel)) (by decide +kernel)⟩
theorem ci_X3_each : Cond.instanceMethod yX3_each ∈ zz_T ∧ Cond.selects yX3_each.cls yX3_each yX3_each ∈ zz_T := ⟨zz_T_mem (List.mem_of_getElem? (i := 427) (by decide +kernel)) (by decide +kernel), zz_T_mem (List.mem_of_getElem? (i := 428) (by decide +kernel)) (by decide +kernel)⟩
theorem ci_X3_shut : Cond.instanceMethod yX3_shut ∈ zz_T ∧ Cond.selects yX3_shut.cls yX3_shut yX3_shut ∈ zz_T := ⟨zz_T_mem (List.mem_of_getElem? (i := 431) (by decide +kernel)) (by decide +kernel), zz_T_mem (List.mem_of_getElem? (i := 432) (by decide +kernel)) (by decide +kernel)⟩
theorem ci_X3_lead : Cond.instanceMethod yX3_lead ∈ zz_T ∧ Cond.selects yX3_lead.cls yX3_lead yX3_lead ∈ zz_T := ⟨zz_T_mem (List.mem_of_getElem? (i := 440) (by decide +kernel)) (by decide +kernel), zz_T_mem (List.mem_of_getElem? (i := 441) (by decide +kernel)) (by decide +kernel)⟩
theorem ci_X3_row : Cond.instanceMethod yX3_row ∈ zz_T ∧ Cond.selects yX3_row.cls yX3_row yX3_row ∈ zz_T := ⟨zz_T_mem (List.mem_of_getElem? (i := 452) (by decide +kernel)) (by decide +kernel), zz_T_mem (List.mem_of_getElem? (i := 453) (by decide +kernel)) (by decide +kernel)⟩
theorem ci_X3_ways : Cond.instanceMethod yX3_ways ∈ zz_T ∧ Cond.selects yX3_ways.cls yX3_ways yX3_ways ∈ zz_T := ⟨zz_T_mem (List.mem_of_getElem? (i := 456) (by decide +kernel)) (by decide +kernel), zz_T_mem (List.mem_of_getElem? (i := 457) (by decide +kernel)) (by decide +kernel)⟩
theorem ci_X3_soon : Cond.instanceMethod yX3_soon ∈ zz_T ∧ Cond.selects yX3_soon.cls yX3_soon yX3_soon ∈ zz_T := ⟨zz_T_mem (List.mem_of_getElem? (i := 468) (by decide +kernel)) (by decide +kernel), zz_T_mem (List.mem_of_getElem? (i := 469) (by decide +kernel)) (by decide +kernel)⟩
theorem ci_X3_settle : Cond.instanceMethod yX3_settle ∈ zz_T ∧ Cond.selects yX3_settle.cls yX3_settle yX3_settle ∈ zz_T := ⟨zz_T_mem (List.mem_of_getElem? (i := 477) (by decide +kernel)) (by decide +kernel), zz_T_mem (List.mem_of_getElem? (i := 478) (by decide +kernel)) (by decide +kernel)⟩
theorem ci_X3_without : Cond.instanceMethod yX3_without ∈ zz_T ∧ Cond.selects yX3_without.cls yX3_without yX3_without ∈ zz_T := ⟨zz_T_mem (List.mem_of_getElem? (i := 482) (by decide +kernel)) (by decide +kernel), zz_T_mem (List.mem_of_getElem? (i := 483) (by decide +kernel)) (by decide +kernel)⟩
theorem ci_X3_put : Cond.instanceMethod yX3_put ∈ zz_T ∧ Cond.selects yX3_put.cls yX3_put yX3_put ∈ zz_T := ⟨zz_T_mem (List.mem_of_getElem? (i := 486) (by decide +kernel)) (by decide +kernel), zz_T_mem (List.mem_of_getElem? (i := 487) (by decide +kernel)) (by decide +kernel)⟩
theorem ci_X3_been : Cond.instanceMethod yX3_been ∈ zz_T ∧ Cond.selects yX3_been.cls yX3_been yX3_been ∈ zz_T := ⟨zz_T_mem (List.mem_of_getElem? (i := 491) (by decide +kernel)) (by decide +kernel), zz_T_mem (List.mem_of_getElem? (i := 492) (by decide +kernel)) (by decide +kernel)⟩
theorem ci_X3_judge : Cond.instanceMethod yX3_judge ∈ zz_T ∧ Cond.selects yX3_judge.cls yX3_judge yX3_judge ∈ zz_T := ⟨zz_T_mem (List.mem_of_getElem? (i := 495) (by decide +kernel)) (by decide +kernel), zz_T_mem (List.mem_of_getElem? (i := 496) (by decide +kernel)) (by decide +kernel)⟩
theorem ci_X3_seeds : Cond.instanceMethod yX3_seeds ∈ zz_T ∧ Cond.selects yX3_seeds.cls yX3_seeds yX3_seeds ∈ zz_T := ⟨zz_T_mem (List.mem_of_getElem? (i := 499) (by decide +kernel)) (by decide +kernel), zz_T_mem (List.mem_of_getElem? (i := 500) (by decide +kernel)) (by decide +kernel)⟩
theorem ci_X3_clear : Cond.instanceMethod yX3_clear ∈ zz_T ∧ Cond.selects yX3_clear.cls yX3_clear yX3_clear ∈ zz_T := ⟨zz_T_mem (List.mem_of_getElem? (i := 516) (by decide +kernel)) (by decide +kernel), zz_T_mem (List.mem_of_getElem? (i := 517) (by decide +kernel)) (by decide +kernel)⟩
theorem ci_X3_image : Cond.instanceMethod yX3_image ∈ zz_T ∧ Cond.selects yX3_image.cls yX3_image yX3_image ∈ zz_T := ⟨zz_T_mem (List.mem_of_getElem? (i := 520) (by decide +kernel)) (by decide +kernel), zz_T_mem (List.mem_of_getElem? (i := 521) (by decide +kernel)) (by decide +kernel)⟩
theorem ci_X3_restore : Cond.instanceMethod yX3_restore ∈ zz_T ∧ Cond.selects yX3_restore.cls yX3_restore yX3_restore ∈ zz_T := ⟨zz_T_mem (List.mem_of_getElem? (i := 524) (by decide +kernel)) (by decide +kernel), zz_T_mem (List.mem_of_getElem? (i := 525) (by decide +kernel)) (by decide +kernel)⟩
theorem ci_X3_count : Cond.instanceMethod yX3_count ∈ zz_T ∧ Cond.selects yX3_count.cls yX3_count yX3_count ∈ zz_T := ⟨zz_T_mem (List.mem_of_getElem? (i := 528) (by decide +kernel)) (by decide +kernel), zz_T_mem (List.mem_of_getElem? (i := 529) (by decide +kernel)) (by decide +kernel)⟩
theorem ci_X3_refuse : Cond.instanceMethod yX3_refuse ∈ zz_T ∧ Cond.selects yX3_refuse.cls yX3_refuse yX3_refuse ∈ zz_T := ⟨zz_T_mem (List.mem_of_getElem? (i := 210) (by decide +kernel)) (by decide +kernel), zz_T_mem (List.mem_of_getElem? (i := 0) (by decide +kernel)) (by decide +kernel)⟩
theorem ci_X3_isNoNest : Cond.instanceMethod yX3_isNoNest ∈ zz_T ∧ Cond.selects yX3_isNoNest.cls yX3_isNoNest yX3_isNoNest ∈ zz_T := ⟨zz_T_mem (List.mem_of_getElem? (i := 280) (by decide +kernel)) (by decide +kernel), zz_T_mem (List.mem_of_getElem? (i := 6) (by decide +kernel)) (by decide +kernel)⟩
theorem ci_X3_weightTonight : Cond.instanceMethod yX3_weightTonight ∈ zz_T ∧ Cond.selects yX3_weightTonight.cls yX3_weightTonight yX3_weightTonight ∈ zz_T := ⟨zz_T_mem (List.mem_of_getElem? (i := 292) (by decide +kernel)) (by decide +kernel), zz_T_mem (List.mem_of_getElem? (i := 7) (by decide +kernel)) (by decide +kernel)⟩
theorem ci_X3_layRow : Cond.instanceMethod yX3_layRow ∈ zz_T ∧ Cond.selects yX3_layRow.cls yX3_layRow yX3_layRow ∈ zz_T := ⟨zz_T_mem (List.mem_of_getElem? (i := 461) (by decide +kernel)) (by decide +kernel), zz_T_mem (List.mem_of_getElem? (i := 17) (by decide +kernel)) (by decide +kernel)⟩
theorem ci_X3_firstUntrue : Cond.instanceMethod yX3_firstUntrue ∈ zz_T ∧ Cond.selects yX3_firstUntrue.cls yX3_firstUntrue yX3_firstUntrue ∈ zz_T := ⟨zz_T_mem (List.mem_of_getElem? (i := 465) (by decide +kernel)) (by decide +kernel), zz_T_mem (List.mem_of_getElem? (i := 18) (by decide +kernel)) (by decide +kernel)⟩
theorem ci_X3_nightsUntilUnlike : Cond.instanceMethod yX3_nightsUntilUnlike ∈ zz_T ∧ Cond.selects yX3_nightsUntilUnlike.cls yX3_nightsUntilUnlike yX3_nightsUntilUnlike ∈ zz_T := ⟨zz_T_mem (List.mem_of_getElem? (i := 473) (by decide +kernel)) (by decide +kernel), zz_T_mem (List.mem_of_getElem? (i := 19) (by decide +kernel)) (by decide +kernel)⟩
theorem cs_X3_nextSeed : Cond.static yX3_nextSeed ∈ zz_T := zz_T_mem (List.mem_of_getElem? (i := 503) (by decide +kernel)) (by decide +kernel)
theorem cs_X3_drawBelow : Cond.static yX3_drawBelow ∈ zz_T := zz_T_mem (List.mem_of_getElem? (i := 507) (by decide +kernel)) (by decide +kernel)
theorem cs_X3_commonDivisor : Cond.static yX3_commonDivisor ∈ zz_T := zz_T_mem (List.mem_of_getElem? (i := 385) (by decide +kernel)) (by decide +kernel)
theorem cs_X4_in : Cond.static yX4_in ∈ zz_T := zz_T_mem (List.mem_of_getElem? (i := 701) (by decide +kernel)) (by decide +kernel)
theorem ci_X4_refuse : Cond.instanceMethod yX4_refuse ∈ zz_T ∧ Cond.selects yX4_refuse.cls yX4_refuse yX4_refuse ∈ zz_T := ⟨zz_T_mem (List.mem_of_getElem? (i := 676) (by decide +kernel)) (by decide +kernel), zz_T_mem (List.mem_of_getElem? (i := 22) (by decide +kernel)) (by decide +kernel)⟩
theorem ci_X4_isNest : Cond.instanceMethod yX4_isNest ∈ zz_T ∧ Cond.selects yX4_isNest.cls yX4_isNest yX4_isNest ∈ zz_T := ⟨zz_T_mem (List.mem_of_getElem? (i := 713) (by decide +kernel)) (by decide +kernel), zz_T_mem (List.mem_of_getElem? (i := 28) (by decide +kernel)) (by decide +kernel)⟩
theorem ci_X4_eggsIn : Cond.instanceMethod yX4_eggsIn ∈ zz_T ∧ Cond.selects yX4_eggsIn.cls yX4_eggsIn yX4_eggsIn ∈ zz_T := ⟨zz_T_mem (List.mem_of_getElem? (i := 725) (by decide +kernel)) (by decide +kernel), zz_T_mem (List.mem_of_getElem? (i := 30) (by decide +kernel)) (by decide +kernel)⟩
theorem ci_X4_mayBits : Cond.instanceMethod yX4_mayBits ∈ zz_T ∧ Cond.selects yX4_mayBits.cls yX4_mayBits yX4_mayBits ∈ zz_T := ⟨zz_T_mem (List.mem_of_getElem? (i := 737) (by decide +kernel)) (by decide +kernel), zz_T_mem (List.mem_of_getElem? (i := 33) (by decide +kernel)) (by decide +kernel)⟩
theorem cs_X4_apart : Cond.static yX4_apart ∈ zz_T := zz_T_mem (List.mem_of_getElem? (i := 744) (by decide +kernel)) (by decide +kernel)
theorem ci_X4_rawWeight : Cond.instanceMethod yX4_rawWeight ∈ zz_T ∧ Cond.selects yX4_rawWeight.cls yX4_rawWeight yX4_rawWeight ∈ zz_T := ⟨zz_T_mem (List.mem_of_getElem? (i := 741) (by decide +kernel)) (by decide +kernel), zz_T_mem (List.mem_of_getElem? (i := 34) (by decide +kernel)) (by decide +kernel)⟩
theorem ci_X4_weigh : Cond.instanceMethod yX4_weigh ∈ zz_T ∧ Cond.selects yX4_weigh.cls yX4_weigh yX4_weigh ∈ zz_T := ⟨zz_T_mem (List.mem_of_getElem? (i := 733) (by decide +kernel)) (by decide +kernel), zz_T_mem (List.mem_of_getElem? (i := 32) (by decide +kernel)) (by decide +kernel)⟩
theorem ci_X4_laysAt : Cond.instanceMethod yX4_laysAt ∈ zz_T ∧ Cond.selects yX4_laysAt.cls yX4_laysAt yX4_laysAt ∈ zz_T := ⟨zz_T_mem (List.mem_of_getElem? (i := 773) (by decide +kernel)) (by decide +kernel), zz_T_mem (List.mem_of_getElem? (i := 38) (by decide +kernel)) (by decide +kernel)⟩
theorem ci_X4_nightAt : Cond.instanceMethod yX4_nightAt ∈ zz_T ∧ Cond.selects yX4_nightAt.cls yX4_nightAt yX4_nightAt ∈ zz_T := ⟨zz_T_mem (List.mem_of_getElem? (i := 777) (by decide +kernel)) (by decide +kernel), zz_T_mem (List.mem_of_getElem? (i := 39) (by decide +kernel)) (by decide +kernel)⟩
theorem ci_X4_nightOn : Cond.instanceMethod yX4_nightOn ∈ zz_T ∧ Cond.selects yX4_nightOn.cls yX4_nightOn yX4_nightOn ∈ zz_T := ⟨zz_T_mem (List.mem_of_getElem? (i := 769) (by decide +kernel)) (by decide +kernel), zz_T_mem (List.mem_of_getElem? (i := 37) (by decide +kernel)) (by decide +kernel)⟩
theorem ci_X4_take : Cond.instanceMethod yX4_take ∈ zz_T ∧ Cond.selects yX4_take.cls yX4_take yX4_take ∈ zz_T := ⟨zz_T_mem (List.mem_of_getElem? (i := 761) (by decide +kernel)) (by decide +kernel), zz_T_mem (List.mem_of_getElem? (i := 36) (by decide +kernel)) (by decide +kernel)⟩
theorem ci_X4_minutesOf : Cond.instanceMethod yX4_minutesOf ∈ zz_T ∧ Cond.selects yX4_minutesOf.cls yX4_minutesOf yX4_minutesOf ∈ zz_T := ⟨zz_T_mem (List.mem_of_getElem? (i := 757) (by decide +kernel)) (by decide +kernel), zz_T_mem (List.mem_of_getElem? (i := 35) (by decide +kernel)) (by decide +kernel)⟩
theorem ci_X4_carry : Cond.instanceMethod yX4_carry ∈ zz_T ∧ Cond.selects yX4_carry.cls yX4_carry yX4_carry ∈ zz_T := ⟨zz_T_mem (List.mem_of_getElem? (i := 668) (by decide +kernel)) (by decide +kernel), zz_T_mem (List.mem_of_getElem? (i := 21) (by decide +kernel)) (by decide +kernel)⟩
theorem ci_X4_carryAll : Cond.instanceMethod yX4_carryAll ∈ zz_T ∧ Cond.selects yX4_carryAll.cls yX4_carryAll yX4_carryAll ∈ zz_T := ⟨zz_T_mem (List.mem_of_getElem? (i := 664) (by decide +kernel)) (by decide +kernel), zz_T_mem (List.mem_of_getElem? (i := 20) (by decide +kernel)) (by decide +kernel)⟩
theorem ci_X4_open : Cond.instanceMethod yX4_open ∈ zz_T ∧ Cond.selects yX4_open.cls yX4_open yX4_open ∈ zz_T := ⟨zz_T_mem (List.mem_of_getElem? (i := 705) (by decide +kernel)) (by decide +kernel), zz_T_mem (List.mem_of_getElem? (i := 26) (by decide +kernel)) (by decide +kernel)⟩
theorem ci_X4_close : Cond.instanceMethod yX4_close ∈ zz_T ∧ Cond.selects yX4_close.cls yX4_close yX4_close ∈ zz_T := ⟨zz_T_mem (List.mem_of_getElem? (i := 717) (by decide +kernel)) (by decide +kernel), zz_T_mem (List.mem_of_getElem? (i := 29) (by decide +kernel)) (by decide +kernel)⟩
theorem ci_X4_image : Cond.instanceMethod yX4_image ∈ zz_T ∧ Cond.selects yX4_image.cls yX4_image yX4_image ∈ zz_T := ⟨zz_T_mem (List.mem_of_getElem? (i := 659) (by decide +kernel)) (by decide +kernel), zz_T_mem (List.mem_of_getElem? (i := 660) (by decide +kernel)) (by decide +kernel)⟩
theorem ci_X4_restore : Cond.instanceMethod yX4_restore ∈ zz_T ∧ Cond.selects yX4_restore.cls yX4_restore yX4_restore ∈ zz_T := ⟨zz_T_mem (List.mem_of_getElem? (i := 671) (by decide +kernel)) (by decide +kernel), zz_T_mem (List.mem_of_getElem? (i := 672) (by decide +kernel)) (by decide +kernel)⟩
theorem ci_X4_feed : Cond.instanceMethod yX4_feed ∈ zz_T ∧ Cond.selects yX4_feed.cls yX4_feed yX4_feed ∈ zz_T := ⟨zz_T_mem (List.mem_of_getElem? (i := 679) (by decide +kernel)) (by decide +kernel), zz_T_mem (List.mem_of_getElem? (i := 680) (by decide +kernel)) (by decide +kernel)⟩
theorem ci_X4_here : Cond.instanceMethod yX4_here ∈ zz_T ∧ Cond.selects yX4_here.cls yX4_here yX4_here ∈ zz_T := ⟨zz_T_mem (List.mem_of_getElem? (i := 692) (by decide +kernel)) (by decide +kernel), zz_T_mem (List.mem_of_getElem? (i := 24) (by decide +kernel)) (by decide +kernel)⟩
theorem ci_X4_readDigit : Cond.instanceMethod yX4_readDigit ∈ zz_T ∧ Cond.selects yX4_readDigit.cls yX4_readDigit yX4_readDigit ∈ zz_T := ⟨zz_T_mem (List.mem_of_getElem? (i := 696) (by decide +kernel)) (by decide +kernel), zz_T_mem (List.mem_of_getElem? (i := 25) (by decide +kernel)) (by decide +kernel)⟩
theorem ci_X4_readStatement : Cond.instanceMethod yX4_readStatement ∈ zz_T ∧ Cond.selects yX4_readStatement.cls yX4_readStatement yX4_readStatement ∈ zz_T := ⟨zz_T_mem (List.mem_of_getElem? (i := 688) (by decide +kernel)) (by decide +kernel), zz_T_mem (List.mem_of_getElem? (i := 23) (by decide +kernel)) (by decide +kernel)⟩
theorem ci_X4_comes : Cond.instanceMethod yX4_comes ∈ zz_T ∧ Cond.selects yX4_comes.cls yX4_comes yX4_comes ∈ zz_T := ⟨zz_T_mem (List.mem_of_getElem? (i := 709) (by decide +kernel)) (by decide +kernel), zz_T_mem (List.mem_of_getElem? (i := 27) (by decide +kernel)) (by decide +kernel)⟩
theorem ci_X4_farm : Cond.instanceMethod yX4_farm ∈ zz_T ∧ Cond.selects yX4_farm.cls yX4_farm yX4_farm ∈ zz_T := ⟨zz_T_mem (List.mem_of_getElem? (i := 683) (by decide +kernel)) (by decide +kernel), zz_T_mem (List.mem_of_getElem? (i := 684) (by decide +kernel)) (by decide +kernel)⟩
theorem ci_X4_nest : Cond.instanceMethod yX4_nest ∈ zz_T ∧ Cond.selects yX4_nest.cls yX4_nest yX4_nest ∈ zz_T := ⟨zz_T_mem (List.mem_of_getElem? (i := 720) (by decide +kernel)) (by decide +kernel), zz_T_mem (List.mem_of_getElem? (i := 721) (by decide +kernel)) (by decide +kernel)⟩
theorem ci_X4_oldest : Cond.instanceMethod yX4_oldest ∈ zz_T ∧ Cond.selects yX4_oldest.cls yX4_oldest yX4_oldest ∈ zz_T := ⟨zz_T_mem (List.mem_of_getElem? (i := 729) (by decide +kernel)) (by decide +kernel), zz_T_mem (List.mem_of_getElem? (i := 31) (by decide +kernel)) (by decide +kernel)⟩
theorem ci_X4_set : Cond.instanceMethod yX4_set ∈ zz_T ∧ Cond.selects yX4_set.cls yX4_set yX4_set ∈ zz_T := ⟨zz_T_mem (List.mem_of_getElem? (i := 747) (by decide +kernel)) (by decide +kernel), zz_T_mem (List.mem_of_getElem? (i := 748) (by decide +kernel)) (by decide +kernel)⟩
theorem ci_X4_look : Cond.instanceMethod yX4_look ∈ zz_T ∧ Cond.selects yX4_look.cls yX4_look yX4_look ∈ zz_T := ⟨zz_T_mem (List.mem_of_getElem? (i := 752) (by decide +kernel)) (by decide +kernel), zz_T_mem (List.mem_of_getElem? (i := 753) (by decide +kernel)) (by decide +kernel)⟩
theorem ci_X4_night : Cond.instanceMethod yX4_night ∈ zz_T ∧ Cond.selects yX4_night.cls yX4_night yX4_night ∈ zz_T := ⟨zz_T_mem (List.mem_of_getElem? (i := 764) (by decide +kernel)) (by decide +kernel), zz_T_mem (List.mem_of_getElem? (i := 765) (by decide +kernel)) (by decide +kernel)⟩
theorem ci_X4_tonight : Cond.instanceMethod yX4_tonight ∈ zz_T ∧ Cond.selects yX4_tonight.cls yX4_tonight yX4_tonight ∈ zz_T := ⟨zz_T_mem (List.mem_of_getElem? (i := 780) (by decide +kernel)) (by decide +kernel), zz_T_mem (List.mem_of_getElem? (i := 781) (by decide +kernel)) (by decide +kernel)⟩
theorem ci_X4_likely : Cond.instanceMethod yX4_likely ∈ zz_T ∧ Cond.selects yX4_likely.cls yX4_likely yX4_likely ∈ zz_T := ⟨zz_T_mem (List.mem_of_getElem? (i := 784) (by decide +kernel)) (by decide +kernel), zz_T_mem (List.mem_of_getElem? (i := 785) (by decide +kernel)) (by decide +kernel)⟩
theorem ci_X4_allows : Cond.instanceMethod yX4_allows ∈ zz_T ∧ Cond.selects yX4_allows.cls yX4_allows yX4_allows ∈ zz_T := ⟨zz_T_mem (List.mem_of_getElem? (i := 794) (by decide +kernel)) (by decide +kernel), zz_T_mem (List.mem_of_getElem? (i := 40) (by decide +kernel)) (by decide +kernel)⟩
theorem ci_X4_eggsOf : Cond.instanceMethod yX4_eggsOf ∈ zz_T ∧ Cond.selects yX4_eggsOf.cls yX4_eggsOf yX4_eggsOf ∈ zz_T := ⟨zz_T_mem (List.mem_of_getElem? (i := 802) (by decide +kernel)) (by decide +kernel), zz_T_mem (List.mem_of_getElem? (i := 42) (by decide +kernel)) (by decide +kernel)⟩
theorem ci_X4_bestOfDay : Cond.instanceMethod yX4_bestOfDay ∈ zz_T ∧ Cond.selects yX4_bestOfDay.cls yX4_bestOfDay yX4_bestOfDay ∈ zz_T := ⟨zz_T_mem (List.mem_of_getElem? (i := 798) (by decide +kernel)) (by decide +kernel), zz_T_mem (List.mem_of_getElem? (i := 41) (by decide +kernel)) (by decide +kernel)⟩
theorem ci_X4_bestOfTwo : Cond.instanceMethod yX4_bestOfTwo ∈ zz_T ∧ Cond.selects yX4_bestOfTwo.cls yX4_bestOfTwo yX4_bestOfTwo ∈ zz_T := ⟨zz_T_mem (List.mem_of_getElem? (i := 806) (by decide +kernel)) (by decide +kernel), zz_T_mem (List.mem_of_getElem? (i := 43) (by decide +kernel)) (by decide +kernel)⟩
theorem ci_X4_plan : Cond.instanceMethod yX4_plan ∈ zz_T ∧ Cond.selects yX4_plan.cls yX4_plan yX4_plan ∈ zz_T := ⟨zz_T_mem (List.mem_of_getElem? (i := 789) (by decide +kernel)) (by decide +kernel), zz_T_mem (List.mem_of_getElem? (i := 790) (by decide +kernel)) (by decide +kernel)⟩
theorem ci_X4_each : Cond.instanceMethod yX4_each ∈ zz_T ∧ Cond.selects yX4_each.cls yX4_each yX4_each ∈ zz_T := ⟨zz_T_mem (List.mem_of_getElem? (i := 809) (by decide +kernel)) (by decide +kernel), zz_T_mem (List.mem_of_getElem? (i := 810) (by decide +kernel)) (by decide +kernel)⟩
theorem ci_X4_shut : Cond.instanceMethod yX4_shut ∈ zz_T ∧ Cond.selects yX4_shut.cls yX4_shut yX4_shut ∈ zz_T := ⟨zz_T_mem (List.mem_of_getElem? (i := 813) (by decide +kernel)) (by decide +kernel), zz_T_mem (List.mem_of_getElem? (i := 814) (by decide +kernel)) (by decide +kernel)⟩
theorem ci_X4_lead : Cond.instanceMethod yX4_lead ∈ zz_T ∧ Cond.selects yX4_lead.cls yX4_lead yX4_lead ∈ zz_T := ⟨zz_T_mem (List.mem_of_getElem? (i := 817) (by decide +kernel)) (by decide +kernel), zz_T_mem (List.mem_of_getElem? (i := 818) (by decide +kernel)) (by decide +kernel)⟩
theorem ci_X4_row : Cond.instanceMethod yX4_row ∈ zz_T ∧ Cond.selects yX4_row.cls yX4_row yX4_row ∈ zz_T := ⟨zz_T_mem (List.mem_of_getElem? (i := 821) (by decide +kernel)) (by decide +kernel), zz_T_mem (List.mem_of_getElem? (i := 822) (by decide +kernel)) (by decide +kernel)⟩
theorem ci_X4_firstUnlike : Cond.instanceMethod yX4_firstUnlike ∈ zz_T ∧ Cond.selects yX4_firstUnlike.cls yX4_firstUnlike yX4_firstUnlike ∈ zz_T := ⟨zz_T_mem (List.mem_of_getElem? (i := 830) (by decide +kernel)) (by decide +kernel), zz_T_mem (List.mem_of_getElem? (i := 44) (by decide +kernel)) (by decide +kernel)⟩
theorem ci_X4_ways : Cond.instanceMethod yX4_ways ∈ zz_T ∧ Cond.selects yX4_ways.cls yX4_ways yX4_ways ∈ zz_T := ⟨zz_T_mem (List.mem_of_getElem? (i := 825) (by decide +kernel)) (by decide +kernel), zz_T_mem (List.mem_of_getElem? (i := 826) (by decide +kernel)) (by decide +kernel)⟩
theorem ci_X4_soon : Cond.instanceMethod yX4_soon ∈ zz_T ∧ Cond.selects yX4_soon.cls yX4_soon yX4_soon ∈ zz_T := ⟨zz_T_mem (List.mem_of_getElem? (i := 833) (by decide +kernel)) (by decide +kernel), zz_T_mem (List.mem_of_getElem? (i := 834) (by decide +kernel)) (by decide +kernel)⟩
theorem ci_X4_eggsOfAll : Cond.instanceMethod yX4_eggsOfAll ∈ zz_T ∧ Cond.selects yX4_eggsOfAll.cls yX4_eggsOfAll yX4_eggsOfAll ∈ zz_T := ⟨zz_T_mem (List.mem_of_getElem? (i := 842) (by decide +kernel)) (by decide +kernel), zz_T_mem (List.mem_of_getElem? (i := 45) (by decide +kernel)) (by decide +kernel)⟩
theorem ci_X4_settle : Cond.instanceMethod yX4_settle ∈ zz_T ∧ Cond.selects yX4_settle.cls yX4_settle yX4_settle ∈ zz_T := ⟨zz_T_mem (List.mem_of_getElem? (i := 837) (by decide +kernel)) (by decide +kernel), zz_T_mem (List.mem_of_getElem? (i := 838) (by decide +kernel)) (by decide +kernel)⟩
theorem ci_X4_without : Cond.instanceMethod yX4_without ∈ zz_T ∧ Cond.selects yX4_without.cls yX4_without yX4_without ∈ zz_T := ⟨zz_T_mem (List.mem_of_getElem? (i := 845) (by decide +kernel)) (by decide +kernel), zz_T_mem (List.mem_of_getElem? (i := 846) (by decide +kernel)) (by decide +kernel)⟩
theorem ci_X4_put : Cond.instanceMethod yX4_put ∈ zz_T ∧ Cond.selects yX4_put.cls yX4_put yX4_put ∈ zz_T := ⟨zz_T_mem (List.mem_of_getElem? (i := 849) (by decide +kernel)) (by decide +kernel), zz_T_mem (List.mem_of_getElem? (i := 850) (by decide +kernel)) (by decide +kernel)⟩
theorem ci_X4_been : Cond.instanceMethod yX4_been ∈ zz_T ∧ Cond.selects yX4_been.cls yX4_been yX4_been ∈ zz_T := ⟨zz_T_mem (List.mem_of_getElem? (i := 853) (by decide +kernel)) (by decide +kernel), zz_T_mem (List.mem_of_getElem? (i := 854) (by decide +kernel)) (by decide +kernel)⟩
theorem ci_X4_judge : Cond.instanceMethod yX4_judge ∈ zz_T ∧ Cond.selects yX4_judge.cls yX4_judge yX4_judge ∈ zz_T := ⟨zz_T_mem (List.mem_of_getElem? (i := 857) (by decide +kernel)) (by decide +kernel), zz_T_mem (List.mem_of_getElem? (i := 858) (by decide +kernel)) (by decide +kernel)⟩
theorem ci_X4_draw : Cond.instanceMethod yX4_draw ∈ zz_T ∧ Cond.selects yX4_draw.cls yX4_draw yX4_draw ∈ zz_T := ⟨zz_T_mem (List.mem_of_getElem? (i := 866) (by decide +kernel)) (by decide +kernel), zz_T_mem (List.mem_of_getElem? (i := 46) (by decide +kernel)) (by decide +kernel)⟩
theorem ci_X4_drawnNest : Cond.instanceMethod yX4_drawnNest ∈ zz_T ∧ Cond.selects yX4_drawnNest.cls yX4_drawnNest yX4_drawnNest ∈ zz_T := ⟨zz_T_mem (List.mem_of_getElem? (i := 873) (by decide +kernel)) (by decide +kernel), zz_T_mem (List.mem_of_getElem? (i := 47) (by decide +kernel)) (by decide +kernel)⟩
theorem ci_X4_seeds : Cond.instanceMethod yX4_seeds ∈ zz_T ∧ Cond.selects yX4_seeds.cls yX4_seeds yX4_seeds ∈ zz_T := ⟨zz_T_mem (List.mem_of_getElem? (i := 861) (by decide +kernel)) (by decide +kernel), zz_T_mem (List.mem_of_getElem? (i := 862) (by decide +kernel)) (by decide +kernel)⟩
theorem ci_X4_clear : Cond.instanceMethod yX4_clear ∈ zz_T ∧ Cond.selects yX4_clear.cls yX4_clear yX4_clear ∈ zz_T := ⟨zz_T_mem (List.mem_of_getElem? (i := 876) (by decide +kernel)) (by decide +kernel), zz_T_mem (List.mem_of_getElem? (i := 877) (by decide +kernel)) (by decide +kernel)⟩
theorem ci_X4_count : Cond.instanceMethod yX4_count ∈ zz_T ∧ Cond.selects yX4_count.cls yX4_count yX4_count ∈ zz_T := ⟨zz_T_mem (List.mem_of_getElem? (i := 880) (by decide +kernel)) (by decide +kernel), zz_T_mem (List.mem_of_getElem? (i := 881) (by decide +kernel)) (by decide +kernel)⟩
theorem cs_J6_numberOfTrailingZeros_0f7a4 : Cond.static yJ6_numberOfTrailingZeros_0f7a4 ∈ zz_T := zz_T_mem (List.mem_of_getElem? (i := 414) (by decide +kernel)) (by decide +kernel)
theorem cs_J6_bitCount_0f7a4 : Cond.static yJ6_bitCount_0f7a4 ∈ zz_T := zz_T_mem (List.mem_of_getElem? (i := 322) (by decide +kernel)) (by decide +kernel)
theorem ct_J6_265 : Cond.constant RJ6 265 (Int32.ofInt (1431655765)) ∈ zz_T := zz_T_mem (List.mem_of_getElem? (i := 324) (by decide +kernel)) (by decide +kernel)
theorem ct_J6_266 : Cond.constant RJ6 266 (Int32.ofInt (858993459)) ∈ zz_T := zz_T_mem (List.mem_of_getElem? (i := 325) (by decide +kernel)) (by decide +kernel)
theorem ct_J6_267 : Cond.constant RJ6 267 (Int32.ofInt (252645135)) ∈ zz_T := zz_T_mem (List.mem_of_getElem? (i := 326) (by decide +kernel)) (by decide +kernel)
theorem ctl_X3_131 : Cond.constantLong RX3 131 (Int64.ofInt (4000000000000000000)) ∈ zz_T := zz_T_mem (List.mem_of_getElem? (i := 383) (by decide +kernel)) (by decide +kernel)
theorem ct_J6_264 : Cond.constant RJ6 264 (Int32.ofInt (65536)) ∈ zz_T := zz_T_mem (List.mem_of_getElem? (i := 416) (by decide +kernel)) (by decide +kernel)
theorem ct_X3_202 : Cond.constant RX3 202 (Int32.ofInt (1103515245)) ∈ zz_T := zz_T_mem (List.mem_of_getElem? (i := 505) (by decide +kernel)) (by decide +kernel)
theorem ct_X3_203 : Cond.constant RX3 203 (Int32.ofInt (2147483647)) ∈ zz_T := zz_T_mem (List.mem_of_getElem? (i := 509) (by decide +kernel)) (by decide +kernel)
theorem ct_X3_204 : Cond.constant RX3 204 (Int32.ofInt (65536)) ∈ zz_T := zz_T_mem (List.mem_of_getElem? (i := 510) (by decide +kernel)) (by decide +kernel)
theorem ctl_X4_165 : Cond.constantLong RX4 165 (Int64.ofInt (48)) ∈ zz_T := zz_T_mem (List.mem_of_getElem? (i := 698) (by decide +kernel)) (by decide +kernel)
theorem ctl_X4_167 : Cond.constantLong RX4 167 (Int64.ofInt (57)) ∈ zz_T := zz_T_mem (List.mem_of_getElem? (i := 699) (by decide +kernel)) (by decide +kernel)
theorem ctl_X4_194 : Cond.constantLong RX4 194 (Int64.ofInt (3)) ∈ zz_T := zz_T_mem (List.mem_of_getElem? (i := 750) (by decide +kernel)) (by decide +kernel)
theorem ctl_X4_205 : Cond.constantLong RX4 205 (Int64.ofInt (4000000000000000000)) ∈ zz_T := zz_T_mem (List.mem_of_getElem? (i := 787) (by decide +kernel)) (by decide +kernel)
theorem ct_X4_231 : Cond.constant RX4 231 (Int32.ofInt (1103515245)) ∈ zz_T := zz_T_mem (List.mem_of_getElem? (i := 868) (by decide +kernel)) (by decide +kernel)
theorem ct_X4_232 : Cond.constant RX4 232 (Int32.ofInt (2147483647)) ∈ zz_T := zz_T_mem (List.mem_of_getElem? (i := 869) (by decide +kernel)) (by decide +kernel)
theorem ct_X4_233 : Cond.constant RX4 233 (Int32.ofInt (65536)) ∈ zz_T := zz_T_mem (List.mem_of_getElem? (i := 870) (by decide +kernel)) (by decide +kernel)
theorem ctl_X4_240 : Cond.constantLong RX4 240 (Int64.ofInt (11)) ∈ zz_T := zz_T_mem (List.mem_of_getElem? (i := 883) (by decide +kernel)) (by decide +kernel)
theorem ctl_X4_242 : Cond.constantLong RX4 242 (Int64.ofInt (16)) ∈ zz_T := zz_T_mem (List.mem_of_getElem? (i := 884) (by decide +kernel)) (by decide +kernel)
end
section
/-! decode rows of the class -/
theorem dX0_init_0 : decode cX0_init 0 = .ok (.aload_n 0, 1) := by decide +kernel
theorem dX0_init_1 : decode cX0_init 1 = .ok (.invokespecial 3, 3) := by decide +kernel
theorem dX0_init_4 : decode cX0_init 4 = .ok (.aload_n 0, 1) := by decide +kernel
theorem dX0_init_5 : decode cX0_init 5 = .ok (.bipush 80, 2) := by decide +kernel
theorem dX0_init_7 : decode cX0_init 7 = .ok (.newarray .int, 2) := by decide +kernel
theorem dX0_init_9 : decode cX0_init 9 = .ok (.putfield 9, 3) := by decide +kernel
theorem dX0_init_12 : decode cX0_init 12 = .ok (.return_, 1) := by decide +kernel
theorem dX0_append_0 : decode cX0_append 0 = .ok (.aload_n 0, 1) := by decide +kernel
theorem dX0_append_1 : decode cX0_append 1 = .ok (.getfield 15, 3) := by decide +kernel
theorem dX0_append_4 : decode cX0_append 4 = .ok (.bipush 80, 2) := by decide +kernel
theorem dX0_append_6 : decode cX0_append 6 = .ok (.if_icmp .ge 23, 3) := by decide +kernel
theorem dX0_append_9 : decode cX0_append 9 = .ok (.aload_n 0, 1) := by decide +kernel
theorem dX0_append_10 : decode cX0_append 10 = .ok (.getfield 9, 3) := by decide +kernel
theorem dX0_append_13 : decode cX0_append 13 = .ok (.aload_n 0, 1) := by decide +kernel
theorem dX0_append_14 : decode cX0_append 14 = .ok (.getfield 15, 3) := by decide +kernel
theorem dX0_append_17 : decode cX0_append 17 = .ok (.iload_n 1, 1) := by decide +kernel
theorem dX0_append_18 : decode cX0_append 18 = .ok (.iastore, 1) := by decide +kernel
theorem dX0_append_19 : decode cX0_append 19 = .ok (.aload_n 0, 1) := by decide +kernel
theorem dX0_append_20 : decode cX0_append 20 = .ok (.dup, 1) := by decide +kernel
theorem dX0_append_21 : decode cX0_append 21 = .ok (.getfield 15, 3) := by decide +kernel
theorem dX0_append_24 : decode cX0_append 24 = .ok (.iconst 1, 1) := by decide +kernel
theorem dX0_append_25 : decode cX0_append 25 = .ok (.iadd, 1) := by decide +kernel
theorem dX0_append_26 : decode cX0_append 26 = .ok (.putfield 15, 3) := by decide +kernel
theorem dX0_append_29 : decode cX0_append 29 = .ok (.aload_n 0, 1) := by decide +kernel
theorem dX0_append_30 : decode cX0_append 30 = .ok (.getfield 15, 3) := by decide +kernel
theorem dX0_append_33 : decode cX0_append 33 = .ok (.ireturn, 1) := by decide +kernel
theorem dX0_readInto_0 : decode cX0_readInto 0 = .ok (.aload_n 0, 1) := by decide +kernel
theorem dX0_readInto_1 : decode cX0_readInto 1 = .ok (.invokevirtual 19, 3) := by decide +kernel
theorem dX0_readInto_4 : decode cX0_readInto 4 = .ok (.istore_n 2, 1) := by decide +kernel
theorem dX0_readInto_5 : decode cX0_readInto 5 = .ok (.iload_n 2, 1) := by decide +kernel
theorem dX0_readInto_6 : decode cX0_readInto 6 = .ok (.bipush (-9), 2) := by decide +kernel
theorem dX0_readInto_8 : decode cX0_readInto 8 = .ok (.if_icmp .eq 9, 3) := by decide +kernel
theorem dX0_readInto_11 : decode cX0_readInto 11 = .ok (.sipush (-1000), 3) := by decide +kernel
theorem dX0_readInto_14 : decode cX0_readInto 14 = .ok (.iload_n 2, 1) := by decide +kernel
theorem dX0_readInto_15 : decode cX0_readInto 15 = .ok (.isub, 1) := by decide +kernel
theorem dX0_readInto_16 : decode cX0_readInto 16 = .ok (.ireturn, 1) := by decide +kernel
theorem dX0_readInto_17 : decode cX0_readInto 17 = .ok (.iconst 0, 1) := by decide +kernel
theorem dX0_readInto_18 : decode cX0_readInto 18 = .ok (.istore_n 3, 1) := by decide +kernel
theorem dX0_readInto_19 : decode cX0_readInto 19 = .ok (.iconst 0, 1) := by decide +kernel
theorem dX0_readInto_20 : decode cX0_readInto 20 = .ok (.istore 4, 2) := by decide +kernel
theorem dX0_readInto_22 : decode cX0_readInto 22 = .ok (.iload 4, 2) := by decide +kernel
theorem dX0_readInto_24 : decode cX0_readInto 24 = .ok (.aload_n 0, 1) := by decide +kernel
theorem dX0_readInto_25 : decode cX0_readInto 25 = .ok (.getfield 15, 3) := by decide +kernel
theorem dX0_readInto_28 : decode cX0_readInto 28 = .ok (.if_icmp .ge 45, 3) := by decide +kernel
theorem dX0_readInto_31 : decode cX0_readInto 31 = .ok (.aload_n 0, 1) := by decide +kernel
theorem dX0_readInto_32 : decode cX0_readInto 32 = .ok (.iload 4, 2) := by decide +kernel
theorem dX0_readInto_34 : decode cX0_readInto 34 = .ok (.invokevirtual 23, 3) := by decide +kernel
theorem dX0_readInto_37 : decode cX0_readInto 37 = .ok (.istore 5, 2) := by decide +kernel
theorem dX0_readInto_39 : decode cX0_readInto 39 = .ok (.aload_n 0, 1) := by decide +kernel
theorem dX0_readInto_40 : decode cX0_readInto 40 = .ok (.aload_n 1, 1) := by decide +kernel
theorem dX0_readInto_41 : decode cX0_readInto 41 = .ok (.iload 4, 2) := by decide +kernel
theorem dX0_readInto_43 : decode cX0_readInto 43 = .ok (.iload 5, 2) := by decide +kernel
theorem dX0_readInto_45 : decode cX0_readInto 45 = .ok (.invokevirtual 27, 3) := by decide +kernel
theorem dX0_readInto_48 : decode cX0_readInto 48 = .ok (.ifCond .ne 10, 3) := by decide +kernel
theorem dX0_readInto_51 : decode cX0_readInto 51 = .ok (.sipush (-2000), 3) := by decide +kernel
theorem dX0_readInto_54 : decode cX0_readInto 54 = .ok (.iload 4, 2) := by decide +kernel
theorem dX0_readInto_56 : decode cX0_readInto 56 = .ok (.isub, 1) := by decide +kernel
theorem dX0_readInto_57 : decode cX0_readInto 57 = .ok (.ireturn, 1) := by decide +kernel
theorem dX0_readInto_58 : decode cX0_readInto 58 = .ok (.iinc 3 1, 3) := by decide +kernel
theorem dX0_readInto_61 : decode cX0_readInto 61 = .ok (.iload 4, 2) := by decide +kernel
theorem dX0_readInto_63 : decode cX0_readInto 63 = .ok (.iload 5, 2) := by decide +kernel
theorem dX0_readInto_65 : decode cX0_readInto 65 = .ok (.iconst 2, 1) := by decide +kernel
theorem dX0_readInto_66 : decode cX0_readInto 66 = .ok (.iadd, 1) := by decide +kernel
theorem dX0_readInto_67 : decode cX0_readInto 67 = .ok (.iadd, 1) := by decide +kernel
theorem dX0_readInto_68 : decode cX0_readInto 68 = .ok (.istore 4, 2) := by decide +kernel
theorem dX0_readInto_70 : decode cX0_readInto 70 = .ok (.goto (-48), 3) := by decide +kernel
theorem dX0_readInto_73 : decode cX0_readInto 73 = .ok (.iload_n 3, 1) := by decide +kernel
theorem dX0_readInto_74 : decode cX0_readInto 74 = .ok (.ireturn, 1) := by decide +kernel
theorem dX0_firstUnfit_0 : decode cX0_firstUnfit 0 = .ok (.aload_n 0, 1) := by decide +kernel
theorem dX0_firstUnfit_1 : decode cX0_firstUnfit 1 = .ok (.getfield 15, 3) := by decide +kernel
theorem dX0_firstUnfit_4 : decode cX0_firstUnfit 4 = .ok (.ifCond .ne 5, 3) := by decide +kernel
theorem dX0_firstUnfit_7 : decode cX0_firstUnfit 7 = .ok (.iconst 0, 1) := by decide +kernel
theorem dX0_firstUnfit_8 : decode cX0_firstUnfit 8 = .ok (.ireturn, 1) := by decide +kernel
theorem dX0_firstUnfit_9 : decode cX0_firstUnfit 9 = .ok (.iconst 0, 1) := by decide +kernel
theorem dX0_firstUnfit_10 : decode cX0_firstUnfit 10 = .ok (.istore_n 1, 1) := by decide +kernel
theorem dX0_firstUnfit_11 : decode cX0_firstUnfit 11 = .ok (.iload_n 1, 1) := by decide +kernel
theorem dX0_firstUnfit_12 : decode cX0_firstUnfit 12 = .ok (.aload_n 0, 1) := by decide +kernel
theorem dX0_firstUnfit_13 : decode cX0_firstUnfit 13 = .ok (.getfield 15, 3) := by decide +kernel
theorem dX0_firstUnfit_16 : decode cX0_firstUnfit 16 = .ok (.if_icmp .ge 54, 3) := by decide +kernel
theorem dX0_firstUnfit_19 : decode cX0_firstUnfit 19 = .ok (.aload_n 0, 1) := by decide +kernel
theorem dX0_firstUnfit_20 : decode cX0_firstUnfit 20 = .ok (.getfield 9, 3) := by decide +kernel
theorem dX0_firstUnfit_23 : decode cX0_firstUnfit 23 = .ok (.iload_n 1, 1) := by decide +kernel
theorem dX0_firstUnfit_24 : decode cX0_firstUnfit 24 = .ok (.iaload, 1) := by decide +kernel
theorem dX0_firstUnfit_25 : decode cX0_firstUnfit 25 = .ok (.invokestatic 31, 3) := by decide +kernel
theorem dX0_firstUnfit_28 : decode cX0_firstUnfit 28 = .ok (.istore_n 2, 1) := by decide +kernel
theorem dX0_firstUnfit_29 : decode cX0_firstUnfit 29 = .ok (.iload_n 2, 1) := by decide +kernel
theorem dX0_firstUnfit_30 : decode cX0_firstUnfit 30 = .ok (.ifCond .ne 5, 3) := by decide +kernel
theorem dX0_firstUnfit_33 : decode cX0_firstUnfit 33 = .ok (.iload_n 1, 1) := by decide +kernel
theorem dX0_firstUnfit_34 : decode cX0_firstUnfit 34 = .ok (.ireturn, 1) := by decide +kernel
theorem dX0_firstUnfit_35 : decode cX0_firstUnfit 35 = .ok (.aload_n 0, 1) := by decide +kernel
theorem dX0_firstUnfit_36 : decode cX0_firstUnfit 36 = .ok (.iload_n 1, 1) := by decide +kernel
theorem dX0_firstUnfit_37 : decode cX0_firstUnfit 37 = .ok (.invokevirtual 23, 3) := by decide +kernel
theorem dX0_firstUnfit_40 : decode cX0_firstUnfit 40 = .ok (.istore_n 3, 1) := by decide +kernel
theorem dX0_firstUnfit_41 : decode cX0_firstUnfit 41 = .ok (.iload_n 1, 1) := by decide +kernel
theorem dX0_firstUnfit_42 : decode cX0_firstUnfit 42 = .ok (.iload_n 3, 1) := by decide +kernel
theorem dX0_firstUnfit_43 : decode cX0_firstUnfit 43 = .ok (.iconst 1, 1) := by decide +kernel
theorem dX0_firstUnfit_44 : decode cX0_firstUnfit 44 = .ok (.iadd, 1) := by decide +kernel
theorem dX0_firstUnfit_45 : decode cX0_firstUnfit 45 = .ok (.iadd, 1) := by decide +kernel
theorem dX0_firstUnfit_46 : decode cX0_firstUnfit 46 = .ok (.istore_n 1, 1) := by decide +kernel
theorem dX0_firstUnfit_47 : decode cX0_firstUnfit 47 = .ok (.iload_n 3, 1) := by decide +kernel
theorem dX0_firstUnfit_48 : decode cX0_firstUnfit 48 = .ok (.iload_n 2, 1) := by decide +kernel
theorem dX0_firstUnfit_49 : decode cX0_firstUnfit 49 = .ok (.if_icmp .lt 13, 3) := by decide +kernel
theorem dX0_firstUnfit_52 : decode cX0_firstUnfit 52 = .ok (.aload_n 0, 1) := by decide +kernel
theorem dX0_firstUnfit_53 : decode cX0_firstUnfit 53 = .ok (.iload_n 1, 1) := by decide +kernel
theorem dX0_firstUnfit_54 : decode cX0_firstUnfit 54 = .ok (.invokevirtual 34, 3) := by decide +kernel
theorem dX0_firstUnfit_57 : decode cX0_firstUnfit 57 = .ok (.bipush 59, 2) := by decide +kernel
theorem dX0_firstUnfit_59 : decode cX0_firstUnfit 59 = .ok (.if_icmp .eq 5, 3) := by decide +kernel
theorem dX0_firstUnfit_62 : decode cX0_firstUnfit 62 = .ok (.iload_n 1, 1) := by decide +kernel
theorem dX0_firstUnfit_63 : decode cX0_firstUnfit 63 = .ok (.ireturn, 1) := by decide +kernel
theorem dX0_firstUnfit_64 : decode cX0_firstUnfit 64 = .ok (.iinc 1 1, 3) := by decide +kernel
theorem dX0_firstUnfit_67 : decode cX0_firstUnfit 67 = .ok (.goto (-56), 3) := by decide +kernel
theorem dX0_firstUnfit_70 : decode cX0_firstUnfit 70 = .ok (.bipush (-9), 2) := by decide +kernel
theorem dX0_firstUnfit_72 : decode cX0_firstUnfit 72 = .ok (.ireturn, 1) := by decide +kernel
theorem dX0_applyStatement_0 : decode cX0_applyStatement 0 = .ok (.aload_n 0, 1) := by decide +kernel
theorem dX0_applyStatement_1 : decode cX0_applyStatement 1 = .ok (.iload_n 2, 1) := by decide +kernel
theorem dX0_applyStatement_2 : decode cX0_applyStatement 2 = .ok (.iconst 1, 1) := by decide +kernel
theorem dX0_applyStatement_3 : decode cX0_applyStatement 3 = .ok (.iadd, 1) := by decide +kernel
theorem dX0_applyStatement_4 : decode cX0_applyStatement 4 = .ok (.invokevirtual 37, 3) := by decide +kernel
theorem dX0_applyStatement_7 : decode cX0_applyStatement 7 = .ok (.istore 4, 2) := by decide +kernel
theorem dX0_applyStatement_9 : decode cX0_applyStatement 9 = .ok (.aload_n 0, 1) := by decide +kernel
theorem dX0_applyStatement_10 : decode cX0_applyStatement 10 = .ok (.iload_n 2, 1) := by decide +kernel
theorem dX0_applyStatement_11 : decode cX0_applyStatement 11 = .ok (.iconst 2, 1) := by decide +kernel
theorem dX0_applyStatement_12 : decode cX0_applyStatement 12 = .ok (.iadd, 1) := by decide +kernel
theorem dX0_applyStatement_13 : decode cX0_applyStatement 13 = .ok (.invokevirtual 37, 3) := by decide +kernel
theorem dX0_applyStatement_16 : decode cX0_applyStatement 16 = .ok (.istore 5, 2) := by decide +kernel
theorem dX0_applyStatement_18 : decode cX0_applyStatement 18 = .ok (.aload_n 0, 1) := by decide +kernel
theorem dX0_applyStatement_19 : decode cX0_applyStatement 19 = .ok (.iload_n 2, 1) := by decide +kernel
theorem dX0_applyStatement_20 : decode cX0_applyStatement 20 = .ok (.invokevirtual 34, 3) := by decide +kernel
theorem dX0_applyStatement_23 : decode cX0_applyStatement 23 = .ok (.lookupswitch 139 #[(101, 130), (104, 72), (110, 49), (114, 122), (116, 98)], 49) := by decide +kernel
theorem dX0_applyStatement_72 : decode cX0_applyStatement 72 = .ok (.aload_n 1, 1) := by decide +kernel
theorem dX0_applyStatement_73 : decode cX0_applyStatement 73 = .ok (.iload 4, 2) := by decide +kernel
theorem dX0_applyStatement_75 : decode cX0_applyStatement 75 = .ok (.iload 5, 2) := by decide +kernel
theorem dX0_applyStatement_77 : decode cX0_applyStatement 77 = .ok (.aload_n 0, 1) := by decide +kernel
theorem dX0_applyStatement_78 : decode cX0_applyStatement 78 = .ok (.iload_n 2, 1) := by decide +kernel
theorem dX0_applyStatement_79 : decode cX0_applyStatement 79 = .ok (.iconst 3, 1) := by decide +kernel
theorem dX0_applyStatement_80 : decode cX0_applyStatement 80 = .ok (.iadd, 1) := by decide +kernel
theorem dX0_applyStatement_81 : decode cX0_applyStatement 81 = .ok (.invokevirtual 37, 3) := by decide +kernel
theorem dX0_applyStatement_84 : decode cX0_applyStatement 84 = .ok (.aload_n 0, 1) := by decide +kernel
theorem dX0_applyStatement_85 : decode cX0_applyStatement 85 = .ok (.iload_n 2, 1) := by decide +kernel
theorem dX0_applyStatement_86 : decode cX0_applyStatement 86 = .ok (.iconst 4, 1) := by decide +kernel
theorem dX0_applyStatement_87 : decode cX0_applyStatement 87 = .ok (.iadd, 1) := by decide +kernel
theorem dX0_applyStatement_88 : decode cX0_applyStatement 88 = .ok (.invokevirtual 37, 3) := by decide +kernel
theorem dX0_applyStatement_91 : decode cX0_applyStatement 91 = .ok (.invokevirtual 40, 3) := by decide +kernel
theorem dX0_applyStatement_94 : decode cX0_applyStatement 94 = .ok (.ireturn, 1) := by decide +kernel
theorem dX0_applyStatement_95 : decode cX0_applyStatement 95 = .ok (.aload_n 1, 1) := by decide +kernel
theorem dX0_applyStatement_96 : decode cX0_applyStatement 96 = .ok (.iconst 0, 1) := by decide +kernel
theorem dX0_applyStatement_97 : decode cX0_applyStatement 97 = .ok (.iload 4, 2) := by decide +kernel
theorem dX0_applyStatement_99 : decode cX0_applyStatement 99 = .ok (.invokevirtual 46, 3) := by decide +kernel
theorem dX0_applyStatement_102 : decode cX0_applyStatement 102 = .ok (.ifCond .eq 17, 3) := by decide +kernel
theorem dX0_applyStatement_105 : decode cX0_applyStatement 105 = .ok (.aload_n 1, 1) := by decide +kernel
theorem dX0_applyStatement_106 : decode cX0_applyStatement 106 = .ok (.iconst 1, 1) := by decide +kernel
theorem dX0_applyStatement_107 : decode cX0_applyStatement 107 = .ok (.iload 5, 2) := by decide +kernel
theorem dX0_applyStatement_109 : decode cX0_applyStatement 109 = .ok (.invokevirtual 46, 3) := by decide +kernel
theorem dX0_applyStatement_112 : decode cX0_applyStatement 112 = .ok (.ifCond .eq 7, 3) := by decide +kernel
theorem dX0_applyStatement_115 : decode cX0_applyStatement 115 = .ok (.iconst 1, 1) := by decide +kernel
theorem dX0_applyStatement_116 : decode cX0_applyStatement 116 = .ok (.goto 4, 3) := by decide +kernel
theorem dX0_applyStatement_119 : decode cX0_applyStatement 119 = .ok (.iconst 0, 1) := by decide +kernel
theorem dX0_applyStatement_120 : decode cX0_applyStatement 120 = .ok (.ireturn, 1) := by decide +kernel
theorem dX0_applyStatement_121 : decode cX0_applyStatement 121 = .ok (.aload_n 1, 1) := by decide +kernel
theorem dX0_applyStatement_122 : decode cX0_applyStatement 122 = .ok (.iconst 2, 1) := by decide +kernel
theorem dX0_applyStatement_123 : decode cX0_applyStatement 123 = .ok (.iload_n 3, 1) := by decide +kernel
theorem dX0_applyStatement_124 : decode cX0_applyStatement 124 = .ok (.iconst 1, 1) := by decide +kernel
theorem dX0_applyStatement_125 : decode cX0_applyStatement 125 = .ok (.if_icmp .ne 8, 3) := by decide +kernel
theorem dX0_applyStatement_128 : decode cX0_applyStatement 128 = .ok (.iload 4, 2) := by decide +kernel
theorem dX0_applyStatement_130 : decode cX0_applyStatement 130 = .ok (.goto 11, 3) := by decide +kernel
theorem dX0_applyStatement_133 : decode cX0_applyStatement 133 = .ok (.iload 4, 2) := by decide +kernel
theorem dX0_applyStatement_135 : decode cX0_applyStatement 135 = .ok (.bipush 10, 2) := by decide +kernel
theorem dX0_applyStatement_137 : decode cX0_applyStatement 137 = .ok (.imul, 1) := by decide +kernel
theorem dX0_applyStatement_138 : decode cX0_applyStatement 138 = .ok (.iload 5, 2) := by decide +kernel
theorem dX0_applyStatement_140 : decode cX0_applyStatement 140 = .ok (.iadd, 1) := by decide +kernel
theorem dX0_applyStatement_141 : decode cX0_applyStatement 141 = .ok (.invokevirtual 46, 3) := by decide +kernel
theorem dX0_applyStatement_144 : decode cX0_applyStatement 144 = .ok (.ireturn, 1) := by decide +kernel
theorem dX0_applyStatement_145 : decode cX0_applyStatement 145 = .ok (.aload_n 1, 1) := by decide +kernel
theorem dX0_applyStatement_146 : decode cX0_applyStatement 146 = .ok (.iconst 3, 1) := by decide +kernel
theorem dX0_applyStatement_147 : decode cX0_applyStatement 147 = .ok (.iload 4, 2) := by decide +kernel
theorem dX0_applyStatement_149 : decode cX0_applyStatement 149 = .ok (.invokevirtual 46, 3) := by decide +kernel
theorem dX0_applyStatement_152 : decode cX0_applyStatement 152 = .ok (.ireturn, 1) := by decide +kernel
theorem dX0_applyStatement_153 : decode cX0_applyStatement 153 = .ok (.aload_n 1, 1) := by decide +kernel
theorem dX0_applyStatement_154 : decode cX0_applyStatement 154 = .ok (.iload 4, 2) := by decide +kernel
theorem dX0_applyStatement_156 : decode cX0_applyStatement 156 = .ok (.iload 5, 2) := by decide +kernel
theorem dX0_applyStatement_158 : decode cX0_applyStatement 158 = .ok (.invokevirtual 50, 3) := by decide +kernel
theorem dX0_applyStatement_161 : decode cX0_applyStatement 161 = .ok (.ireturn, 1) := by decide +kernel
theorem dX0_applyStatement_162 : decode cX0_applyStatement 162 = .ok (.iconst 0, 1) := by decide +kernel
theorem dX0_applyStatement_163 : decode cX0_applyStatement 163 = .ok (.ireturn, 1) := by decide +kernel
theorem dX0_leastDigits_0 : decode cX0_leastDigits 0 = .ok (.iload_n 0, 1) := by decide +kernel
theorem dX0_leastDigits_1 : decode cX0_leastDigits 1 = .ok (.lookupswitch 61 #[(101, 55), (104, 53), (110, 51), (114, 59), (116, 57)], 51) := by decide +kernel
theorem dX0_leastDigits_52 : decode cX0_leastDigits 52 = .ok (.iconst 4, 1) := by decide +kernel
theorem dX0_leastDigits_53 : decode cX0_leastDigits 53 = .ok (.ireturn, 1) := by decide +kernel
theorem dX0_leastDigits_54 : decode cX0_leastDigits 54 = .ok (.iconst 2, 1) := by decide +kernel
theorem dX0_leastDigits_55 : decode cX0_leastDigits 55 = .ok (.ireturn, 1) := by decide +kernel
theorem dX0_leastDigits_56 : decode cX0_leastDigits 56 = .ok (.iconst 2, 1) := by decide +kernel
theorem dX0_leastDigits_57 : decode cX0_leastDigits 57 = .ok (.ireturn, 1) := by decide +kernel
theorem dX0_leastDigits_58 : decode cX0_leastDigits 58 = .ok (.iconst 1, 1) := by decide +kernel
theorem dX0_leastDigits_59 : decode cX0_leastDigits 59 = .ok (.ireturn, 1) := by decide +kernel
theorem dX0_leastDigits_60 : decode cX0_leastDigits 60 = .ok (.iconst 1, 1) := by decide +kernel
theorem dX0_leastDigits_61 : decode cX0_leastDigits 61 = .ok (.ireturn, 1) := by decide +kernel
theorem dX0_leastDigits_62 : decode cX0_leastDigits 62 = .ok (.iconst 0, 1) := by decide +kernel
theorem dX0_leastDigits_63 : decode cX0_leastDigits 63 = .ok (.ireturn, 1) := by decide +kernel
theorem dX0_digitsBehind_0 : decode cX0_digitsBehind 0 = .ok (.aload_n 0, 1) := by decide +kernel
theorem dX0_digitsBehind_1 : decode cX0_digitsBehind 1 = .ok (.iload_n 1, 1) := by decide +kernel
theorem dX0_digitsBehind_2 : decode cX0_digitsBehind 2 = .ok (.invokevirtual 34, 3) := by decide +kernel
theorem dX0_digitsBehind_5 : decode cX0_digitsBehind 5 = .ok (.istore_n 2, 1) := by decide +kernel
theorem dX0_digitsBehind_6 : decode cX0_digitsBehind 6 = .ok (.iload_n 2, 1) := by decide +kernel
theorem dX0_digitsBehind_7 : decode cX0_digitsBehind 7 = .ok (.bipush 116, 2) := by decide +kernel
theorem dX0_digitsBehind_9 : decode cX0_digitsBehind 9 = .ok (.if_icmp .ne 7, 3) := by decide +kernel
theorem dX0_digitsBehind_12 : decode cX0_digitsBehind 12 = .ok (.iconst 2, 1) := by decide +kernel
theorem dX0_digitsBehind_13 : decode cX0_digitsBehind 13 = .ok (.goto 7, 3) := by decide +kernel
theorem dX0_digitsBehind_16 : decode cX0_digitsBehind 16 = .ok (.iload_n 2, 1) := by decide +kernel
theorem dX0_digitsBehind_17 : decode cX0_digitsBehind 17 = .ok (.invokestatic 31, 3) := by decide +kernel
theorem dX0_digitsBehind_20 : decode cX0_digitsBehind 20 = .ok (.istore_n 3, 1) := by decide +kernel
theorem dX0_digitsBehind_21 : decode cX0_digitsBehind 21 = .ok (.iconst 0, 1) := by decide +kernel
theorem dX0_digitsBehind_22 : decode cX0_digitsBehind 22 = .ok (.istore 4, 2) := by decide +kernel
theorem dX0_digitsBehind_24 : decode cX0_digitsBehind 24 = .ok (.iload 4, 2) := by decide +kernel
theorem dX0_digitsBehind_26 : decode cX0_digitsBehind 26 = .ok (.iload_n 3, 1) := by decide +kernel
theorem dX0_digitsBehind_27 : decode cX0_digitsBehind 27 = .ok (.if_icmp .ge 22, 3) := by decide +kernel
theorem dX0_digitsBehind_30 : decode cX0_digitsBehind 30 = .ok (.aload_n 0, 1) := by decide +kernel
theorem dX0_digitsBehind_31 : decode cX0_digitsBehind 31 = .ok (.iload_n 1, 1) := by decide +kernel
theorem dX0_digitsBehind_32 : decode cX0_digitsBehind 32 = .ok (.iconst 1, 1) := by decide +kernel
theorem dX0_digitsBehind_33 : decode cX0_digitsBehind 33 = .ok (.iadd, 1) := by decide +kernel
theorem dX0_digitsBehind_34 : decode cX0_digitsBehind 34 = .ok (.iload 4, 2) := by decide +kernel
theorem dX0_digitsBehind_36 : decode cX0_digitsBehind 36 = .ok (.iadd, 1) := by decide +kernel
theorem dX0_digitsBehind_37 : decode cX0_digitsBehind 37 = .ok (.invokevirtual 37, 3) := by decide +kernel
theorem dX0_digitsBehind_40 : decode cX0_digitsBehind 40 = .ok (.ifCond .lt 9, 3) := by decide +kernel
theorem dX0_digitsBehind_43 : decode cX0_digitsBehind 43 = .ok (.iinc 4 1, 3) := by decide +kernel
theorem dX0_digitsBehind_46 : decode cX0_digitsBehind 46 = .ok (.goto (-22), 3) := by decide +kernel
theorem dX0_digitsBehind_49 : decode cX0_digitsBehind 49 = .ok (.iload 4, 2) := by decide +kernel
theorem dX0_digitsBehind_51 : decode cX0_digitsBehind 51 = .ok (.ireturn, 1) := by decide +kernel
theorem dX0_digitAt_0 : decode cX0_digitAt 0 = .ok (.aload_n 0, 1) := by decide +kernel
theorem dX0_digitAt_1 : decode cX0_digitAt 1 = .ok (.iload_n 1, 1) := by decide +kernel
theorem dX0_digitAt_2 : decode cX0_digitAt 2 = .ok (.invokevirtual 34, 3) := by decide +kernel
theorem dX0_digitAt_5 : decode cX0_digitAt 5 = .ok (.istore_n 2, 1) := by decide +kernel
theorem dX0_digitAt_6 : decode cX0_digitAt 6 = .ok (.iload_n 2, 1) := by decide +kernel
theorem dX0_digitAt_7 : decode cX0_digitAt 7 = .ok (.bipush 48, 2) := by decide +kernel
theorem dX0_digitAt_9 : decode cX0_digitAt 9 = .ok (.if_icmp .lt 16, 3) := by decide +kernel
theorem dX0_digitAt_12 : decode cX0_digitAt 12 = .ok (.iload_n 2, 1) := by decide +kernel
theorem dX0_digitAt_13 : decode cX0_digitAt 13 = .ok (.bipush 57, 2) := by decide +kernel
theorem dX0_digitAt_15 : decode cX0_digitAt 15 = .ok (.if_icmp .gt 10, 3) := by decide +kernel
theorem dX0_digitAt_18 : decode cX0_digitAt 18 = .ok (.iload_n 2, 1) := by decide +kernel
theorem dX0_digitAt_19 : decode cX0_digitAt 19 = .ok (.bipush 48, 2) := by decide +kernel
theorem dX0_digitAt_21 : decode cX0_digitAt 21 = .ok (.isub, 1) := by decide +kernel
theorem dX0_digitAt_22 : decode cX0_digitAt 22 = .ok (.goto 5, 3) := by decide +kernel
theorem dX0_digitAt_25 : decode cX0_digitAt 25 = .ok (.bipush (-9), 2) := by decide +kernel
theorem dX0_digitAt_27 : decode cX0_digitAt 27 = .ok (.ireturn, 1) := by decide +kernel
theorem dX0_letterAt_0 : decode cX0_letterAt 0 = .ok (.iload_n 1, 1) := by decide +kernel
theorem dX0_letterAt_1 : decode cX0_letterAt 1 = .ok (.ifCond .lt 20, 3) := by decide +kernel
theorem dX0_letterAt_4 : decode cX0_letterAt 4 = .ok (.iload_n 1, 1) := by decide +kernel
theorem dX0_letterAt_5 : decode cX0_letterAt 5 = .ok (.aload_n 0, 1) := by decide +kernel
theorem dX0_letterAt_6 : decode cX0_letterAt 6 = .ok (.getfield 15, 3) := by decide +kernel
theorem dX0_letterAt_9 : decode cX0_letterAt 9 = .ok (.if_icmp .ge 12, 3) := by decide +kernel
theorem dX0_letterAt_12 : decode cX0_letterAt 12 = .ok (.aload_n 0, 1) := by decide +kernel
theorem dX0_letterAt_13 : decode cX0_letterAt 13 = .ok (.getfield 9, 3) := by decide +kernel
theorem dX0_letterAt_16 : decode cX0_letterAt 16 = .ok (.iload_n 1, 1) := by decide +kernel
theorem dX0_letterAt_17 : decode cX0_letterAt 17 = .ok (.iaload, 1) := by decide +kernel
theorem dX0_letterAt_18 : decode cX0_letterAt 18 = .ok (.goto 5, 3) := by decide +kernel
theorem dX0_letterAt_21 : decode cX0_letterAt 21 = .ok (.bipush (-9), 2) := by decide +kernel
theorem dX0_letterAt_23 : decode cX0_letterAt 23 = .ok (.ireturn, 1) := by decide +kernel
theorem dX1_init_0 : decode cX1_init 0 = .ok (.aload_n 0, 1) := by decide +kernel
theorem dX1_init_1 : decode cX1_init 1 = .ok (.invokespecial 3, 3) := by decide +kernel
theorem dX1_init_4 : decode cX1_init 4 = .ok (.aload_n 0, 1) := by decide +kernel
theorem dX1_init_5 : decode cX1_init 5 = .ok (.iconst 3, 1) := by decide +kernel
theorem dX1_init_6 : decode cX1_init 6 = .ok (.anewarray 9, 3) := by decide +kernel
theorem dX1_init_9 : decode cX1_init 9 = .ok (.dup, 1) := by decide +kernel
theorem dX1_init_10 : decode cX1_init 10 = .ok (.iconst 0, 1) := by decide +kernel
theorem dX1_init_11 : decode cX1_init 11 = .ok (.new 9, 3) := by decide +kernel
theorem dX1_init_14 : decode cX1_init 14 = .ok (.dup, 1) := by decide +kernel
theorem dX1_init_15 : decode cX1_init 15 = .ok (.invokespecial 11, 3) := by decide +kernel
theorem dX1_init_18 : decode cX1_init 18 = .ok (.aastore, 1) := by decide +kernel
theorem dX1_init_19 : decode cX1_init 19 = .ok (.dup, 1) := by decide +kernel
theorem dX1_init_20 : decode cX1_init 20 = .ok (.iconst 1, 1) := by decide +kernel
theorem dX1_init_21 : decode cX1_init 21 = .ok (.new 9, 3) := by decide +kernel
theorem dX1_init_24 : decode cX1_init 24 = .ok (.dup, 1) := by decide +kernel
theorem dX1_init_25 : decode cX1_init 25 = .ok (.invokespecial 11, 3) := by decide +kernel
theorem dX1_init_28 : decode cX1_init 28 = .ok (.aastore, 1) := by decide +kernel
theorem dX1_init_29 : decode cX1_init 29 = .ok (.dup, 1) := by decide +kernel
theorem dX1_init_30 : decode cX1_init 30 = .ok (.iconst 2, 1) := by decide +kernel
theorem dX1_init_31 : decode cX1_init 31 = .ok (.new 9, 3) := by decide +kernel
theorem dX1_init_34 : decode cX1_init 34 = .ok (.dup, 1) := by decide +kernel
theorem dX1_init_35 : decode cX1_init 35 = .ok (.invokespecial 11, 3) := by decide +kernel
theorem dX1_init_38 : decode cX1_init 38 = .ok (.aastore, 1) := by decide +kernel
theorem dX1_init_39 : decode cX1_init 39 = .ok (.putfield 12, 3) := by decide +kernel
theorem dX1_init_42 : decode cX1_init 42 = .ok (.aload_n 0, 1) := by decide +kernel
theorem dX1_init_43 : decode cX1_init 43 = .ok (.bipush 64, 2) := by decide +kernel
theorem dX1_init_45 : decode cX1_init 45 = .ok (.newarray .int, 2) := by decide +kernel
theorem dX1_init_47 : decode cX1_init 47 = .ok (.putfield 18, 3) := by decide +kernel
theorem dX1_init_50 : decode cX1_init 50 = .ok (.aload_n 0, 1) := by decide +kernel
theorem dX1_init_51 : decode cX1_init 51 = .ok (.bipush 6, 2) := by decide +kernel
theorem dX1_init_53 : decode cX1_init 53 = .ok (.newarray .int, 2) := by decide +kernel
theorem dX1_init_55 : decode cX1_init 55 = .ok (.putfield 22, 3) := by decide +kernel
theorem dX1_init_58 : decode cX1_init 58 = .ok (.aload_n 0, 1) := by decide +kernel
theorem dX1_init_59 : decode cX1_init 59 = .ok (.bipush 64, 2) := by decide +kernel
theorem dX1_init_61 : decode cX1_init 61 = .ok (.newarray .int, 2) := by decide +kernel
theorem dX1_init_63 : decode cX1_init 63 = .ok (.putfield 25, 3) := by decide +kernel
theorem dX1_init_66 : decode cX1_init 66 = .ok (.return_, 1) := by decide +kernel
theorem dX1_listAllowed_0 : decode cX1_listAllowed 0 = .ok (.iconst 1, 1) := by decide +kernel
theorem dX1_listAllowed_1 : decode cX1_listAllowed 1 = .ok (.aload_n 1, 1) := by decide +kernel
theorem dX1_listAllowed_2 : decode cX1_listAllowed 2 = .ok (.getfield 28, 3) := by decide +kernel
theorem dX1_listAllowed_5 : decode cX1_listAllowed 5 = .ok (.ishl, 1) := by decide +kernel
theorem dX1_listAllowed_6 : decode cX1_listAllowed 6 = .ok (.istore_n 2, 1) := by decide +kernel
theorem dX1_listAllowed_7 : decode cX1_listAllowed 7 = .ok (.aload_n 0, 1) := by decide +kernel
theorem dX1_listAllowed_8 : decode cX1_listAllowed 8 = .ok (.iconst 0, 1) := by decide +kernel
theorem dX1_listAllowed_9 : decode cX1_listAllowed 9 = .ok (.putfield 32, 3) := by decide +kernel
theorem dX1_listAllowed_12 : decode cX1_listAllowed 12 = .ok (.iconst 0, 1) := by decide +kernel
theorem dX1_listAllowed_13 : decode cX1_listAllowed 13 = .ok (.istore_n 3, 1) := by decide +kernel
theorem dX1_listAllowed_14 : decode cX1_listAllowed 14 = .ok (.iload_n 3, 1) := by decide +kernel
theorem dX1_listAllowed_15 : decode cX1_listAllowed 15 = .ok (.iload_n 2, 1) := by decide +kernel
theorem dX1_listAllowed_16 : decode cX1_listAllowed 16 = .ok (.if_icmp .ge 43, 3) := by decide +kernel
theorem dX1_listAllowed_19 : decode cX1_listAllowed 19 = .ok (.aload_n 1, 1) := by decide +kernel
theorem dX1_listAllowed_20 : decode cX1_listAllowed 20 = .ok (.iload_n 3, 1) := by decide +kernel
theorem dX1_listAllowed_21 : decode cX1_listAllowed 21 = .ok (.invokevirtual 35, 3) := by decide +kernel
theorem dX1_listAllowed_24 : decode cX1_listAllowed 24 = .ok (.aload_n 1, 1) := by decide +kernel
theorem dX1_listAllowed_25 : decode cX1_listAllowed 25 = .ok (.getfield 39, 3) := by decide +kernel
theorem dX1_listAllowed_28 : decode cX1_listAllowed 28 = .ok (.iconst 2, 1) := by decide +kernel
theorem dX1_listAllowed_29 : decode cX1_listAllowed 29 = .ok (.iaload, 1) := by decide +kernel
theorem dX1_listAllowed_30 : decode cX1_listAllowed 30 = .ok (.if_icmp .gt 23, 3) := by decide +kernel
theorem dX1_listAllowed_33 : decode cX1_listAllowed 33 = .ok (.aload_n 0, 1) := by decide +kernel
theorem dX1_listAllowed_34 : decode cX1_listAllowed 34 = .ok (.getfield 18, 3) := by decide +kernel
theorem dX1_listAllowed_37 : decode cX1_listAllowed 37 = .ok (.aload_n 0, 1) := by decide +kernel
theorem dX1_listAllowed_38 : decode cX1_listAllowed 38 = .ok (.getfield 32, 3) := by decide +kernel
theorem dX1_listAllowed_41 : decode cX1_listAllowed 41 = .ok (.iload_n 3, 1) := by decide +kernel
theorem dX1_listAllowed_42 : decode cX1_listAllowed 42 = .ok (.iastore, 1) := by decide +kernel
theorem dX1_listAllowed_43 : decode cX1_listAllowed 43 = .ok (.aload_n 0, 1) := by decide +kernel
theorem dX1_listAllowed_44 : decode cX1_listAllowed 44 = .ok (.dup, 1) := by decide +kernel
theorem dX1_listAllowed_45 : decode cX1_listAllowed 45 = .ok (.getfield 32, 3) := by decide +kernel
theorem dX1_listAllowed_48 : decode cX1_listAllowed 48 = .ok (.iconst 1, 1) := by decide +kernel
theorem dX1_listAllowed_49 : decode cX1_listAllowed 49 = .ok (.iadd, 1) := by decide +kernel
theorem dX1_listAllowed_50 : decode cX1_listAllowed 50 = .ok (.putfield 32, 3) := by decide +kernel
theorem dX1_listAllowed_53 : decode cX1_listAllowed 53 = .ok (.iinc 3 1, 3) := by decide +kernel
theorem dX1_listAllowed_56 : decode cX1_listAllowed 56 = .ok (.goto (-42), 3) := by decide +kernel
theorem dX1_listAllowed_59 : decode cX1_listAllowed 59 = .ok (.return_, 1) := by decide +kernel
theorem dX1_mostFound_0 : decode cX1_mostFound 0 = .ok (.aload_n 0, 1) := by decide +kernel
theorem dX1_mostFound_1 : decode cX1_mostFound 1 = .ok (.aload_n 1, 1) := by decide +kernel
theorem dX1_mostFound_2 : decode cX1_mostFound 2 = .ok (.invokevirtual 42, 3) := by decide +kernel
theorem dX1_mostFound_5 : decode cX1_mostFound 5 = .ok (.iconst 0, 1) := by decide +kernel
theorem dX1_mostFound_6 : decode cX1_mostFound 6 = .ok (.istore_n 3, 1) := by decide +kernel
theorem dX1_mostFound_7 : decode cX1_mostFound 7 = .ok (.iload_n 3, 1) := by decide +kernel
theorem dX1_mostFound_8 : decode cX1_mostFound 8 = .ok (.aload_n 0, 1) := by decide +kernel
theorem dX1_mostFound_9 : decode cX1_mostFound 9 = .ok (.getfield 12, 3) := by decide +kernel
theorem dX1_mostFound_12 : decode cX1_mostFound 12 = .ok (.arraylength, 1) := by decide +kernel
theorem dX1_mostFound_13 : decode cX1_mostFound 13 = .ok (.if_icmp .ge 19, 3) := by decide +kernel
theorem dX1_mostFound_16 : decode cX1_mostFound 16 = .ok (.aload_n 0, 1) := by decide +kernel
theorem dX1_mostFound_17 : decode cX1_mostFound 17 = .ok (.getfield 12, 3) := by decide +kernel
theorem dX1_mostFound_20 : decode cX1_mostFound 20 = .ok (.iload_n 3, 1) := by decide +kernel
theorem dX1_mostFound_21 : decode cX1_mostFound 21 = .ok (.aaload, 1) := by decide +kernel
theorem dX1_mostFound_22 : decode cX1_mostFound 22 = .ok (.aload_n 1, 1) := by decide +kernel
theorem dX1_mostFound_23 : decode cX1_mostFound 23 = .ok (.invokevirtual 46, 3) := by decide +kernel
theorem dX1_mostFound_26 : decode cX1_mostFound 26 = .ok (.iinc 3 1, 3) := by decide +kernel
theorem dX1_mostFound_29 : decode cX1_mostFound 29 = .ok (.goto (-22), 3) := by decide +kernel
theorem dX1_mostFound_32 : decode cX1_mostFound 32 = .ok (.aload_n 0, 1) := by decide +kernel
theorem dX1_mostFound_33 : decode cX1_mostFound 33 = .ok (.getfield 12, 3) := by decide +kernel
theorem dX1_mostFound_36 : decode cX1_mostFound 36 = .ok (.iconst 0, 1) := by decide +kernel
theorem dX1_mostFound_37 : decode cX1_mostFound 37 = .ok (.aaload, 1) := by decide +kernel
theorem dX1_mostFound_38 : decode cX1_mostFound 38 = .ok (.iconst 0, 1) := by decide +kernel
theorem dX1_mostFound_39 : decode cX1_mostFound 39 = .ok (.putfield 49, 3) := by decide +kernel
theorem dX1_mostFound_42 : decode cX1_mostFound 42 = .ok (.aload_n 0, 1) := by decide +kernel
theorem dX1_mostFound_43 : decode cX1_mostFound 43 = .ok (.iconst 0, 1) := by decide +kernel
theorem dX1_mostFound_44 : decode cX1_mostFound 44 = .ok (.iload_n 2, 1) := by decide +kernel
theorem dX1_mostFound_45 : decode cX1_mostFound 45 = .ok (.invokestatic 52, 3) := by decide +kernel
theorem dX1_mostFound_48 : decode cX1_mostFound 48 = .ok (.ireturn, 1) := by decide +kernel
theorem dX1_mostFrom_0 : decode cX1_mostFrom 0 = .ok (.iload_n 1, 1) := by decide +kernel
theorem dX1_mostFrom_1 : decode cX1_mostFrom 1 = .ok (.ifCond .lt 12, 3) := by decide +kernel
theorem dX1_mostFrom_4 : decode cX1_mostFrom 4 = .ok (.iload_n 1, 1) := by decide +kernel
theorem dX1_mostFrom_5 : decode cX1_mostFrom 5 = .ok (.aload_n 0, 1) := by decide +kernel
theorem dX1_mostFrom_6 : decode cX1_mostFrom 6 = .ok (.getfield 12, 3) := by decide +kernel
theorem dX1_mostFrom_9 : decode cX1_mostFrom 9 = .ok (.arraylength, 1) := by decide +kernel
theorem dX1_mostFrom_10 : decode cX1_mostFrom 10 = .ok (.if_icmp .lt 5, 3) := by decide +kernel
theorem dX1_mostFrom_13 : decode cX1_mostFrom 13 = .ok (.iconst 0, 1) := by decide +kernel
theorem dX1_mostFrom_14 : decode cX1_mostFrom 14 = .ok (.ireturn, 1) := by decide +kernel
theorem dX1_mostFrom_15 : decode cX1_mostFrom 15 = .ok (.iload_n 2, 1) := by decide +kernel
theorem dX1_mostFrom_16 : decode cX1_mostFrom 16 = .ok (.iconst 1, 1) := by decide +kernel
theorem dX1_mostFrom_17 : decode cX1_mostFrom 17 = .ok (.if_icmp .le 14, 3) := by decide +kernel
theorem dX1_mostFrom_20 : decode cX1_mostFrom 20 = .ok (.iload_n 1, 1) := by decide +kernel
theorem dX1_mostFrom_21 : decode cX1_mostFrom 21 = .ok (.iconst 1, 1) := by decide +kernel
theorem dX1_mostFrom_22 : decode cX1_mostFrom 22 = .ok (.iadd, 1) := by decide +kernel
theorem dX1_mostFrom_23 : decode cX1_mostFrom 23 = .ok (.aload_n 0, 1) := by decide +kernel
theorem dX1_mostFrom_24 : decode cX1_mostFrom 24 = .ok (.getfield 12, 3) := by decide +kernel
theorem dX1_mostFrom_27 : decode cX1_mostFrom 27 = .ok (.arraylength, 1) := by decide +kernel
theorem dX1_mostFrom_28 : decode cX1_mostFrom 28 = .ok (.if_icmp .ne 9, 3) := by decide +kernel
theorem dX1_mostFrom_31 : decode cX1_mostFrom 31 = .ok (.aload_n 0, 1) := by decide +kernel
theorem dX1_mostFrom_32 : decode cX1_mostFrom 32 = .ok (.iload_n 1, 1) := by decide +kernel
theorem dX1_mostFrom_33 : decode cX1_mostFrom 33 = .ok (.invokevirtual 56, 3) := by decide +kernel
theorem dX1_mostFrom_36 : decode cX1_mostFrom 36 = .ok (.ireturn, 1) := by decide +kernel
theorem dX1_mostFrom_37 : decode cX1_mostFrom 37 = .ok (.aload_n 0, 1) := by decide +kernel
theorem dX1_mostFrom_38 : decode cX1_mostFrom 38 = .ok (.getfield 12, 3) := by decide +kernel
theorem dX1_mostFrom_41 : decode cX1_mostFrom 41 = .ok (.iload_n 1, 1) := by decide +kernel
theorem dX1_mostFrom_42 : decode cX1_mostFrom 42 = .ok (.aaload, 1) := by decide +kernel
theorem dX1_mostFrom_43 : decode cX1_mostFrom 43 = .ok (.astore_n 3, 1) := by decide +kernel
theorem dX1_mostFrom_44 : decode cX1_mostFrom 44 = .ok (.aload_n 0, 1) := by decide +kernel
theorem dX1_mostFrom_45 : decode cX1_mostFrom 45 = .ok (.getfield 12, 3) := by decide +kernel
theorem dX1_mostFrom_48 : decode cX1_mostFrom 48 = .ok (.iload_n 1, 1) := by decide +kernel
theorem dX1_mostFrom_49 : decode cX1_mostFrom 49 = .ok (.iconst 1, 1) := by decide +kernel
theorem dX1_mostFrom_50 : decode cX1_mostFrom 50 = .ok (.iadd, 1) := by decide +kernel
theorem dX1_mostFrom_51 : decode cX1_mostFrom 51 = .ok (.aaload, 1) := by decide +kernel
theorem dX1_mostFrom_52 : decode cX1_mostFrom 52 = .ok (.astore 4, 2) := by decide +kernel
theorem dX1_mostFrom_54 : decode cX1_mostFrom 54 = .ok (.aload_n 3, 1) := by decide +kernel
theorem dX1_mostFrom_55 : decode cX1_mostFrom 55 = .ok (.invokevirtual 59, 3) := by decide +kernel
theorem dX1_mostFrom_58 : decode cX1_mostFrom 58 = .ok (.iload_n 2, 1) := by decide +kernel
theorem dX1_mostFrom_59 : decode cX1_mostFrom 59 = .ok (.iadd, 1) := by decide +kernel
theorem dX1_mostFrom_60 : decode cX1_mostFrom 60 = .ok (.iconst 1, 1) := by decide +kernel
theorem dX1_mostFrom_61 : decode cX1_mostFrom 61 = .ok (.isub, 1) := by decide +kernel
theorem dX1_mostFrom_62 : decode cX1_mostFrom 62 = .ok (.istore 5, 2) := by decide +kernel
theorem dX1_mostFrom_64 : decode cX1_mostFrom 64 = .ok (.iconst (-1), 1) := by decide +kernel
theorem dX1_mostFrom_65 : decode cX1_mostFrom 65 = .ok (.istore 6, 2) := by decide +kernel
theorem dX1_mostFrom_67 : decode cX1_mostFrom 67 = .ok (.iconst 0, 1) := by decide +kernel
theorem dX1_mostFrom_68 : decode cX1_mostFrom 68 = .ok (.istore 7, 2) := by decide +kernel
theorem dX1_mostFrom_70 : decode cX1_mostFrom 70 = .ok (.iload 7, 2) := by decide +kernel
theorem dX1_mostFrom_72 : decode cX1_mostFrom 72 = .ok (.aload_n 0, 1) := by decide +kernel
theorem dX1_mostFrom_73 : decode cX1_mostFrom 73 = .ok (.getfield 32, 3) := by decide +kernel
theorem dX1_mostFrom_76 : decode cX1_mostFrom 76 = .ok (.if_icmp .ge 89, 3) := by decide +kernel
theorem dX1_mostFrom_79 : decode cX1_mostFrom 79 = .ok (.iload 6, 2) := by decide +kernel
theorem dX1_mostFrom_81 : decode cX1_mostFrom 81 = .ok (.iload 5, 2) := by decide +kernel
theorem dX1_mostFrom_83 : decode cX1_mostFrom 83 = .ok (.if_icmp .ge 82, 3) := by decide +kernel
theorem dX1_mostFrom_86 : decode cX1_mostFrom 86 = .ok (.aload 4, 2) := by decide +kernel
theorem dX1_mostFrom_88 : decode cX1_mostFrom 88 = .ok (.aload_n 3, 1) := by decide +kernel
theorem dX1_mostFrom_89 : decode cX1_mostFrom 89 = .ok (.invokevirtual 63, 3) := by decide +kernel
theorem dX1_mostFrom_92 : decode cX1_mostFrom 92 = .ok (.aload 4, 2) := by decide +kernel
theorem dX1_mostFrom_94 : decode cX1_mostFrom 94 = .ok (.aload_n 0, 1) := by decide +kernel
theorem dX1_mostFrom_95 : decode cX1_mostFrom 95 = .ok (.getfield 18, 3) := by decide +kernel
theorem dX1_mostFrom_98 : decode cX1_mostFrom 98 = .ok (.iload 7, 2) := by decide +kernel
theorem dX1_mostFrom_100 : decode cX1_mostFrom 100 = .ok (.iaload, 1) := by decide +kernel
theorem dX1_mostFrom_101 : decode cX1_mostFrom 101 = .ok (.invokevirtual 66, 3) := by decide +kernel
theorem dX1_mostFrom_104 : decode cX1_mostFrom 104 = .ok (.istore 8, 2) := by decide +kernel
theorem dX1_mostFrom_106 : decode cX1_mostFrom 106 = .ok (.aload 4, 2) := by decide +kernel
theorem dX1_mostFrom_108 : decode cX1_mostFrom 108 = .ok (.aload 4, 2) := by decide +kernel
theorem dX1_mostFrom_110 : decode cX1_mostFrom 110 = .ok (.aload 4, 2) := by decide +kernel
theorem dX1_mostFrom_112 : decode cX1_mostFrom 112 = .ok (.invokevirtual 69, 3) := by decide +kernel
theorem dX1_mostFrom_115 : decode cX1_mostFrom 115 = .ok (.invokevirtual 72, 3) := by decide +kernel
theorem dX1_mostFrom_118 : decode cX1_mostFrom 118 = .ok (.invokevirtual 75, 3) := by decide +kernel
theorem dX1_mostFrom_121 : decode cX1_mostFrom 121 = .ok (.iload 8, 2) := by decide +kernel
theorem dX1_mostFrom_123 : decode cX1_mostFrom 123 = .ok (.aload_n 0, 1) := by decide +kernel
theorem dX1_mostFrom_124 : decode cX1_mostFrom 124 = .ok (.iload_n 1, 1) := by decide +kernel
theorem dX1_mostFrom_125 : decode cX1_mostFrom 125 = .ok (.iconst 1, 1) := by decide +kernel
theorem dX1_mostFrom_126 : decode cX1_mostFrom 126 = .ok (.iadd, 1) := by decide +kernel
theorem dX1_mostFrom_127 : decode cX1_mostFrom 127 = .ok (.iload_n 2, 1) := by decide +kernel
theorem dX1_mostFrom_128 : decode cX1_mostFrom 128 = .ok (.iconst 1, 1) := by decide +kernel
theorem dX1_mostFrom_129 : decode cX1_mostFrom 129 = .ok (.isub, 1) := by decide +kernel
theorem dX1_mostFrom_130 : decode cX1_mostFrom 130 = .ok (.invokestatic 52, 3) := by decide +kernel
theorem dX1_mostFrom_133 : decode cX1_mostFrom 133 = .ok (.iadd, 1) := by decide +kernel
theorem dX1_mostFrom_134 : decode cX1_mostFrom 134 = .ok (.istore 8, 2) := by decide +kernel
theorem dX1_mostFrom_136 : decode cX1_mostFrom 136 = .ok (.iload 8, 2) := by decide +kernel
theorem dX1_mostFrom_138 : decode cX1_mostFrom 138 = .ok (.iload 6, 2) := by decide +kernel
theorem dX1_mostFrom_140 : decode cX1_mostFrom 140 = .ok (.if_icmp .le 19, 3) := by decide +kernel
theorem dX1_mostFrom_143 : decode cX1_mostFrom 143 = .ok (.iload 8, 2) := by decide +kernel
theorem dX1_mostFrom_145 : decode cX1_mostFrom 145 = .ok (.istore 6, 2) := by decide +kernel
theorem dX1_mostFrom_147 : decode cX1_mostFrom 147 = .ok (.aload_n 0, 1) := by decide +kernel
theorem dX1_mostFrom_148 : decode cX1_mostFrom 148 = .ok (.iload_n 1, 1) := by decide +kernel
theorem dX1_mostFrom_149 : decode cX1_mostFrom 149 = .ok (.aload_n 0, 1) := by decide +kernel
theorem dX1_mostFrom_150 : decode cX1_mostFrom 150 = .ok (.getfield 18, 3) := by decide +kernel
theorem dX1_mostFrom_153 : decode cX1_mostFrom 153 = .ok (.iload 7, 2) := by decide +kernel
theorem dX1_mostFrom_155 : decode cX1_mostFrom 155 = .ok (.iaload, 1) := by decide +kernel
theorem dX1_mostFrom_156 : decode cX1_mostFrom 156 = .ok (.invokevirtual 79, 3) := by decide +kernel
theorem dX1_mostFrom_159 : decode cX1_mostFrom 159 = .ok (.iinc 7 1, 3) := by decide +kernel
theorem dX1_mostFrom_162 : decode cX1_mostFrom 162 = .ok (.goto (-92), 3) := by decide +kernel
theorem dX1_mostFrom_165 : decode cX1_mostFrom 165 = .ok (.iload 6, 2) := by decide +kernel
theorem dX1_mostFrom_167 : decode cX1_mostFrom 167 = .ok (.ireturn, 1) := by decide +kernel
theorem dX1_noteFirst_0 : decode cX1_noteFirst 0 = .ok (.iload_n 1, 1) := by decide +kernel
theorem dX1_noteFirst_1 : decode cX1_noteFirst 1 = .ok (.ifCond .ne 8, 3) := by decide +kernel
theorem dX1_noteFirst_4 : decode cX1_noteFirst 4 = .ok (.aload_n 0, 1) := by decide +kernel
theorem dX1_noteFirst_5 : decode cX1_noteFirst 5 = .ok (.iload_n 2, 1) := by decide +kernel
theorem dX1_noteFirst_6 : decode cX1_noteFirst 6 = .ok (.putfield 83, 3) := by decide +kernel
theorem dX1_noteFirst_9 : decode cX1_noteFirst 9 = .ok (.return_, 1) := by decide +kernel
theorem dX1_mostToday_0 : decode cX1_mostToday 0 = .ok (.aload_n 0, 1) := by decide +kernel
theorem dX1_mostToday_1 : decode cX1_mostToday 1 = .ok (.getfield 12, 3) := by decide +kernel
theorem dX1_mostToday_4 : decode cX1_mostToday 4 = .ok (.iload_n 1, 1) := by decide +kernel
theorem dX1_mostToday_5 : decode cX1_mostToday 5 = .ok (.aaload, 1) := by decide +kernel
theorem dX1_mostToday_6 : decode cX1_mostToday 6 = .ok (.astore_n 2, 1) := by decide +kernel
theorem dX1_mostToday_7 : decode cX1_mostToday 7 = .ok (.iconst 0, 1) := by decide +kernel
theorem dX1_mostToday_8 : decode cX1_mostToday 8 = .ok (.istore_n 3, 1) := by decide +kernel
theorem dX1_mostToday_9 : decode cX1_mostToday 9 = .ok (.iload_n 3, 1) := by decide +kernel
theorem dX1_mostToday_10 : decode cX1_mostToday 10 = .ok (.aload_n 2, 1) := by decide +kernel
theorem dX1_mostToday_11 : decode cX1_mostToday 11 = .ok (.getfield 28, 3) := by decide +kernel
theorem dX1_mostToday_14 : decode cX1_mostToday 14 = .ok (.if_icmp .ge 20, 3) := by decide +kernel
theorem dX1_mostToday_17 : decode cX1_mostToday 17 = .ok (.aload_n 0, 1) := by decide +kernel
theorem dX1_mostToday_18 : decode cX1_mostToday 18 = .ok (.getfield 22, 3) := by decide +kernel
theorem dX1_mostToday_21 : decode cX1_mostToday 21 = .ok (.iload_n 3, 1) := by decide +kernel
theorem dX1_mostToday_22 : decode cX1_mostToday 22 = .ok (.aload_n 2, 1) := by decide +kernel
theorem dX1_mostToday_23 : decode cX1_mostToday 23 = .ok (.iload_n 3, 1) := by decide +kernel
theorem dX1_mostToday_24 : decode cX1_mostToday 24 = .ok (.invokevirtual 86, 3) := by decide +kernel
theorem dX1_mostToday_27 : decode cX1_mostToday 27 = .ok (.iastore, 1) := by decide +kernel
theorem dX1_mostToday_28 : decode cX1_mostToday 28 = .ok (.iinc 3 1, 3) := by decide +kernel
theorem dX1_mostToday_31 : decode cX1_mostToday 31 = .ok (.goto (-22), 3) := by decide +kernel
theorem dX1_mostToday_34 : decode cX1_mostToday 34 = .ok (.iconst 0, 1) := by decide +kernel
theorem dX1_mostToday_35 : decode cX1_mostToday 35 = .ok (.istore_n 3, 1) := by decide +kernel
theorem dX1_mostToday_36 : decode cX1_mostToday 36 = .ok (.aload_n 0, 1) := by decide +kernel
theorem dX1_mostToday_37 : decode cX1_mostToday 37 = .ok (.iload_n 1, 1) := by decide +kernel
theorem dX1_mostToday_38 : decode cX1_mostToday 38 = .ok (.iconst 0, 1) := by decide +kernel
theorem dX1_mostToday_39 : decode cX1_mostToday 39 = .ok (.invokevirtual 79, 3) := by decide +kernel
theorem dX1_mostToday_42 : decode cX1_mostToday 42 = .ok (.iconst 1, 1) := by decide +kernel
theorem dX1_mostToday_43 : decode cX1_mostToday 43 = .ok (.istore 4, 2) := by decide +kernel
theorem dX1_mostToday_45 : decode cX1_mostToday 45 = .ok (.iload 4, 2) := by decide +kernel
theorem dX1_mostToday_47 : decode cX1_mostToday 47 = .ok (.aload_n 0, 1) := by decide +kernel
theorem dX1_mostToday_48 : decode cX1_mostToday 48 = .ok (.getfield 32, 3) := by decide +kernel
theorem dX1_mostToday_51 : decode cX1_mostToday 51 = .ok (.if_icmp .ge 74, 3) := by decide +kernel
theorem dX1_mostToday_54 : decode cX1_mostToday 54 = .ok (.aload_n 0, 1) := by decide +kernel
theorem dX1_mostToday_55 : decode cX1_mostToday 55 = .ok (.getfield 18, 3) := by decide +kernel
theorem dX1_mostToday_58 : decode cX1_mostToday 58 = .ok (.iload 4, 2) := by decide +kernel
theorem dX1_mostToday_60 : decode cX1_mostToday 60 = .ok (.iaload, 1) := by decide +kernel
theorem dX1_mostToday_61 : decode cX1_mostToday 61 = .ok (.istore 5, 2) := by decide +kernel
theorem dX1_mostToday_63 : decode cX1_mostToday 63 = .ok (.aload_n 0, 1) := by decide +kernel
theorem dX1_mostToday_64 : decode cX1_mostToday 64 = .ok (.getfield 25, 3) := by decide +kernel
theorem dX1_mostToday_67 : decode cX1_mostToday 67 = .ok (.iload 5, 2) := by decide +kernel
theorem dX1_mostToday_69 : decode cX1_mostToday 69 = .ok (.aload_n 0, 1) := by decide +kernel
theorem dX1_mostToday_70 : decode cX1_mostToday 70 = .ok (.getfield 25, 3) := by decide +kernel
theorem dX1_mostToday_73 : decode cX1_mostToday 73 = .ok (.iload 5, 2) := by decide +kernel
theorem dX1_mostToday_75 : decode cX1_mostToday 75 = .ok (.iload 5, 2) := by decide +kernel
theorem dX1_mostToday_77 : decode cX1_mostToday 77 = .ok (.iconst 1, 1) := by decide +kernel
theorem dX1_mostToday_78 : decode cX1_mostToday 78 = .ok (.isub, 1) := by decide +kernel
theorem dX1_mostToday_79 : decode cX1_mostToday 79 = .ok (.iand, 1) := by decide +kernel
theorem dX1_mostToday_80 : decode cX1_mostToday 80 = .ok (.iaload, 1) := by decide +kernel
theorem dX1_mostToday_81 : decode cX1_mostToday 81 = .ok (.aload_n 0, 1) := by decide +kernel
theorem dX1_mostToday_82 : decode cX1_mostToday 82 = .ok (.getfield 22, 3) := by decide +kernel
theorem dX1_mostToday_85 : decode cX1_mostToday 85 = .ok (.iload 5, 2) := by decide +kernel
theorem dX1_mostToday_87 : decode cX1_mostToday 87 = .ok (.invokestatic 89, 3) := by decide +kernel
theorem dX1_mostToday_90 : decode cX1_mostToday 90 = .ok (.iaload, 1) := by decide +kernel
theorem dX1_mostToday_91 : decode cX1_mostToday 91 = .ok (.iadd, 1) := by decide +kernel
theorem dX1_mostToday_92 : decode cX1_mostToday 92 = .ok (.iastore, 1) := by decide +kernel
theorem dX1_mostToday_93 : decode cX1_mostToday 93 = .ok (.aload_n 0, 1) := by decide +kernel
theorem dX1_mostToday_94 : decode cX1_mostToday 94 = .ok (.getfield 25, 3) := by decide +kernel
theorem dX1_mostToday_97 : decode cX1_mostToday 97 = .ok (.iload 5, 2) := by decide +kernel
theorem dX1_mostToday_99 : decode cX1_mostToday 99 = .ok (.iaload, 1) := by decide +kernel
theorem dX1_mostToday_100 : decode cX1_mostToday 100 = .ok (.iload_n 3, 1) := by decide +kernel
theorem dX1_mostToday_101 : decode cX1_mostToday 101 = .ok (.if_icmp .le 18, 3) := by decide +kernel
theorem dX1_mostToday_104 : decode cX1_mostToday 104 = .ok (.aload_n 0, 1) := by decide +kernel
theorem dX1_mostToday_105 : decode cX1_mostToday 105 = .ok (.getfield 25, 3) := by decide +kernel
theorem dX1_mostToday_108 : decode cX1_mostToday 108 = .ok (.iload 5, 2) := by decide +kernel
theorem dX1_mostToday_110 : decode cX1_mostToday 110 = .ok (.iaload, 1) := by decide +kernel
theorem dX1_mostToday_111 : decode cX1_mostToday 111 = .ok (.istore_n 3, 1) := by decide +kernel
theorem dX1_mostToday_112 : decode cX1_mostToday 112 = .ok (.aload_n 0, 1) := by decide +kernel
theorem dX1_mostToday_113 : decode cX1_mostToday 113 = .ok (.iload_n 1, 1) := by decide +kernel
theorem dX1_mostToday_114 : decode cX1_mostToday 114 = .ok (.iload 5, 2) := by decide +kernel
theorem dX1_mostToday_116 : decode cX1_mostToday 116 = .ok (.invokevirtual 79, 3) := by decide +kernel
theorem dX1_mostToday_119 : decode cX1_mostToday 119 = .ok (.iinc 4 1, 3) := by decide +kernel
theorem dX1_mostToday_122 : decode cX1_mostToday 122 = .ok (.goto (-77), 3) := by decide +kernel
theorem dX1_mostToday_125 : decode cX1_mostToday 125 = .ok (.iload_n 3, 1) := by decide +kernel
theorem dX1_mostToday_126 : decode cX1_mostToday 126 = .ok (.ireturn, 1) := by decide +kernel
theorem dX1_leastShutting_0 : decode cX1_leastShutting 0 = .ok (.aload_n 0, 1) := by decide +kernel
theorem dX1_leastShutting_1 : decode cX1_leastShutting 1 = .ok (.aload_n 1, 1) := by decide +kernel
theorem dX1_leastShutting_2 : decode cX1_leastShutting 2 = .ok (.invokevirtual 42, 3) := by decide +kernel
theorem dX1_leastShutting_5 : decode cX1_leastShutting 5 = .ok (.iconst 0, 1) := by decide +kernel
theorem dX1_leastShutting_6 : decode cX1_leastShutting 6 = .ok (.istore_n 2, 1) := by decide +kernel
theorem dX1_leastShutting_7 : decode cX1_leastShutting 7 = .ok (.iload_n 2, 1) := by decide +kernel
theorem dX1_leastShutting_8 : decode cX1_leastShutting 8 = .ok (.aload_n 0, 1) := by decide +kernel
theorem dX1_leastShutting_9 : decode cX1_leastShutting 9 = .ok (.getfield 32, 3) := by decide +kernel
theorem dX1_leastShutting_12 : decode cX1_leastShutting 12 = .ok (.if_icmp .ge 34, 3) := by decide +kernel
theorem dX1_leastShutting_15 : decode cX1_leastShutting 15 = .ok (.aload_n 1, 1) := by decide +kernel
theorem dX1_leastShutting_16 : decode cX1_leastShutting 16 = .ok (.getfield 28, 3) := by decide +kernel
theorem dX1_leastShutting_19 : decode cX1_leastShutting 19 = .ok (.aload_n 0, 1) := by decide +kernel
theorem dX1_leastShutting_20 : decode cX1_leastShutting 20 = .ok (.getfield 18, 3) := by decide +kernel
theorem dX1_leastShutting_23 : decode cX1_leastShutting 23 = .ok (.iload_n 2, 1) := by decide +kernel
theorem dX1_leastShutting_24 : decode cX1_leastShutting 24 = .ok (.iaload, 1) := by decide +kernel
theorem dX1_leastShutting_25 : decode cX1_leastShutting 25 = .ok (.invokestatic 94, 3) := by decide +kernel
theorem dX1_leastShutting_28 : decode cX1_leastShutting 28 = .ok (.isub, 1) := by decide +kernel
theorem dX1_leastShutting_29 : decode cX1_leastShutting 29 = .ok (.iconst 1, 1) := by decide +kernel
theorem dX1_leastShutting_30 : decode cX1_leastShutting 30 = .ok (.if_icmp .ne 10, 3) := by decide +kernel
theorem dX1_leastShutting_33 : decode cX1_leastShutting 33 = .ok (.aload_n 0, 1) := by decide +kernel
theorem dX1_leastShutting_34 : decode cX1_leastShutting 34 = .ok (.getfield 18, 3) := by decide +kernel
theorem dX1_leastShutting_37 : decode cX1_leastShutting 37 = .ok (.iload_n 2, 1) := by decide +kernel
theorem dX1_leastShutting_38 : decode cX1_leastShutting 38 = .ok (.iaload, 1) := by decide +kernel
theorem dX1_leastShutting_39 : decode cX1_leastShutting 39 = .ok (.ireturn, 1) := by decide +kernel
theorem dX1_leastShutting_40 : decode cX1_leastShutting 40 = .ok (.iinc 2 1, 3) := by decide +kernel
theorem dX1_leastShutting_43 : decode cX1_leastShutting 43 = .ok (.goto (-36), 3) := by decide +kernel
theorem dX1_leastShutting_46 : decode cX1_leastShutting 46 = .ok (.bipush (-9), 2) := by decide +kernel
theorem dX1_leastShutting_48 : decode cX1_leastShutting 48 = .ok (.ireturn, 1) := by decide +kernel
theorem dX1_fewestDays_0 : decode cX1_fewestDays 0 = .ok (.aload_n 1, 1) := by decide +kernel
theorem dX1_fewestDays_1 : decode cX1_fewestDays 1 = .ok (.getfield 97, 3) := by decide +kernel
theorem dX1_fewestDays_4 : decode cX1_fewestDays 4 = .ok (.iload_n 2, 1) := by decide +kernel
theorem dX1_fewestDays_5 : decode cX1_fewestDays 5 = .ok (.if_icmp .ne 5, 3) := by decide +kernel
theorem dX1_fewestDays_8 : decode cX1_fewestDays 8 = .ok (.iconst 0, 1) := by decide +kernel
theorem dX1_fewestDays_9 : decode cX1_fewestDays 9 = .ok (.ireturn, 1) := by decide +kernel
theorem dX1_fewestDays_10 : decode cX1_fewestDays 10 = .ok (.aload_n 0, 1) := by decide +kernel
theorem dX1_fewestDays_11 : decode cX1_fewestDays 11 = .ok (.aload_n 1, 1) := by decide +kernel
theorem dX1_fewestDays_12 : decode cX1_fewestDays 12 = .ok (.invokevirtual 42, 3) := by decide +kernel
theorem dX1_fewestDays_15 : decode cX1_fewestDays 15 = .ok (.aload_n 0, 1) := by decide +kernel
theorem dX1_fewestDays_16 : decode cX1_fewestDays 16 = .ok (.getfield 12, 3) := by decide +kernel
theorem dX1_fewestDays_19 : decode cX1_fewestDays 19 = .ok (.iconst 0, 1) := by decide +kernel
theorem dX1_fewestDays_20 : decode cX1_fewestDays 20 = .ok (.aaload, 1) := by decide +kernel
theorem dX1_fewestDays_21 : decode cX1_fewestDays 21 = .ok (.astore_n 3, 1) := by decide +kernel
theorem dX1_fewestDays_22 : decode cX1_fewestDays 22 = .ok (.aload_n 3, 1) := by decide +kernel
theorem dX1_fewestDays_23 : decode cX1_fewestDays 23 = .ok (.aload_n 1, 1) := by decide +kernel
theorem dX1_fewestDays_24 : decode cX1_fewestDays 24 = .ok (.invokevirtual 46, 3) := by decide +kernel
theorem dX1_fewestDays_27 : decode cX1_fewestDays 27 = .ok (.aload_n 3, 1) := by decide +kernel
theorem dX1_fewestDays_28 : decode cX1_fewestDays 28 = .ok (.getfield 39, 3) := by decide +kernel
theorem dX1_fewestDays_31 : decode cX1_fewestDays 31 = .ok (.iconst 0, 1) := by decide +kernel
theorem dX1_fewestDays_32 : decode cX1_fewestDays 32 = .ok (.iaload, 1) := by decide +kernel
theorem dX1_fewestDays_33 : decode cX1_fewestDays 33 = .ok (.iconst 4, 1) := by decide +kernel
theorem dX1_fewestDays_34 : decode cX1_fewestDays 34 = .ok (.if_icmp .ne 10, 3) := by decide +kernel
theorem dX1_fewestDays_37 : decode cX1_fewestDays 37 = .ok (.aload_n 3, 1) := by decide +kernel
theorem dX1_fewestDays_38 : decode cX1_fewestDays 38 = .ok (.getfield 39, 3) := by decide +kernel
theorem dX1_fewestDays_41 : decode cX1_fewestDays 41 = .ok (.iconst 0, 1) := by decide +kernel
theorem dX1_fewestDays_42 : decode cX1_fewestDays 42 = .ok (.iconst 3, 1) := by decide +kernel
theorem dX1_fewestDays_43 : decode cX1_fewestDays 43 = .ok (.iastore, 1) := by decide +kernel
theorem dX1_fewestDays_44 : decode cX1_fewestDays 44 = .ok (.aload_n 0, 1) := by decide +kernel
theorem dX1_fewestDays_45 : decode cX1_fewestDays 45 = .ok (.aload_n 3, 1) := by decide +kernel
theorem dX1_fewestDays_46 : decode cX1_fewestDays 46 = .ok (.invokevirtual 100, 3) := by decide +kernel
theorem dX1_fewestDays_49 : decode cX1_fewestDays 49 = .ok (.istore 4, 2) := by decide +kernel
theorem dX1_fewestDays_51 : decode cX1_fewestDays 51 = .ok (.iconst 1, 1) := by decide +kernel
theorem dX1_fewestDays_52 : decode cX1_fewestDays 52 = .ok (.istore 5, 2) := by decide +kernel
theorem dX1_fewestDays_54 : decode cX1_fewestDays 54 = .ok (.iload 5, 2) := by decide +kernel
theorem dX1_fewestDays_56 : decode cX1_fewestDays 56 = .ok (.bipush 6, 2) := by decide +kernel
theorem dX1_fewestDays_58 : decode cX1_fewestDays 58 = .ok (.if_icmp .gt 88, 3) := by decide +kernel
theorem dX1_fewestDays_61 : decode cX1_fewestDays 61 = .ok (.iload 4, 2) := by decide +kernel
theorem dX1_fewestDays_63 : decode cX1_fewestDays 63 = .ok (.iload_n 2, 1) := by decide +kernel
theorem dX1_fewestDays_64 : decode cX1_fewestDays 64 = .ok (.ishr, 1) := by decide +kernel
theorem dX1_fewestDays_65 : decode cX1_fewestDays 65 = .ok (.iconst 1, 1) := by decide +kernel
theorem dX1_fewestDays_66 : decode cX1_fewestDays 66 = .ok (.iand, 1) := by decide +kernel
theorem dX1_fewestDays_67 : decode cX1_fewestDays 67 = .ok (.iconst 1, 1) := by decide +kernel
theorem dX1_fewestDays_68 : decode cX1_fewestDays 68 = .ok (.if_icmp .ne 6, 3) := by decide +kernel
theorem dX1_fewestDays_71 : decode cX1_fewestDays 71 = .ok (.iload 5, 2) := by decide +kernel
theorem dX1_fewestDays_73 : decode cX1_fewestDays 73 = .ok (.ireturn, 1) := by decide +kernel
theorem dX1_fewestDays_74 : decode cX1_fewestDays 74 = .ok (.iconst 0, 1) := by decide +kernel
theorem dX1_fewestDays_75 : decode cX1_fewestDays 75 = .ok (.istore 6, 2) := by decide +kernel
theorem dX1_fewestDays_77 : decode cX1_fewestDays 77 = .ok (.aload_n 3, 1) := by decide +kernel
theorem dX1_fewestDays_78 : decode cX1_fewestDays 78 = .ok (.dup, 1) := by decide +kernel
theorem dX1_fewestDays_79 : decode cX1_fewestDays 79 = .ok (.getfield 104, 3) := by decide +kernel
theorem dX1_fewestDays_82 : decode cX1_fewestDays 82 = .ok (.iconst 1, 1) := by decide +kernel
theorem dX1_fewestDays_83 : decode cX1_fewestDays 83 = .ok (.iadd, 1) := by decide +kernel
theorem dX1_fewestDays_84 : decode cX1_fewestDays 84 = .ok (.putfield 104, 3) := by decide +kernel
theorem dX1_fewestDays_87 : decode cX1_fewestDays 87 = .ok (.iconst 0, 1) := by decide +kernel
theorem dX1_fewestDays_88 : decode cX1_fewestDays 88 = .ok (.istore 7, 2) := by decide +kernel
theorem dX1_fewestDays_90 : decode cX1_fewestDays 90 = .ok (.iload 7, 2) := by decide +kernel
theorem dX1_fewestDays_92 : decode cX1_fewestDays 92 = .ok (.aload_n 3, 1) := by decide +kernel
theorem dX1_fewestDays_93 : decode cX1_fewestDays 93 = .ok (.getfield 28, 3) := by decide +kernel
theorem dX1_fewestDays_96 : decode cX1_fewestDays 96 = .ok (.if_icmp .ge 40, 3) := by decide +kernel
theorem dX1_fewestDays_99 : decode cX1_fewestDays 99 = .ok (.aload_n 3, 1) := by decide +kernel
theorem dX1_fewestDays_100 : decode cX1_fewestDays 100 = .ok (.iload 7, 2) := by decide +kernel
theorem dX1_fewestDays_102 : decode cX1_fewestDays 102 = .ok (.putfield 97, 3) := by decide +kernel
theorem dX1_fewestDays_105 : decode cX1_fewestDays 105 = .ok (.iload 6, 2) := by decide +kernel
theorem dX1_fewestDays_107 : decode cX1_fewestDays 107 = .ok (.iload 4, 2) := by decide +kernel
theorem dX1_fewestDays_109 : decode cX1_fewestDays 109 = .ok (.iload 7, 2) := by decide +kernel
theorem dX1_fewestDays_111 : decode cX1_fewestDays 111 = .ok (.ishr, 1) := by decide +kernel
theorem dX1_fewestDays_112 : decode cX1_fewestDays 112 = .ok (.iconst 1, 1) := by decide +kernel
theorem dX1_fewestDays_113 : decode cX1_fewestDays 113 = .ok (.iand, 1) := by decide +kernel
theorem dX1_fewestDays_114 : decode cX1_fewestDays 114 = .ok (.iconst 1, 1) := by decide +kernel
theorem dX1_fewestDays_115 : decode cX1_fewestDays 115 = .ok (.if_icmp .ne 11, 3) := by decide +kernel
theorem dX1_fewestDays_118 : decode cX1_fewestDays 118 = .ok (.aload_n 0, 1) := by decide +kernel
theorem dX1_fewestDays_119 : decode cX1_fewestDays 119 = .ok (.aload_n 3, 1) := by decide +kernel
theorem dX1_fewestDays_120 : decode cX1_fewestDays 120 = .ok (.invokevirtual 100, 3) := by decide +kernel
theorem dX1_fewestDays_123 : decode cX1_fewestDays 123 = .ok (.goto 4, 3) := by decide +kernel
theorem dX1_fewestDays_126 : decode cX1_fewestDays 126 = .ok (.iconst 0, 1) := by decide +kernel
theorem dX1_fewestDays_127 : decode cX1_fewestDays 127 = .ok (.ior, 1) := by decide +kernel
theorem dX1_fewestDays_128 : decode cX1_fewestDays 128 = .ok (.istore 6, 2) := by decide +kernel
theorem dX1_fewestDays_130 : decode cX1_fewestDays 130 = .ok (.iinc 7 1, 3) := by decide +kernel
theorem dX1_fewestDays_133 : decode cX1_fewestDays 133 = .ok (.goto (-43), 3) := by decide +kernel
theorem dX1_fewestDays_136 : decode cX1_fewestDays 136 = .ok (.iload 6, 2) := by decide +kernel
theorem dX1_fewestDays_138 : decode cX1_fewestDays 138 = .ok (.istore 4, 2) := by decide +kernel
theorem dX1_fewestDays_140 : decode cX1_fewestDays 140 = .ok (.iinc 5 1, 3) := by decide +kernel
theorem dX1_fewestDays_143 : decode cX1_fewestDays 143 = .ok (.goto (-89), 3) := by decide +kernel
theorem dX1_fewestDays_146 : decode cX1_fewestDays 146 = .ok (.bipush (-9), 2) := by decide +kernel
theorem dX1_fewestDays_148 : decode cX1_fewestDays 148 = .ok (.ireturn, 1) := by decide +kernel
theorem dX1_laidByAnySet_0 : decode cX1_laidByAnySet 0 = .ok (.aload_n 1, 1) := by decide +kernel
theorem dX1_laidByAnySet_1 : decode cX1_laidByAnySet 1 = .ok (.invokevirtual 69, 3) := by decide +kernel
theorem dX1_laidByAnySet_4 : decode cX1_laidByAnySet 4 = .ok (.istore_n 2, 1) := by decide +kernel
theorem dX1_laidByAnySet_5 : decode cX1_laidByAnySet 5 = .ok (.iconst 0, 1) := by decide +kernel
theorem dX1_laidByAnySet_6 : decode cX1_laidByAnySet 6 = .ok (.istore_n 3, 1) := by decide +kernel
theorem dX1_laidByAnySet_7 : decode cX1_laidByAnySet 7 = .ok (.iconst 0, 1) := by decide +kernel
theorem dX1_laidByAnySet_8 : decode cX1_laidByAnySet 8 = .ok (.istore 4, 2) := by decide +kernel
theorem dX1_laidByAnySet_10 : decode cX1_laidByAnySet 10 = .ok (.iload 4, 2) := by decide +kernel
theorem dX1_laidByAnySet_12 : decode cX1_laidByAnySet 12 = .ok (.aload_n 0, 1) := by decide +kernel
theorem dX1_laidByAnySet_13 : decode cX1_laidByAnySet 13 = .ok (.getfield 32, 3) := by decide +kernel
theorem dX1_laidByAnySet_16 : decode cX1_laidByAnySet 16 = .ok (.if_icmp .ge 39, 3) := by decide +kernel
theorem dX1_laidByAnySet_19 : decode cX1_laidByAnySet 19 = .ok (.aload_n 1, 1) := by decide +kernel
theorem dX1_laidByAnySet_20 : decode cX1_laidByAnySet 20 = .ok (.aload_n 0, 1) := by decide +kernel
theorem dX1_laidByAnySet_21 : decode cX1_laidByAnySet 21 = .ok (.getfield 18, 3) := by decide +kernel
theorem dX1_laidByAnySet_24 : decode cX1_laidByAnySet 24 = .ok (.iload 4, 2) := by decide +kernel
theorem dX1_laidByAnySet_26 : decode cX1_laidByAnySet 26 = .ok (.iaload, 1) := by decide +kernel
theorem dX1_laidByAnySet_27 : decode cX1_laidByAnySet 27 = .ok (.putfield 49, 3) := by decide +kernel
theorem dX1_laidByAnySet_30 : decode cX1_laidByAnySet 30 = .ok (.aload_n 1, 1) := by decide +kernel
theorem dX1_laidByAnySet_31 : decode cX1_laidByAnySet 31 = .ok (.iload_n 2, 1) := by decide +kernel
theorem dX1_laidByAnySet_32 : decode cX1_laidByAnySet 32 = .ok (.invokevirtual 72, 3) := by decide +kernel
theorem dX1_laidByAnySet_35 : decode cX1_laidByAnySet 35 = .ok (.istore 5, 2) := by decide +kernel
theorem dX1_laidByAnySet_37 : decode cX1_laidByAnySet 37 = .ok (.iload 5, 2) := by decide +kernel
theorem dX1_laidByAnySet_39 : decode cX1_laidByAnySet 39 = .ok (.ifCond .lt 10, 3) := by decide +kernel
theorem dX1_laidByAnySet_42 : decode cX1_laidByAnySet 42 = .ok (.iload_n 3, 1) := by decide +kernel
theorem dX1_laidByAnySet_43 : decode cX1_laidByAnySet 43 = .ok (.iconst 1, 1) := by decide +kernel
theorem dX1_laidByAnySet_44 : decode cX1_laidByAnySet 44 = .ok (.iload 5, 2) := by decide +kernel
theorem dX1_laidByAnySet_46 : decode cX1_laidByAnySet 46 = .ok (.ishl, 1) := by decide +kernel
theorem dX1_laidByAnySet_47 : decode cX1_laidByAnySet 47 = .ok (.ior, 1) := by decide +kernel
theorem dX1_laidByAnySet_48 : decode cX1_laidByAnySet 48 = .ok (.istore_n 3, 1) := by decide +kernel
theorem dX1_laidByAnySet_49 : decode cX1_laidByAnySet 49 = .ok (.iinc 4 1, 3) := by decide +kernel
theorem dX1_laidByAnySet_52 : decode cX1_laidByAnySet 52 = .ok (.goto (-42), 3) := by decide +kernel
theorem dX1_laidByAnySet_55 : decode cX1_laidByAnySet 55 = .ok (.iload_n 3, 1) := by decide +kernel
theorem dX1_laidByAnySet_56 : decode cX1_laidByAnySet 56 = .ok (.ireturn, 1) := by decide +kernel
theorem dX2_init_0 : decode cX2_init 0 = .ok (.aload_n 0, 1) := by decide +kernel
theorem dX2_init_1 : decode cX2_init 1 = .ok (.invokespecial 3, 3) := by decide +kernel
theorem dX2_init_4 : decode cX2_init 4 = .ok (.aload_n 0, 1) := by decide +kernel
theorem dX2_init_5 : decode cX2_init 5 = .ok (.bipush 6, 2) := by decide +kernel
theorem dX2_init_7 : decode cX2_init 7 = .ok (.newarray .int, 2) := by decide +kernel
theorem dX2_init_9 : decode cX2_init 9 = .ok (.putfield 9, 3) := by decide +kernel
theorem dX2_init_12 : decode cX2_init 12 = .ok (.aload_n 0, 1) := by decide +kernel
theorem dX2_init_13 : decode cX2_init 13 = .ok (.bipush 6, 2) := by decide +kernel
theorem dX2_init_15 : decode cX2_init 15 = .ok (.newarray .int, 2) := by decide +kernel
theorem dX2_init_17 : decode cX2_init 17 = .ok (.putfield 15, 3) := by decide +kernel
theorem dX2_init_20 : decode cX2_init 20 = .ok (.aload_n 0, 1) := by decide +kernel
theorem dX2_init_21 : decode cX2_init 21 = .ok (.bipush 6, 2) := by decide +kernel
theorem dX2_init_23 : decode cX2_init 23 = .ok (.newarray .int, 2) := by decide +kernel
theorem dX2_init_25 : decode cX2_init 25 = .ok (.putfield 18, 3) := by decide +kernel
theorem dX2_init_28 : decode cX2_init 28 = .ok (.aload_n 0, 1) := by decide +kernel
theorem dX2_init_29 : decode cX2_init 29 = .ok (.bipush 6, 2) := by decide +kernel
theorem dX2_init_31 : decode cX2_init 31 = .ok (.newarray .int, 2) := by decide +kernel
theorem dX2_init_33 : decode cX2_init 33 = .ok (.putfield 21, 3) := by decide +kernel
theorem dX2_init_36 : decode cX2_init 36 = .ok (.aload_n 0, 1) := by decide +kernel
theorem dX2_init_37 : decode cX2_init 37 = .ok (.bipush 60, 2) := by decide +kernel
theorem dX2_init_39 : decode cX2_init 39 = .ok (.newarray .int, 2) := by decide +kernel
theorem dX2_init_41 : decode cX2_init 41 = .ok (.putfield 24, 3) := by decide +kernel
theorem dX2_init_44 : decode cX2_init 44 = .ok (.aload_n 0, 1) := by decide +kernel
theorem dX2_init_45 : decode cX2_init 45 = .ok (.iconst 4, 1) := by decide +kernel
theorem dX2_init_46 : decode cX2_init 46 = .ok (.newarray .int, 2) := by decide +kernel
theorem dX2_init_48 : decode cX2_init 48 = .ok (.dup, 1) := by decide +kernel
theorem dX2_init_49 : decode cX2_init 49 = .ok (.iconst 0, 1) := by decide +kernel
theorem dX2_init_50 : decode cX2_init 50 = .ok (.iconst 0, 1) := by decide +kernel
theorem dX2_init_51 : decode cX2_init 51 = .ok (.iastore, 1) := by decide +kernel
theorem dX2_init_52 : decode cX2_init 52 = .ok (.dup, 1) := by decide +kernel
theorem dX2_init_53 : decode cX2_init 53 = .ok (.iconst 1, 1) := by decide +kernel
theorem dX2_init_54 : decode cX2_init 54 = .ok (.iconst 0, 1) := by decide +kernel
theorem dX2_init_55 : decode cX2_init 55 = .ok (.iastore, 1) := by decide +kernel
theorem dX2_init_56 : decode cX2_init 56 = .ok (.dup, 1) := by decide +kernel
theorem dX2_init_57 : decode cX2_init 57 = .ok (.iconst 2, 1) := by decide +kernel
theorem dX2_init_58 : decode cX2_init 58 = .ok (.bipush 10, 2) := by decide +kernel
theorem dX2_init_60 : decode cX2_init 60 = .ok (.iastore, 1) := by decide +kernel
theorem dX2_init_61 : decode cX2_init 61 = .ok (.dup, 1) := by decide +kernel
theorem dX2_init_62 : decode cX2_init 62 = .ok (.iconst 3, 1) := by decide +kernel
theorem dX2_init_63 : decode cX2_init 63 = .ok (.bipush 9, 2) := by decide +kernel
theorem dX2_init_65 : decode cX2_init 65 = .ok (.iastore, 1) := by decide +kernel
theorem dX2_init_66 : decode cX2_init 66 = .ok (.putfield 27, 3) := by decide +kernel
theorem dX2_init_69 : decode cX2_init 69 = .ok (.aload_n 0, 1) := by decide +kernel
theorem dX2_init_70 : decode cX2_init 70 = .ok (.bipush 6, 2) := by decide +kernel
theorem dX2_init_72 : decode cX2_init 72 = .ok (.newarray .int, 2) := by decide +kernel
theorem dX2_init_74 : decode cX2_init 74 = .ok (.putfield 30, 3) := by decide +kernel
theorem dX2_init_77 : decode cX2_init 77 = .ok (.aload_n 0, 1) := by decide +kernel
theorem dX2_init_78 : decode cX2_init 78 = .ok (.bipush (-9), 2) := by decide +kernel
theorem dX2_init_80 : decode cX2_init 80 = .ok (.putfield 33, 3) := by decide +kernel
theorem dX2_init_83 : decode cX2_init 83 = .ok (.return_, 1) := by decide +kernel
theorem dX2_copyFrom_0 : decode cX2_copyFrom 0 = .ok (.aload_n 1, 1) := by decide +kernel
theorem dX2_copyFrom_1 : decode cX2_copyFrom 1 = .ok (.getfield 9, 3) := by decide +kernel
theorem dX2_copyFrom_4 : decode cX2_copyFrom 4 = .ok (.iconst 0, 1) := by decide +kernel
theorem dX2_copyFrom_5 : decode cX2_copyFrom 5 = .ok (.aload_n 0, 1) := by decide +kernel
theorem dX2_copyFrom_6 : decode cX2_copyFrom 6 = .ok (.getfield 9, 3) := by decide +kernel
theorem dX2_copyFrom_9 : decode cX2_copyFrom 9 = .ok (.iconst 0, 1) := by decide +kernel
theorem dX2_copyFrom_10 : decode cX2_copyFrom 10 = .ok (.bipush 6, 2) := by decide +kernel
theorem dX2_copyFrom_12 : decode cX2_copyFrom 12 = .ok (.invokestatic 37, 3) := by decide +kernel
theorem dX2_copyFrom_15 : decode cX2_copyFrom 15 = .ok (.aload_n 1, 1) := by decide +kernel
theorem dX2_copyFrom_16 : decode cX2_copyFrom 16 = .ok (.getfield 15, 3) := by decide +kernel
theorem dX2_copyFrom_19 : decode cX2_copyFrom 19 = .ok (.iconst 0, 1) := by decide +kernel
theorem dX2_copyFrom_20 : decode cX2_copyFrom 20 = .ok (.aload_n 0, 1) := by decide +kernel
theorem dX2_copyFrom_21 : decode cX2_copyFrom 21 = .ok (.getfield 15, 3) := by decide +kernel
theorem dX2_copyFrom_24 : decode cX2_copyFrom 24 = .ok (.iconst 0, 1) := by decide +kernel
theorem dX2_copyFrom_25 : decode cX2_copyFrom 25 = .ok (.bipush 6, 2) := by decide +kernel
theorem dX2_copyFrom_27 : decode cX2_copyFrom 27 = .ok (.invokestatic 37, 3) := by decide +kernel
theorem dX2_copyFrom_30 : decode cX2_copyFrom 30 = .ok (.aload_n 1, 1) := by decide +kernel
theorem dX2_copyFrom_31 : decode cX2_copyFrom 31 = .ok (.getfield 18, 3) := by decide +kernel
theorem dX2_copyFrom_34 : decode cX2_copyFrom 34 = .ok (.iconst 0, 1) := by decide +kernel
theorem dX2_copyFrom_35 : decode cX2_copyFrom 35 = .ok (.aload_n 0, 1) := by decide +kernel
theorem dX2_copyFrom_36 : decode cX2_copyFrom 36 = .ok (.getfield 18, 3) := by decide +kernel
theorem dX2_copyFrom_39 : decode cX2_copyFrom 39 = .ok (.iconst 0, 1) := by decide +kernel
theorem dX2_copyFrom_40 : decode cX2_copyFrom 40 = .ok (.bipush 6, 2) := by decide +kernel
theorem dX2_copyFrom_42 : decode cX2_copyFrom 42 = .ok (.invokestatic 37, 3) := by decide +kernel
theorem dX2_copyFrom_45 : decode cX2_copyFrom 45 = .ok (.aload_n 1, 1) := by decide +kernel
theorem dX2_copyFrom_46 : decode cX2_copyFrom 46 = .ok (.getfield 21, 3) := by decide +kernel
theorem dX2_copyFrom_49 : decode cX2_copyFrom 49 = .ok (.iconst 0, 1) := by decide +kernel
theorem dX2_copyFrom_50 : decode cX2_copyFrom 50 = .ok (.aload_n 0, 1) := by decide +kernel
theorem dX2_copyFrom_51 : decode cX2_copyFrom 51 = .ok (.getfield 21, 3) := by decide +kernel
theorem dX2_copyFrom_54 : decode cX2_copyFrom 54 = .ok (.iconst 0, 1) := by decide +kernel
theorem dX2_copyFrom_55 : decode cX2_copyFrom 55 = .ok (.bipush 6, 2) := by decide +kernel
theorem dX2_copyFrom_57 : decode cX2_copyFrom 57 = .ok (.invokestatic 37, 3) := by decide +kernel
theorem dX2_copyFrom_60 : decode cX2_copyFrom 60 = .ok (.aload_n 1, 1) := by decide +kernel
theorem dX2_copyFrom_61 : decode cX2_copyFrom 61 = .ok (.getfield 27, 3) := by decide +kernel
theorem dX2_copyFrom_64 : decode cX2_copyFrom 64 = .ok (.iconst 0, 1) := by decide +kernel
theorem dX2_copyFrom_65 : decode cX2_copyFrom 65 = .ok (.aload_n 0, 1) := by decide +kernel
theorem dX2_copyFrom_66 : decode cX2_copyFrom 66 = .ok (.getfield 27, 3) := by decide +kernel
theorem dX2_copyFrom_69 : decode cX2_copyFrom 69 = .ok (.iconst 0, 1) := by decide +kernel
theorem dX2_copyFrom_70 : decode cX2_copyFrom 70 = .ok (.iconst 4, 1) := by decide +kernel
theorem dX2_copyFrom_71 : decode cX2_copyFrom 71 = .ok (.invokestatic 37, 3) := by decide +kernel
theorem dX2_copyFrom_74 : decode cX2_copyFrom 74 = .ok (.aload_n 0, 1) := by decide +kernel
theorem dX2_copyFrom_75 : decode cX2_copyFrom 75 = .ok (.aload_n 1, 1) := by decide +kernel
theorem dX2_copyFrom_76 : decode cX2_copyFrom 76 = .ok (.getfield 43, 3) := by decide +kernel
theorem dX2_copyFrom_79 : decode cX2_copyFrom 79 = .ok (.putfield 43, 3) := by decide +kernel
theorem dX2_copyFrom_82 : decode cX2_copyFrom 82 = .ok (.aload_n 0, 1) := by decide +kernel
theorem dX2_copyFrom_83 : decode cX2_copyFrom 83 = .ok (.aload_n 1, 1) := by decide +kernel
theorem dX2_copyFrom_84 : decode cX2_copyFrom 84 = .ok (.getfield 46, 3) := by decide +kernel
theorem dX2_copyFrom_87 : decode cX2_copyFrom 87 = .ok (.putfield 46, 3) := by decide +kernel
theorem dX2_copyFrom_90 : decode cX2_copyFrom 90 = .ok (.aload_n 0, 1) := by decide +kernel
theorem dX2_copyFrom_91 : decode cX2_copyFrom 91 = .ok (.aload_n 1, 1) := by decide +kernel
theorem dX2_copyFrom_92 : decode cX2_copyFrom 92 = .ok (.getfield 49, 3) := by decide +kernel
theorem dX2_copyFrom_95 : decode cX2_copyFrom 95 = .ok (.putfield 49, 3) := by decide +kernel
theorem dX2_copyFrom_98 : decode cX2_copyFrom 98 = .ok (.aload_n 0, 1) := by decide +kernel
theorem dX2_copyFrom_99 : decode cX2_copyFrom 99 = .ok (.aload_n 1, 1) := by decide +kernel
theorem dX2_copyFrom_100 : decode cX2_copyFrom 100 = .ok (.invokevirtual 52, 3) := by decide +kernel
theorem dX2_copyFrom_103 : decode cX2_copyFrom 103 = .ok (.return_, 1) := by decide +kernel
theorem dX2_copyCourse_0 : decode cX2_copyCourse 0 = .ok (.aload_n 1, 1) := by decide +kernel
theorem dX2_copyCourse_1 : decode cX2_copyCourse 1 = .ok (.getfield 24, 3) := by decide +kernel
theorem dX2_copyCourse_4 : decode cX2_copyCourse 4 = .ok (.iconst 0, 1) := by decide +kernel
theorem dX2_copyCourse_5 : decode cX2_copyCourse 5 = .ok (.aload_n 0, 1) := by decide +kernel
theorem dX2_copyCourse_6 : decode cX2_copyCourse 6 = .ok (.getfield 24, 3) := by decide +kernel
theorem dX2_copyCourse_9 : decode cX2_copyCourse 9 = .ok (.iconst 0, 1) := by decide +kernel
theorem dX2_copyCourse_10 : decode cX2_copyCourse 10 = .ok (.bipush 60, 2) := by decide +kernel
theorem dX2_copyCourse_12 : decode cX2_copyCourse 12 = .ok (.invokestatic 37, 3) := by decide +kernel
theorem dX2_copyCourse_15 : decode cX2_copyCourse 15 = .ok (.aload_n 0, 1) := by decide +kernel
theorem dX2_copyCourse_16 : decode cX2_copyCourse 16 = .ok (.aload_n 1, 1) := by decide +kernel
theorem dX2_copyCourse_17 : decode cX2_copyCourse 17 = .ok (.getfield 33, 3) := by decide +kernel
theorem dX2_copyCourse_20 : decode cX2_copyCourse 20 = .ok (.putfield 33, 3) := by decide +kernel
theorem dX2_copyCourse_23 : decode cX2_copyCourse 23 = .ok (.aload_n 0, 1) := by decide +kernel
theorem dX2_copyCourse_24 : decode cX2_copyCourse 24 = .ok (.aload_n 1, 1) := by decide +kernel
theorem dX2_copyCourse_25 : decode cX2_copyCourse 25 = .ok (.getfield 56, 3) := by decide +kernel
theorem dX2_copyCourse_28 : decode cX2_copyCourse 28 = .ok (.putfield 56, 3) := by decide +kernel
theorem dX2_copyCourse_31 : decode cX2_copyCourse 31 = .ok (.aload_n 0, 1) := by decide +kernel
theorem dX2_copyCourse_32 : decode cX2_copyCourse 32 = .ok (.aload_n 1, 1) := by decide +kernel
theorem dX2_copyCourse_33 : decode cX2_copyCourse 33 = .ok (.getfield 59, 3) := by decide +kernel
theorem dX2_copyCourse_36 : decode cX2_copyCourse 36 = .ok (.putfield 59, 3) := by decide +kernel
theorem dX2_copyCourse_39 : decode cX2_copyCourse 39 = .ok (.return_, 1) := by decide +kernel
theorem dX2_addNest_0 : decode cX2_addNest 0 = .ok (.aload_n 0, 1) := by decide +kernel
theorem dX2_addNest_1 : decode cX2_addNest 1 = .ok (.getfield 43, 3) := by decide +kernel
theorem dX2_addNest_4 : decode cX2_addNest 4 = .ok (.bipush 6, 2) := by decide +kernel
theorem dX2_addNest_6 : decode cX2_addNest 6 = .ok (.if_icmp .lt 5, 3) := by decide +kernel
theorem dX2_addNest_9 : decode cX2_addNest 9 = .ok (.iconst 0, 1) := by decide +kernel
theorem dX2_addNest_10 : decode cX2_addNest 10 = .ok (.ireturn, 1) := by decide +kernel
theorem dX2_addNest_11 : decode cX2_addNest 11 = .ok (.aload_n 0, 1) := by decide +kernel
theorem dX2_addNest_12 : decode cX2_addNest 12 = .ok (.getfield 9, 3) := by decide +kernel
theorem dX2_addNest_15 : decode cX2_addNest 15 = .ok (.aload_n 0, 1) := by decide +kernel
theorem dX2_addNest_16 : decode cX2_addNest 16 = .ok (.getfield 43, 3) := by decide +kernel
theorem dX2_addNest_19 : decode cX2_addNest 19 = .ok (.iload_n 1, 1) := by decide +kernel
theorem dX2_addNest_20 : decode cX2_addNest 20 = .ok (.iastore, 1) := by decide +kernel
theorem dX2_addNest_21 : decode cX2_addNest 21 = .ok (.aload_n 0, 1) := by decide +kernel
theorem dX2_addNest_22 : decode cX2_addNest 22 = .ok (.getfield 15, 3) := by decide +kernel
theorem dX2_addNest_25 : decode cX2_addNest 25 = .ok (.aload_n 0, 1) := by decide +kernel
theorem dX2_addNest_26 : decode cX2_addNest 26 = .ok (.getfield 43, 3) := by decide +kernel
theorem dX2_addNest_29 : decode cX2_addNest 29 = .ok (.iload_n 2, 1) := by decide +kernel
theorem dX2_addNest_30 : decode cX2_addNest 30 = .ok (.iastore, 1) := by decide +kernel
theorem dX2_addNest_31 : decode cX2_addNest 31 = .ok (.aload_n 0, 1) := by decide +kernel
theorem dX2_addNest_32 : decode cX2_addNest 32 = .ok (.getfield 18, 3) := by decide +kernel
theorem dX2_addNest_35 : decode cX2_addNest 35 = .ok (.aload_n 0, 1) := by decide +kernel
theorem dX2_addNest_36 : decode cX2_addNest 36 = .ok (.getfield 43, 3) := by decide +kernel
theorem dX2_addNest_39 : decode cX2_addNest 39 = .ok (.iload_n 3, 1) := by decide +kernel
theorem dX2_addNest_40 : decode cX2_addNest 40 = .ok (.iastore, 1) := by decide +kernel
theorem dX2_addNest_41 : decode cX2_addNest 41 = .ok (.aload_n 0, 1) := by decide +kernel
theorem dX2_addNest_42 : decode cX2_addNest 42 = .ok (.getfield 21, 3) := by decide +kernel
theorem dX2_addNest_45 : decode cX2_addNest 45 = .ok (.aload_n 0, 1) := by decide +kernel
theorem dX2_addNest_46 : decode cX2_addNest 46 = .ok (.getfield 43, 3) := by decide +kernel
theorem dX2_addNest_49 : decode cX2_addNest 49 = .ok (.iload 4, 2) := by decide +kernel
theorem dX2_addNest_51 : decode cX2_addNest 51 = .ok (.iastore, 1) := by decide +kernel
theorem dX2_addNest_52 : decode cX2_addNest 52 = .ok (.aload_n 0, 1) := by decide +kernel
theorem dX2_addNest_53 : decode cX2_addNest 53 = .ok (.dup, 1) := by decide +kernel
theorem dX2_addNest_54 : decode cX2_addNest 54 = .ok (.getfield 43, 3) := by decide +kernel
theorem dX2_addNest_57 : decode cX2_addNest 57 = .ok (.iconst 1, 1) := by decide +kernel
theorem dX2_addNest_58 : decode cX2_addNest 58 = .ok (.iadd, 1) := by decide +kernel
theorem dX2_addNest_59 : decode cX2_addNest 59 = .ok (.putfield 43, 3) := by decide +kernel
theorem dX2_addNest_62 : decode cX2_addNest 62 = .ok (.iconst 1, 1) := by decide +kernel
theorem dX2_addNest_63 : decode cX2_addNest 63 = .ok (.ireturn, 1) := by decide +kernel
theorem dX2_addEgg_0 : decode cX2_addEgg 0 = .ok (.iload_n 1, 1) := by decide +kernel
theorem dX2_addEgg_1 : decode cX2_addEgg 1 = .ok (.ifCond .lt 21, 3) := by decide +kernel
theorem dX2_addEgg_4 : decode cX2_addEgg 4 = .ok (.iload_n 1, 1) := by decide +kernel
theorem dX2_addEgg_5 : decode cX2_addEgg 5 = .ok (.aload_n 0, 1) := by decide +kernel
theorem dX2_addEgg_6 : decode cX2_addEgg 6 = .ok (.getfield 43, 3) := by decide +kernel
theorem dX2_addEgg_9 : decode cX2_addEgg 9 = .ok (.if_icmp .ge 13, 3) := by decide +kernel
theorem dX2_addEgg_12 : decode cX2_addEgg 12 = .ok (.iload_n 2, 1) := by decide +kernel
theorem dX2_addEgg_13 : decode cX2_addEgg 13 = .ok (.ifCond .lt 9, 3) := by decide +kernel
theorem dX2_addEgg_16 : decode cX2_addEgg 16 = .ok (.iload_n 2, 1) := by decide +kernel
theorem dX2_addEgg_17 : decode cX2_addEgg 17 = .ok (.bipush 10, 2) := by decide +kernel
theorem dX2_addEgg_19 : decode cX2_addEgg 19 = .ok (.if_icmp .lt 5, 3) := by decide +kernel
theorem dX2_addEgg_22 : decode cX2_addEgg 22 = .ok (.iconst 0, 1) := by decide +kernel
theorem dX2_addEgg_23 : decode cX2_addEgg 23 = .ok (.ireturn, 1) := by decide +kernel
theorem dX2_addEgg_24 : decode cX2_addEgg 24 = .ok (.iload_n 1, 1) := by decide +kernel
theorem dX2_addEgg_25 : decode cX2_addEgg 25 = .ok (.bipush 10, 2) := by decide +kernel
theorem dX2_addEgg_27 : decode cX2_addEgg 27 = .ok (.imul, 1) := by decide +kernel
theorem dX2_addEgg_28 : decode cX2_addEgg 28 = .ok (.iload_n 2, 1) := by decide +kernel
theorem dX2_addEgg_29 : decode cX2_addEgg 29 = .ok (.iadd, 1) := by decide +kernel
theorem dX2_addEgg_30 : decode cX2_addEgg 30 = .ok (.istore_n 3, 1) := by decide +kernel
theorem dX2_addEgg_31 : decode cX2_addEgg 31 = .ok (.aload_n 0, 1) := by decide +kernel
theorem dX2_addEgg_32 : decode cX2_addEgg 32 = .ok (.getfield 24, 3) := by decide +kernel
theorem dX2_addEgg_35 : decode cX2_addEgg 35 = .ok (.iload_n 3, 1) := by decide +kernel
theorem dX2_addEgg_36 : decode cX2_addEgg 36 = .ok (.iaload, 1) := by decide +kernel
theorem dX2_addEgg_37 : decode cX2_addEgg 37 = .ok (.bipush 9, 2) := by decide +kernel
theorem dX2_addEgg_39 : decode cX2_addEgg 39 = .ok (.if_icmp .lt 5, 3) := by decide +kernel
theorem dX2_addEgg_42 : decode cX2_addEgg 42 = .ok (.iconst 0, 1) := by decide +kernel
theorem dX2_addEgg_43 : decode cX2_addEgg 43 = .ok (.ireturn, 1) := by decide +kernel
theorem dX2_addEgg_44 : decode cX2_addEgg 44 = .ok (.aload_n 0, 1) := by decide +kernel
theorem dX2_addEgg_45 : decode cX2_addEgg 45 = .ok (.getfield 24, 3) := by decide +kernel
theorem dX2_addEgg_48 : decode cX2_addEgg 48 = .ok (.iload_n 3, 1) := by decide +kernel
theorem dX2_addEgg_49 : decode cX2_addEgg 49 = .ok (.dup2, 1) := by decide +kernel
theorem dX2_addEgg_50 : decode cX2_addEgg 50 = .ok (.iaload, 1) := by decide +kernel
theorem dX2_addEgg_51 : decode cX2_addEgg 51 = .ok (.iconst 1, 1) := by decide +kernel
theorem dX2_addEgg_52 : decode cX2_addEgg 52 = .ok (.iadd, 1) := by decide +kernel
theorem dX2_addEgg_53 : decode cX2_addEgg 53 = .ok (.iastore, 1) := by decide +kernel
theorem dX2_addEgg_54 : decode cX2_addEgg 54 = .ok (.iconst 1, 1) := by decide +kernel
theorem dX2_addEgg_55 : decode cX2_addEgg 55 = .ok (.ireturn, 1) := by decide +kernel
theorem dX2_change_0 : decode cX2_change 0 = .ok (.iload_n 2, 1) := by decide +kernel
theorem dX2_change_1 : decode cX2_change 1 = .ok (.getstatic 62, 3) := by decide +kernel
theorem dX2_change_4 : decode cX2_change 4 = .ok (.iload_n 1, 1) := by decide +kernel
theorem dX2_change_5 : decode cX2_change 5 = .ok (.iaload, 1) := by decide +kernel
theorem dX2_change_6 : decode cX2_change 6 = .ok (.if_icmp .lt 12, 3) := by decide +kernel
theorem dX2_change_9 : decode cX2_change 9 = .ok (.iload_n 2, 1) := by decide +kernel
theorem dX2_change_10 : decode cX2_change 10 = .ok (.getstatic 65, 3) := by decide +kernel
theorem dX2_change_13 : decode cX2_change 13 = .ok (.iload_n 1, 1) := by decide +kernel
theorem dX2_change_14 : decode cX2_change 14 = .ok (.iaload, 1) := by decide +kernel
theorem dX2_change_15 : decode cX2_change 15 = .ok (.if_icmp .le 5, 3) := by decide +kernel
theorem dX2_change_18 : decode cX2_change 18 = .ok (.iconst 0, 1) := by decide +kernel
theorem dX2_change_19 : decode cX2_change 19 = .ok (.ireturn, 1) := by decide +kernel
theorem dX2_change_20 : decode cX2_change 20 = .ok (.aload_n 0, 1) := by decide +kernel
theorem dX2_change_21 : decode cX2_change 21 = .ok (.getfield 27, 3) := by decide +kernel
theorem dX2_change_24 : decode cX2_change 24 = .ok (.iload_n 1, 1) := by decide +kernel
theorem dX2_change_25 : decode cX2_change 25 = .ok (.iload_n 2, 1) := by decide +kernel
theorem dX2_change_26 : decode cX2_change 26 = .ok (.iastore, 1) := by decide +kernel
theorem dX2_change_27 : decode cX2_change 27 = .ok (.iconst 1, 1) := by decide +kernel
theorem dX2_change_28 : decode cX2_change 28 = .ok (.ireturn, 1) := by decide +kernel
theorem dX2_allNests_0 : decode cX2_allNests 0 = .ok (.iconst 1, 1) := by decide +kernel
theorem dX2_allNests_1 : decode cX2_allNests 1 = .ok (.aload_n 0, 1) := by decide +kernel
theorem dX2_allNests_2 : decode cX2_allNests 2 = .ok (.getfield 43, 3) := by decide +kernel
theorem dX2_allNests_5 : decode cX2_allNests 5 = .ok (.ishl, 1) := by decide +kernel
theorem dX2_allNests_6 : decode cX2_allNests 6 = .ok (.iconst 1, 1) := by decide +kernel
theorem dX2_allNests_7 : decode cX2_allNests 7 = .ok (.isub, 1) := by decide +kernel
theorem dX2_allNests_8 : decode cX2_allNests 8 = .ok (.ireturn, 1) := by decide +kernel
theorem dX2_eggsAt_0 : decode cX2_eggsAt 0 = .ok (.iconst 0, 1) := by decide +kernel
theorem dX2_eggsAt_1 : decode cX2_eggsAt 1 = .ok (.istore_n 2, 1) := by decide +kernel
theorem dX2_eggsAt_2 : decode cX2_eggsAt 2 = .ok (.iload_n 1, 1) := by decide +kernel
theorem dX2_eggsAt_3 : decode cX2_eggsAt 3 = .ok (.iconst 1, 1) := by decide +kernel
theorem dX2_eggsAt_4 : decode cX2_eggsAt 4 = .ok (.iadd, 1) := by decide +kernel
theorem dX2_eggsAt_5 : decode cX2_eggsAt 5 = .ok (.bipush 10, 2) := by decide +kernel
theorem dX2_eggsAt_7 : decode cX2_eggsAt 7 = .ok (.imul, 1) := by decide +kernel
theorem dX2_eggsAt_8 : decode cX2_eggsAt 8 = .ok (.istore_n 3, 1) := by decide +kernel
theorem dX2_eggsAt_9 : decode cX2_eggsAt 9 = .ok (.iload_n 1, 1) := by decide +kernel
theorem dX2_eggsAt_10 : decode cX2_eggsAt 10 = .ok (.bipush 10, 2) := by decide +kernel
theorem dX2_eggsAt_12 : decode cX2_eggsAt 12 = .ok (.imul, 1) := by decide +kernel
theorem dX2_eggsAt_13 : decode cX2_eggsAt 13 = .ok (.istore 4, 2) := by decide +kernel
theorem dX2_eggsAt_15 : decode cX2_eggsAt 15 = .ok (.iload 4, 2) := by decide +kernel
theorem dX2_eggsAt_17 : decode cX2_eggsAt 17 = .ok (.iload_n 3, 1) := by decide +kernel
theorem dX2_eggsAt_18 : decode cX2_eggsAt 18 = .ok (.if_icmp .ge 19, 3) := by decide +kernel
theorem dX2_eggsAt_21 : decode cX2_eggsAt 21 = .ok (.iload_n 2, 1) := by decide +kernel
theorem dX2_eggsAt_22 : decode cX2_eggsAt 22 = .ok (.aload_n 0, 1) := by decide +kernel
theorem dX2_eggsAt_23 : decode cX2_eggsAt 23 = .ok (.getfield 24, 3) := by decide +kernel
theorem dX2_eggsAt_26 : decode cX2_eggsAt 26 = .ok (.iload 4, 2) := by decide +kernel
theorem dX2_eggsAt_28 : decode cX2_eggsAt 28 = .ok (.iaload, 1) := by decide +kernel
theorem dX2_eggsAt_29 : decode cX2_eggsAt 29 = .ok (.iadd, 1) := by decide +kernel
theorem dX2_eggsAt_30 : decode cX2_eggsAt 30 = .ok (.istore_n 2, 1) := by decide +kernel
theorem dX2_eggsAt_31 : decode cX2_eggsAt 31 = .ok (.iinc 4 1, 3) := by decide +kernel
theorem dX2_eggsAt_34 : decode cX2_eggsAt 34 = .ok (.goto (-19), 3) := by decide +kernel
theorem dX2_eggsAt_37 : decode cX2_eggsAt 37 = .ok (.iload_n 2, 1) := by decide +kernel
theorem dX2_eggsAt_38 : decode cX2_eggsAt 38 = .ok (.ireturn, 1) := by decide +kernel
theorem dX2_allEggs_0 : decode cX2_allEggs 0 = .ok (.iconst 0, 1) := by decide +kernel
theorem dX2_allEggs_1 : decode cX2_allEggs 1 = .ok (.istore_n 1, 1) := by decide +kernel
theorem dX2_allEggs_2 : decode cX2_allEggs 2 = .ok (.iconst 0, 1) := by decide +kernel
theorem dX2_allEggs_3 : decode cX2_allEggs 3 = .ok (.istore_n 2, 1) := by decide +kernel
theorem dX2_allEggs_4 : decode cX2_allEggs 4 = .ok (.iload_n 2, 1) := by decide +kernel
theorem dX2_allEggs_5 : decode cX2_allEggs 5 = .ok (.aload_n 0, 1) := by decide +kernel
theorem dX2_allEggs_6 : decode cX2_allEggs 6 = .ok (.getfield 43, 3) := by decide +kernel
theorem dX2_allEggs_9 : decode cX2_allEggs 9 = .ok (.if_icmp .ge 17, 3) := by decide +kernel
theorem dX2_allEggs_12 : decode cX2_allEggs 12 = .ok (.iload_n 1, 1) := by decide +kernel
theorem dX2_allEggs_13 : decode cX2_allEggs 13 = .ok (.aload_n 0, 1) := by decide +kernel
theorem dX2_allEggs_14 : decode cX2_allEggs 14 = .ok (.iload_n 2, 1) := by decide +kernel
theorem dX2_allEggs_15 : decode cX2_allEggs 15 = .ok (.invokevirtual 68, 3) := by decide +kernel
theorem dX2_allEggs_18 : decode cX2_allEggs 18 = .ok (.iadd, 1) := by decide +kernel
theorem dX2_allEggs_19 : decode cX2_allEggs 19 = .ok (.istore_n 1, 1) := by decide +kernel
theorem dX2_allEggs_20 : decode cX2_allEggs 20 = .ok (.iinc 2 1, 3) := by decide +kernel
theorem dX2_allEggs_23 : decode cX2_allEggs 23 = .ok (.goto (-19), 3) := by decide +kernel
theorem dX2_allEggs_26 : decode cX2_allEggs 26 = .ok (.iload_n 1, 1) := by decide +kernel
theorem dX2_allEggs_27 : decode cX2_allEggs 27 = .ok (.ireturn, 1) := by decide +kernel
theorem dX2_greatestAge_0 : decode cX2_greatestAge 0 = .ok (.bipush 9, 2) := by decide +kernel
theorem dX2_greatestAge_2 : decode cX2_greatestAge 2 = .ok (.istore_n 2, 1) := by decide +kernel
theorem dX2_greatestAge_3 : decode cX2_greatestAge 3 = .ok (.iload_n 2, 1) := by decide +kernel
theorem dX2_greatestAge_4 : decode cX2_greatestAge 4 = .ok (.ifCond .lt 25, 3) := by decide +kernel
theorem dX2_greatestAge_7 : decode cX2_greatestAge 7 = .ok (.aload_n 0, 1) := by decide +kernel
theorem dX2_greatestAge_8 : decode cX2_greatestAge 8 = .ok (.getfield 24, 3) := by decide +kernel
theorem dX2_greatestAge_11 : decode cX2_greatestAge 11 = .ok (.iload_n 1, 1) := by decide +kernel
theorem dX2_greatestAge_12 : decode cX2_greatestAge 12 = .ok (.bipush 10, 2) := by decide +kernel
theorem dX2_greatestAge_14 : decode cX2_greatestAge 14 = .ok (.imul, 1) := by decide +kernel
theorem dX2_greatestAge_15 : decode cX2_greatestAge 15 = .ok (.iload_n 2, 1) := by decide +kernel
theorem dX2_greatestAge_16 : decode cX2_greatestAge 16 = .ok (.iadd, 1) := by decide +kernel
theorem dX2_greatestAge_17 : decode cX2_greatestAge 17 = .ok (.iaload, 1) := by decide +kernel
theorem dX2_greatestAge_18 : decode cX2_greatestAge 18 = .ok (.ifCond .le 5, 3) := by decide +kernel
theorem dX2_greatestAge_21 : decode cX2_greatestAge 21 = .ok (.iload_n 2, 1) := by decide +kernel
theorem dX2_greatestAge_22 : decode cX2_greatestAge 22 = .ok (.ireturn, 1) := by decide +kernel
theorem dX2_greatestAge_23 : decode cX2_greatestAge 23 = .ok (.iinc 2 (-1), 3) := by decide +kernel
theorem dX2_greatestAge_26 : decode cX2_greatestAge 26 = .ok (.goto (-23), 3) := by decide +kernel
theorem dX2_greatestAge_29 : decode cX2_greatestAge 29 = .ok (.bipush (-9), 2) := by decide +kernel
theorem dX2_greatestAge_31 : decode cX2_greatestAge 31 = .ok (.ireturn, 1) := by decide +kernel
theorem dX2_minutesOf_0 : decode cX2_minutesOf 0 = .ok (.iconst 0, 1) := by decide +kernel
theorem dX2_minutesOf_1 : decode cX2_minutesOf 1 = .ok (.istore_n 2, 1) := by decide +kernel
theorem dX2_minutesOf_2 : decode cX2_minutesOf 2 = .ok (.iconst 0, 1) := by decide +kernel
theorem dX2_minutesOf_3 : decode cX2_minutesOf 3 = .ok (.istore_n 3, 1) := by decide +kernel
theorem dX2_minutesOf_4 : decode cX2_minutesOf 4 = .ok (.iload_n 3, 1) := by decide +kernel
theorem dX2_minutesOf_5 : decode cX2_minutesOf 5 = .ok (.aload_n 0, 1) := by decide +kernel
theorem dX2_minutesOf_6 : decode cX2_minutesOf 6 = .ok (.getfield 43, 3) := by decide +kernel
theorem dX2_minutesOf_9 : decode cX2_minutesOf 9 = .ok (.if_icmp .ge 27, 3) := by decide +kernel
theorem dX2_minutesOf_12 : decode cX2_minutesOf 12 = .ok (.iload_n 1, 1) := by decide +kernel
theorem dX2_minutesOf_13 : decode cX2_minutesOf 13 = .ok (.iload_n 3, 1) := by decide +kernel
theorem dX2_minutesOf_14 : decode cX2_minutesOf 14 = .ok (.ishr, 1) := by decide +kernel
theorem dX2_minutesOf_15 : decode cX2_minutesOf 15 = .ok (.iconst 1, 1) := by decide +kernel
theorem dX2_minutesOf_16 : decode cX2_minutesOf 16 = .ok (.iand, 1) := by decide +kernel
theorem dX2_minutesOf_17 : decode cX2_minutesOf 17 = .ok (.iconst 1, 1) := by decide +kernel
theorem dX2_minutesOf_18 : decode cX2_minutesOf 18 = .ok (.if_icmp .ne 12, 3) := by decide +kernel
theorem dX2_minutesOf_21 : decode cX2_minutesOf 21 = .ok (.iload_n 2, 1) := by decide +kernel
theorem dX2_minutesOf_22 : decode cX2_minutesOf 22 = .ok (.aload_n 0, 1) := by decide +kernel
theorem dX2_minutesOf_23 : decode cX2_minutesOf 23 = .ok (.getfield 18, 3) := by decide +kernel
theorem dX2_minutesOf_26 : decode cX2_minutesOf 26 = .ok (.iload_n 3, 1) := by decide +kernel
theorem dX2_minutesOf_27 : decode cX2_minutesOf 27 = .ok (.iaload, 1) := by decide +kernel
theorem dX2_minutesOf_28 : decode cX2_minutesOf 28 = .ok (.iadd, 1) := by decide +kernel
theorem dX2_minutesOf_29 : decode cX2_minutesOf 29 = .ok (.istore_n 2, 1) := by decide +kernel
theorem dX2_minutesOf_30 : decode cX2_minutesOf 30 = .ok (.iinc 3 1, 3) := by decide +kernel
theorem dX2_minutesOf_33 : decode cX2_minutesOf 33 = .ok (.goto (-29), 3) := by decide +kernel
theorem dX2_minutesOf_36 : decode cX2_minutesOf 36 = .ok (.iload_n 2, 1) := by decide +kernel
theorem dX2_minutesOf_37 : decode cX2_minutesOf 37 = .ok (.ireturn, 1) := by decide +kernel
theorem dX2_timeLeft_0 : decode cX2_timeLeft 0 = .ok (.aload_n 0, 1) := by decide +kernel
theorem dX2_timeLeft_1 : decode cX2_timeLeft 1 = .ok (.getfield 27, 3) := by decide +kernel
theorem dX2_timeLeft_4 : decode cX2_timeLeft 4 = .ok (.iconst 2, 1) := by decide +kernel
theorem dX2_timeLeft_5 : decode cX2_timeLeft 5 = .ok (.iaload, 1) := by decide +kernel
theorem dX2_timeLeft_6 : decode cX2_timeLeft 6 = .ok (.aload_n 0, 1) := by decide +kernel
theorem dX2_timeLeft_7 : decode cX2_timeLeft 7 = .ok (.aload_n 0, 1) := by decide +kernel
theorem dX2_timeLeft_8 : decode cX2_timeLeft 8 = .ok (.getfield 56, 3) := by decide +kernel
theorem dX2_timeLeft_11 : decode cX2_timeLeft 11 = .ok (.invokevirtual 72, 3) := by decide +kernel
theorem dX2_timeLeft_14 : decode cX2_timeLeft 14 = .ok (.isub, 1) := by decide +kernel
theorem dX2_timeLeft_15 : decode cX2_timeLeft 15 = .ok (.ireturn, 1) := by decide +kernel
theorem dX2_takeEggs_0 : decode cX2_takeEggs 0 = .ok (.iconst 0, 1) := by decide +kernel
theorem dX2_takeEggs_1 : decode cX2_takeEggs 1 = .ok (.istore_n 2, 1) := by decide +kernel
theorem dX2_takeEggs_2 : decode cX2_takeEggs 2 = .ok (.iconst 0, 1) := by decide +kernel
theorem dX2_takeEggs_3 : decode cX2_takeEggs 3 = .ok (.istore_n 3, 1) := by decide +kernel
theorem dX2_takeEggs_4 : decode cX2_takeEggs 4 = .ok (.iload_n 3, 1) := by decide +kernel
theorem dX2_takeEggs_5 : decode cX2_takeEggs 5 = .ok (.aload_n 0, 1) := by decide +kernel
theorem dX2_takeEggs_6 : decode cX2_takeEggs 6 = .ok (.getfield 43, 3) := by decide +kernel
theorem dX2_takeEggs_9 : decode cX2_takeEggs 9 = .ok (.if_icmp .ge 26, 3) := by decide +kernel
theorem dX2_takeEggs_12 : decode cX2_takeEggs 12 = .ok (.iload_n 1, 1) := by decide +kernel
theorem dX2_takeEggs_13 : decode cX2_takeEggs 13 = .ok (.iload_n 3, 1) := by decide +kernel
theorem dX2_takeEggs_14 : decode cX2_takeEggs 14 = .ok (.ishr, 1) := by decide +kernel
theorem dX2_takeEggs_15 : decode cX2_takeEggs 15 = .ok (.iconst 1, 1) := by decide +kernel
theorem dX2_takeEggs_16 : decode cX2_takeEggs 16 = .ok (.iand, 1) := by decide +kernel
theorem dX2_takeEggs_17 : decode cX2_takeEggs 17 = .ok (.iconst 1, 1) := by decide +kernel
theorem dX2_takeEggs_18 : decode cX2_takeEggs 18 = .ok (.if_icmp .ne 11, 3) := by decide +kernel
theorem dX2_takeEggs_21 : decode cX2_takeEggs 21 = .ok (.iload_n 2, 1) := by decide +kernel
theorem dX2_takeEggs_22 : decode cX2_takeEggs 22 = .ok (.aload_n 0, 1) := by decide +kernel
theorem dX2_takeEggs_23 : decode cX2_takeEggs 23 = .ok (.iload_n 3, 1) := by decide +kernel
theorem dX2_takeEggs_24 : decode cX2_takeEggs 24 = .ok (.invokevirtual 75, 3) := by decide +kernel
theorem dX2_takeEggs_27 : decode cX2_takeEggs 27 = .ok (.iadd, 1) := by decide +kernel
theorem dX2_takeEggs_28 : decode cX2_takeEggs 28 = .ok (.istore_n 2, 1) := by decide +kernel
theorem dX2_takeEggs_29 : decode cX2_takeEggs 29 = .ok (.iinc 3 1, 3) := by decide +kernel
theorem dX2_takeEggs_32 : decode cX2_takeEggs 32 = .ok (.goto (-28), 3) := by decide +kernel
theorem dX2_takeEggs_35 : decode cX2_takeEggs 35 = .ok (.aload_n 0, 1) := by decide +kernel
theorem dX2_takeEggs_36 : decode cX2_takeEggs 36 = .ok (.dup, 1) := by decide +kernel
theorem dX2_takeEggs_37 : decode cX2_takeEggs 37 = .ok (.getfield 56, 3) := by decide +kernel
theorem dX2_takeEggs_40 : decode cX2_takeEggs 40 = .ok (.iload_n 1, 1) := by decide +kernel
theorem dX2_takeEggs_41 : decode cX2_takeEggs 41 = .ok (.ior, 1) := by decide +kernel
theorem dX2_takeEggs_42 : decode cX2_takeEggs 42 = .ok (.putfield 56, 3) := by decide +kernel
theorem dX2_takeEggs_45 : decode cX2_takeEggs 45 = .ok (.iload_n 2, 1) := by decide +kernel
theorem dX2_takeEggs_46 : decode cX2_takeEggs 46 = .ok (.ireturn, 1) := by decide +kernel
theorem dX2_emptyNest_0 : decode cX2_emptyNest 0 = .ok (.iconst 0, 1) := by decide +kernel
theorem dX2_emptyNest_1 : decode cX2_emptyNest 1 = .ok (.istore_n 2, 1) := by decide +kernel
theorem dX2_emptyNest_2 : decode cX2_emptyNest 2 = .ok (.iload_n 1, 1) := by decide +kernel
theorem dX2_emptyNest_3 : decode cX2_emptyNest 3 = .ok (.iconst 1, 1) := by decide +kernel
theorem dX2_emptyNest_4 : decode cX2_emptyNest 4 = .ok (.iadd, 1) := by decide +kernel
theorem dX2_emptyNest_5 : decode cX2_emptyNest 5 = .ok (.bipush 10, 2) := by decide +kernel
theorem dX2_emptyNest_7 : decode cX2_emptyNest 7 = .ok (.imul, 1) := by decide +kernel
theorem dX2_emptyNest_8 : decode cX2_emptyNest 8 = .ok (.istore_n 3, 1) := by decide +kernel
theorem dX2_emptyNest_9 : decode cX2_emptyNest 9 = .ok (.iload_n 1, 1) := by decide +kernel
theorem dX2_emptyNest_10 : decode cX2_emptyNest 10 = .ok (.bipush 10, 2) := by decide +kernel
theorem dX2_emptyNest_12 : decode cX2_emptyNest 12 = .ok (.imul, 1) := by decide +kernel
theorem dX2_emptyNest_13 : decode cX2_emptyNest 13 = .ok (.istore 4, 2) := by decide +kernel
theorem dX2_emptyNest_15 : decode cX2_emptyNest 15 = .ok (.iload 4, 2) := by decide +kernel
theorem dX2_emptyNest_17 : decode cX2_emptyNest 17 = .ok (.iload_n 3, 1) := by decide +kernel
theorem dX2_emptyNest_18 : decode cX2_emptyNest 18 = .ok (.if_icmp .ge 27, 3) := by decide +kernel
theorem dX2_emptyNest_21 : decode cX2_emptyNest 21 = .ok (.iload_n 2, 1) := by decide +kernel
theorem dX2_emptyNest_22 : decode cX2_emptyNest 22 = .ok (.aload_n 0, 1) := by decide +kernel
theorem dX2_emptyNest_23 : decode cX2_emptyNest 23 = .ok (.getfield 24, 3) := by decide +kernel
theorem dX2_emptyNest_26 : decode cX2_emptyNest 26 = .ok (.iload 4, 2) := by decide +kernel
theorem dX2_emptyNest_28 : decode cX2_emptyNest 28 = .ok (.iaload, 1) := by decide +kernel
theorem dX2_emptyNest_29 : decode cX2_emptyNest 29 = .ok (.iadd, 1) := by decide +kernel
theorem dX2_emptyNest_30 : decode cX2_emptyNest 30 = .ok (.istore_n 2, 1) := by decide +kernel
theorem dX2_emptyNest_31 : decode cX2_emptyNest 31 = .ok (.aload_n 0, 1) := by decide +kernel
theorem dX2_emptyNest_32 : decode cX2_emptyNest 32 = .ok (.getfield 24, 3) := by decide +kernel
theorem dX2_emptyNest_35 : decode cX2_emptyNest 35 = .ok (.iload 4, 2) := by decide +kernel
theorem dX2_emptyNest_37 : decode cX2_emptyNest 37 = .ok (.iconst 0, 1) := by decide +kernel
theorem dX2_emptyNest_38 : decode cX2_emptyNest 38 = .ok (.iastore, 1) := by decide +kernel
theorem dX2_emptyNest_39 : decode cX2_emptyNest 39 = .ok (.iinc 4 1, 3) := by decide +kernel
theorem dX2_emptyNest_42 : decode cX2_emptyNest 42 = .ok (.goto (-27), 3) := by decide +kernel
theorem dX2_emptyNest_45 : decode cX2_emptyNest 45 = .ok (.iload_n 2, 1) := by decide +kernel
theorem dX2_emptyNest_46 : decode cX2_emptyNest 46 = .ok (.ireturn, 1) := by decide +kernel
theorem dX2_mayAmong_0 : decode cX2_mayAmong 0 = .ok (.iload_n 1, 1) := by decide +kernel
theorem dX2_mayAmong_1 : decode cX2_mayAmong 1 = .ok (.aload_n 0, 1) := by decide +kernel
theorem dX2_mayAmong_2 : decode cX2_mayAmong 2 = .ok (.getfield 56, 3) := by decide +kernel
theorem dX2_mayAmong_5 : decode cX2_mayAmong 5 = .ok (.iconst (-1), 1) := by decide +kernel
theorem dX2_mayAmong_6 : decode cX2_mayAmong 6 = .ok (.ixor, 1) := by decide +kernel
theorem dX2_mayAmong_7 : decode cX2_mayAmong 7 = .ok (.iand, 1) := by decide +kernel
theorem dX2_mayAmong_8 : decode cX2_mayAmong 8 = .ok (.istore_n 2, 1) := by decide +kernel
theorem dX2_mayAmong_9 : decode cX2_mayAmong 9 = .ok (.iload_n 2, 1) := by decide +kernel
theorem dX2_mayAmong_10 : decode cX2_mayAmong 10 = .ok (.ifCond .eq 7, 3) := by decide +kernel
theorem dX2_mayAmong_13 : decode cX2_mayAmong 13 = .ok (.iload_n 2, 1) := by decide +kernel
theorem dX2_mayAmong_14 : decode cX2_mayAmong 14 = .ok (.goto 4, 3) := by decide +kernel
theorem dX2_mayAmong_17 : decode cX2_mayAmong 17 = .ok (.iload_n 1, 1) := by decide +kernel
theorem dX2_mayAmong_18 : decode cX2_mayAmong 18 = .ok (.ireturn, 1) := by decide +kernel
theorem dX2_weigh_0 : decode cX2_weigh 0 = .ok (.iconst 0, 1) := by decide +kernel
theorem dX2_weigh_1 : decode cX2_weigh 1 = .ok (.istore_n 2, 1) := by decide +kernel
theorem dX2_weigh_2 : decode cX2_weigh 2 = .ok (.iconst 0, 1) := by decide +kernel
theorem dX2_weigh_3 : decode cX2_weigh 3 = .ok (.istore_n 3, 1) := by decide +kernel
theorem dX2_weigh_4 : decode cX2_weigh 4 = .ok (.iload_n 3, 1) := by decide +kernel
theorem dX2_weigh_5 : decode cX2_weigh 5 = .ok (.aload_n 0, 1) := by decide +kernel
theorem dX2_weigh_6 : decode cX2_weigh 6 = .ok (.getfield 43, 3) := by decide +kernel
theorem dX2_weigh_9 : decode cX2_weigh 9 = .ok (.if_icmp .ge 42, 3) := by decide +kernel
theorem dX2_weigh_12 : decode cX2_weigh 12 = .ok (.aload_n 0, 1) := by decide +kernel
theorem dX2_weigh_13 : decode cX2_weigh 13 = .ok (.getfield 30, 3) := by decide +kernel
theorem dX2_weigh_16 : decode cX2_weigh 16 = .ok (.iload_n 3, 1) := by decide +kernel
theorem dX2_weigh_17 : decode cX2_weigh 17 = .ok (.iload_n 1, 1) := by decide +kernel
theorem dX2_weigh_18 : decode cX2_weigh 18 = .ok (.iload_n 3, 1) := by decide +kernel
theorem dX2_weigh_19 : decode cX2_weigh 19 = .ok (.ishr, 1) := by decide +kernel
theorem dX2_weigh_20 : decode cX2_weigh 20 = .ok (.iconst 1, 1) := by decide +kernel
theorem dX2_weigh_21 : decode cX2_weigh 21 = .ok (.iand, 1) := by decide +kernel
theorem dX2_weigh_22 : decode cX2_weigh 22 = .ok (.iconst 1, 1) := by decide +kernel
theorem dX2_weigh_23 : decode cX2_weigh 23 = .ok (.if_icmp .ne 11, 3) := by decide +kernel
theorem dX2_weigh_26 : decode cX2_weigh 26 = .ok (.aload_n 0, 1) := by decide +kernel
theorem dX2_weigh_27 : decode cX2_weigh 27 = .ok (.iload_n 3, 1) := by decide +kernel
theorem dX2_weigh_28 : decode cX2_weigh 28 = .ok (.invokevirtual 78, 3) := by decide +kernel
theorem dX2_weigh_31 : decode cX2_weigh 31 = .ok (.goto 4, 3) := by decide +kernel
theorem dX2_weigh_34 : decode cX2_weigh 34 = .ok (.iconst 0, 1) := by decide +kernel
theorem dX2_weigh_35 : decode cX2_weigh 35 = .ok (.iastore, 1) := by decide +kernel
theorem dX2_weigh_36 : decode cX2_weigh 36 = .ok (.iload_n 2, 1) := by decide +kernel
theorem dX2_weigh_37 : decode cX2_weigh 37 = .ok (.aload_n 0, 1) := by decide +kernel
theorem dX2_weigh_38 : decode cX2_weigh 38 = .ok (.getfield 30, 3) := by decide +kernel
theorem dX2_weigh_41 : decode cX2_weigh 41 = .ok (.iload_n 3, 1) := by decide +kernel
theorem dX2_weigh_42 : decode cX2_weigh 42 = .ok (.iaload, 1) := by decide +kernel
theorem dX2_weigh_43 : decode cX2_weigh 43 = .ok (.iadd, 1) := by decide +kernel
theorem dX2_weigh_44 : decode cX2_weigh 44 = .ok (.istore_n 2, 1) := by decide +kernel
theorem dX2_weigh_45 : decode cX2_weigh 45 = .ok (.iinc 3 1, 3) := by decide +kernel
theorem dX2_weigh_48 : decode cX2_weigh 48 = .ok (.goto (-44), 3) := by decide +kernel
theorem dX2_weigh_51 : decode cX2_weigh 51 = .ok (.iload_n 2, 1) := by decide +kernel
theorem dX2_weigh_52 : decode cX2_weigh 52 = .ok (.ifCond .le 7, 3) := by decide +kernel
theorem dX2_weigh_55 : decode cX2_weigh 55 = .ok (.iload_n 2, 1) := by decide +kernel
theorem dX2_weigh_56 : decode cX2_weigh 56 = .ok (.goto 8, 3) := by decide +kernel
theorem dX2_weigh_59 : decode cX2_weigh 59 = .ok (.aload_n 0, 1) := by decide +kernel
theorem dX2_weigh_60 : decode cX2_weigh 60 = .ok (.iload_n 1, 1) := by decide +kernel
theorem dX2_weigh_61 : decode cX2_weigh 61 = .ok (.invokevirtual 81, 3) := by decide +kernel
theorem dX2_weigh_64 : decode cX2_weigh 64 = .ok (.ireturn, 1) := by decide +kernel
theorem dX2_weighAlike_0 : decode cX2_weighAlike 0 = .ok (.iconst 0, 1) := by decide +kernel
theorem dX2_weighAlike_1 : decode cX2_weighAlike 1 = .ok (.istore_n 2, 1) := by decide +kernel
theorem dX2_weighAlike_2 : decode cX2_weighAlike 2 = .ok (.iload_n 2, 1) := by decide +kernel
theorem dX2_weighAlike_3 : decode cX2_weighAlike 3 = .ok (.aload_n 0, 1) := by decide +kernel
theorem dX2_weighAlike_4 : decode cX2_weighAlike 4 = .ok (.getfield 43, 3) := by decide +kernel
theorem dX2_weighAlike_7 : decode cX2_weighAlike 7 = .ok (.if_icmp .ge 20, 3) := by decide +kernel
theorem dX2_weighAlike_10 : decode cX2_weighAlike 10 = .ok (.aload_n 0, 1) := by decide +kernel
theorem dX2_weighAlike_11 : decode cX2_weighAlike 11 = .ok (.getfield 30, 3) := by decide +kernel
theorem dX2_weighAlike_14 : decode cX2_weighAlike 14 = .ok (.iload_n 2, 1) := by decide +kernel
theorem dX2_weighAlike_15 : decode cX2_weighAlike 15 = .ok (.iload_n 1, 1) := by decide +kernel
theorem dX2_weighAlike_16 : decode cX2_weighAlike 16 = .ok (.iload_n 2, 1) := by decide +kernel
theorem dX2_weighAlike_17 : decode cX2_weighAlike 17 = .ok (.ishr, 1) := by decide +kernel
theorem dX2_weighAlike_18 : decode cX2_weighAlike 18 = .ok (.iconst 1, 1) := by decide +kernel
theorem dX2_weighAlike_19 : decode cX2_weighAlike 19 = .ok (.iand, 1) := by decide +kernel
theorem dX2_weighAlike_20 : decode cX2_weighAlike 20 = .ok (.iastore, 1) := by decide +kernel
theorem dX2_weighAlike_21 : decode cX2_weighAlike 21 = .ok (.iinc 2 1, 3) := by decide +kernel
theorem dX2_weighAlike_24 : decode cX2_weighAlike 24 = .ok (.goto (-22), 3) := by decide +kernel
theorem dX2_weighAlike_27 : decode cX2_weighAlike 27 = .ok (.iload_n 1, 1) := by decide +kernel
theorem dX2_weighAlike_28 : decode cX2_weighAlike 28 = .ok (.invokestatic 84, 3) := by decide +kernel
theorem dX2_weighAlike_31 : decode cX2_weighAlike 31 = .ok (.ireturn, 1) := by decide +kernel
theorem dX2_weightOf_0 : decode cX2_weightOf 0 = .ok (.aload_n 0, 1) := by decide +kernel
theorem dX2_weightOf_1 : decode cX2_weightOf 1 = .ok (.getfield 33, 3) := by decide +kernel
theorem dX2_weightOf_4 : decode cX2_weightOf 4 = .ok (.ifCond .lt 21, 3) := by decide +kernel
theorem dX2_weightOf_7 : decode cX2_weightOf 7 = .ok (.aload_n 0, 1) := by decide +kernel
theorem dX2_weightOf_8 : decode cX2_weightOf 8 = .ok (.getfield 33, 3) := by decide +kernel
theorem dX2_weightOf_11 : decode cX2_weightOf 11 = .ok (.aload_n 0, 1) := by decide +kernel
theorem dX2_weightOf_12 : decode cX2_weightOf 12 = .ok (.getfield 43, 3) := by decide +kernel
theorem dX2_weightOf_15 : decode cX2_weightOf 15 = .ok (.if_icmp .ge 10, 3) := by decide +kernel
theorem dX2_weightOf_18 : decode cX2_weightOf 18 = .ok (.aload_n 0, 1) := by decide +kernel
theorem dX2_weightOf_19 : decode cX2_weightOf 19 = .ok (.getfield 33, 3) := by decide +kernel
theorem dX2_weightOf_22 : decode cX2_weightOf 22 = .ok (.goto 4, 3) := by decide +kernel
theorem dX2_weightOf_25 : decode cX2_weightOf 25 = .ok (.iconst 0, 1) := by decide +kernel
theorem dX2_weightOf_26 : decode cX2_weightOf 26 = .ok (.istore_n 2, 1) := by decide +kernel
theorem dX2_weightOf_27 : decode cX2_weightOf 27 = .ok (.bipush 20, 2) := by decide +kernel
theorem dX2_weightOf_29 : decode cX2_weightOf 29 = .ok (.aload_n 0, 1) := by decide +kernel
theorem dX2_weightOf_30 : decode cX2_weightOf 30 = .ok (.getfield 9, 3) := by decide +kernel
theorem dX2_weightOf_33 : decode cX2_weightOf 33 = .ok (.iload_n 1, 1) := by decide +kernel
theorem dX2_weightOf_34 : decode cX2_weightOf 34 = .ok (.iaload, 1) := by decide +kernel
theorem dX2_weightOf_35 : decode cX2_weightOf 35 = .ok (.aload_n 0, 1) := by decide +kernel
theorem dX2_weightOf_36 : decode cX2_weightOf 36 = .ok (.getfield 9, 3) := by decide +kernel
theorem dX2_weightOf_39 : decode cX2_weightOf 39 = .ok (.iload_n 2, 1) := by decide +kernel
theorem dX2_weightOf_40 : decode cX2_weightOf 40 = .ok (.iaload, 1) := by decide +kernel
theorem dX2_weightOf_41 : decode cX2_weightOf 41 = .ok (.isub, 1) := by decide +kernel
theorem dX2_weightOf_42 : decode cX2_weightOf 42 = .ok (.invokestatic 89, 3) := by decide +kernel
theorem dX2_weightOf_45 : decode cX2_weightOf 45 = .ok (.isub, 1) := by decide +kernel
theorem dX2_weightOf_46 : decode cX2_weightOf 46 = .ok (.aload_n 0, 1) := by decide +kernel
theorem dX2_weightOf_47 : decode cX2_weightOf 47 = .ok (.getfield 15, 3) := by decide +kernel
theorem dX2_weightOf_50 : decode cX2_weightOf 50 = .ok (.iload_n 1, 1) := by decide +kernel
theorem dX2_weightOf_51 : decode cX2_weightOf 51 = .ok (.iaload, 1) := by decide +kernel
theorem dX2_weightOf_52 : decode cX2_weightOf 52 = .ok (.aload_n 0, 1) := by decide +kernel
theorem dX2_weightOf_53 : decode cX2_weightOf 53 = .ok (.getfield 15, 3) := by decide +kernel
theorem dX2_weightOf_56 : decode cX2_weightOf 56 = .ok (.iload_n 2, 1) := by decide +kernel
theorem dX2_weightOf_57 : decode cX2_weightOf 57 = .ok (.iaload, 1) := by decide +kernel
theorem dX2_weightOf_58 : decode cX2_weightOf 58 = .ok (.isub, 1) := by decide +kernel
theorem dX2_weightOf_59 : decode cX2_weightOf 59 = .ok (.invokestatic 89, 3) := by decide +kernel
theorem dX2_weightOf_62 : decode cX2_weightOf 62 = .ok (.isub, 1) := by decide +kernel
theorem dX2_weightOf_63 : decode cX2_weightOf 63 = .ok (.istore_n 3, 1) := by decide +kernel
theorem dX2_weightOf_64 : decode cX2_weightOf 64 = .ok (.iload_n 1, 1) := by decide +kernel
theorem dX2_weightOf_65 : decode cX2_weightOf 65 = .ok (.aload_n 0, 1) := by decide +kernel
theorem dX2_weightOf_66 : decode cX2_weightOf 66 = .ok (.getfield 33, 3) := by decide +kernel
theorem dX2_weightOf_69 : decode cX2_weightOf 69 = .ok (.if_icmp .ne 7, 3) := by decide +kernel
theorem dX2_weightOf_72 : decode cX2_weightOf 72 = .ok (.iconst 0, 1) := by decide +kernel
theorem dX2_weightOf_73 : decode cX2_weightOf 73 = .ok (.goto 4, 3) := by decide +kernel
theorem dX2_weightOf_76 : decode cX2_weightOf 76 = .ok (.iload_n 3, 1) := by decide +kernel
theorem dX2_weightOf_77 : decode cX2_weightOf 77 = .ok (.istore 4, 2) := by decide +kernel
theorem dX2_weightOf_79 : decode cX2_weightOf 79 = .ok (.aload_n 0, 1) := by decide +kernel
theorem dX2_weightOf_80 : decode cX2_weightOf 80 = .ok (.getfield 27, 3) := by decide +kernel
theorem dX2_weightOf_83 : decode cX2_weightOf 83 = .ok (.iconst 0, 1) := by decide +kernel
theorem dX2_weightOf_84 : decode cX2_weightOf 84 = .ok (.iaload, 1) := by decide +kernel
theorem dX2_weightOf_85 : decode cX2_weightOf 85 = .ok (.tableswitch 94 1 5 #[35, 42, 44, 47, 70], 35) := by decide +kernel
theorem dX2_weightOf_120 : decode cX2_weightOf 120 = .ok (.aload_n 0, 1) := by decide +kernel
theorem dX2_weightOf_121 : decode cX2_weightOf 121 = .ok (.getfield 21, 3) := by decide +kernel
theorem dX2_weightOf_124 : decode cX2_weightOf 124 = .ok (.iload_n 1, 1) := by decide +kernel
theorem dX2_weightOf_125 : decode cX2_weightOf 125 = .ok (.iaload, 1) := by decide +kernel
theorem dX2_weightOf_126 : decode cX2_weightOf 126 = .ok (.ireturn, 1) := by decide +kernel
theorem dX2_weightOf_127 : decode cX2_weightOf 127 = .ok (.iconst 1, 1) := by decide +kernel
theorem dX2_weightOf_128 : decode cX2_weightOf 128 = .ok (.ireturn, 1) := by decide +kernel
theorem dX2_weightOf_129 : decode cX2_weightOf 129 = .ok (.iload 4, 2) := by decide +kernel
theorem dX2_weightOf_131 : decode cX2_weightOf 131 = .ok (.ireturn, 1) := by decide +kernel
theorem dX2_weightOf_132 : decode cX2_weightOf 132 = .ok (.iload 4, 2) := by decide +kernel
theorem dX2_weightOf_134 : decode cX2_weightOf 134 = .ok (.aload_n 0, 1) := by decide +kernel
theorem dX2_weightOf_135 : decode cX2_weightOf 135 = .ok (.getfield 27, 3) := by decide +kernel
theorem dX2_weightOf_138 : decode cX2_weightOf 138 = .ok (.iconst 1, 1) := by decide +kernel
theorem dX2_weightOf_139 : decode cX2_weightOf 139 = .ok (.iaload, 1) := by decide +kernel
theorem dX2_weightOf_140 : decode cX2_weightOf 140 = .ok (.iconst 0, 1) := by decide +kernel
theorem dX2_weightOf_141 : decode cX2_weightOf 141 = .ok (.bipush 9, 2) := by decide +kernel
theorem dX2_weightOf_143 : decode cX2_weightOf 143 = .ok (.aload_n 0, 1) := by decide +kernel
theorem dX2_weightOf_144 : decode cX2_weightOf 144 = .ok (.iload_n 1, 1) := by decide +kernel
theorem dX2_weightOf_145 : decode cX2_weightOf 145 = .ok (.invokevirtual 68, 3) := by decide +kernel
theorem dX2_weightOf_148 : decode cX2_weightOf 148 = .ok (.isub, 1) := by decide +kernel
theorem dX2_weightOf_149 : decode cX2_weightOf 149 = .ok (.invokestatic 94, 3) := by decide +kernel
theorem dX2_weightOf_152 : decode cX2_weightOf 152 = .ok (.imul, 1) := by decide +kernel
theorem dX2_weightOf_153 : decode cX2_weightOf 153 = .ok (.iadd, 1) := by decide +kernel
theorem dX2_weightOf_154 : decode cX2_weightOf 154 = .ok (.ireturn, 1) := by decide +kernel
theorem dX2_weightOf_155 : decode cX2_weightOf 155 = .ok (.aload_n 0, 1) := by decide +kernel
theorem dX2_weightOf_156 : decode cX2_weightOf 156 = .ok (.getfield 21, 3) := by decide +kernel
theorem dX2_weightOf_159 : decode cX2_weightOf 159 = .ok (.iload_n 1, 1) := by decide +kernel
theorem dX2_weightOf_160 : decode cX2_weightOf 160 = .ok (.iaload, 1) := by decide +kernel
theorem dX2_weightOf_161 : decode cX2_weightOf 161 = .ok (.iload_n 1, 1) := by decide +kernel
theorem dX2_weightOf_162 : decode cX2_weightOf 162 = .ok (.aload_n 0, 1) := by decide +kernel
theorem dX2_weightOf_163 : decode cX2_weightOf 163 = .ok (.getfield 27, 3) := by decide +kernel
theorem dX2_weightOf_166 : decode cX2_weightOf 166 = .ok (.iconst 1, 1) := by decide +kernel
theorem dX2_weightOf_167 : decode cX2_weightOf 167 = .ok (.iaload, 1) := by decide +kernel
theorem dX2_weightOf_168 : decode cX2_weightOf 168 = .ok (.if_icmp .ne 8, 3) := by decide +kernel
theorem dX2_weightOf_171 : decode cX2_weightOf 171 = .ok (.bipush 10, 2) := by decide +kernel
theorem dX2_weightOf_173 : decode cX2_weightOf 173 = .ok (.goto 4, 3) := by decide +kernel
theorem dX2_weightOf_176 : decode cX2_weightOf 176 = .ok (.iconst 0, 1) := by decide +kernel
theorem dX2_weightOf_177 : decode cX2_weightOf 177 = .ok (.iadd, 1) := by decide +kernel
theorem dX2_weightOf_178 : decode cX2_weightOf 178 = .ok (.ireturn, 1) := by decide +kernel
theorem dX2_weightOf_179 : decode cX2_weightOf 179 = .ok (.iload_n 3, 1) := by decide +kernel
theorem dX2_weightOf_180 : decode cX2_weightOf 180 = .ok (.ireturn, 1) := by decide +kernel
theorem dX2_laysAmong_0 : decode cX2_laysAmong 0 = .ok (.aload_n 0, 1) := by decide +kernel
theorem dX2_laysAmong_1 : decode cX2_laysAmong 1 = .ok (.iload_n 1, 1) := by decide +kernel
theorem dX2_laysAmong_2 : decode cX2_laysAmong 2 = .ok (.invokevirtual 98, 3) := by decide +kernel
theorem dX2_laysAmong_5 : decode cX2_laysAmong 5 = .ok (.istore_n 2, 1) := by decide +kernel
theorem dX2_laysAmong_6 : decode cX2_laysAmong 6 = .ok (.aload_n 0, 1) := by decide +kernel
theorem dX2_laysAmong_7 : decode cX2_laysAmong 7 = .ok (.getfield 27, 3) := by decide +kernel
theorem dX2_laysAmong_10 : decode cX2_laysAmong 10 = .ok (.iconst 0, 1) := by decide +kernel
theorem dX2_laysAmong_11 : decode cX2_laysAmong 11 = .ok (.iaload, 1) := by decide +kernel
theorem dX2_laysAmong_12 : decode cX2_laysAmong 12 = .ok (.iconst 2, 1) := by decide +kernel
theorem dX2_laysAmong_13 : decode cX2_laysAmong 13 = .ok (.if_icmp .ne 9, 3) := by decide +kernel
theorem dX2_laysAmong_16 : decode cX2_laysAmong 16 = .ok (.aload_n 0, 1) := by decide +kernel
theorem dX2_laysAmong_17 : decode cX2_laysAmong 17 = .ok (.iload_n 2, 1) := by decide +kernel
theorem dX2_laysAmong_18 : decode cX2_laysAmong 18 = .ok (.invokevirtual 101, 3) := by decide +kernel
theorem dX2_laysAmong_21 : decode cX2_laysAmong 21 = .ok (.ireturn, 1) := by decide +kernel
theorem dX2_laysAmong_22 : decode cX2_laysAmong 22 = .ok (.aload_n 0, 1) := by decide +kernel
theorem dX2_laysAmong_23 : decode cX2_laysAmong 23 = .ok (.iload_n 2, 1) := by decide +kernel
theorem dX2_laysAmong_24 : decode cX2_laysAmong 24 = .ok (.invokevirtual 104, 3) := by decide +kernel
theorem dX2_laysAmong_27 : decode cX2_laysAmong 27 = .ok (.pop, 1) := by decide +kernel
theorem dX2_laysAmong_28 : decode cX2_laysAmong 28 = .ok (.bipush (-9), 2) := by decide +kernel
theorem dX2_laysAmong_30 : decode cX2_laysAmong 30 = .ok (.istore_n 3, 1) := by decide +kernel
theorem dX2_laysAmong_31 : decode cX2_laysAmong 31 = .ok (.iconst 0, 1) := by decide +kernel
theorem dX2_laysAmong_32 : decode cX2_laysAmong 32 = .ok (.istore 4, 2) := by decide +kernel
theorem dX2_laysAmong_34 : decode cX2_laysAmong 34 = .ok (.iconst 0, 1) := by decide +kernel
theorem dX2_laysAmong_35 : decode cX2_laysAmong 35 = .ok (.istore 5, 2) := by decide +kernel
theorem dX2_laysAmong_37 : decode cX2_laysAmong 37 = .ok (.iload 5, 2) := by decide +kernel
theorem dX2_laysAmong_39 : decode cX2_laysAmong 39 = .ok (.aload_n 0, 1) := by decide +kernel
theorem dX2_laysAmong_40 : decode cX2_laysAmong 40 = .ok (.getfield 43, 3) := by decide +kernel
theorem dX2_laysAmong_43 : decode cX2_laysAmong 43 = .ok (.if_icmp .ge 33, 3) := by decide +kernel
theorem dX2_laysAmong_46 : decode cX2_laysAmong 46 = .ok (.aload_n 0, 1) := by decide +kernel
theorem dX2_laysAmong_47 : decode cX2_laysAmong 47 = .ok (.getfield 30, 3) := by decide +kernel
theorem dX2_laysAmong_50 : decode cX2_laysAmong 50 = .ok (.iload 5, 2) := by decide +kernel
theorem dX2_laysAmong_52 : decode cX2_laysAmong 52 = .ok (.iaload, 1) := by decide +kernel
theorem dX2_laysAmong_53 : decode cX2_laysAmong 53 = .ok (.iload 4, 2) := by decide +kernel
theorem dX2_laysAmong_55 : decode cX2_laysAmong 55 = .ok (.if_icmp .le 15, 3) := by decide +kernel
theorem dX2_laysAmong_58 : decode cX2_laysAmong 58 = .ok (.aload_n 0, 1) := by decide +kernel
theorem dX2_laysAmong_59 : decode cX2_laysAmong 59 = .ok (.getfield 30, 3) := by decide +kernel
theorem dX2_laysAmong_62 : decode cX2_laysAmong 62 = .ok (.iload 5, 2) := by decide +kernel
theorem dX2_laysAmong_64 : decode cX2_laysAmong 64 = .ok (.iaload, 1) := by decide +kernel
theorem dX2_laysAmong_65 : decode cX2_laysAmong 65 = .ok (.istore 4, 2) := by decide +kernel
theorem dX2_laysAmong_67 : decode cX2_laysAmong 67 = .ok (.iload 5, 2) := by decide +kernel
theorem dX2_laysAmong_69 : decode cX2_laysAmong 69 = .ok (.istore_n 3, 1) := by decide +kernel
theorem dX2_laysAmong_70 : decode cX2_laysAmong 70 = .ok (.iinc 5 1, 3) := by decide +kernel
theorem dX2_laysAmong_73 : decode cX2_laysAmong 73 = .ok (.goto (-36), 3) := by decide +kernel
theorem dX2_laysAmong_76 : decode cX2_laysAmong 76 = .ok (.iload_n 3, 1) := by decide +kernel
theorem dX2_laysAmong_77 : decode cX2_laysAmong 77 = .ok (.ireturn, 1) := by decide +kernel
theorem dX2_nestByLot_0 : decode cX2_nestByLot 0 = .ok (.iload_n 1, 1) := by decide +kernel
theorem dX2_nestByLot_1 : decode cX2_nestByLot 1 = .ok (.invokestatic 84, 3) := by decide +kernel
theorem dX2_nestByLot_4 : decode cX2_nestByLot 4 = .ok (.istore_n 2, 1) := by decide +kernel
theorem dX2_nestByLot_5 : decode cX2_nestByLot 5 = .ok (.iload_n 2, 1) := by decide +kernel
theorem dX2_nestByLot_6 : decode cX2_nestByLot 6 = .ok (.ifCond .ne 6, 3) := by decide +kernel
theorem dX2_nestByLot_9 : decode cX2_nestByLot 9 = .ok (.bipush (-9), 2) := by decide +kernel
theorem dX2_nestByLot_11 : decode cX2_nestByLot 11 = .ok (.ireturn, 1) := by decide +kernel
theorem dX2_nestByLot_12 : decode cX2_nestByLot 12 = .ok (.aload_n 0, 1) := by decide +kernel
theorem dX2_nestByLot_13 : decode cX2_nestByLot 13 = .ok (.getfield 59, 3) := by decide +kernel
theorem dX2_nestByLot_16 : decode cX2_nestByLot 16 = .ok (.aload_n 0, 1) := by decide +kernel
theorem dX2_nestByLot_17 : decode cX2_nestByLot 17 = .ok (.getfield 27, 3) := by decide +kernel
theorem dX2_nestByLot_20 : decode cX2_nestByLot 20 = .ok (.iconst 1, 1) := by decide +kernel
theorem dX2_nestByLot_21 : decode cX2_nestByLot 21 = .ok (.iaload, 1) := by decide +kernel
theorem dX2_nestByLot_22 : decode cX2_nestByLot 22 = .ok (.iconst 1, 1) := by decide +kernel
theorem dX2_nestByLot_23 : decode cX2_nestByLot 23 = .ok (.iadd, 1) := by decide +kernel
theorem dX2_nestByLot_24 : decode cX2_nestByLot 24 = .ok (.imul, 1) := by decide +kernel
theorem dX2_nestByLot_25 : decode cX2_nestByLot 25 = .ok (.iload_n 2, 1) := by decide +kernel
theorem dX2_nestByLot_26 : decode cX2_nestByLot 26 = .ok (.irem, 1) := by decide +kernel
theorem dX2_nestByLot_27 : decode cX2_nestByLot 27 = .ok (.istore_n 3, 1) := by decide +kernel
theorem dX2_nestByLot_28 : decode cX2_nestByLot 28 = .ok (.iconst 0, 1) := by decide +kernel
theorem dX2_nestByLot_29 : decode cX2_nestByLot 29 = .ok (.istore 4, 2) := by decide +kernel
theorem dX2_nestByLot_31 : decode cX2_nestByLot 31 = .ok (.iload 4, 2) := by decide +kernel
theorem dX2_nestByLot_33 : decode cX2_nestByLot 33 = .ok (.aload_n 0, 1) := by decide +kernel
theorem dX2_nestByLot_34 : decode cX2_nestByLot 34 = .ok (.getfield 43, 3) := by decide +kernel
theorem dX2_nestByLot_37 : decode cX2_nestByLot 37 = .ok (.if_icmp .ge 29, 3) := by decide +kernel
theorem dX2_nestByLot_40 : decode cX2_nestByLot 40 = .ok (.iload_n 1, 1) := by decide +kernel
theorem dX2_nestByLot_41 : decode cX2_nestByLot 41 = .ok (.iload 4, 2) := by decide +kernel
theorem dX2_nestByLot_43 : decode cX2_nestByLot 43 = .ok (.ishr, 1) := by decide +kernel
theorem dX2_nestByLot_44 : decode cX2_nestByLot 44 = .ok (.iconst 1, 1) := by decide +kernel
theorem dX2_nestByLot_45 : decode cX2_nestByLot 45 = .ok (.iand, 1) := by decide +kernel
theorem dX2_nestByLot_46 : decode cX2_nestByLot 46 = .ok (.iconst 1, 1) := by decide +kernel
theorem dX2_nestByLot_47 : decode cX2_nestByLot 47 = .ok (.if_icmp .ne 13, 3) := by decide +kernel
theorem dX2_nestByLot_50 : decode cX2_nestByLot 50 = .ok (.iload_n 3, 1) := by decide +kernel
theorem dX2_nestByLot_51 : decode cX2_nestByLot 51 = .ok (.ifCond .ne 6, 3) := by decide +kernel
theorem dX2_nestByLot_54 : decode cX2_nestByLot 54 = .ok (.iload 4, 2) := by decide +kernel
theorem dX2_nestByLot_56 : decode cX2_nestByLot 56 = .ok (.ireturn, 1) := by decide +kernel
theorem dX2_nestByLot_57 : decode cX2_nestByLot 57 = .ok (.iinc 3 (-1), 3) := by decide +kernel
theorem dX2_nestByLot_60 : decode cX2_nestByLot 60 = .ok (.iinc 4 1, 3) := by decide +kernel
theorem dX2_nestByLot_63 : decode cX2_nestByLot 63 = .ok (.goto (-32), 3) := by decide +kernel
theorem dX2_nestByLot_66 : decode cX2_nestByLot 66 = .ok (.bipush (-9), 2) := by decide +kernel
theorem dX2_nestByLot_68 : decode cX2_nestByLot 68 = .ok (.ireturn, 1) := by decide +kernel
theorem dX2_nestAtWeight_0 : decode cX2_nestAtWeight 0 = .ok (.iload_n 1, 1) := by decide +kernel
theorem dX2_nestAtWeight_1 : decode cX2_nestAtWeight 1 = .ok (.istore_n 2, 1) := by decide +kernel
theorem dX2_nestAtWeight_2 : decode cX2_nestAtWeight 2 = .ok (.iconst 0, 1) := by decide +kernel
theorem dX2_nestAtWeight_3 : decode cX2_nestAtWeight 3 = .ok (.istore_n 3, 1) := by decide +kernel
theorem dX2_nestAtWeight_4 : decode cX2_nestAtWeight 4 = .ok (.iload_n 3, 1) := by decide +kernel
theorem dX2_nestAtWeight_5 : decode cX2_nestAtWeight 5 = .ok (.aload_n 0, 1) := by decide +kernel
theorem dX2_nestAtWeight_6 : decode cX2_nestAtWeight 6 = .ok (.getfield 43, 3) := by decide +kernel
theorem dX2_nestAtWeight_9 : decode cX2_nestAtWeight 9 = .ok (.if_icmp .ge 30, 3) := by decide +kernel
theorem dX2_nestAtWeight_12 : decode cX2_nestAtWeight 12 = .ok (.iload_n 2, 1) := by decide +kernel
theorem dX2_nestAtWeight_13 : decode cX2_nestAtWeight 13 = .ok (.aload_n 0, 1) := by decide +kernel
theorem dX2_nestAtWeight_14 : decode cX2_nestAtWeight 14 = .ok (.getfield 30, 3) := by decide +kernel
theorem dX2_nestAtWeight_17 : decode cX2_nestAtWeight 17 = .ok (.iload_n 3, 1) := by decide +kernel
theorem dX2_nestAtWeight_18 : decode cX2_nestAtWeight 18 = .ok (.iaload, 1) := by decide +kernel
theorem dX2_nestAtWeight_19 : decode cX2_nestAtWeight 19 = .ok (.if_icmp .ge 5, 3) := by decide +kernel
theorem dX2_nestAtWeight_22 : decode cX2_nestAtWeight 22 = .ok (.iload_n 3, 1) := by decide +kernel
theorem dX2_nestAtWeight_23 : decode cX2_nestAtWeight 23 = .ok (.ireturn, 1) := by decide +kernel
theorem dX2_nestAtWeight_24 : decode cX2_nestAtWeight 24 = .ok (.iload_n 2, 1) := by decide +kernel
theorem dX2_nestAtWeight_25 : decode cX2_nestAtWeight 25 = .ok (.aload_n 0, 1) := by decide +kernel
theorem dX2_nestAtWeight_26 : decode cX2_nestAtWeight 26 = .ok (.getfield 30, 3) := by decide +kernel
theorem dX2_nestAtWeight_29 : decode cX2_nestAtWeight 29 = .ok (.iload_n 3, 1) := by decide +kernel
theorem dX2_nestAtWeight_30 : decode cX2_nestAtWeight 30 = .ok (.iaload, 1) := by decide +kernel
theorem dX2_nestAtWeight_31 : decode cX2_nestAtWeight 31 = .ok (.isub, 1) := by decide +kernel
theorem dX2_nestAtWeight_32 : decode cX2_nestAtWeight 32 = .ok (.istore_n 2, 1) := by decide +kernel
theorem dX2_nestAtWeight_33 : decode cX2_nestAtWeight 33 = .ok (.iinc 3 1, 3) := by decide +kernel
theorem dX2_nestAtWeight_36 : decode cX2_nestAtWeight 36 = .ok (.goto (-32), 3) := by decide +kernel
theorem dX2_nestAtWeight_39 : decode cX2_nestAtWeight 39 = .ok (.bipush (-9), 2) := by decide +kernel
theorem dX2_nestAtWeight_41 : decode cX2_nestAtWeight 41 = .ok (.ireturn, 1) := by decide +kernel
theorem dX2_passNight_0 : decode cX2_passNight 0 = .ok (.iconst 0, 1) := by decide +kernel
theorem dX2_passNight_1 : decode cX2_passNight 1 = .ok (.istore_n 2, 1) := by decide +kernel
theorem dX2_passNight_2 : decode cX2_passNight 2 = .ok (.iload_n 2, 1) := by decide +kernel
theorem dX2_passNight_3 : decode cX2_passNight 3 = .ok (.aload_n 0, 1) := by decide +kernel
theorem dX2_passNight_4 : decode cX2_passNight 4 = .ok (.getfield 43, 3) := by decide +kernel
theorem dX2_passNight_7 : decode cX2_passNight 7 = .ok (.if_icmp .ge 17, 3) := by decide +kernel
theorem dX2_passNight_10 : decode cX2_passNight 10 = .ok (.aload_n 0, 1) := by decide +kernel
theorem dX2_passNight_11 : decode cX2_passNight 11 = .ok (.iload_n 2, 1) := by decide +kernel
theorem dX2_passNight_12 : decode cX2_passNight 12 = .ok (.bipush 10, 2) := by decide +kernel
theorem dX2_passNight_14 : decode cX2_passNight 14 = .ok (.imul, 1) := by decide +kernel
theorem dX2_passNight_15 : decode cX2_passNight 15 = .ok (.invokevirtual 107, 3) := by decide +kernel
theorem dX2_passNight_18 : decode cX2_passNight 18 = .ok (.iinc 2 1, 3) := by decide +kernel
theorem dX2_passNight_21 : decode cX2_passNight 21 = .ok (.goto (-19), 3) := by decide +kernel
theorem dX2_passNight_24 : decode cX2_passNight 24 = .ok (.iload_n 1, 1) := by decide +kernel
theorem dX2_passNight_25 : decode cX2_passNight 25 = .ok (.ifCond .lt 26, 3) := by decide +kernel
theorem dX2_passNight_28 : decode cX2_passNight 28 = .ok (.iload_n 1, 1) := by decide +kernel
theorem dX2_passNight_29 : decode cX2_passNight 29 = .ok (.aload_n 0, 1) := by decide +kernel
theorem dX2_passNight_30 : decode cX2_passNight 30 = .ok (.getfield 43, 3) := by decide +kernel
theorem dX2_passNight_33 : decode cX2_passNight 33 = .ok (.if_icmp .ge 18, 3) := by decide +kernel
theorem dX2_passNight_36 : decode cX2_passNight 36 = .ok (.aload_n 0, 1) := by decide +kernel
theorem dX2_passNight_37 : decode cX2_passNight 37 = .ok (.getfield 24, 3) := by decide +kernel
theorem dX2_passNight_40 : decode cX2_passNight 40 = .ok (.iload_n 1, 1) := by decide +kernel
theorem dX2_passNight_41 : decode cX2_passNight 41 = .ok (.bipush 10, 2) := by decide +kernel
theorem dX2_passNight_43 : decode cX2_passNight 43 = .ok (.imul, 1) := by decide +kernel
theorem dX2_passNight_44 : decode cX2_passNight 44 = .ok (.iconst 1, 1) := by decide +kernel
theorem dX2_passNight_45 : decode cX2_passNight 45 = .ok (.iastore, 1) := by decide +kernel
theorem dX2_passNight_46 : decode cX2_passNight 46 = .ok (.aload_n 0, 1) := by decide +kernel
theorem dX2_passNight_47 : decode cX2_passNight 47 = .ok (.iload_n 1, 1) := by decide +kernel
theorem dX2_passNight_48 : decode cX2_passNight 48 = .ok (.putfield 33, 3) := by decide +kernel
theorem dX2_passNight_51 : decode cX2_passNight 51 = .ok (.aload_n 0, 1) := by decide +kernel
theorem dX2_passNight_52 : decode cX2_passNight 52 = .ok (.aload_n 0, 1) := by decide +kernel
theorem dX2_passNight_53 : decode cX2_passNight 53 = .ok (.getfield 56, 3) := by decide +kernel
theorem dX2_passNight_56 : decode cX2_passNight 56 = .ok (.putfield 46, 3) := by decide +kernel
theorem dX2_passNight_59 : decode cX2_passNight 59 = .ok (.aload_n 0, 1) := by decide +kernel
theorem dX2_passNight_60 : decode cX2_passNight 60 = .ok (.iconst 0, 1) := by decide +kernel
theorem dX2_passNight_61 : decode cX2_passNight 61 = .ok (.putfield 56, 3) := by decide +kernel
theorem dX2_passNight_64 : decode cX2_passNight 64 = .ok (.aload_n 0, 1) := by decide +kernel
theorem dX2_passNight_65 : decode cX2_passNight 65 = .ok (.dup, 1) := by decide +kernel
theorem dX2_passNight_66 : decode cX2_passNight 66 = .ok (.getfield 59, 3) := by decide +kernel
theorem dX2_passNight_69 : decode cX2_passNight 69 = .ok (.iconst 1, 1) := by decide +kernel
theorem dX2_passNight_70 : decode cX2_passNight 70 = .ok (.iadd, 1) := by decide +kernel
theorem dX2_passNight_71 : decode cX2_passNight 71 = .ok (.putfield 59, 3) := by decide +kernel
theorem dX2_passNight_74 : decode cX2_passNight 74 = .ok (.return_, 1) := by decide +kernel
theorem dX2_ageEggs_0 : decode cX2_ageEggs 0 = .ok (.bipush 9, 2) := by decide +kernel
theorem dX2_ageEggs_2 : decode cX2_ageEggs 2 = .ok (.istore_n 2, 1) := by decide +kernel
theorem dX2_ageEggs_3 : decode cX2_ageEggs 3 = .ok (.iload_n 2, 1) := by decide +kernel
theorem dX2_ageEggs_4 : decode cX2_ageEggs 4 = .ok (.ifCond .le 41, 3) := by decide +kernel
theorem dX2_ageEggs_7 : decode cX2_ageEggs 7 = .ok (.aload_n 0, 1) := by decide +kernel
theorem dX2_ageEggs_8 : decode cX2_ageEggs 8 = .ok (.getfield 24, 3) := by decide +kernel
theorem dX2_ageEggs_11 : decode cX2_ageEggs 11 = .ok (.iload_n 1, 1) := by decide +kernel
theorem dX2_ageEggs_12 : decode cX2_ageEggs 12 = .ok (.iload_n 2, 1) := by decide +kernel
theorem dX2_ageEggs_13 : decode cX2_ageEggs 13 = .ok (.iadd, 1) := by decide +kernel
theorem dX2_ageEggs_14 : decode cX2_ageEggs 14 = .ok (.iload_n 2, 1) := by decide +kernel
theorem dX2_ageEggs_15 : decode cX2_ageEggs 15 = .ok (.aload_n 0, 1) := by decide +kernel
theorem dX2_ageEggs_16 : decode cX2_ageEggs 16 = .ok (.getfield 27, 3) := by decide +kernel
theorem dX2_ageEggs_19 : decode cX2_ageEggs 19 = .ok (.iconst 3, 1) := by decide +kernel
theorem dX2_ageEggs_20 : decode cX2_ageEggs 20 = .ok (.iaload, 1) := by decide +kernel
theorem dX2_ageEggs_21 : decode cX2_ageEggs 21 = .ok (.if_icmp .ge 16, 3) := by decide +kernel
theorem dX2_ageEggs_24 : decode cX2_ageEggs 24 = .ok (.aload_n 0, 1) := by decide +kernel
theorem dX2_ageEggs_25 : decode cX2_ageEggs 25 = .ok (.getfield 24, 3) := by decide +kernel
theorem dX2_ageEggs_28 : decode cX2_ageEggs 28 = .ok (.iload_n 1, 1) := by decide +kernel
theorem dX2_ageEggs_29 : decode cX2_ageEggs 29 = .ok (.iload_n 2, 1) := by decide +kernel
theorem dX2_ageEggs_30 : decode cX2_ageEggs 30 = .ok (.iadd, 1) := by decide +kernel
theorem dX2_ageEggs_31 : decode cX2_ageEggs 31 = .ok (.iconst 1, 1) := by decide +kernel
theorem dX2_ageEggs_32 : decode cX2_ageEggs 32 = .ok (.isub, 1) := by decide +kernel
theorem dX2_ageEggs_33 : decode cX2_ageEggs 33 = .ok (.iaload, 1) := by decide +kernel
theorem dX2_ageEggs_34 : decode cX2_ageEggs 34 = .ok (.goto 4, 3) := by decide +kernel
theorem dX2_ageEggs_37 : decode cX2_ageEggs 37 = .ok (.iconst 0, 1) := by decide +kernel
theorem dX2_ageEggs_38 : decode cX2_ageEggs 38 = .ok (.iastore, 1) := by decide +kernel
theorem dX2_ageEggs_39 : decode cX2_ageEggs 39 = .ok (.iinc 2 (-1), 3) := by decide +kernel
theorem dX2_ageEggs_42 : decode cX2_ageEggs 42 = .ok (.goto (-39), 3) := by decide +kernel
theorem dX2_ageEggs_45 : decode cX2_ageEggs 45 = .ok (.aload_n 0, 1) := by decide +kernel
theorem dX2_ageEggs_46 : decode cX2_ageEggs 46 = .ok (.getfield 24, 3) := by decide +kernel
theorem dX2_ageEggs_49 : decode cX2_ageEggs 49 = .ok (.iload_n 1, 1) := by decide +kernel
theorem dX2_ageEggs_50 : decode cX2_ageEggs 50 = .ok (.iconst 0, 1) := by decide +kernel
theorem dX2_ageEggs_51 : decode cX2_ageEggs 51 = .ok (.iastore, 1) := by decide +kernel
theorem dX2_ageEggs_52 : decode cX2_ageEggs 52 = .ok (.return_, 1) := by decide +kernel
theorem dX3_init_0 : decode cX3_init 0 = .ok (.aload_n 0, 1) := by decide +kernel
theorem dX3_init_1 : decode cX3_init 1 = .ok (.invokespecial 1, 3) := by decide +kernel
theorem dX3_init_4 : decode cX3_init 4 = .ok (.aload_n 0, 1) := by decide +kernel
theorem dX3_init_5 : decode cX3_init 5 = .ok (.new 7, 3) := by decide +kernel
theorem dX3_init_8 : decode cX3_init 8 = .ok (.dup, 1) := by decide +kernel
theorem dX3_init_9 : decode cX3_init 9 = .ok (.invokespecial 9, 3) := by decide +kernel
theorem dX3_init_12 : decode cX3_init 12 = .ok (.putfield 10, 3) := by decide +kernel
theorem dX3_init_15 : decode cX3_init 15 = .ok (.aload_n 0, 1) := by decide +kernel
theorem dX3_init_16 : decode cX3_init 16 = .ok (.new 7, 3) := by decide +kernel
theorem dX3_init_19 : decode cX3_init 19 = .ok (.dup, 1) := by decide +kernel
theorem dX3_init_20 : decode cX3_init 20 = .ok (.invokespecial 9, 3) := by decide +kernel
theorem dX3_init_23 : decode cX3_init 23 = .ok (.putfield 16, 3) := by decide +kernel
theorem dX3_init_26 : decode cX3_init 26 = .ok (.aload_n 0, 1) := by decide +kernel
theorem dX3_init_27 : decode cX3_init 27 = .ok (.new 7, 3) := by decide +kernel
theorem dX3_init_30 : decode cX3_init 30 = .ok (.dup, 1) := by decide +kernel
theorem dX3_init_31 : decode cX3_init 31 = .ok (.invokespecial 9, 3) := by decide +kernel
theorem dX3_init_34 : decode cX3_init 34 = .ok (.putfield 19, 3) := by decide +kernel
theorem dX3_init_37 : decode cX3_init 37 = .ok (.aload_n 0, 1) := by decide +kernel
theorem dX3_init_38 : decode cX3_init 38 = .ok (.new 22, 3) := by decide +kernel
theorem dX3_init_41 : decode cX3_init 41 = .ok (.dup, 1) := by decide +kernel
theorem dX3_init_42 : decode cX3_init 42 = .ok (.invokespecial 24, 3) := by decide +kernel
theorem dX3_init_45 : decode cX3_init 45 = .ok (.putfield 25, 3) := by decide +kernel
theorem dX3_init_48 : decode cX3_init 48 = .ok (.aload_n 0, 1) := by decide +kernel
theorem dX3_init_49 : decode cX3_init 49 = .ok (.new 29, 3) := by decide +kernel
theorem dX3_init_52 : decode cX3_init 52 = .ok (.dup, 1) := by decide +kernel
theorem dX3_init_53 : decode cX3_init 53 = .ok (.invokespecial 31, 3) := by decide +kernel
theorem dX3_init_56 : decode cX3_init 56 = .ok (.putfield 32, 3) := by decide +kernel
theorem dX3_init_59 : decode cX3_init 59 = .ok (.aload_n 0, 1) := by decide +kernel
theorem dX3_init_60 : decode cX3_init 60 = .ok (.bipush 8, 2) := by decide +kernel
theorem dX3_init_62 : decode cX3_init 62 = .ok (.newarray .int, 2) := by decide +kernel
theorem dX3_init_64 : decode cX3_init 64 = .ok (.putfield 36, 3) := by decide +kernel
theorem dX3_init_67 : decode cX3_init 67 = .ok (.aload_n 0, 1) := by decide +kernel
theorem dX3_init_68 : decode cX3_init 68 = .ok (.bipush 48, 2) := by decide +kernel
theorem dX3_init_70 : decode cX3_init 70 = .ok (.newarray .int, 2) := by decide +kernel
theorem dX3_init_72 : decode cX3_init 72 = .ok (.putfield 40, 3) := by decide +kernel
theorem dX3_init_75 : decode cX3_init 75 = .ok (.aload_n 0, 1) := by decide +kernel
theorem dX3_init_76 : decode cX3_init 76 = .ok (.bipush 7, 2) := by decide +kernel
theorem dX3_init_78 : decode cX3_init 78 = .ok (.newarray .int, 2) := by decide +kernel
theorem dX3_init_80 : decode cX3_init 80 = .ok (.putfield 43, 3) := by decide +kernel
theorem dX3_init_83 : decode cX3_init 83 = .ok (.return_, 1) := by decide +kernel
theorem dX3_feed_0 : decode cX3_feed 0 = .ok (.iload_n 1, 1) := by decide +kernel
theorem dX3_feed_1 : decode cX3_feed 1 = .ok (.ifCond .ge 10, 3) := by decide +kernel
theorem dX3_feed_4 : decode cX3_feed 4 = .ok (.aload_n 0, 1) := by decide +kernel
theorem dX3_feed_5 : decode cX3_feed 5 = .ok (.bipush (-4), 2) := by decide +kernel
theorem dX3_feed_7 : decode cX3_feed 7 = .ok (.invokevirtual 46, 3) := by decide +kernel
theorem dX3_feed_10 : decode cX3_feed 10 = .ok (.ireturn, 1) := by decide +kernel
theorem dX3_feed_11 : decode cX3_feed 11 = .ok (.iload_n 1, 1) := by decide +kernel
theorem dX3_feed_12 : decode cX3_feed 12 = .ok (.sipush 255, 3) := by decide +kernel
theorem dX3_feed_15 : decode cX3_feed 15 = .ok (.if_icmp .gt 15, 3) := by decide +kernel
theorem dX3_feed_18 : decode cX3_feed 18 = .ok (.aload_n 0, 1) := by decide +kernel
theorem dX3_feed_19 : decode cX3_feed 19 = .ok (.getfield 32, 3) := by decide +kernel
theorem dX3_feed_22 : decode cX3_feed 22 = .ok (.getfield 50, 3) := by decide +kernel
theorem dX3_feed_25 : decode cX3_feed 25 = .ok (.bipush 80, 2) := by decide +kernel
theorem dX3_feed_27 : decode cX3_feed 27 = .ok (.if_icmp .lt 10, 3) := by decide +kernel
theorem dX3_feed_30 : decode cX3_feed 30 = .ok (.aload_n 0, 1) := by decide +kernel
theorem dX3_feed_31 : decode cX3_feed 31 = .ok (.bipush (-6), 2) := by decide +kernel
theorem dX3_feed_33 : decode cX3_feed 33 = .ok (.invokevirtual 46, 3) := by decide +kernel
theorem dX3_feed_36 : decode cX3_feed 36 = .ok (.ireturn, 1) := by decide +kernel
theorem dX3_feed_37 : decode cX3_feed 37 = .ok (.aload_n 0, 1) := by decide +kernel
theorem dX3_feed_38 : decode cX3_feed 38 = .ok (.getfield 32, 3) := by decide +kernel
theorem dX3_feed_41 : decode cX3_feed 41 = .ok (.iload_n 1, 1) := by decide +kernel
theorem dX3_feed_42 : decode cX3_feed 42 = .ok (.invokevirtual 54, 3) := by decide +kernel
theorem dX3_feed_45 : decode cX3_feed 45 = .ok (.ireturn, 1) := by decide +kernel
theorem dX3_farm_0 : decode cX3_farm 0 = .ok (.aload_n 0, 1) := by decide +kernel
theorem dX3_farm_1 : decode cX3_farm 1 = .ok (.getfield 19, 3) := by decide +kernel
theorem dX3_farm_4 : decode cX3_farm 4 = .ok (.aload_n 0, 1) := by decide +kernel
theorem dX3_farm_5 : decode cX3_farm 5 = .ok (.getfield 10, 3) := by decide +kernel
theorem dX3_farm_8 : decode cX3_farm 8 = .ok (.invokevirtual 57, 3) := by decide +kernel
theorem dX3_farm_11 : decode cX3_farm 11 = .ok (.aload_n 0, 1) := by decide +kernel
theorem dX3_farm_12 : decode cX3_farm 12 = .ok (.getfield 32, 3) := by decide +kernel
theorem dX3_farm_15 : decode cX3_farm 15 = .ok (.aload_n 0, 1) := by decide +kernel
theorem dX3_farm_16 : decode cX3_farm 16 = .ok (.getfield 19, 3) := by decide +kernel
theorem dX3_farm_19 : decode cX3_farm 19 = .ok (.invokevirtual 61, 3) := by decide +kernel
theorem dX3_farm_22 : decode cX3_farm 22 = .ok (.istore_n 1, 1) := by decide +kernel
theorem dX3_farm_23 : decode cX3_farm 23 = .ok (.aload_n 0, 1) := by decide +kernel
theorem dX3_farm_24 : decode cX3_farm 24 = .ok (.getfield 32, 3) := by decide +kernel
theorem dX3_farm_27 : decode cX3_farm 27 = .ok (.iconst 0, 1) := by decide +kernel
theorem dX3_farm_28 : decode cX3_farm 28 = .ok (.putfield 50, 3) := by decide +kernel
theorem dX3_farm_31 : decode cX3_farm 31 = .ok (.iload_n 1, 1) := by decide +kernel
theorem dX3_farm_32 : decode cX3_farm 32 = .ok (.ifCond .le 14, 3) := by decide +kernel
theorem dX3_farm_35 : decode cX3_farm 35 = .ok (.aload_n 0, 1) := by decide +kernel
theorem dX3_farm_36 : decode cX3_farm 36 = .ok (.getfield 10, 3) := by decide +kernel
theorem dX3_farm_39 : decode cX3_farm 39 = .ok (.aload_n 0, 1) := by decide +kernel
theorem dX3_farm_40 : decode cX3_farm 40 = .ok (.getfield 19, 3) := by decide +kernel
theorem dX3_farm_43 : decode cX3_farm 43 = .ok (.invokevirtual 57, 3) := by decide +kernel
theorem dX3_farm_46 : decode cX3_farm 46 = .ok (.iload_n 1, 1) := by decide +kernel
theorem dX3_farm_47 : decode cX3_farm 47 = .ok (.ireturn, 1) := by decide +kernel
theorem dX3_nest_0 : decode cX3_nest 0 = .ok (.aload_n 0, 1) := by decide +kernel
theorem dX3_nest_1 : decode cX3_nest 1 = .ok (.iload_n 1, 1) := by decide +kernel
theorem dX3_nest_2 : decode cX3_nest 2 = .ok (.invokevirtual 65, 3) := by decide +kernel
theorem dX3_nest_5 : decode cX3_nest 5 = .ok (.ifCond .eq 9, 3) := by decide +kernel
theorem dX3_nest_8 : decode cX3_nest 8 = .ok (.aload_n 0, 1) := by decide +kernel
theorem dX3_nest_9 : decode cX3_nest 9 = .ok (.iconst (-1), 1) := by decide +kernel
theorem dX3_nest_10 : decode cX3_nest 10 = .ok (.invokevirtual 46, 3) := by decide +kernel
theorem dX3_nest_13 : decode cX3_nest 13 = .ok (.ireturn, 1) := by decide +kernel
theorem dX3_nest_14 : decode cX3_nest 14 = .ok (.iload_n 2, 1) := by decide +kernel
theorem dX3_nest_15 : decode cX3_nest 15 = .ok (.tableswitch 121 0 7 #[45, 55, 65, 75, 85, 94, 103, 109], 45) := by decide +kernel
theorem dX3_nest_60 : decode cX3_nest 60 = .ok (.aload_n 0, 1) := by decide +kernel
theorem dX3_nest_61 : decode cX3_nest 61 = .ok (.getfield 10, 3) := by decide +kernel
theorem dX3_nest_64 : decode cX3_nest 64 = .ok (.getfield 69, 3) := by decide +kernel
theorem dX3_nest_67 : decode cX3_nest 67 = .ok (.iload_n 1, 1) := by decide +kernel
theorem dX3_nest_68 : decode cX3_nest 68 = .ok (.iaload, 1) := by decide +kernel
theorem dX3_nest_69 : decode cX3_nest 69 = .ok (.ireturn, 1) := by decide +kernel
theorem dX3_nest_70 : decode cX3_nest 70 = .ok (.aload_n 0, 1) := by decide +kernel
theorem dX3_nest_71 : decode cX3_nest 71 = .ok (.getfield 10, 3) := by decide +kernel
theorem dX3_nest_74 : decode cX3_nest 74 = .ok (.getfield 72, 3) := by decide +kernel
theorem dX3_nest_77 : decode cX3_nest 77 = .ok (.iload_n 1, 1) := by decide +kernel
theorem dX3_nest_78 : decode cX3_nest 78 = .ok (.iaload, 1) := by decide +kernel
theorem dX3_nest_79 : decode cX3_nest 79 = .ok (.ireturn, 1) := by decide +kernel
theorem dX3_nest_80 : decode cX3_nest 80 = .ok (.aload_n 0, 1) := by decide +kernel
theorem dX3_nest_81 : decode cX3_nest 81 = .ok (.getfield 10, 3) := by decide +kernel
theorem dX3_nest_84 : decode cX3_nest 84 = .ok (.getfield 75, 3) := by decide +kernel
theorem dX3_nest_87 : decode cX3_nest 87 = .ok (.iload_n 1, 1) := by decide +kernel
theorem dX3_nest_88 : decode cX3_nest 88 = .ok (.iaload, 1) := by decide +kernel
theorem dX3_nest_89 : decode cX3_nest 89 = .ok (.ireturn, 1) := by decide +kernel
theorem dX3_nest_90 : decode cX3_nest 90 = .ok (.aload_n 0, 1) := by decide +kernel
theorem dX3_nest_91 : decode cX3_nest 91 = .ok (.getfield 10, 3) := by decide +kernel
theorem dX3_nest_94 : decode cX3_nest 94 = .ok (.getfield 78, 3) := by decide +kernel
theorem dX3_nest_97 : decode cX3_nest 97 = .ok (.iload_n 1, 1) := by decide +kernel
theorem dX3_nest_98 : decode cX3_nest 98 = .ok (.iaload, 1) := by decide +kernel
theorem dX3_nest_99 : decode cX3_nest 99 = .ok (.ireturn, 1) := by decide +kernel
theorem dX3_nest_100 : decode cX3_nest 100 = .ok (.aload_n 0, 1) := by decide +kernel
theorem dX3_nest_101 : decode cX3_nest 101 = .ok (.getfield 10, 3) := by decide +kernel
theorem dX3_nest_104 : decode cX3_nest 104 = .ok (.iload_n 1, 1) := by decide +kernel
theorem dX3_nest_105 : decode cX3_nest 105 = .ok (.invokevirtual 81, 3) := by decide +kernel
theorem dX3_nest_108 : decode cX3_nest 108 = .ok (.ireturn, 1) := by decide +kernel
theorem dX3_nest_109 : decode cX3_nest 109 = .ok (.aload_n 0, 1) := by decide +kernel
theorem dX3_nest_110 : decode cX3_nest 110 = .ok (.getfield 10, 3) := by decide +kernel
theorem dX3_nest_113 : decode cX3_nest 113 = .ok (.iload_n 1, 1) := by decide +kernel
theorem dX3_nest_114 : decode cX3_nest 114 = .ok (.invokevirtual 84, 3) := by decide +kernel
theorem dX3_nest_117 : decode cX3_nest 117 = .ok (.ireturn, 1) := by decide +kernel
theorem dX3_nest_118 : decode cX3_nest 118 = .ok (.aload_n 0, 1) := by decide +kernel
theorem dX3_nest_119 : decode cX3_nest 119 = .ok (.iload_n 1, 1) := by decide +kernel
theorem dX3_nest_120 : decode cX3_nest 120 = .ok (.invokevirtual 87, 3) := by decide +kernel
theorem dX3_nest_123 : decode cX3_nest 123 = .ok (.ireturn, 1) := by decide +kernel
theorem dX3_nest_124 : decode cX3_nest 124 = .ok (.aload_n 0, 1) := by decide +kernel
theorem dX3_nest_125 : decode cX3_nest 125 = .ok (.getfield 10, 3) := by decide +kernel
theorem dX3_nest_128 : decode cX3_nest 128 = .ok (.getfield 90, 3) := by decide +kernel
theorem dX3_nest_131 : decode cX3_nest 131 = .ok (.iload_n 1, 1) := by decide +kernel
theorem dX3_nest_132 : decode cX3_nest 132 = .ok (.ishr, 1) := by decide +kernel
theorem dX3_nest_133 : decode cX3_nest 133 = .ok (.iconst 1, 1) := by decide +kernel
theorem dX3_nest_134 : decode cX3_nest 134 = .ok (.iand, 1) := by decide +kernel
theorem dX3_nest_135 : decode cX3_nest 135 = .ok (.ireturn, 1) := by decide +kernel
theorem dX3_nest_136 : decode cX3_nest 136 = .ok (.aload_n 0, 1) := by decide +kernel
theorem dX3_nest_137 : decode cX3_nest 137 = .ok (.bipush (-2), 2) := by decide +kernel
theorem dX3_nest_139 : decode cX3_nest 139 = .ok (.invokevirtual 46, 3) := by decide +kernel
theorem dX3_nest_142 : decode cX3_nest 142 = .ok (.ireturn, 1) := by decide +kernel
theorem dX3_set_0 : decode cX3_set 0 = .ok (.iload_n 1, 1) := by decide +kernel
theorem dX3_set_1 : decode cX3_set 1 = .ok (.ifCond .lt 8, 3) := by decide +kernel
theorem dX3_set_4 : decode cX3_set 4 = .ok (.iload_n 1, 1) := by decide +kernel
theorem dX3_set_5 : decode cX3_set 5 = .ok (.iconst 4, 1) := by decide +kernel
theorem dX3_set_6 : decode cX3_set 6 = .ok (.if_icmp .lt 10, 3) := by decide +kernel
theorem dX3_set_9 : decode cX3_set 9 = .ok (.aload_n 0, 1) := by decide +kernel
theorem dX3_set_10 : decode cX3_set 10 = .ok (.bipush (-2), 2) := by decide +kernel
theorem dX3_set_12 : decode cX3_set 12 = .ok (.invokevirtual 46, 3) := by decide +kernel
theorem dX3_set_15 : decode cX3_set 15 = .ok (.ireturn, 1) := by decide +kernel
theorem dX3_set_16 : decode cX3_set 16 = .ok (.iload_n 2, 1) := by decide +kernel
theorem dX3_set_17 : decode cX3_set 17 = .ok (.getstatic 93, 3) := by decide +kernel
theorem dX3_set_20 : decode cX3_set 20 = .ok (.iload_n 1, 1) := by decide +kernel
theorem dX3_set_21 : decode cX3_set 21 = .ok (.iaload, 1) := by decide +kernel
theorem dX3_set_22 : decode cX3_set 22 = .ok (.if_icmp .ge 10, 3) := by decide +kernel
theorem dX3_set_25 : decode cX3_set 25 = .ok (.aload_n 0, 1) := by decide +kernel
theorem dX3_set_26 : decode cX3_set 26 = .ok (.bipush (-4), 2) := by decide +kernel
theorem dX3_set_28 : decode cX3_set 28 = .ok (.invokevirtual 46, 3) := by decide +kernel
theorem dX3_set_31 : decode cX3_set 31 = .ok (.ireturn, 1) := by decide +kernel
theorem dX3_set_32 : decode cX3_set 32 = .ok (.iload_n 2, 1) := by decide +kernel
theorem dX3_set_33 : decode cX3_set 33 = .ok (.getstatic 96, 3) := by decide +kernel
theorem dX3_set_36 : decode cX3_set 36 = .ok (.iload_n 1, 1) := by decide +kernel
theorem dX3_set_37 : decode cX3_set 37 = .ok (.iaload, 1) := by decide +kernel
theorem dX3_set_38 : decode cX3_set 38 = .ok (.if_icmp .le 10, 3) := by decide +kernel
theorem dX3_set_41 : decode cX3_set 41 = .ok (.aload_n 0, 1) := by decide +kernel
theorem dX3_set_42 : decode cX3_set 42 = .ok (.bipush (-6), 2) := by decide +kernel
theorem dX3_set_44 : decode cX3_set 44 = .ok (.invokevirtual 46, 3) := by decide +kernel
theorem dX3_set_47 : decode cX3_set 47 = .ok (.ireturn, 1) := by decide +kernel
theorem dX3_set_48 : decode cX3_set 48 = .ok (.aload_n 0, 1) := by decide +kernel
theorem dX3_set_49 : decode cX3_set 49 = .ok (.getfield 10, 3) := by decide +kernel
theorem dX3_set_52 : decode cX3_set 52 = .ok (.getfield 99, 3) := by decide +kernel
theorem dX3_set_55 : decode cX3_set 55 = .ok (.iload_n 1, 1) := by decide +kernel
theorem dX3_set_56 : decode cX3_set 56 = .ok (.iaload, 1) := by decide +kernel
theorem dX3_set_57 : decode cX3_set 57 = .ok (.istore_n 3, 1) := by decide +kernel
theorem dX3_set_58 : decode cX3_set 58 = .ok (.aload_n 0, 1) := by decide +kernel
theorem dX3_set_59 : decode cX3_set 59 = .ok (.getfield 10, 3) := by decide +kernel
theorem dX3_set_62 : decode cX3_set 62 = .ok (.getfield 99, 3) := by decide +kernel
theorem dX3_set_65 : decode cX3_set 65 = .ok (.iload_n 1, 1) := by decide +kernel
theorem dX3_set_66 : decode cX3_set 66 = .ok (.iload_n 2, 1) := by decide +kernel
theorem dX3_set_67 : decode cX3_set 67 = .ok (.iastore, 1) := by decide +kernel
theorem dX3_set_68 : decode cX3_set 68 = .ok (.iload_n 3, 1) := by decide +kernel
theorem dX3_set_69 : decode cX3_set 69 = .ok (.ireturn, 1) := by decide +kernel
theorem dX3_look_0 : decode cX3_look 0 = .ok (.aload_n 0, 1) := by decide +kernel
theorem dX3_look_1 : decode cX3_look 1 = .ok (.iload_n 1, 1) := by decide +kernel
theorem dX3_look_2 : decode cX3_look 2 = .ok (.invokevirtual 65, 3) := by decide +kernel
theorem dX3_look_5 : decode cX3_look 5 = .ok (.ifCond .eq 9, 3) := by decide +kernel
theorem dX3_look_8 : decode cX3_look 8 = .ok (.aload_n 0, 1) := by decide +kernel
theorem dX3_look_9 : decode cX3_look 9 = .ok (.iconst (-1), 1) := by decide +kernel
theorem dX3_look_10 : decode cX3_look 10 = .ok (.invokevirtual 46, 3) := by decide +kernel
theorem dX3_look_13 : decode cX3_look 13 = .ok (.ireturn, 1) := by decide +kernel
theorem dX3_look_14 : decode cX3_look 14 = .ok (.iconst 1, 1) := by decide +kernel
theorem dX3_look_15 : decode cX3_look 15 = .ok (.iload_n 1, 1) := by decide +kernel
theorem dX3_look_16 : decode cX3_look 16 = .ok (.ishl, 1) := by decide +kernel
theorem dX3_look_17 : decode cX3_look 17 = .ok (.istore_n 2, 1) := by decide +kernel
theorem dX3_look_18 : decode cX3_look 18 = .ok (.aload_n 0, 1) := by decide +kernel
theorem dX3_look_19 : decode cX3_look 19 = .ok (.getfield 10, 3) := by decide +kernel
theorem dX3_look_22 : decode cX3_look 22 = .ok (.getfield 90, 3) := by decide +kernel
theorem dX3_look_25 : decode cX3_look 25 = .ok (.iload_n 2, 1) := by decide +kernel
theorem dX3_look_26 : decode cX3_look 26 = .ok (.iand, 1) := by decide +kernel
theorem dX3_look_27 : decode cX3_look 27 = .ok (.ifCond .eq 10, 3) := by decide +kernel
theorem dX3_look_30 : decode cX3_look 30 = .ok (.aload_n 0, 1) := by decide +kernel
theorem dX3_look_31 : decode cX3_look 31 = .ok (.bipush (-3), 2) := by decide +kernel
theorem dX3_look_33 : decode cX3_look 33 = .ok (.invokevirtual 46, 3) := by decide +kernel
theorem dX3_look_36 : decode cX3_look 36 = .ok (.ireturn, 1) := by decide +kernel
theorem dX3_look_37 : decode cX3_look 37 = .ok (.aload_n 0, 1) := by decide +kernel
theorem dX3_look_38 : decode cX3_look 38 = .ok (.getfield 10, 3) := by decide +kernel
theorem dX3_look_41 : decode cX3_look 41 = .ok (.getfield 75, 3) := by decide +kernel
theorem dX3_look_44 : decode cX3_look 44 = .ok (.iload_n 1, 1) := by decide +kernel
theorem dX3_look_45 : decode cX3_look 45 = .ok (.iaload, 1) := by decide +kernel
theorem dX3_look_46 : decode cX3_look 46 = .ok (.aload_n 0, 1) := by decide +kernel
theorem dX3_look_47 : decode cX3_look 47 = .ok (.getfield 10, 3) := by decide +kernel
theorem dX3_look_50 : decode cX3_look 50 = .ok (.invokevirtual 102, 3) := by decide +kernel
theorem dX3_look_53 : decode cX3_look 53 = .ok (.if_icmp .le 10, 3) := by decide +kernel
theorem dX3_look_56 : decode cX3_look 56 = .ok (.aload_n 0, 1) := by decide +kernel
theorem dX3_look_57 : decode cX3_look 57 = .ok (.bipush (-6), 2) := by decide +kernel
theorem dX3_look_59 : decode cX3_look 59 = .ok (.invokevirtual 46, 3) := by decide +kernel
theorem dX3_look_62 : decode cX3_look 62 = .ok (.ireturn, 1) := by decide +kernel
theorem dX3_look_63 : decode cX3_look 63 = .ok (.aload_n 0, 1) := by decide +kernel
theorem dX3_look_64 : decode cX3_look 64 = .ok (.getfield 10, 3) := by decide +kernel
theorem dX3_look_67 : decode cX3_look 67 = .ok (.iload_n 2, 1) := by decide +kernel
theorem dX3_look_68 : decode cX3_look 68 = .ok (.invokevirtual 106, 3) := by decide +kernel
theorem dX3_look_71 : decode cX3_look 71 = .ok (.istore_n 3, 1) := by decide +kernel
theorem dX3_look_72 : decode cX3_look 72 = .ok (.aload_n 0, 1) := by decide +kernel
theorem dX3_look_73 : decode cX3_look 73 = .ok (.getfield 10, 3) := by decide +kernel
theorem dX3_look_76 : decode cX3_look 76 = .ok (.dup, 1) := by decide +kernel
theorem dX3_look_77 : decode cX3_look 77 = .ok (.getfield 109, 3) := by decide +kernel
theorem dX3_look_80 : decode cX3_look 80 = .ok (.iload_n 3, 1) := by decide +kernel
theorem dX3_look_81 : decode cX3_look 81 = .ok (.iadd, 1) := by decide +kernel
theorem dX3_look_82 : decode cX3_look 82 = .ok (.putfield 109, 3) := by decide +kernel
theorem dX3_look_85 : decode cX3_look 85 = .ok (.iload_n 3, 1) := by decide +kernel
theorem dX3_look_86 : decode cX3_look 86 = .ok (.ireturn, 1) := by decide +kernel
theorem dX3_night_0 : decode cX3_night 0 = .ok (.aload_n 0, 1) := by decide +kernel
theorem dX3_night_1 : decode cX3_night 1 = .ok (.getfield 10, 3) := by decide +kernel
theorem dX3_night_4 : decode cX3_night 4 = .ok (.getfield 112, 3) := by decide +kernel
theorem dX3_night_7 : decode cX3_night 7 = .ok (.ifCond .ne 10, 3) := by decide +kernel
theorem dX3_night_10 : decode cX3_night 10 = .ok (.aload_n 0, 1) := by decide +kernel
theorem dX3_night_11 : decode cX3_night 11 = .ok (.bipush (-3), 2) := by decide +kernel
theorem dX3_night_13 : decode cX3_night 13 = .ok (.invokevirtual 46, 3) := by decide +kernel
theorem dX3_night_16 : decode cX3_night 16 = .ok (.ireturn, 1) := by decide +kernel
theorem dX3_night_17 : decode cX3_night 17 = .ok (.aload_n 0, 1) := by decide +kernel
theorem dX3_night_18 : decode cX3_night 18 = .ok (.getfield 10, 3) := by decide +kernel
theorem dX3_night_21 : decode cX3_night 21 = .ok (.getfield 115, 3) := by decide +kernel
theorem dX3_night_24 : decode cX3_night 24 = .ok (.sipush 9999, 3) := by decide +kernel
theorem dX3_night_27 : decode cX3_night 27 = .ok (.if_icmp .lt 10, 3) := by decide +kernel
theorem dX3_night_30 : decode cX3_night 30 = .ok (.aload_n 0, 1) := by decide +kernel
theorem dX3_night_31 : decode cX3_night 31 = .ok (.bipush (-6), 2) := by decide +kernel
theorem dX3_night_33 : decode cX3_night 33 = .ok (.invokevirtual 46, 3) := by decide +kernel
theorem dX3_night_36 : decode cX3_night 36 = .ok (.ireturn, 1) := by decide +kernel
theorem dX3_night_37 : decode cX3_night 37 = .ok (.aload_n 0, 1) := by decide +kernel
theorem dX3_night_38 : decode cX3_night 38 = .ok (.getfield 10, 3) := by decide +kernel
theorem dX3_night_41 : decode cX3_night 41 = .ok (.aload_n 0, 1) := by decide +kernel
theorem dX3_night_42 : decode cX3_night 42 = .ok (.getfield 10, 3) := by decide +kernel
theorem dX3_night_45 : decode cX3_night 45 = .ok (.invokevirtual 118, 3) := by decide +kernel
theorem dX3_night_48 : decode cX3_night 48 = .ok (.invokevirtual 121, 3) := by decide +kernel
theorem dX3_night_51 : decode cX3_night 51 = .ok (.istore_n 1, 1) := by decide +kernel
theorem dX3_night_52 : decode cX3_night 52 = .ok (.aload_n 0, 1) := by decide +kernel
theorem dX3_night_53 : decode cX3_night 53 = .ok (.getfield 10, 3) := by decide +kernel
theorem dX3_night_56 : decode cX3_night 56 = .ok (.iload_n 1, 1) := by decide +kernel
theorem dX3_night_57 : decode cX3_night 57 = .ok (.invokevirtual 124, 3) := by decide +kernel
theorem dX3_night_60 : decode cX3_night 60 = .ok (.iload_n 1, 1) := by decide +kernel
theorem dX3_night_61 : decode cX3_night 61 = .ok (.ireturn, 1) := by decide +kernel
theorem dX3_tonight_0 : decode cX3_tonight 0 = .ok (.iload_n 1, 1) := by decide +kernel
theorem dX3_tonight_1 : decode cX3_tonight 1 = .ok (.ifCond .lt 8, 3) := by decide +kernel
theorem dX3_tonight_4 : decode cX3_tonight 4 = .ok (.iload_n 1, 1) := by decide +kernel
theorem dX3_tonight_5 : decode cX3_tonight 5 = .ok (.iconst 1, 1) := by decide +kernel
theorem dX3_tonight_6 : decode cX3_tonight 6 = .ok (.if_icmp .le 10, 3) := by decide +kernel
theorem dX3_tonight_9 : decode cX3_tonight 9 = .ok (.aload_n 0, 1) := by decide +kernel
theorem dX3_tonight_10 : decode cX3_tonight 10 = .ok (.bipush (-2), 2) := by decide +kernel
theorem dX3_tonight_12 : decode cX3_tonight 12 = .ok (.invokevirtual 46, 3) := by decide +kernel
theorem dX3_tonight_15 : decode cX3_tonight 15 = .ok (.ireturn, 1) := by decide +kernel
theorem dX3_tonight_16 : decode cX3_tonight 16 = .ok (.aload_n 0, 1) := by decide +kernel
theorem dX3_tonight_17 : decode cX3_tonight 17 = .ok (.getfield 10, 3) := by decide +kernel
theorem dX3_tonight_20 : decode cX3_tonight 20 = .ok (.getfield 112, 3) := by decide +kernel
theorem dX3_tonight_23 : decode cX3_tonight 23 = .ok (.ifCond .ne 10, 3) := by decide +kernel
theorem dX3_tonight_26 : decode cX3_tonight 26 = .ok (.aload_n 0, 1) := by decide +kernel
theorem dX3_tonight_27 : decode cX3_tonight 27 = .ok (.bipush (-3), 2) := by decide +kernel
theorem dX3_tonight_29 : decode cX3_tonight 29 = .ok (.invokevirtual 46, 3) := by decide +kernel
theorem dX3_tonight_32 : decode cX3_tonight 32 = .ok (.ireturn, 1) := by decide +kernel
theorem dX3_tonight_33 : decode cX3_tonight 33 = .ok (.aload_n 0, 1) := by decide +kernel
theorem dX3_tonight_34 : decode cX3_tonight 34 = .ok (.getfield 10, 3) := by decide +kernel
theorem dX3_tonight_37 : decode cX3_tonight 37 = .ok (.invokevirtual 118, 3) := by decide +kernel
theorem dX3_tonight_40 : decode cX3_tonight 40 = .ok (.istore_n 2, 1) := by decide +kernel
theorem dX3_tonight_41 : decode cX3_tonight 41 = .ok (.iload_n 1, 1) := by decide +kernel
theorem dX3_tonight_42 : decode cX3_tonight 42 = .ok (.ifCond .ne 14, 3) := by decide +kernel
theorem dX3_tonight_45 : decode cX3_tonight 45 = .ok (.aload_n 0, 1) := by decide +kernel
theorem dX3_tonight_46 : decode cX3_tonight 46 = .ok (.getfield 10, 3) := by decide +kernel
theorem dX3_tonight_49 : decode cX3_tonight 49 = .ok (.iload_n 2, 1) := by decide +kernel
theorem dX3_tonight_50 : decode cX3_tonight 50 = .ok (.invokevirtual 121, 3) := by decide +kernel
theorem dX3_tonight_53 : decode cX3_tonight 53 = .ok (.goto 11, 3) := by decide +kernel
theorem dX3_tonight_56 : decode cX3_tonight 56 = .ok (.aload_n 0, 1) := by decide +kernel
theorem dX3_tonight_57 : decode cX3_tonight 57 = .ok (.getfield 10, 3) := by decide +kernel
theorem dX3_tonight_60 : decode cX3_tonight 60 = .ok (.iload_n 2, 1) := by decide +kernel
theorem dX3_tonight_61 : decode cX3_tonight 61 = .ok (.invokevirtual 128, 3) := by decide +kernel
theorem dX3_tonight_64 : decode cX3_tonight 64 = .ok (.ireturn, 1) := by decide +kernel
theorem dX3_likely_0 : decode cX3_likely 0 = .ok (.aload_n 0, 1) := by decide +kernel
theorem dX3_likely_1 : decode cX3_likely 1 = .ok (.iload_n 1, 1) := by decide +kernel
theorem dX3_likely_2 : decode cX3_likely 2 = .ok (.invokevirtual 65, 3) := by decide +kernel
theorem dX3_likely_5 : decode cX3_likely 5 = .ok (.ifCond .eq 14, 3) := by decide +kernel
theorem dX3_likely_8 : decode cX3_likely 8 = .ok (.ldc2_w 131, 3) := by decide +kernel
theorem dX3_likely_11 : decode cX3_likely 11 = .ok (.aload_n 0, 1) := by decide +kernel
theorem dX3_likely_12 : decode cX3_likely 12 = .ok (.iconst (-1), 1) := by decide +kernel
theorem dX3_likely_13 : decode cX3_likely 13 = .ok (.invokevirtual 46, 3) := by decide +kernel
theorem dX3_likely_16 : decode cX3_likely 16 = .ok (.i2l, 1) := by decide +kernel
theorem dX3_likely_17 : decode cX3_likely 17 = .ok (.lsub, 1) := by decide +kernel
theorem dX3_likely_18 : decode cX3_likely 18 = .ok (.lreturn, 1) := by decide +kernel
theorem dX3_likely_19 : decode cX3_likely 19 = .ok (.iload_n 2, 1) := by decide +kernel
theorem dX3_likely_20 : decode cX3_likely 20 = .ok (.ifCond .lt 8, 3) := by decide +kernel
theorem dX3_likely_23 : decode cX3_likely 23 = .ok (.iload_n 2, 1) := by decide +kernel
theorem dX3_likely_24 : decode cX3_likely 24 = .ok (.iconst 1, 1) := by decide +kernel
theorem dX3_likely_25 : decode cX3_likely 25 = .ok (.if_icmp .le 15, 3) := by decide +kernel
theorem dX3_likely_28 : decode cX3_likely 28 = .ok (.ldc2_w 131, 3) := by decide +kernel
theorem dX3_likely_31 : decode cX3_likely 31 = .ok (.aload_n 0, 1) := by decide +kernel
theorem dX3_likely_32 : decode cX3_likely 32 = .ok (.bipush (-2), 2) := by decide +kernel
theorem dX3_likely_34 : decode cX3_likely 34 = .ok (.invokevirtual 46, 3) := by decide +kernel
theorem dX3_likely_37 : decode cX3_likely 37 = .ok (.i2l, 1) := by decide +kernel
theorem dX3_likely_38 : decode cX3_likely 38 = .ok (.lsub, 1) := by decide +kernel
theorem dX3_likely_39 : decode cX3_likely 39 = .ok (.lreturn, 1) := by decide +kernel
theorem dX3_likely_40 : decode cX3_likely 40 = .ok (.aload_n 0, 1) := by decide +kernel
theorem dX3_likely_41 : decode cX3_likely 41 = .ok (.getfield 10, 3) := by decide +kernel
theorem dX3_likely_44 : decode cX3_likely 44 = .ok (.aload_n 0, 1) := by decide +kernel
theorem dX3_likely_45 : decode cX3_likely 45 = .ok (.getfield 10, 3) := by decide +kernel
theorem dX3_likely_48 : decode cX3_likely 48 = .ok (.aload_n 0, 1) := by decide +kernel
theorem dX3_likely_49 : decode cX3_likely 49 = .ok (.getfield 10, 3) := by decide +kernel
theorem dX3_likely_52 : decode cX3_likely 52 = .ok (.invokevirtual 118, 3) := by decide +kernel
theorem dX3_likely_55 : decode cX3_likely 55 = .ok (.invokevirtual 128, 3) := by decide +kernel
theorem dX3_likely_58 : decode cX3_likely 58 = .ok (.invokevirtual 133, 3) := by decide +kernel
theorem dX3_likely_61 : decode cX3_likely 61 = .ok (.istore_n 3, 1) := by decide +kernel
theorem dX3_likely_62 : decode cX3_likely 62 = .ok (.aload_n 0, 1) := by decide +kernel
theorem dX3_likely_63 : decode cX3_likely 63 = .ok (.getfield 10, 3) := by decide +kernel
theorem dX3_likely_66 : decode cX3_likely 66 = .ok (.getfield 136, 3) := by decide +kernel
theorem dX3_likely_69 : decode cX3_likely 69 = .ok (.iload_n 1, 1) := by decide +kernel
theorem dX3_likely_70 : decode cX3_likely 70 = .ok (.iaload, 1) := by decide +kernel
theorem dX3_likely_71 : decode cX3_likely 71 = .ok (.iload_n 3, 1) := by decide +kernel
theorem dX3_likely_72 : decode cX3_likely 72 = .ok (.invokestatic 139, 3) := by decide +kernel
theorem dX3_likely_75 : decode cX3_likely 75 = .ok (.istore 4, 2) := by decide +kernel
theorem dX3_likely_77 : decode cX3_likely 77 = .ok (.iload 4, 2) := by decide +kernel
theorem dX3_likely_79 : decode cX3_likely 79 = .ok (.iconst 1, 1) := by decide +kernel
theorem dX3_likely_80 : decode cX3_likely 80 = .ok (.if_icmp .ge 5, 3) := by decide +kernel
theorem dX3_likely_83 : decode cX3_likely 83 = .ok (.lconst 0, 1) := by decide +kernel
theorem dX3_likely_84 : decode cX3_likely 84 = .ok (.lreturn, 1) := by decide +kernel
theorem dX3_likely_85 : decode cX3_likely 85 = .ok (.iload_n 2, 1) := by decide +kernel
theorem dX3_likely_86 : decode cX3_likely 86 = .ok (.ifCond .ne 15, 3) := by decide +kernel
theorem dX3_likely_89 : decode cX3_likely 89 = .ok (.aload_n 0, 1) := by decide +kernel
theorem dX3_likely_90 : decode cX3_likely 90 = .ok (.getfield 10, 3) := by decide +kernel
theorem dX3_likely_93 : decode cX3_likely 93 = .ok (.getfield 136, 3) := by decide +kernel
theorem dX3_likely_96 : decode cX3_likely 96 = .ok (.iload_n 1, 1) := by decide +kernel
theorem dX3_likely_97 : decode cX3_likely 97 = .ok (.iaload, 1) := by decide +kernel
theorem dX3_likely_98 : decode cX3_likely 98 = .ok (.goto 4, 3) := by decide +kernel
theorem dX3_likely_101 : decode cX3_likely 101 = .ok (.iload_n 3, 1) := by decide +kernel
theorem dX3_likely_102 : decode cX3_likely 102 = .ok (.iload 4, 2) := by decide +kernel
theorem dX3_likely_104 : decode cX3_likely 104 = .ok (.idiv, 1) := by decide +kernel
theorem dX3_likely_105 : decode cX3_likely 105 = .ok (.i2l, 1) := by decide +kernel
theorem dX3_likely_106 : decode cX3_likely 106 = .ok (.lreturn, 1) := by decide +kernel
theorem dX3_plan_0 : decode cX3_plan 0 = .ok (.iload_n 2, 1) := by decide +kernel
theorem dX3_plan_1 : decode cX3_plan 1 = .ok (.ifCond .lt 8, 3) := by decide +kernel
theorem dX3_plan_4 : decode cX3_plan 4 = .ok (.iload_n 2, 1) := by decide +kernel
theorem dX3_plan_5 : decode cX3_plan 5 = .ok (.iconst 1, 1) := by decide +kernel
theorem dX3_plan_6 : decode cX3_plan 6 = .ok (.if_icmp .le 10, 3) := by decide +kernel
theorem dX3_plan_9 : decode cX3_plan 9 = .ok (.aload_n 0, 1) := by decide +kernel
theorem dX3_plan_10 : decode cX3_plan 10 = .ok (.bipush (-2), 2) := by decide +kernel
theorem dX3_plan_12 : decode cX3_plan 12 = .ok (.invokevirtual 46, 3) := by decide +kernel
theorem dX3_plan_15 : decode cX3_plan 15 = .ok (.ireturn, 1) := by decide +kernel
theorem dX3_plan_16 : decode cX3_plan 16 = .ok (.iload_n 1, 1) := by decide +kernel
theorem dX3_plan_17 : decode cX3_plan 17 = .ok (.iconst 1, 1) := by decide +kernel
theorem dX3_plan_18 : decode cX3_plan 18 = .ok (.if_icmp .ge 10, 3) := by decide +kernel
theorem dX3_plan_21 : decode cX3_plan 21 = .ok (.aload_n 0, 1) := by decide +kernel
theorem dX3_plan_22 : decode cX3_plan 22 = .ok (.bipush (-4), 2) := by decide +kernel
theorem dX3_plan_24 : decode cX3_plan 24 = .ok (.invokevirtual 46, 3) := by decide +kernel
theorem dX3_plan_27 : decode cX3_plan 27 = .ok (.ireturn, 1) := by decide +kernel
theorem dX3_plan_28 : decode cX3_plan 28 = .ok (.iload_n 1, 1) := by decide +kernel
theorem dX3_plan_29 : decode cX3_plan 29 = .ok (.iconst 3, 1) := by decide +kernel
theorem dX3_plan_30 : decode cX3_plan 30 = .ok (.if_icmp .le 10, 3) := by decide +kernel
theorem dX3_plan_33 : decode cX3_plan 33 = .ok (.aload_n 0, 1) := by decide +kernel
theorem dX3_plan_34 : decode cX3_plan 34 = .ok (.bipush (-6), 2) := by decide +kernel
theorem dX3_plan_36 : decode cX3_plan 36 = .ok (.invokevirtual 46, 3) := by decide +kernel
theorem dX3_plan_39 : decode cX3_plan 39 = .ok (.ireturn, 1) := by decide +kernel
theorem dX3_plan_40 : decode cX3_plan 40 = .ok (.aload_n 0, 1) := by decide +kernel
theorem dX3_plan_41 : decode cX3_plan 41 = .ok (.getfield 10, 3) := by decide +kernel
theorem dX3_plan_44 : decode cX3_plan 44 = .ok (.getfield 112, 3) := by decide +kernel
theorem dX3_plan_47 : decode cX3_plan 47 = .ok (.ifCond .ne 10, 3) := by decide +kernel
theorem dX3_plan_50 : decode cX3_plan 50 = .ok (.aload_n 0, 1) := by decide +kernel
theorem dX3_plan_51 : decode cX3_plan 51 = .ok (.bipush (-3), 2) := by decide +kernel
theorem dX3_plan_53 : decode cX3_plan 53 = .ok (.invokevirtual 46, 3) := by decide +kernel
theorem dX3_plan_56 : decode cX3_plan 56 = .ok (.ireturn, 1) := by decide +kernel
theorem dX3_plan_57 : decode cX3_plan 57 = .ok (.aload_n 0, 1) := by decide +kernel
theorem dX3_plan_58 : decode cX3_plan 58 = .ok (.getfield 25, 3) := by decide +kernel
theorem dX3_plan_61 : decode cX3_plan 61 = .ok (.aload_n 0, 1) := by decide +kernel
theorem dX3_plan_62 : decode cX3_plan 62 = .ok (.getfield 10, 3) := by decide +kernel
theorem dX3_plan_65 : decode cX3_plan 65 = .ok (.iload_n 1, 1) := by decide +kernel
theorem dX3_plan_66 : decode cX3_plan 66 = .ok (.invokevirtual 143, 3) := by decide +kernel
theorem dX3_plan_69 : decode cX3_plan 69 = .ok (.istore_n 3, 1) := by decide +kernel
theorem dX3_plan_70 : decode cX3_plan 70 = .ok (.iload_n 2, 1) := by decide +kernel
theorem dX3_plan_71 : decode cX3_plan 71 = .ok (.ifCond .ne 7, 3) := by decide +kernel
theorem dX3_plan_74 : decode cX3_plan 74 = .ok (.iload_n 3, 1) := by decide +kernel
theorem dX3_plan_75 : decode cX3_plan 75 = .ok (.goto 10, 3) := by decide +kernel
theorem dX3_plan_78 : decode cX3_plan 78 = .ok (.aload_n 0, 1) := by decide +kernel
theorem dX3_plan_79 : decode cX3_plan 79 = .ok (.getfield 25, 3) := by decide +kernel
theorem dX3_plan_82 : decode cX3_plan 82 = .ok (.getfield 147, 3) := by decide +kernel
theorem dX3_plan_85 : decode cX3_plan 85 = .ok (.ireturn, 1) := by decide +kernel
theorem dX3_each_0 : decode cX3_each 0 = .ok (.iload_n 1, 1) := by decide +kernel
theorem dX3_each_1 : decode cX3_each 1 = .ok (.aload_n 0, 1) := by decide +kernel
theorem dX3_each_2 : decode cX3_each 2 = .ok (.getfield 10, 3) := by decide +kernel
theorem dX3_each_5 : decode cX3_each 5 = .ok (.getfield 112, 3) := by decide +kernel
theorem dX3_each_8 : decode cX3_each 8 = .ok (.ishr, 1) := by decide +kernel
theorem dX3_each_9 : decode cX3_each 9 = .ok (.ifCond .eq 9, 3) := by decide +kernel
theorem dX3_each_12 : decode cX3_each 12 = .ok (.aload_n 0, 1) := by decide +kernel
theorem dX3_each_13 : decode cX3_each 13 = .ok (.iconst (-1), 1) := by decide +kernel
theorem dX3_each_14 : decode cX3_each 14 = .ok (.invokevirtual 46, 3) := by decide +kernel
theorem dX3_each_17 : decode cX3_each 17 = .ok (.ireturn, 1) := by decide +kernel
theorem dX3_each_18 : decode cX3_each 18 = .ok (.iload_n 2, 1) := by decide +kernel
theorem dX3_each_19 : decode cX3_each 19 = .ok (.iconst 1, 1) := by decide +kernel
theorem dX3_each_20 : decode cX3_each 20 = .ok (.if_icmp .ge 10, 3) := by decide +kernel
theorem dX3_each_23 : decode cX3_each 23 = .ok (.aload_n 0, 1) := by decide +kernel
theorem dX3_each_24 : decode cX3_each 24 = .ok (.bipush (-4), 2) := by decide +kernel
theorem dX3_each_26 : decode cX3_each 26 = .ok (.invokevirtual 46, 3) := by decide +kernel
theorem dX3_each_29 : decode cX3_each 29 = .ok (.ireturn, 1) := by decide +kernel
theorem dX3_each_30 : decode cX3_each 30 = .ok (.iload_n 2, 1) := by decide +kernel
theorem dX3_each_31 : decode cX3_each 31 = .ok (.bipush 30, 2) := by decide +kernel
theorem dX3_each_33 : decode cX3_each 33 = .ok (.if_icmp .le 10, 3) := by decide +kernel
theorem dX3_each_36 : decode cX3_each 36 = .ok (.aload_n 0, 1) := by decide +kernel
theorem dX3_each_37 : decode cX3_each 37 = .ok (.bipush (-6), 2) := by decide +kernel
theorem dX3_each_39 : decode cX3_each 39 = .ok (.invokevirtual 46, 3) := by decide +kernel
theorem dX3_each_42 : decode cX3_each 42 = .ok (.ireturn, 1) := by decide +kernel
theorem dX3_each_43 : decode cX3_each 43 = .ok (.aload_n 0, 1) := by decide +kernel
theorem dX3_each_44 : decode cX3_each 44 = .ok (.getfield 10, 3) := by decide +kernel
theorem dX3_each_47 : decode cX3_each 47 = .ok (.getfield 112, 3) := by decide +kernel
theorem dX3_each_50 : decode cX3_each 50 = .ok (.ifCond .ne 10, 3) := by decide +kernel
theorem dX3_each_53 : decode cX3_each 53 = .ok (.aload_n 0, 1) := by decide +kernel
theorem dX3_each_54 : decode cX3_each 54 = .ok (.bipush (-3), 2) := by decide +kernel
theorem dX3_each_56 : decode cX3_each 56 = .ok (.invokevirtual 46, 3) := by decide +kernel
theorem dX3_each_59 : decode cX3_each 59 = .ok (.ireturn, 1) := by decide +kernel
theorem dX3_each_60 : decode cX3_each 60 = .ok (.aload_n 0, 1) := by decide +kernel
theorem dX3_each_61 : decode cX3_each 61 = .ok (.getfield 19, 3) := by decide +kernel
theorem dX3_each_64 : decode cX3_each 64 = .ok (.aload_n 0, 1) := by decide +kernel
theorem dX3_each_65 : decode cX3_each 65 = .ok (.getfield 10, 3) := by decide +kernel
theorem dX3_each_68 : decode cX3_each 68 = .ok (.invokevirtual 57, 3) := by decide +kernel
theorem dX3_each_71 : decode cX3_each 71 = .ok (.aload_n 0, 1) := by decide +kernel
theorem dX3_each_72 : decode cX3_each 72 = .ok (.getfield 19, 3) := by decide +kernel
theorem dX3_each_75 : decode cX3_each 75 = .ok (.iconst 0, 1) := by decide +kernel
theorem dX3_each_76 : decode cX3_each 76 = .ok (.putfield 90, 3) := by decide +kernel
theorem dX3_each_79 : decode cX3_each 79 = .ok (.iconst 0, 1) := by decide +kernel
theorem dX3_each_80 : decode cX3_each 80 = .ok (.istore_n 3, 1) := by decide +kernel
theorem dX3_each_81 : decode cX3_each 81 = .ok (.iconst 0, 1) := by decide +kernel
theorem dX3_each_82 : decode cX3_each 82 = .ok (.istore 4, 2) := by decide +kernel
theorem dX3_each_84 : decode cX3_each 84 = .ok (.iload 4, 2) := by decide +kernel
theorem dX3_each_86 : decode cX3_each 86 = .ok (.iload_n 2, 1) := by decide +kernel
theorem dX3_each_87 : decode cX3_each 87 = .ok (.if_icmp .ge 41, 3) := by decide +kernel
theorem dX3_each_90 : decode cX3_each 90 = .ok (.iload_n 3, 1) := by decide +kernel
theorem dX3_each_91 : decode cX3_each 91 = .ok (.aload_n 0, 1) := by decide +kernel
theorem dX3_each_92 : decode cX3_each 92 = .ok (.getfield 19, 3) := by decide +kernel
theorem dX3_each_95 : decode cX3_each 95 = .ok (.iload_n 1, 1) := by decide +kernel
theorem dX3_each_96 : decode cX3_each 96 = .ok (.invokevirtual 106, 3) := by decide +kernel
theorem dX3_each_99 : decode cX3_each 99 = .ok (.iadd, 1) := by decide +kernel
theorem dX3_each_100 : decode cX3_each 100 = .ok (.istore_n 3, 1) := by decide +kernel
theorem dX3_each_101 : decode cX3_each 101 = .ok (.aload_n 0, 1) := by decide +kernel
theorem dX3_each_102 : decode cX3_each 102 = .ok (.getfield 19, 3) := by decide +kernel
theorem dX3_each_105 : decode cX3_each 105 = .ok (.aload_n 0, 1) := by decide +kernel
theorem dX3_each_106 : decode cX3_each 106 = .ok (.getfield 19, 3) := by decide +kernel
theorem dX3_each_109 : decode cX3_each 109 = .ok (.aload_n 0, 1) := by decide +kernel
theorem dX3_each_110 : decode cX3_each 110 = .ok (.getfield 19, 3) := by decide +kernel
theorem dX3_each_113 : decode cX3_each 113 = .ok (.invokevirtual 118, 3) := by decide +kernel
theorem dX3_each_116 : decode cX3_each 116 = .ok (.invokevirtual 121, 3) := by decide +kernel
theorem dX3_each_119 : decode cX3_each 119 = .ok (.invokevirtual 124, 3) := by decide +kernel
theorem dX3_each_122 : decode cX3_each 122 = .ok (.iinc 4 1, 3) := by decide +kernel
theorem dX3_each_125 : decode cX3_each 125 = .ok (.goto (-41), 3) := by decide +kernel
theorem dX3_each_128 : decode cX3_each 128 = .ok (.iload_n 3, 1) := by decide +kernel
theorem dX3_each_129 : decode cX3_each 129 = .ok (.ireturn, 1) := by decide +kernel
theorem dX3_shut_0 : decode cX3_shut 0 = .ok (.aload_n 0, 1) := by decide +kernel
theorem dX3_shut_1 : decode cX3_shut 1 = .ok (.getfield 10, 3) := by decide +kernel
theorem dX3_shut_4 : decode cX3_shut 4 = .ok (.getfield 112, 3) := by decide +kernel
theorem dX3_shut_7 : decode cX3_shut 7 = .ok (.ifCond .ne 12, 3) := by decide +kernel
theorem dX3_shut_10 : decode cX3_shut 10 = .ok (.aload_n 0, 1) := by decide +kernel
theorem dX3_shut_11 : decode cX3_shut 11 = .ok (.bipush (-3), 2) := by decide +kernel
theorem dX3_shut_13 : decode cX3_shut 13 = .ok (.invokevirtual 46, 3) := by decide +kernel
theorem dX3_shut_16 : decode cX3_shut 16 = .ok (.goto 14, 3) := by decide +kernel
theorem dX3_shut_19 : decode cX3_shut 19 = .ok (.aload_n 0, 1) := by decide +kernel
theorem dX3_shut_20 : decode cX3_shut 20 = .ok (.getfield 25, 3) := by decide +kernel
theorem dX3_shut_23 : decode cX3_shut 23 = .ok (.aload_n 0, 1) := by decide +kernel
theorem dX3_shut_24 : decode cX3_shut 24 = .ok (.getfield 10, 3) := by decide +kernel
theorem dX3_shut_27 : decode cX3_shut 27 = .ok (.invokevirtual 150, 3) := by decide +kernel
theorem dX3_shut_30 : decode cX3_shut 30 = .ok (.ireturn, 1) := by decide +kernel
theorem dX3_lead_0 : decode cX3_lead 0 = .ok (.aload_n 0, 1) := by decide +kernel
theorem dX3_lead_1 : decode cX3_lead 1 = .ok (.iload_n 1, 1) := by decide +kernel
theorem dX3_lead_2 : decode cX3_lead 2 = .ok (.invokevirtual 65, 3) := by decide +kernel
theorem dX3_lead_5 : decode cX3_lead 5 = .ok (.ifCond .eq 11, 3) := by decide +kernel
theorem dX3_lead_8 : decode cX3_lead 8 = .ok (.aload_n 0, 1) := by decide +kernel
theorem dX3_lead_9 : decode cX3_lead 9 = .ok (.iconst (-1), 1) := by decide +kernel
theorem dX3_lead_10 : decode cX3_lead 10 = .ok (.invokevirtual 46, 3) := by decide +kernel
theorem dX3_lead_13 : decode cX3_lead 13 = .ok (.goto 15, 3) := by decide +kernel
theorem dX3_lead_16 : decode cX3_lead 16 = .ok (.aload_n 0, 1) := by decide +kernel
theorem dX3_lead_17 : decode cX3_lead 17 = .ok (.getfield 25, 3) := by decide +kernel
theorem dX3_lead_20 : decode cX3_lead 20 = .ok (.aload_n 0, 1) := by decide +kernel
theorem dX3_lead_21 : decode cX3_lead 21 = .ok (.getfield 10, 3) := by decide +kernel
theorem dX3_lead_24 : decode cX3_lead 24 = .ok (.iload_n 1, 1) := by decide +kernel
theorem dX3_lead_25 : decode cX3_lead 25 = .ok (.invokevirtual 153, 3) := by decide +kernel
theorem dX3_lead_28 : decode cX3_lead 28 = .ok (.ireturn, 1) := by decide +kernel
theorem dX3_row_0 : decode cX3_row 0 = .ok (.iload_n 1, 1) := by decide +kernel
theorem dX3_row_1 : decode cX3_row 1 = .ok (.ifCond .ge 10, 3) := by decide +kernel
theorem dX3_row_4 : decode cX3_row 4 = .ok (.aload_n 0, 1) := by decide +kernel
theorem dX3_row_5 : decode cX3_row 5 = .ok (.bipush (-4), 2) := by decide +kernel
theorem dX3_row_7 : decode cX3_row 7 = .ok (.invokevirtual 46, 3) := by decide +kernel
theorem dX3_row_10 : decode cX3_row 10 = .ok (.ireturn, 1) := by decide +kernel
theorem dX3_row_11 : decode cX3_row 11 = .ok (.iload_n 1, 1) := by decide +kernel
theorem dX3_row_12 : decode cX3_row 12 = .ok (.bipush 6, 2) := by decide +kernel
theorem dX3_row_14 : decode cX3_row 14 = .ok (.if_icmp .ge 12, 3) := by decide +kernel
theorem dX3_row_17 : decode cX3_row 17 = .ok (.aload_n 0, 1) := by decide +kernel
theorem dX3_row_18 : decode cX3_row 18 = .ok (.getfield 156, 3) := by decide +kernel
theorem dX3_row_21 : decode cX3_row 21 = .ok (.bipush 8, 2) := by decide +kernel
theorem dX3_row_23 : decode cX3_row 23 = .ok (.if_icmp .lt 10, 3) := by decide +kernel
theorem dX3_row_26 : decode cX3_row 26 = .ok (.aload_n 0, 1) := by decide +kernel
theorem dX3_row_27 : decode cX3_row 27 = .ok (.bipush (-6), 2) := by decide +kernel
theorem dX3_row_29 : decode cX3_row 29 = .ok (.invokevirtual 46, 3) := by decide +kernel
theorem dX3_row_32 : decode cX3_row 32 = .ok (.ireturn, 1) := by decide +kernel
theorem dX3_row_33 : decode cX3_row 33 = .ok (.aload_n 0, 1) := by decide +kernel
theorem dX3_row_34 : decode cX3_row 34 = .ok (.getfield 36, 3) := by decide +kernel
theorem dX3_row_37 : decode cX3_row 37 = .ok (.aload_n 0, 1) := by decide +kernel
theorem dX3_row_38 : decode cX3_row 38 = .ok (.getfield 156, 3) := by decide +kernel
theorem dX3_row_41 : decode cX3_row 41 = .ok (.iload_n 1, 1) := by decide +kernel
theorem dX3_row_42 : decode cX3_row 42 = .ok (.iastore, 1) := by decide +kernel
theorem dX3_row_43 : decode cX3_row 43 = .ok (.aload_n 0, 1) := by decide +kernel
theorem dX3_row_44 : decode cX3_row 44 = .ok (.dup, 1) := by decide +kernel
theorem dX3_row_45 : decode cX3_row 45 = .ok (.getfield 156, 3) := by decide +kernel
theorem dX3_row_48 : decode cX3_row 48 = .ok (.iconst 1, 1) := by decide +kernel
theorem dX3_row_49 : decode cX3_row 49 = .ok (.iadd, 1) := by decide +kernel
theorem dX3_row_50 : decode cX3_row 50 = .ok (.putfield 156, 3) := by decide +kernel
theorem dX3_row_53 : decode cX3_row 53 = .ok (.aload_n 0, 1) := by decide +kernel
theorem dX3_row_54 : decode cX3_row 54 = .ok (.getfield 156, 3) := by decide +kernel
theorem dX3_row_57 : decode cX3_row 57 = .ok (.ireturn, 1) := by decide +kernel
theorem dX3_ways_0 : decode cX3_ways 0 = .ok (.aload_n 0, 1) := by decide +kernel
theorem dX3_ways_1 : decode cX3_ways 1 = .ok (.getfield 10, 3) := by decide +kernel
theorem dX3_ways_4 : decode cX3_ways 4 = .ok (.getfield 112, 3) := by decide +kernel
theorem dX3_ways_7 : decode cX3_ways 7 = .ok (.ifCond .ne 10, 3) := by decide +kernel
theorem dX3_ways_10 : decode cX3_ways 10 = .ok (.aload_n 0, 1) := by decide +kernel
theorem dX3_ways_11 : decode cX3_ways 11 = .ok (.bipush (-3), 2) := by decide +kernel
theorem dX3_ways_13 : decode cX3_ways 13 = .ok (.invokevirtual 46, 3) := by decide +kernel
theorem dX3_ways_16 : decode cX3_ways 16 = .ok (.ireturn, 1) := by decide +kernel
theorem dX3_ways_17 : decode cX3_ways 17 = .ok (.iconst 0, 1) := by decide +kernel
theorem dX3_ways_18 : decode cX3_ways 18 = .ok (.istore_n 1, 1) := by decide +kernel
theorem dX3_ways_19 : decode cX3_ways 19 = .ok (.iconst 0, 1) := by decide +kernel
theorem dX3_ways_20 : decode cX3_ways 20 = .ok (.istore_n 2, 1) := by decide +kernel
theorem dX3_ways_21 : decode cX3_ways 21 = .ok (.iload_n 2, 1) := by decide +kernel
theorem dX3_ways_22 : decode cX3_ways 22 = .ok (.bipush 6, 2) := by decide +kernel
theorem dX3_ways_24 : decode cX3_ways 24 = .ok (.if_icmp .ge 30, 3) := by decide +kernel
theorem dX3_ways_27 : decode cX3_ways 27 = .ok (.aload_n 0, 1) := by decide +kernel
theorem dX3_ways_28 : decode cX3_ways 28 = .ok (.iload_n 2, 1) := by decide +kernel
theorem dX3_ways_29 : decode cX3_ways 29 = .ok (.invokevirtual 159, 3) := by decide +kernel
theorem dX3_ways_32 : decode cX3_ways 32 = .ok (.aload_n 0, 1) := by decide +kernel
theorem dX3_ways_33 : decode cX3_ways 33 = .ok (.iload_n 2, 1) := by decide +kernel
theorem dX3_ways_34 : decode cX3_ways 34 = .ok (.invokevirtual 162, 3) := by decide +kernel
theorem dX3_ways_37 : decode cX3_ways 37 = .ok (.bipush (-9), 2) := by decide +kernel
theorem dX3_ways_39 : decode cX3_ways 39 = .ok (.if_icmp .ne 9, 3) := by decide +kernel
theorem dX3_ways_42 : decode cX3_ways 42 = .ok (.iload_n 1, 1) := by decide +kernel
theorem dX3_ways_43 : decode cX3_ways 43 = .ok (.iconst 1, 1) := by decide +kernel
theorem dX3_ways_44 : decode cX3_ways 44 = .ok (.iload_n 2, 1) := by decide +kernel
theorem dX3_ways_45 : decode cX3_ways 45 = .ok (.ishl, 1) := by decide +kernel
theorem dX3_ways_46 : decode cX3_ways 46 = .ok (.ior, 1) := by decide +kernel
theorem dX3_ways_47 : decode cX3_ways 47 = .ok (.istore_n 1, 1) := by decide +kernel
theorem dX3_ways_48 : decode cX3_ways 48 = .ok (.iinc 2 1, 3) := by decide +kernel
theorem dX3_ways_51 : decode cX3_ways 51 = .ok (.goto (-30), 3) := by decide +kernel
theorem dX3_ways_54 : decode cX3_ways 54 = .ok (.iload_n 1, 1) := by decide +kernel
theorem dX3_ways_55 : decode cX3_ways 55 = .ok (.ireturn, 1) := by decide +kernel
theorem dX3_soon_0 : decode cX3_soon 0 = .ok (.aload_n 0, 1) := by decide +kernel
theorem dX3_soon_1 : decode cX3_soon 1 = .ok (.getfield 10, 3) := by decide +kernel
theorem dX3_soon_4 : decode cX3_soon 4 = .ok (.getfield 112, 3) := by decide +kernel
theorem dX3_soon_7 : decode cX3_soon 7 = .ok (.ifCond .ne 10, 3) := by decide +kernel
theorem dX3_soon_10 : decode cX3_soon 10 = .ok (.aload_n 0, 1) := by decide +kernel
theorem dX3_soon_11 : decode cX3_soon 11 = .ok (.bipush (-3), 2) := by decide +kernel
theorem dX3_soon_13 : decode cX3_soon 13 = .ok (.invokevirtual 46, 3) := by decide +kernel
theorem dX3_soon_16 : decode cX3_soon 16 = .ok (.ireturn, 1) := by decide +kernel
theorem dX3_soon_17 : decode cX3_soon 17 = .ok (.iconst 0, 1) := by decide +kernel
theorem dX3_soon_18 : decode cX3_soon 18 = .ok (.istore_n 1, 1) := by decide +kernel
theorem dX3_soon_19 : decode cX3_soon 19 = .ok (.iconst 0, 1) := by decide +kernel
theorem dX3_soon_20 : decode cX3_soon 20 = .ok (.istore_n 2, 1) := by decide +kernel
theorem dX3_soon_21 : decode cX3_soon 21 = .ok (.iload_n 2, 1) := by decide +kernel
theorem dX3_soon_22 : decode cX3_soon 22 = .ok (.bipush 6, 2) := by decide +kernel
theorem dX3_soon_24 : decode cX3_soon 24 = .ok (.if_icmp .ge 38, 3) := by decide +kernel
theorem dX3_soon_27 : decode cX3_soon 27 = .ok (.aload_n 0, 1) := by decide +kernel
theorem dX3_soon_28 : decode cX3_soon 28 = .ok (.iload_n 2, 1) := by decide +kernel
theorem dX3_soon_29 : decode cX3_soon 29 = .ok (.invokevirtual 159, 3) := by decide +kernel
theorem dX3_soon_32 : decode cX3_soon 32 = .ok (.iconst 0, 1) := by decide +kernel
theorem dX3_soon_33 : decode cX3_soon 33 = .ok (.istore_n 3, 1) := by decide +kernel
theorem dX3_soon_34 : decode cX3_soon 34 = .ok (.iload_n 3, 1) := by decide +kernel
theorem dX3_soon_35 : decode cX3_soon 35 = .ok (.iload_n 2, 1) := by decide +kernel
theorem dX3_soon_36 : decode cX3_soon 36 = .ok (.if_icmp .ge 20, 3) := by decide +kernel
theorem dX3_soon_39 : decode cX3_soon 39 = .ok (.iload_n 1, 1) := by decide +kernel
theorem dX3_soon_40 : decode cX3_soon 40 = .ok (.aload_n 0, 1) := by decide +kernel
theorem dX3_soon_41 : decode cX3_soon 41 = .ok (.iload_n 2, 1) := by decide +kernel
theorem dX3_soon_42 : decode cX3_soon 42 = .ok (.iload_n 3, 1) := by decide +kernel
theorem dX3_soon_43 : decode cX3_soon 43 = .ok (.invokevirtual 165, 3) := by decide +kernel
theorem dX3_soon_46 : decode cX3_soon 46 = .ok (.invokestatic 168, 3) := by decide +kernel
theorem dX3_soon_49 : decode cX3_soon 49 = .ok (.istore_n 1, 1) := by decide +kernel
theorem dX3_soon_50 : decode cX3_soon 50 = .ok (.iinc 3 1, 3) := by decide +kernel
theorem dX3_soon_53 : decode cX3_soon 53 = .ok (.goto (-19), 3) := by decide +kernel
theorem dX3_soon_56 : decode cX3_soon 56 = .ok (.iinc 2 1, 3) := by decide +kernel
theorem dX3_soon_59 : decode cX3_soon 59 = .ok (.goto (-38), 3) := by decide +kernel
theorem dX3_soon_62 : decode cX3_soon 62 = .ok (.iload_n 1, 1) := by decide +kernel
theorem dX3_soon_63 : decode cX3_soon 63 = .ok (.ireturn, 1) := by decide +kernel
theorem dX3_settle_0 : decode cX3_settle 0 = .ok (.iload_n 1, 1) := by decide +kernel
theorem dX3_settle_1 : decode cX3_settle 1 = .ok (.ifCond .ge 10, 3) := by decide +kernel
theorem dX3_settle_4 : decode cX3_settle 4 = .ok (.aload_n 0, 1) := by decide +kernel
theorem dX3_settle_5 : decode cX3_settle 5 = .ok (.bipush (-4), 2) := by decide +kernel
theorem dX3_settle_7 : decode cX3_settle 7 = .ok (.invokevirtual 46, 3) := by decide +kernel
theorem dX3_settle_10 : decode cX3_settle 10 = .ok (.ireturn, 1) := by decide +kernel
theorem dX3_settle_11 : decode cX3_settle 11 = .ok (.iload_n 1, 1) := by decide +kernel
theorem dX3_settle_12 : decode cX3_settle 12 = .ok (.bipush 30, 2) := by decide +kernel
theorem dX3_settle_14 : decode cX3_settle 14 = .ok (.if_icmp .le 10, 3) := by decide +kernel
theorem dX3_settle_17 : decode cX3_settle 17 = .ok (.aload_n 0, 1) := by decide +kernel
theorem dX3_settle_18 : decode cX3_settle 18 = .ok (.bipush (-6), 2) := by decide +kernel
theorem dX3_settle_20 : decode cX3_settle 20 = .ok (.invokevirtual 46, 3) := by decide +kernel
theorem dX3_settle_23 : decode cX3_settle 23 = .ok (.ireturn, 1) := by decide +kernel
theorem dX3_settle_24 : decode cX3_settle 24 = .ok (.aload_n 0, 1) := by decide +kernel
theorem dX3_settle_25 : decode cX3_settle 25 = .ok (.getfield 10, 3) := by decide +kernel
theorem dX3_settle_28 : decode cX3_settle 28 = .ok (.getfield 112, 3) := by decide +kernel
theorem dX3_settle_31 : decode cX3_settle 31 = .ok (.ifCond .ne 10, 3) := by decide +kernel
theorem dX3_settle_34 : decode cX3_settle 34 = .ok (.aload_n 0, 1) := by decide +kernel
theorem dX3_settle_35 : decode cX3_settle 35 = .ok (.bipush (-3), 2) := by decide +kernel
theorem dX3_settle_37 : decode cX3_settle 37 = .ok (.invokevirtual 46, 3) := by decide +kernel
theorem dX3_settle_40 : decode cX3_settle 40 = .ok (.ireturn, 1) := by decide +kernel
theorem dX3_settle_41 : decode cX3_settle 41 = .ok (.aload_n 0, 1) := by decide +kernel
theorem dX3_settle_42 : decode cX3_settle 42 = .ok (.getfield 19, 3) := by decide +kernel
theorem dX3_settle_45 : decode cX3_settle 45 = .ok (.aload_n 0, 1) := by decide +kernel
theorem dX3_settle_46 : decode cX3_settle 46 = .ok (.getfield 10, 3) := by decide +kernel
theorem dX3_settle_49 : decode cX3_settle 49 = .ok (.invokevirtual 57, 3) := by decide +kernel
theorem dX3_settle_52 : decode cX3_settle 52 = .ok (.iconst 0, 1) := by decide +kernel
theorem dX3_settle_53 : decode cX3_settle 53 = .ok (.istore_n 2, 1) := by decide +kernel
theorem dX3_settle_54 : decode cX3_settle 54 = .ok (.iload_n 2, 1) := by decide +kernel
theorem dX3_settle_55 : decode cX3_settle 55 = .ok (.iload_n 1, 1) := by decide +kernel
theorem dX3_settle_56 : decode cX3_settle 56 = .ok (.if_icmp .ge 30, 3) := by decide +kernel
theorem dX3_settle_59 : decode cX3_settle 59 = .ok (.aload_n 0, 1) := by decide +kernel
theorem dX3_settle_60 : decode cX3_settle 60 = .ok (.getfield 19, 3) := by decide +kernel
theorem dX3_settle_63 : decode cX3_settle 63 = .ok (.aload_n 0, 1) := by decide +kernel
theorem dX3_settle_64 : decode cX3_settle 64 = .ok (.getfield 19, 3) := by decide +kernel
theorem dX3_settle_67 : decode cX3_settle 67 = .ok (.aload_n 0, 1) := by decide +kernel
theorem dX3_settle_68 : decode cX3_settle 68 = .ok (.getfield 19, 3) := by decide +kernel
theorem dX3_settle_71 : decode cX3_settle 71 = .ok (.invokevirtual 118, 3) := by decide +kernel
theorem dX3_settle_74 : decode cX3_settle 74 = .ok (.invokevirtual 121, 3) := by decide +kernel
theorem dX3_settle_77 : decode cX3_settle 77 = .ok (.invokevirtual 124, 3) := by decide +kernel
theorem dX3_settle_80 : decode cX3_settle 80 = .ok (.iinc 2 1, 3) := by decide +kernel
theorem dX3_settle_83 : decode cX3_settle 83 = .ok (.goto (-29), 3) := by decide +kernel
theorem dX3_settle_86 : decode cX3_settle 86 = .ok (.aload_n 0, 1) := by decide +kernel
theorem dX3_settle_87 : decode cX3_settle 87 = .ok (.getfield 19, 3) := by decide +kernel
theorem dX3_settle_90 : decode cX3_settle 90 = .ok (.invokevirtual 173, 3) := by decide +kernel
theorem dX3_settle_93 : decode cX3_settle 93 = .ok (.ireturn, 1) := by decide +kernel
theorem dX3_without_0 : decode cX3_without 0 = .ok (.aload_n 0, 1) := by decide +kernel
theorem dX3_without_1 : decode cX3_without 1 = .ok (.iload_n 1, 1) := by decide +kernel
theorem dX3_without_2 : decode cX3_without 2 = .ok (.invokevirtual 65, 3) := by decide +kernel
theorem dX3_without_5 : decode cX3_without 5 = .ok (.ifCond .eq 9, 3) := by decide +kernel
theorem dX3_without_8 : decode cX3_without 8 = .ok (.aload_n 0, 1) := by decide +kernel
theorem dX3_without_9 : decode cX3_without 9 = .ok (.iconst (-1), 1) := by decide +kernel
theorem dX3_without_10 : decode cX3_without 10 = .ok (.invokevirtual 46, 3) := by decide +kernel
theorem dX3_without_13 : decode cX3_without 13 = .ok (.ireturn, 1) := by decide +kernel
theorem dX3_without_14 : decode cX3_without 14 = .ok (.aload_n 0, 1) := by decide +kernel
theorem dX3_without_15 : decode cX3_without 15 = .ok (.getfield 10, 3) := by decide +kernel
theorem dX3_without_18 : decode cX3_without 18 = .ok (.aload_n 0, 1) := by decide +kernel
theorem dX3_without_19 : decode cX3_without 19 = .ok (.getfield 10, 3) := by decide +kernel
theorem dX3_without_22 : decode cX3_without 22 = .ok (.invokevirtual 118, 3) := by decide +kernel
theorem dX3_without_25 : decode cX3_without 25 = .ok (.iconst 1, 1) := by decide +kernel
theorem dX3_without_26 : decode cX3_without 26 = .ok (.iload_n 1, 1) := by decide +kernel
theorem dX3_without_27 : decode cX3_without 27 = .ok (.ishl, 1) := by decide +kernel
theorem dX3_without_28 : decode cX3_without 28 = .ok (.iconst (-1), 1) := by decide +kernel
theorem dX3_without_29 : decode cX3_without 29 = .ok (.ixor, 1) := by decide +kernel
theorem dX3_without_30 : decode cX3_without 30 = .ok (.iand, 1) := by decide +kernel
theorem dX3_without_31 : decode cX3_without 31 = .ok (.invokevirtual 121, 3) := by decide +kernel
theorem dX3_without_34 : decode cX3_without 34 = .ok (.ireturn, 1) := by decide +kernel
theorem dX3_put_0 : decode cX3_put 0 = .ok (.iload_n 1, 1) := by decide +kernel
theorem dX3_put_1 : decode cX3_put 1 = .ok (.ifCond .lt 11, 3) := by decide +kernel
theorem dX3_put_4 : decode cX3_put 4 = .ok (.iload_n 2, 1) := by decide +kernel
theorem dX3_put_5 : decode cX3_put 5 = .ok (.ifCond .lt 7, 3) := by decide +kernel
theorem dX3_put_8 : decode cX3_put 8 = .ok (.iload_n 3, 1) := by decide +kernel
theorem dX3_put_9 : decode cX3_put 9 = .ok (.ifCond .ge 10, 3) := by decide +kernel
theorem dX3_put_12 : decode cX3_put 12 = .ok (.aload_n 0, 1) := by decide +kernel
theorem dX3_put_13 : decode cX3_put 13 = .ok (.bipush (-4), 2) := by decide +kernel
theorem dX3_put_15 : decode cX3_put 15 = .ok (.invokevirtual 46, 3) := by decide +kernel
theorem dX3_put_18 : decode cX3_put 18 = .ok (.ireturn, 1) := by decide +kernel
theorem dX3_put_19 : decode cX3_put 19 = .ok (.iload_n 1, 1) := by decide +kernel
theorem dX3_put_20 : decode cX3_put 20 = .ok (.bipush 9, 2) := by decide +kernel
theorem dX3_put_22 : decode cX3_put 22 = .ok (.if_icmp .gt 15, 3) := by decide +kernel
theorem dX3_put_25 : decode cX3_put 25 = .ok (.iload_n 2, 1) := by decide +kernel
theorem dX3_put_26 : decode cX3_put 26 = .ok (.bipush 9, 2) := by decide +kernel
theorem dX3_put_28 : decode cX3_put 28 = .ok (.if_icmp .gt 9, 3) := by decide +kernel
theorem dX3_put_31 : decode cX3_put 31 = .ok (.iload_n 3, 1) := by decide +kernel
theorem dX3_put_32 : decode cX3_put 32 = .ok (.bipush 9, 2) := by decide +kernel
theorem dX3_put_34 : decode cX3_put 34 = .ok (.if_icmp .le 10, 3) := by decide +kernel
theorem dX3_put_37 : decode cX3_put 37 = .ok (.aload_n 0, 1) := by decide +kernel
theorem dX3_put_38 : decode cX3_put 38 = .ok (.bipush (-6), 2) := by decide +kernel
theorem dX3_put_40 : decode cX3_put 40 = .ok (.invokevirtual 46, 3) := by decide +kernel
theorem dX3_put_43 : decode cX3_put 43 = .ok (.ireturn, 1) := by decide +kernel
theorem dX3_put_44 : decode cX3_put 44 = .ok (.aload_n 0, 1) := by decide +kernel
theorem dX3_put_45 : decode cX3_put 45 = .ok (.getfield 19, 3) := by decide +kernel
theorem dX3_put_48 : decode cX3_put 48 = .ok (.aload_n 0, 1) := by decide +kernel
theorem dX3_put_49 : decode cX3_put 49 = .ok (.getfield 10, 3) := by decide +kernel
theorem dX3_put_52 : decode cX3_put 52 = .ok (.invokevirtual 57, 3) := by decide +kernel
theorem dX3_put_55 : decode cX3_put 55 = .ok (.aload_n 0, 1) := by decide +kernel
theorem dX3_put_56 : decode cX3_put 56 = .ok (.getfield 19, 3) := by decide +kernel
theorem dX3_put_59 : decode cX3_put 59 = .ok (.iload_n 1, 1) := by decide +kernel
theorem dX3_put_60 : decode cX3_put 60 = .ok (.iload_n 2, 1) := by decide +kernel
theorem dX3_put_61 : decode cX3_put 61 = .ok (.iconst 0, 1) := by decide +kernel
theorem dX3_put_62 : decode cX3_put 62 = .ok (.iload_n 3, 1) := by decide +kernel
theorem dX3_put_63 : decode cX3_put 63 = .ok (.invokevirtual 176, 3) := by decide +kernel
theorem dX3_put_66 : decode cX3_put 66 = .ok (.ifCond .ne 10, 3) := by decide +kernel
theorem dX3_put_69 : decode cX3_put 69 = .ok (.aload_n 0, 1) := by decide +kernel
theorem dX3_put_70 : decode cX3_put 70 = .ok (.bipush (-6), 2) := by decide +kernel
theorem dX3_put_72 : decode cX3_put 72 = .ok (.invokevirtual 46, 3) := by decide +kernel
theorem dX3_put_75 : decode cX3_put 75 = .ok (.ireturn, 1) := by decide +kernel
theorem dX3_put_76 : decode cX3_put 76 = .ok (.aload_n 0, 1) := by decide +kernel
theorem dX3_put_77 : decode cX3_put 77 = .ok (.getfield 19, 3) := by decide +kernel
theorem dX3_put_80 : decode cX3_put 80 = .ok (.aload_n 0, 1) := by decide +kernel
theorem dX3_put_81 : decode cX3_put 81 = .ok (.getfield 19, 3) := by decide +kernel
theorem dX3_put_84 : decode cX3_put 84 = .ok (.invokevirtual 118, 3) := by decide +kernel
theorem dX3_put_87 : decode cX3_put 87 = .ok (.invokevirtual 121, 3) := by decide +kernel
theorem dX3_put_90 : decode cX3_put 90 = .ok (.ireturn, 1) := by decide +kernel
theorem dX3_been_0 : decode cX3_been 0 = .ok (.iload_n 1, 1) := by decide +kernel
theorem dX3_been_1 : decode cX3_been 1 = .ok (.ifCond .ge 10, 3) := by decide +kernel
theorem dX3_been_4 : decode cX3_been 4 = .ok (.aload_n 0, 1) := by decide +kernel
theorem dX3_been_5 : decode cX3_been 5 = .ok (.bipush (-4), 2) := by decide +kernel
theorem dX3_been_7 : decode cX3_been 7 = .ok (.invokevirtual 46, 3) := by decide +kernel
theorem dX3_been_10 : decode cX3_been 10 = .ok (.ireturn, 1) := by decide +kernel
theorem dX3_been_11 : decode cX3_been 11 = .ok (.iload_n 1, 1) := by decide +kernel
theorem dX3_been_12 : decode cX3_been 12 = .ok (.bipush 10, 2) := by decide +kernel
theorem dX3_been_14 : decode cX3_been 14 = .ok (.if_icmp .lt 10, 3) := by decide +kernel
theorem dX3_been_17 : decode cX3_been 17 = .ok (.aload_n 0, 1) := by decide +kernel
theorem dX3_been_18 : decode cX3_been 18 = .ok (.bipush (-6), 2) := by decide +kernel
theorem dX3_been_20 : decode cX3_been 20 = .ok (.invokevirtual 46, 3) := by decide +kernel
theorem dX3_been_23 : decode cX3_been 23 = .ok (.ireturn, 1) := by decide +kernel
theorem dX3_been_24 : decode cX3_been 24 = .ok (.iconst 0, 1) := by decide +kernel
theorem dX3_been_25 : decode cX3_been 25 = .ok (.istore_n 2, 1) := by decide +kernel
theorem dX3_been_26 : decode cX3_been 26 = .ok (.iload_n 2, 1) := by decide +kernel
theorem dX3_been_27 : decode cX3_been 27 = .ok (.aload_n 0, 1) := by decide +kernel
theorem dX3_been_28 : decode cX3_been 28 = .ok (.getfield 10, 3) := by decide +kernel
theorem dX3_been_31 : decode cX3_been 31 = .ok (.getfield 112, 3) := by decide +kernel
theorem dX3_been_34 : decode cX3_been 34 = .ok (.if_icmp .ge 28, 3) := by decide +kernel
theorem dX3_been_37 : decode cX3_been 37 = .ok (.aload_n 0, 1) := by decide +kernel
theorem dX3_been_38 : decode cX3_been 38 = .ok (.getfield 10, 3) := by decide +kernel
theorem dX3_been_41 : decode cX3_been 41 = .ok (.getfield 180, 3) := by decide +kernel
theorem dX3_been_44 : decode cX3_been 44 = .ok (.iload_n 2, 1) := by decide +kernel
theorem dX3_been_45 : decode cX3_been 45 = .ok (.bipush 10, 2) := by decide +kernel
theorem dX3_been_47 : decode cX3_been 47 = .ok (.imul, 1) := by decide +kernel
theorem dX3_been_48 : decode cX3_been 48 = .ok (.iload_n 1, 1) := by decide +kernel
theorem dX3_been_49 : decode cX3_been 49 = .ok (.iadd, 1) := by decide +kernel
theorem dX3_been_50 : decode cX3_been 50 = .ok (.iaload, 1) := by decide +kernel
theorem dX3_been_51 : decode cX3_been 51 = .ok (.ifCond .le 5, 3) := by decide +kernel
theorem dX3_been_54 : decode cX3_been 54 = .ok (.iload_n 2, 1) := by decide +kernel
theorem dX3_been_55 : decode cX3_been 55 = .ok (.ireturn, 1) := by decide +kernel
theorem dX3_been_56 : decode cX3_been 56 = .ok (.iinc 2 1, 3) := by decide +kernel
theorem dX3_been_59 : decode cX3_been 59 = .ok (.goto (-33), 3) := by decide +kernel
theorem dX3_been_62 : decode cX3_been 62 = .ok (.bipush (-9), 2) := by decide +kernel
theorem dX3_been_64 : decode cX3_been 64 = .ok (.ireturn, 1) := by decide +kernel
theorem dX3_judge_0 : decode cX3_judge 0 = .ok (.aload_n 0, 1) := by decide +kernel
theorem dX3_judge_1 : decode cX3_judge 1 = .ok (.getfield 10, 3) := by decide +kernel
theorem dX3_judge_4 : decode cX3_judge 4 = .ok (.getfield 112, 3) := by decide +kernel
theorem dX3_judge_7 : decode cX3_judge 7 = .ok (.ifCond .ne 10, 3) := by decide +kernel
theorem dX3_judge_10 : decode cX3_judge 10 = .ok (.aload_n 0, 1) := by decide +kernel
theorem dX3_judge_11 : decode cX3_judge 11 = .ok (.bipush (-3), 2) := by decide +kernel
theorem dX3_judge_13 : decode cX3_judge 13 = .ok (.invokevirtual 46, 3) := by decide +kernel
theorem dX3_judge_16 : decode cX3_judge 16 = .ok (.ireturn, 1) := by decide +kernel
theorem dX3_judge_17 : decode cX3_judge 17 = .ok (.aload_n 0, 1) := by decide +kernel
theorem dX3_judge_18 : decode cX3_judge 18 = .ok (.getfield 10, 3) := by decide +kernel
theorem dX3_judge_21 : decode cX3_judge 21 = .ok (.getfield 99, 3) := by decide +kernel
theorem dX3_judge_24 : decode cX3_judge 24 = .ok (.iconst 0, 1) := by decide +kernel
theorem dX3_judge_25 : decode cX3_judge 25 = .ok (.iaload, 1) := by decide +kernel
theorem dX3_judge_26 : decode cX3_judge 26 = .ok (.istore_n 1, 1) := by decide +kernel
theorem dX3_judge_27 : decode cX3_judge 27 = .ok (.aload_n 0, 1) := by decide +kernel
theorem dX3_judge_28 : decode cX3_judge 28 = .ok (.iload_n 1, 1) := by decide +kernel
theorem dX3_judge_29 : decode cX3_judge 29 = .ok (.invokevirtual 159, 3) := by decide +kernel
theorem dX3_judge_32 : decode cX3_judge 32 = .ok (.aload_n 0, 1) := by decide +kernel
theorem dX3_judge_33 : decode cX3_judge 33 = .ok (.iload_n 1, 1) := by decide +kernel
theorem dX3_judge_34 : decode cX3_judge 34 = .ok (.invokevirtual 162, 3) := by decide +kernel
theorem dX3_judge_37 : decode cX3_judge 37 = .ok (.istore_n 2, 1) := by decide +kernel
theorem dX3_judge_38 : decode cX3_judge 38 = .ok (.aload_n 0, 1) := by decide +kernel
theorem dX3_judge_39 : decode cX3_judge 39 = .ok (.iconst 0, 1) := by decide +kernel
theorem dX3_judge_40 : decode cX3_judge 40 = .ok (.putfield 156, 3) := by decide +kernel
theorem dX3_judge_43 : decode cX3_judge 43 = .ok (.iload_n 2, 1) := by decide +kernel
theorem dX3_judge_44 : decode cX3_judge 44 = .ok (.ireturn, 1) := by decide +kernel
theorem dX3_seeds_0 : decode cX3_seeds 0 = .ok (.iload_n 1, 1) := by decide +kernel
theorem dX3_seeds_1 : decode cX3_seeds 1 = .ok (.iconst 1, 1) := by decide +kernel
theorem dX3_seeds_2 : decode cX3_seeds 2 = .ok (.if_icmp .ge 10, 3) := by decide +kernel
theorem dX3_seeds_5 : decode cX3_seeds 5 = .ok (.aload_n 0, 1) := by decide +kernel
theorem dX3_seeds_6 : decode cX3_seeds 6 = .ok (.bipush (-4), 2) := by decide +kernel
theorem dX3_seeds_8 : decode cX3_seeds 8 = .ok (.invokevirtual 46, 3) := by decide +kernel
theorem dX3_seeds_11 : decode cX3_seeds 11 = .ok (.ireturn, 1) := by decide +kernel
theorem dX3_seeds_12 : decode cX3_seeds 12 = .ok (.iload_n 1, 1) := by decide +kernel
theorem dX3_seeds_13 : decode cX3_seeds 13 = .ok (.bipush 60, 2) := by decide +kernel
theorem dX3_seeds_15 : decode cX3_seeds 15 = .ok (.if_icmp .le 10, 3) := by decide +kernel
theorem dX3_seeds_18 : decode cX3_seeds 18 = .ok (.aload_n 0, 1) := by decide +kernel
theorem dX3_seeds_19 : decode cX3_seeds 19 = .ok (.bipush (-6), 2) := by decide +kernel
theorem dX3_seeds_21 : decode cX3_seeds 21 = .ok (.invokevirtual 46, 3) := by decide +kernel
theorem dX3_seeds_24 : decode cX3_seeds 24 = .ok (.ireturn, 1) := by decide +kernel
theorem dX3_seeds_25 : decode cX3_seeds 25 = .ok (.aload_n 0, 1) := by decide +kernel
theorem dX3_seeds_26 : decode cX3_seeds 26 = .ok (.getfield 10, 3) := by decide +kernel
theorem dX3_seeds_29 : decode cX3_seeds 29 = .ok (.getfield 112, 3) := by decide +kernel
theorem dX3_seeds_32 : decode cX3_seeds 32 = .ok (.ifCond .ne 10, 3) := by decide +kernel
theorem dX3_seeds_35 : decode cX3_seeds 35 = .ok (.aload_n 0, 1) := by decide +kernel
theorem dX3_seeds_36 : decode cX3_seeds 36 = .ok (.bipush (-3), 2) := by decide +kernel
theorem dX3_seeds_38 : decode cX3_seeds 38 = .ok (.invokevirtual 46, 3) := by decide +kernel
theorem dX3_seeds_41 : decode cX3_seeds 41 = .ok (.ireturn, 1) := by decide +kernel
theorem dX3_seeds_42 : decode cX3_seeds 42 = .ok (.aload_n 0, 1) := by decide +kernel
theorem dX3_seeds_43 : decode cX3_seeds 43 = .ok (.getfield 19, 3) := by decide +kernel
theorem dX3_seeds_46 : decode cX3_seeds 46 = .ok (.aload_n 0, 1) := by decide +kernel
theorem dX3_seeds_47 : decode cX3_seeds 47 = .ok (.getfield 10, 3) := by decide +kernel
theorem dX3_seeds_50 : decode cX3_seeds 50 = .ok (.invokevirtual 57, 3) := by decide +kernel
theorem dX3_seeds_53 : decode cX3_seeds 53 = .ok (.iload_n 2, 1) := by decide +kernel
theorem dX3_seeds_54 : decode cX3_seeds 54 = .ok (.istore_n 3, 1) := by decide +kernel
theorem dX3_seeds_55 : decode cX3_seeds 55 = .ok (.iconst 0, 1) := by decide +kernel
theorem dX3_seeds_56 : decode cX3_seeds 56 = .ok (.istore 4, 2) := by decide +kernel
theorem dX3_seeds_58 : decode cX3_seeds 58 = .ok (.iconst 0, 1) := by decide +kernel
theorem dX3_seeds_59 : decode cX3_seeds 59 = .ok (.istore 5, 2) := by decide +kernel
theorem dX3_seeds_61 : decode cX3_seeds 61 = .ok (.iload 5, 2) := by decide +kernel
theorem dX3_seeds_63 : decode cX3_seeds 63 = .ok (.iload_n 1, 1) := by decide +kernel
theorem dX3_seeds_64 : decode cX3_seeds 64 = .ok (.if_icmp .ge 87, 3) := by decide +kernel
theorem dX3_seeds_67 : decode cX3_seeds 67 = .ok (.iload_n 3, 1) := by decide +kernel
theorem dX3_seeds_68 : decode cX3_seeds 68 = .ok (.invokestatic 183, 3) := by decide +kernel
theorem dX3_seeds_71 : decode cX3_seeds 71 = .ok (.istore_n 3, 1) := by decide +kernel
theorem dX3_seeds_72 : decode cX3_seeds 72 = .ok (.iload 4, 2) := by decide +kernel
theorem dX3_seeds_74 : decode cX3_seeds 74 = .ok (.aload_n 0, 1) := by decide +kernel
theorem dX3_seeds_75 : decode cX3_seeds 75 = .ok (.getfield 19, 3) := by decide +kernel
theorem dX3_seeds_78 : decode cX3_seeds 78 = .ok (.iconst 1, 1) := by decide +kernel
theorem dX3_seeds_79 : decode cX3_seeds 79 = .ok (.aload_n 0, 1) := by decide +kernel
theorem dX3_seeds_80 : decode cX3_seeds 80 = .ok (.getfield 19, 3) := by decide +kernel
theorem dX3_seeds_83 : decode cX3_seeds 83 = .ok (.getfield 112, 3) := by decide +kernel
theorem dX3_seeds_86 : decode cX3_seeds 86 = .ok (.iload_n 3, 1) := by decide +kernel
theorem dX3_seeds_87 : decode cX3_seeds 87 = .ok (.invokestatic 186, 3) := by decide +kernel
theorem dX3_seeds_90 : decode cX3_seeds 90 = .ok (.ishl, 1) := by decide +kernel
theorem dX3_seeds_91 : decode cX3_seeds 91 = .ok (.invokevirtual 106, 3) := by decide +kernel
theorem dX3_seeds_94 : decode cX3_seeds 94 = .ok (.iadd, 1) := by decide +kernel
theorem dX3_seeds_95 : decode cX3_seeds 95 = .ok (.istore 4, 2) := by decide +kernel
theorem dX3_seeds_97 : decode cX3_seeds 97 = .ok (.iload_n 3, 1) := by decide +kernel
theorem dX3_seeds_98 : decode cX3_seeds 98 = .ok (.invokestatic 183, 3) := by decide +kernel
theorem dX3_seeds_101 : decode cX3_seeds 101 = .ok (.istore_n 3, 1) := by decide +kernel
theorem dX3_seeds_102 : decode cX3_seeds 102 = .ok (.aload_n 0, 1) := by decide +kernel
theorem dX3_seeds_103 : decode cX3_seeds 103 = .ok (.getfield 19, 3) := by decide +kernel
theorem dX3_seeds_106 : decode cX3_seeds 106 = .ok (.aload_n 0, 1) := by decide +kernel
theorem dX3_seeds_107 : decode cX3_seeds 107 = .ok (.getfield 19, 3) := by decide +kernel
theorem dX3_seeds_110 : decode cX3_seeds 110 = .ok (.aload_n 0, 1) := by decide +kernel
theorem dX3_seeds_111 : decode cX3_seeds 111 = .ok (.getfield 19, 3) := by decide +kernel
theorem dX3_seeds_114 : decode cX3_seeds 114 = .ok (.invokevirtual 118, 3) := by decide +kernel
theorem dX3_seeds_117 : decode cX3_seeds 117 = .ok (.invokevirtual 128, 3) := by decide +kernel
theorem dX3_seeds_120 : decode cX3_seeds 120 = .ok (.invokevirtual 133, 3) := by decide +kernel
theorem dX3_seeds_123 : decode cX3_seeds 123 = .ok (.istore 6, 2) := by decide +kernel
theorem dX3_seeds_125 : decode cX3_seeds 125 = .ok (.aload_n 0, 1) := by decide +kernel
theorem dX3_seeds_126 : decode cX3_seeds 126 = .ok (.getfield 19, 3) := by decide +kernel
theorem dX3_seeds_129 : decode cX3_seeds 129 = .ok (.aload_n 0, 1) := by decide +kernel
theorem dX3_seeds_130 : decode cX3_seeds 130 = .ok (.getfield 19, 3) := by decide +kernel
theorem dX3_seeds_133 : decode cX3_seeds 133 = .ok (.iload 6, 2) := by decide +kernel
theorem dX3_seeds_135 : decode cX3_seeds 135 = .ok (.iload_n 3, 1) := by decide +kernel
theorem dX3_seeds_136 : decode cX3_seeds 136 = .ok (.invokestatic 186, 3) := by decide +kernel
theorem dX3_seeds_139 : decode cX3_seeds 139 = .ok (.invokevirtual 189, 3) := by decide +kernel
theorem dX3_seeds_142 : decode cX3_seeds 142 = .ok (.invokevirtual 124, 3) := by decide +kernel
theorem dX3_seeds_145 : decode cX3_seeds 145 = .ok (.iinc 5 1, 3) := by decide +kernel
theorem dX3_seeds_148 : decode cX3_seeds 148 = .ok (.goto (-87), 3) := by decide +kernel
theorem dX3_seeds_151 : decode cX3_seeds 151 = .ok (.iload 4, 2) := by decide +kernel
theorem dX3_seeds_153 : decode cX3_seeds 153 = .ok (.ireturn, 1) := by decide +kernel
theorem dX3_clear_0 : decode cX3_clear 0 = .ok (.aload_n 0, 1) := by decide +kernel
theorem dX3_clear_1 : decode cX3_clear 1 = .ok (.getfield 156, 3) := by decide +kernel
theorem dX3_clear_4 : decode cX3_clear 4 = .ok (.istore_n 1, 1) := by decide +kernel
theorem dX3_clear_5 : decode cX3_clear 5 = .ok (.aload_n 0, 1) := by decide +kernel
theorem dX3_clear_6 : decode cX3_clear 6 = .ok (.iconst 0, 1) := by decide +kernel
theorem dX3_clear_7 : decode cX3_clear 7 = .ok (.putfield 156, 3) := by decide +kernel
theorem dX3_clear_10 : decode cX3_clear 10 = .ok (.iload_n 1, 1) := by decide +kernel
theorem dX3_clear_11 : decode cX3_clear 11 = .ok (.ireturn, 1) := by decide +kernel
theorem dX3_image_0 : decode cX3_image 0 = .ok (.aload_n 0, 1) := by decide +kernel
theorem dX3_image_1 : decode cX3_image 1 = .ok (.getfield 16, 3) := by decide +kernel
theorem dX3_image_4 : decode cX3_image 4 = .ok (.aload_n 0, 1) := by decide +kernel
theorem dX3_image_5 : decode cX3_image 5 = .ok (.getfield 10, 3) := by decide +kernel
theorem dX3_image_8 : decode cX3_image 8 = .ok (.invokevirtual 57, 3) := by decide +kernel
theorem dX3_image_11 : decode cX3_image 11 = .ok (.aload_n 0, 1) := by decide +kernel
theorem dX3_image_12 : decode cX3_image 12 = .ok (.iconst 1, 1) := by decide +kernel
theorem dX3_image_13 : decode cX3_image 13 = .ok (.putfield 192, 3) := by decide +kernel
theorem dX3_image_16 : decode cX3_image 16 = .ok (.aload_n 0, 1) := by decide +kernel
theorem dX3_image_17 : decode cX3_image 17 = .ok (.getfield 10, 3) := by decide +kernel
theorem dX3_image_20 : decode cX3_image 20 = .ok (.getfield 115, 3) := by decide +kernel
theorem dX3_image_23 : decode cX3_image 23 = .ok (.ireturn, 1) := by decide +kernel
theorem dX3_restore_0 : decode cX3_restore 0 = .ok (.aload_n 0, 1) := by decide +kernel
theorem dX3_restore_1 : decode cX3_restore 1 = .ok (.getfield 192, 3) := by decide +kernel
theorem dX3_restore_4 : decode cX3_restore 4 = .ok (.ifCond .ne 10, 3) := by decide +kernel
theorem dX3_restore_7 : decode cX3_restore 7 = .ok (.aload_n 0, 1) := by decide +kernel
theorem dX3_restore_8 : decode cX3_restore 8 = .ok (.bipush (-3), 2) := by decide +kernel
theorem dX3_restore_10 : decode cX3_restore 10 = .ok (.invokevirtual 46, 3) := by decide +kernel
theorem dX3_restore_13 : decode cX3_restore 13 = .ok (.ireturn, 1) := by decide +kernel
theorem dX3_restore_14 : decode cX3_restore 14 = .ok (.aload_n 0, 1) := by decide +kernel
theorem dX3_restore_15 : decode cX3_restore 15 = .ok (.getfield 10, 3) := by decide +kernel
theorem dX3_restore_18 : decode cX3_restore 18 = .ok (.aload_n 0, 1) := by decide +kernel
theorem dX3_restore_19 : decode cX3_restore 19 = .ok (.getfield 16, 3) := by decide +kernel
theorem dX3_restore_22 : decode cX3_restore 22 = .ok (.invokevirtual 57, 3) := by decide +kernel
theorem dX3_restore_25 : decode cX3_restore 25 = .ok (.aload_n 0, 1) := by decide +kernel
theorem dX3_restore_26 : decode cX3_restore 26 = .ok (.getfield 10, 3) := by decide +kernel
theorem dX3_restore_29 : decode cX3_restore 29 = .ok (.getfield 115, 3) := by decide +kernel
theorem dX3_restore_32 : decode cX3_restore 32 = .ok (.ireturn, 1) := by decide +kernel
theorem dX3_count_0 : decode cX3_count 0 = .ok (.iload_n 1, 1) := by decide +kernel
theorem dX3_count_1 : decode cX3_count 1 = .ok (.tableswitch 132 0 9 #[55, 63, 71, 79, 87, 95, 103, 111, 119, 124], 55) := by decide +kernel
theorem dX3_count_56 : decode cX3_count 56 = .ok (.aload_n 0, 1) := by decide +kernel
theorem dX3_count_57 : decode cX3_count 57 = .ok (.getfield 10, 3) := by decide +kernel
theorem dX3_count_60 : decode cX3_count 60 = .ok (.getfield 112, 3) := by decide +kernel
theorem dX3_count_63 : decode cX3_count 63 = .ok (.ireturn, 1) := by decide +kernel
theorem dX3_count_64 : decode cX3_count 64 = .ok (.aload_n 0, 1) := by decide +kernel
theorem dX3_count_65 : decode cX3_count 65 = .ok (.getfield 10, 3) := by decide +kernel
theorem dX3_count_68 : decode cX3_count 68 = .ok (.getfield 115, 3) := by decide +kernel
theorem dX3_count_71 : decode cX3_count 71 = .ok (.ireturn, 1) := by decide +kernel
theorem dX3_count_72 : decode cX3_count 72 = .ok (.aload_n 0, 1) := by decide +kernel
theorem dX3_count_73 : decode cX3_count 73 = .ok (.getfield 10, 3) := by decide +kernel
theorem dX3_count_76 : decode cX3_count 76 = .ok (.invokevirtual 173, 3) := by decide +kernel
theorem dX3_count_79 : decode cX3_count 79 = .ok (.ireturn, 1) := by decide +kernel
theorem dX3_count_80 : decode cX3_count 80 = .ok (.aload_n 0, 1) := by decide +kernel
theorem dX3_count_81 : decode cX3_count 81 = .ok (.getfield 10, 3) := by decide +kernel
theorem dX3_count_84 : decode cX3_count 84 = .ok (.getfield 196, 3) := by decide +kernel
theorem dX3_count_87 : decode cX3_count 87 = .ok (.ireturn, 1) := by decide +kernel
theorem dX3_count_88 : decode cX3_count 88 = .ok (.aload_n 0, 1) := by decide +kernel
theorem dX3_count_89 : decode cX3_count 89 = .ok (.getfield 10, 3) := by decide +kernel
theorem dX3_count_92 : decode cX3_count 92 = .ok (.getfield 90, 3) := by decide +kernel
theorem dX3_count_95 : decode cX3_count 95 = .ok (.ireturn, 1) := by decide +kernel
theorem dX3_count_96 : decode cX3_count 96 = .ok (.aload_n 0, 1) := by decide +kernel
theorem dX3_count_97 : decode cX3_count 97 = .ok (.getfield 10, 3) := by decide +kernel
theorem dX3_count_100 : decode cX3_count 100 = .ok (.getfield 199, 3) := by decide +kernel
theorem dX3_count_103 : decode cX3_count 103 = .ok (.ireturn, 1) := by decide +kernel
theorem dX3_count_104 : decode cX3_count 104 = .ok (.aload_n 0, 1) := by decide +kernel
theorem dX3_count_105 : decode cX3_count 105 = .ok (.getfield 10, 3) := by decide +kernel
theorem dX3_count_108 : decode cX3_count 108 = .ok (.invokevirtual 102, 3) := by decide +kernel
theorem dX3_count_111 : decode cX3_count 111 = .ok (.ireturn, 1) := by decide +kernel
theorem dX3_count_112 : decode cX3_count 112 = .ok (.aload_n 0, 1) := by decide +kernel
theorem dX3_count_113 : decode cX3_count 113 = .ok (.getfield 32, 3) := by decide +kernel
theorem dX3_count_116 : decode cX3_count 116 = .ok (.getfield 50, 3) := by decide +kernel
theorem dX3_count_119 : decode cX3_count 119 = .ok (.ireturn, 1) := by decide +kernel
theorem dX3_count_120 : decode cX3_count 120 = .ok (.aload_n 0, 1) := by decide +kernel
theorem dX3_count_121 : decode cX3_count 121 = .ok (.getfield 156, 3) := by decide +kernel
theorem dX3_count_124 : decode cX3_count 124 = .ok (.ireturn, 1) := by decide +kernel
theorem dX3_count_125 : decode cX3_count 125 = .ok (.aload_n 0, 1) := by decide +kernel
theorem dX3_count_126 : decode cX3_count 126 = .ok (.getfield 10, 3) := by decide +kernel
theorem dX3_count_129 : decode cX3_count 129 = .ok (.getfield 109, 3) := by decide +kernel
theorem dX3_count_132 : decode cX3_count 132 = .ok (.ireturn, 1) := by decide +kernel
theorem dX3_count_133 : decode cX3_count 133 = .ok (.iload_n 1, 1) := by decide +kernel
theorem dX3_count_134 : decode cX3_count 134 = .ok (.bipush 11, 2) := by decide +kernel
theorem dX3_count_136 : decode cX3_count 136 = .ok (.if_icmp .lt 21, 3) := by decide +kernel
theorem dX3_count_139 : decode cX3_count 139 = .ok (.iload_n 1, 1) := by decide +kernel
theorem dX3_count_140 : decode cX3_count 140 = .ok (.bipush 16, 2) := by decide +kernel
theorem dX3_count_142 : decode cX3_count 142 = .ok (.if_icmp .gt 15, 3) := by decide +kernel
theorem dX3_count_145 : decode cX3_count 145 = .ok (.aload_n 0, 1) := by decide +kernel
theorem dX3_count_146 : decode cX3_count 146 = .ok (.getfield 43, 3) := by decide +kernel
theorem dX3_count_149 : decode cX3_count 149 = .ok (.iload_n 1, 1) := by decide +kernel
theorem dX3_count_150 : decode cX3_count 150 = .ok (.bipush 10, 2) := by decide +kernel
theorem dX3_count_152 : decode cX3_count 152 = .ok (.isub, 1) := by decide +kernel
theorem dX3_count_153 : decode cX3_count 153 = .ok (.iaload, 1) := by decide +kernel
theorem dX3_count_154 : decode cX3_count 154 = .ok (.goto 5, 3) := by decide +kernel
theorem dX3_count_157 : decode cX3_count 157 = .ok (.bipush (-9), 2) := by decide +kernel
theorem dX3_count_159 : decode cX3_count 159 = .ok (.ireturn, 1) := by decide +kernel
theorem dX3_refuse_0 : decode cX3_refuse 0 = .ok (.iload_n 1, 1) := by decide +kernel
theorem dX3_refuse_1 : decode cX3_refuse 1 = .ok (.ineg, 1) := by decide +kernel
theorem dX3_refuse_2 : decode cX3_refuse 2 = .ok (.istore_n 2, 1) := by decide +kernel
theorem dX3_refuse_3 : decode cX3_refuse 3 = .ok (.iload_n 2, 1) := by decide +kernel
theorem dX3_refuse_4 : decode cX3_refuse 4 = .ok (.ifCond .lt 22, 3) := by decide +kernel
theorem dX3_refuse_7 : decode cX3_refuse 7 = .ok (.iload_n 2, 1) := by decide +kernel
theorem dX3_refuse_8 : decode cX3_refuse 8 = .ok (.aload_n 0, 1) := by decide +kernel
theorem dX3_refuse_9 : decode cX3_refuse 9 = .ok (.getfield 43, 3) := by decide +kernel
theorem dX3_refuse_12 : decode cX3_refuse 12 = .ok (.arraylength, 1) := by decide +kernel
theorem dX3_refuse_13 : decode cX3_refuse 13 = .ok (.if_icmp .ge 13, 3) := by decide +kernel
theorem dX3_refuse_16 : decode cX3_refuse 16 = .ok (.aload_n 0, 1) := by decide +kernel
theorem dX3_refuse_17 : decode cX3_refuse 17 = .ok (.getfield 43, 3) := by decide +kernel
theorem dX3_refuse_20 : decode cX3_refuse 20 = .ok (.iload_n 2, 1) := by decide +kernel
theorem dX3_refuse_21 : decode cX3_refuse 21 = .ok (.dup2, 1) := by decide +kernel
theorem dX3_refuse_22 : decode cX3_refuse 22 = .ok (.iaload, 1) := by decide +kernel
theorem dX3_refuse_23 : decode cX3_refuse 23 = .ok (.iconst 1, 1) := by decide +kernel
theorem dX3_refuse_24 : decode cX3_refuse 24 = .ok (.iadd, 1) := by decide +kernel
theorem dX3_refuse_25 : decode cX3_refuse 25 = .ok (.iastore, 1) := by decide +kernel
theorem dX3_refuse_26 : decode cX3_refuse 26 = .ok (.iload_n 1, 1) := by decide +kernel
theorem dX3_refuse_27 : decode cX3_refuse 27 = .ok (.ireturn, 1) := by decide +kernel
theorem dX3_isNoNest_0 : decode cX3_isNoNest 0 = .ok (.iload_n 1, 1) := by decide +kernel
theorem dX3_isNoNest_1 : decode cX3_isNoNest 1 = .ok (.ifCond .lt 14, 3) := by decide +kernel
theorem dX3_isNoNest_4 : decode cX3_isNoNest 4 = .ok (.iload_n 1, 1) := by decide +kernel
theorem dX3_isNoNest_5 : decode cX3_isNoNest 5 = .ok (.aload_n 0, 1) := by decide +kernel
theorem dX3_isNoNest_6 : decode cX3_isNoNest 6 = .ok (.getfield 10, 3) := by decide +kernel
theorem dX3_isNoNest_9 : decode cX3_isNoNest 9 = .ok (.getfield 112, 3) := by decide +kernel
theorem dX3_isNoNest_12 : decode cX3_isNoNest 12 = .ok (.if_icmp .lt 7, 3) := by decide +kernel
theorem dX3_isNoNest_15 : decode cX3_isNoNest 15 = .ok (.iconst 1, 1) := by decide +kernel
theorem dX3_isNoNest_16 : decode cX3_isNoNest 16 = .ok (.goto 4, 3) := by decide +kernel
theorem dX3_isNoNest_19 : decode cX3_isNoNest 19 = .ok (.iconst 0, 1) := by decide +kernel
theorem dX3_isNoNest_20 : decode cX3_isNoNest 20 = .ok (.ireturn, 1) := by decide +kernel
theorem dX3_weightTonight_0 : decode cX3_weightTonight 0 = .ok (.aload_n 0, 1) := by decide +kernel
theorem dX3_weightTonight_1 : decode cX3_weightTonight 1 = .ok (.getfield 10, 3) := by decide +kernel
theorem dX3_weightTonight_4 : decode cX3_weightTonight 4 = .ok (.aload_n 0, 1) := by decide +kernel
theorem dX3_weightTonight_5 : decode cX3_weightTonight 5 = .ok (.getfield 10, 3) := by decide +kernel
theorem dX3_weightTonight_8 : decode cX3_weightTonight 8 = .ok (.aload_n 0, 1) := by decide +kernel
theorem dX3_weightTonight_9 : decode cX3_weightTonight 9 = .ok (.getfield 10, 3) := by decide +kernel
theorem dX3_weightTonight_12 : decode cX3_weightTonight 12 = .ok (.invokevirtual 118, 3) := by decide +kernel
theorem dX3_weightTonight_15 : decode cX3_weightTonight 15 = .ok (.invokevirtual 128, 3) := by decide +kernel
theorem dX3_weightTonight_18 : decode cX3_weightTonight 18 = .ok (.invokevirtual 133, 3) := by decide +kernel
theorem dX3_weightTonight_21 : decode cX3_weightTonight 21 = .ok (.pop, 1) := by decide +kernel
theorem dX3_weightTonight_22 : decode cX3_weightTonight 22 = .ok (.aload_n 0, 1) := by decide +kernel
theorem dX3_weightTonight_23 : decode cX3_weightTonight 23 = .ok (.getfield 10, 3) := by decide +kernel
theorem dX3_weightTonight_26 : decode cX3_weightTonight 26 = .ok (.getfield 136, 3) := by decide +kernel
theorem dX3_weightTonight_29 : decode cX3_weightTonight 29 = .ok (.iload_n 1, 1) := by decide +kernel
theorem dX3_weightTonight_30 : decode cX3_weightTonight 30 = .ok (.iaload, 1) := by decide +kernel
theorem dX3_weightTonight_31 : decode cX3_weightTonight 31 = .ok (.ireturn, 1) := by decide +kernel
theorem dX3_layRow_0 : decode cX3_layRow 0 = .ok (.aload_n 0, 1) := by decide +kernel
theorem dX3_layRow_1 : decode cX3_layRow 1 = .ok (.getfield 19, 3) := by decide +kernel
theorem dX3_layRow_4 : decode cX3_layRow 4 = .ok (.aload_n 0, 1) := by decide +kernel
theorem dX3_layRow_5 : decode cX3_layRow 5 = .ok (.getfield 10, 3) := by decide +kernel
theorem dX3_layRow_8 : decode cX3_layRow 8 = .ok (.invokevirtual 57, 3) := by decide +kernel
theorem dX3_layRow_11 : decode cX3_layRow 11 = .ok (.aload_n 0, 1) := by decide +kernel
theorem dX3_layRow_12 : decode cX3_layRow 12 = .ok (.getfield 19, 3) := by decide +kernel
theorem dX3_layRow_15 : decode cX3_layRow 15 = .ok (.getfield 99, 3) := by decide +kernel
theorem dX3_layRow_18 : decode cX3_layRow 18 = .ok (.iconst 0, 1) := by decide +kernel
theorem dX3_layRow_19 : decode cX3_layRow 19 = .ok (.iload_n 1, 1) := by decide +kernel
theorem dX3_layRow_20 : decode cX3_layRow 20 = .ok (.iastore, 1) := by decide +kernel
theorem dX3_layRow_21 : decode cX3_layRow 21 = .ok (.iconst 0, 1) := by decide +kernel
theorem dX3_layRow_22 : decode cX3_layRow 22 = .ok (.istore_n 2, 1) := by decide +kernel
theorem dX3_layRow_23 : decode cX3_layRow 23 = .ok (.iload_n 2, 1) := by decide +kernel
theorem dX3_layRow_24 : decode cX3_layRow 24 = .ok (.bipush 8, 2) := by decide +kernel
theorem dX3_layRow_26 : decode cX3_layRow 26 = .ok (.if_icmp .ge 44, 3) := by decide +kernel
theorem dX3_layRow_29 : decode cX3_layRow 29 = .ok (.aload_n 0, 1) := by decide +kernel
theorem dX3_layRow_30 : decode cX3_layRow 30 = .ok (.getfield 19, 3) := by decide +kernel
theorem dX3_layRow_33 : decode cX3_layRow 33 = .ok (.aload_n 0, 1) := by decide +kernel
theorem dX3_layRow_34 : decode cX3_layRow 34 = .ok (.getfield 19, 3) := by decide +kernel
theorem dX3_layRow_37 : decode cX3_layRow 37 = .ok (.invokevirtual 118, 3) := by decide +kernel
theorem dX3_layRow_40 : decode cX3_layRow 40 = .ok (.invokevirtual 121, 3) := by decide +kernel
theorem dX3_layRow_43 : decode cX3_layRow 43 = .ok (.istore_n 3, 1) := by decide +kernel
theorem dX3_layRow_44 : decode cX3_layRow 44 = .ok (.aload_n 0, 1) := by decide +kernel
theorem dX3_layRow_45 : decode cX3_layRow 45 = .ok (.getfield 40, 3) := by decide +kernel
theorem dX3_layRow_48 : decode cX3_layRow 48 = .ok (.iload_n 1, 1) := by decide +kernel
theorem dX3_layRow_49 : decode cX3_layRow 49 = .ok (.bipush 8, 2) := by decide +kernel
theorem dX3_layRow_51 : decode cX3_layRow 51 = .ok (.imul, 1) := by decide +kernel
theorem dX3_layRow_52 : decode cX3_layRow 52 = .ok (.iload_n 2, 1) := by decide +kernel
theorem dX3_layRow_53 : decode cX3_layRow 53 = .ok (.iadd, 1) := by decide +kernel
theorem dX3_layRow_54 : decode cX3_layRow 54 = .ok (.iload_n 3, 1) := by decide +kernel
theorem dX3_layRow_55 : decode cX3_layRow 55 = .ok (.iastore, 1) := by decide +kernel
theorem dX3_layRow_56 : decode cX3_layRow 56 = .ok (.aload_n 0, 1) := by decide +kernel
theorem dX3_layRow_57 : decode cX3_layRow 57 = .ok (.getfield 19, 3) := by decide +kernel
theorem dX3_layRow_60 : decode cX3_layRow 60 = .ok (.iload_n 3, 1) := by decide +kernel
theorem dX3_layRow_61 : decode cX3_layRow 61 = .ok (.invokevirtual 124, 3) := by decide +kernel
theorem dX3_layRow_64 : decode cX3_layRow 64 = .ok (.iinc 2 1, 3) := by decide +kernel
theorem dX3_layRow_67 : decode cX3_layRow 67 = .ok (.goto (-44), 3) := by decide +kernel
theorem dX3_layRow_70 : decode cX3_layRow 70 = .ok (.return_, 1) := by decide +kernel
theorem dX3_firstUntrue_0 : decode cX3_firstUntrue 0 = .ok (.iconst 0, 1) := by decide +kernel
theorem dX3_firstUntrue_1 : decode cX3_firstUntrue 1 = .ok (.istore_n 2, 1) := by decide +kernel
theorem dX3_firstUntrue_2 : decode cX3_firstUntrue 2 = .ok (.iload_n 2, 1) := by decide +kernel
theorem dX3_firstUntrue_3 : decode cX3_firstUntrue 3 = .ok (.aload_n 0, 1) := by decide +kernel
theorem dX3_firstUntrue_4 : decode cX3_firstUntrue 4 = .ok (.getfield 156, 3) := by decide +kernel
theorem dX3_firstUntrue_7 : decode cX3_firstUntrue 7 = .ok (.if_icmp .ge 31, 3) := by decide +kernel
theorem dX3_firstUntrue_10 : decode cX3_firstUntrue 10 = .ok (.aload_n 0, 1) := by decide +kernel
theorem dX3_firstUntrue_11 : decode cX3_firstUntrue 11 = .ok (.getfield 36, 3) := by decide +kernel
theorem dX3_firstUntrue_14 : decode cX3_firstUntrue 14 = .ok (.iload_n 2, 1) := by decide +kernel
theorem dX3_firstUntrue_15 : decode cX3_firstUntrue 15 = .ok (.iaload, 1) := by decide +kernel
theorem dX3_firstUntrue_16 : decode cX3_firstUntrue 16 = .ok (.aload_n 0, 1) := by decide +kernel
theorem dX3_firstUntrue_17 : decode cX3_firstUntrue 17 = .ok (.getfield 40, 3) := by decide +kernel
theorem dX3_firstUntrue_20 : decode cX3_firstUntrue 20 = .ok (.iload_n 1, 1) := by decide +kernel
theorem dX3_firstUntrue_21 : decode cX3_firstUntrue 21 = .ok (.bipush 8, 2) := by decide +kernel
theorem dX3_firstUntrue_23 : decode cX3_firstUntrue 23 = .ok (.imul, 1) := by decide +kernel
theorem dX3_firstUntrue_24 : decode cX3_firstUntrue 24 = .ok (.iload_n 2, 1) := by decide +kernel
theorem dX3_firstUntrue_25 : decode cX3_firstUntrue 25 = .ok (.iadd, 1) := by decide +kernel
theorem dX3_firstUntrue_26 : decode cX3_firstUntrue 26 = .ok (.iaload, 1) := by decide +kernel
theorem dX3_firstUntrue_27 : decode cX3_firstUntrue 27 = .ok (.if_icmp .eq 5, 3) := by decide +kernel
theorem dX3_firstUntrue_30 : decode cX3_firstUntrue 30 = .ok (.iload_n 2, 1) := by decide +kernel
theorem dX3_firstUntrue_31 : decode cX3_firstUntrue 31 = .ok (.ireturn, 1) := by decide +kernel
theorem dX3_firstUntrue_32 : decode cX3_firstUntrue 32 = .ok (.iinc 2 1, 3) := by decide +kernel
theorem dX3_firstUntrue_35 : decode cX3_firstUntrue 35 = .ok (.goto (-33), 3) := by decide +kernel
theorem dX3_firstUntrue_38 : decode cX3_firstUntrue 38 = .ok (.bipush (-9), 2) := by decide +kernel
theorem dX3_firstUntrue_40 : decode cX3_firstUntrue 40 = .ok (.ireturn, 1) := by decide +kernel
theorem dX3_nightsUntilUnlike_0 : decode cX3_nightsUntilUnlike 0 = .ok (.iconst 0, 1) := by decide +kernel
theorem dX3_nightsUntilUnlike_1 : decode cX3_nightsUntilUnlike 1 = .ok (.istore_n 3, 1) := by decide +kernel
theorem dX3_nightsUntilUnlike_2 : decode cX3_nightsUntilUnlike 2 = .ok (.iload_n 3, 1) := by decide +kernel
theorem dX3_nightsUntilUnlike_3 : decode cX3_nightsUntilUnlike 3 = .ok (.bipush 8, 2) := by decide +kernel
theorem dX3_nightsUntilUnlike_5 : decode cX3_nightsUntilUnlike 5 = .ok (.if_icmp .ge 38, 3) := by decide +kernel
theorem dX3_nightsUntilUnlike_8 : decode cX3_nightsUntilUnlike 8 = .ok (.aload_n 0, 1) := by decide +kernel
theorem dX3_nightsUntilUnlike_9 : decode cX3_nightsUntilUnlike 9 = .ok (.getfield 40, 3) := by decide +kernel
theorem dX3_nightsUntilUnlike_12 : decode cX3_nightsUntilUnlike 12 = .ok (.iload_n 1, 1) := by decide +kernel
theorem dX3_nightsUntilUnlike_13 : decode cX3_nightsUntilUnlike 13 = .ok (.bipush 8, 2) := by decide +kernel
theorem dX3_nightsUntilUnlike_15 : decode cX3_nightsUntilUnlike 15 = .ok (.imul, 1) := by decide +kernel
theorem dX3_nightsUntilUnlike_16 : decode cX3_nightsUntilUnlike 16 = .ok (.iload_n 3, 1) := by decide +kernel
theorem dX3_nightsUntilUnlike_17 : decode cX3_nightsUntilUnlike 17 = .ok (.iadd, 1) := by decide +kernel
theorem dX3_nightsUntilUnlike_18 : decode cX3_nightsUntilUnlike 18 = .ok (.iaload, 1) := by decide +kernel
theorem dX3_nightsUntilUnlike_19 : decode cX3_nightsUntilUnlike 19 = .ok (.aload_n 0, 1) := by decide +kernel
theorem dX3_nightsUntilUnlike_20 : decode cX3_nightsUntilUnlike 20 = .ok (.getfield 40, 3) := by decide +kernel
theorem dX3_nightsUntilUnlike_23 : decode cX3_nightsUntilUnlike 23 = .ok (.iload_n 2, 1) := by decide +kernel
theorem dX3_nightsUntilUnlike_24 : decode cX3_nightsUntilUnlike 24 = .ok (.bipush 8, 2) := by decide +kernel
theorem dX3_nightsUntilUnlike_26 : decode cX3_nightsUntilUnlike 26 = .ok (.imul, 1) := by decide +kernel
theorem dX3_nightsUntilUnlike_27 : decode cX3_nightsUntilUnlike 27 = .ok (.iload_n 3, 1) := by decide +kernel
theorem dX3_nightsUntilUnlike_28 : decode cX3_nightsUntilUnlike 28 = .ok (.iadd, 1) := by decide +kernel
theorem dX3_nightsUntilUnlike_29 : decode cX3_nightsUntilUnlike 29 = .ok (.iaload, 1) := by decide +kernel
theorem dX3_nightsUntilUnlike_30 : decode cX3_nightsUntilUnlike 30 = .ok (.if_icmp .eq 7, 3) := by decide +kernel
theorem dX3_nightsUntilUnlike_33 : decode cX3_nightsUntilUnlike 33 = .ok (.iload_n 3, 1) := by decide +kernel
theorem dX3_nightsUntilUnlike_34 : decode cX3_nightsUntilUnlike 34 = .ok (.iconst 1, 1) := by decide +kernel
theorem dX3_nightsUntilUnlike_35 : decode cX3_nightsUntilUnlike 35 = .ok (.iadd, 1) := by decide +kernel
theorem dX3_nightsUntilUnlike_36 : decode cX3_nightsUntilUnlike 36 = .ok (.ireturn, 1) := by decide +kernel
theorem dX3_nightsUntilUnlike_37 : decode cX3_nightsUntilUnlike 37 = .ok (.iinc 3 1, 3) := by decide +kernel
theorem dX3_nightsUntilUnlike_40 : decode cX3_nightsUntilUnlike 40 = .ok (.goto (-38), 3) := by decide +kernel
theorem dX3_nightsUntilUnlike_43 : decode cX3_nightsUntilUnlike 43 = .ok (.iconst 0, 1) := by decide +kernel
theorem dX3_nightsUntilUnlike_44 : decode cX3_nightsUntilUnlike 44 = .ok (.ireturn, 1) := by decide +kernel
theorem dX3_nextSeed_0 : decode cX3_nextSeed 0 = .ok (.iload_n 0, 1) := by decide +kernel
theorem dX3_nextSeed_1 : decode cX3_nextSeed 1 = .ok (.ldc 202, 2) := by decide +kernel
theorem dX3_nextSeed_3 : decode cX3_nextSeed 3 = .ok (.imul, 1) := by decide +kernel
theorem dX3_nextSeed_4 : decode cX3_nextSeed 4 = .ok (.sipush 12345, 3) := by decide +kernel
theorem dX3_nextSeed_7 : decode cX3_nextSeed 7 = .ok (.iadd, 1) := by decide +kernel
theorem dX3_nextSeed_8 : decode cX3_nextSeed 8 = .ok (.ireturn, 1) := by decide +kernel
theorem dX3_drawBelow_0 : decode cX3_drawBelow 0 = .ok (.iload_n 0, 1) := by decide +kernel
theorem dX3_drawBelow_1 : decode cX3_drawBelow 1 = .ok (.iconst 1, 1) := by decide +kernel
theorem dX3_drawBelow_2 : decode cX3_drawBelow 2 = .ok (.if_icmp .ge 7, 3) := by decide +kernel
theorem dX3_drawBelow_5 : decode cX3_drawBelow 5 = .ok (.iconst 0, 1) := by decide +kernel
theorem dX3_drawBelow_6 : decode cX3_drawBelow 6 = .ok (.goto 12, 3) := by decide +kernel
theorem dX3_drawBelow_9 : decode cX3_drawBelow 9 = .ok (.iload_n 1, 1) := by decide +kernel
theorem dX3_drawBelow_10 : decode cX3_drawBelow 10 = .ok (.ldc 203, 2) := by decide +kernel
theorem dX3_drawBelow_12 : decode cX3_drawBelow 12 = .ok (.iand, 1) := by decide +kernel
theorem dX3_drawBelow_13 : decode cX3_drawBelow 13 = .ok (.ldc 204, 2) := by decide +kernel
theorem dX3_drawBelow_15 : decode cX3_drawBelow 15 = .ok (.idiv, 1) := by decide +kernel
theorem dX3_drawBelow_16 : decode cX3_drawBelow 16 = .ok (.iload_n 0, 1) := by decide +kernel
theorem dX3_drawBelow_17 : decode cX3_drawBelow 17 = .ok (.irem, 1) := by decide +kernel
theorem dX3_drawBelow_18 : decode cX3_drawBelow 18 = .ok (.ireturn, 1) := by decide +kernel
theorem dX3_commonDivisor_0 : decode cX3_commonDivisor 0 = .ok (.iload_n 0, 1) := by decide +kernel
theorem dX3_commonDivisor_1 : decode cX3_commonDivisor 1 = .ok (.istore_n 2, 1) := by decide +kernel
theorem dX3_commonDivisor_2 : decode cX3_commonDivisor 2 = .ok (.iload_n 1, 1) := by decide +kernel
theorem dX3_commonDivisor_3 : decode cX3_commonDivisor 3 = .ok (.istore_n 3, 1) := by decide +kernel
theorem dX3_commonDivisor_4 : decode cX3_commonDivisor 4 = .ok (.iconst 0, 1) := by decide +kernel
theorem dX3_commonDivisor_5 : decode cX3_commonDivisor 5 = .ok (.istore 4, 2) := by decide +kernel
theorem dX3_commonDivisor_7 : decode cX3_commonDivisor 7 = .ok (.iload 4, 2) := by decide +kernel
theorem dX3_commonDivisor_9 : decode cX3_commonDivisor 9 = .ok (.bipush 64, 2) := by decide +kernel
theorem dX3_commonDivisor_11 : decode cX3_commonDivisor 11 = .ok (.if_icmp .ge 23, 3) := by decide +kernel
theorem dX3_commonDivisor_14 : decode cX3_commonDivisor 14 = .ok (.iload_n 3, 1) := by decide +kernel
theorem dX3_commonDivisor_15 : decode cX3_commonDivisor 15 = .ok (.ifCond .eq 19, 3) := by decide +kernel
theorem dX3_commonDivisor_18 : decode cX3_commonDivisor 18 = .ok (.iload_n 2, 1) := by decide +kernel
theorem dX3_commonDivisor_19 : decode cX3_commonDivisor 19 = .ok (.iload_n 3, 1) := by decide +kernel
theorem dX3_commonDivisor_20 : decode cX3_commonDivisor 20 = .ok (.irem, 1) := by decide +kernel
theorem dX3_commonDivisor_21 : decode cX3_commonDivisor 21 = .ok (.istore 5, 2) := by decide +kernel
theorem dX3_commonDivisor_23 : decode cX3_commonDivisor 23 = .ok (.iload_n 3, 1) := by decide +kernel
theorem dX3_commonDivisor_24 : decode cX3_commonDivisor 24 = .ok (.istore_n 2, 1) := by decide +kernel
theorem dX3_commonDivisor_25 : decode cX3_commonDivisor 25 = .ok (.iload 5, 2) := by decide +kernel
theorem dX3_commonDivisor_27 : decode cX3_commonDivisor 27 = .ok (.istore_n 3, 1) := by decide +kernel
theorem dX3_commonDivisor_28 : decode cX3_commonDivisor 28 = .ok (.iinc 4 1, 3) := by decide +kernel
theorem dX3_commonDivisor_31 : decode cX3_commonDivisor 31 = .ok (.goto (-24), 3) := by decide +kernel
theorem dX3_commonDivisor_34 : decode cX3_commonDivisor 34 = .ok (.iload_n 2, 1) := by decide +kernel
theorem dX3_commonDivisor_35 : decode cX3_commonDivisor 35 = .ok (.ireturn, 1) := by decide +kernel
end
section
/-! decode rows of the reference, the law, the JDK -/
abbrev cL_law : ByteArray := code
theorem dX4_init_0 : decode cX4_init 0 = .ok (.aload_n 0, 1) := by decide +kernel
theorem dX4_init_1 : decode cX4_init 1 = .ok (.invokespecial 1, 3) := by decide +kernel
theorem dX4_init_4 : decode cX4_init 4 = .ok (.aload_n 0, 1) := by decide +kernel
theorem dX4_init_5 : decode cX4_init 5 = .ok (.bipush 10, 2) := by decide +kernel
theorem dX4_init_7 : decode cX4_init 7 = .ok (.putfield 7, 3) := by decide +kernel
theorem dX4_init_10 : decode cX4_init 10 = .ok (.aload_n 0, 1) := by decide +kernel
theorem dX4_init_11 : decode cX4_init 11 = .ok (.bipush 9, 2) := by decide +kernel
theorem dX4_init_13 : decode cX4_init 13 = .ok (.putfield 13, 3) := by decide +kernel
theorem dX4_init_16 : decode cX4_init 16 = .ok (.aload_n 0, 1) := by decide +kernel
theorem dX4_init_17 : decode cX4_init 17 = .ok (.iconst (-1), 1) := by decide +kernel
theorem dX4_init_18 : decode cX4_init 18 = .ok (.putfield 16, 3) := by decide +kernel
theorem dX4_init_21 : decode cX4_init 21 = .ok (.aload_n 0, 1) := by decide +kernel
theorem dX4_init_22 : decode cX4_init 22 = .ok (.bipush 7, 2) := by decide +kernel
theorem dX4_init_24 : decode cX4_init 24 = .ok (.newarray .int, 2) := by decide +kernel
theorem dX4_init_26 : decode cX4_init 26 = .ok (.putfield 19, 3) := by decide +kernel
theorem dX4_init_29 : decode cX4_init 29 = .ok (.aload_n 0, 1) := by decide +kernel
theorem dX4_init_30 : decode cX4_init 30 = .ok (.bipush 7, 2) := by decide +kernel
theorem dX4_init_32 : decode cX4_init 32 = .ok (.newarray .int, 2) := by decide +kernel
theorem dX4_init_34 : decode cX4_init 34 = .ok (.putfield 23, 3) := by decide +kernel
theorem dX4_init_37 : decode cX4_init 37 = .ok (.aload_n 0, 1) := by decide +kernel
theorem dX4_init_38 : decode cX4_init 38 = .ok (.bipush 7, 2) := by decide +kernel
theorem dX4_init_40 : decode cX4_init 40 = .ok (.newarray .int, 2) := by decide +kernel
theorem dX4_init_42 : decode cX4_init 42 = .ok (.putfield 26, 3) := by decide +kernel
theorem dX4_init_45 : decode cX4_init 45 = .ok (.aload_n 0, 1) := by decide +kernel
theorem dX4_init_46 : decode cX4_init 46 = .ok (.bipush 7, 2) := by decide +kernel
theorem dX4_init_48 : decode cX4_init 48 = .ok (.newarray .int, 2) := by decide +kernel
theorem dX4_init_50 : decode cX4_init 50 = .ok (.putfield 29, 3) := by decide +kernel
theorem dX4_init_53 : decode cX4_init 53 = .ok (.aload_n 0, 1) := by decide +kernel
theorem dX4_init_54 : decode cX4_init 54 = .ok (.bipush 70, 2) := by decide +kernel
theorem dX4_init_56 : decode cX4_init 56 = .ok (.newarray .int, 2) := by decide +kernel
theorem dX4_init_58 : decode cX4_init 58 = .ok (.putfield 32, 3) := by decide +kernel
theorem dX4_init_61 : decode cX4_init 61 = .ok (.aload_n 0, 1) := by decide +kernel
theorem dX4_init_62 : decode cX4_init 62 = .ok (.bipush 7, 2) := by decide +kernel
theorem dX4_init_64 : decode cX4_init 64 = .ok (.newarray .int, 2) := by decide +kernel
theorem dX4_init_66 : decode cX4_init 66 = .ok (.putfield 35, 3) := by decide +kernel
theorem dX4_init_69 : decode cX4_init 69 = .ok (.aload_n 0, 1) := by decide +kernel
theorem dX4_init_70 : decode cX4_init 70 = .ok (.iconst (-1), 1) := by decide +kernel
theorem dX4_init_71 : decode cX4_init 71 = .ok (.putfield 38, 3) := by decide +kernel
theorem dX4_init_74 : decode cX4_init 74 = .ok (.aload_n 0, 1) := by decide +kernel
theorem dX4_init_75 : decode cX4_init 75 = .ok (.bipush 7, 2) := by decide +kernel
theorem dX4_init_77 : decode cX4_init 77 = .ok (.newarray .int, 2) := by decide +kernel
theorem dX4_init_79 : decode cX4_init 79 = .ok (.putfield 41, 3) := by decide +kernel
theorem dX4_init_82 : decode cX4_init 82 = .ok (.aload_n 0, 1) := by decide +kernel
theorem dX4_init_83 : decode cX4_init 83 = .ok (.bipush 108, 2) := by decide +kernel
theorem dX4_init_85 : decode cX4_init 85 = .ok (.newarray .int, 2) := by decide +kernel
theorem dX4_init_87 : decode cX4_init 87 = .ok (.putfield 44, 3) := by decide +kernel
theorem dX4_init_90 : decode cX4_init 90 = .ok (.aload_n 0, 1) := by decide +kernel
theorem dX4_init_91 : decode cX4_init 91 = .ok (.bipush 108, 2) := by decide +kernel
theorem dX4_init_93 : decode cX4_init 93 = .ok (.newarray .int, 2) := by decide +kernel
theorem dX4_init_95 : decode cX4_init 95 = .ok (.putfield 47, 3) := by decide +kernel
theorem dX4_init_98 : decode cX4_init 98 = .ok (.aload_n 0, 1) := by decide +kernel
theorem dX4_init_99 : decode cX4_init 99 = .ok (.bipush 108, 2) := by decide +kernel
theorem dX4_init_101 : decode cX4_init 101 = .ok (.newarray .int, 2) := by decide +kernel
theorem dX4_init_103 : decode cX4_init 103 = .ok (.putfield 50, 3) := by decide +kernel
theorem dX4_init_106 : decode cX4_init 106 = .ok (.aload_n 0, 1) := by decide +kernel
theorem dX4_init_107 : decode cX4_init 107 = .ok (.bipush 108, 2) := by decide +kernel
theorem dX4_init_109 : decode cX4_init 109 = .ok (.newarray .int, 2) := by decide +kernel
theorem dX4_init_111 : decode cX4_init 111 = .ok (.putfield 53, 3) := by decide +kernel
theorem dX4_init_114 : decode cX4_init 114 = .ok (.aload_n 0, 1) := by decide +kernel
theorem dX4_init_115 : decode cX4_init 115 = .ok (.bipush 80, 2) := by decide +kernel
theorem dX4_init_117 : decode cX4_init 117 = .ok (.newarray .int, 2) := by decide +kernel
theorem dX4_init_119 : decode cX4_init 119 = .ok (.putfield 56, 3) := by decide +kernel
theorem dX4_init_122 : decode cX4_init 122 = .ok (.aload_n 0, 1) := by decide +kernel
theorem dX4_init_123 : decode cX4_init 123 = .ok (.bipush 41, 2) := by decide +kernel
theorem dX4_init_125 : decode cX4_init 125 = .ok (.newarray .int, 2) := by decide +kernel
theorem dX4_init_127 : decode cX4_init 127 = .ok (.putfield 59, 3) := by decide +kernel
theorem dX4_init_130 : decode cX4_init 130 = .ok (.aload_n 0, 1) := by decide +kernel
theorem dX4_init_131 : decode cX4_init 131 = .ok (.bipush 41, 2) := by decide +kernel
theorem dX4_init_133 : decode cX4_init 133 = .ok (.newarray .int, 2) := by decide +kernel
theorem dX4_init_135 : decode cX4_init 135 = .ok (.putfield 62, 3) := by decide +kernel
theorem dX4_init_138 : decode cX4_init 138 = .ok (.aload_n 0, 1) := by decide +kernel
theorem dX4_init_139 : decode cX4_init 139 = .ok (.sipush 164, 3) := by decide +kernel
theorem dX4_init_142 : decode cX4_init 142 = .ok (.newarray .int, 2) := by decide +kernel
theorem dX4_init_144 : decode cX4_init 144 = .ok (.putfield 65, 3) := by decide +kernel
theorem dX4_init_147 : decode cX4_init 147 = .ok (.aload_n 0, 1) := by decide +kernel
theorem dX4_init_148 : decode cX4_init 148 = .ok (.bipush 8, 2) := by decide +kernel
theorem dX4_init_150 : decode cX4_init 150 = .ok (.newarray .int, 2) := by decide +kernel
theorem dX4_init_152 : decode cX4_init 152 = .ok (.putfield 68, 3) := by decide +kernel
theorem dX4_init_155 : decode cX4_init 155 = .ok (.aload_n 0, 1) := by decide +kernel
theorem dX4_init_156 : decode cX4_init 156 = .ok (.bipush 48, 2) := by decide +kernel
theorem dX4_init_158 : decode cX4_init 158 = .ok (.newarray .int, 2) := by decide +kernel
theorem dX4_init_160 : decode cX4_init 160 = .ok (.putfield 71, 3) := by decide +kernel
theorem dX4_init_163 : decode cX4_init 163 = .ok (.aload_n 0, 1) := by decide +kernel
theorem dX4_init_164 : decode cX4_init 164 = .ok (.iconst 0, 1) := by decide +kernel
theorem dX4_init_165 : decode cX4_init 165 = .ok (.putfield 74, 3) := by decide +kernel
theorem dX4_init_168 : decode cX4_init 168 = .ok (.return_, 1) := by decide +kernel
theorem dX4_in_0 : decode cX4_in 0 = .ok (.lload_n 0, 1) := by decide +kernel
theorem dX4_in_1 : decode cX4_in 1 = .ok (.lload_n 2, 1) := by decide +kernel
theorem dX4_in_2 : decode cX4_in 2 = .ok (.lcmp, 1) := by decide +kernel
theorem dX4_in_3 : decode cX4_in 3 = .ok (.ifCond .lt 14, 3) := by decide +kernel
theorem dX4_in_6 : decode cX4_in 6 = .ok (.lload_n 0, 1) := by decide +kernel
theorem dX4_in_7 : decode cX4_in 7 = .ok (.lload 4, 2) := by decide +kernel
theorem dX4_in_9 : decode cX4_in 9 = .ok (.lcmp, 1) := by decide +kernel
theorem dX4_in_10 : decode cX4_in 10 = .ok (.ifCond .gt 7, 3) := by decide +kernel
theorem dX4_in_13 : decode cX4_in 13 = .ok (.iconst 1, 1) := by decide +kernel
theorem dX4_in_14 : decode cX4_in 14 = .ok (.goto 4, 3) := by decide +kernel
theorem dX4_in_17 : decode cX4_in 17 = .ok (.iconst 0, 1) := by decide +kernel
theorem dX4_in_18 : decode cX4_in 18 = .ok (.ireturn, 1) := by decide +kernel
theorem dX4_refuse_0 : decode cX4_refuse 0 = .ok (.aload_n 0, 1) := by decide +kernel
theorem dX4_refuse_1 : decode cX4_refuse 1 = .ok (.getfield 35, 3) := by decide +kernel
theorem dX4_refuse_4 : decode cX4_refuse 4 = .ok (.iload_n 1, 1) := by decide +kernel
theorem dX4_refuse_5 : decode cX4_refuse 5 = .ok (.ineg, 1) := by decide +kernel
theorem dX4_refuse_6 : decode cX4_refuse 6 = .ok (.dup2, 1) := by decide +kernel
theorem dX4_refuse_7 : decode cX4_refuse 7 = .ok (.iaload, 1) := by decide +kernel
theorem dX4_refuse_8 : decode cX4_refuse 8 = .ok (.iconst 1, 1) := by decide +kernel
theorem dX4_refuse_9 : decode cX4_refuse 9 = .ok (.iadd, 1) := by decide +kernel
theorem dX4_refuse_10 : decode cX4_refuse 10 = .ok (.iastore, 1) := by decide +kernel
theorem dX4_refuse_11 : decode cX4_refuse 11 = .ok (.iload_n 1, 1) := by decide +kernel
theorem dX4_refuse_12 : decode cX4_refuse 12 = .ok (.ireturn, 1) := by decide +kernel
theorem dX4_isNest_0 : decode cX4_isNest 0 = .ok (.iload_n 1, 1) := by decide +kernel
theorem dX4_isNest_1 : decode cX4_isNest 1 = .ok (.i2l, 1) := by decide +kernel
theorem dX4_isNest_2 : decode cX4_isNest 2 = .ok (.lconst 0, 1) := by decide +kernel
theorem dX4_isNest_3 : decode cX4_isNest 3 = .ok (.aload_n 0, 1) := by decide +kernel
theorem dX4_isNest_4 : decode cX4_isNest 4 = .ok (.getfield 77, 3) := by decide +kernel
theorem dX4_isNest_7 : decode cX4_isNest 7 = .ok (.iconst 1, 1) := by decide +kernel
theorem dX4_isNest_8 : decode cX4_isNest 8 = .ok (.isub, 1) := by decide +kernel
theorem dX4_isNest_9 : decode cX4_isNest 9 = .ok (.i2l, 1) := by decide +kernel
theorem dX4_isNest_10 : decode cX4_isNest 10 = .ok (.invokestatic 80, 3) := by decide +kernel
theorem dX4_isNest_13 : decode cX4_isNest 13 = .ok (.ireturn, 1) := by decide +kernel
theorem dX4_eggsIn_0 : decode cX4_eggsIn 0 = .ok (.iconst 0, 1) := by decide +kernel
theorem dX4_eggsIn_1 : decode cX4_eggsIn 1 = .ok (.istore_n 2, 1) := by decide +kernel
theorem dX4_eggsIn_2 : decode cX4_eggsIn 2 = .ok (.iconst 0, 1) := by decide +kernel
theorem dX4_eggsIn_3 : decode cX4_eggsIn 3 = .ok (.istore_n 3, 1) := by decide +kernel
theorem dX4_eggsIn_4 : decode cX4_eggsIn 4 = .ok (.iload_n 3, 1) := by decide +kernel
theorem dX4_eggsIn_5 : decode cX4_eggsIn 5 = .ok (.bipush 10, 2) := by decide +kernel
theorem dX4_eggsIn_7 : decode cX4_eggsIn 7 = .ok (.if_icmp .ge 23, 3) := by decide +kernel
theorem dX4_eggsIn_10 : decode cX4_eggsIn 10 = .ok (.iload_n 2, 1) := by decide +kernel
theorem dX4_eggsIn_11 : decode cX4_eggsIn 11 = .ok (.aload_n 0, 1) := by decide +kernel
theorem dX4_eggsIn_12 : decode cX4_eggsIn 12 = .ok (.getfield 32, 3) := by decide +kernel
theorem dX4_eggsIn_15 : decode cX4_eggsIn 15 = .ok (.bipush 10, 2) := by decide +kernel
theorem dX4_eggsIn_17 : decode cX4_eggsIn 17 = .ok (.iload_n 1, 1) := by decide +kernel
theorem dX4_eggsIn_18 : decode cX4_eggsIn 18 = .ok (.imul, 1) := by decide +kernel
theorem dX4_eggsIn_19 : decode cX4_eggsIn 19 = .ok (.iload_n 3, 1) := by decide +kernel
theorem dX4_eggsIn_20 : decode cX4_eggsIn 20 = .ok (.iadd, 1) := by decide +kernel
theorem dX4_eggsIn_21 : decode cX4_eggsIn 21 = .ok (.iaload, 1) := by decide +kernel
theorem dX4_eggsIn_22 : decode cX4_eggsIn 22 = .ok (.iadd, 1) := by decide +kernel
theorem dX4_eggsIn_23 : decode cX4_eggsIn 23 = .ok (.istore_n 2, 1) := by decide +kernel
theorem dX4_eggsIn_24 : decode cX4_eggsIn 24 = .ok (.iinc 3 1, 3) := by decide +kernel
theorem dX4_eggsIn_27 : decode cX4_eggsIn 27 = .ok (.goto (-23), 3) := by decide +kernel
theorem dX4_eggsIn_30 : decode cX4_eggsIn 30 = .ok (.iload_n 2, 1) := by decide +kernel
theorem dX4_eggsIn_31 : decode cX4_eggsIn 31 = .ok (.ireturn, 1) := by decide +kernel
theorem dX4_mayBits_0 : decode cX4_mayBits 0 = .ok (.iconst 1, 1) := by decide +kernel
theorem dX4_mayBits_1 : decode cX4_mayBits 1 = .ok (.aload_n 0, 1) := by decide +kernel
theorem dX4_mayBits_2 : decode cX4_mayBits 2 = .ok (.getfield 77, 3) := by decide +kernel
theorem dX4_mayBits_5 : decode cX4_mayBits 5 = .ok (.ishl, 1) := by decide +kernel
theorem dX4_mayBits_6 : decode cX4_mayBits 6 = .ok (.iconst 1, 1) := by decide +kernel
theorem dX4_mayBits_7 : decode cX4_mayBits 7 = .ok (.isub, 1) := by decide +kernel
theorem dX4_mayBits_8 : decode cX4_mayBits 8 = .ok (.istore_n 1, 1) := by decide +kernel
theorem dX4_mayBits_9 : decode cX4_mayBits 9 = .ok (.iload_n 1, 1) := by decide +kernel
theorem dX4_mayBits_10 : decode cX4_mayBits 10 = .ok (.aload_n 0, 1) := by decide +kernel
theorem dX4_mayBits_11 : decode cX4_mayBits 11 = .ok (.getfield 38, 3) := by decide +kernel
theorem dX4_mayBits_14 : decode cX4_mayBits 14 = .ok (.ifCond .ge 7, 3) := by decide +kernel
theorem dX4_mayBits_17 : decode cX4_mayBits 17 = .ok (.iload_n 1, 1) := by decide +kernel
theorem dX4_mayBits_18 : decode cX4_mayBits 18 = .ok (.goto 11, 3) := by decide +kernel
theorem dX4_mayBits_21 : decode cX4_mayBits 21 = .ok (.iconst 1, 1) := by decide +kernel
theorem dX4_mayBits_22 : decode cX4_mayBits 22 = .ok (.aload_n 0, 1) := by decide +kernel
theorem dX4_mayBits_23 : decode cX4_mayBits 23 = .ok (.getfield 38, 3) := by decide +kernel
theorem dX4_mayBits_26 : decode cX4_mayBits 26 = .ok (.ishl, 1) := by decide +kernel
theorem dX4_mayBits_27 : decode cX4_mayBits 27 = .ok (.iconst (-1), 1) := by decide +kernel
theorem dX4_mayBits_28 : decode cX4_mayBits 28 = .ok (.ixor, 1) := by decide +kernel
theorem dX4_mayBits_29 : decode cX4_mayBits 29 = .ok (.iand, 1) := by decide +kernel
theorem dX4_mayBits_30 : decode cX4_mayBits 30 = .ok (.istore_n 1, 1) := by decide +kernel
theorem dX4_mayBits_31 : decode cX4_mayBits 31 = .ok (.iload_n 1, 1) := by decide +kernel
theorem dX4_mayBits_32 : decode cX4_mayBits 32 = .ok (.aload_n 0, 1) := by decide +kernel
theorem dX4_mayBits_33 : decode cX4_mayBits 33 = .ok (.getfield 84, 3) := by decide +kernel
theorem dX4_mayBits_36 : decode cX4_mayBits 36 = .ok (.iconst (-1), 1) := by decide +kernel
theorem dX4_mayBits_37 : decode cX4_mayBits 37 = .ok (.ixor, 1) := by decide +kernel
theorem dX4_mayBits_38 : decode cX4_mayBits 38 = .ok (.iand, 1) := by decide +kernel
theorem dX4_mayBits_39 : decode cX4_mayBits 39 = .ok (.istore_n 2, 1) := by decide +kernel
theorem dX4_mayBits_40 : decode cX4_mayBits 40 = .ok (.iload_n 2, 1) := by decide +kernel
theorem dX4_mayBits_41 : decode cX4_mayBits 41 = .ok (.ifCond .ne 7, 3) := by decide +kernel
theorem dX4_mayBits_44 : decode cX4_mayBits 44 = .ok (.iload_n 1, 1) := by decide +kernel
theorem dX4_mayBits_45 : decode cX4_mayBits 45 = .ok (.goto 4, 3) := by decide +kernel
theorem dX4_mayBits_48 : decode cX4_mayBits 48 = .ok (.iload_n 2, 1) := by decide +kernel
theorem dX4_mayBits_49 : decode cX4_mayBits 49 = .ok (.ireturn, 1) := by decide +kernel
theorem dX4_apart_0 : decode cX4_apart 0 = .ok (.iload_n 0, 1) := by decide +kernel
theorem dX4_apart_1 : decode cX4_apart 1 = .ok (.iload_n 1, 1) := by decide +kernel
theorem dX4_apart_2 : decode cX4_apart 2 = .ok (.if_icmp .ge 9, 3) := by decide +kernel
theorem dX4_apart_5 : decode cX4_apart 5 = .ok (.iload_n 1, 1) := by decide +kernel
theorem dX4_apart_6 : decode cX4_apart 6 = .ok (.iload_n 0, 1) := by decide +kernel
theorem dX4_apart_7 : decode cX4_apart 7 = .ok (.isub, 1) := by decide +kernel
theorem dX4_apart_8 : decode cX4_apart 8 = .ok (.goto 6, 3) := by decide +kernel
theorem dX4_apart_11 : decode cX4_apart 11 = .ok (.iload_n 0, 1) := by decide +kernel
theorem dX4_apart_12 : decode cX4_apart 12 = .ok (.iload_n 1, 1) := by decide +kernel
theorem dX4_apart_13 : decode cX4_apart 13 = .ok (.isub, 1) := by decide +kernel
theorem dX4_apart_14 : decode cX4_apart 14 = .ok (.ireturn, 1) := by decide +kernel
theorem dX4_rawWeight_0 : decode cX4_rawWeight 0 = .ok (.aload_n 0, 1) := by decide +kernel
theorem dX4_rawWeight_1 : decode cX4_rawWeight 1 = .ok (.getfield 16, 3) := by decide +kernel
theorem dX4_rawWeight_4 : decode cX4_rawWeight 4 = .ok (.ifCond .ge 7, 3) := by decide +kernel
theorem dX4_rawWeight_7 : decode cX4_rawWeight 7 = .ok (.iconst 0, 1) := by decide +kernel
theorem dX4_rawWeight_8 : decode cX4_rawWeight 8 = .ok (.goto 7, 3) := by decide +kernel
theorem dX4_rawWeight_11 : decode cX4_rawWeight 11 = .ok (.aload_n 0, 1) := by decide +kernel
theorem dX4_rawWeight_12 : decode cX4_rawWeight 12 = .ok (.getfield 16, 3) := by decide +kernel
theorem dX4_rawWeight_15 : decode cX4_rawWeight 15 = .ok (.istore_n 2, 1) := by decide +kernel
theorem dX4_rawWeight_16 : decode cX4_rawWeight 16 = .ok (.bipush 20, 2) := by decide +kernel
theorem dX4_rawWeight_18 : decode cX4_rawWeight 18 = .ok (.aload_n 0, 1) := by decide +kernel
theorem dX4_rawWeight_19 : decode cX4_rawWeight 19 = .ok (.getfield 19, 3) := by decide +kernel
theorem dX4_rawWeight_22 : decode cX4_rawWeight 22 = .ok (.iload_n 1, 1) := by decide +kernel
theorem dX4_rawWeight_23 : decode cX4_rawWeight 23 = .ok (.iaload, 1) := by decide +kernel
theorem dX4_rawWeight_24 : decode cX4_rawWeight 24 = .ok (.aload_n 0, 1) := by decide +kernel
theorem dX4_rawWeight_25 : decode cX4_rawWeight 25 = .ok (.getfield 19, 3) := by decide +kernel
theorem dX4_rawWeight_28 : decode cX4_rawWeight 28 = .ok (.iload_n 2, 1) := by decide +kernel
theorem dX4_rawWeight_29 : decode cX4_rawWeight 29 = .ok (.iaload, 1) := by decide +kernel
theorem dX4_rawWeight_30 : decode cX4_rawWeight 30 = .ok (.invokestatic 87, 3) := by decide +kernel
theorem dX4_rawWeight_33 : decode cX4_rawWeight 33 = .ok (.isub, 1) := by decide +kernel
theorem dX4_rawWeight_34 : decode cX4_rawWeight 34 = .ok (.aload_n 0, 1) := by decide +kernel
theorem dX4_rawWeight_35 : decode cX4_rawWeight 35 = .ok (.getfield 23, 3) := by decide +kernel
theorem dX4_rawWeight_38 : decode cX4_rawWeight 38 = .ok (.iload_n 1, 1) := by decide +kernel
theorem dX4_rawWeight_39 : decode cX4_rawWeight 39 = .ok (.iaload, 1) := by decide +kernel
theorem dX4_rawWeight_40 : decode cX4_rawWeight 40 = .ok (.aload_n 0, 1) := by decide +kernel
theorem dX4_rawWeight_41 : decode cX4_rawWeight 41 = .ok (.getfield 23, 3) := by decide +kernel
theorem dX4_rawWeight_44 : decode cX4_rawWeight 44 = .ok (.iload_n 2, 1) := by decide +kernel
theorem dX4_rawWeight_45 : decode cX4_rawWeight 45 = .ok (.iaload, 1) := by decide +kernel
theorem dX4_rawWeight_46 : decode cX4_rawWeight 46 = .ok (.invokestatic 87, 3) := by decide +kernel
theorem dX4_rawWeight_49 : decode cX4_rawWeight 49 = .ok (.isub, 1) := by decide +kernel
theorem dX4_rawWeight_50 : decode cX4_rawWeight 50 = .ok (.istore_n 3, 1) := by decide +kernel
theorem dX4_rawWeight_51 : decode cX4_rawWeight 51 = .ok (.iload_n 1, 1) := by decide +kernel
theorem dX4_rawWeight_52 : decode cX4_rawWeight 52 = .ok (.aload_n 0, 1) := by decide +kernel
theorem dX4_rawWeight_53 : decode cX4_rawWeight 53 = .ok (.getfield 16, 3) := by decide +kernel
theorem dX4_rawWeight_56 : decode cX4_rawWeight 56 = .ok (.if_icmp .ne 7, 3) := by decide +kernel
theorem dX4_rawWeight_59 : decode cX4_rawWeight 59 = .ok (.iconst 0, 1) := by decide +kernel
theorem dX4_rawWeight_60 : decode cX4_rawWeight 60 = .ok (.goto 4, 3) := by decide +kernel
theorem dX4_rawWeight_63 : decode cX4_rawWeight 63 = .ok (.iload_n 3, 1) := by decide +kernel
theorem dX4_rawWeight_64 : decode cX4_rawWeight 64 = .ok (.istore 4, 2) := by decide +kernel
theorem dX4_rawWeight_66 : decode cX4_rawWeight 66 = .ok (.bipush 9, 2) := by decide +kernel
theorem dX4_rawWeight_68 : decode cX4_rawWeight 68 = .ok (.aload_n 0, 1) := by decide +kernel
theorem dX4_rawWeight_69 : decode cX4_rawWeight 69 = .ok (.iload_n 1, 1) := by decide +kernel
theorem dX4_rawWeight_70 : decode cX4_rawWeight 70 = .ok (.invokevirtual 91, 3) := by decide +kernel
theorem dX4_rawWeight_73 : decode cX4_rawWeight 73 = .ok (.isub, 1) := by decide +kernel
theorem dX4_rawWeight_74 : decode cX4_rawWeight 74 = .ok (.istore 5, 2) := by decide +kernel
theorem dX4_rawWeight_76 : decode cX4_rawWeight 76 = .ok (.aload_n 0, 1) := by decide +kernel
theorem dX4_rawWeight_77 : decode cX4_rawWeight 77 = .ok (.getfield 95, 3) := by decide +kernel
theorem dX4_rawWeight_80 : decode cX4_rawWeight 80 = .ok (.tableswitch 71 0 4 #[36, 38, 45, 47, 50], 36) := by decide +kernel
theorem dX4_rawWeight_116 : decode cX4_rawWeight 116 = .ok (.iload_n 3, 1) := by decide +kernel
theorem dX4_rawWeight_117 : decode cX4_rawWeight 117 = .ok (.ireturn, 1) := by decide +kernel
theorem dX4_rawWeight_118 : decode cX4_rawWeight 118 = .ok (.aload_n 0, 1) := by decide +kernel
theorem dX4_rawWeight_119 : decode cX4_rawWeight 119 = .ok (.getfield 29, 3) := by decide +kernel
theorem dX4_rawWeight_122 : decode cX4_rawWeight 122 = .ok (.iload_n 1, 1) := by decide +kernel
theorem dX4_rawWeight_123 : decode cX4_rawWeight 123 = .ok (.iaload, 1) := by decide +kernel
theorem dX4_rawWeight_124 : decode cX4_rawWeight 124 = .ok (.ireturn, 1) := by decide +kernel
theorem dX4_rawWeight_125 : decode cX4_rawWeight 125 = .ok (.iconst 1, 1) := by decide +kernel
theorem dX4_rawWeight_126 : decode cX4_rawWeight 126 = .ok (.ireturn, 1) := by decide +kernel
theorem dX4_rawWeight_127 : decode cX4_rawWeight 127 = .ok (.iload 4, 2) := by decide +kernel
theorem dX4_rawWeight_129 : decode cX4_rawWeight 129 = .ok (.ireturn, 1) := by decide +kernel
theorem dX4_rawWeight_130 : decode cX4_rawWeight 130 = .ok (.iload 5, 2) := by decide +kernel
theorem dX4_rawWeight_132 : decode cX4_rawWeight 132 = .ok (.ifCond .le 16, 3) := by decide +kernel
theorem dX4_rawWeight_135 : decode cX4_rawWeight 135 = .ok (.iload 4, 2) := by decide +kernel
theorem dX4_rawWeight_137 : decode cX4_rawWeight 137 = .ok (.aload_n 0, 1) := by decide +kernel
theorem dX4_rawWeight_138 : decode cX4_rawWeight 138 = .ok (.getfield 98, 3) := by decide +kernel
theorem dX4_rawWeight_141 : decode cX4_rawWeight 141 = .ok (.iload 5, 2) := by decide +kernel
theorem dX4_rawWeight_143 : decode cX4_rawWeight 143 = .ok (.imul, 1) := by decide +kernel
theorem dX4_rawWeight_144 : decode cX4_rawWeight 144 = .ok (.iadd, 1) := by decide +kernel
theorem dX4_rawWeight_145 : decode cX4_rawWeight 145 = .ok (.goto 5, 3) := by decide +kernel
theorem dX4_rawWeight_148 : decode cX4_rawWeight 148 = .ok (.iload 4, 2) := by decide +kernel
theorem dX4_rawWeight_150 : decode cX4_rawWeight 150 = .ok (.ireturn, 1) := by decide +kernel
theorem dX4_rawWeight_151 : decode cX4_rawWeight 151 = .ok (.iload_n 1, 1) := by decide +kernel
theorem dX4_rawWeight_152 : decode cX4_rawWeight 152 = .ok (.aload_n 0, 1) := by decide +kernel
theorem dX4_rawWeight_153 : decode cX4_rawWeight 153 = .ok (.getfield 98, 3) := by decide +kernel
theorem dX4_rawWeight_156 : decode cX4_rawWeight 156 = .ok (.if_icmp .ne 15, 3) := by decide +kernel
theorem dX4_rawWeight_159 : decode cX4_rawWeight 159 = .ok (.aload_n 0, 1) := by decide +kernel
theorem dX4_rawWeight_160 : decode cX4_rawWeight 160 = .ok (.getfield 29, 3) := by decide +kernel
theorem dX4_rawWeight_163 : decode cX4_rawWeight 163 = .ok (.iload_n 1, 1) := by decide +kernel
theorem dX4_rawWeight_164 : decode cX4_rawWeight 164 = .ok (.iaload, 1) := by decide +kernel
theorem dX4_rawWeight_165 : decode cX4_rawWeight 165 = .ok (.bipush 10, 2) := by decide +kernel
theorem dX4_rawWeight_167 : decode cX4_rawWeight 167 = .ok (.iadd, 1) := by decide +kernel
theorem dX4_rawWeight_168 : decode cX4_rawWeight 168 = .ok (.goto 9, 3) := by decide +kernel
theorem dX4_rawWeight_171 : decode cX4_rawWeight 171 = .ok (.aload_n 0, 1) := by decide +kernel
theorem dX4_rawWeight_172 : decode cX4_rawWeight 172 = .ok (.getfield 29, 3) := by decide +kernel
theorem dX4_rawWeight_175 : decode cX4_rawWeight 175 = .ok (.iload_n 1, 1) := by decide +kernel
theorem dX4_rawWeight_176 : decode cX4_rawWeight 176 = .ok (.iaload, 1) := by decide +kernel
theorem dX4_rawWeight_177 : decode cX4_rawWeight 177 = .ok (.ireturn, 1) := by decide +kernel
theorem dX4_weigh_0 : decode cX4_weigh 0 = .ok (.aload_n 0, 1) := by decide +kernel
theorem dX4_weigh_1 : decode cX4_weigh 1 = .ok (.invokevirtual 101, 3) := by decide +kernel
theorem dX4_weigh_4 : decode cX4_weigh 4 = .ok (.istore_n 1, 1) := by decide +kernel
theorem dX4_weigh_5 : decode cX4_weigh 5 = .ok (.aload_n 0, 1) := by decide +kernel
theorem dX4_weigh_6 : decode cX4_weigh 6 = .ok (.iconst 0, 1) := by decide +kernel
theorem dX4_weigh_7 : decode cX4_weigh 7 = .ok (.putfield 105, 3) := by decide +kernel
theorem dX4_weigh_10 : decode cX4_weigh 10 = .ok (.iconst 0, 1) := by decide +kernel
theorem dX4_weigh_11 : decode cX4_weigh 11 = .ok (.istore_n 2, 1) := by decide +kernel
theorem dX4_weigh_12 : decode cX4_weigh 12 = .ok (.iload_n 2, 1) := by decide +kernel
theorem dX4_weigh_13 : decode cX4_weigh 13 = .ok (.aload_n 0, 1) := by decide +kernel
theorem dX4_weigh_14 : decode cX4_weigh 14 = .ok (.getfield 77, 3) := by decide +kernel
theorem dX4_weigh_17 : decode cX4_weigh 17 = .ok (.if_icmp .ge 48, 3) := by decide +kernel
theorem dX4_weigh_20 : decode cX4_weigh 20 = .ok (.aload_n 0, 1) := by decide +kernel
theorem dX4_weigh_21 : decode cX4_weigh 21 = .ok (.getfield 41, 3) := by decide +kernel
theorem dX4_weigh_24 : decode cX4_weigh 24 = .ok (.iload_n 2, 1) := by decide +kernel
theorem dX4_weigh_25 : decode cX4_weigh 25 = .ok (.iload_n 1, 1) := by decide +kernel
theorem dX4_weigh_26 : decode cX4_weigh 26 = .ok (.iload_n 2, 1) := by decide +kernel
theorem dX4_weigh_27 : decode cX4_weigh 27 = .ok (.ishr, 1) := by decide +kernel
theorem dX4_weigh_28 : decode cX4_weigh 28 = .ok (.iconst 1, 1) := by decide +kernel
theorem dX4_weigh_29 : decode cX4_weigh 29 = .ok (.iand, 1) := by decide +kernel
theorem dX4_weigh_30 : decode cX4_weigh 30 = .ok (.iconst 1, 1) := by decide +kernel
theorem dX4_weigh_31 : decode cX4_weigh 31 = .ok (.if_icmp .ne 11, 3) := by decide +kernel
theorem dX4_weigh_34 : decode cX4_weigh 34 = .ok (.aload_n 0, 1) := by decide +kernel
theorem dX4_weigh_35 : decode cX4_weigh 35 = .ok (.iload_n 2, 1) := by decide +kernel
theorem dX4_weigh_36 : decode cX4_weigh 36 = .ok (.invokevirtual 108, 3) := by decide +kernel
theorem dX4_weigh_39 : decode cX4_weigh 39 = .ok (.goto 4, 3) := by decide +kernel
theorem dX4_weigh_42 : decode cX4_weigh 42 = .ok (.iconst 0, 1) := by decide +kernel
theorem dX4_weigh_43 : decode cX4_weigh 43 = .ok (.iastore, 1) := by decide +kernel
theorem dX4_weigh_44 : decode cX4_weigh 44 = .ok (.aload_n 0, 1) := by decide +kernel
theorem dX4_weigh_45 : decode cX4_weigh 45 = .ok (.dup, 1) := by decide +kernel
theorem dX4_weigh_46 : decode cX4_weigh 46 = .ok (.getfield 105, 3) := by decide +kernel
theorem dX4_weigh_49 : decode cX4_weigh 49 = .ok (.aload_n 0, 1) := by decide +kernel
theorem dX4_weigh_50 : decode cX4_weigh 50 = .ok (.getfield 41, 3) := by decide +kernel
theorem dX4_weigh_53 : decode cX4_weigh 53 = .ok (.iload_n 2, 1) := by decide +kernel
theorem dX4_weigh_54 : decode cX4_weigh 54 = .ok (.iaload, 1) := by decide +kernel
theorem dX4_weigh_55 : decode cX4_weigh 55 = .ok (.iadd, 1) := by decide +kernel
theorem dX4_weigh_56 : decode cX4_weigh 56 = .ok (.putfield 105, 3) := by decide +kernel
theorem dX4_weigh_59 : decode cX4_weigh 59 = .ok (.iinc 2 1, 3) := by decide +kernel
theorem dX4_weigh_62 : decode cX4_weigh 62 = .ok (.goto (-50), 3) := by decide +kernel
theorem dX4_weigh_65 : decode cX4_weigh 65 = .ok (.aload_n 0, 1) := by decide +kernel
theorem dX4_weigh_66 : decode cX4_weigh 66 = .ok (.getfield 105, 3) := by decide +kernel
theorem dX4_weigh_69 : decode cX4_weigh 69 = .ok (.ifCond .ne 45, 3) := by decide +kernel
theorem dX4_weigh_72 : decode cX4_weigh 72 = .ok (.iconst 0, 1) := by decide +kernel
theorem dX4_weigh_73 : decode cX4_weigh 73 = .ok (.istore_n 2, 1) := by decide +kernel
theorem dX4_weigh_74 : decode cX4_weigh 74 = .ok (.iload_n 2, 1) := by decide +kernel
theorem dX4_weigh_75 : decode cX4_weigh 75 = .ok (.aload_n 0, 1) := by decide +kernel
theorem dX4_weigh_76 : decode cX4_weigh 76 = .ok (.getfield 77, 3) := by decide +kernel
theorem dX4_weigh_79 : decode cX4_weigh 79 = .ok (.if_icmp .ge 35, 3) := by decide +kernel
theorem dX4_weigh_82 : decode cX4_weigh 82 = .ok (.aload_n 0, 1) := by decide +kernel
theorem dX4_weigh_83 : decode cX4_weigh 83 = .ok (.getfield 41, 3) := by decide +kernel
theorem dX4_weigh_86 : decode cX4_weigh 86 = .ok (.iload_n 2, 1) := by decide +kernel
theorem dX4_weigh_87 : decode cX4_weigh 87 = .ok (.iload_n 1, 1) := by decide +kernel
theorem dX4_weigh_88 : decode cX4_weigh 88 = .ok (.iload_n 2, 1) := by decide +kernel
theorem dX4_weigh_89 : decode cX4_weigh 89 = .ok (.ishr, 1) := by decide +kernel
theorem dX4_weigh_90 : decode cX4_weigh 90 = .ok (.iconst 1, 1) := by decide +kernel
theorem dX4_weigh_91 : decode cX4_weigh 91 = .ok (.iand, 1) := by decide +kernel
theorem dX4_weigh_92 : decode cX4_weigh 92 = .ok (.iastore, 1) := by decide +kernel
theorem dX4_weigh_93 : decode cX4_weigh 93 = .ok (.aload_n 0, 1) := by decide +kernel
theorem dX4_weigh_94 : decode cX4_weigh 94 = .ok (.dup, 1) := by decide +kernel
theorem dX4_weigh_95 : decode cX4_weigh 95 = .ok (.getfield 105, 3) := by decide +kernel
theorem dX4_weigh_98 : decode cX4_weigh 98 = .ok (.aload_n 0, 1) := by decide +kernel
theorem dX4_weigh_99 : decode cX4_weigh 99 = .ok (.getfield 41, 3) := by decide +kernel
theorem dX4_weigh_102 : decode cX4_weigh 102 = .ok (.iload_n 2, 1) := by decide +kernel
theorem dX4_weigh_103 : decode cX4_weigh 103 = .ok (.iaload, 1) := by decide +kernel
theorem dX4_weigh_104 : decode cX4_weigh 104 = .ok (.iadd, 1) := by decide +kernel
theorem dX4_weigh_105 : decode cX4_weigh 105 = .ok (.putfield 105, 3) := by decide +kernel
theorem dX4_weigh_108 : decode cX4_weigh 108 = .ok (.iinc 2 1, 3) := by decide +kernel
theorem dX4_weigh_111 : decode cX4_weigh 111 = .ok (.goto (-37), 3) := by decide +kernel
theorem dX4_weigh_114 : decode cX4_weigh 114 = .ok (.return_, 1) := by decide +kernel
theorem dX4_laysAt_0 : decode cX4_laysAt 0 = .ok (.aload_n 0, 1) := by decide +kernel
theorem dX4_laysAt_1 : decode cX4_laysAt 1 = .ok (.invokevirtual 111, 3) := by decide +kernel
theorem dX4_laysAt_4 : decode cX4_laysAt 4 = .ok (.aload_n 0, 1) := by decide +kernel
theorem dX4_laysAt_5 : decode cX4_laysAt 5 = .ok (.invokevirtual 101, 3) := by decide +kernel
theorem dX4_laysAt_8 : decode cX4_laysAt 8 = .ok (.istore_n 1, 1) := by decide +kernel
theorem dX4_laysAt_9 : decode cX4_laysAt 9 = .ok (.iconst 0, 1) := by decide +kernel
theorem dX4_laysAt_10 : decode cX4_laysAt 10 = .ok (.istore_n 2, 1) := by decide +kernel
theorem dX4_laysAt_11 : decode cX4_laysAt 11 = .ok (.iconst (-1), 1) := by decide +kernel
theorem dX4_laysAt_12 : decode cX4_laysAt 12 = .ok (.istore_n 3, 1) := by decide +kernel
theorem dX4_laysAt_13 : decode cX4_laysAt 13 = .ok (.iconst 0, 1) := by decide +kernel
theorem dX4_laysAt_14 : decode cX4_laysAt 14 = .ok (.istore 4, 2) := by decide +kernel
theorem dX4_laysAt_16 : decode cX4_laysAt 16 = .ok (.iload 4, 2) := by decide +kernel
theorem dX4_laysAt_18 : decode cX4_laysAt 18 = .ok (.aload_n 0, 1) := by decide +kernel
theorem dX4_laysAt_19 : decode cX4_laysAt 19 = .ok (.getfield 77, 3) := by decide +kernel
theorem dX4_laysAt_22 : decode cX4_laysAt 22 = .ok (.if_icmp .ge 71, 3) := by decide +kernel
theorem dX4_laysAt_25 : decode cX4_laysAt 25 = .ok (.iload_n 1, 1) := by decide +kernel
theorem dX4_laysAt_26 : decode cX4_laysAt 26 = .ok (.iload 4, 2) := by decide +kernel
theorem dX4_laysAt_28 : decode cX4_laysAt 28 = .ok (.ishr, 1) := by decide +kernel
theorem dX4_laysAt_29 : decode cX4_laysAt 29 = .ok (.iconst 1, 1) := by decide +kernel
theorem dX4_laysAt_30 : decode cX4_laysAt 30 = .ok (.iand, 1) := by decide +kernel
theorem dX4_laysAt_31 : decode cX4_laysAt 31 = .ok (.iconst 1, 1) := by decide +kernel
theorem dX4_laysAt_32 : decode cX4_laysAt 32 = .ok (.if_icmp .ne 7, 3) := by decide +kernel
theorem dX4_laysAt_35 : decode cX4_laysAt 35 = .ok (.iconst 1, 1) := by decide +kernel
theorem dX4_laysAt_36 : decode cX4_laysAt 36 = .ok (.goto 4, 3) := by decide +kernel
theorem dX4_laysAt_39 : decode cX4_laysAt 39 = .ok (.iconst 0, 1) := by decide +kernel
theorem dX4_laysAt_40 : decode cX4_laysAt 40 = .ok (.istore 5, 2) := by decide +kernel
theorem dX4_laysAt_42 : decode cX4_laysAt 42 = .ok (.iload_n 2, 1) := by decide +kernel
theorem dX4_laysAt_43 : decode cX4_laysAt 43 = .ok (.iload 5, 2) := by decide +kernel
theorem dX4_laysAt_45 : decode cX4_laysAt 45 = .ok (.ifCond .eq 7, 3) := by decide +kernel
theorem dX4_laysAt_48 : decode cX4_laysAt 48 = .ok (.iconst 1, 1) := by decide +kernel
theorem dX4_laysAt_49 : decode cX4_laysAt 49 = .ok (.goto 4, 3) := by decide +kernel
theorem dX4_laysAt_52 : decode cX4_laysAt 52 = .ok (.iconst 0, 1) := by decide +kernel
theorem dX4_laysAt_53 : decode cX4_laysAt 53 = .ok (.iadd, 1) := by decide +kernel
theorem dX4_laysAt_54 : decode cX4_laysAt 54 = .ok (.istore_n 2, 1) := by decide +kernel
theorem dX4_laysAt_55 : decode cX4_laysAt 55 = .ok (.iload 5, 2) := by decide +kernel
theorem dX4_laysAt_57 : decode cX4_laysAt 57 = .ok (.ifCond .eq 28, 3) := by decide +kernel
theorem dX4_laysAt_60 : decode cX4_laysAt 60 = .ok (.iload_n 3, 1) := by decide +kernel
theorem dX4_laysAt_61 : decode cX4_laysAt 61 = .ok (.ifCond .lt 19, 3) := by decide +kernel
theorem dX4_laysAt_64 : decode cX4_laysAt 64 = .ok (.aload_n 0, 1) := by decide +kernel
theorem dX4_laysAt_65 : decode cX4_laysAt 65 = .ok (.getfield 41, 3) := by decide +kernel
theorem dX4_laysAt_68 : decode cX4_laysAt 68 = .ok (.iload 4, 2) := by decide +kernel
theorem dX4_laysAt_70 : decode cX4_laysAt 70 = .ok (.iaload, 1) := by decide +kernel
theorem dX4_laysAt_71 : decode cX4_laysAt 71 = .ok (.aload_n 0, 1) := by decide +kernel
theorem dX4_laysAt_72 : decode cX4_laysAt 72 = .ok (.getfield 41, 3) := by decide +kernel
theorem dX4_laysAt_75 : decode cX4_laysAt 75 = .ok (.iload_n 3, 1) := by decide +kernel
theorem dX4_laysAt_76 : decode cX4_laysAt 76 = .ok (.iaload, 1) := by decide +kernel
theorem dX4_laysAt_77 : decode cX4_laysAt 77 = .ok (.if_icmp .le 8, 3) := by decide +kernel
theorem dX4_laysAt_80 : decode cX4_laysAt 80 = .ok (.iload 4, 2) := by decide +kernel
theorem dX4_laysAt_82 : decode cX4_laysAt 82 = .ok (.goto 4, 3) := by decide +kernel
theorem dX4_laysAt_85 : decode cX4_laysAt 85 = .ok (.iload_n 3, 1) := by decide +kernel
theorem dX4_laysAt_86 : decode cX4_laysAt 86 = .ok (.istore_n 3, 1) := by decide +kernel
theorem dX4_laysAt_87 : decode cX4_laysAt 87 = .ok (.iinc 4 1, 3) := by decide +kernel
theorem dX4_laysAt_90 : decode cX4_laysAt 90 = .ok (.goto (-74), 3) := by decide +kernel
theorem dX4_laysAt_93 : decode cX4_laysAt 93 = .ok (.aload_n 0, 1) := by decide +kernel
theorem dX4_laysAt_94 : decode cX4_laysAt 94 = .ok (.getfield 95, 3) := by decide +kernel
theorem dX4_laysAt_97 : decode cX4_laysAt 97 = .ok (.iconst 2, 1) := by decide +kernel
theorem dX4_laysAt_98 : decode cX4_laysAt 98 = .ok (.if_icmp .eq 5, 3) := by decide +kernel
theorem dX4_laysAt_101 : decode cX4_laysAt 101 = .ok (.iload_n 3, 1) := by decide +kernel
theorem dX4_laysAt_102 : decode cX4_laysAt 102 = .ok (.ireturn, 1) := by decide +kernel
theorem dX4_laysAt_103 : decode cX4_laysAt 103 = .ok (.aload_n 0, 1) := by decide +kernel
theorem dX4_laysAt_104 : decode cX4_laysAt 104 = .ok (.getfield 114, 3) := by decide +kernel
theorem dX4_laysAt_107 : decode cX4_laysAt 107 = .ok (.aload_n 0, 1) := by decide +kernel
theorem dX4_laysAt_108 : decode cX4_laysAt 108 = .ok (.getfield 98, 3) := by decide +kernel
theorem dX4_laysAt_111 : decode cX4_laysAt 111 = .ok (.iconst 1, 1) := by decide +kernel
theorem dX4_laysAt_112 : decode cX4_laysAt 112 = .ok (.iadd, 1) := by decide +kernel
theorem dX4_laysAt_113 : decode cX4_laysAt 113 = .ok (.imul, 1) := by decide +kernel
theorem dX4_laysAt_114 : decode cX4_laysAt 114 = .ok (.iload_n 2, 1) := by decide +kernel
theorem dX4_laysAt_115 : decode cX4_laysAt 115 = .ok (.irem, 1) := by decide +kernel
theorem dX4_laysAt_116 : decode cX4_laysAt 116 = .ok (.istore 4, 2) := by decide +kernel
theorem dX4_laysAt_118 : decode cX4_laysAt 118 = .ok (.iconst 0, 1) := by decide +kernel
theorem dX4_laysAt_119 : decode cX4_laysAt 119 = .ok (.istore 5, 2) := by decide +kernel
theorem dX4_laysAt_121 : decode cX4_laysAt 121 = .ok (.iload 5, 2) := by decide +kernel
theorem dX4_laysAt_123 : decode cX4_laysAt 123 = .ok (.aload_n 0, 1) := by decide +kernel
theorem dX4_laysAt_124 : decode cX4_laysAt 124 = .ok (.getfield 77, 3) := by decide +kernel
theorem dX4_laysAt_127 : decode cX4_laysAt 127 = .ok (.if_icmp .ge 30, 3) := by decide +kernel
theorem dX4_laysAt_130 : decode cX4_laysAt 130 = .ok (.iload_n 1, 1) := by decide +kernel
theorem dX4_laysAt_131 : decode cX4_laysAt 131 = .ok (.iload 5, 2) := by decide +kernel
theorem dX4_laysAt_133 : decode cX4_laysAt 133 = .ok (.ishr, 1) := by decide +kernel
theorem dX4_laysAt_134 : decode cX4_laysAt 134 = .ok (.iconst 1, 1) := by decide +kernel
theorem dX4_laysAt_135 : decode cX4_laysAt 135 = .ok (.iand, 1) := by decide +kernel
theorem dX4_laysAt_136 : decode cX4_laysAt 136 = .ok (.iconst 1, 1) := by decide +kernel
theorem dX4_laysAt_137 : decode cX4_laysAt 137 = .ok (.if_icmp .ne 14, 3) := by decide +kernel
theorem dX4_laysAt_140 : decode cX4_laysAt 140 = .ok (.iload 4, 2) := by decide +kernel
theorem dX4_laysAt_142 : decode cX4_laysAt 142 = .ok (.ifCond .ne 6, 3) := by decide +kernel
theorem dX4_laysAt_145 : decode cX4_laysAt 145 = .ok (.iload 5, 2) := by decide +kernel
theorem dX4_laysAt_147 : decode cX4_laysAt 147 = .ok (.ireturn, 1) := by decide +kernel
theorem dX4_laysAt_148 : decode cX4_laysAt 148 = .ok (.iinc 4 (-1), 3) := by decide +kernel
theorem dX4_laysAt_151 : decode cX4_laysAt 151 = .ok (.iinc 5 1, 3) := by decide +kernel
theorem dX4_laysAt_154 : decode cX4_laysAt 154 = .ok (.goto (-33), 3) := by decide +kernel
theorem dX4_laysAt_157 : decode cX4_laysAt 157 = .ok (.iconst (-1), 1) := by decide +kernel
theorem dX4_laysAt_158 : decode cX4_laysAt 158 = .ok (.ireturn, 1) := by decide +kernel
theorem dX4_nightAt_0 : decode cX4_nightAt 0 = .ok (.iconst 0, 1) := by decide +kernel
theorem dX4_nightAt_1 : decode cX4_nightAt 1 = .ok (.istore_n 2, 1) := by decide +kernel
theorem dX4_nightAt_2 : decode cX4_nightAt 2 = .ok (.iload_n 2, 1) := by decide +kernel
theorem dX4_nightAt_3 : decode cX4_nightAt 3 = .ok (.aload_n 0, 1) := by decide +kernel
theorem dX4_nightAt_4 : decode cX4_nightAt 4 = .ok (.getfield 77, 3) := by decide +kernel
theorem dX4_nightAt_7 : decode cX4_nightAt 7 = .ok (.if_icmp .ge 62, 3) := by decide +kernel
theorem dX4_nightAt_10 : decode cX4_nightAt 10 = .ok (.bipush 9, 2) := by decide +kernel
theorem dX4_nightAt_12 : decode cX4_nightAt 12 = .ok (.istore_n 3, 1) := by decide +kernel
theorem dX4_nightAt_13 : decode cX4_nightAt 13 = .ok (.iload_n 3, 1) := by decide +kernel
theorem dX4_nightAt_14 : decode cX4_nightAt 14 = .ok (.ifCond .lt 49, 3) := by decide +kernel
theorem dX4_nightAt_17 : decode cX4_nightAt 17 = .ok (.aload_n 0, 1) := by decide +kernel
theorem dX4_nightAt_18 : decode cX4_nightAt 18 = .ok (.getfield 32, 3) := by decide +kernel
theorem dX4_nightAt_21 : decode cX4_nightAt 21 = .ok (.bipush 10, 2) := by decide +kernel
theorem dX4_nightAt_23 : decode cX4_nightAt 23 = .ok (.iload_n 2, 1) := by decide +kernel
theorem dX4_nightAt_24 : decode cX4_nightAt 24 = .ok (.imul, 1) := by decide +kernel
theorem dX4_nightAt_25 : decode cX4_nightAt 25 = .ok (.iload_n 3, 1) := by decide +kernel
theorem dX4_nightAt_26 : decode cX4_nightAt 26 = .ok (.iadd, 1) := by decide +kernel
theorem dX4_nightAt_27 : decode cX4_nightAt 27 = .ok (.iload_n 3, 1) := by decide +kernel
theorem dX4_nightAt_28 : decode cX4_nightAt 28 = .ok (.ifCond .eq 11, 3) := by decide +kernel
theorem dX4_nightAt_31 : decode cX4_nightAt 31 = .ok (.iload_n 3, 1) := by decide +kernel
theorem dX4_nightAt_32 : decode cX4_nightAt 32 = .ok (.aload_n 0, 1) := by decide +kernel
theorem dX4_nightAt_33 : decode cX4_nightAt 33 = .ok (.getfield 13, 3) := by decide +kernel
theorem dX4_nightAt_36 : decode cX4_nightAt 36 = .ok (.if_icmp .lt 7, 3) := by decide +kernel
theorem dX4_nightAt_39 : decode cX4_nightAt 39 = .ok (.iconst 0, 1) := by decide +kernel
theorem dX4_nightAt_40 : decode cX4_nightAt 40 = .ok (.goto 16, 3) := by decide +kernel
theorem dX4_nightAt_43 : decode cX4_nightAt 43 = .ok (.aload_n 0, 1) := by decide +kernel
theorem dX4_nightAt_44 : decode cX4_nightAt 44 = .ok (.getfield 32, 3) := by decide +kernel
theorem dX4_nightAt_47 : decode cX4_nightAt 47 = .ok (.bipush 10, 2) := by decide +kernel
theorem dX4_nightAt_49 : decode cX4_nightAt 49 = .ok (.iload_n 2, 1) := by decide +kernel
theorem dX4_nightAt_50 : decode cX4_nightAt 50 = .ok (.imul, 1) := by decide +kernel
theorem dX4_nightAt_51 : decode cX4_nightAt 51 = .ok (.iload_n 3, 1) := by decide +kernel
theorem dX4_nightAt_52 : decode cX4_nightAt 52 = .ok (.iadd, 1) := by decide +kernel
theorem dX4_nightAt_53 : decode cX4_nightAt 53 = .ok (.iconst 1, 1) := by decide +kernel
theorem dX4_nightAt_54 : decode cX4_nightAt 54 = .ok (.isub, 1) := by decide +kernel
theorem dX4_nightAt_55 : decode cX4_nightAt 55 = .ok (.iaload, 1) := by decide +kernel
theorem dX4_nightAt_56 : decode cX4_nightAt 56 = .ok (.iastore, 1) := by decide +kernel
theorem dX4_nightAt_57 : decode cX4_nightAt 57 = .ok (.iinc 3 (-1), 3) := by decide +kernel
theorem dX4_nightAt_60 : decode cX4_nightAt 60 = .ok (.goto (-47), 3) := by decide +kernel
theorem dX4_nightAt_63 : decode cX4_nightAt 63 = .ok (.iinc 2 1, 3) := by decide +kernel
theorem dX4_nightAt_66 : decode cX4_nightAt 66 = .ok (.goto (-64), 3) := by decide +kernel
theorem dX4_nightAt_69 : decode cX4_nightAt 69 = .ok (.aload_n 0, 1) := by decide +kernel
theorem dX4_nightAt_70 : decode cX4_nightAt 70 = .ok (.getfield 32, 3) := by decide +kernel
theorem dX4_nightAt_73 : decode cX4_nightAt 73 = .ok (.bipush 10, 2) := by decide +kernel
theorem dX4_nightAt_75 : decode cX4_nightAt 75 = .ok (.iload_n 1, 1) := by decide +kernel
theorem dX4_nightAt_76 : decode cX4_nightAt 76 = .ok (.imul, 1) := by decide +kernel
theorem dX4_nightAt_77 : decode cX4_nightAt 77 = .ok (.dup2, 1) := by decide +kernel
theorem dX4_nightAt_78 : decode cX4_nightAt 78 = .ok (.iaload, 1) := by decide +kernel
theorem dX4_nightAt_79 : decode cX4_nightAt 79 = .ok (.iconst 1, 1) := by decide +kernel
theorem dX4_nightAt_80 : decode cX4_nightAt 80 = .ok (.iadd, 1) := by decide +kernel
theorem dX4_nightAt_81 : decode cX4_nightAt 81 = .ok (.iastore, 1) := by decide +kernel
theorem dX4_nightAt_82 : decode cX4_nightAt 82 = .ok (.aload_n 0, 1) := by decide +kernel
theorem dX4_nightAt_83 : decode cX4_nightAt 83 = .ok (.iload_n 1, 1) := by decide +kernel
theorem dX4_nightAt_84 : decode cX4_nightAt 84 = .ok (.putfield 16, 3) := by decide +kernel
theorem dX4_nightAt_87 : decode cX4_nightAt 87 = .ok (.aload_n 0, 1) := by decide +kernel
theorem dX4_nightAt_88 : decode cX4_nightAt 88 = .ok (.aload_n 0, 1) := by decide +kernel
theorem dX4_nightAt_89 : decode cX4_nightAt 89 = .ok (.getfield 84, 3) := by decide +kernel
theorem dX4_nightAt_92 : decode cX4_nightAt 92 = .ok (.putfield 117, 3) := by decide +kernel
theorem dX4_nightAt_95 : decode cX4_nightAt 95 = .ok (.aload_n 0, 1) := by decide +kernel
theorem dX4_nightAt_96 : decode cX4_nightAt 96 = .ok (.iconst 0, 1) := by decide +kernel
theorem dX4_nightAt_97 : decode cX4_nightAt 97 = .ok (.putfield 84, 3) := by decide +kernel
theorem dX4_nightAt_100 : decode cX4_nightAt 100 = .ok (.aload_n 0, 1) := by decide +kernel
theorem dX4_nightAt_101 : decode cX4_nightAt 101 = .ok (.dup, 1) := by decide +kernel
theorem dX4_nightAt_102 : decode cX4_nightAt 102 = .ok (.getfield 114, 3) := by decide +kernel
theorem dX4_nightAt_105 : decode cX4_nightAt 105 = .ok (.iconst 1, 1) := by decide +kernel
theorem dX4_nightAt_106 : decode cX4_nightAt 106 = .ok (.iadd, 1) := by decide +kernel
theorem dX4_nightAt_107 : decode cX4_nightAt 107 = .ok (.putfield 114, 3) := by decide +kernel
theorem dX4_nightAt_110 : decode cX4_nightAt 110 = .ok (.return_, 1) := by decide +kernel
theorem dX4_nightOn_0 : decode cX4_nightOn 0 = .ok (.aload_n 0, 1) := by decide +kernel
theorem dX4_nightOn_1 : decode cX4_nightOn 1 = .ok (.invokevirtual 120, 3) := by decide +kernel
theorem dX4_nightOn_4 : decode cX4_nightOn 4 = .ok (.istore_n 1, 1) := by decide +kernel
theorem dX4_nightOn_5 : decode cX4_nightOn 5 = .ok (.aload_n 0, 1) := by decide +kernel
theorem dX4_nightOn_6 : decode cX4_nightOn 6 = .ok (.iload_n 1, 1) := by decide +kernel
theorem dX4_nightOn_7 : decode cX4_nightOn 7 = .ok (.invokevirtual 123, 3) := by decide +kernel
theorem dX4_nightOn_10 : decode cX4_nightOn 10 = .ok (.iload_n 1, 1) := by decide +kernel
theorem dX4_nightOn_11 : decode cX4_nightOn 11 = .ok (.ireturn, 1) := by decide +kernel
theorem dX4_take_0 : decode cX4_take 0 = .ok (.iconst 0, 1) := by decide +kernel
theorem dX4_take_1 : decode cX4_take 1 = .ok (.istore_n 2, 1) := by decide +kernel
theorem dX4_take_2 : decode cX4_take 2 = .ok (.iconst 0, 1) := by decide +kernel
theorem dX4_take_3 : decode cX4_take 3 = .ok (.istore_n 3, 1) := by decide +kernel
theorem dX4_take_4 : decode cX4_take 4 = .ok (.iload_n 3, 1) := by decide +kernel
theorem dX4_take_5 : decode cX4_take 5 = .ok (.aload_n 0, 1) := by decide +kernel
theorem dX4_take_6 : decode cX4_take 6 = .ok (.getfield 77, 3) := by decide +kernel
theorem dX4_take_9 : decode cX4_take 9 = .ok (.if_icmp .ge 55, 3) := by decide +kernel
theorem dX4_take_12 : decode cX4_take 12 = .ok (.iload_n 1, 1) := by decide +kernel
theorem dX4_take_13 : decode cX4_take 13 = .ok (.iload_n 3, 1) := by decide +kernel
theorem dX4_take_14 : decode cX4_take 14 = .ok (.ishr, 1) := by decide +kernel
theorem dX4_take_15 : decode cX4_take 15 = .ok (.iconst 1, 1) := by decide +kernel
theorem dX4_take_16 : decode cX4_take 16 = .ok (.iand, 1) := by decide +kernel
theorem dX4_take_17 : decode cX4_take 17 = .ok (.iconst 1, 1) := by decide +kernel
theorem dX4_take_18 : decode cX4_take 18 = .ok (.if_icmp .ne 40, 3) := by decide +kernel
theorem dX4_take_21 : decode cX4_take 21 = .ok (.iload_n 2, 1) := by decide +kernel
theorem dX4_take_22 : decode cX4_take 22 = .ok (.aload_n 0, 1) := by decide +kernel
theorem dX4_take_23 : decode cX4_take 23 = .ok (.iload_n 3, 1) := by decide +kernel
theorem dX4_take_24 : decode cX4_take 24 = .ok (.invokevirtual 91, 3) := by decide +kernel
theorem dX4_take_27 : decode cX4_take 27 = .ok (.iadd, 1) := by decide +kernel
theorem dX4_take_28 : decode cX4_take 28 = .ok (.istore_n 2, 1) := by decide +kernel
theorem dX4_take_29 : decode cX4_take 29 = .ok (.iconst 0, 1) := by decide +kernel
theorem dX4_take_30 : decode cX4_take 30 = .ok (.istore 4, 2) := by decide +kernel
theorem dX4_take_32 : decode cX4_take 32 = .ok (.iload 4, 2) := by decide +kernel
theorem dX4_take_34 : decode cX4_take 34 = .ok (.bipush 10, 2) := by decide +kernel
theorem dX4_take_36 : decode cX4_take 36 = .ok (.if_icmp .ge 22, 3) := by decide +kernel
theorem dX4_take_39 : decode cX4_take 39 = .ok (.aload_n 0, 1) := by decide +kernel
theorem dX4_take_40 : decode cX4_take 40 = .ok (.getfield 32, 3) := by decide +kernel
theorem dX4_take_43 : decode cX4_take 43 = .ok (.bipush 10, 2) := by decide +kernel
theorem dX4_take_45 : decode cX4_take 45 = .ok (.iload_n 3, 1) := by decide +kernel
theorem dX4_take_46 : decode cX4_take 46 = .ok (.imul, 1) := by decide +kernel
theorem dX4_take_47 : decode cX4_take 47 = .ok (.iload 4, 2) := by decide +kernel
theorem dX4_take_49 : decode cX4_take 49 = .ok (.iadd, 1) := by decide +kernel
theorem dX4_take_50 : decode cX4_take 50 = .ok (.iconst 0, 1) := by decide +kernel
theorem dX4_take_51 : decode cX4_take 51 = .ok (.iastore, 1) := by decide +kernel
theorem dX4_take_52 : decode cX4_take 52 = .ok (.iinc 4 1, 3) := by decide +kernel
theorem dX4_take_55 : decode cX4_take 55 = .ok (.goto (-23), 3) := by decide +kernel
theorem dX4_take_58 : decode cX4_take 58 = .ok (.iinc 3 1, 3) := by decide +kernel
theorem dX4_take_61 : decode cX4_take 61 = .ok (.goto (-57), 3) := by decide +kernel
theorem dX4_take_64 : decode cX4_take 64 = .ok (.aload_n 0, 1) := by decide +kernel
theorem dX4_take_65 : decode cX4_take 65 = .ok (.dup, 1) := by decide +kernel
theorem dX4_take_66 : decode cX4_take 66 = .ok (.getfield 84, 3) := by decide +kernel
theorem dX4_take_69 : decode cX4_take 69 = .ok (.iload_n 1, 1) := by decide +kernel
theorem dX4_take_70 : decode cX4_take 70 = .ok (.ior, 1) := by decide +kernel
theorem dX4_take_71 : decode cX4_take 71 = .ok (.putfield 84, 3) := by decide +kernel
theorem dX4_take_74 : decode cX4_take 74 = .ok (.iload_n 2, 1) := by decide +kernel
theorem dX4_take_75 : decode cX4_take 75 = .ok (.ireturn, 1) := by decide +kernel
theorem dX4_minutesOf_0 : decode cX4_minutesOf 0 = .ok (.iconst 0, 1) := by decide +kernel
theorem dX4_minutesOf_1 : decode cX4_minutesOf 1 = .ok (.istore_n 2, 1) := by decide +kernel
theorem dX4_minutesOf_2 : decode cX4_minutesOf 2 = .ok (.iconst 0, 1) := by decide +kernel
theorem dX4_minutesOf_3 : decode cX4_minutesOf 3 = .ok (.istore_n 3, 1) := by decide +kernel
theorem dX4_minutesOf_4 : decode cX4_minutesOf 4 = .ok (.iload_n 3, 1) := by decide +kernel
theorem dX4_minutesOf_5 : decode cX4_minutesOf 5 = .ok (.aload_n 0, 1) := by decide +kernel
theorem dX4_minutesOf_6 : decode cX4_minutesOf 6 = .ok (.getfield 77, 3) := by decide +kernel
theorem dX4_minutesOf_9 : decode cX4_minutesOf 9 = .ok (.if_icmp .ge 31, 3) := by decide +kernel
theorem dX4_minutesOf_12 : decode cX4_minutesOf 12 = .ok (.iload_n 2, 1) := by decide +kernel
theorem dX4_minutesOf_13 : decode cX4_minutesOf 13 = .ok (.iload_n 1, 1) := by decide +kernel
theorem dX4_minutesOf_14 : decode cX4_minutesOf 14 = .ok (.iload_n 3, 1) := by decide +kernel
theorem dX4_minutesOf_15 : decode cX4_minutesOf 15 = .ok (.ishr, 1) := by decide +kernel
theorem dX4_minutesOf_16 : decode cX4_minutesOf 16 = .ok (.iconst 1, 1) := by decide +kernel
theorem dX4_minutesOf_17 : decode cX4_minutesOf 17 = .ok (.iand, 1) := by decide +kernel
theorem dX4_minutesOf_18 : decode cX4_minutesOf 18 = .ok (.iconst 1, 1) := by decide +kernel
theorem dX4_minutesOf_19 : decode cX4_minutesOf 19 = .ok (.if_icmp .ne 12, 3) := by decide +kernel
theorem dX4_minutesOf_22 : decode cX4_minutesOf 22 = .ok (.aload_n 0, 1) := by decide +kernel
theorem dX4_minutesOf_23 : decode cX4_minutesOf 23 = .ok (.getfield 26, 3) := by decide +kernel
theorem dX4_minutesOf_26 : decode cX4_minutesOf 26 = .ok (.iload_n 3, 1) := by decide +kernel
theorem dX4_minutesOf_27 : decode cX4_minutesOf 27 = .ok (.iaload, 1) := by decide +kernel
theorem dX4_minutesOf_28 : decode cX4_minutesOf 28 = .ok (.goto 4, 3) := by decide +kernel
theorem dX4_minutesOf_31 : decode cX4_minutesOf 31 = .ok (.iconst 0, 1) := by decide +kernel
theorem dX4_minutesOf_32 : decode cX4_minutesOf 32 = .ok (.iadd, 1) := by decide +kernel
theorem dX4_minutesOf_33 : decode cX4_minutesOf 33 = .ok (.istore_n 2, 1) := by decide +kernel
theorem dX4_minutesOf_34 : decode cX4_minutesOf 34 = .ok (.iinc 3 1, 3) := by decide +kernel
theorem dX4_minutesOf_37 : decode cX4_minutesOf 37 = .ok (.goto (-33), 3) := by decide +kernel
theorem dX4_minutesOf_40 : decode cX4_minutesOf 40 = .ok (.iload_n 2, 1) := by decide +kernel
theorem dX4_minutesOf_41 : decode cX4_minutesOf 41 = .ok (.ireturn, 1) := by decide +kernel
theorem dX4_carry_0 : decode cX4_carry 0 = .ok (.aload_n 0, 1) := by decide +kernel
theorem dX4_carry_1 : decode cX4_carry 1 = .ok (.getfield 127, 3) := by decide +kernel
theorem dX4_carry_4 : decode cX4_carry 4 = .ok (.ifCond .eq 13, 3) := by decide +kernel
theorem dX4_carry_7 : decode cX4_carry 7 = .ok (.aload_n 0, 1) := by decide +kernel
theorem dX4_carry_8 : decode cX4_carry 8 = .ok (.getfield 131, 3) := by decide +kernel
theorem dX4_carry_11 : decode cX4_carry 11 = .ok (.aload_n 0, 1) := by decide +kernel
theorem dX4_carry_12 : decode cX4_carry 12 = .ok (.getfield 134, 3) := by decide +kernel
theorem dX4_carry_15 : decode cX4_carry 15 = .ok (.iload_n 1, 1) := by decide +kernel
theorem dX4_carry_16 : decode cX4_carry 16 = .ok (.iastore, 1) := by decide +kernel
theorem dX4_carry_17 : decode cX4_carry 17 = .ok (.aload_n 0, 1) := by decide +kernel
theorem dX4_carry_18 : decode cX4_carry 18 = .ok (.dup, 1) := by decide +kernel
theorem dX4_carry_19 : decode cX4_carry 19 = .ok (.getfield 134, 3) := by decide +kernel
theorem dX4_carry_22 : decode cX4_carry 22 = .ok (.iconst 1, 1) := by decide +kernel
theorem dX4_carry_23 : decode cX4_carry 23 = .ok (.iadd, 1) := by decide +kernel
theorem dX4_carry_24 : decode cX4_carry 24 = .ok (.putfield 134, 3) := by decide +kernel
theorem dX4_carry_27 : decode cX4_carry 27 = .ok (.aload_n 0, 1) := by decide +kernel
theorem dX4_carry_28 : decode cX4_carry 28 = .ok (.getfield 131, 3) := by decide +kernel
theorem dX4_carry_31 : decode cX4_carry 31 = .ok (.aload_n 0, 1) := by decide +kernel
theorem dX4_carry_32 : decode cX4_carry 32 = .ok (.getfield 134, 3) := by decide +kernel
theorem dX4_carry_35 : decode cX4_carry 35 = .ok (.iconst 1, 1) := by decide +kernel
theorem dX4_carry_36 : decode cX4_carry 36 = .ok (.isub, 1) := by decide +kernel
theorem dX4_carry_37 : decode cX4_carry 37 = .ok (.iaload, 1) := by decide +kernel
theorem dX4_carry_38 : decode cX4_carry 38 = .ok (.ireturn, 1) := by decide +kernel
theorem dX4_carryAll_0 : decode cX4_carryAll 0 = .ok (.aload_n 0, 1) := by decide +kernel
theorem dX4_carryAll_1 : decode cX4_carryAll 1 = .ok (.aload_n 1, 1) := by decide +kernel
theorem dX4_carryAll_2 : decode cX4_carryAll 2 = .ok (.putfield 131, 3) := by decide +kernel
theorem dX4_carryAll_5 : decode cX4_carryAll 5 = .ok (.aload_n 0, 1) := by decide +kernel
theorem dX4_carryAll_6 : decode cX4_carryAll 6 = .ok (.iload_n 2, 1) := by decide +kernel
theorem dX4_carryAll_7 : decode cX4_carryAll 7 = .ok (.putfield 127, 3) := by decide +kernel
theorem dX4_carryAll_10 : decode cX4_carryAll 10 = .ok (.aload_n 0, 1) := by decide +kernel
theorem dX4_carryAll_11 : decode cX4_carryAll 11 = .ok (.iconst 0, 1) := by decide +kernel
theorem dX4_carryAll_12 : decode cX4_carryAll 12 = .ok (.putfield 134, 3) := by decide +kernel
theorem dX4_carryAll_15 : decode cX4_carryAll 15 = .ok (.aload_n 0, 1) := by decide +kernel
theorem dX4_carryAll_16 : decode cX4_carryAll 16 = .ok (.aload_n 0, 1) := by decide +kernel
theorem dX4_carryAll_17 : decode cX4_carryAll 17 = .ok (.aload_n 0, 1) := by decide +kernel
theorem dX4_carryAll_18 : decode cX4_carryAll 18 = .ok (.getfield 77, 3) := by decide +kernel
theorem dX4_carryAll_21 : decode cX4_carryAll 21 = .ok (.invokevirtual 137, 3) := by decide +kernel
theorem dX4_carryAll_24 : decode cX4_carryAll 24 = .ok (.putfield 77, 3) := by decide +kernel
theorem dX4_carryAll_27 : decode cX4_carryAll 27 = .ok (.aload_n 0, 1) := by decide +kernel
theorem dX4_carryAll_28 : decode cX4_carryAll 28 = .ok (.aload_n 0, 1) := by decide +kernel
theorem dX4_carryAll_29 : decode cX4_carryAll 29 = .ok (.aload_n 0, 1) := by decide +kernel
theorem dX4_carryAll_30 : decode cX4_carryAll 30 = .ok (.getfield 95, 3) := by decide +kernel
theorem dX4_carryAll_33 : decode cX4_carryAll 33 = .ok (.invokevirtual 137, 3) := by decide +kernel
theorem dX4_carryAll_36 : decode cX4_carryAll 36 = .ok (.putfield 95, 3) := by decide +kernel
theorem dX4_carryAll_39 : decode cX4_carryAll 39 = .ok (.aload_n 0, 1) := by decide +kernel
theorem dX4_carryAll_40 : decode cX4_carryAll 40 = .ok (.aload_n 0, 1) := by decide +kernel
theorem dX4_carryAll_41 : decode cX4_carryAll 41 = .ok (.aload_n 0, 1) := by decide +kernel
theorem dX4_carryAll_42 : decode cX4_carryAll 42 = .ok (.getfield 98, 3) := by decide +kernel
theorem dX4_carryAll_45 : decode cX4_carryAll 45 = .ok (.invokevirtual 137, 3) := by decide +kernel
theorem dX4_carryAll_48 : decode cX4_carryAll 48 = .ok (.putfield 98, 3) := by decide +kernel
theorem dX4_carryAll_51 : decode cX4_carryAll 51 = .ok (.aload_n 0, 1) := by decide +kernel
theorem dX4_carryAll_52 : decode cX4_carryAll 52 = .ok (.aload_n 0, 1) := by decide +kernel
theorem dX4_carryAll_53 : decode cX4_carryAll 53 = .ok (.aload_n 0, 1) := by decide +kernel
theorem dX4_carryAll_54 : decode cX4_carryAll 54 = .ok (.getfield 7, 3) := by decide +kernel
theorem dX4_carryAll_57 : decode cX4_carryAll 57 = .ok (.invokevirtual 137, 3) := by decide +kernel
theorem dX4_carryAll_60 : decode cX4_carryAll 60 = .ok (.putfield 7, 3) := by decide +kernel
theorem dX4_carryAll_63 : decode cX4_carryAll 63 = .ok (.aload_n 0, 1) := by decide +kernel
theorem dX4_carryAll_64 : decode cX4_carryAll 64 = .ok (.aload_n 0, 1) := by decide +kernel
theorem dX4_carryAll_65 : decode cX4_carryAll 65 = .ok (.aload_n 0, 1) := by decide +kernel
theorem dX4_carryAll_66 : decode cX4_carryAll 66 = .ok (.getfield 13, 3) := by decide +kernel
theorem dX4_carryAll_69 : decode cX4_carryAll 69 = .ok (.invokevirtual 137, 3) := by decide +kernel
theorem dX4_carryAll_72 : decode cX4_carryAll 72 = .ok (.putfield 13, 3) := by decide +kernel
theorem dX4_carryAll_75 : decode cX4_carryAll 75 = .ok (.aload_n 0, 1) := by decide +kernel
theorem dX4_carryAll_76 : decode cX4_carryAll 76 = .ok (.aload_n 0, 1) := by decide +kernel
theorem dX4_carryAll_77 : decode cX4_carryAll 77 = .ok (.aload_n 0, 1) := by decide +kernel
theorem dX4_carryAll_78 : decode cX4_carryAll 78 = .ok (.getfield 16, 3) := by decide +kernel
theorem dX4_carryAll_81 : decode cX4_carryAll 81 = .ok (.invokevirtual 137, 3) := by decide +kernel
theorem dX4_carryAll_84 : decode cX4_carryAll 84 = .ok (.putfield 16, 3) := by decide +kernel
theorem dX4_carryAll_87 : decode cX4_carryAll 87 = .ok (.aload_n 0, 1) := by decide +kernel
theorem dX4_carryAll_88 : decode cX4_carryAll 88 = .ok (.aload_n 0, 1) := by decide +kernel
theorem dX4_carryAll_89 : decode cX4_carryAll 89 = .ok (.aload_n 0, 1) := by decide +kernel
theorem dX4_carryAll_90 : decode cX4_carryAll 90 = .ok (.getfield 84, 3) := by decide +kernel
theorem dX4_carryAll_93 : decode cX4_carryAll 93 = .ok (.invokevirtual 137, 3) := by decide +kernel
theorem dX4_carryAll_96 : decode cX4_carryAll 96 = .ok (.putfield 84, 3) := by decide +kernel
theorem dX4_carryAll_99 : decode cX4_carryAll 99 = .ok (.aload_n 0, 1) := by decide +kernel
theorem dX4_carryAll_100 : decode cX4_carryAll 100 = .ok (.aload_n 0, 1) := by decide +kernel
theorem dX4_carryAll_101 : decode cX4_carryAll 101 = .ok (.aload_n 0, 1) := by decide +kernel
theorem dX4_carryAll_102 : decode cX4_carryAll 102 = .ok (.getfield 117, 3) := by decide +kernel
theorem dX4_carryAll_105 : decode cX4_carryAll 105 = .ok (.invokevirtual 137, 3) := by decide +kernel
theorem dX4_carryAll_108 : decode cX4_carryAll 108 = .ok (.putfield 117, 3) := by decide +kernel
theorem dX4_carryAll_111 : decode cX4_carryAll 111 = .ok (.aload_n 0, 1) := by decide +kernel
theorem dX4_carryAll_112 : decode cX4_carryAll 112 = .ok (.aload_n 0, 1) := by decide +kernel
theorem dX4_carryAll_113 : decode cX4_carryAll 113 = .ok (.aload_n 0, 1) := by decide +kernel
theorem dX4_carryAll_114 : decode cX4_carryAll 114 = .ok (.getfield 114, 3) := by decide +kernel
theorem dX4_carryAll_117 : decode cX4_carryAll 117 = .ok (.invokevirtual 137, 3) := by decide +kernel
theorem dX4_carryAll_120 : decode cX4_carryAll 120 = .ok (.putfield 114, 3) := by decide +kernel
theorem dX4_carryAll_123 : decode cX4_carryAll 123 = .ok (.aload_n 0, 1) := by decide +kernel
theorem dX4_carryAll_124 : decode cX4_carryAll 124 = .ok (.aload_n 0, 1) := by decide +kernel
theorem dX4_carryAll_125 : decode cX4_carryAll 125 = .ok (.aload_n 0, 1) := by decide +kernel
theorem dX4_carryAll_126 : decode cX4_carryAll 126 = .ok (.getfield 140, 3) := by decide +kernel
theorem dX4_carryAll_129 : decode cX4_carryAll 129 = .ok (.invokevirtual 137, 3) := by decide +kernel
theorem dX4_carryAll_132 : decode cX4_carryAll 132 = .ok (.putfield 140, 3) := by decide +kernel
theorem dX4_carryAll_135 : decode cX4_carryAll 135 = .ok (.iconst 0, 1) := by decide +kernel
theorem dX4_carryAll_136 : decode cX4_carryAll 136 = .ok (.istore_n 3, 1) := by decide +kernel
theorem dX4_carryAll_137 : decode cX4_carryAll 137 = .ok (.iload_n 3, 1) := by decide +kernel
theorem dX4_carryAll_138 : decode cX4_carryAll 138 = .ok (.bipush 7, 2) := by decide +kernel
theorem dX4_carryAll_140 : decode cX4_carryAll 140 = .ok (.if_icmp .ge 73, 3) := by decide +kernel
theorem dX4_carryAll_143 : decode cX4_carryAll 143 = .ok (.aload_n 0, 1) := by decide +kernel
theorem dX4_carryAll_144 : decode cX4_carryAll 144 = .ok (.getfield 19, 3) := by decide +kernel
theorem dX4_carryAll_147 : decode cX4_carryAll 147 = .ok (.iload_n 3, 1) := by decide +kernel
theorem dX4_carryAll_148 : decode cX4_carryAll 148 = .ok (.aload_n 0, 1) := by decide +kernel
theorem dX4_carryAll_149 : decode cX4_carryAll 149 = .ok (.aload_n 0, 1) := by decide +kernel
theorem dX4_carryAll_150 : decode cX4_carryAll 150 = .ok (.getfield 19, 3) := by decide +kernel
theorem dX4_carryAll_153 : decode cX4_carryAll 153 = .ok (.iload_n 3, 1) := by decide +kernel
theorem dX4_carryAll_154 : decode cX4_carryAll 154 = .ok (.iaload, 1) := by decide +kernel
theorem dX4_carryAll_155 : decode cX4_carryAll 155 = .ok (.invokevirtual 137, 3) := by decide +kernel
theorem dX4_carryAll_158 : decode cX4_carryAll 158 = .ok (.iastore, 1) := by decide +kernel
theorem dX4_carryAll_159 : decode cX4_carryAll 159 = .ok (.aload_n 0, 1) := by decide +kernel
theorem dX4_carryAll_160 : decode cX4_carryAll 160 = .ok (.getfield 23, 3) := by decide +kernel
theorem dX4_carryAll_163 : decode cX4_carryAll 163 = .ok (.iload_n 3, 1) := by decide +kernel
theorem dX4_carryAll_164 : decode cX4_carryAll 164 = .ok (.aload_n 0, 1) := by decide +kernel
theorem dX4_carryAll_165 : decode cX4_carryAll 165 = .ok (.aload_n 0, 1) := by decide +kernel
theorem dX4_carryAll_166 : decode cX4_carryAll 166 = .ok (.getfield 23, 3) := by decide +kernel
theorem dX4_carryAll_169 : decode cX4_carryAll 169 = .ok (.iload_n 3, 1) := by decide +kernel
theorem dX4_carryAll_170 : decode cX4_carryAll 170 = .ok (.iaload, 1) := by decide +kernel
theorem dX4_carryAll_171 : decode cX4_carryAll 171 = .ok (.invokevirtual 137, 3) := by decide +kernel
theorem dX4_carryAll_174 : decode cX4_carryAll 174 = .ok (.iastore, 1) := by decide +kernel
theorem dX4_carryAll_175 : decode cX4_carryAll 175 = .ok (.aload_n 0, 1) := by decide +kernel
theorem dX4_carryAll_176 : decode cX4_carryAll 176 = .ok (.getfield 26, 3) := by decide +kernel
theorem dX4_carryAll_179 : decode cX4_carryAll 179 = .ok (.iload_n 3, 1) := by decide +kernel
theorem dX4_carryAll_180 : decode cX4_carryAll 180 = .ok (.aload_n 0, 1) := by decide +kernel
theorem dX4_carryAll_181 : decode cX4_carryAll 181 = .ok (.aload_n 0, 1) := by decide +kernel
theorem dX4_carryAll_182 : decode cX4_carryAll 182 = .ok (.getfield 26, 3) := by decide +kernel
theorem dX4_carryAll_185 : decode cX4_carryAll 185 = .ok (.iload_n 3, 1) := by decide +kernel
theorem dX4_carryAll_186 : decode cX4_carryAll 186 = .ok (.iaload, 1) := by decide +kernel
theorem dX4_carryAll_187 : decode cX4_carryAll 187 = .ok (.invokevirtual 137, 3) := by decide +kernel
theorem dX4_carryAll_190 : decode cX4_carryAll 190 = .ok (.iastore, 1) := by decide +kernel
theorem dX4_carryAll_191 : decode cX4_carryAll 191 = .ok (.aload_n 0, 1) := by decide +kernel
theorem dX4_carryAll_192 : decode cX4_carryAll 192 = .ok (.getfield 29, 3) := by decide +kernel
theorem dX4_carryAll_195 : decode cX4_carryAll 195 = .ok (.iload_n 3, 1) := by decide +kernel
theorem dX4_carryAll_196 : decode cX4_carryAll 196 = .ok (.aload_n 0, 1) := by decide +kernel
theorem dX4_carryAll_197 : decode cX4_carryAll 197 = .ok (.aload_n 0, 1) := by decide +kernel
theorem dX4_carryAll_198 : decode cX4_carryAll 198 = .ok (.getfield 29, 3) := by decide +kernel
theorem dX4_carryAll_201 : decode cX4_carryAll 201 = .ok (.iload_n 3, 1) := by decide +kernel
theorem dX4_carryAll_202 : decode cX4_carryAll 202 = .ok (.iaload, 1) := by decide +kernel
theorem dX4_carryAll_203 : decode cX4_carryAll 203 = .ok (.invokevirtual 137, 3) := by decide +kernel
theorem dX4_carryAll_206 : decode cX4_carryAll 206 = .ok (.iastore, 1) := by decide +kernel
theorem dX4_carryAll_207 : decode cX4_carryAll 207 = .ok (.iinc 3 1, 3) := by decide +kernel
theorem dX4_carryAll_210 : decode cX4_carryAll 210 = .ok (.goto (-73), 3) := by decide +kernel
theorem dX4_carryAll_213 : decode cX4_carryAll 213 = .ok (.iconst 0, 1) := by decide +kernel
theorem dX4_carryAll_214 : decode cX4_carryAll 214 = .ok (.istore_n 3, 1) := by decide +kernel
theorem dX4_carryAll_215 : decode cX4_carryAll 215 = .ok (.iload_n 3, 1) := by decide +kernel
theorem dX4_carryAll_216 : decode cX4_carryAll 216 = .ok (.bipush 70, 2) := by decide +kernel
theorem dX4_carryAll_218 : decode cX4_carryAll 218 = .ok (.if_icmp .ge 25, 3) := by decide +kernel
theorem dX4_carryAll_221 : decode cX4_carryAll 221 = .ok (.aload_n 0, 1) := by decide +kernel
theorem dX4_carryAll_222 : decode cX4_carryAll 222 = .ok (.getfield 32, 3) := by decide +kernel
theorem dX4_carryAll_225 : decode cX4_carryAll 225 = .ok (.iload_n 3, 1) := by decide +kernel
theorem dX4_carryAll_226 : decode cX4_carryAll 226 = .ok (.aload_n 0, 1) := by decide +kernel
theorem dX4_carryAll_227 : decode cX4_carryAll 227 = .ok (.aload_n 0, 1) := by decide +kernel
theorem dX4_carryAll_228 : decode cX4_carryAll 228 = .ok (.getfield 32, 3) := by decide +kernel
theorem dX4_carryAll_231 : decode cX4_carryAll 231 = .ok (.iload_n 3, 1) := by decide +kernel
theorem dX4_carryAll_232 : decode cX4_carryAll 232 = .ok (.iaload, 1) := by decide +kernel
theorem dX4_carryAll_233 : decode cX4_carryAll 233 = .ok (.invokevirtual 137, 3) := by decide +kernel
theorem dX4_carryAll_236 : decode cX4_carryAll 236 = .ok (.iastore, 1) := by decide +kernel
theorem dX4_carryAll_237 : decode cX4_carryAll 237 = .ok (.iinc 3 1, 3) := by decide +kernel
theorem dX4_carryAll_240 : decode cX4_carryAll 240 = .ok (.goto (-25), 3) := by decide +kernel
theorem dX4_carryAll_243 : decode cX4_carryAll 243 = .ok (.return_, 1) := by decide +kernel
theorem dX4_open_0 : decode cX4_open 0 = .ok (.aload_n 0, 1) := by decide +kernel
theorem dX4_open_1 : decode cX4_open 1 = .ok (.aload_n 0, 1) := by decide +kernel
theorem dX4_open_2 : decode cX4_open 2 = .ok (.getfield 44, 3) := by decide +kernel
theorem dX4_open_5 : decode cX4_open 5 = .ok (.iconst 1, 1) := by decide +kernel
theorem dX4_open_6 : decode cX4_open 6 = .ok (.invokevirtual 143, 3) := by decide +kernel
theorem dX4_open_9 : decode cX4_open 9 = .ok (.return_, 1) := by decide +kernel
theorem dX4_close_0 : decode cX4_close 0 = .ok (.aload_n 0, 1) := by decide +kernel
theorem dX4_close_1 : decode cX4_close 1 = .ok (.aload_n 0, 1) := by decide +kernel
theorem dX4_close_2 : decode cX4_close 2 = .ok (.getfield 44, 3) := by decide +kernel
theorem dX4_close_5 : decode cX4_close 5 = .ok (.iconst 0, 1) := by decide +kernel
theorem dX4_close_6 : decode cX4_close 6 = .ok (.invokevirtual 143, 3) := by decide +kernel
theorem dX4_close_9 : decode cX4_close 9 = .ok (.return_, 1) := by decide +kernel
theorem dX4_image_0 : decode cX4_image 0 = .ok (.aload_n 0, 1) := by decide +kernel
theorem dX4_image_1 : decode cX4_image 1 = .ok (.iconst 0, 1) := by decide +kernel
theorem dX4_image_2 : decode cX4_image 2 = .ok (.putfield 74, 3) := by decide +kernel
theorem dX4_image_5 : decode cX4_image 5 = .ok (.aload_n 0, 1) := by decide +kernel
theorem dX4_image_6 : decode cX4_image 6 = .ok (.iconst 1, 1) := by decide +kernel
theorem dX4_image_7 : decode cX4_image 7 = .ok (.putfield 147, 3) := by decide +kernel
theorem dX4_image_10 : decode cX4_image 10 = .ok (.aload_n 0, 1) := by decide +kernel
theorem dX4_image_11 : decode cX4_image 11 = .ok (.aload_n 0, 1) := by decide +kernel
theorem dX4_image_12 : decode cX4_image 12 = .ok (.getfield 53, 3) := by decide +kernel
theorem dX4_image_15 : decode cX4_image 15 = .ok (.iconst 1, 1) := by decide +kernel
theorem dX4_image_16 : decode cX4_image 16 = .ok (.invokevirtual 143, 3) := by decide +kernel
theorem dX4_image_19 : decode cX4_image 19 = .ok (.aload_n 0, 1) := by decide +kernel
theorem dX4_image_20 : decode cX4_image 20 = .ok (.getfield 114, 3) := by decide +kernel
theorem dX4_image_23 : decode cX4_image 23 = .ok (.ireturn, 1) := by decide +kernel
theorem dX4_restore_0 : decode cX4_restore 0 = .ok (.aload_n 0, 1) := by decide +kernel
theorem dX4_restore_1 : decode cX4_restore 1 = .ok (.iconst 0, 1) := by decide +kernel
theorem dX4_restore_2 : decode cX4_restore 2 = .ok (.putfield 74, 3) := by decide +kernel
theorem dX4_restore_5 : decode cX4_restore 5 = .ok (.aload_n 0, 1) := by decide +kernel
theorem dX4_restore_6 : decode cX4_restore 6 = .ok (.getfield 147, 3) := by decide +kernel
theorem dX4_restore_9 : decode cX4_restore 9 = .ok (.ifCond .ne 10, 3) := by decide +kernel
theorem dX4_restore_12 : decode cX4_restore 12 = .ok (.aload_n 0, 1) := by decide +kernel
theorem dX4_restore_13 : decode cX4_restore 13 = .ok (.bipush (-3), 2) := by decide +kernel
theorem dX4_restore_15 : decode cX4_restore 15 = .ok (.invokevirtual 150, 3) := by decide +kernel
theorem dX4_restore_18 : decode cX4_restore 18 = .ok (.ireturn, 1) := by decide +kernel
theorem dX4_restore_19 : decode cX4_restore 19 = .ok (.aload_n 0, 1) := by decide +kernel
theorem dX4_restore_20 : decode cX4_restore 20 = .ok (.aload_n 0, 1) := by decide +kernel
theorem dX4_restore_21 : decode cX4_restore 21 = .ok (.getfield 53, 3) := by decide +kernel
theorem dX4_restore_24 : decode cX4_restore 24 = .ok (.iconst 0, 1) := by decide +kernel
theorem dX4_restore_25 : decode cX4_restore 25 = .ok (.invokevirtual 143, 3) := by decide +kernel
theorem dX4_restore_28 : decode cX4_restore 28 = .ok (.aload_n 0, 1) := by decide +kernel
theorem dX4_restore_29 : decode cX4_restore 29 = .ok (.getfield 114, 3) := by decide +kernel
theorem dX4_restore_32 : decode cX4_restore 32 = .ok (.ireturn, 1) := by decide +kernel
theorem dX4_feed_0 : decode cX4_feed 0 = .ok (.aload_n 0, 1) := by decide +kernel
theorem dX4_feed_1 : decode cX4_feed 1 = .ok (.iconst 0, 1) := by decide +kernel
theorem dX4_feed_2 : decode cX4_feed 2 = .ok (.putfield 74, 3) := by decide +kernel
theorem dX4_feed_5 : decode cX4_feed 5 = .ok (.iload_n 1, 1) := by decide +kernel
theorem dX4_feed_6 : decode cX4_feed 6 = .ok (.ifCond .ge 10, 3) := by decide +kernel
theorem dX4_feed_9 : decode cX4_feed 9 = .ok (.aload_n 0, 1) := by decide +kernel
theorem dX4_feed_10 : decode cX4_feed 10 = .ok (.bipush (-4), 2) := by decide +kernel
theorem dX4_feed_12 : decode cX4_feed 12 = .ok (.invokevirtual 150, 3) := by decide +kernel
theorem dX4_feed_15 : decode cX4_feed 15 = .ok (.ireturn, 1) := by decide +kernel
theorem dX4_feed_16 : decode cX4_feed 16 = .ok (.iload_n 1, 1) := by decide +kernel
theorem dX4_feed_17 : decode cX4_feed 17 = .ok (.sipush 255, 3) := by decide +kernel
theorem dX4_feed_20 : decode cX4_feed 20 = .ok (.if_icmp .gt 12, 3) := by decide +kernel
theorem dX4_feed_23 : decode cX4_feed 23 = .ok (.aload_n 0, 1) := by decide +kernel
theorem dX4_feed_24 : decode cX4_feed 24 = .ok (.getfield 153, 3) := by decide +kernel
theorem dX4_feed_27 : decode cX4_feed 27 = .ok (.bipush 80, 2) := by decide +kernel
theorem dX4_feed_29 : decode cX4_feed 29 = .ok (.if_icmp .ne 10, 3) := by decide +kernel
theorem dX4_feed_32 : decode cX4_feed 32 = .ok (.aload_n 0, 1) := by decide +kernel
theorem dX4_feed_33 : decode cX4_feed 33 = .ok (.bipush (-6), 2) := by decide +kernel
theorem dX4_feed_35 : decode cX4_feed 35 = .ok (.invokevirtual 150, 3) := by decide +kernel
theorem dX4_feed_38 : decode cX4_feed 38 = .ok (.ireturn, 1) := by decide +kernel
theorem dX4_feed_39 : decode cX4_feed 39 = .ok (.aload_n 0, 1) := by decide +kernel
theorem dX4_feed_40 : decode cX4_feed 40 = .ok (.getfield 56, 3) := by decide +kernel
theorem dX4_feed_43 : decode cX4_feed 43 = .ok (.aload_n 0, 1) := by decide +kernel
theorem dX4_feed_44 : decode cX4_feed 44 = .ok (.getfield 153, 3) := by decide +kernel
theorem dX4_feed_47 : decode cX4_feed 47 = .ok (.iload_n 1, 1) := by decide +kernel
theorem dX4_feed_48 : decode cX4_feed 48 = .ok (.iastore, 1) := by decide +kernel
theorem dX4_feed_49 : decode cX4_feed 49 = .ok (.aload_n 0, 1) := by decide +kernel
theorem dX4_feed_50 : decode cX4_feed 50 = .ok (.dup, 1) := by decide +kernel
theorem dX4_feed_51 : decode cX4_feed 51 = .ok (.getfield 153, 3) := by decide +kernel
theorem dX4_feed_54 : decode cX4_feed 54 = .ok (.iconst 1, 1) := by decide +kernel
theorem dX4_feed_55 : decode cX4_feed 55 = .ok (.iadd, 1) := by decide +kernel
theorem dX4_feed_56 : decode cX4_feed 56 = .ok (.putfield 153, 3) := by decide +kernel
theorem dX4_feed_59 : decode cX4_feed 59 = .ok (.aload_n 0, 1) := by decide +kernel
theorem dX4_feed_60 : decode cX4_feed 60 = .ok (.getfield 153, 3) := by decide +kernel
theorem dX4_feed_63 : decode cX4_feed 63 = .ok (.ireturn, 1) := by decide +kernel
theorem dX4_here_0 : decode cX4_here 0 = .ok (.aload_n 0, 1) := by decide +kernel
theorem dX4_here_1 : decode cX4_here 1 = .ok (.getfield 156, 3) := by decide +kernel
theorem dX4_here_4 : decode cX4_here 4 = .ok (.aload_n 0, 1) := by decide +kernel
theorem dX4_here_5 : decode cX4_here 5 = .ok (.getfield 153, 3) := by decide +kernel
theorem dX4_here_8 : decode cX4_here 8 = .ok (.if_icmp .ge 15, 3) := by decide +kernel
theorem dX4_here_11 : decode cX4_here 11 = .ok (.aload_n 0, 1) := by decide +kernel
theorem dX4_here_12 : decode cX4_here 12 = .ok (.getfield 56, 3) := by decide +kernel
theorem dX4_here_15 : decode cX4_here 15 = .ok (.aload_n 0, 1) := by decide +kernel
theorem dX4_here_16 : decode cX4_here 16 = .ok (.getfield 156, 3) := by decide +kernel
theorem dX4_here_19 : decode cX4_here 19 = .ok (.iaload, 1) := by decide +kernel
theorem dX4_here_20 : decode cX4_here 20 = .ok (.goto 4, 3) := by decide +kernel
theorem dX4_here_23 : decode cX4_here 23 = .ok (.iconst (-1), 1) := by decide +kernel
theorem dX4_here_24 : decode cX4_here 24 = .ok (.ireturn, 1) := by decide +kernel
theorem dX4_readDigit_0 : decode cX4_readDigit 0 = .ok (.aload_n 0, 1) := by decide +kernel
theorem dX4_readDigit_1 : decode cX4_readDigit 1 = .ok (.aload_n 0, 1) := by decide +kernel
theorem dX4_readDigit_2 : decode cX4_readDigit 2 = .ok (.getfield 159, 3) := by decide +kernel
theorem dX4_readDigit_5 : decode cX4_readDigit 5 = .ok (.ifCond .ne 20, 3) := by decide +kernel
theorem dX4_readDigit_8 : decode cX4_readDigit 8 = .ok (.aload_n 0, 1) := by decide +kernel
theorem dX4_readDigit_9 : decode cX4_readDigit 9 = .ok (.invokevirtual 162, 3) := by decide +kernel
theorem dX4_readDigit_12 : decode cX4_readDigit 12 = .ok (.i2l, 1) := by decide +kernel
theorem dX4_readDigit_13 : decode cX4_readDigit 13 = .ok (.ldc2_w 165, 3) := by decide +kernel
theorem dX4_readDigit_16 : decode cX4_readDigit 16 = .ok (.ldc2_w 167, 3) := by decide +kernel
theorem dX4_readDigit_19 : decode cX4_readDigit 19 = .ok (.invokestatic 80, 3) := by decide +kernel
theorem dX4_readDigit_22 : decode cX4_readDigit 22 = .ok (.ifCond .ne 7, 3) := by decide +kernel
theorem dX4_readDigit_25 : decode cX4_readDigit 25 = .ok (.iconst 1, 1) := by decide +kernel
theorem dX4_readDigit_26 : decode cX4_readDigit 26 = .ok (.goto 4, 3) := by decide +kernel
theorem dX4_readDigit_29 : decode cX4_readDigit 29 = .ok (.iconst 0, 1) := by decide +kernel
theorem dX4_readDigit_30 : decode cX4_readDigit 30 = .ok (.putfield 159, 3) := by decide +kernel
theorem dX4_readDigit_33 : decode cX4_readDigit 33 = .ok (.aload_n 0, 1) := by decide +kernel
theorem dX4_readDigit_34 : decode cX4_readDigit 34 = .ok (.getfield 159, 3) := by decide +kernel
theorem dX4_readDigit_37 : decode cX4_readDigit 37 = .ok (.ifCond .eq 5, 3) := by decide +kernel
theorem dX4_readDigit_40 : decode cX4_readDigit 40 = .ok (.iconst 0, 1) := by decide +kernel
theorem dX4_readDigit_41 : decode cX4_readDigit 41 = .ok (.ireturn, 1) := by decide +kernel
theorem dX4_readDigit_42 : decode cX4_readDigit 42 = .ok (.aload_n 0, 1) := by decide +kernel
theorem dX4_readDigit_43 : decode cX4_readDigit 43 = .ok (.dup, 1) := by decide +kernel
theorem dX4_readDigit_44 : decode cX4_readDigit 44 = .ok (.getfield 156, 3) := by decide +kernel
theorem dX4_readDigit_47 : decode cX4_readDigit 47 = .ok (.iconst 1, 1) := by decide +kernel
theorem dX4_readDigit_48 : decode cX4_readDigit 48 = .ok (.iadd, 1) := by decide +kernel
theorem dX4_readDigit_49 : decode cX4_readDigit 49 = .ok (.putfield 156, 3) := by decide +kernel
theorem dX4_readDigit_52 : decode cX4_readDigit 52 = .ok (.aload_n 0, 1) := by decide +kernel
theorem dX4_readDigit_53 : decode cX4_readDigit 53 = .ok (.getfield 56, 3) := by decide +kernel
theorem dX4_readDigit_56 : decode cX4_readDigit 56 = .ok (.aload_n 0, 1) := by decide +kernel
theorem dX4_readDigit_57 : decode cX4_readDigit 57 = .ok (.getfield 156, 3) := by decide +kernel
theorem dX4_readDigit_60 : decode cX4_readDigit 60 = .ok (.iconst 1, 1) := by decide +kernel
theorem dX4_readDigit_61 : decode cX4_readDigit 61 = .ok (.isub, 1) := by decide +kernel
theorem dX4_readDigit_62 : decode cX4_readDigit 62 = .ok (.iaload, 1) := by decide +kernel
theorem dX4_readDigit_63 : decode cX4_readDigit 63 = .ok (.bipush 48, 2) := by decide +kernel
theorem dX4_readDigit_65 : decode cX4_readDigit 65 = .ok (.isub, 1) := by decide +kernel
theorem dX4_readDigit_66 : decode cX4_readDigit 66 = .ok (.ireturn, 1) := by decide +kernel
theorem dX4_readStatement_0 : decode cX4_readStatement 0 = .ok (.aload_n 0, 1) := by decide +kernel
theorem dX4_readStatement_1 : decode cX4_readStatement 1 = .ok (.getfield 169, 3) := by decide +kernel
theorem dX4_readStatement_4 : decode cX4_readStatement 4 = .ok (.istore_n 1, 1) := by decide +kernel
theorem dX4_readStatement_5 : decode cX4_readStatement 5 = .ok (.aload_n 0, 1) := by decide +kernel
theorem dX4_readStatement_6 : decode cX4_readStatement 6 = .ok (.invokevirtual 162, 3) := by decide +kernel
theorem dX4_readStatement_9 : decode cX4_readStatement 9 = .ok (.istore_n 2, 1) := by decide +kernel
theorem dX4_readStatement_10 : decode cX4_readStatement 10 = .ok (.aload_n 0, 1) := by decide +kernel
theorem dX4_readStatement_11 : decode cX4_readStatement 11 = .ok (.getfield 59, 3) := by decide +kernel
theorem dX4_readStatement_14 : decode cX4_readStatement 14 = .ok (.iload_n 1, 1) := by decide +kernel
theorem dX4_readStatement_15 : decode cX4_readStatement 15 = .ok (.aload_n 0, 1) := by decide +kernel
theorem dX4_readStatement_16 : decode cX4_readStatement 16 = .ok (.getfield 156, 3) := by decide +kernel
theorem dX4_readStatement_19 : decode cX4_readStatement 19 = .ok (.iastore, 1) := by decide +kernel
theorem dX4_readStatement_20 : decode cX4_readStatement 20 = .ok (.aload_n 0, 1) := by decide +kernel
theorem dX4_readStatement_21 : decode cX4_readStatement 21 = .ok (.getfield 62, 3) := by decide +kernel
theorem dX4_readStatement_24 : decode cX4_readStatement 24 = .ok (.iload_n 1, 1) := by decide +kernel
theorem dX4_readStatement_25 : decode cX4_readStatement 25 = .ok (.iload_n 2, 1) := by decide +kernel
theorem dX4_readStatement_26 : decode cX4_readStatement 26 = .ok (.iastore, 1) := by decide +kernel
theorem dX4_readStatement_27 : decode cX4_readStatement 27 = .ok (.aload_n 0, 1) := by decide +kernel
theorem dX4_readStatement_28 : decode cX4_readStatement 28 = .ok (.aload_n 0, 1) := by decide +kernel
theorem dX4_readStatement_29 : decode cX4_readStatement 29 = .ok (.getfield 159, 3) := by decide +kernel
theorem dX4_readStatement_32 : decode cX4_readStatement 32 = .ok (.ifCond .ne 33, 3) := by decide +kernel
theorem dX4_readStatement_35 : decode cX4_readStatement 35 = .ok (.iload_n 2, 1) := by decide +kernel
theorem dX4_readStatement_36 : decode cX4_readStatement 36 = .ok (.bipush 110, 2) := by decide +kernel
theorem dX4_readStatement_38 : decode cX4_readStatement 38 = .ok (.if_icmp .eq 31, 3) := by decide +kernel
theorem dX4_readStatement_41 : decode cX4_readStatement 41 = .ok (.iload_n 2, 1) := by decide +kernel
theorem dX4_readStatement_42 : decode cX4_readStatement 42 = .ok (.bipush 104, 2) := by decide +kernel
theorem dX4_readStatement_44 : decode cX4_readStatement 44 = .ok (.if_icmp .eq 25, 3) := by decide +kernel
theorem dX4_readStatement_47 : decode cX4_readStatement 47 = .ok (.iload_n 2, 1) := by decide +kernel
theorem dX4_readStatement_48 : decode cX4_readStatement 48 = .ok (.bipush 116, 2) := by decide +kernel
theorem dX4_readStatement_50 : decode cX4_readStatement 50 = .ok (.if_icmp .eq 19, 3) := by decide +kernel
theorem dX4_readStatement_53 : decode cX4_readStatement 53 = .ok (.iload_n 2, 1) := by decide +kernel
theorem dX4_readStatement_54 : decode cX4_readStatement 54 = .ok (.bipush 114, 2) := by decide +kernel
theorem dX4_readStatement_56 : decode cX4_readStatement 56 = .ok (.if_icmp .eq 13, 3) := by decide +kernel
theorem dX4_readStatement_59 : decode cX4_readStatement 59 = .ok (.iload_n 2, 1) := by decide +kernel
theorem dX4_readStatement_60 : decode cX4_readStatement 60 = .ok (.bipush 101, 2) := by decide +kernel
theorem dX4_readStatement_62 : decode cX4_readStatement 62 = .ok (.if_icmp .eq 7, 3) := by decide +kernel
theorem dX4_readStatement_65 : decode cX4_readStatement 65 = .ok (.iconst 1, 1) := by decide +kernel
theorem dX4_readStatement_66 : decode cX4_readStatement 66 = .ok (.goto 4, 3) := by decide +kernel
theorem dX4_readStatement_69 : decode cX4_readStatement 69 = .ok (.iconst 0, 1) := by decide +kernel
theorem dX4_readStatement_70 : decode cX4_readStatement 70 = .ok (.putfield 159, 3) := by decide +kernel
theorem dX4_readStatement_73 : decode cX4_readStatement 73 = .ok (.aload_n 0, 1) := by decide +kernel
theorem dX4_readStatement_74 : decode cX4_readStatement 74 = .ok (.dup, 1) := by decide +kernel
theorem dX4_readStatement_75 : decode cX4_readStatement 75 = .ok (.getfield 156, 3) := by decide +kernel
theorem dX4_readStatement_78 : decode cX4_readStatement 78 = .ok (.aload_n 0, 1) := by decide +kernel
theorem dX4_readStatement_79 : decode cX4_readStatement 79 = .ok (.getfield 159, 3) := by decide +kernel
theorem dX4_readStatement_82 : decode cX4_readStatement 82 = .ok (.ifCond .eq 7, 3) := by decide +kernel
theorem dX4_readStatement_85 : decode cX4_readStatement 85 = .ok (.iconst 0, 1) := by decide +kernel
theorem dX4_readStatement_86 : decode cX4_readStatement 86 = .ok (.goto 4, 3) := by decide +kernel
theorem dX4_readStatement_89 : decode cX4_readStatement 89 = .ok (.iconst 1, 1) := by decide +kernel
theorem dX4_readStatement_90 : decode cX4_readStatement 90 = .ok (.iadd, 1) := by decide +kernel
theorem dX4_readStatement_91 : decode cX4_readStatement 91 = .ok (.putfield 156, 3) := by decide +kernel
theorem dX4_readStatement_94 : decode cX4_readStatement 94 = .ok (.iload_n 2, 1) := by decide +kernel
theorem dX4_readStatement_95 : decode cX4_readStatement 95 = .ok (.bipush 110, 2) := by decide +kernel
theorem dX4_readStatement_97 : decode cX4_readStatement 97 = .ok (.if_icmp .ne 7, 3) := by decide +kernel
theorem dX4_readStatement_100 : decode cX4_readStatement 100 = .ok (.iconst 4, 1) := by decide +kernel
theorem dX4_readStatement_101 : decode cX4_readStatement 101 = .ok (.goto 20, 3) := by decide +kernel
theorem dX4_readStatement_104 : decode cX4_readStatement 104 = .ok (.iload_n 2, 1) := by decide +kernel
theorem dX4_readStatement_105 : decode cX4_readStatement 105 = .ok (.bipush 104, 2) := by decide +kernel
theorem dX4_readStatement_107 : decode cX4_readStatement 107 = .ok (.if_icmp .eq 9, 3) := by decide +kernel
theorem dX4_readStatement_110 : decode cX4_readStatement 110 = .ok (.iload_n 2, 1) := by decide +kernel
theorem dX4_readStatement_111 : decode cX4_readStatement 111 = .ok (.bipush 101, 2) := by decide +kernel
theorem dX4_readStatement_113 : decode cX4_readStatement 113 = .ok (.if_icmp .ne 7, 3) := by decide +kernel
theorem dX4_readStatement_116 : decode cX4_readStatement 116 = .ok (.iconst 2, 1) := by decide +kernel
theorem dX4_readStatement_117 : decode cX4_readStatement 117 = .ok (.goto 4, 3) := by decide +kernel
theorem dX4_readStatement_120 : decode cX4_readStatement 120 = .ok (.iconst 1, 1) := by decide +kernel
theorem dX4_readStatement_121 : decode cX4_readStatement 121 = .ok (.istore_n 3, 1) := by decide +kernel
theorem dX4_readStatement_122 : decode cX4_readStatement 122 = .ok (.iconst 0, 1) := by decide +kernel
theorem dX4_readStatement_123 : decode cX4_readStatement 123 = .ok (.istore 4, 2) := by decide +kernel
theorem dX4_readStatement_125 : decode cX4_readStatement 125 = .ok (.iload 4, 2) := by decide +kernel
theorem dX4_readStatement_127 : decode cX4_readStatement 127 = .ok (.iload_n 3, 1) := by decide +kernel
theorem dX4_readStatement_128 : decode cX4_readStatement 128 = .ok (.if_icmp .ge 24, 3) := by decide +kernel
theorem dX4_readStatement_131 : decode cX4_readStatement 131 = .ok (.aload_n 0, 1) := by decide +kernel
theorem dX4_readStatement_132 : decode cX4_readStatement 132 = .ok (.getfield 65, 3) := by decide +kernel
theorem dX4_readStatement_135 : decode cX4_readStatement 135 = .ok (.iconst 4, 1) := by decide +kernel
theorem dX4_readStatement_136 : decode cX4_readStatement 136 = .ok (.iload_n 1, 1) := by decide +kernel
theorem dX4_readStatement_137 : decode cX4_readStatement 137 = .ok (.imul, 1) := by decide +kernel
theorem dX4_readStatement_138 : decode cX4_readStatement 138 = .ok (.iload 4, 2) := by decide +kernel
theorem dX4_readStatement_140 : decode cX4_readStatement 140 = .ok (.iadd, 1) := by decide +kernel
theorem dX4_readStatement_141 : decode cX4_readStatement 141 = .ok (.aload_n 0, 1) := by decide +kernel
theorem dX4_readStatement_142 : decode cX4_readStatement 142 = .ok (.invokevirtual 172, 3) := by decide +kernel
theorem dX4_readStatement_145 : decode cX4_readStatement 145 = .ok (.iastore, 1) := by decide +kernel
theorem dX4_readStatement_146 : decode cX4_readStatement 146 = .ok (.iinc 4 1, 3) := by decide +kernel
theorem dX4_readStatement_149 : decode cX4_readStatement 149 = .ok (.goto (-24), 3) := by decide +kernel
theorem dX4_readStatement_152 : decode cX4_readStatement 152 = .ok (.aload_n 0, 1) := by decide +kernel
theorem dX4_readStatement_153 : decode cX4_readStatement 153 = .ok (.getfield 159, 3) := by decide +kernel
theorem dX4_readStatement_156 : decode cX4_readStatement 156 = .ok (.ifCond .ne 50, 3) := by decide +kernel
theorem dX4_readStatement_159 : decode cX4_readStatement 159 = .ok (.iload_n 2, 1) := by decide +kernel
theorem dX4_readStatement_160 : decode cX4_readStatement 160 = .ok (.bipush 116, 2) := by decide +kernel
theorem dX4_readStatement_162 : decode cX4_readStatement 162 = .ok (.if_icmp .ne 44, 3) := by decide +kernel
theorem dX4_readStatement_165 : decode cX4_readStatement 165 = .ok (.aload_n 0, 1) := by decide +kernel
theorem dX4_readStatement_166 : decode cX4_readStatement 166 = .ok (.invokevirtual 162, 3) := by decide +kernel
theorem dX4_readStatement_169 : decode cX4_readStatement 169 = .ok (.i2l, 1) := by decide +kernel
theorem dX4_readStatement_170 : decode cX4_readStatement 170 = .ok (.ldc2_w 165, 3) := by decide +kernel
theorem dX4_readStatement_173 : decode cX4_readStatement 173 = .ok (.ldc2_w 167, 3) := by decide +kernel
theorem dX4_readStatement_176 : decode cX4_readStatement 176 = .ok (.invokestatic 80, 3) := by decide +kernel
theorem dX4_readStatement_179 : decode cX4_readStatement 179 = .ok (.ifCond .eq 27, 3) := by decide +kernel
theorem dX4_readStatement_182 : decode cX4_readStatement 182 = .ok (.aload_n 0, 1) := by decide +kernel
theorem dX4_readStatement_183 : decode cX4_readStatement 183 = .ok (.getfield 65, 3) := by decide +kernel
theorem dX4_readStatement_186 : decode cX4_readStatement 186 = .ok (.iconst 4, 1) := by decide +kernel
theorem dX4_readStatement_187 : decode cX4_readStatement 187 = .ok (.iload_n 1, 1) := by decide +kernel
theorem dX4_readStatement_188 : decode cX4_readStatement 188 = .ok (.imul, 1) := by decide +kernel
theorem dX4_readStatement_189 : decode cX4_readStatement 189 = .ok (.bipush 10, 2) := by decide +kernel
theorem dX4_readStatement_191 : decode cX4_readStatement 191 = .ok (.aload_n 0, 1) := by decide +kernel
theorem dX4_readStatement_192 : decode cX4_readStatement 192 = .ok (.getfield 65, 3) := by decide +kernel
theorem dX4_readStatement_195 : decode cX4_readStatement 195 = .ok (.iconst 4, 1) := by decide +kernel
theorem dX4_readStatement_196 : decode cX4_readStatement 196 = .ok (.iload_n 1, 1) := by decide +kernel
theorem dX4_readStatement_197 : decode cX4_readStatement 197 = .ok (.imul, 1) := by decide +kernel
theorem dX4_readStatement_198 : decode cX4_readStatement 198 = .ok (.iaload, 1) := by decide +kernel
theorem dX4_readStatement_199 : decode cX4_readStatement 199 = .ok (.imul, 1) := by decide +kernel
theorem dX4_readStatement_200 : decode cX4_readStatement 200 = .ok (.aload_n 0, 1) := by decide +kernel
theorem dX4_readStatement_201 : decode cX4_readStatement 201 = .ok (.invokevirtual 172, 3) := by decide +kernel
theorem dX4_readStatement_204 : decode cX4_readStatement 204 = .ok (.iadd, 1) := by decide +kernel
theorem dX4_readStatement_205 : decode cX4_readStatement 205 = .ok (.iastore, 1) := by decide +kernel
theorem dX4_readStatement_206 : decode cX4_readStatement 206 = .ok (.aload_n 0, 1) := by decide +kernel
theorem dX4_readStatement_207 : decode cX4_readStatement 207 = .ok (.aload_n 0, 1) := by decide +kernel
theorem dX4_readStatement_208 : decode cX4_readStatement 208 = .ok (.getfield 159, 3) := by decide +kernel
theorem dX4_readStatement_211 : decode cX4_readStatement 211 = .ok (.ifCond .ne 12, 3) := by decide +kernel
theorem dX4_readStatement_214 : decode cX4_readStatement 214 = .ok (.aload_n 0, 1) := by decide +kernel
theorem dX4_readStatement_215 : decode cX4_readStatement 215 = .ok (.invokevirtual 162, 3) := by decide +kernel
theorem dX4_readStatement_218 : decode cX4_readStatement 218 = .ok (.bipush 59, 2) := by decide +kernel
theorem dX4_readStatement_220 : decode cX4_readStatement 220 = .ok (.if_icmp .eq 7, 3) := by decide +kernel
theorem dX4_readStatement_223 : decode cX4_readStatement 223 = .ok (.iconst 1, 1) := by decide +kernel
theorem dX4_readStatement_224 : decode cX4_readStatement 224 = .ok (.goto 4, 3) := by decide +kernel
theorem dX4_readStatement_227 : decode cX4_readStatement 227 = .ok (.iconst 0, 1) := by decide +kernel
theorem dX4_readStatement_228 : decode cX4_readStatement 228 = .ok (.putfield 159, 3) := by decide +kernel
theorem dX4_readStatement_231 : decode cX4_readStatement 231 = .ok (.aload_n 0, 1) := by decide +kernel
theorem dX4_readStatement_232 : decode cX4_readStatement 232 = .ok (.dup, 1) := by decide +kernel
theorem dX4_readStatement_233 : decode cX4_readStatement 233 = .ok (.getfield 156, 3) := by decide +kernel
theorem dX4_readStatement_236 : decode cX4_readStatement 236 = .ok (.aload_n 0, 1) := by decide +kernel
theorem dX4_readStatement_237 : decode cX4_readStatement 237 = .ok (.getfield 159, 3) := by decide +kernel
theorem dX4_readStatement_240 : decode cX4_readStatement 240 = .ok (.ifCond .eq 7, 3) := by decide +kernel
theorem dX4_readStatement_243 : decode cX4_readStatement 243 = .ok (.iconst 0, 1) := by decide +kernel
theorem dX4_readStatement_244 : decode cX4_readStatement 244 = .ok (.goto 4, 3) := by decide +kernel
theorem dX4_readStatement_247 : decode cX4_readStatement 247 = .ok (.iconst 1, 1) := by decide +kernel
theorem dX4_readStatement_248 : decode cX4_readStatement 248 = .ok (.iadd, 1) := by decide +kernel
theorem dX4_readStatement_249 : decode cX4_readStatement 249 = .ok (.putfield 156, 3) := by decide +kernel
theorem dX4_readStatement_252 : decode cX4_readStatement 252 = .ok (.aload_n 0, 1) := by decide +kernel
theorem dX4_readStatement_253 : decode cX4_readStatement 253 = .ok (.dup, 1) := by decide +kernel
theorem dX4_readStatement_254 : decode cX4_readStatement 254 = .ok (.getfield 169, 3) := by decide +kernel
theorem dX4_readStatement_257 : decode cX4_readStatement 257 = .ok (.iconst 1, 1) := by decide +kernel
theorem dX4_readStatement_258 : decode cX4_readStatement 258 = .ok (.iadd, 1) := by decide +kernel
theorem dX4_readStatement_259 : decode cX4_readStatement 259 = .ok (.putfield 169, 3) := by decide +kernel
theorem dX4_readStatement_262 : decode cX4_readStatement 262 = .ok (.return_, 1) := by decide +kernel
theorem dX4_comes_0 : decode cX4_comes 0 = .ok (.aload_n 0, 1) := by decide +kernel
theorem dX4_comes_1 : decode cX4_comes 1 = .ok (.getfield 65, 3) := by decide +kernel
theorem dX4_comes_4 : decode cX4_comes 4 = .ok (.iconst 4, 1) := by decide +kernel
theorem dX4_comes_5 : decode cX4_comes 5 = .ok (.iload_n 1, 1) := by decide +kernel
theorem dX4_comes_6 : decode cX4_comes 6 = .ok (.imul, 1) := by decide +kernel
theorem dX4_comes_7 : decode cX4_comes 7 = .ok (.iaload, 1) := by decide +kernel
theorem dX4_comes_8 : decode cX4_comes 8 = .ok (.istore_n 2, 1) := by decide +kernel
theorem dX4_comes_9 : decode cX4_comes 9 = .ok (.aload_n 0, 1) := by decide +kernel
theorem dX4_comes_10 : decode cX4_comes 10 = .ok (.getfield 65, 3) := by decide +kernel
theorem dX4_comes_13 : decode cX4_comes 13 = .ok (.iconst 4, 1) := by decide +kernel
theorem dX4_comes_14 : decode cX4_comes 14 = .ok (.iload_n 1, 1) := by decide +kernel
theorem dX4_comes_15 : decode cX4_comes 15 = .ok (.imul, 1) := by decide +kernel
theorem dX4_comes_16 : decode cX4_comes 16 = .ok (.iconst 1, 1) := by decide +kernel
theorem dX4_comes_17 : decode cX4_comes 17 = .ok (.iadd, 1) := by decide +kernel
theorem dX4_comes_18 : decode cX4_comes 18 = .ok (.iaload, 1) := by decide +kernel
theorem dX4_comes_19 : decode cX4_comes 19 = .ok (.istore_n 3, 1) := by decide +kernel
theorem dX4_comes_20 : decode cX4_comes 20 = .ok (.aload_n 0, 1) := by decide +kernel
theorem dX4_comes_21 : decode cX4_comes 21 = .ok (.getfield 62, 3) := by decide +kernel
theorem dX4_comes_24 : decode cX4_comes 24 = .ok (.iload_n 1, 1) := by decide +kernel
theorem dX4_comes_25 : decode cX4_comes 25 = .ok (.iaload, 1) := by decide +kernel
theorem dX4_comes_26 : decode cX4_comes 26 = .ok (.lookupswitch 209 #[(104, 155), (110, 42), (114, 194), (116, 177)], 42) := by decide +kernel
theorem dX4_comes_68 : decode cX4_comes 68 = .ok (.aload_n 0, 1) := by decide +kernel
theorem dX4_comes_69 : decode cX4_comes 69 = .ok (.getfield 77, 3) := by decide +kernel
theorem dX4_comes_72 : decode cX4_comes 72 = .ok (.bipush 6, 2) := by decide +kernel
theorem dX4_comes_74 : decode cX4_comes 74 = .ok (.if_icmp .ne 5, 3) := by decide +kernel
theorem dX4_comes_77 : decode cX4_comes 77 = .ok (.iconst 0, 1) := by decide +kernel
theorem dX4_comes_78 : decode cX4_comes 78 = .ok (.ireturn, 1) := by decide +kernel
theorem dX4_comes_79 : decode cX4_comes 79 = .ok (.aload_n 0, 1) := by decide +kernel
theorem dX4_comes_80 : decode cX4_comes 80 = .ok (.getfield 19, 3) := by decide +kernel
theorem dX4_comes_83 : decode cX4_comes 83 = .ok (.aload_n 0, 1) := by decide +kernel
theorem dX4_comes_84 : decode cX4_comes 84 = .ok (.getfield 77, 3) := by decide +kernel
theorem dX4_comes_87 : decode cX4_comes 87 = .ok (.iload_n 2, 1) := by decide +kernel
theorem dX4_comes_88 : decode cX4_comes 88 = .ok (.iastore, 1) := by decide +kernel
theorem dX4_comes_89 : decode cX4_comes 89 = .ok (.aload_n 0, 1) := by decide +kernel
theorem dX4_comes_90 : decode cX4_comes 90 = .ok (.getfield 23, 3) := by decide +kernel
theorem dX4_comes_93 : decode cX4_comes 93 = .ok (.aload_n 0, 1) := by decide +kernel
theorem dX4_comes_94 : decode cX4_comes 94 = .ok (.getfield 77, 3) := by decide +kernel
theorem dX4_comes_97 : decode cX4_comes 97 = .ok (.iload_n 3, 1) := by decide +kernel
theorem dX4_comes_98 : decode cX4_comes 98 = .ok (.iastore, 1) := by decide +kernel
theorem dX4_comes_99 : decode cX4_comes 99 = .ok (.aload_n 0, 1) := by decide +kernel
theorem dX4_comes_100 : decode cX4_comes 100 = .ok (.getfield 26, 3) := by decide +kernel
theorem dX4_comes_103 : decode cX4_comes 103 = .ok (.aload_n 0, 1) := by decide +kernel
theorem dX4_comes_104 : decode cX4_comes 104 = .ok (.getfield 77, 3) := by decide +kernel
theorem dX4_comes_107 : decode cX4_comes 107 = .ok (.aload_n 0, 1) := by decide +kernel
theorem dX4_comes_108 : decode cX4_comes 108 = .ok (.getfield 65, 3) := by decide +kernel
theorem dX4_comes_111 : decode cX4_comes 111 = .ok (.iconst 4, 1) := by decide +kernel
theorem dX4_comes_112 : decode cX4_comes 112 = .ok (.iload_n 1, 1) := by decide +kernel
theorem dX4_comes_113 : decode cX4_comes 113 = .ok (.imul, 1) := by decide +kernel
theorem dX4_comes_114 : decode cX4_comes 114 = .ok (.iconst 2, 1) := by decide +kernel
theorem dX4_comes_115 : decode cX4_comes 115 = .ok (.iadd, 1) := by decide +kernel
theorem dX4_comes_116 : decode cX4_comes 116 = .ok (.iaload, 1) := by decide +kernel
theorem dX4_comes_117 : decode cX4_comes 117 = .ok (.iastore, 1) := by decide +kernel
theorem dX4_comes_118 : decode cX4_comes 118 = .ok (.aload_n 0, 1) := by decide +kernel
theorem dX4_comes_119 : decode cX4_comes 119 = .ok (.getfield 29, 3) := by decide +kernel
theorem dX4_comes_122 : decode cX4_comes 122 = .ok (.aload_n 0, 1) := by decide +kernel
theorem dX4_comes_123 : decode cX4_comes 123 = .ok (.getfield 77, 3) := by decide +kernel
theorem dX4_comes_126 : decode cX4_comes 126 = .ok (.aload_n 0, 1) := by decide +kernel
theorem dX4_comes_127 : decode cX4_comes 127 = .ok (.getfield 65, 3) := by decide +kernel
theorem dX4_comes_130 : decode cX4_comes 130 = .ok (.iconst 4, 1) := by decide +kernel
theorem dX4_comes_131 : decode cX4_comes 131 = .ok (.iload_n 1, 1) := by decide +kernel
theorem dX4_comes_132 : decode cX4_comes 132 = .ok (.imul, 1) := by decide +kernel
theorem dX4_comes_133 : decode cX4_comes 133 = .ok (.iconst 3, 1) := by decide +kernel
theorem dX4_comes_134 : decode cX4_comes 134 = .ok (.iadd, 1) := by decide +kernel
theorem dX4_comes_135 : decode cX4_comes 135 = .ok (.iaload, 1) := by decide +kernel
theorem dX4_comes_136 : decode cX4_comes 136 = .ok (.iastore, 1) := by decide +kernel
theorem dX4_comes_137 : decode cX4_comes 137 = .ok (.iconst 0, 1) := by decide +kernel
theorem dX4_comes_138 : decode cX4_comes 138 = .ok (.istore 4, 2) := by decide +kernel
theorem dX4_comes_140 : decode cX4_comes 140 = .ok (.iload 4, 2) := by decide +kernel
theorem dX4_comes_142 : decode cX4_comes 142 = .ok (.bipush 10, 2) := by decide +kernel
theorem dX4_comes_144 : decode cX4_comes 144 = .ok (.if_icmp .ge 25, 3) := by decide +kernel
theorem dX4_comes_147 : decode cX4_comes 147 = .ok (.aload_n 0, 1) := by decide +kernel
theorem dX4_comes_148 : decode cX4_comes 148 = .ok (.getfield 32, 3) := by decide +kernel
theorem dX4_comes_151 : decode cX4_comes 151 = .ok (.bipush 10, 2) := by decide +kernel
theorem dX4_comes_153 : decode cX4_comes 153 = .ok (.aload_n 0, 1) := by decide +kernel
theorem dX4_comes_154 : decode cX4_comes 154 = .ok (.getfield 77, 3) := by decide +kernel
theorem dX4_comes_157 : decode cX4_comes 157 = .ok (.imul, 1) := by decide +kernel
theorem dX4_comes_158 : decode cX4_comes 158 = .ok (.iload 4, 2) := by decide +kernel
theorem dX4_comes_160 : decode cX4_comes 160 = .ok (.iadd, 1) := by decide +kernel
theorem dX4_comes_161 : decode cX4_comes 161 = .ok (.iconst 0, 1) := by decide +kernel
theorem dX4_comes_162 : decode cX4_comes 162 = .ok (.iastore, 1) := by decide +kernel
theorem dX4_comes_163 : decode cX4_comes 163 = .ok (.iinc 4 1, 3) := by decide +kernel
theorem dX4_comes_166 : decode cX4_comes 166 = .ok (.goto (-26), 3) := by decide +kernel
theorem dX4_comes_169 : decode cX4_comes 169 = .ok (.aload_n 0, 1) := by decide +kernel
theorem dX4_comes_170 : decode cX4_comes 170 = .ok (.dup, 1) := by decide +kernel
theorem dX4_comes_171 : decode cX4_comes 171 = .ok (.getfield 77, 3) := by decide +kernel
theorem dX4_comes_174 : decode cX4_comes 174 = .ok (.iconst 1, 1) := by decide +kernel
theorem dX4_comes_175 : decode cX4_comes 175 = .ok (.iadd, 1) := by decide +kernel
theorem dX4_comes_176 : decode cX4_comes 176 = .ok (.putfield 77, 3) := by decide +kernel
theorem dX4_comes_179 : decode cX4_comes 179 = .ok (.iconst 1, 1) := by decide +kernel
theorem dX4_comes_180 : decode cX4_comes 180 = .ok (.ireturn, 1) := by decide +kernel
theorem dX4_comes_181 : decode cX4_comes 181 = .ok (.aload_n 0, 1) := by decide +kernel
theorem dX4_comes_182 : decode cX4_comes 182 = .ok (.iload_n 2, 1) := by decide +kernel
theorem dX4_comes_183 : decode cX4_comes 183 = .ok (.putfield 95, 3) := by decide +kernel
theorem dX4_comes_186 : decode cX4_comes 186 = .ok (.aload_n 0, 1) := by decide +kernel
theorem dX4_comes_187 : decode cX4_comes 187 = .ok (.iload_n 3, 1) := by decide +kernel
theorem dX4_comes_188 : decode cX4_comes 188 = .ok (.putfield 98, 3) := by decide +kernel
theorem dX4_comes_191 : decode cX4_comes 191 = .ok (.iload_n 2, 1) := by decide +kernel
theorem dX4_comes_192 : decode cX4_comes 192 = .ok (.bipush 6, 2) := by decide +kernel
theorem dX4_comes_194 : decode cX4_comes 194 = .ok (.if_icmp .ge 7, 3) := by decide +kernel
theorem dX4_comes_197 : decode cX4_comes 197 = .ok (.iconst 1, 1) := by decide +kernel
theorem dX4_comes_198 : decode cX4_comes 198 = .ok (.goto 4, 3) := by decide +kernel
theorem dX4_comes_201 : decode cX4_comes 201 = .ok (.iconst 0, 1) := by decide +kernel
theorem dX4_comes_202 : decode cX4_comes 202 = .ok (.ireturn, 1) := by decide +kernel
theorem dX4_comes_203 : decode cX4_comes 203 = .ok (.aload_n 0, 1) := by decide +kernel
theorem dX4_comes_204 : decode cX4_comes 204 = .ok (.iload_n 2, 1) := by decide +kernel
theorem dX4_comes_205 : decode cX4_comes 205 = .ok (.putfield 7, 3) := by decide +kernel
theorem dX4_comes_208 : decode cX4_comes 208 = .ok (.iload_n 2, 1) := by decide +kernel
theorem dX4_comes_209 : decode cX4_comes 209 = .ok (.bipush 40, 2) := by decide +kernel
theorem dX4_comes_211 : decode cX4_comes 211 = .ok (.if_icmp .gt 7, 3) := by decide +kernel
theorem dX4_comes_214 : decode cX4_comes 214 = .ok (.iconst 1, 1) := by decide +kernel
theorem dX4_comes_215 : decode cX4_comes 215 = .ok (.goto 4, 3) := by decide +kernel
theorem dX4_comes_218 : decode cX4_comes 218 = .ok (.iconst 0, 1) := by decide +kernel
theorem dX4_comes_219 : decode cX4_comes 219 = .ok (.ireturn, 1) := by decide +kernel
theorem dX4_comes_220 : decode cX4_comes 220 = .ok (.aload_n 0, 1) := by decide +kernel
theorem dX4_comes_221 : decode cX4_comes 221 = .ok (.iload_n 2, 1) := by decide +kernel
theorem dX4_comes_222 : decode cX4_comes 222 = .ok (.putfield 13, 3) := by decide +kernel
theorem dX4_comes_225 : decode cX4_comes 225 = .ok (.iload_n 2, 1) := by decide +kernel
theorem dX4_comes_226 : decode cX4_comes 226 = .ok (.ifCond .le 7, 3) := by decide +kernel
theorem dX4_comes_229 : decode cX4_comes 229 = .ok (.iconst 1, 1) := by decide +kernel
theorem dX4_comes_230 : decode cX4_comes 230 = .ok (.goto 4, 3) := by decide +kernel
theorem dX4_comes_233 : decode cX4_comes 233 = .ok (.iconst 0, 1) := by decide +kernel
theorem dX4_comes_234 : decode cX4_comes 234 = .ok (.ireturn, 1) := by decide +kernel
theorem dX4_comes_235 : decode cX4_comes 235 = .ok (.aload_n 0, 1) := by decide +kernel
theorem dX4_comes_236 : decode cX4_comes 236 = .ok (.iload_n 2, 1) := by decide +kernel
theorem dX4_comes_237 : decode cX4_comes 237 = .ok (.invokevirtual 175, 3) := by decide +kernel
theorem dX4_comes_240 : decode cX4_comes 240 = .ok (.ifCond .eq 19, 3) := by decide +kernel
theorem dX4_comes_243 : decode cX4_comes 243 = .ok (.aload_n 0, 1) := by decide +kernel
theorem dX4_comes_244 : decode cX4_comes 244 = .ok (.getfield 32, 3) := by decide +kernel
theorem dX4_comes_247 : decode cX4_comes 247 = .ok (.bipush 10, 2) := by decide +kernel
theorem dX4_comes_249 : decode cX4_comes 249 = .ok (.iload_n 2, 1) := by decide +kernel
theorem dX4_comes_250 : decode cX4_comes 250 = .ok (.imul, 1) := by decide +kernel
theorem dX4_comes_251 : decode cX4_comes 251 = .ok (.iload_n 3, 1) := by decide +kernel
theorem dX4_comes_252 : decode cX4_comes 252 = .ok (.iadd, 1) := by decide +kernel
theorem dX4_comes_253 : decode cX4_comes 253 = .ok (.iaload, 1) := by decide +kernel
theorem dX4_comes_254 : decode cX4_comes 254 = .ok (.bipush 9, 2) := by decide +kernel
theorem dX4_comes_256 : decode cX4_comes 256 = .ok (.if_icmp .ne 5, 3) := by decide +kernel
theorem dX4_comes_259 : decode cX4_comes 259 = .ok (.iconst 0, 1) := by decide +kernel
theorem dX4_comes_260 : decode cX4_comes 260 = .ok (.ireturn, 1) := by decide +kernel
theorem dX4_comes_261 : decode cX4_comes 261 = .ok (.aload_n 0, 1) := by decide +kernel
theorem dX4_comes_262 : decode cX4_comes 262 = .ok (.getfield 32, 3) := by decide +kernel
theorem dX4_comes_265 : decode cX4_comes 265 = .ok (.bipush 10, 2) := by decide +kernel
theorem dX4_comes_267 : decode cX4_comes 267 = .ok (.iload_n 2, 1) := by decide +kernel
theorem dX4_comes_268 : decode cX4_comes 268 = .ok (.imul, 1) := by decide +kernel
theorem dX4_comes_269 : decode cX4_comes 269 = .ok (.iload_n 3, 1) := by decide +kernel
theorem dX4_comes_270 : decode cX4_comes 270 = .ok (.iadd, 1) := by decide +kernel
theorem dX4_comes_271 : decode cX4_comes 271 = .ok (.dup2, 1) := by decide +kernel
theorem dX4_comes_272 : decode cX4_comes 272 = .ok (.iaload, 1) := by decide +kernel
theorem dX4_comes_273 : decode cX4_comes 273 = .ok (.iconst 1, 1) := by decide +kernel
theorem dX4_comes_274 : decode cX4_comes 274 = .ok (.iadd, 1) := by decide +kernel
theorem dX4_comes_275 : decode cX4_comes 275 = .ok (.iastore, 1) := by decide +kernel
theorem dX4_comes_276 : decode cX4_comes 276 = .ok (.iconst 1, 1) := by decide +kernel
theorem dX4_comes_277 : decode cX4_comes 277 = .ok (.ireturn, 1) := by decide +kernel
theorem dX4_farm_0 : decode cX4_farm 0 = .ok (.aload_n 0, 1) := by decide +kernel
theorem dX4_farm_1 : decode cX4_farm 1 = .ok (.iconst 0, 1) := by decide +kernel
theorem dX4_farm_2 : decode cX4_farm 2 = .ok (.putfield 74, 3) := by decide +kernel
theorem dX4_farm_5 : decode cX4_farm 5 = .ok (.aload_n 0, 1) := by decide +kernel
theorem dX4_farm_6 : decode cX4_farm 6 = .ok (.iconst 0, 1) := by decide +kernel
theorem dX4_farm_7 : decode cX4_farm 7 = .ok (.putfield 156, 3) := by decide +kernel
theorem dX4_farm_10 : decode cX4_farm 10 = .ok (.aload_n 0, 1) := by decide +kernel
theorem dX4_farm_11 : decode cX4_farm 11 = .ok (.iconst 0, 1) := by decide +kernel
theorem dX4_farm_12 : decode cX4_farm 12 = .ok (.putfield 159, 3) := by decide +kernel
theorem dX4_farm_15 : decode cX4_farm 15 = .ok (.aload_n 0, 1) := by decide +kernel
theorem dX4_farm_16 : decode cX4_farm 16 = .ok (.iconst 0, 1) := by decide +kernel
theorem dX4_farm_17 : decode cX4_farm 17 = .ok (.putfield 169, 3) := by decide +kernel
theorem dX4_farm_20 : decode cX4_farm 20 = .ok (.aload_n 0, 1) := by decide +kernel
theorem dX4_farm_21 : decode cX4_farm 21 = .ok (.getfield 159, 3) := by decide +kernel
theorem dX4_farm_24 : decode cX4_farm 24 = .ok (.ifCond .ne 28, 3) := by decide +kernel
theorem dX4_farm_27 : decode cX4_farm 27 = .ok (.aload_n 0, 1) := by decide +kernel
theorem dX4_farm_28 : decode cX4_farm 28 = .ok (.getfield 169, 3) := by decide +kernel
theorem dX4_farm_31 : decode cX4_farm 31 = .ok (.ifCond .eq 14, 3) := by decide +kernel
theorem dX4_farm_34 : decode cX4_farm 34 = .ok (.aload_n 0, 1) := by decide +kernel
theorem dX4_farm_35 : decode cX4_farm 35 = .ok (.getfield 156, 3) := by decide +kernel
theorem dX4_farm_38 : decode cX4_farm 38 = .ok (.aload_n 0, 1) := by decide +kernel
theorem dX4_farm_39 : decode cX4_farm 39 = .ok (.getfield 153, 3) := by decide +kernel
theorem dX4_farm_42 : decode cX4_farm 42 = .ok (.if_icmp .ge 10, 3) := by decide +kernel
theorem dX4_farm_45 : decode cX4_farm 45 = .ok (.aload_n 0, 1) := by decide +kernel
theorem dX4_farm_46 : decode cX4_farm 46 = .ok (.invokevirtual 179, 3) := by decide +kernel
theorem dX4_farm_49 : decode cX4_farm 49 = .ok (.goto (-29), 3) := by decide +kernel
theorem dX4_farm_52 : decode cX4_farm 52 = .ok (.aload_n 0, 1) := by decide +kernel
theorem dX4_farm_53 : decode cX4_farm 53 = .ok (.iconst 0, 1) := by decide +kernel
theorem dX4_farm_54 : decode cX4_farm 54 = .ok (.putfield 153, 3) := by decide +kernel
theorem dX4_farm_57 : decode cX4_farm 57 = .ok (.aload_n 0, 1) := by decide +kernel
theorem dX4_farm_58 : decode cX4_farm 58 = .ok (.getfield 159, 3) := by decide +kernel
theorem dX4_farm_61 : decode cX4_farm 61 = .ok (.ifCond .eq 12, 3) := by decide +kernel
theorem dX4_farm_64 : decode cX4_farm 64 = .ok (.sipush (-1000), 3) := by decide +kernel
theorem dX4_farm_67 : decode cX4_farm 67 = .ok (.aload_n 0, 1) := by decide +kernel
theorem dX4_farm_68 : decode cX4_farm 68 = .ok (.getfield 156, 3) := by decide +kernel
theorem dX4_farm_71 : decode cX4_farm 71 = .ok (.isub, 1) := by decide +kernel
theorem dX4_farm_72 : decode cX4_farm 72 = .ok (.ireturn, 1) := by decide +kernel
theorem dX4_farm_73 : decode cX4_farm 73 = .ok (.aload_n 0, 1) := by decide +kernel
theorem dX4_farm_74 : decode cX4_farm 74 = .ok (.invokevirtual 182, 3) := by decide +kernel
theorem dX4_farm_77 : decode cX4_farm 77 = .ok (.iconst 0, 1) := by decide +kernel
theorem dX4_farm_78 : decode cX4_farm 78 = .ok (.istore_n 1, 1) := by decide +kernel
theorem dX4_farm_79 : decode cX4_farm 79 = .ok (.iload_n 1, 1) := by decide +kernel
theorem dX4_farm_80 : decode cX4_farm 80 = .ok (.aload_n 0, 1) := by decide +kernel
theorem dX4_farm_81 : decode cX4_farm 81 = .ok (.getfield 169, 3) := by decide +kernel
theorem dX4_farm_84 : decode cX4_farm 84 = .ok (.if_icmp .ge 32, 3) := by decide +kernel
theorem dX4_farm_87 : decode cX4_farm 87 = .ok (.aload_n 0, 1) := by decide +kernel
theorem dX4_farm_88 : decode cX4_farm 88 = .ok (.iload_n 1, 1) := by decide +kernel
theorem dX4_farm_89 : decode cX4_farm 89 = .ok (.invokevirtual 185, 3) := by decide +kernel
theorem dX4_farm_92 : decode cX4_farm 92 = .ok (.ifCond .ne 18, 3) := by decide +kernel
theorem dX4_farm_95 : decode cX4_farm 95 = .ok (.aload_n 0, 1) := by decide +kernel
theorem dX4_farm_96 : decode cX4_farm 96 = .ok (.invokevirtual 188, 3) := by decide +kernel
theorem dX4_farm_99 : decode cX4_farm 99 = .ok (.sipush (-2000), 3) := by decide +kernel
theorem dX4_farm_102 : decode cX4_farm 102 = .ok (.aload_n 0, 1) := by decide +kernel
theorem dX4_farm_103 : decode cX4_farm 103 = .ok (.getfield 59, 3) := by decide +kernel
theorem dX4_farm_106 : decode cX4_farm 106 = .ok (.iload_n 1, 1) := by decide +kernel
theorem dX4_farm_107 : decode cX4_farm 107 = .ok (.iaload, 1) := by decide +kernel
theorem dX4_farm_108 : decode cX4_farm 108 = .ok (.isub, 1) := by decide +kernel
theorem dX4_farm_109 : decode cX4_farm 109 = .ok (.ireturn, 1) := by decide +kernel
theorem dX4_farm_110 : decode cX4_farm 110 = .ok (.iinc 1 1, 3) := by decide +kernel
theorem dX4_farm_113 : decode cX4_farm 113 = .ok (.goto (-34), 3) := by decide +kernel
theorem dX4_farm_116 : decode cX4_farm 116 = .ok (.aload_n 0, 1) := by decide +kernel
theorem dX4_farm_117 : decode cX4_farm 117 = .ok (.getfield 169, 3) := by decide +kernel
theorem dX4_farm_120 : decode cX4_farm 120 = .ok (.ireturn, 1) := by decide +kernel
theorem dX4_nest_0 : decode cX4_nest 0 = .ok (.aload_n 0, 1) := by decide +kernel
theorem dX4_nest_1 : decode cX4_nest 1 = .ok (.iconst 0, 1) := by decide +kernel
theorem dX4_nest_2 : decode cX4_nest 2 = .ok (.putfield 74, 3) := by decide +kernel
theorem dX4_nest_5 : decode cX4_nest 5 = .ok (.aload_n 0, 1) := by decide +kernel
theorem dX4_nest_6 : decode cX4_nest 6 = .ok (.iload_n 1, 1) := by decide +kernel
theorem dX4_nest_7 : decode cX4_nest 7 = .ok (.invokevirtual 175, 3) := by decide +kernel
theorem dX4_nest_10 : decode cX4_nest 10 = .ok (.ifCond .ne 9, 3) := by decide +kernel
theorem dX4_nest_13 : decode cX4_nest 13 = .ok (.aload_n 0, 1) := by decide +kernel
theorem dX4_nest_14 : decode cX4_nest 14 = .ok (.iconst (-1), 1) := by decide +kernel
theorem dX4_nest_15 : decode cX4_nest 15 = .ok (.invokevirtual 150, 3) := by decide +kernel
theorem dX4_nest_18 : decode cX4_nest 18 = .ok (.ireturn, 1) := by decide +kernel
theorem dX4_nest_19 : decode cX4_nest 19 = .ok (.iload_n 2, 1) := by decide +kernel
theorem dX4_nest_20 : decode cX4_nest 20 = .ok (.tableswitch 108 0 7 #[48, 55, 62, 69, 76, 82, 88, 99], 48) := by decide +kernel
theorem dX4_nest_68 : decode cX4_nest 68 = .ok (.aload_n 0, 1) := by decide +kernel
theorem dX4_nest_69 : decode cX4_nest 69 = .ok (.getfield 19, 3) := by decide +kernel
theorem dX4_nest_72 : decode cX4_nest 72 = .ok (.iload_n 1, 1) := by decide +kernel
theorem dX4_nest_73 : decode cX4_nest 73 = .ok (.iaload, 1) := by decide +kernel
theorem dX4_nest_74 : decode cX4_nest 74 = .ok (.ireturn, 1) := by decide +kernel
theorem dX4_nest_75 : decode cX4_nest 75 = .ok (.aload_n 0, 1) := by decide +kernel
theorem dX4_nest_76 : decode cX4_nest 76 = .ok (.getfield 23, 3) := by decide +kernel
theorem dX4_nest_79 : decode cX4_nest 79 = .ok (.iload_n 1, 1) := by decide +kernel
theorem dX4_nest_80 : decode cX4_nest 80 = .ok (.iaload, 1) := by decide +kernel
theorem dX4_nest_81 : decode cX4_nest 81 = .ok (.ireturn, 1) := by decide +kernel
theorem dX4_nest_82 : decode cX4_nest 82 = .ok (.aload_n 0, 1) := by decide +kernel
theorem dX4_nest_83 : decode cX4_nest 83 = .ok (.getfield 26, 3) := by decide +kernel
theorem dX4_nest_86 : decode cX4_nest 86 = .ok (.iload_n 1, 1) := by decide +kernel
theorem dX4_nest_87 : decode cX4_nest 87 = .ok (.iaload, 1) := by decide +kernel
theorem dX4_nest_88 : decode cX4_nest 88 = .ok (.ireturn, 1) := by decide +kernel
theorem dX4_nest_89 : decode cX4_nest 89 = .ok (.aload_n 0, 1) := by decide +kernel
theorem dX4_nest_90 : decode cX4_nest 90 = .ok (.getfield 29, 3) := by decide +kernel
theorem dX4_nest_93 : decode cX4_nest 93 = .ok (.iload_n 1, 1) := by decide +kernel
theorem dX4_nest_94 : decode cX4_nest 94 = .ok (.iaload, 1) := by decide +kernel
theorem dX4_nest_95 : decode cX4_nest 95 = .ok (.ireturn, 1) := by decide +kernel
theorem dX4_nest_96 : decode cX4_nest 96 = .ok (.aload_n 0, 1) := by decide +kernel
theorem dX4_nest_97 : decode cX4_nest 97 = .ok (.iload_n 1, 1) := by decide +kernel
theorem dX4_nest_98 : decode cX4_nest 98 = .ok (.invokevirtual 91, 3) := by decide +kernel
theorem dX4_nest_101 : decode cX4_nest 101 = .ok (.ireturn, 1) := by decide +kernel
theorem dX4_nest_102 : decode cX4_nest 102 = .ok (.aload_n 0, 1) := by decide +kernel
theorem dX4_nest_103 : decode cX4_nest 103 = .ok (.iload_n 1, 1) := by decide +kernel
theorem dX4_nest_104 : decode cX4_nest 104 = .ok (.invokevirtual 191, 3) := by decide +kernel
theorem dX4_nest_107 : decode cX4_nest 107 = .ok (.ireturn, 1) := by decide +kernel
theorem dX4_nest_108 : decode cX4_nest 108 = .ok (.aload_n 0, 1) := by decide +kernel
theorem dX4_nest_109 : decode cX4_nest 109 = .ok (.invokevirtual 111, 3) := by decide +kernel
theorem dX4_nest_112 : decode cX4_nest 112 = .ok (.aload_n 0, 1) := by decide +kernel
theorem dX4_nest_113 : decode cX4_nest 113 = .ok (.getfield 41, 3) := by decide +kernel
theorem dX4_nest_116 : decode cX4_nest 116 = .ok (.iload_n 1, 1) := by decide +kernel
theorem dX4_nest_117 : decode cX4_nest 117 = .ok (.iaload, 1) := by decide +kernel
theorem dX4_nest_118 : decode cX4_nest 118 = .ok (.ireturn, 1) := by decide +kernel
theorem dX4_nest_119 : decode cX4_nest 119 = .ok (.aload_n 0, 1) := by decide +kernel
theorem dX4_nest_120 : decode cX4_nest 120 = .ok (.getfield 84, 3) := by decide +kernel
theorem dX4_nest_123 : decode cX4_nest 123 = .ok (.iload_n 1, 1) := by decide +kernel
theorem dX4_nest_124 : decode cX4_nest 124 = .ok (.ishr, 1) := by decide +kernel
theorem dX4_nest_125 : decode cX4_nest 125 = .ok (.iconst 1, 1) := by decide +kernel
theorem dX4_nest_126 : decode cX4_nest 126 = .ok (.iand, 1) := by decide +kernel
theorem dX4_nest_127 : decode cX4_nest 127 = .ok (.ireturn, 1) := by decide +kernel
theorem dX4_nest_128 : decode cX4_nest 128 = .ok (.aload_n 0, 1) := by decide +kernel
theorem dX4_nest_129 : decode cX4_nest 129 = .ok (.bipush (-2), 2) := by decide +kernel
theorem dX4_nest_131 : decode cX4_nest 131 = .ok (.invokevirtual 150, 3) := by decide +kernel
theorem dX4_nest_134 : decode cX4_nest 134 = .ok (.ireturn, 1) := by decide +kernel
theorem dX4_oldest_0 : decode cX4_oldest 0 = .ok (.bipush (-9), 2) := by decide +kernel
theorem dX4_oldest_2 : decode cX4_oldest 2 = .ok (.istore_n 2, 1) := by decide +kernel
theorem dX4_oldest_3 : decode cX4_oldest 3 = .ok (.iconst 0, 1) := by decide +kernel
theorem dX4_oldest_4 : decode cX4_oldest 4 = .ok (.istore_n 3, 1) := by decide +kernel
theorem dX4_oldest_5 : decode cX4_oldest 5 = .ok (.iload_n 3, 1) := by decide +kernel
theorem dX4_oldest_6 : decode cX4_oldest 6 = .ok (.bipush 10, 2) := by decide +kernel
theorem dX4_oldest_8 : decode cX4_oldest 8 = .ok (.if_icmp .ge 29, 3) := by decide +kernel
theorem dX4_oldest_11 : decode cX4_oldest 11 = .ok (.aload_n 0, 1) := by decide +kernel
theorem dX4_oldest_12 : decode cX4_oldest 12 = .ok (.getfield 32, 3) := by decide +kernel
theorem dX4_oldest_15 : decode cX4_oldest 15 = .ok (.bipush 10, 2) := by decide +kernel
theorem dX4_oldest_17 : decode cX4_oldest 17 = .ok (.iload_n 1, 1) := by decide +kernel
theorem dX4_oldest_18 : decode cX4_oldest 18 = .ok (.imul, 1) := by decide +kernel
theorem dX4_oldest_19 : decode cX4_oldest 19 = .ok (.iload_n 3, 1) := by decide +kernel
theorem dX4_oldest_20 : decode cX4_oldest 20 = .ok (.iadd, 1) := by decide +kernel
theorem dX4_oldest_21 : decode cX4_oldest 21 = .ok (.iaload, 1) := by decide +kernel
theorem dX4_oldest_22 : decode cX4_oldest 22 = .ok (.ifCond .le 7, 3) := by decide +kernel
theorem dX4_oldest_25 : decode cX4_oldest 25 = .ok (.iload_n 3, 1) := by decide +kernel
theorem dX4_oldest_26 : decode cX4_oldest 26 = .ok (.goto 4, 3) := by decide +kernel
theorem dX4_oldest_29 : decode cX4_oldest 29 = .ok (.iload_n 2, 1) := by decide +kernel
theorem dX4_oldest_30 : decode cX4_oldest 30 = .ok (.istore_n 2, 1) := by decide +kernel
theorem dX4_oldest_31 : decode cX4_oldest 31 = .ok (.iinc 3 1, 3) := by decide +kernel
theorem dX4_oldest_34 : decode cX4_oldest 34 = .ok (.goto (-29), 3) := by decide +kernel
theorem dX4_oldest_37 : decode cX4_oldest 37 = .ok (.iload_n 2, 1) := by decide +kernel
theorem dX4_oldest_38 : decode cX4_oldest 38 = .ok (.ireturn, 1) := by decide +kernel
theorem dX4_set_0 : decode cX4_set 0 = .ok (.aload_n 0, 1) := by decide +kernel
theorem dX4_set_1 : decode cX4_set 1 = .ok (.iconst 0, 1) := by decide +kernel
theorem dX4_set_2 : decode cX4_set 2 = .ok (.putfield 74, 3) := by decide +kernel
theorem dX4_set_5 : decode cX4_set 5 = .ok (.iload_n 1, 1) := by decide +kernel
theorem dX4_set_6 : decode cX4_set 6 = .ok (.i2l, 1) := by decide +kernel
theorem dX4_set_7 : decode cX4_set 7 = .ok (.lconst 0, 1) := by decide +kernel
theorem dX4_set_8 : decode cX4_set 8 = .ok (.ldc2_w 194, 3) := by decide +kernel
theorem dX4_set_11 : decode cX4_set 11 = .ok (.invokestatic 80, 3) := by decide +kernel
theorem dX4_set_14 : decode cX4_set 14 = .ok (.ifCond .ne 10, 3) := by decide +kernel
theorem dX4_set_17 : decode cX4_set 17 = .ok (.aload_n 0, 1) := by decide +kernel
theorem dX4_set_18 : decode cX4_set 18 = .ok (.bipush (-2), 2) := by decide +kernel
theorem dX4_set_20 : decode cX4_set 20 = .ok (.invokevirtual 150, 3) := by decide +kernel
theorem dX4_set_23 : decode cX4_set 23 = .ok (.ireturn, 1) := by decide +kernel
theorem dX4_set_24 : decode cX4_set 24 = .ok (.iload_n 1, 1) := by decide +kernel
theorem dX4_set_25 : decode cX4_set 25 = .ok (.iconst 3, 1) := by decide +kernel
theorem dX4_set_26 : decode cX4_set 26 = .ok (.if_icmp .ne 7, 3) := by decide +kernel
theorem dX4_set_29 : decode cX4_set 29 = .ok (.iconst 1, 1) := by decide +kernel
theorem dX4_set_30 : decode cX4_set 30 = .ok (.goto 4, 3) := by decide +kernel
theorem dX4_set_33 : decode cX4_set 33 = .ok (.iconst 0, 1) := by decide +kernel
theorem dX4_set_34 : decode cX4_set 34 = .ok (.istore_n 3, 1) := by decide +kernel
theorem dX4_set_35 : decode cX4_set 35 = .ok (.iload_n 1, 1) := by decide +kernel
theorem dX4_set_36 : decode cX4_set 36 = .ok (.ifCond .ne 7, 3) := by decide +kernel
theorem dX4_set_39 : decode cX4_set 39 = .ok (.iconst 5, 1) := by decide +kernel
theorem dX4_set_40 : decode cX4_set 40 = .ok (.goto 15, 3) := by decide +kernel
theorem dX4_set_43 : decode cX4_set 43 = .ok (.iload_n 1, 1) := by decide +kernel
theorem dX4_set_44 : decode cX4_set 44 = .ok (.iconst 2, 1) := by decide +kernel
theorem dX4_set_45 : decode cX4_set 45 = .ok (.if_icmp .ne 8, 3) := by decide +kernel
theorem dX4_set_48 : decode cX4_set 48 = .ok (.bipush 40, 2) := by decide +kernel
theorem dX4_set_50 : decode cX4_set 50 = .ok (.goto 5, 3) := by decide +kernel
theorem dX4_set_53 : decode cX4_set 53 = .ok (.bipush 9, 2) := by decide +kernel
theorem dX4_set_55 : decode cX4_set 55 = .ok (.istore 4, 2) := by decide +kernel
theorem dX4_set_57 : decode cX4_set 57 = .ok (.iload_n 2, 1) := by decide +kernel
theorem dX4_set_58 : decode cX4_set 58 = .ok (.iload_n 3, 1) := by decide +kernel
theorem dX4_set_59 : decode cX4_set 59 = .ok (.if_icmp .lt 9, 3) := by decide +kernel
theorem dX4_set_62 : decode cX4_set 62 = .ok (.iload_n 2, 1) := by decide +kernel
theorem dX4_set_63 : decode cX4_set 63 = .ok (.iload 4, 2) := by decide +kernel
theorem dX4_set_65 : decode cX4_set 65 = .ok (.if_icmp .le 20, 3) := by decide +kernel
theorem dX4_set_68 : decode cX4_set 68 = .ok (.aload_n 0, 1) := by decide +kernel
theorem dX4_set_69 : decode cX4_set 69 = .ok (.iload_n 2, 1) := by decide +kernel
theorem dX4_set_70 : decode cX4_set 70 = .ok (.iload_n 3, 1) := by decide +kernel
theorem dX4_set_71 : decode cX4_set 71 = .ok (.if_icmp .ge 8, 3) := by decide +kernel
theorem dX4_set_74 : decode cX4_set 74 = .ok (.bipush (-4), 2) := by decide +kernel
theorem dX4_set_76 : decode cX4_set 76 = .ok (.goto 5, 3) := by decide +kernel
theorem dX4_set_79 : decode cX4_set 79 = .ok (.bipush (-6), 2) := by decide +kernel
theorem dX4_set_81 : decode cX4_set 81 = .ok (.invokevirtual 150, 3) := by decide +kernel
theorem dX4_set_84 : decode cX4_set 84 = .ok (.ireturn, 1) := by decide +kernel
theorem dX4_set_85 : decode cX4_set 85 = .ok (.iload_n 1, 1) := by decide +kernel
theorem dX4_set_86 : decode cX4_set 86 = .ok (.ifCond .ne 10, 3) := by decide +kernel
theorem dX4_set_89 : decode cX4_set 89 = .ok (.aload_n 0, 1) := by decide +kernel
theorem dX4_set_90 : decode cX4_set 90 = .ok (.getfield 95, 3) := by decide +kernel
theorem dX4_set_93 : decode cX4_set 93 = .ok (.goto 31, 3) := by decide +kernel
theorem dX4_set_96 : decode cX4_set 96 = .ok (.iload_n 1, 1) := by decide +kernel
theorem dX4_set_97 : decode cX4_set 97 = .ok (.iconst 1, 1) := by decide +kernel
theorem dX4_set_98 : decode cX4_set 98 = .ok (.if_icmp .ne 10, 3) := by decide +kernel
theorem dX4_set_101 : decode cX4_set 101 = .ok (.aload_n 0, 1) := by decide +kernel
theorem dX4_set_102 : decode cX4_set 102 = .ok (.getfield 98, 3) := by decide +kernel
theorem dX4_set_105 : decode cX4_set 105 = .ok (.goto 19, 3) := by decide +kernel
theorem dX4_set_108 : decode cX4_set 108 = .ok (.iload_n 1, 1) := by decide +kernel
theorem dX4_set_109 : decode cX4_set 109 = .ok (.iconst 2, 1) := by decide +kernel
theorem dX4_set_110 : decode cX4_set 110 = .ok (.if_icmp .ne 10, 3) := by decide +kernel
theorem dX4_set_113 : decode cX4_set 113 = .ok (.aload_n 0, 1) := by decide +kernel
theorem dX4_set_114 : decode cX4_set 114 = .ok (.getfield 7, 3) := by decide +kernel
theorem dX4_set_117 : decode cX4_set 117 = .ok (.goto 7, 3) := by decide +kernel
theorem dX4_set_120 : decode cX4_set 120 = .ok (.aload_n 0, 1) := by decide +kernel
theorem dX4_set_121 : decode cX4_set 121 = .ok (.getfield 13, 3) := by decide +kernel
theorem dX4_set_124 : decode cX4_set 124 = .ok (.istore 5, 2) := by decide +kernel
theorem dX4_set_126 : decode cX4_set 126 = .ok (.aload_n 0, 1) := by decide +kernel
theorem dX4_set_127 : decode cX4_set 127 = .ok (.iload_n 1, 1) := by decide +kernel
theorem dX4_set_128 : decode cX4_set 128 = .ok (.ifCond .ne 7, 3) := by decide +kernel
theorem dX4_set_131 : decode cX4_set 131 = .ok (.iload_n 2, 1) := by decide +kernel
theorem dX4_set_132 : decode cX4_set 132 = .ok (.goto 7, 3) := by decide +kernel
theorem dX4_set_135 : decode cX4_set 135 = .ok (.aload_n 0, 1) := by decide +kernel
theorem dX4_set_136 : decode cX4_set 136 = .ok (.getfield 95, 3) := by decide +kernel
theorem dX4_set_139 : decode cX4_set 139 = .ok (.putfield 95, 3) := by decide +kernel
theorem dX4_set_142 : decode cX4_set 142 = .ok (.aload_n 0, 1) := by decide +kernel
theorem dX4_set_143 : decode cX4_set 143 = .ok (.iload_n 1, 1) := by decide +kernel
theorem dX4_set_144 : decode cX4_set 144 = .ok (.iconst 1, 1) := by decide +kernel
theorem dX4_set_145 : decode cX4_set 145 = .ok (.if_icmp .ne 7, 3) := by decide +kernel
theorem dX4_set_148 : decode cX4_set 148 = .ok (.iload_n 2, 1) := by decide +kernel
theorem dX4_set_149 : decode cX4_set 149 = .ok (.goto 7, 3) := by decide +kernel
theorem dX4_set_152 : decode cX4_set 152 = .ok (.aload_n 0, 1) := by decide +kernel
theorem dX4_set_153 : decode cX4_set 153 = .ok (.getfield 98, 3) := by decide +kernel
theorem dX4_set_156 : decode cX4_set 156 = .ok (.putfield 98, 3) := by decide +kernel
theorem dX4_set_159 : decode cX4_set 159 = .ok (.aload_n 0, 1) := by decide +kernel
theorem dX4_set_160 : decode cX4_set 160 = .ok (.iload_n 1, 1) := by decide +kernel
theorem dX4_set_161 : decode cX4_set 161 = .ok (.iconst 2, 1) := by decide +kernel
theorem dX4_set_162 : decode cX4_set 162 = .ok (.if_icmp .ne 7, 3) := by decide +kernel
theorem dX4_set_165 : decode cX4_set 165 = .ok (.iload_n 2, 1) := by decide +kernel
theorem dX4_set_166 : decode cX4_set 166 = .ok (.goto 7, 3) := by decide +kernel
theorem dX4_set_169 : decode cX4_set 169 = .ok (.aload_n 0, 1) := by decide +kernel
theorem dX4_set_170 : decode cX4_set 170 = .ok (.getfield 7, 3) := by decide +kernel
theorem dX4_set_173 : decode cX4_set 173 = .ok (.putfield 7, 3) := by decide +kernel
theorem dX4_set_176 : decode cX4_set 176 = .ok (.aload_n 0, 1) := by decide +kernel
theorem dX4_set_177 : decode cX4_set 177 = .ok (.iload_n 1, 1) := by decide +kernel
theorem dX4_set_178 : decode cX4_set 178 = .ok (.iconst 3, 1) := by decide +kernel
theorem dX4_set_179 : decode cX4_set 179 = .ok (.if_icmp .ne 7, 3) := by decide +kernel
theorem dX4_set_182 : decode cX4_set 182 = .ok (.iload_n 2, 1) := by decide +kernel
theorem dX4_set_183 : decode cX4_set 183 = .ok (.goto 7, 3) := by decide +kernel
theorem dX4_set_186 : decode cX4_set 186 = .ok (.aload_n 0, 1) := by decide +kernel
theorem dX4_set_187 : decode cX4_set 187 = .ok (.getfield 13, 3) := by decide +kernel
theorem dX4_set_190 : decode cX4_set 190 = .ok (.putfield 13, 3) := by decide +kernel
theorem dX4_set_193 : decode cX4_set 193 = .ok (.iload 5, 2) := by decide +kernel
theorem dX4_set_195 : decode cX4_set 195 = .ok (.ireturn, 1) := by decide +kernel
theorem dX4_look_0 : decode cX4_look 0 = .ok (.aload_n 0, 1) := by decide +kernel
theorem dX4_look_1 : decode cX4_look 1 = .ok (.iconst 0, 1) := by decide +kernel
theorem dX4_look_2 : decode cX4_look 2 = .ok (.putfield 74, 3) := by decide +kernel
theorem dX4_look_5 : decode cX4_look 5 = .ok (.aload_n 0, 1) := by decide +kernel
theorem dX4_look_6 : decode cX4_look 6 = .ok (.iload_n 1, 1) := by decide +kernel
theorem dX4_look_7 : decode cX4_look 7 = .ok (.invokevirtual 175, 3) := by decide +kernel
theorem dX4_look_10 : decode cX4_look 10 = .ok (.ifCond .ne 7, 3) := by decide +kernel
theorem dX4_look_13 : decode cX4_look 13 = .ok (.iconst (-1), 1) := by decide +kernel
theorem dX4_look_14 : decode cX4_look 14 = .ok (.goto 48, 3) := by decide +kernel
theorem dX4_look_17 : decode cX4_look 17 = .ok (.aload_n 0, 1) := by decide +kernel
theorem dX4_look_18 : decode cX4_look 18 = .ok (.getfield 84, 3) := by decide +kernel
theorem dX4_look_21 : decode cX4_look 21 = .ok (.iload_n 1, 1) := by decide +kernel
theorem dX4_look_22 : decode cX4_look 22 = .ok (.ishr, 1) := by decide +kernel
theorem dX4_look_23 : decode cX4_look 23 = .ok (.iconst 1, 1) := by decide +kernel
theorem dX4_look_24 : decode cX4_look 24 = .ok (.iand, 1) := by decide +kernel
theorem dX4_look_25 : decode cX4_look 25 = .ok (.iconst 1, 1) := by decide +kernel
theorem dX4_look_26 : decode cX4_look 26 = .ok (.if_icmp .ne 8, 3) := by decide +kernel
theorem dX4_look_29 : decode cX4_look 29 = .ok (.bipush (-3), 2) := by decide +kernel
theorem dX4_look_31 : decode cX4_look 31 = .ok (.goto 31, 3) := by decide +kernel
theorem dX4_look_34 : decode cX4_look 34 = .ok (.aload_n 0, 1) := by decide +kernel
theorem dX4_look_35 : decode cX4_look 35 = .ok (.getfield 7, 3) := by decide +kernel
theorem dX4_look_38 : decode cX4_look 38 = .ok (.aload_n 0, 1) := by decide +kernel
theorem dX4_look_39 : decode cX4_look 39 = .ok (.aload_n 0, 1) := by decide +kernel
theorem dX4_look_40 : decode cX4_look 40 = .ok (.getfield 84, 3) := by decide +kernel
theorem dX4_look_43 : decode cX4_look 43 = .ok (.invokevirtual 196, 3) := by decide +kernel
theorem dX4_look_46 : decode cX4_look 46 = .ok (.isub, 1) := by decide +kernel
theorem dX4_look_47 : decode cX4_look 47 = .ok (.aload_n 0, 1) := by decide +kernel
theorem dX4_look_48 : decode cX4_look 48 = .ok (.getfield 26, 3) := by decide +kernel
theorem dX4_look_51 : decode cX4_look 51 = .ok (.iload_n 1, 1) := by decide +kernel
theorem dX4_look_52 : decode cX4_look 52 = .ok (.iaload, 1) := by decide +kernel
theorem dX4_look_53 : decode cX4_look 53 = .ok (.if_icmp .ge 8, 3) := by decide +kernel
theorem dX4_look_56 : decode cX4_look 56 = .ok (.bipush (-6), 2) := by decide +kernel
theorem dX4_look_58 : decode cX4_look 58 = .ok (.goto 4, 3) := by decide +kernel
theorem dX4_look_61 : decode cX4_look 61 = .ok (.iconst 0, 1) := by decide +kernel
theorem dX4_look_62 : decode cX4_look 62 = .ok (.istore_n 2, 1) := by decide +kernel
theorem dX4_look_63 : decode cX4_look 63 = .ok (.iload_n 2, 1) := by decide +kernel
theorem dX4_look_64 : decode cX4_look 64 = .ok (.ifCond .ge 9, 3) := by decide +kernel
theorem dX4_look_67 : decode cX4_look 67 = .ok (.aload_n 0, 1) := by decide +kernel
theorem dX4_look_68 : decode cX4_look 68 = .ok (.iload_n 2, 1) := by decide +kernel
theorem dX4_look_69 : decode cX4_look 69 = .ok (.invokevirtual 150, 3) := by decide +kernel
theorem dX4_look_72 : decode cX4_look 72 = .ok (.ireturn, 1) := by decide +kernel
theorem dX4_look_73 : decode cX4_look 73 = .ok (.aload_n 0, 1) := by decide +kernel
theorem dX4_look_74 : decode cX4_look 74 = .ok (.iconst 1, 1) := by decide +kernel
theorem dX4_look_75 : decode cX4_look 75 = .ok (.iload_n 1, 1) := by decide +kernel
theorem dX4_look_76 : decode cX4_look 76 = .ok (.ishl, 1) := by decide +kernel
theorem dX4_look_77 : decode cX4_look 77 = .ok (.invokevirtual 199, 3) := by decide +kernel
theorem dX4_look_80 : decode cX4_look 80 = .ok (.istore_n 3, 1) := by decide +kernel
theorem dX4_look_81 : decode cX4_look 81 = .ok (.aload_n 0, 1) := by decide +kernel
theorem dX4_look_82 : decode cX4_look 82 = .ok (.dup, 1) := by decide +kernel
theorem dX4_look_83 : decode cX4_look 83 = .ok (.getfield 140, 3) := by decide +kernel
theorem dX4_look_86 : decode cX4_look 86 = .ok (.iload_n 3, 1) := by decide +kernel
theorem dX4_look_87 : decode cX4_look 87 = .ok (.iadd, 1) := by decide +kernel
theorem dX4_look_88 : decode cX4_look 88 = .ok (.putfield 140, 3) := by decide +kernel
theorem dX4_look_91 : decode cX4_look 91 = .ok (.iload_n 3, 1) := by decide +kernel
theorem dX4_look_92 : decode cX4_look 92 = .ok (.ireturn, 1) := by decide +kernel
theorem dX4_night_0 : decode cX4_night 0 = .ok (.aload_n 0, 1) := by decide +kernel
theorem dX4_night_1 : decode cX4_night 1 = .ok (.iconst 0, 1) := by decide +kernel
theorem dX4_night_2 : decode cX4_night 2 = .ok (.putfield 74, 3) := by decide +kernel
theorem dX4_night_5 : decode cX4_night 5 = .ok (.aload_n 0, 1) := by decide +kernel
theorem dX4_night_6 : decode cX4_night 6 = .ok (.getfield 77, 3) := by decide +kernel
theorem dX4_night_9 : decode cX4_night 9 = .ok (.ifCond .eq 13, 3) := by decide +kernel
theorem dX4_night_12 : decode cX4_night 12 = .ok (.aload_n 0, 1) := by decide +kernel
theorem dX4_night_13 : decode cX4_night 13 = .ok (.getfield 114, 3) := by decide +kernel
theorem dX4_night_16 : decode cX4_night 16 = .ok (.sipush 9999, 3) := by decide +kernel
theorem dX4_night_19 : decode cX4_night 19 = .ok (.if_icmp .ne 22, 3) := by decide +kernel
theorem dX4_night_22 : decode cX4_night 22 = .ok (.aload_n 0, 1) := by decide +kernel
theorem dX4_night_23 : decode cX4_night 23 = .ok (.aload_n 0, 1) := by decide +kernel
theorem dX4_night_24 : decode cX4_night 24 = .ok (.getfield 77, 3) := by decide +kernel
theorem dX4_night_27 : decode cX4_night 27 = .ok (.ifCond .ne 8, 3) := by decide +kernel
theorem dX4_night_30 : decode cX4_night 30 = .ok (.bipush (-3), 2) := by decide +kernel
theorem dX4_night_32 : decode cX4_night 32 = .ok (.goto 5, 3) := by decide +kernel
theorem dX4_night_35 : decode cX4_night 35 = .ok (.bipush (-6), 2) := by decide +kernel
theorem dX4_night_37 : decode cX4_night 37 = .ok (.invokevirtual 150, 3) := by decide +kernel
theorem dX4_night_40 : decode cX4_night 40 = .ok (.ireturn, 1) := by decide +kernel
theorem dX4_night_41 : decode cX4_night 41 = .ok (.aload_n 0, 1) := by decide +kernel
theorem dX4_night_42 : decode cX4_night 42 = .ok (.invokevirtual 202, 3) := by decide +kernel
theorem dX4_night_45 : decode cX4_night 45 = .ok (.ireturn, 1) := by decide +kernel
theorem dX4_tonight_0 : decode cX4_tonight 0 = .ok (.aload_n 0, 1) := by decide +kernel
theorem dX4_tonight_1 : decode cX4_tonight 1 = .ok (.iconst 0, 1) := by decide +kernel
theorem dX4_tonight_2 : decode cX4_tonight 2 = .ok (.putfield 74, 3) := by decide +kernel
theorem dX4_tonight_5 : decode cX4_tonight 5 = .ok (.iload_n 1, 1) := by decide +kernel
theorem dX4_tonight_6 : decode cX4_tonight 6 = .ok (.i2l, 1) := by decide +kernel
theorem dX4_tonight_7 : decode cX4_tonight 7 = .ok (.lconst 0, 1) := by decide +kernel
theorem dX4_tonight_8 : decode cX4_tonight 8 = .ok (.lconst 1, 1) := by decide +kernel
theorem dX4_tonight_9 : decode cX4_tonight 9 = .ok (.invokestatic 80, 3) := by decide +kernel
theorem dX4_tonight_12 : decode cX4_tonight 12 = .ok (.ifCond .eq 10, 3) := by decide +kernel
theorem dX4_tonight_15 : decode cX4_tonight 15 = .ok (.aload_n 0, 1) := by decide +kernel
theorem dX4_tonight_16 : decode cX4_tonight 16 = .ok (.getfield 77, 3) := by decide +kernel
theorem dX4_tonight_19 : decode cX4_tonight 19 = .ok (.ifCond .ne 25, 3) := by decide +kernel
theorem dX4_tonight_22 : decode cX4_tonight 22 = .ok (.aload_n 0, 1) := by decide +kernel
theorem dX4_tonight_23 : decode cX4_tonight 23 = .ok (.iload_n 1, 1) := by decide +kernel
theorem dX4_tonight_24 : decode cX4_tonight 24 = .ok (.i2l, 1) := by decide +kernel
theorem dX4_tonight_25 : decode cX4_tonight 25 = .ok (.lconst 0, 1) := by decide +kernel
theorem dX4_tonight_26 : decode cX4_tonight 26 = .ok (.lconst 1, 1) := by decide +kernel
theorem dX4_tonight_27 : decode cX4_tonight 27 = .ok (.invokestatic 80, 3) := by decide +kernel
theorem dX4_tonight_30 : decode cX4_tonight 30 = .ok (.ifCond .eq 8, 3) := by decide +kernel
theorem dX4_tonight_33 : decode cX4_tonight 33 = .ok (.bipush (-3), 2) := by decide +kernel
theorem dX4_tonight_35 : decode cX4_tonight 35 = .ok (.goto 5, 3) := by decide +kernel
theorem dX4_tonight_38 : decode cX4_tonight 38 = .ok (.bipush (-2), 2) := by decide +kernel
theorem dX4_tonight_40 : decode cX4_tonight 40 = .ok (.invokevirtual 150, 3) := by decide +kernel
theorem dX4_tonight_43 : decode cX4_tonight 43 = .ok (.ireturn, 1) := by decide +kernel
theorem dX4_tonight_44 : decode cX4_tonight 44 = .ok (.iload_n 1, 1) := by decide +kernel
theorem dX4_tonight_45 : decode cX4_tonight 45 = .ok (.ifCond .ne 10, 3) := by decide +kernel
theorem dX4_tonight_48 : decode cX4_tonight 48 = .ok (.aload_n 0, 1) := by decide +kernel
theorem dX4_tonight_49 : decode cX4_tonight 49 = .ok (.invokevirtual 120, 3) := by decide +kernel
theorem dX4_tonight_52 : decode cX4_tonight 52 = .ok (.goto 7, 3) := by decide +kernel
theorem dX4_tonight_55 : decode cX4_tonight 55 = .ok (.aload_n 0, 1) := by decide +kernel
theorem dX4_tonight_56 : decode cX4_tonight 56 = .ok (.invokevirtual 101, 3) := by decide +kernel
theorem dX4_tonight_59 : decode cX4_tonight 59 = .ok (.ireturn, 1) := by decide +kernel
theorem dX4_likely_0 : decode cX4_likely 0 = .ok (.aload_n 0, 1) := by decide +kernel
theorem dX4_likely_1 : decode cX4_likely 1 = .ok (.iconst 0, 1) := by decide +kernel
theorem dX4_likely_2 : decode cX4_likely 2 = .ok (.putfield 74, 3) := by decide +kernel
theorem dX4_likely_5 : decode cX4_likely 5 = .ok (.aload_n 0, 1) := by decide +kernel
theorem dX4_likely_6 : decode cX4_likely 6 = .ok (.iload_n 1, 1) := by decide +kernel
theorem dX4_likely_7 : decode cX4_likely 7 = .ok (.invokevirtual 175, 3) := by decide +kernel
theorem dX4_likely_10 : decode cX4_likely 10 = .ok (.ifCond .eq 13, 3) := by decide +kernel
theorem dX4_likely_13 : decode cX4_likely 13 = .ok (.iload_n 2, 1) := by decide +kernel
theorem dX4_likely_14 : decode cX4_likely 14 = .ok (.i2l, 1) := by decide +kernel
theorem dX4_likely_15 : decode cX4_likely 15 = .ok (.lconst 0, 1) := by decide +kernel
theorem dX4_likely_16 : decode cX4_likely 16 = .ok (.lconst 1, 1) := by decide +kernel
theorem dX4_likely_17 : decode cX4_likely 17 = .ok (.invokestatic 80, 3) := by decide +kernel
theorem dX4_likely_20 : decode cX4_likely 20 = .ok (.ifCond .ne 27, 3) := by decide +kernel
theorem dX4_likely_23 : decode cX4_likely 23 = .ok (.ldc2_w 205, 3) := by decide +kernel
theorem dX4_likely_26 : decode cX4_likely 26 = .ok (.aload_n 0, 1) := by decide +kernel
theorem dX4_likely_27 : decode cX4_likely 27 = .ok (.aload_n 0, 1) := by decide +kernel
theorem dX4_likely_28 : decode cX4_likely 28 = .ok (.iload_n 1, 1) := by decide +kernel
theorem dX4_likely_29 : decode cX4_likely 29 = .ok (.invokevirtual 175, 3) := by decide +kernel
theorem dX4_likely_32 : decode cX4_likely 32 = .ok (.ifCond .eq 8, 3) := by decide +kernel
theorem dX4_likely_35 : decode cX4_likely 35 = .ok (.bipush (-2), 2) := by decide +kernel
theorem dX4_likely_37 : decode cX4_likely 37 = .ok (.goto 4, 3) := by decide +kernel
theorem dX4_likely_40 : decode cX4_likely 40 = .ok (.iconst (-1), 1) := by decide +kernel
theorem dX4_likely_41 : decode cX4_likely 41 = .ok (.invokevirtual 150, 3) := by decide +kernel
theorem dX4_likely_44 : decode cX4_likely 44 = .ok (.i2l, 1) := by decide +kernel
theorem dX4_likely_45 : decode cX4_likely 45 = .ok (.lsub, 1) := by decide +kernel
theorem dX4_likely_46 : decode cX4_likely 46 = .ok (.lreturn, 1) := by decide +kernel
theorem dX4_likely_47 : decode cX4_likely 47 = .ok (.aload_n 0, 1) := by decide +kernel
theorem dX4_likely_48 : decode cX4_likely 48 = .ok (.invokevirtual 111, 3) := by decide +kernel
theorem dX4_likely_51 : decode cX4_likely 51 = .ok (.aload_n 0, 1) := by decide +kernel
theorem dX4_likely_52 : decode cX4_likely 52 = .ok (.getfield 41, 3) := by decide +kernel
theorem dX4_likely_55 : decode cX4_likely 55 = .ok (.iload_n 1, 1) := by decide +kernel
theorem dX4_likely_56 : decode cX4_likely 56 = .ok (.iaload, 1) := by decide +kernel
theorem dX4_likely_57 : decode cX4_likely 57 = .ok (.istore_n 3, 1) := by decide +kernel
theorem dX4_likely_58 : decode cX4_likely 58 = .ok (.aload_n 0, 1) := by decide +kernel
theorem dX4_likely_59 : decode cX4_likely 59 = .ok (.getfield 105, 3) := by decide +kernel
theorem dX4_likely_62 : decode cX4_likely 62 = .ok (.istore 4, 2) := by decide +kernel
theorem dX4_likely_64 : decode cX4_likely 64 = .ok (.iload 4, 2) := by decide +kernel
theorem dX4_likely_66 : decode cX4_likely 66 = .ok (.ifCond .eq 19, 3) := by decide +kernel
theorem dX4_likely_69 : decode cX4_likely 69 = .ok (.iload_n 3, 1) := by decide +kernel
theorem dX4_likely_70 : decode cX4_likely 70 = .ok (.iload 4, 2) := by decide +kernel
theorem dX4_likely_72 : decode cX4_likely 72 = .ok (.irem, 1) := by decide +kernel
theorem dX4_likely_73 : decode cX4_likely 73 = .ok (.istore 5, 2) := by decide +kernel
theorem dX4_likely_75 : decode cX4_likely 75 = .ok (.iload 4, 2) := by decide +kernel
theorem dX4_likely_77 : decode cX4_likely 77 = .ok (.istore_n 3, 1) := by decide +kernel
theorem dX4_likely_78 : decode cX4_likely 78 = .ok (.iload 5, 2) := by decide +kernel
theorem dX4_likely_80 : decode cX4_likely 80 = .ok (.istore 4, 2) := by decide +kernel
theorem dX4_likely_82 : decode cX4_likely 82 = .ok (.goto (-18), 3) := by decide +kernel
theorem dX4_likely_85 : decode cX4_likely 85 = .ok (.iload_n 2, 1) := by decide +kernel
theorem dX4_likely_86 : decode cX4_likely 86 = .ok (.ifCond .ne 15, 3) := by decide +kernel
theorem dX4_likely_89 : decode cX4_likely 89 = .ok (.aload_n 0, 1) := by decide +kernel
theorem dX4_likely_90 : decode cX4_likely 90 = .ok (.getfield 41, 3) := by decide +kernel
theorem dX4_likely_93 : decode cX4_likely 93 = .ok (.iload_n 1, 1) := by decide +kernel
theorem dX4_likely_94 : decode cX4_likely 94 = .ok (.iaload, 1) := by decide +kernel
theorem dX4_likely_95 : decode cX4_likely 95 = .ok (.iload_n 3, 1) := by decide +kernel
theorem dX4_likely_96 : decode cX4_likely 96 = .ok (.idiv, 1) := by decide +kernel
theorem dX4_likely_97 : decode cX4_likely 97 = .ok (.i2l, 1) := by decide +kernel
theorem dX4_likely_98 : decode cX4_likely 98 = .ok (.goto 10, 3) := by decide +kernel
theorem dX4_likely_101 : decode cX4_likely 101 = .ok (.aload_n 0, 1) := by decide +kernel
theorem dX4_likely_102 : decode cX4_likely 102 = .ok (.getfield 105, 3) := by decide +kernel
theorem dX4_likely_105 : decode cX4_likely 105 = .ok (.iload_n 3, 1) := by decide +kernel
theorem dX4_likely_106 : decode cX4_likely 106 = .ok (.idiv, 1) := by decide +kernel
theorem dX4_likely_107 : decode cX4_likely 107 = .ok (.i2l, 1) := by decide +kernel
theorem dX4_likely_108 : decode cX4_likely 108 = .ok (.lreturn, 1) := by decide +kernel
theorem dX4_allows_0 : decode cX4_allows 0 = .ok (.aload_n 0, 1) := by decide +kernel
theorem dX4_allows_1 : decode cX4_allows 1 = .ok (.iload_n 1, 1) := by decide +kernel
theorem dX4_allows_2 : decode cX4_allows 2 = .ok (.invokevirtual 196, 3) := by decide +kernel
theorem dX4_allows_5 : decode cX4_allows 5 = .ok (.aload_n 0, 1) := by decide +kernel
theorem dX4_allows_6 : decode cX4_allows 6 = .ok (.getfield 7, 3) := by decide +kernel
theorem dX4_allows_9 : decode cX4_allows 9 = .ok (.if_icmp .gt 7, 3) := by decide +kernel
theorem dX4_allows_12 : decode cX4_allows 12 = .ok (.iconst 1, 1) := by decide +kernel
theorem dX4_allows_13 : decode cX4_allows 13 = .ok (.goto 4, 3) := by decide +kernel
theorem dX4_allows_16 : decode cX4_allows 16 = .ok (.iconst 0, 1) := by decide +kernel
theorem dX4_allows_17 : decode cX4_allows 17 = .ok (.ireturn, 1) := by decide +kernel
theorem dX4_eggsOf_0 : decode cX4_eggsOf 0 = .ok (.iconst 0, 1) := by decide +kernel
theorem dX4_eggsOf_1 : decode cX4_eggsOf 1 = .ok (.istore_n 2, 1) := by decide +kernel
theorem dX4_eggsOf_2 : decode cX4_eggsOf 2 = .ok (.iconst 0, 1) := by decide +kernel
theorem dX4_eggsOf_3 : decode cX4_eggsOf 3 = .ok (.istore_n 3, 1) := by decide +kernel
theorem dX4_eggsOf_4 : decode cX4_eggsOf 4 = .ok (.iload_n 3, 1) := by decide +kernel
theorem dX4_eggsOf_5 : decode cX4_eggsOf 5 = .ok (.aload_n 0, 1) := by decide +kernel
theorem dX4_eggsOf_6 : decode cX4_eggsOf 6 = .ok (.getfield 77, 3) := by decide +kernel
theorem dX4_eggsOf_9 : decode cX4_eggsOf 9 = .ok (.if_icmp .ge 30, 3) := by decide +kernel
theorem dX4_eggsOf_12 : decode cX4_eggsOf 12 = .ok (.iload_n 2, 1) := by decide +kernel
theorem dX4_eggsOf_13 : decode cX4_eggsOf 13 = .ok (.iload_n 1, 1) := by decide +kernel
theorem dX4_eggsOf_14 : decode cX4_eggsOf 14 = .ok (.iload_n 3, 1) := by decide +kernel
theorem dX4_eggsOf_15 : decode cX4_eggsOf 15 = .ok (.ishr, 1) := by decide +kernel
theorem dX4_eggsOf_16 : decode cX4_eggsOf 16 = .ok (.iconst 1, 1) := by decide +kernel
theorem dX4_eggsOf_17 : decode cX4_eggsOf 17 = .ok (.iand, 1) := by decide +kernel
theorem dX4_eggsOf_18 : decode cX4_eggsOf 18 = .ok (.iconst 1, 1) := by decide +kernel
theorem dX4_eggsOf_19 : decode cX4_eggsOf 19 = .ok (.if_icmp .ne 11, 3) := by decide +kernel
theorem dX4_eggsOf_22 : decode cX4_eggsOf 22 = .ok (.aload_n 0, 1) := by decide +kernel
theorem dX4_eggsOf_23 : decode cX4_eggsOf 23 = .ok (.iload_n 3, 1) := by decide +kernel
theorem dX4_eggsOf_24 : decode cX4_eggsOf 24 = .ok (.invokevirtual 91, 3) := by decide +kernel
theorem dX4_eggsOf_27 : decode cX4_eggsOf 27 = .ok (.goto 4, 3) := by decide +kernel
theorem dX4_eggsOf_30 : decode cX4_eggsOf 30 = .ok (.iconst 0, 1) := by decide +kernel
theorem dX4_eggsOf_31 : decode cX4_eggsOf 31 = .ok (.iadd, 1) := by decide +kernel
theorem dX4_eggsOf_32 : decode cX4_eggsOf 32 = .ok (.istore_n 2, 1) := by decide +kernel
theorem dX4_eggsOf_33 : decode cX4_eggsOf 33 = .ok (.iinc 3 1, 3) := by decide +kernel
theorem dX4_eggsOf_36 : decode cX4_eggsOf 36 = .ok (.goto (-32), 3) := by decide +kernel
theorem dX4_eggsOf_39 : decode cX4_eggsOf 39 = .ok (.iload_n 2, 1) := by decide +kernel
theorem dX4_eggsOf_40 : decode cX4_eggsOf 40 = .ok (.ireturn, 1) := by decide +kernel
theorem dX4_bestOfDay_0 : decode cX4_bestOfDay 0 = .ok (.iconst 0, 1) := by decide +kernel
theorem dX4_bestOfDay_1 : decode cX4_bestOfDay 1 = .ok (.istore_n 1, 1) := by decide +kernel
theorem dX4_bestOfDay_2 : decode cX4_bestOfDay 2 = .ok (.iconst 0, 1) := by decide +kernel
theorem dX4_bestOfDay_3 : decode cX4_bestOfDay 3 = .ok (.istore_n 2, 1) := by decide +kernel
theorem dX4_bestOfDay_4 : decode cX4_bestOfDay 4 = .ok (.iload_n 2, 1) := by decide +kernel
theorem dX4_bestOfDay_5 : decode cX4_bestOfDay 5 = .ok (.iconst 1, 1) := by decide +kernel
theorem dX4_bestOfDay_6 : decode cX4_bestOfDay 6 = .ok (.aload_n 0, 1) := by decide +kernel
theorem dX4_bestOfDay_7 : decode cX4_bestOfDay 7 = .ok (.getfield 77, 3) := by decide +kernel
theorem dX4_bestOfDay_10 : decode cX4_bestOfDay 10 = .ok (.ishl, 1) := by decide +kernel
theorem dX4_bestOfDay_11 : decode cX4_bestOfDay 11 = .ok (.if_icmp .ge 38, 3) := by decide +kernel
theorem dX4_bestOfDay_14 : decode cX4_bestOfDay 14 = .ok (.aload_n 0, 1) := by decide +kernel
theorem dX4_bestOfDay_15 : decode cX4_bestOfDay 15 = .ok (.iload_n 2, 1) := by decide +kernel
theorem dX4_bestOfDay_16 : decode cX4_bestOfDay 16 = .ok (.invokevirtual 207, 3) := by decide +kernel
theorem dX4_bestOfDay_19 : decode cX4_bestOfDay 19 = .ok (.ifCond .eq 11, 3) := by decide +kernel
theorem dX4_bestOfDay_22 : decode cX4_bestOfDay 22 = .ok (.aload_n 0, 1) := by decide +kernel
theorem dX4_bestOfDay_23 : decode cX4_bestOfDay 23 = .ok (.iload_n 2, 1) := by decide +kernel
theorem dX4_bestOfDay_24 : decode cX4_bestOfDay 24 = .ok (.invokevirtual 210, 3) := by decide +kernel
theorem dX4_bestOfDay_27 : decode cX4_bestOfDay 27 = .ok (.goto 4, 3) := by decide +kernel
theorem dX4_bestOfDay_30 : decode cX4_bestOfDay 30 = .ok (.iconst 0, 1) := by decide +kernel
theorem dX4_bestOfDay_31 : decode cX4_bestOfDay 31 = .ok (.istore_n 3, 1) := by decide +kernel
theorem dX4_bestOfDay_32 : decode cX4_bestOfDay 32 = .ok (.iload_n 3, 1) := by decide +kernel
theorem dX4_bestOfDay_33 : decode cX4_bestOfDay 33 = .ok (.iload_n 1, 1) := by decide +kernel
theorem dX4_bestOfDay_34 : decode cX4_bestOfDay 34 = .ok (.if_icmp .le 7, 3) := by decide +kernel
theorem dX4_bestOfDay_37 : decode cX4_bestOfDay 37 = .ok (.iload_n 3, 1) := by decide +kernel
theorem dX4_bestOfDay_38 : decode cX4_bestOfDay 38 = .ok (.goto 4, 3) := by decide +kernel
theorem dX4_bestOfDay_41 : decode cX4_bestOfDay 41 = .ok (.iload_n 1, 1) := by decide +kernel
theorem dX4_bestOfDay_42 : decode cX4_bestOfDay 42 = .ok (.istore_n 1, 1) := by decide +kernel
theorem dX4_bestOfDay_43 : decode cX4_bestOfDay 43 = .ok (.iinc 2 1, 3) := by decide +kernel
theorem dX4_bestOfDay_46 : decode cX4_bestOfDay 46 = .ok (.goto (-42), 3) := by decide +kernel
theorem dX4_bestOfDay_49 : decode cX4_bestOfDay 49 = .ok (.iload_n 1, 1) := by decide +kernel
theorem dX4_bestOfDay_50 : decode cX4_bestOfDay 50 = .ok (.ireturn, 1) := by decide +kernel
theorem dX4_bestOfTwo_0 : decode cX4_bestOfTwo 0 = .ok (.aload_n 0, 1) := by decide +kernel
theorem dX4_bestOfTwo_1 : decode cX4_bestOfTwo 1 = .ok (.aload_n 0, 1) := by decide +kernel
theorem dX4_bestOfTwo_2 : decode cX4_bestOfTwo 2 = .ok (.getfield 50, 3) := by decide +kernel
theorem dX4_bestOfTwo_5 : decode cX4_bestOfTwo 5 = .ok (.iconst 1, 1) := by decide +kernel
theorem dX4_bestOfTwo_6 : decode cX4_bestOfTwo 6 = .ok (.invokevirtual 143, 3) := by decide +kernel
theorem dX4_bestOfTwo_9 : decode cX4_bestOfTwo 9 = .ok (.iconst 0, 1) := by decide +kernel
theorem dX4_bestOfTwo_10 : decode cX4_bestOfTwo 10 = .ok (.istore_n 1, 1) := by decide +kernel
theorem dX4_bestOfTwo_11 : decode cX4_bestOfTwo 11 = .ok (.iconst 0, 1) := by decide +kernel
theorem dX4_bestOfTwo_12 : decode cX4_bestOfTwo 12 = .ok (.istore_n 2, 1) := by decide +kernel
theorem dX4_bestOfTwo_13 : decode cX4_bestOfTwo 13 = .ok (.iload_n 2, 1) := by decide +kernel
theorem dX4_bestOfTwo_14 : decode cX4_bestOfTwo 14 = .ok (.iconst 1, 1) := by decide +kernel
theorem dX4_bestOfTwo_15 : decode cX4_bestOfTwo 15 = .ok (.aload_n 0, 1) := by decide +kernel
theorem dX4_bestOfTwo_16 : decode cX4_bestOfTwo 16 = .ok (.getfield 77, 3) := by decide +kernel
theorem dX4_bestOfTwo_19 : decode cX4_bestOfTwo 19 = .ok (.ishl, 1) := by decide +kernel
theorem dX4_bestOfTwo_20 : decode cX4_bestOfTwo 20 = .ok (.if_icmp .ge 55, 3) := by decide +kernel
theorem dX4_bestOfTwo_23 : decode cX4_bestOfTwo 23 = .ok (.aload_n 0, 1) := by decide +kernel
theorem dX4_bestOfTwo_24 : decode cX4_bestOfTwo 24 = .ok (.iload_n 2, 1) := by decide +kernel
theorem dX4_bestOfTwo_25 : decode cX4_bestOfTwo 25 = .ok (.invokevirtual 207, 3) := by decide +kernel
theorem dX4_bestOfTwo_28 : decode cX4_bestOfTwo 28 = .ok (.ifCond .eq 41, 3) := by decide +kernel
theorem dX4_bestOfTwo_31 : decode cX4_bestOfTwo 31 = .ok (.aload_n 0, 1) := by decide +kernel
theorem dX4_bestOfTwo_32 : decode cX4_bestOfTwo 32 = .ok (.iload_n 2, 1) := by decide +kernel
theorem dX4_bestOfTwo_33 : decode cX4_bestOfTwo 33 = .ok (.invokevirtual 199, 3) := by decide +kernel
theorem dX4_bestOfTwo_36 : decode cX4_bestOfTwo 36 = .ok (.istore_n 3, 1) := by decide +kernel
theorem dX4_bestOfTwo_37 : decode cX4_bestOfTwo 37 = .ok (.aload_n 0, 1) := by decide +kernel
theorem dX4_bestOfTwo_38 : decode cX4_bestOfTwo 38 = .ok (.invokevirtual 202, 3) := by decide +kernel
theorem dX4_bestOfTwo_41 : decode cX4_bestOfTwo 41 = .ok (.pop, 1) := by decide +kernel
theorem dX4_bestOfTwo_42 : decode cX4_bestOfTwo 42 = .ok (.iload_n 3, 1) := by decide +kernel
theorem dX4_bestOfTwo_43 : decode cX4_bestOfTwo 43 = .ok (.aload_n 0, 1) := by decide +kernel
theorem dX4_bestOfTwo_44 : decode cX4_bestOfTwo 44 = .ok (.invokevirtual 213, 3) := by decide +kernel
theorem dX4_bestOfTwo_47 : decode cX4_bestOfTwo 47 = .ok (.iadd, 1) := by decide +kernel
theorem dX4_bestOfTwo_48 : decode cX4_bestOfTwo 48 = .ok (.istore_n 3, 1) := by decide +kernel
theorem dX4_bestOfTwo_49 : decode cX4_bestOfTwo 49 = .ok (.iload_n 3, 1) := by decide +kernel
theorem dX4_bestOfTwo_50 : decode cX4_bestOfTwo 50 = .ok (.iload_n 1, 1) := by decide +kernel
theorem dX4_bestOfTwo_51 : decode cX4_bestOfTwo 51 = .ok (.if_icmp .le 7, 3) := by decide +kernel
theorem dX4_bestOfTwo_54 : decode cX4_bestOfTwo 54 = .ok (.iload_n 3, 1) := by decide +kernel
theorem dX4_bestOfTwo_55 : decode cX4_bestOfTwo 55 = .ok (.goto 4, 3) := by decide +kernel
theorem dX4_bestOfTwo_58 : decode cX4_bestOfTwo 58 = .ok (.iload_n 1, 1) := by decide +kernel
theorem dX4_bestOfTwo_59 : decode cX4_bestOfTwo 59 = .ok (.istore_n 1, 1) := by decide +kernel
theorem dX4_bestOfTwo_60 : decode cX4_bestOfTwo 60 = .ok (.aload_n 0, 1) := by decide +kernel
theorem dX4_bestOfTwo_61 : decode cX4_bestOfTwo 61 = .ok (.aload_n 0, 1) := by decide +kernel
theorem dX4_bestOfTwo_62 : decode cX4_bestOfTwo 62 = .ok (.getfield 50, 3) := by decide +kernel
theorem dX4_bestOfTwo_65 : decode cX4_bestOfTwo 65 = .ok (.iconst 0, 1) := by decide +kernel
theorem dX4_bestOfTwo_66 : decode cX4_bestOfTwo 66 = .ok (.invokevirtual 143, 3) := by decide +kernel
theorem dX4_bestOfTwo_69 : decode cX4_bestOfTwo 69 = .ok (.iinc 2 1, 3) := by decide +kernel
theorem dX4_bestOfTwo_72 : decode cX4_bestOfTwo 72 = .ok (.goto (-59), 3) := by decide +kernel
theorem dX4_bestOfTwo_75 : decode cX4_bestOfTwo 75 = .ok (.iload_n 1, 1) := by decide +kernel
theorem dX4_bestOfTwo_76 : decode cX4_bestOfTwo 76 = .ok (.ireturn, 1) := by decide +kernel
theorem dX4_plan_0 : decode cX4_plan 0 = .ok (.aload_n 0, 1) := by decide +kernel
theorem dX4_plan_1 : decode cX4_plan 1 = .ok (.iconst 0, 1) := by decide +kernel
theorem dX4_plan_2 : decode cX4_plan 2 = .ok (.putfield 74, 3) := by decide +kernel
theorem dX4_plan_5 : decode cX4_plan 5 = .ok (.iload_n 2, 1) := by decide +kernel
theorem dX4_plan_6 : decode cX4_plan 6 = .ok (.i2l, 1) := by decide +kernel
theorem dX4_plan_7 : decode cX4_plan 7 = .ok (.lconst 0, 1) := by decide +kernel
theorem dX4_plan_8 : decode cX4_plan 8 = .ok (.lconst 1, 1) := by decide +kernel
theorem dX4_plan_9 : decode cX4_plan 9 = .ok (.invokestatic 80, 3) := by decide +kernel
theorem dX4_plan_12 : decode cX4_plan 12 = .ok (.ifCond .ne 8, 3) := by decide +kernel
theorem dX4_plan_15 : decode cX4_plan 15 = .ok (.bipush (-2), 2) := by decide +kernel
theorem dX4_plan_17 : decode cX4_plan 17 = .ok (.goto 36, 3) := by decide +kernel
theorem dX4_plan_20 : decode cX4_plan 20 = .ok (.iload_n 1, 1) := by decide +kernel
theorem dX4_plan_21 : decode cX4_plan 21 = .ok (.iconst 1, 1) := by decide +kernel
theorem dX4_plan_22 : decode cX4_plan 22 = .ok (.if_icmp .ge 8, 3) := by decide +kernel
theorem dX4_plan_25 : decode cX4_plan 25 = .ok (.bipush (-4), 2) := by decide +kernel
theorem dX4_plan_27 : decode cX4_plan 27 = .ok (.goto 26, 3) := by decide +kernel
theorem dX4_plan_30 : decode cX4_plan 30 = .ok (.iload_n 1, 1) := by decide +kernel
theorem dX4_plan_31 : decode cX4_plan 31 = .ok (.iconst 3, 1) := by decide +kernel
theorem dX4_plan_32 : decode cX4_plan 32 = .ok (.if_icmp .le 8, 3) := by decide +kernel
theorem dX4_plan_35 : decode cX4_plan 35 = .ok (.bipush (-6), 2) := by decide +kernel
theorem dX4_plan_37 : decode cX4_plan 37 = .ok (.goto 16, 3) := by decide +kernel
theorem dX4_plan_40 : decode cX4_plan 40 = .ok (.aload_n 0, 1) := by decide +kernel
theorem dX4_plan_41 : decode cX4_plan 41 = .ok (.getfield 77, 3) := by decide +kernel
theorem dX4_plan_44 : decode cX4_plan 44 = .ok (.ifCond .ne 8, 3) := by decide +kernel
theorem dX4_plan_47 : decode cX4_plan 47 = .ok (.bipush (-3), 2) := by decide +kernel
theorem dX4_plan_49 : decode cX4_plan 49 = .ok (.goto 4, 3) := by decide +kernel
theorem dX4_plan_52 : decode cX4_plan 52 = .ok (.iconst 0, 1) := by decide +kernel
theorem dX4_plan_53 : decode cX4_plan 53 = .ok (.istore_n 3, 1) := by decide +kernel
theorem dX4_plan_54 : decode cX4_plan 54 = .ok (.iload_n 3, 1) := by decide +kernel
theorem dX4_plan_55 : decode cX4_plan 55 = .ok (.ifCond .ge 9, 3) := by decide +kernel
theorem dX4_plan_58 : decode cX4_plan 58 = .ok (.aload_n 0, 1) := by decide +kernel
theorem dX4_plan_59 : decode cX4_plan 59 = .ok (.iload_n 3, 1) := by decide +kernel
theorem dX4_plan_60 : decode cX4_plan 60 = .ok (.invokevirtual 150, 3) := by decide +kernel
theorem dX4_plan_63 : decode cX4_plan 63 = .ok (.ireturn, 1) := by decide +kernel
theorem dX4_plan_64 : decode cX4_plan 64 = .ok (.aload_n 0, 1) := by decide +kernel
theorem dX4_plan_65 : decode cX4_plan 65 = .ok (.invokevirtual 182, 3) := by decide +kernel
theorem dX4_plan_68 : decode cX4_plan 68 = .ok (.aload_n 0, 1) := by decide +kernel
theorem dX4_plan_69 : decode cX4_plan 69 = .ok (.iconst 0, 1) := by decide +kernel
theorem dX4_plan_70 : decode cX4_plan 70 = .ok (.putfield 84, 3) := by decide +kernel
theorem dX4_plan_73 : decode cX4_plan 73 = .ok (.aload_n 0, 1) := by decide +kernel
theorem dX4_plan_74 : decode cX4_plan 74 = .ok (.aload_n 0, 1) := by decide +kernel
theorem dX4_plan_75 : decode cX4_plan 75 = .ok (.getfield 47, 3) := by decide +kernel
theorem dX4_plan_78 : decode cX4_plan 78 = .ok (.iconst 1, 1) := by decide +kernel
theorem dX4_plan_79 : decode cX4_plan 79 = .ok (.invokevirtual 143, 3) := by decide +kernel
theorem dX4_plan_82 : decode cX4_plan 82 = .ok (.iconst (-1), 1) := by decide +kernel
theorem dX4_plan_83 : decode cX4_plan 83 = .ok (.istore 4, 2) := by decide +kernel
theorem dX4_plan_85 : decode cX4_plan 85 = .ok (.iconst 0, 1) := by decide +kernel
theorem dX4_plan_86 : decode cX4_plan 86 = .ok (.istore 5, 2) := by decide +kernel
theorem dX4_plan_88 : decode cX4_plan 88 = .ok (.iconst 0, 1) := by decide +kernel
theorem dX4_plan_89 : decode cX4_plan 89 = .ok (.istore 6, 2) := by decide +kernel
theorem dX4_plan_91 : decode cX4_plan 91 = .ok (.iload 6, 2) := by decide +kernel
theorem dX4_plan_93 : decode cX4_plan 93 = .ok (.iconst 1, 1) := by decide +kernel
theorem dX4_plan_94 : decode cX4_plan 94 = .ok (.aload_n 0, 1) := by decide +kernel
theorem dX4_plan_95 : decode cX4_plan 95 = .ok (.getfield 77, 3) := by decide +kernel
theorem dX4_plan_98 : decode cX4_plan 98 = .ok (.ishl, 1) := by decide +kernel
theorem dX4_plan_99 : decode cX4_plan 99 = .ok (.if_icmp .ge 98, 3) := by decide +kernel
theorem dX4_plan_102 : decode cX4_plan 102 = .ok (.aload_n 0, 1) := by decide +kernel
theorem dX4_plan_103 : decode cX4_plan 103 = .ok (.iload 6, 2) := by decide +kernel
theorem dX4_plan_105 : decode cX4_plan 105 = .ok (.invokevirtual 207, 3) := by decide +kernel
theorem dX4_plan_108 : decode cX4_plan 108 = .ok (.ifCond .eq 83, 3) := by decide +kernel
theorem dX4_plan_111 : decode cX4_plan 111 = .ok (.aload_n 0, 1) := by decide +kernel
theorem dX4_plan_112 : decode cX4_plan 112 = .ok (.iload 6, 2) := by decide +kernel
theorem dX4_plan_114 : decode cX4_plan 114 = .ok (.invokevirtual 199, 3) := by decide +kernel
theorem dX4_plan_117 : decode cX4_plan 117 = .ok (.istore 7, 2) := by decide +kernel
theorem dX4_plan_119 : decode cX4_plan 119 = .ok (.iload_n 1, 1) := by decide +kernel
theorem dX4_plan_120 : decode cX4_plan 120 = .ok (.iconst 1, 1) := by decide +kernel
theorem dX4_plan_121 : decode cX4_plan 121 = .ok (.if_icmp .le 29, 3) := by decide +kernel
theorem dX4_plan_124 : decode cX4_plan 124 = .ok (.aload_n 0, 1) := by decide +kernel
theorem dX4_plan_125 : decode cX4_plan 125 = .ok (.invokevirtual 202, 3) := by decide +kernel
theorem dX4_plan_128 : decode cX4_plan 128 = .ok (.pop, 1) := by decide +kernel
theorem dX4_plan_129 : decode cX4_plan 129 = .ok (.iload 7, 2) := by decide +kernel
theorem dX4_plan_131 : decode cX4_plan 131 = .ok (.iload_n 1, 1) := by decide +kernel
theorem dX4_plan_132 : decode cX4_plan 132 = .ok (.iconst 2, 1) := by decide +kernel
theorem dX4_plan_133 : decode cX4_plan 133 = .ok (.if_icmp .ne 10, 3) := by decide +kernel
theorem dX4_plan_136 : decode cX4_plan 136 = .ok (.aload_n 0, 1) := by decide +kernel
theorem dX4_plan_137 : decode cX4_plan 137 = .ok (.invokevirtual 213, 3) := by decide +kernel
theorem dX4_plan_140 : decode cX4_plan 140 = .ok (.goto 7, 3) := by decide +kernel
theorem dX4_plan_143 : decode cX4_plan 143 = .ok (.aload_n 0, 1) := by decide +kernel
theorem dX4_plan_144 : decode cX4_plan 144 = .ok (.invokevirtual 216, 3) := by decide +kernel
theorem dX4_plan_147 : decode cX4_plan 147 = .ok (.iadd, 1) := by decide +kernel
theorem dX4_plan_148 : decode cX4_plan 148 = .ok (.istore 7, 2) := by decide +kernel
theorem dX4_plan_150 : decode cX4_plan 150 = .ok (.aload_n 0, 1) := by decide +kernel
theorem dX4_plan_151 : decode cX4_plan 151 = .ok (.aload_n 0, 1) := by decide +kernel
theorem dX4_plan_152 : decode cX4_plan 152 = .ok (.getfield 47, 3) := by decide +kernel
theorem dX4_plan_155 : decode cX4_plan 155 = .ok (.iconst 0, 1) := by decide +kernel
theorem dX4_plan_156 : decode cX4_plan 156 = .ok (.invokevirtual 143, 3) := by decide +kernel
theorem dX4_plan_159 : decode cX4_plan 159 = .ok (.iload 7, 2) := by decide +kernel
theorem dX4_plan_161 : decode cX4_plan 161 = .ok (.iload 4, 2) := by decide +kernel
theorem dX4_plan_163 : decode cX4_plan 163 = .ok (.if_icmp .le 8, 3) := by decide +kernel
theorem dX4_plan_166 : decode cX4_plan 166 = .ok (.iload 6, 2) := by decide +kernel
theorem dX4_plan_168 : decode cX4_plan 168 = .ok (.goto 5, 3) := by decide +kernel
theorem dX4_plan_171 : decode cX4_plan 171 = .ok (.iload 5, 2) := by decide +kernel
theorem dX4_plan_173 : decode cX4_plan 173 = .ok (.istore 5, 2) := by decide +kernel
theorem dX4_plan_175 : decode cX4_plan 175 = .ok (.iload 7, 2) := by decide +kernel
theorem dX4_plan_177 : decode cX4_plan 177 = .ok (.iload 4, 2) := by decide +kernel
theorem dX4_plan_179 : decode cX4_plan 179 = .ok (.if_icmp .le 8, 3) := by decide +kernel
theorem dX4_plan_182 : decode cX4_plan 182 = .ok (.iload 7, 2) := by decide +kernel
theorem dX4_plan_184 : decode cX4_plan 184 = .ok (.goto 5, 3) := by decide +kernel
theorem dX4_plan_187 : decode cX4_plan 187 = .ok (.iload 4, 2) := by decide +kernel
theorem dX4_plan_189 : decode cX4_plan 189 = .ok (.istore 4, 2) := by decide +kernel
theorem dX4_plan_191 : decode cX4_plan 191 = .ok (.iinc 6 1, 3) := by decide +kernel
theorem dX4_plan_194 : decode cX4_plan 194 = .ok (.goto (-103), 3) := by decide +kernel
theorem dX4_plan_197 : decode cX4_plan 197 = .ok (.aload_n 0, 1) := by decide +kernel
theorem dX4_plan_198 : decode cX4_plan 198 = .ok (.invokevirtual 188, 3) := by decide +kernel
theorem dX4_plan_201 : decode cX4_plan 201 = .ok (.iload_n 2, 1) := by decide +kernel
theorem dX4_plan_202 : decode cX4_plan 202 = .ok (.ifCond .ne 8, 3) := by decide +kernel
theorem dX4_plan_205 : decode cX4_plan 205 = .ok (.iload 4, 2) := by decide +kernel
theorem dX4_plan_207 : decode cX4_plan 207 = .ok (.goto 5, 3) := by decide +kernel
theorem dX4_plan_210 : decode cX4_plan 210 = .ok (.iload 5, 2) := by decide +kernel
theorem dX4_plan_212 : decode cX4_plan 212 = .ok (.ireturn, 1) := by decide +kernel
theorem dX4_each_0 : decode cX4_each 0 = .ok (.aload_n 0, 1) := by decide +kernel
theorem dX4_each_1 : decode cX4_each 1 = .ok (.iconst 0, 1) := by decide +kernel
theorem dX4_each_2 : decode cX4_each 2 = .ok (.putfield 74, 3) := by decide +kernel
theorem dX4_each_5 : decode cX4_each 5 = .ok (.iload_n 1, 1) := by decide +kernel
theorem dX4_each_6 : decode cX4_each 6 = .ok (.ifCond .lt 12, 3) := by decide +kernel
theorem dX4_each_9 : decode cX4_each 9 = .ok (.iload_n 1, 1) := by decide +kernel
theorem dX4_each_10 : decode cX4_each 10 = .ok (.aload_n 0, 1) := by decide +kernel
theorem dX4_each_11 : decode cX4_each 11 = .ok (.getfield 77, 3) := by decide +kernel
theorem dX4_each_14 : decode cX4_each 14 = .ok (.ishr, 1) := by decide +kernel
theorem dX4_each_15 : decode cX4_each 15 = .ok (.ifCond .eq 7, 3) := by decide +kernel
theorem dX4_each_18 : decode cX4_each 18 = .ok (.iconst (-1), 1) := by decide +kernel
theorem dX4_each_19 : decode cX4_each 19 = .ok (.goto 37, 3) := by decide +kernel
theorem dX4_each_22 : decode cX4_each 22 = .ok (.iload_n 2, 1) := by decide +kernel
theorem dX4_each_23 : decode cX4_each 23 = .ok (.iconst 1, 1) := by decide +kernel
theorem dX4_each_24 : decode cX4_each 24 = .ok (.if_icmp .ge 8, 3) := by decide +kernel
theorem dX4_each_27 : decode cX4_each 27 = .ok (.bipush (-4), 2) := by decide +kernel
theorem dX4_each_29 : decode cX4_each 29 = .ok (.goto 27, 3) := by decide +kernel
theorem dX4_each_32 : decode cX4_each 32 = .ok (.iload_n 2, 1) := by decide +kernel
theorem dX4_each_33 : decode cX4_each 33 = .ok (.bipush 30, 2) := by decide +kernel
theorem dX4_each_35 : decode cX4_each 35 = .ok (.if_icmp .le 8, 3) := by decide +kernel
theorem dX4_each_38 : decode cX4_each 38 = .ok (.bipush (-6), 2) := by decide +kernel
theorem dX4_each_40 : decode cX4_each 40 = .ok (.goto 16, 3) := by decide +kernel
theorem dX4_each_43 : decode cX4_each 43 = .ok (.aload_n 0, 1) := by decide +kernel
theorem dX4_each_44 : decode cX4_each 44 = .ok (.getfield 77, 3) := by decide +kernel
theorem dX4_each_47 : decode cX4_each 47 = .ok (.ifCond .ne 8, 3) := by decide +kernel
theorem dX4_each_50 : decode cX4_each 50 = .ok (.bipush (-3), 2) := by decide +kernel
theorem dX4_each_52 : decode cX4_each 52 = .ok (.goto 4, 3) := by decide +kernel
theorem dX4_each_55 : decode cX4_each 55 = .ok (.iconst 0, 1) := by decide +kernel
theorem dX4_each_56 : decode cX4_each 56 = .ok (.istore_n 3, 1) := by decide +kernel
theorem dX4_each_57 : decode cX4_each 57 = .ok (.iload_n 3, 1) := by decide +kernel
theorem dX4_each_58 : decode cX4_each 58 = .ok (.ifCond .ge 9, 3) := by decide +kernel
theorem dX4_each_61 : decode cX4_each 61 = .ok (.aload_n 0, 1) := by decide +kernel
theorem dX4_each_62 : decode cX4_each 62 = .ok (.iload_n 3, 1) := by decide +kernel
theorem dX4_each_63 : decode cX4_each 63 = .ok (.invokevirtual 150, 3) := by decide +kernel
theorem dX4_each_66 : decode cX4_each 66 = .ok (.ireturn, 1) := by decide +kernel
theorem dX4_each_67 : decode cX4_each 67 = .ok (.aload_n 0, 1) := by decide +kernel
theorem dX4_each_68 : decode cX4_each 68 = .ok (.invokevirtual 182, 3) := by decide +kernel
theorem dX4_each_71 : decode cX4_each 71 = .ok (.aload_n 0, 1) := by decide +kernel
theorem dX4_each_72 : decode cX4_each 72 = .ok (.iconst 0, 1) := by decide +kernel
theorem dX4_each_73 : decode cX4_each 73 = .ok (.putfield 84, 3) := by decide +kernel
theorem dX4_each_76 : decode cX4_each 76 = .ok (.iconst 0, 1) := by decide +kernel
theorem dX4_each_77 : decode cX4_each 77 = .ok (.istore 4, 2) := by decide +kernel
theorem dX4_each_79 : decode cX4_each 79 = .ok (.iconst 0, 1) := by decide +kernel
theorem dX4_each_80 : decode cX4_each 80 = .ok (.istore 5, 2) := by decide +kernel
theorem dX4_each_82 : decode cX4_each 82 = .ok (.iload 5, 2) := by decide +kernel
theorem dX4_each_84 : decode cX4_each 84 = .ok (.iload_n 2, 1) := by decide +kernel
theorem dX4_each_85 : decode cX4_each 85 = .ok (.if_icmp .ge 24, 3) := by decide +kernel
theorem dX4_each_88 : decode cX4_each 88 = .ok (.iload 4, 2) := by decide +kernel
theorem dX4_each_90 : decode cX4_each 90 = .ok (.aload_n 0, 1) := by decide +kernel
theorem dX4_each_91 : decode cX4_each 91 = .ok (.iload_n 1, 1) := by decide +kernel
theorem dX4_each_92 : decode cX4_each 92 = .ok (.invokevirtual 199, 3) := by decide +kernel
theorem dX4_each_95 : decode cX4_each 95 = .ok (.iadd, 1) := by decide +kernel
theorem dX4_each_96 : decode cX4_each 96 = .ok (.istore 4, 2) := by decide +kernel
theorem dX4_each_98 : decode cX4_each 98 = .ok (.aload_n 0, 1) := by decide +kernel
theorem dX4_each_99 : decode cX4_each 99 = .ok (.invokevirtual 202, 3) := by decide +kernel
theorem dX4_each_102 : decode cX4_each 102 = .ok (.pop, 1) := by decide +kernel
theorem dX4_each_103 : decode cX4_each 103 = .ok (.iinc 5 1, 3) := by decide +kernel
theorem dX4_each_106 : decode cX4_each 106 = .ok (.goto (-24), 3) := by decide +kernel
theorem dX4_each_109 : decode cX4_each 109 = .ok (.aload_n 0, 1) := by decide +kernel
theorem dX4_each_110 : decode cX4_each 110 = .ok (.invokevirtual 188, 3) := by decide +kernel
theorem dX4_each_113 : decode cX4_each 113 = .ok (.iload 4, 2) := by decide +kernel
theorem dX4_each_115 : decode cX4_each 115 = .ok (.ireturn, 1) := by decide +kernel
theorem dX4_shut_0 : decode cX4_shut 0 = .ok (.aload_n 0, 1) := by decide +kernel
theorem dX4_shut_1 : decode cX4_shut 1 = .ok (.iconst 0, 1) := by decide +kernel
theorem dX4_shut_2 : decode cX4_shut 2 = .ok (.putfield 74, 3) := by decide +kernel
theorem dX4_shut_5 : decode cX4_shut 5 = .ok (.aload_n 0, 1) := by decide +kernel
theorem dX4_shut_6 : decode cX4_shut 6 = .ok (.getfield 77, 3) := by decide +kernel
theorem dX4_shut_9 : decode cX4_shut 9 = .ok (.ifCond .ne 10, 3) := by decide +kernel
theorem dX4_shut_12 : decode cX4_shut 12 = .ok (.aload_n 0, 1) := by decide +kernel
theorem dX4_shut_13 : decode cX4_shut 13 = .ok (.bipush (-3), 2) := by decide +kernel
theorem dX4_shut_15 : decode cX4_shut 15 = .ok (.invokevirtual 150, 3) := by decide +kernel
theorem dX4_shut_18 : decode cX4_shut 18 = .ok (.ireturn, 1) := by decide +kernel
theorem dX4_shut_19 : decode cX4_shut 19 = .ok (.iconst 0, 1) := by decide +kernel
theorem dX4_shut_20 : decode cX4_shut 20 = .ok (.istore_n 1, 1) := by decide +kernel
theorem dX4_shut_21 : decode cX4_shut 21 = .ok (.iload_n 1, 1) := by decide +kernel
theorem dX4_shut_22 : decode cX4_shut 22 = .ok (.iconst 1, 1) := by decide +kernel
theorem dX4_shut_23 : decode cX4_shut 23 = .ok (.aload_n 0, 1) := by decide +kernel
theorem dX4_shut_24 : decode cX4_shut 24 = .ok (.getfield 77, 3) := by decide +kernel
theorem dX4_shut_27 : decode cX4_shut 27 = .ok (.ishl, 1) := by decide +kernel
theorem dX4_shut_28 : decode cX4_shut 28 = .ok (.if_icmp .ge 58, 3) := by decide +kernel
theorem dX4_shut_31 : decode cX4_shut 31 = .ok (.iconst 0, 1) := by decide +kernel
theorem dX4_shut_32 : decode cX4_shut 32 = .ok (.istore_n 2, 1) := by decide +kernel
theorem dX4_shut_33 : decode cX4_shut 33 = .ok (.iconst 0, 1) := by decide +kernel
theorem dX4_shut_34 : decode cX4_shut 34 = .ok (.istore_n 3, 1) := by decide +kernel
theorem dX4_shut_35 : decode cX4_shut 35 = .ok (.iload_n 3, 1) := by decide +kernel
theorem dX4_shut_36 : decode cX4_shut 36 = .ok (.aload_n 0, 1) := by decide +kernel
theorem dX4_shut_37 : decode cX4_shut 37 = .ok (.getfield 77, 3) := by decide +kernel
theorem dX4_shut_40 : decode cX4_shut 40 = .ok (.if_icmp .ge 25, 3) := by decide +kernel
theorem dX4_shut_43 : decode cX4_shut 43 = .ok (.iload_n 2, 1) := by decide +kernel
theorem dX4_shut_44 : decode cX4_shut 44 = .ok (.iload_n 1, 1) := by decide +kernel
theorem dX4_shut_45 : decode cX4_shut 45 = .ok (.iload_n 3, 1) := by decide +kernel
theorem dX4_shut_46 : decode cX4_shut 46 = .ok (.ishr, 1) := by decide +kernel
theorem dX4_shut_47 : decode cX4_shut 47 = .ok (.iconst 1, 1) := by decide +kernel
theorem dX4_shut_48 : decode cX4_shut 48 = .ok (.iand, 1) := by decide +kernel
theorem dX4_shut_49 : decode cX4_shut 49 = .ok (.ifCond .ne 7, 3) := by decide +kernel
theorem dX4_shut_52 : decode cX4_shut 52 = .ok (.iconst 1, 1) := by decide +kernel
theorem dX4_shut_53 : decode cX4_shut 53 = .ok (.goto 4, 3) := by decide +kernel
theorem dX4_shut_56 : decode cX4_shut 56 = .ok (.iconst 0, 1) := by decide +kernel
theorem dX4_shut_57 : decode cX4_shut 57 = .ok (.iadd, 1) := by decide +kernel
theorem dX4_shut_58 : decode cX4_shut 58 = .ok (.istore_n 2, 1) := by decide +kernel
theorem dX4_shut_59 : decode cX4_shut 59 = .ok (.iinc 3 1, 3) := by decide +kernel
theorem dX4_shut_62 : decode cX4_shut 62 = .ok (.goto (-27), 3) := by decide +kernel
theorem dX4_shut_65 : decode cX4_shut 65 = .ok (.iload_n 2, 1) := by decide +kernel
theorem dX4_shut_66 : decode cX4_shut 66 = .ok (.iconst 1, 1) := by decide +kernel
theorem dX4_shut_67 : decode cX4_shut 67 = .ok (.if_icmp .ne 13, 3) := by decide +kernel
theorem dX4_shut_70 : decode cX4_shut 70 = .ok (.aload_n 0, 1) := by decide +kernel
theorem dX4_shut_71 : decode cX4_shut 71 = .ok (.iload_n 1, 1) := by decide +kernel
theorem dX4_shut_72 : decode cX4_shut 72 = .ok (.invokevirtual 207, 3) := by decide +kernel
theorem dX4_shut_75 : decode cX4_shut 75 = .ok (.ifCond .eq 5, 3) := by decide +kernel
theorem dX4_shut_78 : decode cX4_shut 78 = .ok (.iload_n 1, 1) := by decide +kernel
theorem dX4_shut_79 : decode cX4_shut 79 = .ok (.ireturn, 1) := by decide +kernel
theorem dX4_shut_80 : decode cX4_shut 80 = .ok (.iinc 1 1, 3) := by decide +kernel
theorem dX4_shut_83 : decode cX4_shut 83 = .ok (.goto (-62), 3) := by decide +kernel
theorem dX4_shut_86 : decode cX4_shut 86 = .ok (.bipush (-9), 2) := by decide +kernel
theorem dX4_shut_88 : decode cX4_shut 88 = .ok (.ireturn, 1) := by decide +kernel
theorem dX4_lead_0 : decode cX4_lead 0 = .ok (.aload_n 0, 1) := by decide +kernel
theorem dX4_lead_1 : decode cX4_lead 1 = .ok (.iconst 0, 1) := by decide +kernel
theorem dX4_lead_2 : decode cX4_lead 2 = .ok (.putfield 74, 3) := by decide +kernel
theorem dX4_lead_5 : decode cX4_lead 5 = .ok (.aload_n 0, 1) := by decide +kernel
theorem dX4_lead_6 : decode cX4_lead 6 = .ok (.iload_n 1, 1) := by decide +kernel
theorem dX4_lead_7 : decode cX4_lead 7 = .ok (.invokevirtual 175, 3) := by decide +kernel
theorem dX4_lead_10 : decode cX4_lead 10 = .ok (.ifCond .ne 9, 3) := by decide +kernel
theorem dX4_lead_13 : decode cX4_lead 13 = .ok (.aload_n 0, 1) := by decide +kernel
theorem dX4_lead_14 : decode cX4_lead 14 = .ok (.iconst (-1), 1) := by decide +kernel
theorem dX4_lead_15 : decode cX4_lead 15 = .ok (.invokevirtual 150, 3) := by decide +kernel
theorem dX4_lead_18 : decode cX4_lead 18 = .ok (.ireturn, 1) := by decide +kernel
theorem dX4_lead_19 : decode cX4_lead 19 = .ok (.aload_n 0, 1) := by decide +kernel
theorem dX4_lead_20 : decode cX4_lead 20 = .ok (.getfield 16, 3) := by decide +kernel
theorem dX4_lead_23 : decode cX4_lead 23 = .ok (.iload_n 1, 1) := by decide +kernel
theorem dX4_lead_24 : decode cX4_lead 24 = .ok (.if_icmp .ne 5, 3) := by decide +kernel
theorem dX4_lead_27 : decode cX4_lead 27 = .ok (.iconst 0, 1) := by decide +kernel
theorem dX4_lead_28 : decode cX4_lead 28 = .ok (.ireturn, 1) := by decide +kernel
theorem dX4_lead_29 : decode cX4_lead 29 = .ok (.aload_n 0, 1) := by decide +kernel
theorem dX4_lead_30 : decode cX4_lead 30 = .ok (.invokevirtual 182, 3) := by decide +kernel
theorem dX4_lead_33 : decode cX4_lead 33 = .ok (.aload_n 0, 1) := by decide +kernel
theorem dX4_lead_34 : decode cX4_lead 34 = .ok (.aload_n 0, 1) := by decide +kernel
theorem dX4_lead_35 : decode cX4_lead 35 = .ok (.getfield 95, 3) := by decide +kernel
theorem dX4_lead_38 : decode cX4_lead 38 = .ok (.iconst 4, 1) := by decide +kernel
theorem dX4_lead_39 : decode cX4_lead 39 = .ok (.if_icmp .ne 7, 3) := by decide +kernel
theorem dX4_lead_42 : decode cX4_lead 42 = .ok (.iconst 3, 1) := by decide +kernel
theorem dX4_lead_43 : decode cX4_lead 43 = .ok (.goto 7, 3) := by decide +kernel
theorem dX4_lead_46 : decode cX4_lead 46 = .ok (.aload_n 0, 1) := by decide +kernel
theorem dX4_lead_47 : decode cX4_lead 47 = .ok (.getfield 95, 3) := by decide +kernel
theorem dX4_lead_50 : decode cX4_lead 50 = .ok (.putfield 95, 3) := by decide +kernel
theorem dX4_lead_53 : decode cX4_lead 53 = .ok (.aload_n 0, 1) := by decide +kernel
theorem dX4_lead_54 : decode cX4_lead 54 = .ok (.getfield 16, 3) := by decide +kernel
theorem dX4_lead_57 : decode cX4_lead 57 = .ok (.ifCond .ge 7, 3) := by decide +kernel
theorem dX4_lead_60 : decode cX4_lead 60 = .ok (.iconst 0, 1) := by decide +kernel
theorem dX4_lead_61 : decode cX4_lead 61 = .ok (.goto 9, 3) := by decide +kernel
theorem dX4_lead_64 : decode cX4_lead 64 = .ok (.iconst 1, 1) := by decide +kernel
theorem dX4_lead_65 : decode cX4_lead 65 = .ok (.aload_n 0, 1) := by decide +kernel
theorem dX4_lead_66 : decode cX4_lead 66 = .ok (.getfield 16, 3) := by decide +kernel
theorem dX4_lead_69 : decode cX4_lead 69 = .ok (.ishl, 1) := by decide +kernel
theorem dX4_lead_70 : decode cX4_lead 70 = .ok (.istore_n 2, 1) := by decide +kernel
theorem dX4_lead_71 : decode cX4_lead 71 = .ok (.aload_n 0, 1) := by decide +kernel
theorem dX4_lead_72 : decode cX4_lead 72 = .ok (.getfield 16, 3) := by decide +kernel
theorem dX4_lead_75 : decode cX4_lead 75 = .ok (.ifCond .ge 7, 3) := by decide +kernel
theorem dX4_lead_78 : decode cX4_lead 78 = .ok (.iconst 1, 1) := by decide +kernel
theorem dX4_lead_79 : decode cX4_lead 79 = .ok (.goto 4, 3) := by decide +kernel
theorem dX4_lead_82 : decode cX4_lead 82 = .ok (.iconst 0, 1) := by decide +kernel
theorem dX4_lead_83 : decode cX4_lead 83 = .ok (.istore_n 3, 1) := by decide +kernel
theorem dX4_lead_84 : decode cX4_lead 84 = .ok (.bipush (-9), 2) := by decide +kernel
theorem dX4_lead_86 : decode cX4_lead 86 = .ok (.istore 4, 2) := by decide +kernel
theorem dX4_lead_88 : decode cX4_lead 88 = .ok (.iconst 1, 1) := by decide +kernel
theorem dX4_lead_89 : decode cX4_lead 89 = .ok (.istore 5, 2) := by decide +kernel
theorem dX4_lead_91 : decode cX4_lead 91 = .ok (.iload 5, 2) := by decide +kernel
theorem dX4_lead_93 : decode cX4_lead 93 = .ok (.bipush 7, 2) := by decide +kernel
theorem dX4_lead_95 : decode cX4_lead 95 = .ok (.if_icmp .ge 155, 3) := by decide +kernel
theorem dX4_lead_98 : decode cX4_lead 98 = .ok (.iload 4, 2) := by decide +kernel
theorem dX4_lead_100 : decode cX4_lead 100 = .ok (.ifCond .ge 150, 3) := by decide +kernel
theorem dX4_lead_103 : decode cX4_lead 103 = .ok (.iconst 0, 1) := by decide +kernel
theorem dX4_lead_104 : decode cX4_lead 104 = .ok (.istore 6, 2) := by decide +kernel
theorem dX4_lead_106 : decode cX4_lead 106 = .ok (.iconst (-1), 1) := by decide +kernel
theorem dX4_lead_107 : decode cX4_lead 107 = .ok (.istore 7, 2) := by decide +kernel
theorem dX4_lead_109 : decode cX4_lead 109 = .ok (.iload 7, 2) := by decide +kernel
theorem dX4_lead_111 : decode cX4_lead 111 = .ok (.aload_n 0, 1) := by decide +kernel
theorem dX4_lead_112 : decode cX4_lead 112 = .ok (.getfield 77, 3) := by decide +kernel
theorem dX4_lead_115 : decode cX4_lead 115 = .ok (.if_icmp .ge 96, 3) := by decide +kernel
theorem dX4_lead_118 : decode cX4_lead 118 = .ok (.iload 7, 2) := by decide +kernel
theorem dX4_lead_120 : decode cX4_lead 120 = .ok (.ifCond .ge 7, 3) := by decide +kernel
theorem dX4_lead_123 : decode cX4_lead 123 = .ok (.iload_n 3, 1) := by decide +kernel
theorem dX4_lead_124 : decode cX4_lead 124 = .ok (.goto 18, 3) := by decide +kernel
theorem dX4_lead_127 : decode cX4_lead 127 = .ok (.iload_n 2, 1) := by decide +kernel
theorem dX4_lead_128 : decode cX4_lead 128 = .ok (.iload 7, 2) := by decide +kernel
theorem dX4_lead_130 : decode cX4_lead 130 = .ok (.ishr, 1) := by decide +kernel
theorem dX4_lead_131 : decode cX4_lead 131 = .ok (.iconst 1, 1) := by decide +kernel
theorem dX4_lead_132 : decode cX4_lead 132 = .ok (.iand, 1) := by decide +kernel
theorem dX4_lead_133 : decode cX4_lead 133 = .ok (.iconst 1, 1) := by decide +kernel
theorem dX4_lead_134 : decode cX4_lead 134 = .ok (.if_icmp .ne 7, 3) := by decide +kernel
theorem dX4_lead_137 : decode cX4_lead 137 = .ok (.iconst 1, 1) := by decide +kernel
theorem dX4_lead_138 : decode cX4_lead 138 = .ok (.goto 4, 3) := by decide +kernel
theorem dX4_lead_141 : decode cX4_lead 141 = .ok (.iconst 0, 1) := by decide +kernel
theorem dX4_lead_142 : decode cX4_lead 142 = .ok (.istore 8, 2) := by decide +kernel
theorem dX4_lead_144 : decode cX4_lead 144 = .ok (.iconst 0, 1) := by decide +kernel
theorem dX4_lead_145 : decode cX4_lead 145 = .ok (.istore 9, 2) := by decide +kernel
theorem dX4_lead_147 : decode cX4_lead 147 = .ok (.iload 9, 2) := by decide +kernel
theorem dX4_lead_149 : decode cX4_lead 149 = .ok (.iconst 1, 1) := by decide +kernel
theorem dX4_lead_150 : decode cX4_lead 150 = .ok (.aload_n 0, 1) := by decide +kernel
theorem dX4_lead_151 : decode cX4_lead 151 = .ok (.getfield 77, 3) := by decide +kernel
theorem dX4_lead_154 : decode cX4_lead 154 = .ok (.ishl, 1) := by decide +kernel
theorem dX4_lead_155 : decode cX4_lead 155 = .ok (.if_icmp .ge 50, 3) := by decide +kernel
theorem dX4_lead_158 : decode cX4_lead 158 = .ok (.iload 8, 2) := by decide +kernel
theorem dX4_lead_160 : decode cX4_lead 160 = .ok (.ifCond .eq 45, 3) := by decide +kernel
theorem dX4_lead_163 : decode cX4_lead 163 = .ok (.aload_n 0, 1) := by decide +kernel
theorem dX4_lead_164 : decode cX4_lead 164 = .ok (.iload 7, 2) := by decide +kernel
theorem dX4_lead_166 : decode cX4_lead 166 = .ok (.putfield 16, 3) := by decide +kernel
theorem dX4_lead_169 : decode cX4_lead 169 = .ok (.aload_n 0, 1) := by decide +kernel
theorem dX4_lead_170 : decode cX4_lead 170 = .ok (.iload 9, 2) := by decide +kernel
theorem dX4_lead_172 : decode cX4_lead 172 = .ok (.putfield 84, 3) := by decide +kernel
theorem dX4_lead_175 : decode cX4_lead 175 = .ok (.iload 6, 2) := by decide +kernel
theorem dX4_lead_177 : decode cX4_lead 177 = .ok (.aload_n 0, 1) := by decide +kernel
theorem dX4_lead_178 : decode cX4_lead 178 = .ok (.iload 9, 2) := by decide +kernel
theorem dX4_lead_180 : decode cX4_lead 180 = .ok (.invokevirtual 207, 3) := by decide +kernel
theorem dX4_lead_183 : decode cX4_lead 183 = .ok (.ifCond .eq 12, 3) := by decide +kernel
theorem dX4_lead_186 : decode cX4_lead 186 = .ok (.iconst 1, 1) := by decide +kernel
theorem dX4_lead_187 : decode cX4_lead 187 = .ok (.aload_n 0, 1) := by decide +kernel
theorem dX4_lead_188 : decode cX4_lead 188 = .ok (.invokevirtual 120, 3) := by decide +kernel
theorem dX4_lead_191 : decode cX4_lead 191 = .ok (.ishl, 1) := by decide +kernel
theorem dX4_lead_192 : decode cX4_lead 192 = .ok (.goto 4, 3) := by decide +kernel
theorem dX4_lead_195 : decode cX4_lead 195 = .ok (.iconst 0, 1) := by decide +kernel
theorem dX4_lead_196 : decode cX4_lead 196 = .ok (.ior, 1) := by decide +kernel
theorem dX4_lead_197 : decode cX4_lead 197 = .ok (.istore 6, 2) := by decide +kernel
theorem dX4_lead_199 : decode cX4_lead 199 = .ok (.iinc 9 1, 3) := by decide +kernel
theorem dX4_lead_202 : decode cX4_lead 202 = .ok (.goto (-55), 3) := by decide +kernel
theorem dX4_lead_205 : decode cX4_lead 205 = .ok (.iinc 7 1, 3) := by decide +kernel
theorem dX4_lead_208 : decode cX4_lead 208 = .ok (.goto (-99), 3) := by decide +kernel
theorem dX4_lead_211 : decode cX4_lead 211 = .ok (.iconst 0, 1) := by decide +kernel
theorem dX4_lead_212 : decode cX4_lead 212 = .ok (.istore_n 3, 1) := by decide +kernel
theorem dX4_lead_213 : decode cX4_lead 213 = .ok (.iload 6, 2) := by decide +kernel
theorem dX4_lead_215 : decode cX4_lead 215 = .ok (.istore_n 2, 1) := by decide +kernel
theorem dX4_lead_216 : decode cX4_lead 216 = .ok (.aload_n 0, 1) := by decide +kernel
theorem dX4_lead_217 : decode cX4_lead 217 = .ok (.dup, 1) := by decide +kernel
theorem dX4_lead_218 : decode cX4_lead 218 = .ok (.getfield 114, 3) := by decide +kernel
theorem dX4_lead_221 : decode cX4_lead 221 = .ok (.iconst 1, 1) := by decide +kernel
theorem dX4_lead_222 : decode cX4_lead 222 = .ok (.iadd, 1) := by decide +kernel
theorem dX4_lead_223 : decode cX4_lead 223 = .ok (.putfield 114, 3) := by decide +kernel
theorem dX4_lead_226 : decode cX4_lead 226 = .ok (.iload_n 2, 1) := by decide +kernel
theorem dX4_lead_227 : decode cX4_lead 227 = .ok (.iload_n 1, 1) := by decide +kernel
theorem dX4_lead_228 : decode cX4_lead 228 = .ok (.ishr, 1) := by decide +kernel
theorem dX4_lead_229 : decode cX4_lead 229 = .ok (.iconst 1, 1) := by decide +kernel
theorem dX4_lead_230 : decode cX4_lead 230 = .ok (.iand, 1) := by decide +kernel
theorem dX4_lead_231 : decode cX4_lead 231 = .ok (.iconst 1, 1) := by decide +kernel
theorem dX4_lead_232 : decode cX4_lead 232 = .ok (.if_icmp .ne 8, 3) := by decide +kernel
theorem dX4_lead_235 : decode cX4_lead 235 = .ok (.iload 5, 2) := by decide +kernel
theorem dX4_lead_237 : decode cX4_lead 237 = .ok (.goto 5, 3) := by decide +kernel
theorem dX4_lead_240 : decode cX4_lead 240 = .ok (.bipush (-9), 2) := by decide +kernel
theorem dX4_lead_242 : decode cX4_lead 242 = .ok (.istore 4, 2) := by decide +kernel
theorem dX4_lead_244 : decode cX4_lead 244 = .ok (.iinc 5 1, 3) := by decide +kernel
theorem dX4_lead_247 : decode cX4_lead 247 = .ok (.goto (-156), 3) := by decide +kernel
theorem dX4_lead_250 : decode cX4_lead 250 = .ok (.aload_n 0, 1) := by decide +kernel
theorem dX4_lead_251 : decode cX4_lead 251 = .ok (.invokevirtual 188, 3) := by decide +kernel
theorem dX4_lead_254 : decode cX4_lead 254 = .ok (.iload 4, 2) := by decide +kernel
theorem dX4_lead_256 : decode cX4_lead 256 = .ok (.ireturn, 1) := by decide +kernel
theorem dX4_row_0 : decode cX4_row 0 = .ok (.aload_n 0, 1) := by decide +kernel
theorem dX4_row_1 : decode cX4_row 1 = .ok (.iconst 0, 1) := by decide +kernel
theorem dX4_row_2 : decode cX4_row 2 = .ok (.putfield 74, 3) := by decide +kernel
theorem dX4_row_5 : decode cX4_row 5 = .ok (.iload_n 1, 1) := by decide +kernel
theorem dX4_row_6 : decode cX4_row 6 = .ok (.ifCond .ge 10, 3) := by decide +kernel
theorem dX4_row_9 : decode cX4_row 9 = .ok (.aload_n 0, 1) := by decide +kernel
theorem dX4_row_10 : decode cX4_row 10 = .ok (.bipush (-4), 2) := by decide +kernel
theorem dX4_row_12 : decode cX4_row 12 = .ok (.invokevirtual 150, 3) := by decide +kernel
theorem dX4_row_15 : decode cX4_row 15 = .ok (.ireturn, 1) := by decide +kernel
theorem dX4_row_16 : decode cX4_row 16 = .ok (.iload_n 1, 1) := by decide +kernel
theorem dX4_row_17 : decode cX4_row 17 = .ok (.iconst 5, 1) := by decide +kernel
theorem dX4_row_18 : decode cX4_row 18 = .ok (.if_icmp .gt 12, 3) := by decide +kernel
theorem dX4_row_21 : decode cX4_row 21 = .ok (.aload_n 0, 1) := by decide +kernel
theorem dX4_row_22 : decode cX4_row 22 = .ok (.getfield 219, 3) := by decide +kernel
theorem dX4_row_25 : decode cX4_row 25 = .ok (.bipush 8, 2) := by decide +kernel
theorem dX4_row_27 : decode cX4_row 27 = .ok (.if_icmp .ne 10, 3) := by decide +kernel
theorem dX4_row_30 : decode cX4_row 30 = .ok (.aload_n 0, 1) := by decide +kernel
theorem dX4_row_31 : decode cX4_row 31 = .ok (.bipush (-6), 2) := by decide +kernel
theorem dX4_row_33 : decode cX4_row 33 = .ok (.invokevirtual 150, 3) := by decide +kernel
theorem dX4_row_36 : decode cX4_row 36 = .ok (.ireturn, 1) := by decide +kernel
theorem dX4_row_37 : decode cX4_row 37 = .ok (.aload_n 0, 1) := by decide +kernel
theorem dX4_row_38 : decode cX4_row 38 = .ok (.getfield 68, 3) := by decide +kernel
theorem dX4_row_41 : decode cX4_row 41 = .ok (.aload_n 0, 1) := by decide +kernel
theorem dX4_row_42 : decode cX4_row 42 = .ok (.getfield 219, 3) := by decide +kernel
theorem dX4_row_45 : decode cX4_row 45 = .ok (.iload_n 1, 1) := by decide +kernel
theorem dX4_row_46 : decode cX4_row 46 = .ok (.iastore, 1) := by decide +kernel
theorem dX4_row_47 : decode cX4_row 47 = .ok (.aload_n 0, 1) := by decide +kernel
theorem dX4_row_48 : decode cX4_row 48 = .ok (.dup, 1) := by decide +kernel
theorem dX4_row_49 : decode cX4_row 49 = .ok (.getfield 219, 3) := by decide +kernel
theorem dX4_row_52 : decode cX4_row 52 = .ok (.iconst 1, 1) := by decide +kernel
theorem dX4_row_53 : decode cX4_row 53 = .ok (.iadd, 1) := by decide +kernel
theorem dX4_row_54 : decode cX4_row 54 = .ok (.putfield 219, 3) := by decide +kernel
theorem dX4_row_57 : decode cX4_row 57 = .ok (.aload_n 0, 1) := by decide +kernel
theorem dX4_row_58 : decode cX4_row 58 = .ok (.getfield 219, 3) := by decide +kernel
theorem dX4_row_61 : decode cX4_row 61 = .ok (.ireturn, 1) := by decide +kernel
theorem dX4_firstUnlike_0 : decode cX4_firstUnlike 0 = .ok (.aload_n 0, 1) := by decide +kernel
theorem dX4_firstUnlike_1 : decode cX4_firstUnlike 1 = .ok (.invokevirtual 182, 3) := by decide +kernel
theorem dX4_firstUnlike_4 : decode cX4_firstUnlike 4 = .ok (.bipush (-9), 2) := by decide +kernel
theorem dX4_firstUnlike_6 : decode cX4_firstUnlike 6 = .ok (.istore_n 1, 1) := by decide +kernel
theorem dX4_firstUnlike_7 : decode cX4_firstUnlike 7 = .ok (.iconst 0, 1) := by decide +kernel
theorem dX4_firstUnlike_8 : decode cX4_firstUnlike 8 = .ok (.istore_n 2, 1) := by decide +kernel
theorem dX4_firstUnlike_9 : decode cX4_firstUnlike 9 = .ok (.iload_n 2, 1) := by decide +kernel
theorem dX4_firstUnlike_10 : decode cX4_firstUnlike 10 = .ok (.aload_n 0, 1) := by decide +kernel
theorem dX4_firstUnlike_11 : decode cX4_firstUnlike 11 = .ok (.getfield 219, 3) := by decide +kernel
theorem dX4_firstUnlike_14 : decode cX4_firstUnlike 14 = .ok (.if_icmp .ge 33, 3) := by decide +kernel
theorem dX4_firstUnlike_17 : decode cX4_firstUnlike 17 = .ok (.iload_n 1, 1) := by decide +kernel
theorem dX4_firstUnlike_18 : decode cX4_firstUnlike 18 = .ok (.ifCond .ge 29, 3) := by decide +kernel
theorem dX4_firstUnlike_21 : decode cX4_firstUnlike 21 = .ok (.aload_n 0, 1) := by decide +kernel
theorem dX4_firstUnlike_22 : decode cX4_firstUnlike 22 = .ok (.invokevirtual 202, 3) := by decide +kernel
theorem dX4_firstUnlike_25 : decode cX4_firstUnlike 25 = .ok (.aload_n 0, 1) := by decide +kernel
theorem dX4_firstUnlike_26 : decode cX4_firstUnlike 26 = .ok (.getfield 68, 3) := by decide +kernel
theorem dX4_firstUnlike_29 : decode cX4_firstUnlike 29 = .ok (.iload_n 2, 1) := by decide +kernel
theorem dX4_firstUnlike_30 : decode cX4_firstUnlike 30 = .ok (.iaload, 1) := by decide +kernel
theorem dX4_firstUnlike_31 : decode cX4_firstUnlike 31 = .ok (.if_icmp .ne 8, 3) := by decide +kernel
theorem dX4_firstUnlike_34 : decode cX4_firstUnlike 34 = .ok (.bipush (-9), 2) := by decide +kernel
theorem dX4_firstUnlike_36 : decode cX4_firstUnlike 36 = .ok (.goto 4, 3) := by decide +kernel
theorem dX4_firstUnlike_39 : decode cX4_firstUnlike 39 = .ok (.iload_n 2, 1) := by decide +kernel
theorem dX4_firstUnlike_40 : decode cX4_firstUnlike 40 = .ok (.istore_n 1, 1) := by decide +kernel
theorem dX4_firstUnlike_41 : decode cX4_firstUnlike 41 = .ok (.iinc 2 1, 3) := by decide +kernel
theorem dX4_firstUnlike_44 : decode cX4_firstUnlike 44 = .ok (.goto (-35), 3) := by decide +kernel
theorem dX4_firstUnlike_47 : decode cX4_firstUnlike 47 = .ok (.aload_n 0, 1) := by decide +kernel
theorem dX4_firstUnlike_48 : decode cX4_firstUnlike 48 = .ok (.invokevirtual 188, 3) := by decide +kernel
theorem dX4_firstUnlike_51 : decode cX4_firstUnlike 51 = .ok (.iload_n 1, 1) := by decide +kernel
theorem dX4_firstUnlike_52 : decode cX4_firstUnlike 52 = .ok (.ireturn, 1) := by decide +kernel
theorem dX4_ways_0 : decode cX4_ways 0 = .ok (.aload_n 0, 1) := by decide +kernel
theorem dX4_ways_1 : decode cX4_ways 1 = .ok (.iconst 0, 1) := by decide +kernel
theorem dX4_ways_2 : decode cX4_ways 2 = .ok (.putfield 74, 3) := by decide +kernel
theorem dX4_ways_5 : decode cX4_ways 5 = .ok (.aload_n 0, 1) := by decide +kernel
theorem dX4_ways_6 : decode cX4_ways 6 = .ok (.getfield 77, 3) := by decide +kernel
theorem dX4_ways_9 : decode cX4_ways 9 = .ok (.ifCond .ne 10, 3) := by decide +kernel
theorem dX4_ways_12 : decode cX4_ways 12 = .ok (.aload_n 0, 1) := by decide +kernel
theorem dX4_ways_13 : decode cX4_ways 13 = .ok (.bipush (-3), 2) := by decide +kernel
theorem dX4_ways_15 : decode cX4_ways 15 = .ok (.invokevirtual 150, 3) := by decide +kernel
theorem dX4_ways_18 : decode cX4_ways 18 = .ok (.ireturn, 1) := by decide +kernel
theorem dX4_ways_19 : decode cX4_ways 19 = .ok (.aload_n 0, 1) := by decide +kernel
theorem dX4_ways_20 : decode cX4_ways 20 = .ok (.getfield 95, 3) := by decide +kernel
theorem dX4_ways_23 : decode cX4_ways 23 = .ok (.istore_n 1, 1) := by decide +kernel
theorem dX4_ways_24 : decode cX4_ways 24 = .ok (.iconst 0, 1) := by decide +kernel
theorem dX4_ways_25 : decode cX4_ways 25 = .ok (.istore_n 2, 1) := by decide +kernel
theorem dX4_ways_26 : decode cX4_ways 26 = .ok (.iconst 0, 1) := by decide +kernel
theorem dX4_ways_27 : decode cX4_ways 27 = .ok (.istore_n 3, 1) := by decide +kernel
theorem dX4_ways_28 : decode cX4_ways 28 = .ok (.iload_n 3, 1) := by decide +kernel
theorem dX4_ways_29 : decode cX4_ways 29 = .ok (.bipush 6, 2) := by decide +kernel
theorem dX4_ways_31 : decode cX4_ways 31 = .ok (.if_icmp .ge 31, 3) := by decide +kernel
theorem dX4_ways_34 : decode cX4_ways 34 = .ok (.aload_n 0, 1) := by decide +kernel
theorem dX4_ways_35 : decode cX4_ways 35 = .ok (.iload_n 3, 1) := by decide +kernel
theorem dX4_ways_36 : decode cX4_ways 36 = .ok (.putfield 95, 3) := by decide +kernel
theorem dX4_ways_39 : decode cX4_ways 39 = .ok (.iload_n 2, 1) := by decide +kernel
theorem dX4_ways_40 : decode cX4_ways 40 = .ok (.aload_n 0, 1) := by decide +kernel
theorem dX4_ways_41 : decode cX4_ways 41 = .ok (.invokevirtual 222, 3) := by decide +kernel
theorem dX4_ways_44 : decode cX4_ways 44 = .ok (.ifCond .ge 9, 3) := by decide +kernel
theorem dX4_ways_47 : decode cX4_ways 47 = .ok (.iconst 1, 1) := by decide +kernel
theorem dX4_ways_48 : decode cX4_ways 48 = .ok (.iload_n 3, 1) := by decide +kernel
theorem dX4_ways_49 : decode cX4_ways 49 = .ok (.ishl, 1) := by decide +kernel
theorem dX4_ways_50 : decode cX4_ways 50 = .ok (.goto 4, 3) := by decide +kernel
theorem dX4_ways_53 : decode cX4_ways 53 = .ok (.iconst 0, 1) := by decide +kernel
theorem dX4_ways_54 : decode cX4_ways 54 = .ok (.ior, 1) := by decide +kernel
theorem dX4_ways_55 : decode cX4_ways 55 = .ok (.istore_n 2, 1) := by decide +kernel
theorem dX4_ways_56 : decode cX4_ways 56 = .ok (.iinc 3 1, 3) := by decide +kernel
theorem dX4_ways_59 : decode cX4_ways 59 = .ok (.goto (-31), 3) := by decide +kernel
theorem dX4_ways_62 : decode cX4_ways 62 = .ok (.aload_n 0, 1) := by decide +kernel
theorem dX4_ways_63 : decode cX4_ways 63 = .ok (.iload_n 1, 1) := by decide +kernel
theorem dX4_ways_64 : decode cX4_ways 64 = .ok (.putfield 95, 3) := by decide +kernel
theorem dX4_ways_67 : decode cX4_ways 67 = .ok (.iload_n 2, 1) := by decide +kernel
theorem dX4_ways_68 : decode cX4_ways 68 = .ok (.ireturn, 1) := by decide +kernel
theorem dX4_soon_0 : decode cX4_soon 0 = .ok (.aload_n 0, 1) := by decide +kernel
theorem dX4_soon_1 : decode cX4_soon 1 = .ok (.iconst 0, 1) := by decide +kernel
theorem dX4_soon_2 : decode cX4_soon 2 = .ok (.putfield 74, 3) := by decide +kernel
theorem dX4_soon_5 : decode cX4_soon 5 = .ok (.aload_n 0, 1) := by decide +kernel
theorem dX4_soon_6 : decode cX4_soon 6 = .ok (.getfield 77, 3) := by decide +kernel
theorem dX4_soon_9 : decode cX4_soon 9 = .ok (.ifCond .ne 10, 3) := by decide +kernel
theorem dX4_soon_12 : decode cX4_soon 12 = .ok (.aload_n 0, 1) := by decide +kernel
theorem dX4_soon_13 : decode cX4_soon 13 = .ok (.bipush (-3), 2) := by decide +kernel
theorem dX4_soon_15 : decode cX4_soon 15 = .ok (.invokevirtual 150, 3) := by decide +kernel
theorem dX4_soon_18 : decode cX4_soon 18 = .ok (.ireturn, 1) := by decide +kernel
theorem dX4_soon_19 : decode cX4_soon 19 = .ok (.iconst 0, 1) := by decide +kernel
theorem dX4_soon_20 : decode cX4_soon 20 = .ok (.istore_n 1, 1) := by decide +kernel
theorem dX4_soon_21 : decode cX4_soon 21 = .ok (.iload_n 1, 1) := by decide +kernel
theorem dX4_soon_22 : decode cX4_soon 22 = .ok (.bipush 6, 2) := by decide +kernel
theorem dX4_soon_24 : decode cX4_soon 24 = .ok (.if_icmp .ge 51, 3) := by decide +kernel
theorem dX4_soon_27 : decode cX4_soon 27 = .ok (.aload_n 0, 1) := by decide +kernel
theorem dX4_soon_28 : decode cX4_soon 28 = .ok (.invokevirtual 182, 3) := by decide +kernel
theorem dX4_soon_31 : decode cX4_soon 31 = .ok (.aload_n 0, 1) := by decide +kernel
theorem dX4_soon_32 : decode cX4_soon 32 = .ok (.iload_n 1, 1) := by decide +kernel
theorem dX4_soon_33 : decode cX4_soon 33 = .ok (.putfield 95, 3) := by decide +kernel
theorem dX4_soon_36 : decode cX4_soon 36 = .ok (.iconst 0, 1) := by decide +kernel
theorem dX4_soon_37 : decode cX4_soon 37 = .ok (.istore_n 2, 1) := by decide +kernel
theorem dX4_soon_38 : decode cX4_soon 38 = .ok (.iload_n 2, 1) := by decide +kernel
theorem dX4_soon_39 : decode cX4_soon 39 = .ok (.bipush 8, 2) := by decide +kernel
theorem dX4_soon_41 : decode cX4_soon 41 = .ok (.if_icmp .ge 24, 3) := by decide +kernel
theorem dX4_soon_44 : decode cX4_soon 44 = .ok (.aload_n 0, 1) := by decide +kernel
theorem dX4_soon_45 : decode cX4_soon 45 = .ok (.getfield 71, 3) := by decide +kernel
theorem dX4_soon_48 : decode cX4_soon 48 = .ok (.bipush 8, 2) := by decide +kernel
theorem dX4_soon_50 : decode cX4_soon 50 = .ok (.iload_n 1, 1) := by decide +kernel
theorem dX4_soon_51 : decode cX4_soon 51 = .ok (.imul, 1) := by decide +kernel
theorem dX4_soon_52 : decode cX4_soon 52 = .ok (.iload_n 2, 1) := by decide +kernel
theorem dX4_soon_53 : decode cX4_soon 53 = .ok (.iadd, 1) := by decide +kernel
theorem dX4_soon_54 : decode cX4_soon 54 = .ok (.aload_n 0, 1) := by decide +kernel
theorem dX4_soon_55 : decode cX4_soon 55 = .ok (.invokevirtual 202, 3) := by decide +kernel
theorem dX4_soon_58 : decode cX4_soon 58 = .ok (.iastore, 1) := by decide +kernel
theorem dX4_soon_59 : decode cX4_soon 59 = .ok (.iinc 2 1, 3) := by decide +kernel
theorem dX4_soon_62 : decode cX4_soon 62 = .ok (.goto (-24), 3) := by decide +kernel
theorem dX4_soon_65 : decode cX4_soon 65 = .ok (.aload_n 0, 1) := by decide +kernel
theorem dX4_soon_66 : decode cX4_soon 66 = .ok (.invokevirtual 188, 3) := by decide +kernel
theorem dX4_soon_69 : decode cX4_soon 69 = .ok (.iinc 1 1, 3) := by decide +kernel
theorem dX4_soon_72 : decode cX4_soon 72 = .ok (.goto (-51), 3) := by decide +kernel
theorem dX4_soon_75 : decode cX4_soon 75 = .ok (.iconst 0, 1) := by decide +kernel
theorem dX4_soon_76 : decode cX4_soon 76 = .ok (.istore_n 1, 1) := by decide +kernel
theorem dX4_soon_77 : decode cX4_soon 77 = .ok (.iconst 0, 1) := by decide +kernel
theorem dX4_soon_78 : decode cX4_soon 78 = .ok (.istore_n 2, 1) := by decide +kernel
theorem dX4_soon_79 : decode cX4_soon 79 = .ok (.iload_n 2, 1) := by decide +kernel
theorem dX4_soon_80 : decode cX4_soon 80 = .ok (.bipush 36, 2) := by decide +kernel
theorem dX4_soon_82 : decode cX4_soon 82 = .ok (.if_icmp .ge 90, 3) := by decide +kernel
theorem dX4_soon_85 : decode cX4_soon 85 = .ok (.iload_n 2, 1) := by decide +kernel
theorem dX4_soon_86 : decode cX4_soon 86 = .ok (.bipush 6, 2) := by decide +kernel
theorem dX4_soon_88 : decode cX4_soon 88 = .ok (.idiv, 1) := by decide +kernel
theorem dX4_soon_89 : decode cX4_soon 89 = .ok (.istore_n 3, 1) := by decide +kernel
theorem dX4_soon_90 : decode cX4_soon 90 = .ok (.iload_n 2, 1) := by decide +kernel
theorem dX4_soon_91 : decode cX4_soon 91 = .ok (.bipush 6, 2) := by decide +kernel
theorem dX4_soon_93 : decode cX4_soon 93 = .ok (.irem, 1) := by decide +kernel
theorem dX4_soon_94 : decode cX4_soon 94 = .ok (.istore 4, 2) := by decide +kernel
theorem dX4_soon_96 : decode cX4_soon 96 = .ok (.iconst 0, 1) := by decide +kernel
theorem dX4_soon_97 : decode cX4_soon 97 = .ok (.istore 5, 2) := by decide +kernel
theorem dX4_soon_99 : decode cX4_soon 99 = .ok (.bipush 7, 2) := by decide +kernel
theorem dX4_soon_101 : decode cX4_soon 101 = .ok (.istore 6, 2) := by decide +kernel
theorem dX4_soon_103 : decode cX4_soon 103 = .ok (.iload 6, 2) := by decide +kernel
theorem dX4_soon_105 : decode cX4_soon 105 = .ok (.ifCond .lt 48, 3) := by decide +kernel
theorem dX4_soon_108 : decode cX4_soon 108 = .ok (.aload_n 0, 1) := by decide +kernel
theorem dX4_soon_109 : decode cX4_soon 109 = .ok (.getfield 71, 3) := by decide +kernel
theorem dX4_soon_112 : decode cX4_soon 112 = .ok (.bipush 8, 2) := by decide +kernel
theorem dX4_soon_114 : decode cX4_soon 114 = .ok (.iload_n 3, 1) := by decide +kernel
theorem dX4_soon_115 : decode cX4_soon 115 = .ok (.imul, 1) := by decide +kernel
theorem dX4_soon_116 : decode cX4_soon 116 = .ok (.iload 6, 2) := by decide +kernel
theorem dX4_soon_118 : decode cX4_soon 118 = .ok (.iadd, 1) := by decide +kernel
theorem dX4_soon_119 : decode cX4_soon 119 = .ok (.iaload, 1) := by decide +kernel
theorem dX4_soon_120 : decode cX4_soon 120 = .ok (.aload_n 0, 1) := by decide +kernel
theorem dX4_soon_121 : decode cX4_soon 121 = .ok (.getfield 71, 3) := by decide +kernel
theorem dX4_soon_124 : decode cX4_soon 124 = .ok (.bipush 8, 2) := by decide +kernel
theorem dX4_soon_126 : decode cX4_soon 126 = .ok (.iload 4, 2) := by decide +kernel
theorem dX4_soon_128 : decode cX4_soon 128 = .ok (.imul, 1) := by decide +kernel
theorem dX4_soon_129 : decode cX4_soon 129 = .ok (.iload 6, 2) := by decide +kernel
theorem dX4_soon_131 : decode cX4_soon 131 = .ok (.iadd, 1) := by decide +kernel
theorem dX4_soon_132 : decode cX4_soon 132 = .ok (.iaload, 1) := by decide +kernel
theorem dX4_soon_133 : decode cX4_soon 133 = .ok (.if_icmp .ne 8, 3) := by decide +kernel
theorem dX4_soon_136 : decode cX4_soon 136 = .ok (.iload 5, 2) := by decide +kernel
theorem dX4_soon_138 : decode cX4_soon 138 = .ok (.goto 7, 3) := by decide +kernel
theorem dX4_soon_141 : decode cX4_soon 141 = .ok (.iload 6, 2) := by decide +kernel
theorem dX4_soon_143 : decode cX4_soon 143 = .ok (.iconst 1, 1) := by decide +kernel
theorem dX4_soon_144 : decode cX4_soon 144 = .ok (.iadd, 1) := by decide +kernel
theorem dX4_soon_145 : decode cX4_soon 145 = .ok (.istore 5, 2) := by decide +kernel
theorem dX4_soon_147 : decode cX4_soon 147 = .ok (.iinc 6 (-1), 3) := by decide +kernel
theorem dX4_soon_150 : decode cX4_soon 150 = .ok (.goto (-47), 3) := by decide +kernel
theorem dX4_soon_153 : decode cX4_soon 153 = .ok (.iload 5, 2) := by decide +kernel
theorem dX4_soon_155 : decode cX4_soon 155 = .ok (.iload_n 1, 1) := by decide +kernel
theorem dX4_soon_156 : decode cX4_soon 156 = .ok (.if_icmp .le 8, 3) := by decide +kernel
theorem dX4_soon_159 : decode cX4_soon 159 = .ok (.iload 5, 2) := by decide +kernel
theorem dX4_soon_161 : decode cX4_soon 161 = .ok (.goto 4, 3) := by decide +kernel
theorem dX4_soon_164 : decode cX4_soon 164 = .ok (.iload_n 1, 1) := by decide +kernel
theorem dX4_soon_165 : decode cX4_soon 165 = .ok (.istore_n 1, 1) := by decide +kernel
theorem dX4_soon_166 : decode cX4_soon 166 = .ok (.iinc 2 1, 3) := by decide +kernel
theorem dX4_soon_169 : decode cX4_soon 169 = .ok (.goto (-90), 3) := by decide +kernel
theorem dX4_soon_172 : decode cX4_soon 172 = .ok (.iload_n 1, 1) := by decide +kernel
theorem dX4_soon_173 : decode cX4_soon 173 = .ok (.ireturn, 1) := by decide +kernel
theorem dX4_eggsOfAll_0 : decode cX4_eggsOfAll 0 = .ok (.aload_n 0, 1) := by decide +kernel
theorem dX4_eggsOfAll_1 : decode cX4_eggsOfAll 1 = .ok (.iconst 1, 1) := by decide +kernel
theorem dX4_eggsOfAll_2 : decode cX4_eggsOfAll 2 = .ok (.aload_n 0, 1) := by decide +kernel
theorem dX4_eggsOfAll_3 : decode cX4_eggsOfAll 3 = .ok (.getfield 77, 3) := by decide +kernel
theorem dX4_eggsOfAll_6 : decode cX4_eggsOfAll 6 = .ok (.ishl, 1) := by decide +kernel
theorem dX4_eggsOfAll_7 : decode cX4_eggsOfAll 7 = .ok (.iconst 1, 1) := by decide +kernel
theorem dX4_eggsOfAll_8 : decode cX4_eggsOfAll 8 = .ok (.isub, 1) := by decide +kernel
theorem dX4_eggsOfAll_9 : decode cX4_eggsOfAll 9 = .ok (.invokevirtual 210, 3) := by decide +kernel
theorem dX4_eggsOfAll_12 : decode cX4_eggsOfAll 12 = .ok (.ireturn, 1) := by decide +kernel
theorem dX4_settle_0 : decode cX4_settle 0 = .ok (.aload_n 0, 1) := by decide +kernel
theorem dX4_settle_1 : decode cX4_settle 1 = .ok (.iconst 0, 1) := by decide +kernel
theorem dX4_settle_2 : decode cX4_settle 2 = .ok (.putfield 74, 3) := by decide +kernel
theorem dX4_settle_5 : decode cX4_settle 5 = .ok (.iload_n 1, 1) := by decide +kernel
theorem dX4_settle_6 : decode cX4_settle 6 = .ok (.ifCond .ge 8, 3) := by decide +kernel
theorem dX4_settle_9 : decode cX4_settle 9 = .ok (.bipush (-4), 2) := by decide +kernel
theorem dX4_settle_11 : decode cX4_settle 11 = .ok (.goto 27, 3) := by decide +kernel
theorem dX4_settle_14 : decode cX4_settle 14 = .ok (.iload_n 1, 1) := by decide +kernel
theorem dX4_settle_15 : decode cX4_settle 15 = .ok (.bipush 30, 2) := by decide +kernel
theorem dX4_settle_17 : decode cX4_settle 17 = .ok (.if_icmp .le 8, 3) := by decide +kernel
theorem dX4_settle_20 : decode cX4_settle 20 = .ok (.bipush (-6), 2) := by decide +kernel
theorem dX4_settle_22 : decode cX4_settle 22 = .ok (.goto 16, 3) := by decide +kernel
theorem dX4_settle_25 : decode cX4_settle 25 = .ok (.aload_n 0, 1) := by decide +kernel
theorem dX4_settle_26 : decode cX4_settle 26 = .ok (.getfield 77, 3) := by decide +kernel
theorem dX4_settle_29 : decode cX4_settle 29 = .ok (.ifCond .ne 8, 3) := by decide +kernel
theorem dX4_settle_32 : decode cX4_settle 32 = .ok (.bipush (-3), 2) := by decide +kernel
theorem dX4_settle_34 : decode cX4_settle 34 = .ok (.goto 4, 3) := by decide +kernel
theorem dX4_settle_37 : decode cX4_settle 37 = .ok (.iconst 0, 1) := by decide +kernel
theorem dX4_settle_38 : decode cX4_settle 38 = .ok (.istore_n 2, 1) := by decide +kernel
theorem dX4_settle_39 : decode cX4_settle 39 = .ok (.iload_n 2, 1) := by decide +kernel
theorem dX4_settle_40 : decode cX4_settle 40 = .ok (.ifCond .ge 9, 3) := by decide +kernel
theorem dX4_settle_43 : decode cX4_settle 43 = .ok (.aload_n 0, 1) := by decide +kernel
theorem dX4_settle_44 : decode cX4_settle 44 = .ok (.iload_n 2, 1) := by decide +kernel
theorem dX4_settle_45 : decode cX4_settle 45 = .ok (.invokevirtual 150, 3) := by decide +kernel
theorem dX4_settle_48 : decode cX4_settle 48 = .ok (.ireturn, 1) := by decide +kernel
theorem dX4_settle_49 : decode cX4_settle 49 = .ok (.aload_n 0, 1) := by decide +kernel
theorem dX4_settle_50 : decode cX4_settle 50 = .ok (.invokevirtual 182, 3) := by decide +kernel
theorem dX4_settle_53 : decode cX4_settle 53 = .ok (.iconst 0, 1) := by decide +kernel
theorem dX4_settle_54 : decode cX4_settle 54 = .ok (.istore_n 3, 1) := by decide +kernel
theorem dX4_settle_55 : decode cX4_settle 55 = .ok (.iload_n 3, 1) := by decide +kernel
theorem dX4_settle_56 : decode cX4_settle 56 = .ok (.iload_n 1, 1) := by decide +kernel
theorem dX4_settle_57 : decode cX4_settle 57 = .ok (.if_icmp .ge 14, 3) := by decide +kernel
theorem dX4_settle_60 : decode cX4_settle 60 = .ok (.aload_n 0, 1) := by decide +kernel
theorem dX4_settle_61 : decode cX4_settle 61 = .ok (.invokevirtual 202, 3) := by decide +kernel
theorem dX4_settle_64 : decode cX4_settle 64 = .ok (.pop, 1) := by decide +kernel
theorem dX4_settle_65 : decode cX4_settle 65 = .ok (.iinc 3 1, 3) := by decide +kernel
theorem dX4_settle_68 : decode cX4_settle 68 = .ok (.goto (-13), 3) := by decide +kernel
theorem dX4_settle_71 : decode cX4_settle 71 = .ok (.aload_n 0, 1) := by decide +kernel
theorem dX4_settle_72 : decode cX4_settle 72 = .ok (.invokevirtual 225, 3) := by decide +kernel
theorem dX4_settle_75 : decode cX4_settle 75 = .ok (.istore_n 3, 1) := by decide +kernel
theorem dX4_settle_76 : decode cX4_settle 76 = .ok (.aload_n 0, 1) := by decide +kernel
theorem dX4_settle_77 : decode cX4_settle 77 = .ok (.invokevirtual 188, 3) := by decide +kernel
theorem dX4_settle_80 : decode cX4_settle 80 = .ok (.iload_n 3, 1) := by decide +kernel
theorem dX4_settle_81 : decode cX4_settle 81 = .ok (.ireturn, 1) := by decide +kernel
theorem dX4_without_0 : decode cX4_without 0 = .ok (.aload_n 0, 1) := by decide +kernel
theorem dX4_without_1 : decode cX4_without 1 = .ok (.iconst 0, 1) := by decide +kernel
theorem dX4_without_2 : decode cX4_without 2 = .ok (.putfield 74, 3) := by decide +kernel
theorem dX4_without_5 : decode cX4_without 5 = .ok (.aload_n 0, 1) := by decide +kernel
theorem dX4_without_6 : decode cX4_without 6 = .ok (.iload_n 1, 1) := by decide +kernel
theorem dX4_without_7 : decode cX4_without 7 = .ok (.invokevirtual 175, 3) := by decide +kernel
theorem dX4_without_10 : decode cX4_without 10 = .ok (.ifCond .ne 9, 3) := by decide +kernel
theorem dX4_without_13 : decode cX4_without 13 = .ok (.aload_n 0, 1) := by decide +kernel
theorem dX4_without_14 : decode cX4_without 14 = .ok (.iconst (-1), 1) := by decide +kernel
theorem dX4_without_15 : decode cX4_without 15 = .ok (.invokevirtual 150, 3) := by decide +kernel
theorem dX4_without_18 : decode cX4_without 18 = .ok (.ireturn, 1) := by decide +kernel
theorem dX4_without_19 : decode cX4_without 19 = .ok (.aload_n 0, 1) := by decide +kernel
theorem dX4_without_20 : decode cX4_without 20 = .ok (.getfield 77, 3) := by decide +kernel
theorem dX4_without_23 : decode cX4_without 23 = .ok (.iconst 1, 1) := by decide +kernel
theorem dX4_without_24 : decode cX4_without 24 = .ok (.if_icmp .ne 6, 3) := by decide +kernel
theorem dX4_without_27 : decode cX4_without 27 = .ok (.bipush (-9), 2) := by decide +kernel
theorem dX4_without_29 : decode cX4_without 29 = .ok (.ireturn, 1) := by decide +kernel
theorem dX4_without_30 : decode cX4_without 30 = .ok (.aload_n 0, 1) := by decide +kernel
theorem dX4_without_31 : decode cX4_without 31 = .ok (.iload_n 1, 1) := by decide +kernel
theorem dX4_without_32 : decode cX4_without 32 = .ok (.putfield 38, 3) := by decide +kernel
theorem dX4_without_35 : decode cX4_without 35 = .ok (.aload_n 0, 1) := by decide +kernel
theorem dX4_without_36 : decode cX4_without 36 = .ok (.invokevirtual 120, 3) := by decide +kernel
theorem dX4_without_39 : decode cX4_without 39 = .ok (.istore_n 2, 1) := by decide +kernel
theorem dX4_without_40 : decode cX4_without 40 = .ok (.aload_n 0, 1) := by decide +kernel
theorem dX4_without_41 : decode cX4_without 41 = .ok (.iconst (-1), 1) := by decide +kernel
theorem dX4_without_42 : decode cX4_without 42 = .ok (.putfield 38, 3) := by decide +kernel
theorem dX4_without_45 : decode cX4_without 45 = .ok (.iload_n 2, 1) := by decide +kernel
theorem dX4_without_46 : decode cX4_without 46 = .ok (.ireturn, 1) := by decide +kernel
theorem dX4_put_0 : decode cX4_put 0 = .ok (.aload_n 0, 1) := by decide +kernel
theorem dX4_put_1 : decode cX4_put 1 = .ok (.iconst 0, 1) := by decide +kernel
theorem dX4_put_2 : decode cX4_put 2 = .ok (.putfield 74, 3) := by decide +kernel
theorem dX4_put_5 : decode cX4_put 5 = .ok (.iload_n 1, 1) := by decide +kernel
theorem dX4_put_6 : decode cX4_put 6 = .ok (.ifCond .lt 11, 3) := by decide +kernel
theorem dX4_put_9 : decode cX4_put 9 = .ok (.iload_n 2, 1) := by decide +kernel
theorem dX4_put_10 : decode cX4_put 10 = .ok (.ifCond .lt 7, 3) := by decide +kernel
theorem dX4_put_13 : decode cX4_put 13 = .ok (.iload_n 3, 1) := by decide +kernel
theorem dX4_put_14 : decode cX4_put 14 = .ok (.ifCond .ge 8, 3) := by decide +kernel
theorem dX4_put_17 : decode cX4_put 17 = .ok (.bipush (-4), 2) := by decide +kernel
theorem dX4_put_19 : decode cX4_put 19 = .ok (.goto 36, 3) := by decide +kernel
theorem dX4_put_22 : decode cX4_put 22 = .ok (.iload_n 1, 1) := by decide +kernel
theorem dX4_put_23 : decode cX4_put 23 = .ok (.bipush 9, 2) := by decide +kernel
theorem dX4_put_25 : decode cX4_put 25 = .ok (.if_icmp .gt 24, 3) := by decide +kernel
theorem dX4_put_28 : decode cX4_put 28 = .ok (.iload_n 2, 1) := by decide +kernel
theorem dX4_put_29 : decode cX4_put 29 = .ok (.bipush 9, 2) := by decide +kernel
theorem dX4_put_31 : decode cX4_put 31 = .ok (.if_icmp .gt 18, 3) := by decide +kernel
theorem dX4_put_34 : decode cX4_put 34 = .ok (.iload_n 3, 1) := by decide +kernel
theorem dX4_put_35 : decode cX4_put 35 = .ok (.bipush 9, 2) := by decide +kernel
theorem dX4_put_37 : decode cX4_put 37 = .ok (.if_icmp .gt 12, 3) := by decide +kernel
theorem dX4_put_40 : decode cX4_put 40 = .ok (.aload_n 0, 1) := by decide +kernel
theorem dX4_put_41 : decode cX4_put 41 = .ok (.getfield 77, 3) := by decide +kernel
theorem dX4_put_44 : decode cX4_put 44 = .ok (.bipush 6, 2) := by decide +kernel
theorem dX4_put_46 : decode cX4_put 46 = .ok (.if_icmp .ne 8, 3) := by decide +kernel
theorem dX4_put_49 : decode cX4_put 49 = .ok (.bipush (-6), 2) := by decide +kernel
theorem dX4_put_51 : decode cX4_put 51 = .ok (.goto 4, 3) := by decide +kernel
theorem dX4_put_54 : decode cX4_put 54 = .ok (.iconst 0, 1) := by decide +kernel
theorem dX4_put_55 : decode cX4_put 55 = .ok (.istore 4, 2) := by decide +kernel
theorem dX4_put_57 : decode cX4_put 57 = .ok (.iload 4, 2) := by decide +kernel
theorem dX4_put_59 : decode cX4_put 59 = .ok (.ifCond .ge 10, 3) := by decide +kernel
theorem dX4_put_62 : decode cX4_put 62 = .ok (.aload_n 0, 1) := by decide +kernel
theorem dX4_put_63 : decode cX4_put 63 = .ok (.iload 4, 2) := by decide +kernel
theorem dX4_put_65 : decode cX4_put 65 = .ok (.invokevirtual 150, 3) := by decide +kernel
theorem dX4_put_68 : decode cX4_put 68 = .ok (.ireturn, 1) := by decide +kernel
theorem dX4_put_69 : decode cX4_put 69 = .ok (.aload_n 0, 1) := by decide +kernel
theorem dX4_put_70 : decode cX4_put 70 = .ok (.invokevirtual 182, 3) := by decide +kernel
theorem dX4_put_73 : decode cX4_put 73 = .ok (.aload_n 0, 1) := by decide +kernel
theorem dX4_put_74 : decode cX4_put 74 = .ok (.getfield 19, 3) := by decide +kernel
theorem dX4_put_77 : decode cX4_put 77 = .ok (.aload_n 0, 1) := by decide +kernel
theorem dX4_put_78 : decode cX4_put 78 = .ok (.getfield 77, 3) := by decide +kernel
theorem dX4_put_81 : decode cX4_put 81 = .ok (.iload_n 1, 1) := by decide +kernel
theorem dX4_put_82 : decode cX4_put 82 = .ok (.iastore, 1) := by decide +kernel
theorem dX4_put_83 : decode cX4_put 83 = .ok (.aload_n 0, 1) := by decide +kernel
theorem dX4_put_84 : decode cX4_put 84 = .ok (.getfield 23, 3) := by decide +kernel
theorem dX4_put_87 : decode cX4_put 87 = .ok (.aload_n 0, 1) := by decide +kernel
theorem dX4_put_88 : decode cX4_put 88 = .ok (.getfield 77, 3) := by decide +kernel
theorem dX4_put_91 : decode cX4_put 91 = .ok (.iload_n 2, 1) := by decide +kernel
theorem dX4_put_92 : decode cX4_put 92 = .ok (.iastore, 1) := by decide +kernel
theorem dX4_put_93 : decode cX4_put 93 = .ok (.aload_n 0, 1) := by decide +kernel
theorem dX4_put_94 : decode cX4_put 94 = .ok (.getfield 29, 3) := by decide +kernel
theorem dX4_put_97 : decode cX4_put 97 = .ok (.aload_n 0, 1) := by decide +kernel
theorem dX4_put_98 : decode cX4_put 98 = .ok (.getfield 77, 3) := by decide +kernel
theorem dX4_put_101 : decode cX4_put 101 = .ok (.iload_n 3, 1) := by decide +kernel
theorem dX4_put_102 : decode cX4_put 102 = .ok (.iastore, 1) := by decide +kernel
theorem dX4_put_103 : decode cX4_put 103 = .ok (.iconst 0, 1) := by decide +kernel
theorem dX4_put_104 : decode cX4_put 104 = .ok (.istore 5, 2) := by decide +kernel
theorem dX4_put_106 : decode cX4_put 106 = .ok (.iload 5, 2) := by decide +kernel
theorem dX4_put_108 : decode cX4_put 108 = .ok (.bipush 10, 2) := by decide +kernel
theorem dX4_put_110 : decode cX4_put 110 = .ok (.if_icmp .ge 25, 3) := by decide +kernel
theorem dX4_put_113 : decode cX4_put 113 = .ok (.aload_n 0, 1) := by decide +kernel
theorem dX4_put_114 : decode cX4_put 114 = .ok (.getfield 32, 3) := by decide +kernel
theorem dX4_put_117 : decode cX4_put 117 = .ok (.bipush 10, 2) := by decide +kernel
theorem dX4_put_119 : decode cX4_put 119 = .ok (.aload_n 0, 1) := by decide +kernel
theorem dX4_put_120 : decode cX4_put 120 = .ok (.getfield 77, 3) := by decide +kernel
theorem dX4_put_123 : decode cX4_put 123 = .ok (.imul, 1) := by decide +kernel
theorem dX4_put_124 : decode cX4_put 124 = .ok (.iload 5, 2) := by decide +kernel
theorem dX4_put_126 : decode cX4_put 126 = .ok (.iadd, 1) := by decide +kernel
theorem dX4_put_127 : decode cX4_put 127 = .ok (.iconst 0, 1) := by decide +kernel
theorem dX4_put_128 : decode cX4_put 128 = .ok (.iastore, 1) := by decide +kernel
theorem dX4_put_129 : decode cX4_put 129 = .ok (.iinc 5 1, 3) := by decide +kernel
theorem dX4_put_132 : decode cX4_put 132 = .ok (.goto (-26), 3) := by decide +kernel
theorem dX4_put_135 : decode cX4_put 135 = .ok (.aload_n 0, 1) := by decide +kernel
theorem dX4_put_136 : decode cX4_put 136 = .ok (.dup, 1) := by decide +kernel
theorem dX4_put_137 : decode cX4_put 137 = .ok (.getfield 77, 3) := by decide +kernel
theorem dX4_put_140 : decode cX4_put 140 = .ok (.iconst 1, 1) := by decide +kernel
theorem dX4_put_141 : decode cX4_put 141 = .ok (.iadd, 1) := by decide +kernel
theorem dX4_put_142 : decode cX4_put 142 = .ok (.putfield 77, 3) := by decide +kernel
theorem dX4_put_145 : decode cX4_put 145 = .ok (.aload_n 0, 1) := by decide +kernel
theorem dX4_put_146 : decode cX4_put 146 = .ok (.invokevirtual 120, 3) := by decide +kernel
theorem dX4_put_149 : decode cX4_put 149 = .ok (.istore 5, 2) := by decide +kernel
theorem dX4_put_151 : decode cX4_put 151 = .ok (.aload_n 0, 1) := by decide +kernel
theorem dX4_put_152 : decode cX4_put 152 = .ok (.invokevirtual 188, 3) := by decide +kernel
theorem dX4_put_155 : decode cX4_put 155 = .ok (.iload 5, 2) := by decide +kernel
theorem dX4_put_157 : decode cX4_put 157 = .ok (.ireturn, 1) := by decide +kernel
theorem dX4_been_0 : decode cX4_been 0 = .ok (.aload_n 0, 1) := by decide +kernel
theorem dX4_been_1 : decode cX4_been 1 = .ok (.iconst 0, 1) := by decide +kernel
theorem dX4_been_2 : decode cX4_been 2 = .ok (.putfield 74, 3) := by decide +kernel
theorem dX4_been_5 : decode cX4_been 5 = .ok (.iload_n 1, 1) := by decide +kernel
theorem dX4_been_6 : decode cX4_been 6 = .ok (.ifCond .lt 9, 3) := by decide +kernel
theorem dX4_been_9 : decode cX4_been 9 = .ok (.iload_n 1, 1) := by decide +kernel
theorem dX4_been_10 : decode cX4_been 10 = .ok (.bipush 9, 2) := by decide +kernel
theorem dX4_been_12 : decode cX4_been 12 = .ok (.if_icmp .le 19, 3) := by decide +kernel
theorem dX4_been_15 : decode cX4_been 15 = .ok (.aload_n 0, 1) := by decide +kernel
theorem dX4_been_16 : decode cX4_been 16 = .ok (.iload_n 1, 1) := by decide +kernel
theorem dX4_been_17 : decode cX4_been 17 = .ok (.ifCond .ge 8, 3) := by decide +kernel
theorem dX4_been_20 : decode cX4_been 20 = .ok (.bipush (-4), 2) := by decide +kernel
theorem dX4_been_22 : decode cX4_been 22 = .ok (.goto 5, 3) := by decide +kernel
theorem dX4_been_25 : decode cX4_been 25 = .ok (.bipush (-6), 2) := by decide +kernel
theorem dX4_been_27 : decode cX4_been 27 = .ok (.invokevirtual 150, 3) := by decide +kernel
theorem dX4_been_30 : decode cX4_been 30 = .ok (.ireturn, 1) := by decide +kernel
theorem dX4_been_31 : decode cX4_been 31 = .ok (.iconst 0, 1) := by decide +kernel
theorem dX4_been_32 : decode cX4_been 32 = .ok (.istore_n 2, 1) := by decide +kernel
theorem dX4_been_33 : decode cX4_been 33 = .ok (.iload_n 2, 1) := by decide +kernel
theorem dX4_been_34 : decode cX4_been 34 = .ok (.aload_n 0, 1) := by decide +kernel
theorem dX4_been_35 : decode cX4_been 35 = .ok (.getfield 77, 3) := by decide +kernel
theorem dX4_been_38 : decode cX4_been 38 = .ok (.if_icmp .ge 25, 3) := by decide +kernel
theorem dX4_been_41 : decode cX4_been 41 = .ok (.aload_n 0, 1) := by decide +kernel
theorem dX4_been_42 : decode cX4_been 42 = .ok (.getfield 32, 3) := by decide +kernel
theorem dX4_been_45 : decode cX4_been 45 = .ok (.bipush 10, 2) := by decide +kernel
theorem dX4_been_47 : decode cX4_been 47 = .ok (.iload_n 2, 1) := by decide +kernel
theorem dX4_been_48 : decode cX4_been 48 = .ok (.imul, 1) := by decide +kernel
theorem dX4_been_49 : decode cX4_been 49 = .ok (.iload_n 1, 1) := by decide +kernel
theorem dX4_been_50 : decode cX4_been 50 = .ok (.iadd, 1) := by decide +kernel
theorem dX4_been_51 : decode cX4_been 51 = .ok (.iaload, 1) := by decide +kernel
theorem dX4_been_52 : decode cX4_been 52 = .ok (.ifCond .le 5, 3) := by decide +kernel
theorem dX4_been_55 : decode cX4_been 55 = .ok (.iload_n 2, 1) := by decide +kernel
theorem dX4_been_56 : decode cX4_been 56 = .ok (.ireturn, 1) := by decide +kernel
theorem dX4_been_57 : decode cX4_been 57 = .ok (.iinc 2 1, 3) := by decide +kernel
theorem dX4_been_60 : decode cX4_been 60 = .ok (.goto (-27), 3) := by decide +kernel
theorem dX4_been_63 : decode cX4_been 63 = .ok (.bipush (-9), 2) := by decide +kernel
theorem dX4_been_65 : decode cX4_been 65 = .ok (.ireturn, 1) := by decide +kernel
theorem dX4_judge_0 : decode cX4_judge 0 = .ok (.aload_n 0, 1) := by decide +kernel
theorem dX4_judge_1 : decode cX4_judge 1 = .ok (.iconst 0, 1) := by decide +kernel
theorem dX4_judge_2 : decode cX4_judge 2 = .ok (.putfield 74, 3) := by decide +kernel
theorem dX4_judge_5 : decode cX4_judge 5 = .ok (.aload_n 0, 1) := by decide +kernel
theorem dX4_judge_6 : decode cX4_judge 6 = .ok (.getfield 77, 3) := by decide +kernel
theorem dX4_judge_9 : decode cX4_judge 9 = .ok (.ifCond .ne 10, 3) := by decide +kernel
theorem dX4_judge_12 : decode cX4_judge 12 = .ok (.aload_n 0, 1) := by decide +kernel
theorem dX4_judge_13 : decode cX4_judge 13 = .ok (.bipush (-3), 2) := by decide +kernel
theorem dX4_judge_15 : decode cX4_judge 15 = .ok (.invokevirtual 150, 3) := by decide +kernel
theorem dX4_judge_18 : decode cX4_judge 18 = .ok (.ireturn, 1) := by decide +kernel
theorem dX4_judge_19 : decode cX4_judge 19 = .ok (.aload_n 0, 1) := by decide +kernel
theorem dX4_judge_20 : decode cX4_judge 20 = .ok (.invokevirtual 222, 3) := by decide +kernel
theorem dX4_judge_23 : decode cX4_judge 23 = .ok (.istore_n 1, 1) := by decide +kernel
theorem dX4_judge_24 : decode cX4_judge 24 = .ok (.aload_n 0, 1) := by decide +kernel
theorem dX4_judge_25 : decode cX4_judge 25 = .ok (.iconst 0, 1) := by decide +kernel
theorem dX4_judge_26 : decode cX4_judge 26 = .ok (.putfield 219, 3) := by decide +kernel
theorem dX4_judge_29 : decode cX4_judge 29 = .ok (.iload_n 1, 1) := by decide +kernel
theorem dX4_judge_30 : decode cX4_judge 30 = .ok (.ireturn, 1) := by decide +kernel
theorem dX4_draw_0 : decode cX4_draw 0 = .ok (.aload_n 0, 1) := by decide +kernel
theorem dX4_draw_1 : decode cX4_draw 1 = .ok (.aload_n 0, 1) := by decide +kernel
theorem dX4_draw_2 : decode cX4_draw 2 = .ok (.getfield 228, 3) := by decide +kernel
theorem dX4_draw_5 : decode cX4_draw 5 = .ok (.ldc 231, 2) := by decide +kernel
theorem dX4_draw_7 : decode cX4_draw 7 = .ok (.imul, 1) := by decide +kernel
theorem dX4_draw_8 : decode cX4_draw 8 = .ok (.sipush 12345, 3) := by decide +kernel
theorem dX4_draw_11 : decode cX4_draw 11 = .ok (.iadd, 1) := by decide +kernel
theorem dX4_draw_12 : decode cX4_draw 12 = .ok (.putfield 228, 3) := by decide +kernel
theorem dX4_draw_15 : decode cX4_draw 15 = .ok (.aload_n 0, 1) := by decide +kernel
theorem dX4_draw_16 : decode cX4_draw 16 = .ok (.getfield 228, 3) := by decide +kernel
theorem dX4_draw_19 : decode cX4_draw 19 = .ok (.ldc 232, 2) := by decide +kernel
theorem dX4_draw_21 : decode cX4_draw 21 = .ok (.iand, 1) := by decide +kernel
theorem dX4_draw_22 : decode cX4_draw 22 = .ok (.ldc 233, 2) := by decide +kernel
theorem dX4_draw_24 : decode cX4_draw 24 = .ok (.idiv, 1) := by decide +kernel
theorem dX4_draw_25 : decode cX4_draw 25 = .ok (.iload_n 1, 1) := by decide +kernel
theorem dX4_draw_26 : decode cX4_draw 26 = .ok (.irem, 1) := by decide +kernel
theorem dX4_draw_27 : decode cX4_draw 27 = .ok (.ireturn, 1) := by decide +kernel
theorem dX4_drawnNest_0 : decode cX4_drawnNest 0 = .ok (.aload_n 0, 1) := by decide +kernel
theorem dX4_drawnNest_1 : decode cX4_drawnNest 1 = .ok (.invokevirtual 111, 3) := by decide +kernel
theorem dX4_drawnNest_4 : decode cX4_drawnNest 4 = .ok (.aload_n 0, 1) := by decide +kernel
theorem dX4_drawnNest_5 : decode cX4_drawnNest 5 = .ok (.aload_n 0, 1) := by decide +kernel
theorem dX4_drawnNest_6 : decode cX4_drawnNest 6 = .ok (.getfield 105, 3) := by decide +kernel
theorem dX4_drawnNest_9 : decode cX4_drawnNest 9 = .ok (.invokevirtual 234, 3) := by decide +kernel
theorem dX4_drawnNest_12 : decode cX4_drawnNest 12 = .ok (.istore_n 1, 1) := by decide +kernel
theorem dX4_drawnNest_13 : decode cX4_drawnNest 13 = .ok (.iconst 0, 1) := by decide +kernel
theorem dX4_drawnNest_14 : decode cX4_drawnNest 14 = .ok (.istore_n 2, 1) := by decide +kernel
theorem dX4_drawnNest_15 : decode cX4_drawnNest 15 = .ok (.iload_n 1, 1) := by decide +kernel
theorem dX4_drawnNest_16 : decode cX4_drawnNest 16 = .ok (.aload_n 0, 1) := by decide +kernel
theorem dX4_drawnNest_17 : decode cX4_drawnNest 17 = .ok (.getfield 41, 3) := by decide +kernel
theorem dX4_drawnNest_20 : decode cX4_drawnNest 20 = .ok (.iload_n 2, 1) := by decide +kernel
theorem dX4_drawnNest_21 : decode cX4_drawnNest 21 = .ok (.iaload, 1) := by decide +kernel
theorem dX4_drawnNest_22 : decode cX4_drawnNest 22 = .ok (.if_icmp .lt 18, 3) := by decide +kernel
theorem dX4_drawnNest_25 : decode cX4_drawnNest 25 = .ok (.iload_n 1, 1) := by decide +kernel
theorem dX4_drawnNest_26 : decode cX4_drawnNest 26 = .ok (.aload_n 0, 1) := by decide +kernel
theorem dX4_drawnNest_27 : decode cX4_drawnNest 27 = .ok (.getfield 41, 3) := by decide +kernel
theorem dX4_drawnNest_30 : decode cX4_drawnNest 30 = .ok (.iload_n 2, 1) := by decide +kernel
theorem dX4_drawnNest_31 : decode cX4_drawnNest 31 = .ok (.iaload, 1) := by decide +kernel
theorem dX4_drawnNest_32 : decode cX4_drawnNest 32 = .ok (.isub, 1) := by decide +kernel
theorem dX4_drawnNest_33 : decode cX4_drawnNest 33 = .ok (.istore_n 1, 1) := by decide +kernel
theorem dX4_drawnNest_34 : decode cX4_drawnNest 34 = .ok (.iinc 2 1, 3) := by decide +kernel
theorem dX4_drawnNest_37 : decode cX4_drawnNest 37 = .ok (.goto (-22), 3) := by decide +kernel
theorem dX4_drawnNest_40 : decode cX4_drawnNest 40 = .ok (.iload_n 2, 1) := by decide +kernel
theorem dX4_drawnNest_41 : decode cX4_drawnNest 41 = .ok (.ireturn, 1) := by decide +kernel
theorem dX4_seeds_0 : decode cX4_seeds 0 = .ok (.aload_n 0, 1) := by decide +kernel
theorem dX4_seeds_1 : decode cX4_seeds 1 = .ok (.iconst 0, 1) := by decide +kernel
theorem dX4_seeds_2 : decode cX4_seeds 2 = .ok (.putfield 74, 3) := by decide +kernel
theorem dX4_seeds_5 : decode cX4_seeds 5 = .ok (.iload_n 1, 1) := by decide +kernel
theorem dX4_seeds_6 : decode cX4_seeds 6 = .ok (.iconst 1, 1) := by decide +kernel
theorem dX4_seeds_7 : decode cX4_seeds 7 = .ok (.if_icmp .ge 8, 3) := by decide +kernel
theorem dX4_seeds_10 : decode cX4_seeds 10 = .ok (.bipush (-4), 2) := by decide +kernel
theorem dX4_seeds_12 : decode cX4_seeds 12 = .ok (.goto 27, 3) := by decide +kernel
theorem dX4_seeds_15 : decode cX4_seeds 15 = .ok (.iload_n 1, 1) := by decide +kernel
theorem dX4_seeds_16 : decode cX4_seeds 16 = .ok (.bipush 60, 2) := by decide +kernel
theorem dX4_seeds_18 : decode cX4_seeds 18 = .ok (.if_icmp .le 8, 3) := by decide +kernel
theorem dX4_seeds_21 : decode cX4_seeds 21 = .ok (.bipush (-6), 2) := by decide +kernel
theorem dX4_seeds_23 : decode cX4_seeds 23 = .ok (.goto 16, 3) := by decide +kernel
theorem dX4_seeds_26 : decode cX4_seeds 26 = .ok (.aload_n 0, 1) := by decide +kernel
theorem dX4_seeds_27 : decode cX4_seeds 27 = .ok (.getfield 77, 3) := by decide +kernel
theorem dX4_seeds_30 : decode cX4_seeds 30 = .ok (.ifCond .ne 8, 3) := by decide +kernel
theorem dX4_seeds_33 : decode cX4_seeds 33 = .ok (.bipush (-3), 2) := by decide +kernel
theorem dX4_seeds_35 : decode cX4_seeds 35 = .ok (.goto 4, 3) := by decide +kernel
theorem dX4_seeds_38 : decode cX4_seeds 38 = .ok (.iconst 0, 1) := by decide +kernel
theorem dX4_seeds_39 : decode cX4_seeds 39 = .ok (.istore_n 3, 1) := by decide +kernel
theorem dX4_seeds_40 : decode cX4_seeds 40 = .ok (.iload_n 3, 1) := by decide +kernel
theorem dX4_seeds_41 : decode cX4_seeds 41 = .ok (.ifCond .ge 9, 3) := by decide +kernel
theorem dX4_seeds_44 : decode cX4_seeds 44 = .ok (.aload_n 0, 1) := by decide +kernel
theorem dX4_seeds_45 : decode cX4_seeds 45 = .ok (.iload_n 3, 1) := by decide +kernel
theorem dX4_seeds_46 : decode cX4_seeds 46 = .ok (.invokevirtual 150, 3) := by decide +kernel
theorem dX4_seeds_49 : decode cX4_seeds 49 = .ok (.ireturn, 1) := by decide +kernel
theorem dX4_seeds_50 : decode cX4_seeds 50 = .ok (.aload_n 0, 1) := by decide +kernel
theorem dX4_seeds_51 : decode cX4_seeds 51 = .ok (.invokevirtual 182, 3) := by decide +kernel
theorem dX4_seeds_54 : decode cX4_seeds 54 = .ok (.aload_n 0, 1) := by decide +kernel
theorem dX4_seeds_55 : decode cX4_seeds 55 = .ok (.iload_n 2, 1) := by decide +kernel
theorem dX4_seeds_56 : decode cX4_seeds 56 = .ok (.putfield 228, 3) := by decide +kernel
theorem dX4_seeds_59 : decode cX4_seeds 59 = .ok (.iconst 0, 1) := by decide +kernel
theorem dX4_seeds_60 : decode cX4_seeds 60 = .ok (.istore 4, 2) := by decide +kernel
theorem dX4_seeds_62 : decode cX4_seeds 62 = .ok (.iconst 0, 1) := by decide +kernel
theorem dX4_seeds_63 : decode cX4_seeds 63 = .ok (.istore 5, 2) := by decide +kernel
theorem dX4_seeds_65 : decode cX4_seeds 65 = .ok (.iload 5, 2) := by decide +kernel
theorem dX4_seeds_67 : decode cX4_seeds 67 = .ok (.iload_n 1, 1) := by decide +kernel
theorem dX4_seeds_68 : decode cX4_seeds 68 = .ok (.if_icmp .ge 36, 3) := by decide +kernel
theorem dX4_seeds_71 : decode cX4_seeds 71 = .ok (.iload 4, 2) := by decide +kernel
theorem dX4_seeds_73 : decode cX4_seeds 73 = .ok (.aload_n 0, 1) := by decide +kernel
theorem dX4_seeds_74 : decode cX4_seeds 74 = .ok (.iconst 1, 1) := by decide +kernel
theorem dX4_seeds_75 : decode cX4_seeds 75 = .ok (.aload_n 0, 1) := by decide +kernel
theorem dX4_seeds_76 : decode cX4_seeds 76 = .ok (.aload_n 0, 1) := by decide +kernel
theorem dX4_seeds_77 : decode cX4_seeds 77 = .ok (.getfield 77, 3) := by decide +kernel
theorem dX4_seeds_80 : decode cX4_seeds 80 = .ok (.invokevirtual 234, 3) := by decide +kernel
theorem dX4_seeds_83 : decode cX4_seeds 83 = .ok (.ishl, 1) := by decide +kernel
theorem dX4_seeds_84 : decode cX4_seeds 84 = .ok (.invokevirtual 199, 3) := by decide +kernel
theorem dX4_seeds_87 : decode cX4_seeds 87 = .ok (.iadd, 1) := by decide +kernel
theorem dX4_seeds_88 : decode cX4_seeds 88 = .ok (.istore 4, 2) := by decide +kernel
theorem dX4_seeds_90 : decode cX4_seeds 90 = .ok (.aload_n 0, 1) := by decide +kernel
theorem dX4_seeds_91 : decode cX4_seeds 91 = .ok (.aload_n 0, 1) := by decide +kernel
theorem dX4_seeds_92 : decode cX4_seeds 92 = .ok (.invokevirtual 237, 3) := by decide +kernel
theorem dX4_seeds_95 : decode cX4_seeds 95 = .ok (.invokevirtual 123, 3) := by decide +kernel
theorem dX4_seeds_98 : decode cX4_seeds 98 = .ok (.iinc 5 1, 3) := by decide +kernel
theorem dX4_seeds_101 : decode cX4_seeds 101 = .ok (.goto (-36), 3) := by decide +kernel
theorem dX4_seeds_104 : decode cX4_seeds 104 = .ok (.aload_n 0, 1) := by decide +kernel
theorem dX4_seeds_105 : decode cX4_seeds 105 = .ok (.invokevirtual 188, 3) := by decide +kernel
theorem dX4_seeds_108 : decode cX4_seeds 108 = .ok (.iload 4, 2) := by decide +kernel
theorem dX4_seeds_110 : decode cX4_seeds 110 = .ok (.ireturn, 1) := by decide +kernel
theorem dX4_clear_0 : decode cX4_clear 0 = .ok (.aload_n 0, 1) := by decide +kernel
theorem dX4_clear_1 : decode cX4_clear 1 = .ok (.iconst 0, 1) := by decide +kernel
theorem dX4_clear_2 : decode cX4_clear 2 = .ok (.putfield 74, 3) := by decide +kernel
theorem dX4_clear_5 : decode cX4_clear 5 = .ok (.aload_n 0, 1) := by decide +kernel
theorem dX4_clear_6 : decode cX4_clear 6 = .ok (.getfield 219, 3) := by decide +kernel
theorem dX4_clear_9 : decode cX4_clear 9 = .ok (.istore_n 1, 1) := by decide +kernel
theorem dX4_clear_10 : decode cX4_clear 10 = .ok (.aload_n 0, 1) := by decide +kernel
theorem dX4_clear_11 : decode cX4_clear 11 = .ok (.iconst 0, 1) := by decide +kernel
theorem dX4_clear_12 : decode cX4_clear 12 = .ok (.putfield 219, 3) := by decide +kernel
theorem dX4_clear_15 : decode cX4_clear 15 = .ok (.iload_n 1, 1) := by decide +kernel
theorem dX4_clear_16 : decode cX4_clear 16 = .ok (.ireturn, 1) := by decide +kernel
theorem dX4_count_0 : decode cX4_count 0 = .ok (.aload_n 0, 1) := by decide +kernel
theorem dX4_count_1 : decode cX4_count 1 = .ok (.iconst 0, 1) := by decide +kernel
theorem dX4_count_2 : decode cX4_count 2 = .ok (.putfield 74, 3) := by decide +kernel
theorem dX4_count_5 : decode cX4_count 5 = .ok (.iload_n 1, 1) := by decide +kernel
theorem dX4_count_6 : decode cX4_count 6 = .ok (.tableswitch 125 0 9 #[54, 59, 64, 69, 86, 91, 96, 110, 115, 120], 54) := by decide +kernel
theorem dX4_count_60 : decode cX4_count 60 = .ok (.aload_n 0, 1) := by decide +kernel
theorem dX4_count_61 : decode cX4_count 61 = .ok (.getfield 77, 3) := by decide +kernel
theorem dX4_count_64 : decode cX4_count 64 = .ok (.ireturn, 1) := by decide +kernel
theorem dX4_count_65 : decode cX4_count 65 = .ok (.aload_n 0, 1) := by decide +kernel
theorem dX4_count_66 : decode cX4_count 66 = .ok (.getfield 114, 3) := by decide +kernel
theorem dX4_count_69 : decode cX4_count 69 = .ok (.ireturn, 1) := by decide +kernel
theorem dX4_count_70 : decode cX4_count 70 = .ok (.aload_n 0, 1) := by decide +kernel
theorem dX4_count_71 : decode cX4_count 71 = .ok (.invokevirtual 225, 3) := by decide +kernel
theorem dX4_count_74 : decode cX4_count 74 = .ok (.ireturn, 1) := by decide +kernel
theorem dX4_count_75 : decode cX4_count 75 = .ok (.aload_n 0, 1) := by decide +kernel
theorem dX4_count_76 : decode cX4_count 76 = .ok (.getfield 16, 3) := by decide +kernel
theorem dX4_count_79 : decode cX4_count 79 = .ok (.ifCond .ge 8, 3) := by decide +kernel
theorem dX4_count_82 : decode cX4_count 82 = .ok (.bipush (-9), 2) := by decide +kernel
theorem dX4_count_84 : decode cX4_count 84 = .ok (.goto 7, 3) := by decide +kernel
theorem dX4_count_87 : decode cX4_count 87 = .ok (.aload_n 0, 1) := by decide +kernel
theorem dX4_count_88 : decode cX4_count 88 = .ok (.getfield 16, 3) := by decide +kernel
theorem dX4_count_91 : decode cX4_count 91 = .ok (.ireturn, 1) := by decide +kernel
theorem dX4_count_92 : decode cX4_count 92 = .ok (.aload_n 0, 1) := by decide +kernel
theorem dX4_count_93 : decode cX4_count 93 = .ok (.getfield 84, 3) := by decide +kernel
theorem dX4_count_96 : decode cX4_count 96 = .ok (.ireturn, 1) := by decide +kernel
theorem dX4_count_97 : decode cX4_count 97 = .ok (.aload_n 0, 1) := by decide +kernel
theorem dX4_count_98 : decode cX4_count 98 = .ok (.getfield 117, 3) := by decide +kernel
theorem dX4_count_101 : decode cX4_count 101 = .ok (.ireturn, 1) := by decide +kernel
theorem dX4_count_102 : decode cX4_count 102 = .ok (.aload_n 0, 1) := by decide +kernel
theorem dX4_count_103 : decode cX4_count 103 = .ok (.getfield 7, 3) := by decide +kernel
theorem dX4_count_106 : decode cX4_count 106 = .ok (.aload_n 0, 1) := by decide +kernel
theorem dX4_count_107 : decode cX4_count 107 = .ok (.aload_n 0, 1) := by decide +kernel
theorem dX4_count_108 : decode cX4_count 108 = .ok (.getfield 84, 3) := by decide +kernel
theorem dX4_count_111 : decode cX4_count 111 = .ok (.invokevirtual 196, 3) := by decide +kernel
theorem dX4_count_114 : decode cX4_count 114 = .ok (.isub, 1) := by decide +kernel
theorem dX4_count_115 : decode cX4_count 115 = .ok (.ireturn, 1) := by decide +kernel
theorem dX4_count_116 : decode cX4_count 116 = .ok (.aload_n 0, 1) := by decide +kernel
theorem dX4_count_117 : decode cX4_count 117 = .ok (.getfield 153, 3) := by decide +kernel
theorem dX4_count_120 : decode cX4_count 120 = .ok (.ireturn, 1) := by decide +kernel
theorem dX4_count_121 : decode cX4_count 121 = .ok (.aload_n 0, 1) := by decide +kernel
theorem dX4_count_122 : decode cX4_count 122 = .ok (.getfield 219, 3) := by decide +kernel
theorem dX4_count_125 : decode cX4_count 125 = .ok (.ireturn, 1) := by decide +kernel
theorem dX4_count_126 : decode cX4_count 126 = .ok (.aload_n 0, 1) := by decide +kernel
theorem dX4_count_127 : decode cX4_count 127 = .ok (.getfield 140, 3) := by decide +kernel
theorem dX4_count_130 : decode cX4_count 130 = .ok (.ireturn, 1) := by decide +kernel
theorem dX4_count_131 : decode cX4_count 131 = .ok (.iload_n 1, 1) := by decide +kernel
theorem dX4_count_132 : decode cX4_count 132 = .ok (.i2l, 1) := by decide +kernel
theorem dX4_count_133 : decode cX4_count 133 = .ok (.ldc2_w 240, 3) := by decide +kernel
theorem dX4_count_136 : decode cX4_count 136 = .ok (.ldc2_w 242, 3) := by decide +kernel
theorem dX4_count_139 : decode cX4_count 139 = .ok (.invokestatic 80, 3) := by decide +kernel
theorem dX4_count_142 : decode cX4_count 142 = .ok (.ifCond .eq 15, 3) := by decide +kernel
theorem dX4_count_145 : decode cX4_count 145 = .ok (.aload_n 0, 1) := by decide +kernel
theorem dX4_count_146 : decode cX4_count 146 = .ok (.getfield 35, 3) := by decide +kernel
theorem dX4_count_149 : decode cX4_count 149 = .ok (.iload_n 1, 1) := by decide +kernel
theorem dX4_count_150 : decode cX4_count 150 = .ok (.bipush 10, 2) := by decide +kernel
theorem dX4_count_152 : decode cX4_count 152 = .ok (.isub, 1) := by decide +kernel
theorem dX4_count_153 : decode cX4_count 153 = .ok (.iaload, 1) := by decide +kernel
theorem dX4_count_154 : decode cX4_count 154 = .ok (.goto 5, 3) := by decide +kernel
theorem dX4_count_157 : decode cX4_count 157 = .ok (.bipush (-9), 2) := by decide +kernel
theorem dX4_count_159 : decode cX4_count 159 = .ok (.ireturn, 1) := by decide +kernel
theorem dJ6_numberOfTrailingZeros_0f7a4_0 : decode cJ6_numberOfTrailingZeros_0f7a4 0 = .ok (.iload_n 0, 1) := by decide +kernel
theorem dJ6_numberOfTrailingZeros_0f7a4_1 : decode cJ6_numberOfTrailingZeros_0f7a4 1 = .ok (.iconst (-1), 1) := by decide +kernel
theorem dJ6_numberOfTrailingZeros_0f7a4_2 : decode cJ6_numberOfTrailingZeros_0f7a4 2 = .ok (.ixor, 1) := by decide +kernel
theorem dJ6_numberOfTrailingZeros_0f7a4_3 : decode cJ6_numberOfTrailingZeros_0f7a4 3 = .ok (.iload_n 0, 1) := by decide +kernel
theorem dJ6_numberOfTrailingZeros_0f7a4_4 : decode cJ6_numberOfTrailingZeros_0f7a4 4 = .ok (.iconst 1, 1) := by decide +kernel
theorem dJ6_numberOfTrailingZeros_0f7a4_5 : decode cJ6_numberOfTrailingZeros_0f7a4 5 = .ok (.isub, 1) := by decide +kernel
theorem dJ6_numberOfTrailingZeros_0f7a4_6 : decode cJ6_numberOfTrailingZeros_0f7a4 6 = .ok (.iand, 1) := by decide +kernel
theorem dJ6_numberOfTrailingZeros_0f7a4_7 : decode cJ6_numberOfTrailingZeros_0f7a4 7 = .ok (.istore_n 0, 1) := by decide +kernel
theorem dJ6_numberOfTrailingZeros_0f7a4_8 : decode cJ6_numberOfTrailingZeros_0f7a4 8 = .ok (.iload_n 0, 1) := by decide +kernel
theorem dJ6_numberOfTrailingZeros_0f7a4_9 : decode cJ6_numberOfTrailingZeros_0f7a4 9 = .ok (.ifCond .gt 8, 3) := by decide +kernel
theorem dJ6_numberOfTrailingZeros_0f7a4_12 : decode cJ6_numberOfTrailingZeros_0f7a4 12 = .ok (.iload_n 0, 1) := by decide +kernel
theorem dJ6_numberOfTrailingZeros_0f7a4_13 : decode cJ6_numberOfTrailingZeros_0f7a4 13 = .ok (.bipush 32, 2) := by decide +kernel
theorem dJ6_numberOfTrailingZeros_0f7a4_15 : decode cJ6_numberOfTrailingZeros_0f7a4 15 = .ok (.iand, 1) := by decide +kernel
theorem dJ6_numberOfTrailingZeros_0f7a4_16 : decode cJ6_numberOfTrailingZeros_0f7a4 16 = .ok (.ireturn, 1) := by decide +kernel
theorem dJ6_numberOfTrailingZeros_0f7a4_17 : decode cJ6_numberOfTrailingZeros_0f7a4 17 = .ok (.iconst 1, 1) := by decide +kernel
theorem dJ6_numberOfTrailingZeros_0f7a4_18 : decode cJ6_numberOfTrailingZeros_0f7a4 18 = .ok (.istore_n 1, 1) := by decide +kernel
theorem dJ6_numberOfTrailingZeros_0f7a4_19 : decode cJ6_numberOfTrailingZeros_0f7a4 19 = .ok (.iload_n 0, 1) := by decide +kernel
theorem dJ6_numberOfTrailingZeros_0f7a4_20 : decode cJ6_numberOfTrailingZeros_0f7a4 20 = .ok (.ldc_w 264, 3) := by decide +kernel
theorem dJ6_numberOfTrailingZeros_0f7a4_23 : decode cJ6_numberOfTrailingZeros_0f7a4 23 = .ok (.if_icmp .le 11, 3) := by decide +kernel
theorem dJ6_numberOfTrailingZeros_0f7a4_26 : decode cJ6_numberOfTrailingZeros_0f7a4 26 = .ok (.iinc 1 16, 3) := by decide +kernel
theorem dJ6_numberOfTrailingZeros_0f7a4_29 : decode cJ6_numberOfTrailingZeros_0f7a4 29 = .ok (.iload_n 0, 1) := by decide +kernel
theorem dJ6_numberOfTrailingZeros_0f7a4_30 : decode cJ6_numberOfTrailingZeros_0f7a4 30 = .ok (.bipush 16, 2) := by decide +kernel
theorem dJ6_numberOfTrailingZeros_0f7a4_32 : decode cJ6_numberOfTrailingZeros_0f7a4 32 = .ok (.iushr, 1) := by decide +kernel
theorem dJ6_numberOfTrailingZeros_0f7a4_33 : decode cJ6_numberOfTrailingZeros_0f7a4 33 = .ok (.istore_n 0, 1) := by decide +kernel
theorem dJ6_numberOfTrailingZeros_0f7a4_34 : decode cJ6_numberOfTrailingZeros_0f7a4 34 = .ok (.iload_n 0, 1) := by decide +kernel
theorem dJ6_numberOfTrailingZeros_0f7a4_35 : decode cJ6_numberOfTrailingZeros_0f7a4 35 = .ok (.sipush 256, 3) := by decide +kernel
theorem dJ6_numberOfTrailingZeros_0f7a4_38 : decode cJ6_numberOfTrailingZeros_0f7a4 38 = .ok (.if_icmp .le 11, 3) := by decide +kernel
theorem dJ6_numberOfTrailingZeros_0f7a4_41 : decode cJ6_numberOfTrailingZeros_0f7a4 41 = .ok (.iinc 1 8, 3) := by decide +kernel
theorem dJ6_numberOfTrailingZeros_0f7a4_44 : decode cJ6_numberOfTrailingZeros_0f7a4 44 = .ok (.iload_n 0, 1) := by decide +kernel
theorem dJ6_numberOfTrailingZeros_0f7a4_45 : decode cJ6_numberOfTrailingZeros_0f7a4 45 = .ok (.bipush 8, 2) := by decide +kernel
theorem dJ6_numberOfTrailingZeros_0f7a4_47 : decode cJ6_numberOfTrailingZeros_0f7a4 47 = .ok (.iushr, 1) := by decide +kernel
theorem dJ6_numberOfTrailingZeros_0f7a4_48 : decode cJ6_numberOfTrailingZeros_0f7a4 48 = .ok (.istore_n 0, 1) := by decide +kernel
theorem dJ6_numberOfTrailingZeros_0f7a4_49 : decode cJ6_numberOfTrailingZeros_0f7a4 49 = .ok (.iload_n 0, 1) := by decide +kernel
theorem dJ6_numberOfTrailingZeros_0f7a4_50 : decode cJ6_numberOfTrailingZeros_0f7a4 50 = .ok (.bipush 16, 2) := by decide +kernel
theorem dJ6_numberOfTrailingZeros_0f7a4_52 : decode cJ6_numberOfTrailingZeros_0f7a4 52 = .ok (.if_icmp .le 10, 3) := by decide +kernel
theorem dJ6_numberOfTrailingZeros_0f7a4_55 : decode cJ6_numberOfTrailingZeros_0f7a4 55 = .ok (.iinc 1 4, 3) := by decide +kernel
theorem dJ6_numberOfTrailingZeros_0f7a4_58 : decode cJ6_numberOfTrailingZeros_0f7a4 58 = .ok (.iload_n 0, 1) := by decide +kernel
theorem dJ6_numberOfTrailingZeros_0f7a4_59 : decode cJ6_numberOfTrailingZeros_0f7a4 59 = .ok (.iconst 4, 1) := by decide +kernel
theorem dJ6_numberOfTrailingZeros_0f7a4_60 : decode cJ6_numberOfTrailingZeros_0f7a4 60 = .ok (.iushr, 1) := by decide +kernel
theorem dJ6_numberOfTrailingZeros_0f7a4_61 : decode cJ6_numberOfTrailingZeros_0f7a4 61 = .ok (.istore_n 0, 1) := by decide +kernel
theorem dJ6_numberOfTrailingZeros_0f7a4_62 : decode cJ6_numberOfTrailingZeros_0f7a4 62 = .ok (.iload_n 0, 1) := by decide +kernel
theorem dJ6_numberOfTrailingZeros_0f7a4_63 : decode cJ6_numberOfTrailingZeros_0f7a4 63 = .ok (.iconst 4, 1) := by decide +kernel
theorem dJ6_numberOfTrailingZeros_0f7a4_64 : decode cJ6_numberOfTrailingZeros_0f7a4 64 = .ok (.if_icmp .le 10, 3) := by decide +kernel
theorem dJ6_numberOfTrailingZeros_0f7a4_67 : decode cJ6_numberOfTrailingZeros_0f7a4 67 = .ok (.iinc 1 2, 3) := by decide +kernel
theorem dJ6_numberOfTrailingZeros_0f7a4_70 : decode cJ6_numberOfTrailingZeros_0f7a4 70 = .ok (.iload_n 0, 1) := by decide +kernel
theorem dJ6_numberOfTrailingZeros_0f7a4_71 : decode cJ6_numberOfTrailingZeros_0f7a4 71 = .ok (.iconst 2, 1) := by decide +kernel
theorem dJ6_numberOfTrailingZeros_0f7a4_72 : decode cJ6_numberOfTrailingZeros_0f7a4 72 = .ok (.iushr, 1) := by decide +kernel
theorem dJ6_numberOfTrailingZeros_0f7a4_73 : decode cJ6_numberOfTrailingZeros_0f7a4 73 = .ok (.istore_n 0, 1) := by decide +kernel
theorem dJ6_numberOfTrailingZeros_0f7a4_74 : decode cJ6_numberOfTrailingZeros_0f7a4 74 = .ok (.iload_n 1, 1) := by decide +kernel
theorem dJ6_numberOfTrailingZeros_0f7a4_75 : decode cJ6_numberOfTrailingZeros_0f7a4 75 = .ok (.iload_n 0, 1) := by decide +kernel
theorem dJ6_numberOfTrailingZeros_0f7a4_76 : decode cJ6_numberOfTrailingZeros_0f7a4 76 = .ok (.iconst 1, 1) := by decide +kernel
theorem dJ6_numberOfTrailingZeros_0f7a4_77 : decode cJ6_numberOfTrailingZeros_0f7a4 77 = .ok (.iushr, 1) := by decide +kernel
theorem dJ6_numberOfTrailingZeros_0f7a4_78 : decode cJ6_numberOfTrailingZeros_0f7a4 78 = .ok (.iadd, 1) := by decide +kernel
theorem dJ6_numberOfTrailingZeros_0f7a4_79 : decode cJ6_numberOfTrailingZeros_0f7a4 79 = .ok (.ireturn, 1) := by decide +kernel
theorem dJ6_bitCount_0f7a4_0 : decode cJ6_bitCount_0f7a4 0 = .ok (.iload_n 0, 1) := by decide +kernel
theorem dJ6_bitCount_0f7a4_1 : decode cJ6_bitCount_0f7a4 1 = .ok (.iload_n 0, 1) := by decide +kernel
theorem dJ6_bitCount_0f7a4_2 : decode cJ6_bitCount_0f7a4 2 = .ok (.iconst 1, 1) := by decide +kernel
theorem dJ6_bitCount_0f7a4_3 : decode cJ6_bitCount_0f7a4 3 = .ok (.iushr, 1) := by decide +kernel
theorem dJ6_bitCount_0f7a4_4 : decode cJ6_bitCount_0f7a4 4 = .ok (.ldc_w 265, 3) := by decide +kernel
theorem dJ6_bitCount_0f7a4_7 : decode cJ6_bitCount_0f7a4 7 = .ok (.iand, 1) := by decide +kernel
theorem dJ6_bitCount_0f7a4_8 : decode cJ6_bitCount_0f7a4 8 = .ok (.isub, 1) := by decide +kernel
theorem dJ6_bitCount_0f7a4_9 : decode cJ6_bitCount_0f7a4 9 = .ok (.istore_n 0, 1) := by decide +kernel
theorem dJ6_bitCount_0f7a4_10 : decode cJ6_bitCount_0f7a4 10 = .ok (.iload_n 0, 1) := by decide +kernel
theorem dJ6_bitCount_0f7a4_11 : decode cJ6_bitCount_0f7a4 11 = .ok (.ldc_w 266, 3) := by decide +kernel
theorem dJ6_bitCount_0f7a4_14 : decode cJ6_bitCount_0f7a4 14 = .ok (.iand, 1) := by decide +kernel
theorem dJ6_bitCount_0f7a4_15 : decode cJ6_bitCount_0f7a4 15 = .ok (.iload_n 0, 1) := by decide +kernel
theorem dJ6_bitCount_0f7a4_16 : decode cJ6_bitCount_0f7a4 16 = .ok (.iconst 2, 1) := by decide +kernel
theorem dJ6_bitCount_0f7a4_17 : decode cJ6_bitCount_0f7a4 17 = .ok (.iushr, 1) := by decide +kernel
theorem dJ6_bitCount_0f7a4_18 : decode cJ6_bitCount_0f7a4 18 = .ok (.ldc_w 266, 3) := by decide +kernel
theorem dJ6_bitCount_0f7a4_21 : decode cJ6_bitCount_0f7a4 21 = .ok (.iand, 1) := by decide +kernel
theorem dJ6_bitCount_0f7a4_22 : decode cJ6_bitCount_0f7a4 22 = .ok (.iadd, 1) := by decide +kernel
theorem dJ6_bitCount_0f7a4_23 : decode cJ6_bitCount_0f7a4 23 = .ok (.istore_n 0, 1) := by decide +kernel
theorem dJ6_bitCount_0f7a4_24 : decode cJ6_bitCount_0f7a4 24 = .ok (.iload_n 0, 1) := by decide +kernel
theorem dJ6_bitCount_0f7a4_25 : decode cJ6_bitCount_0f7a4 25 = .ok (.iload_n 0, 1) := by decide +kernel
theorem dJ6_bitCount_0f7a4_26 : decode cJ6_bitCount_0f7a4 26 = .ok (.iconst 4, 1) := by decide +kernel
theorem dJ6_bitCount_0f7a4_27 : decode cJ6_bitCount_0f7a4 27 = .ok (.iushr, 1) := by decide +kernel
theorem dJ6_bitCount_0f7a4_28 : decode cJ6_bitCount_0f7a4 28 = .ok (.iadd, 1) := by decide +kernel
theorem dJ6_bitCount_0f7a4_29 : decode cJ6_bitCount_0f7a4 29 = .ok (.ldc_w 267, 3) := by decide +kernel
theorem dJ6_bitCount_0f7a4_32 : decode cJ6_bitCount_0f7a4 32 = .ok (.iand, 1) := by decide +kernel
theorem dJ6_bitCount_0f7a4_33 : decode cJ6_bitCount_0f7a4 33 = .ok (.istore_n 0, 1) := by decide +kernel
theorem dJ6_bitCount_0f7a4_34 : decode cJ6_bitCount_0f7a4 34 = .ok (.iload_n 0, 1) := by decide +kernel
theorem dJ6_bitCount_0f7a4_35 : decode cJ6_bitCount_0f7a4 35 = .ok (.iload_n 0, 1) := by decide +kernel
theorem dJ6_bitCount_0f7a4_36 : decode cJ6_bitCount_0f7a4 36 = .ok (.bipush 8, 2) := by decide +kernel
theorem dJ6_bitCount_0f7a4_38 : decode cJ6_bitCount_0f7a4 38 = .ok (.iushr, 1) := by decide +kernel
theorem dJ6_bitCount_0f7a4_39 : decode cJ6_bitCount_0f7a4 39 = .ok (.iadd, 1) := by decide +kernel
theorem dJ6_bitCount_0f7a4_40 : decode cJ6_bitCount_0f7a4 40 = .ok (.istore_n 0, 1) := by decide +kernel
theorem dJ6_bitCount_0f7a4_41 : decode cJ6_bitCount_0f7a4 41 = .ok (.iload_n 0, 1) := by decide +kernel
theorem dJ6_bitCount_0f7a4_42 : decode cJ6_bitCount_0f7a4 42 = .ok (.iload_n 0, 1) := by decide +kernel
theorem dJ6_bitCount_0f7a4_43 : decode cJ6_bitCount_0f7a4 43 = .ok (.bipush 16, 2) := by decide +kernel
theorem dJ6_bitCount_0f7a4_45 : decode cJ6_bitCount_0f7a4 45 = .ok (.iushr, 1) := by decide +kernel
theorem dJ6_bitCount_0f7a4_46 : decode cJ6_bitCount_0f7a4 46 = .ok (.iadd, 1) := by decide +kernel
theorem dJ6_bitCount_0f7a4_47 : decode cJ6_bitCount_0f7a4 47 = .ok (.istore_n 0, 1) := by decide +kernel
theorem dJ6_bitCount_0f7a4_48 : decode cJ6_bitCount_0f7a4 48 = .ok (.iload_n 0, 1) := by decide +kernel
theorem dJ6_bitCount_0f7a4_49 : decode cJ6_bitCount_0f7a4 49 = .ok (.bipush 63, 2) := by decide +kernel
theorem dJ6_bitCount_0f7a4_51 : decode cJ6_bitCount_0f7a4 51 = .ok (.iand, 1) := by decide +kernel
theorem dJ6_bitCount_0f7a4_52 : decode cJ6_bitCount_0f7a4 52 = .ok (.ireturn, 1) := by decide +kernel
theorem dJ9_abs_0f7a4_0 : decode cJ9_abs_0f7a4 0 = .ok (.iload_n 0, 1) := by decide +kernel
theorem dJ9_abs_0f7a4_1 : decode cJ9_abs_0f7a4 1 = .ok (.ifCond .ge 8, 3) := by decide +kernel
theorem dJ9_abs_0f7a4_4 : decode cJ9_abs_0f7a4 4 = .ok (.iload_n 0, 1) := by decide +kernel
theorem dJ9_abs_0f7a4_5 : decode cJ9_abs_0f7a4 5 = .ok (.ineg, 1) := by decide +kernel
theorem dJ9_abs_0f7a4_6 : decode cJ9_abs_0f7a4 6 = .ok (.goto 4, 3) := by decide +kernel
theorem dJ9_abs_0f7a4_9 : decode cJ9_abs_0f7a4 9 = .ok (.iload_n 0, 1) := by decide +kernel
theorem dJ9_abs_0f7a4_10 : decode cJ9_abs_0f7a4 10 = .ok (.ireturn, 1) := by decide +kernel
theorem dJ9_max_7cf53_0 : decode cJ9_max_7cf53 0 = .ok (.iload_n 0, 1) := by decide +kernel
theorem dJ9_max_7cf53_1 : decode cJ9_max_7cf53 1 = .ok (.iload_n 1, 1) := by decide +kernel
theorem dJ9_max_7cf53_2 : decode cJ9_max_7cf53 2 = .ok (.if_icmp .lt 7, 3) := by decide +kernel
theorem dJ9_max_7cf53_5 : decode cJ9_max_7cf53 5 = .ok (.iload_n 0, 1) := by decide +kernel
theorem dJ9_max_7cf53_6 : decode cJ9_max_7cf53 6 = .ok (.goto 4, 3) := by decide +kernel
theorem dJ9_max_7cf53_9 : decode cJ9_max_7cf53 9 = .ok (.iload_n 1, 1) := by decide +kernel
theorem dJ9_max_7cf53_10 : decode cJ9_max_7cf53 10 = .ok (.ireturn, 1) := by decide +kernel
theorem dL_law_0 : decode cL_law 0 = .ok (.new 7, 3) := by decide +kernel
theorem dL_law_3 : decode cL_law 3 = .ok (.dup, 1) := by decide +kernel
theorem dL_law_4 : decode cL_law 4 = .ok (.invokespecial 9, 3) := by decide +kernel
theorem dL_law_7 : decode cL_law 7 = .ok (.astore_n 1, 1) := by decide +kernel
theorem dL_law_8 : decode cL_law 8 = .ok (.new 10, 3) := by decide +kernel
theorem dL_law_11 : decode cL_law 11 = .ok (.dup, 1) := by decide +kernel
theorem dL_law_12 : decode cL_law 12 = .ok (.invokespecial 12, 3) := by decide +kernel
theorem dL_law_15 : decode cL_law 15 = .ok (.astore_n 2, 1) := by decide +kernel
theorem dL_law_16 : decode cL_law 16 = .ok (.iconst 0, 1) := by decide +kernel
theorem dL_law_17 : decode cL_law 17 = .ok (.istore_n 3, 1) := by decide +kernel
theorem dL_law_18 : decode cL_law 18 = .ok (.iload_n 3, 1) := by decide +kernel
theorem dL_law_19 : decode cL_law 19 = .ok (.aload_n 0, 1) := by decide +kernel
theorem dL_law_20 : decode cL_law 20 = .ok (.arraylength, 1) := by decide +kernel
theorem dL_law_21 : decode cL_law 21 = .ok (.iconst 4, 1) := by decide +kernel
theorem dL_law_22 : decode cL_law 22 = .ok (.isub, 1) := by decide +kernel
theorem dL_law_23 : decode cL_law 23 = .ok (.if_icmp .gt 697, 3) := by decide +kernel
theorem dL_law_26 : decode cL_law 26 = .ok (.aload_n 0, 1) := by decide +kernel
theorem dL_law_27 : decode cL_law 27 = .ok (.iload_n 3, 1) := by decide +kernel
theorem dL_law_28 : decode cL_law 28 = .ok (.iaload, 1) := by decide +kernel
theorem dL_law_29 : decode cL_law 29 = .ok (.bipush 31, 2) := by decide +kernel
theorem dL_law_31 : decode cL_law 31 = .ok (.iand, 1) := by decide +kernel
theorem dL_law_32 : decode cL_law 32 = .ok (.tableswitch 682 0 24 #[116, 139, 152, 185, 218, 241, 254, 277, 311, 344, 377, 390, 413, 436, 449, 462, 485, 508, 551, 574, 587, 620, 633, 646, 659], 116) := by decide +kernel
theorem dL_law_148 : decode cL_law 148 = .ok (.aload_n 1, 1) := by decide +kernel
theorem dL_law_149 : decode cL_law 149 = .ok (.aload_n 0, 1) := by decide +kernel
theorem dL_law_150 : decode cL_law 150 = .ok (.iload_n 3, 1) := by decide +kernel
theorem dL_law_151 : decode cL_law 151 = .ok (.iconst 1, 1) := by decide +kernel
theorem dL_law_152 : decode cL_law 152 = .ok (.iadd, 1) := by decide +kernel
theorem dL_law_153 : decode cL_law 153 = .ok (.iaload, 1) := by decide +kernel
theorem dL_law_154 : decode cL_law 154 = .ok (.invokevirtual 13, 3) := by decide +kernel
theorem dL_law_157 : decode cL_law 157 = .ok (.aload_n 2, 1) := by decide +kernel
theorem dL_law_158 : decode cL_law 158 = .ok (.aload_n 0, 1) := by decide +kernel
theorem dL_law_159 : decode cL_law 159 = .ok (.iload_n 3, 1) := by decide +kernel
theorem dL_law_160 : decode cL_law 160 = .ok (.iconst 1, 1) := by decide +kernel
theorem dL_law_161 : decode cL_law 161 = .ok (.iadd, 1) := by decide +kernel
theorem dL_law_162 : decode cL_law 162 = .ok (.iaload, 1) := by decide +kernel
theorem dL_law_163 : decode cL_law 163 = .ok (.invokevirtual 17, 3) := by decide +kernel
theorem dL_law_166 : decode cL_law 166 = .ok (.if_icmp .eq 548, 3) := by decide +kernel
theorem dL_law_169 : decode cL_law 169 = .ok (.iconst 0, 1) := by decide +kernel
theorem dL_law_170 : decode cL_law 170 = .ok (.ireturn, 1) := by decide +kernel
theorem dL_law_171 : decode cL_law 171 = .ok (.aload_n 1, 1) := by decide +kernel
theorem dL_law_172 : decode cL_law 172 = .ok (.invokevirtual 18, 3) := by decide +kernel
theorem dL_law_175 : decode cL_law 175 = .ok (.aload_n 2, 1) := by decide +kernel
theorem dL_law_176 : decode cL_law 176 = .ok (.invokevirtual 22, 3) := by decide +kernel
theorem dL_law_179 : decode cL_law 179 = .ok (.if_icmp .eq 535, 3) := by decide +kernel
theorem dL_law_182 : decode cL_law 182 = .ok (.iconst 0, 1) := by decide +kernel
theorem dL_law_183 : decode cL_law 183 = .ok (.ireturn, 1) := by decide +kernel
theorem dL_law_184 : decode cL_law 184 = .ok (.aload_n 1, 1) := by decide +kernel
theorem dL_law_185 : decode cL_law 185 = .ok (.aload_n 0, 1) := by decide +kernel
theorem dL_law_186 : decode cL_law 186 = .ok (.iload_n 3, 1) := by decide +kernel
theorem dL_law_187 : decode cL_law 187 = .ok (.iconst 1, 1) := by decide +kernel
theorem dL_law_188 : decode cL_law 188 = .ok (.iadd, 1) := by decide +kernel
theorem dL_law_189 : decode cL_law 189 = .ok (.iaload, 1) := by decide +kernel
theorem dL_law_190 : decode cL_law 190 = .ok (.aload_n 0, 1) := by decide +kernel
theorem dL_law_191 : decode cL_law 191 = .ok (.iload_n 3, 1) := by decide +kernel
theorem dL_law_192 : decode cL_law 192 = .ok (.iconst 2, 1) := by decide +kernel
theorem dL_law_193 : decode cL_law 193 = .ok (.iadd, 1) := by decide +kernel
theorem dL_law_194 : decode cL_law 194 = .ok (.iaload, 1) := by decide +kernel
theorem dL_law_195 : decode cL_law 195 = .ok (.invokevirtual 23, 3) := by decide +kernel
theorem dL_law_198 : decode cL_law 198 = .ok (.aload_n 2, 1) := by decide +kernel
theorem dL_law_199 : decode cL_law 199 = .ok (.aload_n 0, 1) := by decide +kernel
theorem dL_law_200 : decode cL_law 200 = .ok (.iload_n 3, 1) := by decide +kernel
theorem dL_law_201 : decode cL_law 201 = .ok (.iconst 1, 1) := by decide +kernel
theorem dL_law_202 : decode cL_law 202 = .ok (.iadd, 1) := by decide +kernel
theorem dL_law_203 : decode cL_law 203 = .ok (.iaload, 1) := by decide +kernel
theorem dL_law_204 : decode cL_law 204 = .ok (.aload_n 0, 1) := by decide +kernel
theorem dL_law_205 : decode cL_law 205 = .ok (.iload_n 3, 1) := by decide +kernel
theorem dL_law_206 : decode cL_law 206 = .ok (.iconst 2, 1) := by decide +kernel
theorem dL_law_207 : decode cL_law 207 = .ok (.iadd, 1) := by decide +kernel
theorem dL_law_208 : decode cL_law 208 = .ok (.iaload, 1) := by decide +kernel
theorem dL_law_209 : decode cL_law 209 = .ok (.invokevirtual 27, 3) := by decide +kernel
theorem dL_law_212 : decode cL_law 212 = .ok (.if_icmp .eq 502, 3) := by decide +kernel
theorem dL_law_215 : decode cL_law 215 = .ok (.iconst 0, 1) := by decide +kernel
theorem dL_law_216 : decode cL_law 216 = .ok (.ireturn, 1) := by decide +kernel
theorem dL_law_217 : decode cL_law 217 = .ok (.aload_n 1, 1) := by decide +kernel
theorem dL_law_218 : decode cL_law 218 = .ok (.aload_n 0, 1) := by decide +kernel
theorem dL_law_219 : decode cL_law 219 = .ok (.iload_n 3, 1) := by decide +kernel
theorem dL_law_220 : decode cL_law 220 = .ok (.iconst 1, 1) := by decide +kernel
theorem dL_law_221 : decode cL_law 221 = .ok (.iadd, 1) := by decide +kernel
theorem dL_law_222 : decode cL_law 222 = .ok (.iaload, 1) := by decide +kernel
theorem dL_law_223 : decode cL_law 223 = .ok (.aload_n 0, 1) := by decide +kernel
theorem dL_law_224 : decode cL_law 224 = .ok (.iload_n 3, 1) := by decide +kernel
theorem dL_law_225 : decode cL_law 225 = .ok (.iconst 2, 1) := by decide +kernel
theorem dL_law_226 : decode cL_law 226 = .ok (.iadd, 1) := by decide +kernel
theorem dL_law_227 : decode cL_law 227 = .ok (.iaload, 1) := by decide +kernel
theorem dL_law_228 : decode cL_law 228 = .ok (.invokevirtual 28, 3) := by decide +kernel
theorem dL_law_231 : decode cL_law 231 = .ok (.aload_n 2, 1) := by decide +kernel
theorem dL_law_232 : decode cL_law 232 = .ok (.aload_n 0, 1) := by decide +kernel
theorem dL_law_233 : decode cL_law 233 = .ok (.iload_n 3, 1) := by decide +kernel
theorem dL_law_234 : decode cL_law 234 = .ok (.iconst 1, 1) := by decide +kernel
theorem dL_law_235 : decode cL_law 235 = .ok (.iadd, 1) := by decide +kernel
theorem dL_law_236 : decode cL_law 236 = .ok (.iaload, 1) := by decide +kernel
theorem dL_law_237 : decode cL_law 237 = .ok (.aload_n 0, 1) := by decide +kernel
theorem dL_law_238 : decode cL_law 238 = .ok (.iload_n 3, 1) := by decide +kernel
theorem dL_law_239 : decode cL_law 239 = .ok (.iconst 2, 1) := by decide +kernel
theorem dL_law_240 : decode cL_law 240 = .ok (.iadd, 1) := by decide +kernel
theorem dL_law_241 : decode cL_law 241 = .ok (.iaload, 1) := by decide +kernel
theorem dL_law_242 : decode cL_law 242 = .ok (.invokevirtual 31, 3) := by decide +kernel
theorem dL_law_245 : decode cL_law 245 = .ok (.if_icmp .eq 469, 3) := by decide +kernel
theorem dL_law_248 : decode cL_law 248 = .ok (.iconst 0, 1) := by decide +kernel
theorem dL_law_249 : decode cL_law 249 = .ok (.ireturn, 1) := by decide +kernel
theorem dL_law_250 : decode cL_law 250 = .ok (.aload_n 1, 1) := by decide +kernel
theorem dL_law_251 : decode cL_law 251 = .ok (.aload_n 0, 1) := by decide +kernel
theorem dL_law_252 : decode cL_law 252 = .ok (.iload_n 3, 1) := by decide +kernel
theorem dL_law_253 : decode cL_law 253 = .ok (.iconst 1, 1) := by decide +kernel
theorem dL_law_254 : decode cL_law 254 = .ok (.iadd, 1) := by decide +kernel
theorem dL_law_255 : decode cL_law 255 = .ok (.iaload, 1) := by decide +kernel
theorem dL_law_256 : decode cL_law 256 = .ok (.invokevirtual 32, 3) := by decide +kernel
theorem dL_law_259 : decode cL_law 259 = .ok (.aload_n 2, 1) := by decide +kernel
theorem dL_law_260 : decode cL_law 260 = .ok (.aload_n 0, 1) := by decide +kernel
theorem dL_law_261 : decode cL_law 261 = .ok (.iload_n 3, 1) := by decide +kernel
theorem dL_law_262 : decode cL_law 262 = .ok (.iconst 1, 1) := by decide +kernel
theorem dL_law_263 : decode cL_law 263 = .ok (.iadd, 1) := by decide +kernel
theorem dL_law_264 : decode cL_law 264 = .ok (.iaload, 1) := by decide +kernel
theorem dL_law_265 : decode cL_law 265 = .ok (.invokevirtual 35, 3) := by decide +kernel
theorem dL_law_268 : decode cL_law 268 = .ok (.if_icmp .eq 446, 3) := by decide +kernel
theorem dL_law_271 : decode cL_law 271 = .ok (.iconst 0, 1) := by decide +kernel
theorem dL_law_272 : decode cL_law 272 = .ok (.ireturn, 1) := by decide +kernel
theorem dL_law_273 : decode cL_law 273 = .ok (.aload_n 1, 1) := by decide +kernel
theorem dL_law_274 : decode cL_law 274 = .ok (.invokevirtual 36, 3) := by decide +kernel
theorem dL_law_277 : decode cL_law 277 = .ok (.aload_n 2, 1) := by decide +kernel
theorem dL_law_278 : decode cL_law 278 = .ok (.invokevirtual 39, 3) := by decide +kernel
theorem dL_law_281 : decode cL_law 281 = .ok (.if_icmp .eq 433, 3) := by decide +kernel
theorem dL_law_284 : decode cL_law 284 = .ok (.iconst 0, 1) := by decide +kernel
theorem dL_law_285 : decode cL_law 285 = .ok (.ireturn, 1) := by decide +kernel
theorem dL_law_286 : decode cL_law 286 = .ok (.aload_n 1, 1) := by decide +kernel
theorem dL_law_287 : decode cL_law 287 = .ok (.aload_n 0, 1) := by decide +kernel
theorem dL_law_288 : decode cL_law 288 = .ok (.iload_n 3, 1) := by decide +kernel
theorem dL_law_289 : decode cL_law 289 = .ok (.iconst 1, 1) := by decide +kernel
theorem dL_law_290 : decode cL_law 290 = .ok (.iadd, 1) := by decide +kernel
theorem dL_law_291 : decode cL_law 291 = .ok (.iaload, 1) := by decide +kernel
theorem dL_law_292 : decode cL_law 292 = .ok (.invokevirtual 40, 3) := by decide +kernel
theorem dL_law_295 : decode cL_law 295 = .ok (.aload_n 2, 1) := by decide +kernel
theorem dL_law_296 : decode cL_law 296 = .ok (.aload_n 0, 1) := by decide +kernel
theorem dL_law_297 : decode cL_law 297 = .ok (.iload_n 3, 1) := by decide +kernel
theorem dL_law_298 : decode cL_law 298 = .ok (.iconst 1, 1) := by decide +kernel
theorem dL_law_299 : decode cL_law 299 = .ok (.iadd, 1) := by decide +kernel
theorem dL_law_300 : decode cL_law 300 = .ok (.iaload, 1) := by decide +kernel
theorem dL_law_301 : decode cL_law 301 = .ok (.invokevirtual 43, 3) := by decide +kernel
theorem dL_law_304 : decode cL_law 304 = .ok (.if_icmp .eq 410, 3) := by decide +kernel
theorem dL_law_307 : decode cL_law 307 = .ok (.iconst 0, 1) := by decide +kernel
theorem dL_law_308 : decode cL_law 308 = .ok (.ireturn, 1) := by decide +kernel
theorem dL_law_309 : decode cL_law 309 = .ok (.aload_n 1, 1) := by decide +kernel
theorem dL_law_310 : decode cL_law 310 = .ok (.aload_n 0, 1) := by decide +kernel
theorem dL_law_311 : decode cL_law 311 = .ok (.iload_n 3, 1) := by decide +kernel
theorem dL_law_312 : decode cL_law 312 = .ok (.iconst 1, 1) := by decide +kernel
theorem dL_law_313 : decode cL_law 313 = .ok (.iadd, 1) := by decide +kernel
theorem dL_law_314 : decode cL_law 314 = .ok (.iaload, 1) := by decide +kernel
theorem dL_law_315 : decode cL_law 315 = .ok (.aload_n 0, 1) := by decide +kernel
theorem dL_law_316 : decode cL_law 316 = .ok (.iload_n 3, 1) := by decide +kernel
theorem dL_law_317 : decode cL_law 317 = .ok (.iconst 2, 1) := by decide +kernel
theorem dL_law_318 : decode cL_law 318 = .ok (.iadd, 1) := by decide +kernel
theorem dL_law_319 : decode cL_law 319 = .ok (.iaload, 1) := by decide +kernel
theorem dL_law_320 : decode cL_law 320 = .ok (.invokevirtual 44, 3) := by decide +kernel
theorem dL_law_323 : decode cL_law 323 = .ok (.aload_n 2, 1) := by decide +kernel
theorem dL_law_324 : decode cL_law 324 = .ok (.aload_n 0, 1) := by decide +kernel
theorem dL_law_325 : decode cL_law 325 = .ok (.iload_n 3, 1) := by decide +kernel
theorem dL_law_326 : decode cL_law 326 = .ok (.iconst 1, 1) := by decide +kernel
theorem dL_law_327 : decode cL_law 327 = .ok (.iadd, 1) := by decide +kernel
theorem dL_law_328 : decode cL_law 328 = .ok (.iaload, 1) := by decide +kernel
theorem dL_law_329 : decode cL_law 329 = .ok (.aload_n 0, 1) := by decide +kernel
theorem dL_law_330 : decode cL_law 330 = .ok (.iload_n 3, 1) := by decide +kernel
theorem dL_law_331 : decode cL_law 331 = .ok (.iconst 2, 1) := by decide +kernel
theorem dL_law_332 : decode cL_law 332 = .ok (.iadd, 1) := by decide +kernel
theorem dL_law_333 : decode cL_law 333 = .ok (.iaload, 1) := by decide +kernel
theorem dL_law_334 : decode cL_law 334 = .ok (.invokevirtual 48, 3) := by decide +kernel
theorem dL_law_337 : decode cL_law 337 = .ok (.lcmp, 1) := by decide +kernel
theorem dL_law_338 : decode cL_law 338 = .ok (.ifCond .eq 376, 3) := by decide +kernel
theorem dL_law_341 : decode cL_law 341 = .ok (.iconst 0, 1) := by decide +kernel
theorem dL_law_342 : decode cL_law 342 = .ok (.ireturn, 1) := by decide +kernel
theorem dL_law_343 : decode cL_law 343 = .ok (.aload_n 1, 1) := by decide +kernel
theorem dL_law_344 : decode cL_law 344 = .ok (.aload_n 0, 1) := by decide +kernel
theorem dL_law_345 : decode cL_law 345 = .ok (.iload_n 3, 1) := by decide +kernel
theorem dL_law_346 : decode cL_law 346 = .ok (.iconst 1, 1) := by decide +kernel
theorem dL_law_347 : decode cL_law 347 = .ok (.iadd, 1) := by decide +kernel
theorem dL_law_348 : decode cL_law 348 = .ok (.iaload, 1) := by decide +kernel
theorem dL_law_349 : decode cL_law 349 = .ok (.aload_n 0, 1) := by decide +kernel
theorem dL_law_350 : decode cL_law 350 = .ok (.iload_n 3, 1) := by decide +kernel
theorem dL_law_351 : decode cL_law 351 = .ok (.iconst 2, 1) := by decide +kernel
theorem dL_law_352 : decode cL_law 352 = .ok (.iadd, 1) := by decide +kernel
theorem dL_law_353 : decode cL_law 353 = .ok (.iaload, 1) := by decide +kernel
theorem dL_law_354 : decode cL_law 354 = .ok (.invokevirtual 49, 3) := by decide +kernel
theorem dL_law_357 : decode cL_law 357 = .ok (.aload_n 2, 1) := by decide +kernel
theorem dL_law_358 : decode cL_law 358 = .ok (.aload_n 0, 1) := by decide +kernel
theorem dL_law_359 : decode cL_law 359 = .ok (.iload_n 3, 1) := by decide +kernel
theorem dL_law_360 : decode cL_law 360 = .ok (.iconst 1, 1) := by decide +kernel
theorem dL_law_361 : decode cL_law 361 = .ok (.iadd, 1) := by decide +kernel
theorem dL_law_362 : decode cL_law 362 = .ok (.iaload, 1) := by decide +kernel
theorem dL_law_363 : decode cL_law 363 = .ok (.aload_n 0, 1) := by decide +kernel
theorem dL_law_364 : decode cL_law 364 = .ok (.iload_n 3, 1) := by decide +kernel
theorem dL_law_365 : decode cL_law 365 = .ok (.iconst 2, 1) := by decide +kernel
theorem dL_law_366 : decode cL_law 366 = .ok (.iadd, 1) := by decide +kernel
theorem dL_law_367 : decode cL_law 367 = .ok (.iaload, 1) := by decide +kernel
theorem dL_law_368 : decode cL_law 368 = .ok (.invokevirtual 52, 3) := by decide +kernel
theorem dL_law_371 : decode cL_law 371 = .ok (.if_icmp .eq 343, 3) := by decide +kernel
theorem dL_law_374 : decode cL_law 374 = .ok (.iconst 0, 1) := by decide +kernel
theorem dL_law_375 : decode cL_law 375 = .ok (.ireturn, 1) := by decide +kernel
theorem dL_law_376 : decode cL_law 376 = .ok (.aload_n 1, 1) := by decide +kernel
theorem dL_law_377 : decode cL_law 377 = .ok (.aload_n 0, 1) := by decide +kernel
theorem dL_law_378 : decode cL_law 378 = .ok (.iload_n 3, 1) := by decide +kernel
theorem dL_law_379 : decode cL_law 379 = .ok (.iconst 1, 1) := by decide +kernel
theorem dL_law_380 : decode cL_law 380 = .ok (.iadd, 1) := by decide +kernel
theorem dL_law_381 : decode cL_law 381 = .ok (.iaload, 1) := by decide +kernel
theorem dL_law_382 : decode cL_law 382 = .ok (.aload_n 0, 1) := by decide +kernel
theorem dL_law_383 : decode cL_law 383 = .ok (.iload_n 3, 1) := by decide +kernel
theorem dL_law_384 : decode cL_law 384 = .ok (.iconst 2, 1) := by decide +kernel
theorem dL_law_385 : decode cL_law 385 = .ok (.iadd, 1) := by decide +kernel
theorem dL_law_386 : decode cL_law 386 = .ok (.iaload, 1) := by decide +kernel
theorem dL_law_387 : decode cL_law 387 = .ok (.invokevirtual 53, 3) := by decide +kernel
theorem dL_law_390 : decode cL_law 390 = .ok (.aload_n 2, 1) := by decide +kernel
theorem dL_law_391 : decode cL_law 391 = .ok (.aload_n 0, 1) := by decide +kernel
theorem dL_law_392 : decode cL_law 392 = .ok (.iload_n 3, 1) := by decide +kernel
theorem dL_law_393 : decode cL_law 393 = .ok (.iconst 1, 1) := by decide +kernel
theorem dL_law_394 : decode cL_law 394 = .ok (.iadd, 1) := by decide +kernel
theorem dL_law_395 : decode cL_law 395 = .ok (.iaload, 1) := by decide +kernel
theorem dL_law_396 : decode cL_law 396 = .ok (.aload_n 0, 1) := by decide +kernel
theorem dL_law_397 : decode cL_law 397 = .ok (.iload_n 3, 1) := by decide +kernel
theorem dL_law_398 : decode cL_law 398 = .ok (.iconst 2, 1) := by decide +kernel
theorem dL_law_399 : decode cL_law 399 = .ok (.iadd, 1) := by decide +kernel
theorem dL_law_400 : decode cL_law 400 = .ok (.iaload, 1) := by decide +kernel
theorem dL_law_401 : decode cL_law 401 = .ok (.invokevirtual 56, 3) := by decide +kernel
theorem dL_law_404 : decode cL_law 404 = .ok (.if_icmp .eq 310, 3) := by decide +kernel
theorem dL_law_407 : decode cL_law 407 = .ok (.iconst 0, 1) := by decide +kernel
theorem dL_law_408 : decode cL_law 408 = .ok (.ireturn, 1) := by decide +kernel
theorem dL_law_409 : decode cL_law 409 = .ok (.aload_n 1, 1) := by decide +kernel
theorem dL_law_410 : decode cL_law 410 = .ok (.invokevirtual 57, 3) := by decide +kernel
theorem dL_law_413 : decode cL_law 413 = .ok (.aload_n 2, 1) := by decide +kernel
theorem dL_law_414 : decode cL_law 414 = .ok (.invokevirtual 60, 3) := by decide +kernel
theorem dL_law_417 : decode cL_law 417 = .ok (.if_icmp .eq 297, 3) := by decide +kernel
theorem dL_law_420 : decode cL_law 420 = .ok (.iconst 0, 1) := by decide +kernel
theorem dL_law_421 : decode cL_law 421 = .ok (.ireturn, 1) := by decide +kernel
theorem dL_law_422 : decode cL_law 422 = .ok (.aload_n 1, 1) := by decide +kernel
theorem dL_law_423 : decode cL_law 423 = .ok (.aload_n 0, 1) := by decide +kernel
theorem dL_law_424 : decode cL_law 424 = .ok (.iload_n 3, 1) := by decide +kernel
theorem dL_law_425 : decode cL_law 425 = .ok (.iconst 1, 1) := by decide +kernel
theorem dL_law_426 : decode cL_law 426 = .ok (.iadd, 1) := by decide +kernel
theorem dL_law_427 : decode cL_law 427 = .ok (.iaload, 1) := by decide +kernel
theorem dL_law_428 : decode cL_law 428 = .ok (.invokevirtual 61, 3) := by decide +kernel
theorem dL_law_431 : decode cL_law 431 = .ok (.aload_n 2, 1) := by decide +kernel
theorem dL_law_432 : decode cL_law 432 = .ok (.aload_n 0, 1) := by decide +kernel
theorem dL_law_433 : decode cL_law 433 = .ok (.iload_n 3, 1) := by decide +kernel
theorem dL_law_434 : decode cL_law 434 = .ok (.iconst 1, 1) := by decide +kernel
theorem dL_law_435 : decode cL_law 435 = .ok (.iadd, 1) := by decide +kernel
theorem dL_law_436 : decode cL_law 436 = .ok (.iaload, 1) := by decide +kernel
theorem dL_law_437 : decode cL_law 437 = .ok (.invokevirtual 64, 3) := by decide +kernel
theorem dL_law_440 : decode cL_law 440 = .ok (.if_icmp .eq 274, 3) := by decide +kernel
theorem dL_law_443 : decode cL_law 443 = .ok (.iconst 0, 1) := by decide +kernel
theorem dL_law_444 : decode cL_law 444 = .ok (.ireturn, 1) := by decide +kernel
theorem dL_law_445 : decode cL_law 445 = .ok (.aload_n 1, 1) := by decide +kernel
theorem dL_law_446 : decode cL_law 446 = .ok (.aload_n 0, 1) := by decide +kernel
theorem dL_law_447 : decode cL_law 447 = .ok (.iload_n 3, 1) := by decide +kernel
theorem dL_law_448 : decode cL_law 448 = .ok (.iconst 1, 1) := by decide +kernel
theorem dL_law_449 : decode cL_law 449 = .ok (.iadd, 1) := by decide +kernel
theorem dL_law_450 : decode cL_law 450 = .ok (.iaload, 1) := by decide +kernel
theorem dL_law_451 : decode cL_law 451 = .ok (.invokevirtual 65, 3) := by decide +kernel
theorem dL_law_454 : decode cL_law 454 = .ok (.aload_n 2, 1) := by decide +kernel
theorem dL_law_455 : decode cL_law 455 = .ok (.aload_n 0, 1) := by decide +kernel
theorem dL_law_456 : decode cL_law 456 = .ok (.iload_n 3, 1) := by decide +kernel
theorem dL_law_457 : decode cL_law 457 = .ok (.iconst 1, 1) := by decide +kernel
theorem dL_law_458 : decode cL_law 458 = .ok (.iadd, 1) := by decide +kernel
theorem dL_law_459 : decode cL_law 459 = .ok (.iaload, 1) := by decide +kernel
theorem dL_law_460 : decode cL_law 460 = .ok (.invokevirtual 68, 3) := by decide +kernel
theorem dL_law_463 : decode cL_law 463 = .ok (.if_icmp .eq 251, 3) := by decide +kernel
theorem dL_law_466 : decode cL_law 466 = .ok (.iconst 0, 1) := by decide +kernel
theorem dL_law_467 : decode cL_law 467 = .ok (.ireturn, 1) := by decide +kernel
theorem dL_law_468 : decode cL_law 468 = .ok (.aload_n 1, 1) := by decide +kernel
theorem dL_law_469 : decode cL_law 469 = .ok (.invokevirtual 69, 3) := by decide +kernel
theorem dL_law_472 : decode cL_law 472 = .ok (.aload_n 2, 1) := by decide +kernel
theorem dL_law_473 : decode cL_law 473 = .ok (.invokevirtual 72, 3) := by decide +kernel
theorem dL_law_476 : decode cL_law 476 = .ok (.if_icmp .eq 238, 3) := by decide +kernel
theorem dL_law_479 : decode cL_law 479 = .ok (.iconst 0, 1) := by decide +kernel
theorem dL_law_480 : decode cL_law 480 = .ok (.ireturn, 1) := by decide +kernel
theorem dL_law_481 : decode cL_law 481 = .ok (.aload_n 1, 1) := by decide +kernel
theorem dL_law_482 : decode cL_law 482 = .ok (.invokevirtual 73, 3) := by decide +kernel
theorem dL_law_485 : decode cL_law 485 = .ok (.aload_n 2, 1) := by decide +kernel
theorem dL_law_486 : decode cL_law 486 = .ok (.invokevirtual 76, 3) := by decide +kernel
theorem dL_law_489 : decode cL_law 489 = .ok (.if_icmp .eq 225, 3) := by decide +kernel
theorem dL_law_492 : decode cL_law 492 = .ok (.iconst 0, 1) := by decide +kernel
theorem dL_law_493 : decode cL_law 493 = .ok (.ireturn, 1) := by decide +kernel
theorem dL_law_494 : decode cL_law 494 = .ok (.aload_n 1, 1) := by decide +kernel
theorem dL_law_495 : decode cL_law 495 = .ok (.aload_n 0, 1) := by decide +kernel
theorem dL_law_496 : decode cL_law 496 = .ok (.iload_n 3, 1) := by decide +kernel
theorem dL_law_497 : decode cL_law 497 = .ok (.iconst 1, 1) := by decide +kernel
theorem dL_law_498 : decode cL_law 498 = .ok (.iadd, 1) := by decide +kernel
theorem dL_law_499 : decode cL_law 499 = .ok (.iaload, 1) := by decide +kernel
theorem dL_law_500 : decode cL_law 500 = .ok (.invokevirtual 77, 3) := by decide +kernel
theorem dL_law_503 : decode cL_law 503 = .ok (.aload_n 2, 1) := by decide +kernel
theorem dL_law_504 : decode cL_law 504 = .ok (.aload_n 0, 1) := by decide +kernel
theorem dL_law_505 : decode cL_law 505 = .ok (.iload_n 3, 1) := by decide +kernel
theorem dL_law_506 : decode cL_law 506 = .ok (.iconst 1, 1) := by decide +kernel
theorem dL_law_507 : decode cL_law 507 = .ok (.iadd, 1) := by decide +kernel
theorem dL_law_508 : decode cL_law 508 = .ok (.iaload, 1) := by decide +kernel
theorem dL_law_509 : decode cL_law 509 = .ok (.invokevirtual 80, 3) := by decide +kernel
theorem dL_law_512 : decode cL_law 512 = .ok (.if_icmp .eq 202, 3) := by decide +kernel
theorem dL_law_515 : decode cL_law 515 = .ok (.iconst 0, 1) := by decide +kernel
theorem dL_law_516 : decode cL_law 516 = .ok (.ireturn, 1) := by decide +kernel
theorem dL_law_517 : decode cL_law 517 = .ok (.aload_n 1, 1) := by decide +kernel
theorem dL_law_518 : decode cL_law 518 = .ok (.aload_n 0, 1) := by decide +kernel
theorem dL_law_519 : decode cL_law 519 = .ok (.iload_n 3, 1) := by decide +kernel
theorem dL_law_520 : decode cL_law 520 = .ok (.iconst 1, 1) := by decide +kernel
theorem dL_law_521 : decode cL_law 521 = .ok (.iadd, 1) := by decide +kernel
theorem dL_law_522 : decode cL_law 522 = .ok (.iaload, 1) := by decide +kernel
theorem dL_law_523 : decode cL_law 523 = .ok (.invokevirtual 81, 3) := by decide +kernel
theorem dL_law_526 : decode cL_law 526 = .ok (.aload_n 2, 1) := by decide +kernel
theorem dL_law_527 : decode cL_law 527 = .ok (.aload_n 0, 1) := by decide +kernel
theorem dL_law_528 : decode cL_law 528 = .ok (.iload_n 3, 1) := by decide +kernel
theorem dL_law_529 : decode cL_law 529 = .ok (.iconst 1, 1) := by decide +kernel
theorem dL_law_530 : decode cL_law 530 = .ok (.iadd, 1) := by decide +kernel
theorem dL_law_531 : decode cL_law 531 = .ok (.iaload, 1) := by decide +kernel
theorem dL_law_532 : decode cL_law 532 = .ok (.invokevirtual 84, 3) := by decide +kernel
theorem dL_law_535 : decode cL_law 535 = .ok (.if_icmp .eq 179, 3) := by decide +kernel
theorem dL_law_538 : decode cL_law 538 = .ok (.iconst 0, 1) := by decide +kernel
theorem dL_law_539 : decode cL_law 539 = .ok (.ireturn, 1) := by decide +kernel
theorem dL_law_540 : decode cL_law 540 = .ok (.aload_n 1, 1) := by decide +kernel
theorem dL_law_541 : decode cL_law 541 = .ok (.aload_n 0, 1) := by decide +kernel
theorem dL_law_542 : decode cL_law 542 = .ok (.iload_n 3, 1) := by decide +kernel
theorem dL_law_543 : decode cL_law 543 = .ok (.iconst 1, 1) := by decide +kernel
theorem dL_law_544 : decode cL_law 544 = .ok (.iadd, 1) := by decide +kernel
theorem dL_law_545 : decode cL_law 545 = .ok (.iaload, 1) := by decide +kernel
theorem dL_law_546 : decode cL_law 546 = .ok (.aload_n 0, 1) := by decide +kernel
theorem dL_law_547 : decode cL_law 547 = .ok (.iload_n 3, 1) := by decide +kernel
theorem dL_law_548 : decode cL_law 548 = .ok (.iconst 2, 1) := by decide +kernel
theorem dL_law_549 : decode cL_law 549 = .ok (.iadd, 1) := by decide +kernel
theorem dL_law_550 : decode cL_law 550 = .ok (.iaload, 1) := by decide +kernel
theorem dL_law_551 : decode cL_law 551 = .ok (.aload_n 0, 1) := by decide +kernel
theorem dL_law_552 : decode cL_law 552 = .ok (.iload_n 3, 1) := by decide +kernel
theorem dL_law_553 : decode cL_law 553 = .ok (.iconst 3, 1) := by decide +kernel
theorem dL_law_554 : decode cL_law 554 = .ok (.iadd, 1) := by decide +kernel
theorem dL_law_555 : decode cL_law 555 = .ok (.iaload, 1) := by decide +kernel
theorem dL_law_556 : decode cL_law 556 = .ok (.invokevirtual 85, 3) := by decide +kernel
theorem dL_law_559 : decode cL_law 559 = .ok (.aload_n 2, 1) := by decide +kernel
theorem dL_law_560 : decode cL_law 560 = .ok (.aload_n 0, 1) := by decide +kernel
theorem dL_law_561 : decode cL_law 561 = .ok (.iload_n 3, 1) := by decide +kernel
theorem dL_law_562 : decode cL_law 562 = .ok (.iconst 1, 1) := by decide +kernel
theorem dL_law_563 : decode cL_law 563 = .ok (.iadd, 1) := by decide +kernel
theorem dL_law_564 : decode cL_law 564 = .ok (.iaload, 1) := by decide +kernel
theorem dL_law_565 : decode cL_law 565 = .ok (.aload_n 0, 1) := by decide +kernel
theorem dL_law_566 : decode cL_law 566 = .ok (.iload_n 3, 1) := by decide +kernel
theorem dL_law_567 : decode cL_law 567 = .ok (.iconst 2, 1) := by decide +kernel
theorem dL_law_568 : decode cL_law 568 = .ok (.iadd, 1) := by decide +kernel
theorem dL_law_569 : decode cL_law 569 = .ok (.iaload, 1) := by decide +kernel
theorem dL_law_570 : decode cL_law 570 = .ok (.aload_n 0, 1) := by decide +kernel
theorem dL_law_571 : decode cL_law 571 = .ok (.iload_n 3, 1) := by decide +kernel
theorem dL_law_572 : decode cL_law 572 = .ok (.iconst 3, 1) := by decide +kernel
theorem dL_law_573 : decode cL_law 573 = .ok (.iadd, 1) := by decide +kernel
theorem dL_law_574 : decode cL_law 574 = .ok (.iaload, 1) := by decide +kernel
theorem dL_law_575 : decode cL_law 575 = .ok (.invokevirtual 89, 3) := by decide +kernel
theorem dL_law_578 : decode cL_law 578 = .ok (.if_icmp .eq 136, 3) := by decide +kernel
theorem dL_law_581 : decode cL_law 581 = .ok (.iconst 0, 1) := by decide +kernel
theorem dL_law_582 : decode cL_law 582 = .ok (.ireturn, 1) := by decide +kernel
theorem dL_law_583 : decode cL_law 583 = .ok (.aload_n 1, 1) := by decide +kernel
theorem dL_law_584 : decode cL_law 584 = .ok (.aload_n 0, 1) := by decide +kernel
theorem dL_law_585 : decode cL_law 585 = .ok (.iload_n 3, 1) := by decide +kernel
theorem dL_law_586 : decode cL_law 586 = .ok (.iconst 1, 1) := by decide +kernel
theorem dL_law_587 : decode cL_law 587 = .ok (.iadd, 1) := by decide +kernel
theorem dL_law_588 : decode cL_law 588 = .ok (.iaload, 1) := by decide +kernel
theorem dL_law_589 : decode cL_law 589 = .ok (.invokevirtual 90, 3) := by decide +kernel
theorem dL_law_592 : decode cL_law 592 = .ok (.aload_n 2, 1) := by decide +kernel
theorem dL_law_593 : decode cL_law 593 = .ok (.aload_n 0, 1) := by decide +kernel
theorem dL_law_594 : decode cL_law 594 = .ok (.iload_n 3, 1) := by decide +kernel
theorem dL_law_595 : decode cL_law 595 = .ok (.iconst 1, 1) := by decide +kernel
theorem dL_law_596 : decode cL_law 596 = .ok (.iadd, 1) := by decide +kernel
theorem dL_law_597 : decode cL_law 597 = .ok (.iaload, 1) := by decide +kernel
theorem dL_law_598 : decode cL_law 598 = .ok (.invokevirtual 93, 3) := by decide +kernel
theorem dL_law_601 : decode cL_law 601 = .ok (.if_icmp .eq 113, 3) := by decide +kernel
theorem dL_law_604 : decode cL_law 604 = .ok (.iconst 0, 1) := by decide +kernel
theorem dL_law_605 : decode cL_law 605 = .ok (.ireturn, 1) := by decide +kernel
theorem dL_law_606 : decode cL_law 606 = .ok (.aload_n 1, 1) := by decide +kernel
theorem dL_law_607 : decode cL_law 607 = .ok (.invokevirtual 94, 3) := by decide +kernel
theorem dL_law_610 : decode cL_law 610 = .ok (.aload_n 2, 1) := by decide +kernel
theorem dL_law_611 : decode cL_law 611 = .ok (.invokevirtual 97, 3) := by decide +kernel
theorem dL_law_614 : decode cL_law 614 = .ok (.if_icmp .eq 100, 3) := by decide +kernel
theorem dL_law_617 : decode cL_law 617 = .ok (.iconst 0, 1) := by decide +kernel
theorem dL_law_618 : decode cL_law 618 = .ok (.ireturn, 1) := by decide +kernel
theorem dL_law_619 : decode cL_law 619 = .ok (.aload_n 1, 1) := by decide +kernel
theorem dL_law_620 : decode cL_law 620 = .ok (.aload_n 0, 1) := by decide +kernel
theorem dL_law_621 : decode cL_law 621 = .ok (.iload_n 3, 1) := by decide +kernel
theorem dL_law_622 : decode cL_law 622 = .ok (.iconst 1, 1) := by decide +kernel
theorem dL_law_623 : decode cL_law 623 = .ok (.iadd, 1) := by decide +kernel
theorem dL_law_624 : decode cL_law 624 = .ok (.iaload, 1) := by decide +kernel
theorem dL_law_625 : decode cL_law 625 = .ok (.aload_n 0, 1) := by decide +kernel
theorem dL_law_626 : decode cL_law 626 = .ok (.iload_n 3, 1) := by decide +kernel
theorem dL_law_627 : decode cL_law 627 = .ok (.iconst 2, 1) := by decide +kernel
theorem dL_law_628 : decode cL_law 628 = .ok (.iadd, 1) := by decide +kernel
theorem dL_law_629 : decode cL_law 629 = .ok (.iaload, 1) := by decide +kernel
theorem dL_law_630 : decode cL_law 630 = .ok (.invokevirtual 98, 3) := by decide +kernel
theorem dL_law_633 : decode cL_law 633 = .ok (.aload_n 2, 1) := by decide +kernel
theorem dL_law_634 : decode cL_law 634 = .ok (.aload_n 0, 1) := by decide +kernel
theorem dL_law_635 : decode cL_law 635 = .ok (.iload_n 3, 1) := by decide +kernel
theorem dL_law_636 : decode cL_law 636 = .ok (.iconst 1, 1) := by decide +kernel
theorem dL_law_637 : decode cL_law 637 = .ok (.iadd, 1) := by decide +kernel
theorem dL_law_638 : decode cL_law 638 = .ok (.iaload, 1) := by decide +kernel
theorem dL_law_639 : decode cL_law 639 = .ok (.aload_n 0, 1) := by decide +kernel
theorem dL_law_640 : decode cL_law 640 = .ok (.iload_n 3, 1) := by decide +kernel
theorem dL_law_641 : decode cL_law 641 = .ok (.iconst 2, 1) := by decide +kernel
theorem dL_law_642 : decode cL_law 642 = .ok (.iadd, 1) := by decide +kernel
theorem dL_law_643 : decode cL_law 643 = .ok (.iaload, 1) := by decide +kernel
theorem dL_law_644 : decode cL_law 644 = .ok (.invokevirtual 101, 3) := by decide +kernel
theorem dL_law_647 : decode cL_law 647 = .ok (.if_icmp .eq 67, 3) := by decide +kernel
theorem dL_law_650 : decode cL_law 650 = .ok (.iconst 0, 1) := by decide +kernel
theorem dL_law_651 : decode cL_law 651 = .ok (.ireturn, 1) := by decide +kernel
theorem dL_law_652 : decode cL_law 652 = .ok (.aload_n 1, 1) := by decide +kernel
theorem dL_law_653 : decode cL_law 653 = .ok (.invokevirtual 102, 3) := by decide +kernel
theorem dL_law_656 : decode cL_law 656 = .ok (.aload_n 2, 1) := by decide +kernel
theorem dL_law_657 : decode cL_law 657 = .ok (.invokevirtual 105, 3) := by decide +kernel
theorem dL_law_660 : decode cL_law 660 = .ok (.if_icmp .eq 54, 3) := by decide +kernel
theorem dL_law_663 : decode cL_law 663 = .ok (.iconst 0, 1) := by decide +kernel
theorem dL_law_664 : decode cL_law 664 = .ok (.ireturn, 1) := by decide +kernel
theorem dL_law_665 : decode cL_law 665 = .ok (.aload_n 1, 1) := by decide +kernel
theorem dL_law_666 : decode cL_law 666 = .ok (.invokevirtual 106, 3) := by decide +kernel
theorem dL_law_669 : decode cL_law 669 = .ok (.aload_n 2, 1) := by decide +kernel
theorem dL_law_670 : decode cL_law 670 = .ok (.invokevirtual 109, 3) := by decide +kernel
theorem dL_law_673 : decode cL_law 673 = .ok (.if_icmp .eq 41, 3) := by decide +kernel
theorem dL_law_676 : decode cL_law 676 = .ok (.iconst 0, 1) := by decide +kernel
theorem dL_law_677 : decode cL_law 677 = .ok (.ireturn, 1) := by decide +kernel
theorem dL_law_678 : decode cL_law 678 = .ok (.aload_n 1, 1) := by decide +kernel
theorem dL_law_679 : decode cL_law 679 = .ok (.invokevirtual 110, 3) := by decide +kernel
theorem dL_law_682 : decode cL_law 682 = .ok (.aload_n 2, 1) := by decide +kernel
theorem dL_law_683 : decode cL_law 683 = .ok (.invokevirtual 113, 3) := by decide +kernel
theorem dL_law_686 : decode cL_law 686 = .ok (.if_icmp .eq 28, 3) := by decide +kernel
theorem dL_law_689 : decode cL_law 689 = .ok (.iconst 0, 1) := by decide +kernel
theorem dL_law_690 : decode cL_law 690 = .ok (.ireturn, 1) := by decide +kernel
theorem dL_law_691 : decode cL_law 691 = .ok (.aload_n 1, 1) := by decide +kernel
theorem dL_law_692 : decode cL_law 692 = .ok (.aload_n 0, 1) := by decide +kernel
theorem dL_law_693 : decode cL_law 693 = .ok (.iload_n 3, 1) := by decide +kernel
theorem dL_law_694 : decode cL_law 694 = .ok (.iconst 1, 1) := by decide +kernel
theorem dL_law_695 : decode cL_law 695 = .ok (.iadd, 1) := by decide +kernel
theorem dL_law_696 : decode cL_law 696 = .ok (.iaload, 1) := by decide +kernel
theorem dL_law_697 : decode cL_law 697 = .ok (.invokevirtual 114, 3) := by decide +kernel
theorem dL_law_700 : decode cL_law 700 = .ok (.aload_n 2, 1) := by decide +kernel
theorem dL_law_701 : decode cL_law 701 = .ok (.aload_n 0, 1) := by decide +kernel
theorem dL_law_702 : decode cL_law 702 = .ok (.iload_n 3, 1) := by decide +kernel
theorem dL_law_703 : decode cL_law 703 = .ok (.iconst 1, 1) := by decide +kernel
theorem dL_law_704 : decode cL_law 704 = .ok (.iadd, 1) := by decide +kernel
theorem dL_law_705 : decode cL_law 705 = .ok (.iaload, 1) := by decide +kernel
theorem dL_law_706 : decode cL_law 706 = .ok (.invokevirtual 117, 3) := by decide +kernel
theorem dL_law_709 : decode cL_law 709 = .ok (.if_icmp .eq 5, 3) := by decide +kernel
theorem dL_law_712 : decode cL_law 712 = .ok (.iconst 0, 1) := by decide +kernel
theorem dL_law_713 : decode cL_law 713 = .ok (.ireturn, 1) := by decide +kernel
theorem dL_law_714 : decode cL_law 714 = .ok (.iinc 3 4, 3) := by decide +kernel
theorem dL_law_717 : decode cL_law 717 = .ok (.goto (-699), 3) := by decide +kernel
theorem dL_law_720 : decode cL_law 720 = .ok (.iconst 1, 1) := by decide +kernel
theorem dL_law_721 : decode cL_law 721 = .ok (.ireturn, 1) := by decide +kernel
end
section
/-! ===== the yard, in plain words: V 0 holds nests, last (-1 none), looked, before, day, found, kind, figure, time, rat; V 1 .. 4 xs, ys, minutes, likings; V 5 eggs by nest and age ===== -/
abbrev zz_W : Type := Nat → Int → Int
def ux (V : zz_W) (a : Nat) (z x : Int) : zz_W := fun a' z' => if a' = a ∧ z' = z then x else V a' z'
def smI (f : Int → Int) : Nat → Int
  | 0 => 0
  | n + 1 => smI f n + f (n : Int)
theorem smI_succ (f : Int → Int) (n : Nat) : smI f (n + 1) = smI f n + f (n : Int) := rfl
theorem smI_bd {f : Int → Int} {c : Int} : ∀ (n : Nat), (∀ i : Int, 0 ≤ i → i < n → 0 ≤ f i ∧ f i ≤ c) → 0 ≤ smI f n ∧ smI f n ≤ c * n
  | 0, _ => ⟨Int.le_refl _, by simp [smI]⟩
  | n + 1, h => by
    have h1 := smI_bd n (fun i h0 h1 => h i h0 (by omega))
    have h2 := h n (by omega) (by omega)
    have e : c * ((n + 1 : Nat) : Int) = c * n + c := by rw [Int.natCast_add, Int.mul_add]; simp
    rw [e]
    show 0 ≤ smI f n + f n ∧ smI f n + f n ≤ _
    omega
theorem smI_congr {f g : Int → Int} : ∀ (n : Nat), (∀ i : Int, 0 ≤ i → i < n → f i = g i) → smI f n = smI g n
  | 0, _ => rfl
  | n + 1, h => by
    show smI f n + f n = smI g n + g n
    rw [smI_congr n (fun i h0 h1 => h i h0 (by omega)), h n (by omega) (by omega)]
def bt (s n : Int) : Int := ian (isr s n) 1
def alln (n : Int) : Int := isl 1 n - 1
def eggs (V : zz_W) (n : Int) : Int := smI (fun a => V 5 (10 * n + a)) 10
def alle (V : zz_W) : Int := smI (eggs V) (V 0 0).toNat
def mins (V : zz_W) (s : Int) : Int := smI (fun n => if bt s n = 1 then V 3 n else 0) (V 0 0).toNat
def may (V : zz_W) (p : Int) : Int := if ian p (ixr (V 0 2) (-1)) = 0 then p else ian p (ixr (V 0 2) (-1))
def zabs (x : Int) : Int := if 0 ≤ x then x else -x
def lfrom (V : zz_W) : Int := if V 0 1 < 0 then 0 else V 0 1
def near (V : zz_W) (n : Int) : Int := 20 - zabs (V 1 n - V 1 (lfrom V)) - zabs (V 2 n - V 2 (lfrom V))
def away (V : zz_W) (n : Int) : Int := if n = V 0 1 then 0 else near V n
def raw (V : zz_W) (n : Int) : Int :=
  if V 0 6 = 1 then V 4 n else if V 0 6 = 2 then 1 else if V 0 6 = 3 then away V n else
  if V 0 6 = 4 then away V n + V 0 7 * (if 0 < 9 - eggs V n then 9 - eggs V n else 0) else
  if V 0 6 = 5 then V 4 n + (if n = V 0 7 then 10 else 0) else near V n
def wsum (V : zz_W) (y : Int) : Int := smI (fun n => if bt y n = 1 then raw V n else 0) (V 0 0).toNat
def wt (V : zz_W) (y n : Int) : Int := if wsum V y = 0 then bt y n else if bt y n = 1 then raw V n else 0
def wtot (V : zz_W) (y : Int) : Int := if wsum V y = 0 then smI (bt y) (V 0 0).toNat else wsum V y
/-- where a weight is greatest, of several the least number, and that weight -/
def amx (f : Int → Int) : Nat → Int × Int
  | 0 => (-1, 0)
  | n + 1 => if (amx f n).2 < f n then ((n : Int), f n) else amx f n
/-- the k-th (from 0) of the nests of a set, from i on -/
def nth (y : Int) : Nat → Int → Int → Int
  | 0, _, _ => -1
  | n + 1, i, k => if bt y i = 1 then (if k = 0 then i else nth y n (i + 1) (k - 1)) else nth y n (i + 1) k
def lays (V : zz_W) (p : Int) : Int :=
  if V 0 6 = 2 then (if smI (bt (may V p)) (V 0 0).toNat = 0 then -1 else nth (may V p) (V 0 0).toNat 0 (irm (V 0 4 * (V 0 7 + 1)) (smI (bt (may V p)) (V 0 0).toNat)))
  else (amx (wt V (may V p)) (V 0 0).toNat).1
def pass (V : zz_W) (w : Int) : zz_W := fun a z =>
  if a = 5 then (if 0 ≤ z ∧ z < 10 * V 0 0 then (if z % 10 = 0 then (if z = 10 * w then 1 else 0) else if z % 10 < V 0 9 then V 5 (z - 1) else 0) else V 5 z)
  else if a = 0 then (if z = 1 then w else if z = 2 then 0 else if z = 3 then V 0 2 else if z = 4 then V 0 4 + 1 else V 0 z)
  else V a z
def tkn (V : zz_W) (s : Int) : Int := smI (fun n => if bt s n = 1 then eggs V n else 0) (V 0 0).toNat
def tak (V : zz_W) (s : Int) : zz_W := fun a z =>
  if a = 5 then (if 0 ≤ z ∧ z < 10 * V 0 0 ∧ bt s (z / 10) = 1 then 0 else V 5 z)
  else if a = 0 ∧ z = 2 then ior (V 0 2) s else V a z
/-- what holds of every yard -/
def Iv (D : Int) (V : zz_W) : Prop :=
  (0 ≤ V 0 0 ∧ V 0 0 ≤ 6) ∧ (-1 ≤ V 0 1 ∧ V 0 1 < V 0 0 ∨ V 0 1 = -1) ∧ (0 ≤ V 0 2 ∧ V 0 2 < 64) ∧ (0 ≤ V 0 4 ∧ V 0 4 ≤ D) ∧ (0 ≤ V 0 6 ∧ V 0 6 ≤ 5) ∧ (0 ≤ V 0 7 ∧ V 0 7 ≤ 9) ∧ (0 ≤ V 0 8 ∧ V 0 8 ≤ 40) ∧ (1 ≤ V 0 9 ∧ V 0 9 ≤ 9) ∧
  (∀ z, 0 ≤ z → z < 6 → (0 ≤ V 1 z ∧ V 1 z ≤ 9) ∧ (0 ≤ V 2 z ∧ V 2 z ≤ 9) ∧ (0 ≤ V 3 z ∧ V 3 z ≤ 9) ∧ (0 ≤ V 4 z ∧ V 4 z ≤ 9)) ∧
  (∀ z, 0 ≤ z → z < 60 → 0 ≤ V 5 z ∧ V 5 z ≤ 9) ∧ (∀ z, 10 * V 0 0 ≤ z → z < 60 → V 5 z = 0)
def lc (z : Int) : Int := if z < 0 then -9 else z
/-- the places of a yard's cells -/
def YB (b : Nat) : Prop := (kd b = (4, 13) ∧ kd (b + 1) = (0, 6) ∧ kd (b + 2) = (0, 6) ∧ kd (b + 3) = (0, 6) ∧ kd (b + 4) = (0, 6) ∧ kd (b + 5) = (0, 60) ∧ kd (b + 6) = (0, 4) ∧ kd (b + 7) = (0, 6)) ∧ b < 48
theorem yb_k {b : Nat} (h : YB b) : kd b = (4, 13) := h.1.1
theorem yb_a0 {b : Nat} (h : YB b) : kd (b + 1) = (0, 6) := h.1.2.1
theorem yb_a1 {b : Nat} (h : YB b) : kd (b + 2) = (0, 6) := h.1.2.2.1
theorem yb_a2 {b : Nat} (h : YB b) : kd (b + 3) = (0, 6) := h.1.2.2.2.1
theorem yb_a3 {b : Nat} (h : YB b) : kd (b + 4) = (0, 6) := h.1.2.2.2.2.1
theorem yb_a4 {b : Nat} (h : YB b) : kd (b + 5) = (0, 60) := h.1.2.2.2.2.2.1
theorem yb_a5 {b : Nat} (h : YB b) : kd (b + 6) = (0, 4) := h.1.2.2.2.2.2.2.1
theorem yb_a6 {b : Nat} (h : YB b) : kd (b + 7) = (0, 6) := h.1.2.2.2.2.2.2.2
theorem yb_pt {b : Nat} (h : YB b) (k : Nat) : pt b k = b + 1 + k := by
  unfold pt
  rw [if_pos (by have := h.2; omega)]
theorem yb_p0 {b : Nat} (h : YB b) : pt b 0 = b + 1 := yb_pt h 0
theorem yb_p1 {b : Nat} (h : YB b) : pt b 1 = b + 2 := yb_pt h 1
theorem yb_p2 {b : Nat} (h : YB b) : pt b 2 = b + 3 := yb_pt h 2
theorem yb_p3 {b : Nat} (h : YB b) : pt b 3 = b + 4 := yb_pt h 3
theorem yb_p4 {b : Nat} (h : YB b) : pt b 4 = b + 5 := yb_pt h 4
theorem yb_p5 {b : Nat} (h : YB b) : pt b 5 = b + 6 := yb_pt h 5
theorem yb_p6 {b : Nat} (h : YB b) : pt b 6 = b + 7 := yb_pt h 6
theorem yb_0 : YB 0 := ⟨⟨rfl, rfl, rfl, rfl, rfl, rfl, rfl, rfl⟩, by decide⟩
theorem yb_8 : YB 8 := ⟨⟨rfl, rfl, rfl, rfl, rfl, rfl, rfl, rfl⟩, by decide⟩
theorem yb_16 : YB 16 := ⟨⟨rfl, rfl, rfl, rfl, rfl, rfl, rfl, rfl⟩, by decide⟩
theorem yb_24 : YB 24 := ⟨⟨rfl, rfl, rfl, rfl, rfl, rfl, rfl, rfl⟩, by decide⟩
theorem yb_32 : YB 32 := ⟨⟨rfl, rfl, rfl, rfl, rfl, rfl, rfl, rfl⟩, by decide⟩
theorem yb_40 : YB 40 := ⟨⟨rfl, rfl, rfl, rfl, rfl, rfl, rfl, rfl⟩, by decide⟩
/-- a yard at b holds V -/
def YP (m : zz_M) (b : Nat) (V : zz_W) : Prop :=
  (m b 7 = V 0 0 ∧ m b 8 = lc (V 0 1) ∧ m b 9 = V 0 2 ∧ m b 10 = V 0 3 ∧ m b 11 = V 0 4 ∧ m b 12 = V 0 5) ∧ (∀ z : Int, 0 ≤ z → z < 4 → m (b + 6) z.toNat = V 0 (6 + z)) ∧
  (∀ z : Int, 0 ≤ z → z < 6 → m (b + 1) z.toNat = V 1 z ∧ m (b + 2) z.toNat = V 2 z ∧ m (b + 3) z.toNat = V 3 z ∧ m (b + 4) z.toNat = V 4 z) ∧ (∀ z : Int, 0 ≤ z → z < 60 → m (b + 5) z.toNat = V 5 z)
/-- what lies outside [lo, hi) stays -/
def Fr (lo hi : Nat) (m m' : zz_M) : Prop := ∀ k, (k < lo ∨ hi ≤ k) → m' k = m k
theorem Fr.rf {lo hi : Nat} {m : zz_M} : Fr lo hi m m := fun _ _ => rfl
theorem Fr.tr {lo hi : Nat} {m m' m'' : zz_M} (h : Fr lo hi m m') (h' : Fr lo hi m' m'') : Fr lo hi m m'' := fun k hk => (h' k hk).trans (h k hk)
theorem Fr.up {lo hi : Nat} {m m' : zz_M} (h : Fr lo hi m m') {k j : Nat} {v : Int} (h1 : lo ≤ k) (h2 : k < hi) : Fr lo hi m (up m' k j v) := fun q hq => by
  rw [up_cell (by omega)]
  exact h q hq
theorem Fr.wd {lo hi lo' hi' : Nat} {m m' : zz_M} (h : Fr lo hi m m') (h1 : lo' ≤ lo) (h2 : hi ≤ hi') : Fr lo' hi' m m' := fun k hk => h k (by omega)
theorem YP.kept {m m' : zz_M} {b : Nat} {V : zz_W} (h : YP m b V) (hf : ∀ k, b ≤ k → k < b + 7 → m' k = m k) : YP m' b V := by
  unfold YP at h ⊢
  rw [hf b (by omega) (by omega), hf (b + 1) (by omega) (by omega), hf (b + 2) (by omega) (by omega), hf (b + 3) (by omega) (by omega), hf (b + 4) (by omega) (by omega), hf (b + 5) (by omega) (by omega), hf (b + 6) (by omega) (by omega)]
  exact h
theorem YP.fr {m m' : zz_M} {b lo hi : Nat} {V : zz_W} (h : YP m b V) (hf : Fr lo hi m m') (hd : b + 7 ≤ lo ∨ hi ≤ b) : YP m' b V := h.kept (fun k h1 h2 => hf k (by omega))
theorem YP.w {m : zz_M} {b j : Nat} {V : zz_W} {v : Int} (h : YP m b V) : YP (up m (b + 7) j v) b V := h.kept (fun k h1 h2 => up_cell (by omega))
theorem YP.nests {m : zz_M} {b : Nat} {V : zz_W} (h : YP m b V) : m b 7 = V 0 0 := h.1.1
theorem YP.last {m : zz_M} {b : Nat} {V : zz_W} (h : YP m b V) : m b 8 = lc (V 0 1) := h.1.2.1
theorem YP.looked {m : zz_M} {b : Nat} {V : zz_W} (h : YP m b V) : m b 9 = V 0 2 := h.1.2.2.1
theorem YP.before {m : zz_M} {b : Nat} {V : zz_W} (h : YP m b V) : m b 10 = V 0 3 := h.1.2.2.2.1
theorem YP.day {m : zz_M} {b : Nat} {V : zz_W} (h : YP m b V) : m b 11 = V 0 4 := h.1.2.2.2.2.1
theorem YP.found {m : zz_M} {b : Nat} {V : zz_W} (h : YP m b V) : m b 12 = V 0 5 := h.1.2.2.2.2.2
theorem YP.kind {m : zz_M} {b : Nat} {V : zz_W} (h : YP m b V) : m (b + 6) (0 : Int).toNat = V 0 6 := h.2.1 0 (by decide) (by decide)
theorem YP.figure {m : zz_M} {b : Nat} {V : zz_W} (h : YP m b V) : m (b + 6) (1 : Int).toNat = V 0 7 := h.2.1 1 (by decide) (by decide)
theorem YP.time {m : zz_M} {b : Nat} {V : zz_W} (h : YP m b V) : m (b + 6) (2 : Int).toNat = V 0 8 := h.2.1 2 (by decide) (by decide)
theorem YP.rat {m : zz_M} {b : Nat} {V : zz_W} (h : YP m b V) : m (b + 6) (3 : Int).toNat = V 0 9 := h.2.1 3 (by decide) (by decide)
theorem YP.x {m : zz_M} {b : Nat} {V : zz_W} (h : YP m b V) {z : Int} (h0 : 0 ≤ z) (h1 : z < 6) : m (b + 1) z.toNat = V 1 z := (h.2.2.1 z h0 h1).1
theorem YP.y {m : zz_M} {b : Nat} {V : zz_W} (h : YP m b V) {z : Int} (h0 : 0 ≤ z) (h1 : z < 6) : m (b + 2) z.toNat = V 2 z := (h.2.2.1 z h0 h1).2.1
theorem YP.min {m : zz_M} {b : Nat} {V : zz_W} (h : YP m b V) {z : Int} (h0 : 0 ≤ z) (h1 : z < 6) : m (b + 3) z.toNat = V 3 z := (h.2.2.1 z h0 h1).2.2.1
theorem YP.lik {m : zz_M} {b : Nat} {V : zz_W} (h : YP m b V) {z : Int} (h0 : 0 ≤ z) (h1 : z < 6) : m (b + 4) z.toNat = V 4 z := (h.2.2.1 z h0 h1).2.2.2
theorem YP.egg {m : zz_M} {b : Nat} {V : zz_W} (h : YP m b V) {z : Int} (h0 : 0 ≤ z) (h1 : z < 60) : m (b + 5) z.toNat = V 5 z := h.2.2.2 z h0 h1
/-- a method that answers r and leaves m' -/
abbrev ans (r : Option zz_V) (m' : zz_M) : Option zz_V → zz_M → Prop := fun r1 m1 => r1 = r ∧ m1 = m'
theorem eggs_bd {V : zz_W} (hE : ∀ z, 0 ≤ z → z < 60 → 0 ≤ V 5 z ∧ V 5 z ≤ 9) {n : Int} (h0 : 0 ≤ n) (h1 : n < 6) (j : Nat) (hj : j ≤ 10) : 0 ≤ smI (fun a => V 5 (10 * n + a)) j ∧ smI (fun a => V 5 (10 * n + a)) j ≤ 90 := by
  have := smI_bd (f := fun a => V 5 (10 * n + a)) (c := 9) j (fun i h2 h3 => hE _ (by omega) (by omega))
  omega
end
section
/-! ===== the yard's methods ===== -/
section YM1
variable {E : zz_E} {m : zz_M} {b : Nat} {V : zz_W} {D : Int}
theorem s_allNests (hb : YB b) (hY : YP m b V) (hI : Iv D V) : Mt E 1 yX2_allNests cX2_allNests 1 (some .int) [zr b] m (ans (some (zi (alln (V 0 0)))) m) := by
  have hn := hI.1
  refine Mt.of 0 (by decide +kernel) (Nat.le_of_ble_eq_true rfl) (Or.inl rfl) ?_ ?_
  · rintro r m' ⟨rfl, rfl⟩; simp
  show Ex E cX2_allNests 1 RX2 1 _ 0 [some (zr b)] [] m
  have hq : ∀ n : Int, 0 ≤ n → n ≤ 6 → -2147483648 ≤ isl 1 n - 1 ∧ isl 1 n - 1 ≤ 2147483647 := by
    intro n h0 h1
    have : n = 0 ∨ n = 1 ∨ n = 2 ∨ n = 3 ∨ n = 4 ∨ n = 5 ∨ n = 6 := by omega
    rcases this with rfl | rfl | rfl | rfl | rfl | rfl | rfl <;> decide
  have := hq _ hn.1 hn.2
  refine x_iconst dX2_allNests_0 ⟨by decide, by decide⟩ ?_
  refine x_aload0 dX2_allNests_1 ?_
  refine x_getI dX2_allNests_2 fd_X2_43 (by first | rfl | exact yb_k (by assumption)) (Or.inl rfl) hY.nests ?_
  refine x_ishl dX2_allNests_5 rfl ?_
  refine x_iconst dX2_allNests_6 ⟨by decide, by decide⟩ ?_
  refine x_isub dX2_allNests_7 (nrm_id (by omega) (by omega)) ?_
  exact xe_i dX2_allNests_8 (⟨rfl, rfl⟩)
theorem s_eggsAt (hb : YB b) (hY : YP m b V) (hE : ∀ z, 0 ≤ z → z < 60 → 0 ≤ V 5 z ∧ V 5 z ≤ 9) {n : Int} (h0 : 0 ≤ n) (h1 : n < 6) : Mt E 1 yX2_eggsAt cX2_eggsAt 5 (some .int) [zr b, zi n] m (ans (some (zi (eggs V n))) m) := by
  refine Mt.of 3 (by decide +kernel) (Nat.le_of_ble_eq_true rfl) (Or.inl rfl) ?_ ?_
  · rintro r m' ⟨rfl, rfl⟩; simp
  show Ex E cX2_eggsAt 5 RX2 1 _ 0 [some (zr b), some (zi n), none, none, none] [] m
  have loop : ∀ (k j : Nat), j + k = 10 → Ex E cX2_eggsAt 5 RX2 1 (ans (some (zi (eggs V n))) m) 15 [some (zr b), some (zi n), some (zi (smI (fun a => V 5 (10 * n + a)) j)), some (zi ((n + 1) * 10)), some (zi (n * 10 + j))] [] m := by
    intro k
    induction k with
    | zero =>
      intro j hj
      refine x_iload4 dX2_eggsAt_15 ?_
      refine x_iload3 dX2_eggsAt_17 ?_
      refine x_icmp_ge (tgt := 37) dX2_eggsAt_18 rfl (fun hc => ?_) (fun hc => ?_)
      · refine x_iload2 dX2_eggsAt_37 ?_
        obtain rfl : j = 10 := by omega
        exact xe_i dX2_eggsAt_38 (⟨rfl, rfl⟩)
      · omega
    | succ k ih =>
      intro j hj
      refine x_iload4 dX2_eggsAt_15 ?_
      refine x_iload3 dX2_eggsAt_17 ?_
      refine x_icmp_ge (tgt := 37) dX2_eggsAt_18 rfl (fun hc => ?_) (fun hc => ?_)
      · omega
      · have hb1 := eggs_bd hE h0 h1 j (by omega)
        have hb2 := hE (10 * n + j) (by omega) (by omega)
        have e1 : n * 10 + (j : Int) = 10 * n + j := by omega
        refine x_iload2 dX2_eggsAt_21 ?_
        refine x_aload0 dX2_eggsAt_22 ?_
        refine x_getR (q := b + 5) dX2_eggsAt_23 fd_X2_24 (by first | rfl | exact yb_k (by assumption)) rfl (yb_p4 (by assumption)) ?_
        refine x_iload4 dX2_eggsAt_26 ?_
        refine x_iald dX2_eggsAt_28 (yb_a4 (by assumption)) (by omega) (by omega) (v := V 5 (10 * n + j)) (by rw [e1]; exact hY.egg (by omega) (by omega)) ?_
        refine x_iadd dX2_eggsAt_29 (nrm_id (by omega) (by omega)) ?_
        refine x_istore2 dX2_eggsAt_30 (by decide) rfl ?_
        refine x_iinc4 dX2_eggsAt_31 (by decide) rfl (nrm_id (by omega) (by omega)) ?_
        refine x_goto (tgt := 15) dX2_eggsAt_34 rfl ?_
        exact Ex.eq (by simp only [List.cons.injEq, Option.some.injEq, Sum.inl.injEq, and_true, true_and, smI_succ]; (try and_intros) <;> (try push_cast) <;> omega) rfl rfl (ih (j + 1) (by omega))
  refine x_iconst dX2_eggsAt_0 ⟨by decide, by decide⟩ ?_
  refine x_istore2 dX2_eggsAt_1 (by decide) rfl ?_
  refine x_iload1 dX2_eggsAt_2 ?_
  refine x_iconst dX2_eggsAt_3 ⟨by decide, by decide⟩ ?_
  refine x_iadd dX2_eggsAt_4 (nrm_id (by omega) (by omega)) ?_
  refine x_bipush dX2_eggsAt_5 ⟨by decide, by decide⟩ ?_
  refine x_imul dX2_eggsAt_7 (nrm_id (by omega) (by omega)) ?_
  refine x_istore3 dX2_eggsAt_8 (by decide) rfl ?_
  refine x_iload1 dX2_eggsAt_9 ?_
  refine x_bipush dX2_eggsAt_10 ⟨by decide, by decide⟩ ?_
  refine x_imul dX2_eggsAt_12 (nrm_id (by omega) (by omega)) ?_
  refine x_istore4 dX2_eggsAt_13 (by decide) rfl ?_
  exact Ex.eq (by simp [smI]) rfl rfl (loop 10 0 rfl)
theorem s_allEggs (hb : YB b) (hY : YP m b V) (hI : Iv D V) : Mt E 2 yX2_allEggs cX2_allEggs 3 (some .int) [zr b] m (ans (some (zi (alle V))) m) := by
  obtain ⟨hn, hl, hk0, hd, hk, hf, ht, hr, hx, he, hz⟩ := hI
  refine Mt.of 2 (by decide +kernel) (Nat.le_of_ble_eq_true rfl) (Or.inl rfl) ?_ ?_
  · rintro r m' ⟨rfl, rfl⟩; simp
  show Ex E cX2_allEggs 3 RX2 2 _ 0 [some (zr b), none, none] [] m
  have loop : ∀ (k j : Nat), (j : Int) + k = V 0 0 → Ex E cX2_allEggs 3 RX2 2 (ans (some (zi (alle V))) m) 4 [some (zr b), some (zi (smI (eggs V) j)), some (zi j)] [] m := by
    intro k
    induction k with
    | zero =>
      intro j hj
      refine x_iload2 dX2_allEggs_4 ?_
      refine x_aload0 dX2_allEggs_5 ?_
      refine x_getI dX2_allEggs_6 fd_X2_43 (by first | rfl | exact yb_k (by assumption)) (Or.inl rfl) hY.nests ?_
      refine x_icmp_ge (tgt := 26) dX2_allEggs_9 rfl (fun hc => ?_) (fun hc => ?_)
      · refine x_iload1 dX2_allEggs_26 ?_
        have e1 : (V 0 0).toNat = j := by omega
        exact xe_i dX2_allEggs_27 (⟨by rw [alle, e1], rfl⟩)
      · omega
    | succ k ih =>
      intro j hj
      refine x_iload2 dX2_allEggs_4 ?_
      refine x_aload0 dX2_allEggs_5 ?_
      refine x_getI dX2_allEggs_6 fd_X2_43 (by first | rfl | exact yb_k (by assumption)) (Or.inl rfl) hY.nests ?_
      refine x_icmp_ge (tgt := 26) dX2_allEggs_9 rfl (fun hc => ?_) (fun hc => ?_)
      · omega
      · have hb1 := smI_bd (f := eggs V) (c := 90) j (fun i h0 h1 => eggs_bd he h0 (by omega) 10 (by omega))
        have hb2 := eggs_bd he (n := j) (by omega) (by omega) 10 (by omega)
        refine x_iload1 dX2_allEggs_12 ?_
        refine x_aload0 dX2_allEggs_13 ?_
        refine x_iload2 dX2_allEggs_14 ?_
        refine x_callv1 dX2_allEggs_15 cv_X2_68 ci_X2_eggsAt (by first | rfl | exact yb_k (by assumption)) (T := TX2) rfl (by decide) (Nat.le_of_ble_eq_true rfl) (s_eggsAt hb hY he (n := j) (by omega) (by omega)) (fun r m1 hq => ?_)
        obtain ⟨rfl, rfl⟩ := hq
        have e2 : eggs V j = smI (fun a => V 5 (10 * (j : Int) + a)) 10 := rfl
        show Ex _ _ _ _ _ _ _ _ [zi (eggs V j), zi (smI (eggs V) j)] _
        refine x_iadd dX2_allEggs_18 (nrm_id (by omega) (by omega)) ?_
        refine x_istore1 dX2_allEggs_19 (by decide) rfl ?_
        refine x_iinc2 dX2_allEggs_20 (by decide) rfl (nrm_id (by omega) (by omega)) ?_
        refine x_goto (tgt := 4) dX2_allEggs_23 rfl ?_
        exact Ex.eq (by simp only [List.cons.injEq, Option.some.injEq, Sum.inl.injEq, and_true, true_and, smI_succ]; (try and_intros) <;> (try push_cast) <;> omega) rfl rfl (ih (j + 1) (by omega))
  refine x_iconst dX2_allEggs_0 ⟨by decide, by decide⟩ ?_
  refine x_istore1 dX2_allEggs_1 (by decide) rfl ?_
  refine x_iconst dX2_allEggs_2 ⟨by decide, by decide⟩ ?_
  refine x_istore2 dX2_allEggs_3 (by decide) rfl ?_
  exact loop (V 0 0).toNat 0 (by omega)
def gag (f : Int → Int) : Nat → Int
  | 0 => -9
  | k + 1 => if 0 < f (k : Int) then (k : Int) else gag f k
def gage (V : zz_W) (n : Int) : Int := gag (fun a => V 5 (10 * n + a)) 10
theorem s_greatestAge (hb : YB b) (hY : YP m b V) {n : Int} (h0 : 0 ≤ n) (h1 : n < 6) : Mt E 1 yX2_greatestAge cX2_greatestAge 3 (some .int) [zr b, zi n] m (ans (some (zi (gage V n))) m) := by
  refine Mt.of 1 (by decide +kernel) (Nat.le_of_ble_eq_true rfl) (Or.inl rfl) ?_ ?_
  · rintro r m' ⟨rfl, rfl⟩; simp
  show Ex E cX2_greatestAge 3 RX2 1 _ 0 [some (zr b), some (zi n), none] [] m
  have loop : ∀ (k : Nat), k ≤ 10 → gag (fun a => V 5 (10 * n + a)) k = gage V n → Ex E cX2_greatestAge 3 RX2 1 (ans (some (zi (gage V n))) m) 3 [some (zr b), some (zi n), some (zi ((k : Int) - 1))] [] m := by
    intro k
    induction k with
    | zero =>
      intro _ hg
      refine x_iload2 dX2_greatestAge_3 ?_
      refine x_if_lt (tgt := 29) dX2_greatestAge_4 rfl (fun hc => ?_) (fun hc => ?_)
      · refine x_bipush dX2_greatestAge_29 ⟨by decide, by decide⟩ ?_
        exact xe_i dX2_greatestAge_31 (⟨by rw [← hg]; rfl, rfl⟩)
      · omega
    | succ k ih =>
      intro hk hg
      have e0 : (((k + 1 : Nat) : Int) - 1) = k := by omega
      rw [e0]
      refine x_iload2 dX2_greatestAge_3 ?_
      refine x_if_lt (tgt := 29) dX2_greatestAge_4 rfl (fun hc => ?_) (fun hc => ?_)
      · omega
      · refine x_aload0 dX2_greatestAge_7 ?_
        refine x_getR (q := b + 5) dX2_greatestAge_8 fd_X2_24 (by first | rfl | exact yb_k (by assumption)) rfl (yb_p4 (by assumption)) ?_
        refine x_iload1 dX2_greatestAge_11 ?_
        refine x_bipush dX2_greatestAge_12 ⟨by decide, by decide⟩ ?_
        refine x_imul dX2_greatestAge_14 (nrm_id (by omega) (by omega)) ?_
        refine x_iload2 dX2_greatestAge_15 ?_
        refine x_iadd dX2_greatestAge_16 (nrm_id (by omega) (by omega)) ?_
        refine x_iald dX2_greatestAge_17 (yb_a4 (by assumption)) (by omega) (by omega) (v := V 5 (10 * n + k)) (by rw [show n * 10 + (k : Int) = 10 * n + k from by omega]; exact hY.egg (by omega) (by omega)) ?_
        refine x_if_le (tgt := 23) dX2_greatestAge_18 rfl (fun hc2 => ?_) (fun hc2 => ?_)
        · refine x_iinc2 dX2_greatestAge_23 (by decide) rfl (nrm_id (by omega) (by omega)) ?_
          refine x_goto (tgt := 3) dX2_greatestAge_26 rfl ?_
          refine Ex.eq (by rw [show (k : Int) + -1 = k - 1 from by omega]) rfl rfl (ih (by omega) ?_)
          rw [← hg, gag, if_neg (by omega)]
        · refine x_iload2 dX2_greatestAge_21 ?_
          exact xe_i dX2_greatestAge_22 (⟨by rw [← hg, gag, if_pos hc2], rfl⟩)
  refine x_bipush dX2_greatestAge_0 ⟨by decide, by decide⟩ ?_
  refine x_istore2 dX2_greatestAge_2 (by decide) rfl ?_
  exact Ex.eq (by simp) rfl rfl (loop 10 (by omega) rfl)
theorem s_minutesOf (hb : YB b) (hY : YP m b V) (hI : Iv D V) {s : Int} : Mt E 1 yX2_minutesOf cX2_minutesOf 4 (some .int) [zr b, zi s] m (ans (some (zi (mins V s))) m) := by
  obtain ⟨hn, hl, hk0, hd, hk, hf, ht, hr, hx, he, hz⟩ := hI
  refine Mt.of 2 (by decide +kernel) (Nat.le_of_ble_eq_true rfl) (Or.inl rfl) ?_ ?_
  · rintro r m' ⟨rfl, rfl⟩; simp
  show Ex E cX2_minutesOf 4 RX2 1 _ 0 [some (zr b), some (zi s), none, none] [] m
  have hfb : ∀ i : Int, 0 ≤ i → i < 6 → 0 ≤ (if bt s i = 1 then V 3 i else 0) ∧ (if bt s i = 1 then V 3 i else 0) ≤ 9 := by
    intro i h0 h1
    have := hx i h0 h1
    split <;> omega
  have loop : ∀ (k j : Nat), (j : Int) + k = V 0 0 → Ex E cX2_minutesOf 4 RX2 1 (ans (some (zi (mins V s))) m) 4 [some (zr b), some (zi s), some (zi (smI (fun n => if bt s n = 1 then V 3 n else 0) j)), some (zi j)] [] m := by
    intro k
    induction k with
    | zero =>
      intro j hj
      refine x_iload3 dX2_minutesOf_4 ?_
      refine x_aload0 dX2_minutesOf_5 ?_
      refine x_getI dX2_minutesOf_6 fd_X2_43 (by first | rfl | exact yb_k (by assumption)) (Or.inl rfl) hY.nests ?_
      refine x_icmp_ge (tgt := 36) dX2_minutesOf_9 rfl (fun hc => ?_) (fun hc => ?_)
      · refine x_iload2 dX2_minutesOf_36 ?_
        have e1 : (V 0 0).toNat = j := by omega
        exact xe_i dX2_minutesOf_37 (⟨by rw [mins, e1], rfl⟩)
      · omega
    | succ k ih =>
      intro j hj
      refine x_iload3 dX2_minutesOf_4 ?_
      refine x_aload0 dX2_minutesOf_5 ?_
      refine x_getI dX2_minutesOf_6 fd_X2_43 (by first | rfl | exact yb_k (by assumption)) (Or.inl rfl) hY.nests ?_
      refine x_icmp_ge (tgt := 36) dX2_minutesOf_9 rfl (fun hc => ?_) (fun hc => ?_)
      · omega
      · have hb1 := smI_bd (f := fun n => if bt s n = 1 then V 3 n else 0) (c := 9) j (fun i h0 h1 => hfb i h0 (by omega))
        have hb2 := hfb j (by omega) (by omega)
        refine x_iload1 dX2_minutesOf_12 ?_
        refine x_iload3 dX2_minutesOf_13 ?_
        refine x_ishr dX2_minutesOf_14 rfl ?_
        refine x_iconst dX2_minutesOf_15 ⟨by decide, by decide⟩ ?_
        refine x_iand dX2_minutesOf_16 rfl ?_
        refine x_iconst dX2_minutesOf_17 ⟨by decide, by decide⟩ ?_
        refine x_icmp_ne (tgt := 30) dX2_minutesOf_18 rfl (fun hc2 => ?_) (fun hc2 => ?_)
        · have e3 : (if bt s j = 1 then V 3 j else 0) = 0 := if_neg hc2
          refine x_iinc3 dX2_minutesOf_30 (by decide) rfl (nrm_id (by omega) (by omega)) ?_
          refine x_goto (tgt := 4) dX2_minutesOf_33 rfl ?_
          exact Ex.eq (by simp only [List.cons.injEq, Option.some.injEq, Sum.inl.injEq, and_true, true_and, smI_succ]; (try and_intros) <;> (try push_cast) <;> omega) rfl rfl (ih (j + 1) (by omega))
        · have e3 : (if bt s j = 1 then V 3 j else 0) = V 3 j := if_pos hc2
          refine x_iload2 dX2_minutesOf_21 ?_
          refine x_aload0 dX2_minutesOf_22 ?_
          refine x_getR (q := b + 3) dX2_minutesOf_23 fd_X2_18 (by first | rfl | exact yb_k (by assumption)) rfl (yb_p2 (by assumption)) ?_
          refine x_iload3 dX2_minutesOf_26 ?_
          refine x_iald dX2_minutesOf_27 (yb_a2 (by assumption)) (by omega) (by omega) (hY.min (by omega) (by omega)) ?_
          refine x_iadd dX2_minutesOf_28 (nrm_id (by omega) (by omega)) ?_
          refine x_istore2 dX2_minutesOf_29 (by decide) rfl ?_
          refine x_iinc3 dX2_minutesOf_30 (by decide) rfl (nrm_id (by omega) (by omega)) ?_
          refine x_goto (tgt := 4) dX2_minutesOf_33 rfl ?_
          exact Ex.eq (by simp only [List.cons.injEq, Option.some.injEq, Sum.inl.injEq, and_true, true_and, smI_succ]; (try and_intros) <;> (try push_cast) <;> omega) rfl rfl (ih (j + 1) (by omega))
  refine x_iconst dX2_minutesOf_0 ⟨by decide, by decide⟩ ?_
  refine x_istore2 dX2_minutesOf_1 (by decide) rfl ?_
  refine x_iconst dX2_minutesOf_2 ⟨by decide, by decide⟩ ?_
  refine x_istore3 dX2_minutesOf_3 (by decide) rfl ?_
  exact loop (V 0 0).toNat 0 (by omega)
theorem mins_bd (hI : Iv D V) (s : Int) : 0 ≤ mins V s ∧ mins V s ≤ 54 := by
  obtain ⟨hn, hl, hk0, hd, hk, hf, ht, hr, hx, he, hz⟩ := hI
  have := smI_bd (f := fun n => if bt s n = 1 then V 3 n else 0) (c := 9) (V 0 0).toNat (fun i h0 h1 => by
    have := hx i h0 (by omega)
    split <;> omega)
  unfold mins
  omega
def tml (V : zz_W) : Int := V 0 8 - mins V (V 0 2)
theorem s_timeLeft (hb : YB b) (hY : YP m b V) (hI : Iv D V) : Mt E 2 yX2_timeLeft cX2_timeLeft 1 (some .int) [zr b] m (ans (some (zi (tml V))) m) := by
  have hmb := mins_bd hI (V 0 2)
  have ht := hI.2.2.2.2.2.2.1
  refine Mt.of 0 (by decide +kernel) (Nat.le_of_ble_eq_true rfl) (Or.inl rfl) ?_ ?_
  · rintro r m' ⟨rfl, rfl⟩; simp
  show Ex E cX2_timeLeft 1 RX2 2 _ 0 [some (zr b)] [] m
  refine x_aload0 dX2_timeLeft_0 ?_
  refine x_getR (q := b + 6) dX2_timeLeft_1 fd_X2_27 (by first | rfl | exact yb_k (by assumption)) rfl (yb_p5 (by assumption)) ?_
  refine x_iconst dX2_timeLeft_4 ⟨by decide, by decide⟩ ?_
  refine x_iald dX2_timeLeft_5 (yb_a5 (by assumption)) (by omega) (by omega) hY.time ?_
  refine x_aload0 dX2_timeLeft_6 ?_
  refine x_aload0 dX2_timeLeft_7 ?_
  refine x_getI dX2_timeLeft_8 fd_X2_56 (by first | rfl | exact yb_k (by assumption)) (Or.inl rfl) hY.looked ?_
  refine x_callv1 dX2_timeLeft_11 cv_X2_72 ci_X2_minutesOf (by first | rfl | exact yb_k (by assumption)) (T := TX2) rfl (by decide) (Nat.le_of_ble_eq_true rfl) (s_minutesOf hb hY hI) (fun r m1 hq => ?_)
  obtain ⟨rfl, rfl⟩ := hq
  show Ex _ _ _ _ _ _ _ _ [zi (mins V (V 0 2)), zi (V 0 8)] _
  refine x_isub dX2_timeLeft_14 (nrm_id (by omega) (by omega)) ?_
  exact xe_i dX2_timeLeft_15 (⟨rfl, rfl⟩)
theorem YP.cg {V' : zz_W} (h : YP m b V) (e : ∀ a z, V a z = V' a z) : YP m b V' := by
  have : V = V' := by funext a z; exact e a z
  rw [← this]
  exact h
theorem YP.eggup {z x : Int} (h : YP m b V) (h0 : 0 ≤ z) : YP (up m (b + 5) z.toNat x) b (ux V 5 z x) := by
  have hc : ∀ k, k ≠ b + 5 → up m (b + 5) z.toNat x k = m k := fun k hk => up_cell hk
  unfold YP at h ⊢
  rw [hc b (by omega), hc (b + 1) (by omega), hc (b + 2) (by omega), hc (b + 3) (by omega), hc (b + 4) (by omega), hc (b + 6) (by omega)]
  refine ⟨h.1, h.2.1, h.2.2.1, fun w h1 h2 => ?_⟩
  unfold up ux
  by_cases hw : w = z
  · subst hw
    rw [if_pos ⟨rfl, rfl⟩, if_pos ⟨rfl, rfl⟩]
  · rw [if_neg (fun q => hw (by have := q.2; omega)), if_neg (fun q => hw q.2)]
    exact h.2.2.2 w h1 h2
end YM1
end
section
section YM2
variable {E : zz_E} {m : zz_M} {b : Nat} {V : zz_W} {D : Int}
-- one field of a yard is written
theorem YP.fld {j : Nat} {x : Int} {V' : zz_W} (h : YP m b V) (h1 : up m b j x b 7 = V' 0 0 ∧ up m b j x b 8 = lc (V' 0 1) ∧ up m b j x b 9 = V' 0 2 ∧ up m b j x b 10 = V' 0 3 ∧ up m b j x b 11 = V' 0 4 ∧ up m b j x b 12 = V' 0 5)
    (h2 : ∀ z, 0 ≤ z → z < 4 → V' 0 (6 + z) = V 0 (6 + z)) (h3 : ∀ a z, a ≠ 0 → V' a z = V a z) : YP (up m b j x) b V' := by
  have hc : ∀ k, k ≠ b → up m b j x k = m k := fun k hk => up_cell hk
  unfold YP at h ⊢
  rw [hc (b + 1) (by omega), hc (b + 2) (by omega), hc (b + 3) (by omega), hc (b + 4) (by omega), hc (b + 5) (by omega), hc (b + 6) (by omega)]
  refine ⟨h1, fun z h0 h4 => by rw [h2 z h0 h4]; exact h.2.1 z h0 h4, fun z h0 h4 => ?_, fun z h0 h4 => ?_⟩
  · rw [h3 1 z (by decide), h3 2 z (by decide), h3 3 z (by decide), h3 4 z (by decide)]
    exact h.2.2.1 z h0 h4
  · rw [h3 5 z (by decide)]
    exact h.2.2.2 z h0 h4
theorem upn {m : zz_M} {k j j' : Nat} {v : Int} (h : j' ≠ j) : up m k j v k j' = m k j' := if_neg (fun q => h q.2)
theorem YP.setLooked {x : Int} (h : YP m b V) : YP (up m b 9 x) b (ux V 0 2 x) := by
  refine h.fld ⟨?_, ?_, ?_, ?_, ?_, ?_⟩ (fun z h0 h1 => if_neg (fun q => by have := q.2; omega)) (fun a z ha => if_neg (fun q => ha q.1))
  · rw [upn (by decide)]; exact h.nests
  · rw [upn (by decide)]; exact h.last
  · rw [up_same]; rfl
  · rw [upn (by decide)]; exact h.before
  · rw [upn (by decide)]; exact h.day
  · rw [upn (by decide)]; exact h.found
theorem YP.setBefore {x : Int} (h : YP m b V) : YP (up m b 10 x) b (ux V 0 3 x) := by
  refine h.fld ⟨?_, ?_, ?_, ?_, ?_, ?_⟩ (fun z h0 h1 => if_neg (fun q => by have := q.2; omega)) (fun a z ha => if_neg (fun q => ha q.1))
  · rw [upn (by decide)]; exact h.nests
  · rw [upn (by decide)]; exact h.last
  · rw [upn (by decide)]; exact h.looked
  · rw [up_same]; rfl
  · rw [upn (by decide)]; exact h.day
  · rw [upn (by decide)]; exact h.found
theorem YP.setDay {x : Int} (h : YP m b V) : YP (up m b 11 x) b (ux V 0 4 x) := by
  refine h.fld ⟨?_, ?_, ?_, ?_, ?_, ?_⟩ (fun z h0 h1 => if_neg (fun q => by have := q.2; omega)) (fun a z ha => if_neg (fun q => ha q.1))
  · rw [upn (by decide)]; exact h.nests
  · rw [upn (by decide)]; exact h.last
  · rw [upn (by decide)]; exact h.looked
  · rw [upn (by decide)]; exact h.before
  · rw [up_same]; rfl
  · rw [upn (by decide)]; exact h.found
theorem YP.setFound {x : Int} (h : YP m b V) : YP (up m b 12 x) b (ux V 0 5 x) := by
  refine h.fld ⟨?_, ?_, ?_, ?_, ?_, ?_⟩ (fun z h0 h1 => if_neg (fun q => by have := q.2; omega)) (fun a z ha => if_neg (fun q => ha q.1))
  · rw [upn (by decide)]; exact h.nests
  · rw [upn (by decide)]; exact h.last
  · rw [upn (by decide)]; exact h.looked
  · rw [upn (by decide)]; exact h.before
  · rw [upn (by decide)]; exact h.day
  · rw [up_same]; rfl
theorem YP.setLast {x : Int} (h : YP m b V) : YP (up m b 8 (lc x)) b (ux V 0 1 x) := by
  refine h.fld ⟨?_, ?_, ?_, ?_, ?_, ?_⟩ (fun z h0 h1 => if_neg (fun q => by have := q.2; omega)) (fun a z ha => if_neg (fun q => ha q.1))
  · rw [upn (by decide)]; exact h.nests
  · rw [up_same]; rfl
  · rw [upn (by decide)]; exact h.looked
  · rw [upn (by decide)]; exact h.before
  · rw [upn (by decide)]; exact h.day
  · rw [upn (by decide)]; exact h.found
theorem YP.setNests {x : Int} (h : YP m b V) : YP (up m b 7 x) b (ux V 0 0 x) := by
  refine h.fld ⟨?_, ?_, ?_, ?_, ?_, ?_⟩ (fun z h0 h1 => if_neg (fun q => by have := q.2; omega)) (fun a z ha => if_neg (fun q => ha q.1))
  · rw [up_same]; rfl
  · rw [upn (by decide)]; exact h.last
  · rw [upn (by decide)]; exact h.looked
  · rw [upn (by decide)]; exact h.before
  · rw [upn (by decide)]; exact h.day
  · rw [upn (by decide)]; exact h.found
theorem lc_nn {z : Int} (h : 0 ≤ z) : lc z = z := if_neg (by omega)
theorem Fr.to {lo hi : Nat} {m1 m2 : zz_M} (h : Fr lo hi m m1) {lo' hi' : Nat} (h2 : Fr lo' hi' m1 m2) (h3 : lo ≤ lo') (h4 : hi' ≤ hi) : Fr lo hi m m2 := h.tr (h2.wd h3 h4)
/-- the first j ages of a nest are emptied -/
def emj (V : zz_W) (n : Int) (j : Int) : zz_W := fun a z => if a = 5 ∧ 10 * n ≤ z ∧ z < 10 * n + j then 0 else V a z
theorem s_emptyNest (hb : YB b) (hY : YP m b V) (he : ∀ z, 0 ≤ z → z < 60 → 0 ≤ V 5 z ∧ V 5 z ≤ 9) {n : Int} (h0 : 0 ≤ n) (h1 : n < 6) : Mt E 1 yX2_emptyNest cX2_emptyNest 5 (some .int) [zr b, zi n] m (fun r m' => r = some (zi (eggs V n)) ∧ YP m' b (emj V n 10) ∧ Fr b (b + 8) m m') := by
  refine Mt.of 3 (by decide +kernel) (Nat.le_of_ble_eq_true rfl) (Or.inl rfl) ?_ ?_
  · rintro r m' ⟨rfl, -⟩; simp
  show Ex E cX2_emptyNest 5 RX2 1 _ 0 [some (zr b), some (zi n), none, none, none] [] m
  have loop : ∀ (k j : Nat) (m1 : zz_M), j + k = 10 → YP m1 b (emj V n j) → Fr b (b + 8) m m1 → Ex E cX2_emptyNest 5 RX2 1 (fun r m' => r = some (zi (eggs V n)) ∧ YP m' b (emj V n 10) ∧ Fr b (b + 8) m m') 15 [some (zr b), some (zi n), some (zi (smI (fun a => V 5 (10 * n + a)) j)), some (zi ((n + 1) * 10)), some (zi (n * 10 + j))] [] m1 := by
    intro k
    induction k with
    | zero =>
      intro j m1 hj hY hF
      refine x_iload4 dX2_emptyNest_15 ?_
      refine x_iload3 dX2_emptyNest_17 ?_
      refine x_icmp_ge (tgt := 45) dX2_emptyNest_18 rfl (fun hc => ?_) (fun hc => ?_)
      · refine x_iload2 dX2_emptyNest_45 ?_
        obtain rfl : j = 10 := by omega
        exact xe_i dX2_emptyNest_46 (⟨rfl, hY, hF⟩)
      · omega
    | succ k ih =>
      intro j m1 hj hY hF
      refine x_iload4 dX2_emptyNest_15 ?_
      refine x_iload3 dX2_emptyNest_17 ?_
      refine x_icmp_ge (tgt := 45) dX2_emptyNest_18 rfl (fun hc => ?_) (fun hc => ?_)
      · omega
      · have hb1 := eggs_bd he h0 h1 j (by omega)
        have hb2 := he (10 * n + j) (by omega) (by omega)
        have e1 : n * 10 + (j : Int) = 10 * n + j := by omega
        have e2 : emj V n j 5 (10 * n + j) = V 5 (10 * n + j) := if_neg (by omega)
        refine x_iload2 dX2_emptyNest_21 ?_
        refine x_aload0 dX2_emptyNest_22 ?_
        refine x_getR (q := b + 5) dX2_emptyNest_23 fd_X2_24 (by first | rfl | exact yb_k (by assumption)) rfl (yb_p4 (by assumption)) ?_
        refine x_iload4 dX2_emptyNest_26 ?_
        refine x_iald dX2_emptyNest_28 (yb_a4 (by assumption)) (by omega) (by omega) (v := V 5 (10 * n + j)) (by rw [e1, hY.egg (by omega) (by omega), e2]) ?_
        refine x_iadd dX2_emptyNest_29 (nrm_id (by omega) (by omega)) ?_
        refine x_istore2 dX2_emptyNest_30 (by decide) rfl ?_
        refine x_aload0 dX2_emptyNest_31 ?_
        refine x_getR (q := b + 5) dX2_emptyNest_32 fd_X2_24 (by first | rfl | exact yb_k (by assumption)) rfl (yb_p4 (by assumption)) ?_
        refine x_iload4 dX2_emptyNest_35 ?_
        refine x_iconst dX2_emptyNest_37 ⟨by decide, by decide⟩ ?_
        refine x_iast dX2_emptyNest_38 (yb_a4 (by assumption)) (by omega) (by omega) ?_
        refine x_iinc4 dX2_emptyNest_39 (by decide) rfl (nrm_id (by omega) (by omega)) ?_
        refine x_goto (tgt := 15) dX2_emptyNest_42 rfl ?_
        refine Ex.eq ?_ rfl rfl (ih (j + 1) _ (by omega) ?_ (hF.up (by omega) (by omega)))
        · simp only [List.cons.injEq, Option.some.injEq, Sum.inl.injEq, and_true, true_and, smI_succ]
          push_cast
          omega
        · rw [e1]
          refine (hY.eggup (by omega)).cg (fun a z => ?_)
          unfold ux emj
          push_cast
          by_cases ha : a = 5 ∧ z = 10 * n + j
          · rw [if_pos ha, if_pos (by omega)]
          · rw [if_neg ha]
            by_cases hb3 : a = 5 ∧ 10 * n ≤ z ∧ z < 10 * n + j
            · rw [if_pos hb3, if_pos (by omega)]
            · rw [if_neg hb3, if_neg (by omega)]
  refine x_iconst dX2_emptyNest_0 ⟨by decide, by decide⟩ ?_
  refine x_istore2 dX2_emptyNest_1 (by decide) rfl ?_
  refine x_iload1 dX2_emptyNest_2 ?_
  refine x_iconst dX2_emptyNest_3 ⟨by decide, by decide⟩ ?_
  refine x_iadd dX2_emptyNest_4 (nrm_id (by omega) (by omega)) ?_
  refine x_bipush dX2_emptyNest_5 ⟨by decide, by decide⟩ ?_
  refine x_imul dX2_emptyNest_7 (nrm_id (by omega) (by omega)) ?_
  refine x_istore3 dX2_emptyNest_8 (by decide) rfl ?_
  refine x_iload1 dX2_emptyNest_9 ?_
  refine x_bipush dX2_emptyNest_10 ⟨by decide, by decide⟩ ?_
  refine x_imul dX2_emptyNest_12 (nrm_id (by omega) (by omega)) ?_
  refine x_istore4 dX2_emptyNest_13 (by decide) rfl ?_
  refine Ex.eq (by simp [smI]) rfl rfl (loop 10 0 m rfl (hY.cg (fun a z => ?_)) Fr.rf)
  unfold emj
  rw [if_neg (by omega)]
/-- the nests of a set below j are emptied -/
def tkj (V : zz_W) (s : Int) (j : Int) : zz_W := fun a z => if a = 5 ∧ 0 ≤ z ∧ z < 10 * j ∧ bt s (z / 10) = 1 then 0 else V a z
theorem tkn_bd (he : ∀ z, 0 ≤ z → z < 60 → 0 ≤ V 5 z ∧ V 5 z ≤ 9) (s : Int) (j : Nat) (hj : j ≤ 6) : 0 ≤ smI (fun n => if bt s n = 1 then eggs V n else 0) j ∧ smI (fun n => if bt s n = 1 then eggs V n else 0) j ≤ 540 := by
  have := smI_bd (f := fun n => if bt s n = 1 then eggs V n else 0) (c := 90) j (fun i h0 h1 => by
    have := eggs_bd he h0 (show i < 6 by omega) 10 (by omega)
    unfold eggs
    split <;> omega)
  omega
theorem eggs_cg {V V' : zz_W} {n : Int} (h : ∀ z, 10 * n ≤ z → z < 10 * n + 10 → V 5 z = V' 5 z) : eggs V n = eggs V' n := smI_congr 10 (fun i h0 h1 => h _ (by omega) (by omega))
theorem s_takeEggs (hb : YB b) (hY : YP m b V) (hI : Iv D V) {s : Int} : Mt E 2 yX2_takeEggs cX2_takeEggs 4 (some .int) [zr b, zi s] m (fun r m' => r = some (zi (tkn V s)) ∧ YP m' b (tak V s) ∧ Fr b (b + 8) m m') := by
  obtain ⟨hn, hl, hk0, hd, hk, hf, ht, hr, hx, he, hz⟩ := hI
  refine Mt.of 2 (by decide +kernel) (Nat.le_of_ble_eq_true rfl) (Or.inl rfl) ?_ ?_
  · rintro r m' ⟨rfl, -⟩; simp
  show Ex E cX2_takeEggs 4 RX2 2 _ 0 [some (zr b), some (zi s), none, none] [] m
  have loop : ∀ (k j : Nat) (m1 : zz_M), (j : Int) + k = V 0 0 → YP m1 b (tkj V s j) → Fr b (b + 8) m m1 → Ex E cX2_takeEggs 4 RX2 2 (fun r m' => r = some (zi (tkn V s)) ∧ YP m' b (tak V s) ∧ Fr b (b + 8) m m') 4 [some (zr b), some (zi s), some (zi (smI (fun n => if bt s n = 1 then eggs V n else 0) j)), some (zi j)] [] m1 := by
    intro k
    induction k with
    | zero =>
      intro j m1 hj hY hF
      refine x_iload3 dX2_takeEggs_4 ?_
      refine x_aload0 dX2_takeEggs_5 ?_
      refine x_getI dX2_takeEggs_6 fd_X2_43 (by first | rfl | exact yb_k (by assumption)) (Or.inl rfl) (v := V 0 0) hY.nests ?_
      refine x_icmp_ge (tgt := 35) dX2_takeEggs_9 rfl (fun hc => ?_) (fun hc => ?_)
      · refine x_aload0 dX2_takeEggs_35 ?_
        refine x_dupr dX2_takeEggs_36 ?_
        refine x_getI dX2_takeEggs_37 fd_X2_56 (by first | rfl | exact yb_k (by assumption)) (Or.inl rfl) hY.looked ?_
        refine x_iload1 dX2_takeEggs_40 ?_
        refine x_ior dX2_takeEggs_41 (v := ior (V 0 2) s) rfl ?_
        refine x_putI dX2_takeEggs_42 fd_X2_56 (by first | rfl | exact yb_k (by assumption)) rfl ?_
        refine x_iload2 dX2_takeEggs_45 ?_
        have e1 : (V 0 0).toNat = j := by omega
        refine xe_i dX2_takeEggs_46 ?_
        refine ⟨by rw [tkn, e1], ?_, hF.up (by omega) (by omega)⟩
        refine (hY.setLooked).cg (fun a z => ?_)
        unfold ux tak tkj
        have hj2 : (j : Int) = V 0 0 := by omega
        rw [hj2]
        by_cases ha : a = 5
        · subst ha
          simp
        · by_cases ha0 : a = 0
          · subst ha0
            simp
          · simp [ha, ha0]
      · omega
    | succ k ih =>
      intro j m1 hj hY hF
      refine x_iload3 dX2_takeEggs_4 ?_
      refine x_aload0 dX2_takeEggs_5 ?_
      refine x_getI dX2_takeEggs_6 fd_X2_43 (by first | rfl | exact yb_k (by assumption)) (Or.inl rfl) (v := V 0 0) hY.nests ?_
      refine x_icmp_ge (tgt := 35) dX2_takeEggs_9 rfl (fun hc => ?_) (fun hc => ?_)
      · omega
      · have hb1 := tkn_bd he s j (by omega)
        have hb2 := eggs_bd he (n := j) (by omega) (by omega) 10 (by omega)
        refine x_iload1 dX2_takeEggs_12 ?_
        refine x_iload3 dX2_takeEggs_13 ?_
        refine x_ishr dX2_takeEggs_14 rfl ?_
        refine x_iconst dX2_takeEggs_15 ⟨by decide, by decide⟩ ?_
        refine x_iand dX2_takeEggs_16 rfl ?_
        refine x_iconst dX2_takeEggs_17 ⟨by decide, by decide⟩ ?_
        refine x_icmp_ne (tgt := 29) dX2_takeEggs_18 rfl (fun hc2 => ?_) (fun hc2 => ?_)
        · have e3 : (if bt s j = 1 then eggs V j else 0) = 0 := if_neg hc2
          refine x_iinc3 dX2_takeEggs_29 (by decide) rfl (nrm_id (by omega) (by omega)) ?_
          refine x_goto (tgt := 4) dX2_takeEggs_32 rfl ?_
          refine Ex.eq ?_ rfl rfl (ih (j + 1) _ (by omega) ?_ hF)
          · simp only [List.cons.injEq, Option.some.injEq, Sum.inl.injEq, and_true, true_and, smI_succ]
            push_cast
            omega
          · refine hY.cg (fun a z => ?_)
            unfold tkj
            push_cast
            by_cases h1 : a = 5 ∧ 0 ≤ z ∧ z < 10 * (j : Int) ∧ bt s (z / 10) = 1
            · rw [if_pos h1, if_pos ⟨h1.1, h1.2.1, by omega, h1.2.2.2⟩]
            · rw [if_neg h1, if_neg]
              rintro ⟨g1, g2, g3, g4⟩
              by_cases hz : z < 10 * (j : Int)
              · exact h1 ⟨g1, g2, hz, g4⟩
              · have : z / 10 = j := by omega
                rw [this] at g4
                exact hc2 g4
        · have e3 : (if bt s j = 1 then eggs V j else 0) = eggs V j := if_pos hc2
          have ee : eggs (tkj V s j) j = eggs V j := eggs_cg (fun z h1 h2 => if_neg (by omega))
          have he2 : ∀ z, 0 ≤ z → z < 60 → 0 ≤ tkj V s j 5 z ∧ tkj V s j 5 z ≤ 9 := by
            intro z h1 h2
            have := he z h1 h2
            unfold tkj
            split <;> omega
          refine x_iload2 dX2_takeEggs_21 ?_
          refine x_aload0 dX2_takeEggs_22 ?_
          refine x_iload3 dX2_takeEggs_23 ?_
          refine x_callv1 dX2_takeEggs_24 cv_X2_75 ci_X2_emptyNest (by first | rfl | exact yb_k (by assumption)) (T := TX2) rfl (by decide) (Nat.le_of_ble_eq_true rfl) (s_emptyNest hb hY he2 (n := j) (by omega) (by omega)) (fun r m2 hq => ?_)
          obtain ⟨rfl, hY2, hF2⟩ := hq
          rw [ee]
          show Ex _ _ _ _ _ _ _ _ [zi (eggs V j), zi (smI (fun n => if bt s n = 1 then eggs V n else 0) j)] _
          have e4 : eggs V j = smI (fun a => V 5 (10 * (j : Int) + a)) 10 := rfl
          refine x_iadd dX2_takeEggs_27 (nrm_id (by omega) (by omega)) ?_
          refine x_istore2 dX2_takeEggs_28 (by decide) rfl ?_
          refine x_iinc3 dX2_takeEggs_29 (by decide) rfl (nrm_id (by omega) (by omega)) ?_
          refine x_goto (tgt := 4) dX2_takeEggs_32 rfl ?_
          refine Ex.eq ?_ rfl rfl (ih (j + 1) _ (by omega) ?_ (hF.tr hF2))
          · simp only [List.cons.injEq, Option.some.injEq, Sum.inl.injEq, and_true, true_and, smI_succ]
            push_cast
            omega
          · refine hY2.cg (fun a z => ?_)
            unfold emj tkj
            push_cast
            by_cases h0 : a = 5 ∧ 10 * (j : Int) ≤ z ∧ z < 10 * (j : Int) + 10
            · have : z / 10 = j := by omega
              rw [if_pos h0, if_pos ⟨h0.1, by omega, by omega, by rw [this]; exact hc2⟩]
            · rw [if_neg h0]
              by_cases h1 : a = 5 ∧ 0 ≤ z ∧ z < 10 * (j : Int) ∧ bt s (z / 10) = 1
              · rw [if_pos h1, if_pos ⟨h1.1, h1.2.1, by omega, h1.2.2.2⟩]
              · rw [if_neg h1, if_neg]
                rintro ⟨g1, g2, g3, g4⟩
                exact h1 ⟨g1, g2, by omega, g4⟩
  refine x_iconst dX2_takeEggs_0 ⟨by decide, by decide⟩ ?_
  refine x_istore2 dX2_takeEggs_1 (by decide) rfl ?_
  refine x_iconst dX2_takeEggs_2 ⟨by decide, by decide⟩ ?_
  refine x_istore3 dX2_takeEggs_3 (by decide) rfl ?_
  refine loop (V 0 0).toNat 0 m (by omega) (hY.cg (fun a z => ?_)) Fr.rf
  unfold tkj
  rw [if_neg (by omega)]
theorem s_mayAmong (hb : YB b) (hY : YP m b V) {p : Int} : Mt E 1 yX2_mayAmong cX2_mayAmong 3 (some .int) [zr b, zi p] m (ans (some (zi (may V p))) m) := by
  refine Mt.of 1 (by decide +kernel) (Nat.le_of_ble_eq_true rfl) (Or.inl rfl) ?_ ?_
  · rintro r m' ⟨rfl, rfl⟩; simp
  show Ex E cX2_mayAmong 3 RX2 1 _ 0 [some (zr b), some (zi p), none] [] m
  refine x_iload1 dX2_mayAmong_0 ?_
  refine x_aload0 dX2_mayAmong_1 ?_
  refine x_getI dX2_mayAmong_2 fd_X2_56 (by first | rfl | exact yb_k (by assumption)) (Or.inl rfl) hY.looked ?_
  refine x_iconst dX2_mayAmong_5 ⟨by decide, by decide⟩ ?_
  refine x_ixor dX2_mayAmong_6 rfl ?_
  refine x_iand dX2_mayAmong_7 rfl ?_
  refine x_istore2 dX2_mayAmong_8 (by decide) rfl ?_
  refine x_iload2 dX2_mayAmong_9 ?_
  refine x_if_eq (tgt := 17) dX2_mayAmong_10 rfl (fun hc => ?_) (fun hc => ?_)
  · refine x_iload1 dX2_mayAmong_17 ?_
    exact xe_i dX2_mayAmong_18 (⟨by rw [may, if_pos hc], rfl⟩)
  · refine x_iload2 dX2_mayAmong_13 ?_
    refine x_goto (tgt := 18) dX2_mayAmong_14 rfl ?_
    exact xe_i dX2_mayAmong_18 (⟨by rw [may, if_neg hc], rfl⟩)
end YM2
end
section
section YM3
variable {E : zz_E} {m : zz_M} {b : Nat} {V : zz_W} {D : Int}
def bcx (y : Int) : Int :=
  let x1 := nrm (y - ian (ius y 1) 1431655765)
  let x2 := nrm (ian x1 858993459 + ian (ius x1 2) 858993459)
  let x3 := ian (nrm (x2 + ius x2 4)) 252645135
  let x4 := nrm (x3 + ius x3 8)
  let x5 := nrm (x4 + ius x4 16)
  ian x5 63
theorem bcx_ok : ∀ y : Fin 64, bcx (y.val : Int) = smI (bt (y.val : Int)) 6 := by decide +kernel
theorem bcx_eq {y : Int} (h0 : 0 ≤ y) (h1 : y < 64) : bcx y = smI (bt y) 6 := by
  have h := bcx_ok ⟨y.toNat, by omega⟩
  have e : ((y.toNat : Nat) : Int) = y := by omega
  simpa only [e] using h
theorem s_bitCount {y : Int} (h0 : 0 ≤ y) (h1 : y < 64) : Mt E 1 yJ6_bitCount_0f7a4 cJ6_bitCount_0f7a4 1 (some .int) [zi y] m (ans (some (zi (smI (bt y) 6))) m) := by
  refine Mt.of 0 (by decide +kernel) (Nat.le_of_ble_eq_true rfl) (Or.inl rfl) ?_ ?_
  · rintro r m' ⟨rfl, rfl⟩; simp
  show Ex E cJ6_bitCount_0f7a4 1 RJ6 1 _ 0 [some (zi y)] [] m
  refine x_iload0 dJ6_bitCount_0f7a4_0 ?_
  refine x_iload0 dJ6_bitCount_0f7a4_1 ?_
  refine x_iconst dJ6_bitCount_0f7a4_2 ⟨by decide, by decide⟩ ?_
  refine x_iushr dJ6_bitCount_0f7a4_3 rfl ?_
  refine x_ldcw (v := 1431655765) dJ6_bitCount_0f7a4_4 ⟨by decide, by decide⟩ ct_J6_265 ?_
  refine x_iand dJ6_bitCount_0f7a4_7 rfl ?_
  refine x_isub dJ6_bitCount_0f7a4_8 rfl ?_
  refine x_istore0 dJ6_bitCount_0f7a4_9 (by decide) rfl ?_
  refine x_iload0 dJ6_bitCount_0f7a4_10 ?_
  refine x_ldcw (v := 858993459) dJ6_bitCount_0f7a4_11 ⟨by decide, by decide⟩ ct_J6_266 ?_
  refine x_iand dJ6_bitCount_0f7a4_14 rfl ?_
  refine x_iload0 dJ6_bitCount_0f7a4_15 ?_
  refine x_iconst dJ6_bitCount_0f7a4_16 ⟨by decide, by decide⟩ ?_
  refine x_iushr dJ6_bitCount_0f7a4_17 rfl ?_
  refine x_ldcw (v := 858993459) dJ6_bitCount_0f7a4_18 ⟨by decide, by decide⟩ ct_J6_266 ?_
  refine x_iand dJ6_bitCount_0f7a4_21 rfl ?_
  refine x_iadd dJ6_bitCount_0f7a4_22 rfl ?_
  refine x_istore0 dJ6_bitCount_0f7a4_23 (by decide) rfl ?_
  refine x_iload0 dJ6_bitCount_0f7a4_24 ?_
  refine x_iload0 dJ6_bitCount_0f7a4_25 ?_
  refine x_iconst dJ6_bitCount_0f7a4_26 ⟨by decide, by decide⟩ ?_
  refine x_iushr dJ6_bitCount_0f7a4_27 rfl ?_
  refine x_iadd dJ6_bitCount_0f7a4_28 rfl ?_
  refine x_ldcw (v := 252645135) dJ6_bitCount_0f7a4_29 ⟨by decide, by decide⟩ ct_J6_267 ?_
  refine x_iand dJ6_bitCount_0f7a4_32 rfl ?_
  refine x_istore0 dJ6_bitCount_0f7a4_33 (by decide) rfl ?_
  refine x_iload0 dJ6_bitCount_0f7a4_34 ?_
  refine x_iload0 dJ6_bitCount_0f7a4_35 ?_
  refine x_bipush dJ6_bitCount_0f7a4_36 ⟨by decide, by decide⟩ ?_
  refine x_iushr dJ6_bitCount_0f7a4_38 rfl ?_
  refine x_iadd dJ6_bitCount_0f7a4_39 rfl ?_
  refine x_istore0 dJ6_bitCount_0f7a4_40 (by decide) rfl ?_
  refine x_iload0 dJ6_bitCount_0f7a4_41 ?_
  refine x_iload0 dJ6_bitCount_0f7a4_42 ?_
  refine x_bipush dJ6_bitCount_0f7a4_43 ⟨by decide, by decide⟩ ?_
  refine x_iushr dJ6_bitCount_0f7a4_45 rfl ?_
  refine x_iadd dJ6_bitCount_0f7a4_46 rfl ?_
  refine x_istore0 dJ6_bitCount_0f7a4_47 (by decide) rfl ?_
  refine x_iload0 dJ6_bitCount_0f7a4_48 ?_
  refine x_bipush dJ6_bitCount_0f7a4_49 ⟨by decide, by decide⟩ ?_
  refine x_iand dJ6_bitCount_0f7a4_51 rfl ?_
  refine xe_i dJ6_bitCount_0f7a4_52 ⟨?_, rfl⟩
  rw [← bcx_eq h0 h1]
  rfl
/-- a set of the nests below n -/
def sub6 (n y : Int) : Prop := 0 ≤ y ∧ y < 64 ∧ ∀ i, n ≤ i → i < 6 → bt y i = 0
theorem bt_01f : ∀ (y : Fin 64) (i : Fin 6), bt (y.val : Int) (i.val : Int) = 0 ∨ bt (y.val : Int) (i.val : Int) = 1 := by decide +kernel
theorem bt_01 {y i : Int} (h0 : 0 ≤ y) (h1 : y < 64) (h2 : 0 ≤ i) (h3 : i < 6) : bt y i = 0 ∨ bt y i = 1 := by
  have h := bt_01f ⟨y.toNat, by omega⟩ ⟨i.toNat, by omega⟩
  have e : ((y.toNat : Nat) : Int) = y := by omega
  have e2 : ((i.toNat : Nat) : Int) = i := by omega
  simpa only [e, e2] using h
theorem smI_ext {f : Int → Int} {n k : Nat} (h : ∀ i : Int, n ≤ i → i < n + k → f i = 0) : smI f (n + k) = smI f n := by
  induction k with
  | zero => rfl
  | succ k ih =>
    show smI f (n + k) + f ((n + k : Nat) : Int) = _
    rw [ih (fun i h0 h1 => h i h0 (by omega)), h _ (by omega) (by omega)]
    omega
theorem sub6_sum {n y : Int} (hn : 0 ≤ n ∧ n ≤ 6) (h : sub6 n y) : smI (bt y) 6 = smI (bt y) n.toNat := by
  have := smI_ext (f := bt y) (n := n.toNat) (k := 6 - n.toNat) (fun i h0 h1 => h.2.2 i (by omega) (by omega))
  rw [← this]
  congr 1
  omega
/-- the weights hold f below n -/
def WP (m : zz_M) (b : Nat) (f : Int → Int) (n : Int) : Prop := ∀ z, 0 ≤ z → z < n → m (b + 7) z.toNat = f z
theorem WP.put {m : zz_M} {b : Nat} {f : Int → Int} {n x : Int} (h : WP m b f n) (h0 : 0 ≤ n) (hx : x = f n) : WP (up m (b + 7) n.toNat x) b f (n + 1) := by
  intro z h1 h2
  unfold up
  by_cases hz : z = n
  · subst hz
    rw [if_pos ⟨rfl, rfl⟩, hx]
  · rw [if_neg (fun q => hz (by have := q.2; omega))]
    exact h z h1 (by omega)
theorem s_weighAlike (hb : YB b) (hY : YP m b V) (hn : 0 ≤ V 0 0 ∧ V 0 0 ≤ 6) {y : Int} (hy : sub6 (V 0 0) y) : Mt E 2 yX2_weighAlike cX2_weighAlike 3 (some .int) [zr b, zi y] m (fun r m' => r = some (zi (smI (bt y) (V 0 0).toNat)) ∧ WP m' b (bt y) (V 0 0) ∧ YP m' b V ∧ Fr (b + 7) (b + 8) m m') := by
  refine Mt.of 1 (by decide +kernel) (Nat.le_of_ble_eq_true rfl) (Or.inl rfl) ?_ ?_
  · rintro r m' ⟨rfl, -⟩; simp
  show Ex E cX2_weighAlike 3 RX2 2 _ 0 [some (zr b), some (zi y), none] [] m
  have loop : ∀ (k j : Nat) (m1 : zz_M), (j : Int) + k = V 0 0 → WP m1 b (bt y) j → YP m1 b V → Fr (b + 7) (b + 8) m m1 → Ex E cX2_weighAlike 3 RX2 2 (fun r m' => r = some (zi (smI (bt y) (V 0 0).toNat)) ∧ WP m' b (bt y) (V 0 0) ∧ YP m' b V ∧ Fr (b + 7) (b + 8) m m') 2 [some (zr b), some (zi y), some (zi j)] [] m1 := by
    intro k
    induction k with
    | zero =>
      intro j m1 hj hW hY hF
      refine x_iload2 dX2_weighAlike_2 ?_
      refine x_aload0 dX2_weighAlike_3 ?_
      refine x_getI dX2_weighAlike_4 fd_X2_43 (by first | rfl | exact yb_k (by assumption)) (Or.inl rfl) (v := V 0 0) hY.nests ?_
      refine x_icmp_ge (tgt := 27) dX2_weighAlike_7 rfl (fun hc => ?_) (fun hc => ?_)
      · refine x_iload1 dX2_weighAlike_27 ?_
        refine x_calls1 dX2_weighAlike_28 cv_X2_84 cs_J6_bitCount_0f7a4 (by decide) (Nat.le_of_ble_eq_true rfl) (s_bitCount hy.1 hy.2.1) (fun r m2 hq => ?_)
        obtain ⟨rfl, rfl⟩ := hq
        have hj2 : (j : Int) = V 0 0 := by omega
        exact xe_i dX2_weighAlike_31 (⟨by rw [sub6_sum hn hy], by rw [← hj2]; exact hW, hY, hF⟩)
      · omega
    | succ k ih =>
      intro j m1 hj hW hY hF
      refine x_iload2 dX2_weighAlike_2 ?_
      refine x_aload0 dX2_weighAlike_3 ?_
      refine x_getI dX2_weighAlike_4 fd_X2_43 (by first | rfl | exact yb_k (by assumption)) (Or.inl rfl) (v := V 0 0) hY.nests ?_
      refine x_icmp_ge (tgt := 27) dX2_weighAlike_7 rfl (fun hc => ?_) (fun hc => ?_)
      · omega
      · refine x_aload0 dX2_weighAlike_10 ?_
        refine x_getR (q := b + 7) dX2_weighAlike_11 fd_X2_30 (by first | rfl | exact yb_k (by assumption)) rfl (yb_p6 (by assumption)) ?_
        refine x_iload2 dX2_weighAlike_14 ?_
        refine x_iload1 dX2_weighAlike_15 ?_
        refine x_iload2 dX2_weighAlike_16 ?_
        refine x_ishr dX2_weighAlike_17 rfl ?_
        refine x_iconst dX2_weighAlike_18 ⟨by decide, by decide⟩ ?_
        refine x_iand dX2_weighAlike_19 rfl ?_
        refine x_iast dX2_weighAlike_20 (yb_a6 (by assumption)) (by omega) (by omega) ?_
        refine x_iinc2 dX2_weighAlike_21 (by decide) rfl (nrm_id (by omega) (by omega)) ?_
        refine x_goto (tgt := 2) dX2_weighAlike_24 rfl ?_
        refine Ex.eq (by push_cast; rfl) rfl rfl (ih (j + 1) _ (by omega) ?_ hY.w (hF.up (by omega) (by omega)))
        have := hW.put (by omega) (x := bt y j) rfl
        push_cast
        exact this
  refine x_iconst dX2_weighAlike_0 ⟨by decide, by decide⟩ ?_
  refine x_istore2 dX2_weighAlike_1 (by decide) rfl ?_
  exact loop (V 0 0).toNat 0 m (by omega) (fun z h0 h1 => by omega) hY Fr.rf
theorem lfrom_ok (hI : Iv D V) : 0 ≤ lfrom V ∧ lfrom V < 6 := by
  obtain ⟨hn, hl, -⟩ := hI
  unfold lfrom
  split <;> omega
theorem near_bd (hI : Iv D V) {n : Int} (h0 : 0 ≤ n) (h1 : n < 6) : 2 ≤ near V n ∧ near V n ≤ 20 := by
  have hf := lfrom_ok hI
  obtain ⟨hn, hl, hk0, hd, hk, hfg, ht, hr, hx, he, hz⟩ := hI
  have g1 := hx n h0 h1
  have g2 := hx _ hf.1 hf.2
  unfold near zabs
  split <;> split <;> omega
theorem away_bd (hI : Iv D V) {n : Int} (h0 : 0 ≤ n) (h1 : n < 6) : 0 ≤ away V n ∧ away V n ≤ 20 := by
  have := near_bd hI h0 h1
  unfold away
  split <;> omega
theorem mul99 {a c : Int} (h0 : 0 ≤ a) (h1 : a ≤ 9) (h2 : 0 ≤ c) (h3 : c ≤ 9) : 0 ≤ a * c ∧ a * c ≤ 81 :=
  ⟨Int.mul_nonneg h0 h2, by have := Int.mul_le_mul h1 h3 h2 (by decide : (0 : Int) ≤ 9); omega⟩
theorem raw_bd (hI : Iv D V) {n : Int} (h0 : 0 ≤ n) (h1 : n < 6) : 0 ≤ raw V n ∧ raw V n ≤ 101 := by
  have h2 := near_bd hI h0 h1
  have h3 := away_bd hI h0 h1
  obtain ⟨hn, hl, hk0, hd, hk, hfg, ht, hr, hx, he, hz⟩ := hI
  have g1 := hx n h0 h1
  have g2 := eggs_bd he h0 h1 10 (by omega)
  have g3 : 0 ≤ V 0 7 * (if 0 < 9 - eggs V n then 9 - eggs V n else 0) ∧ V 0 7 * (if 0 < 9 - eggs V n then 9 - eggs V n else 0) ≤ 81 := by
    apply mul99 hfg.1 hfg.2
    · split <;> omega
    · unfold eggs
      split <;> omega
  unfold raw
  split
  · omega
  · split
    · omega
    · split
      · omega
      · split
        · omega
        · split
          · split <;> omega
          · omega
theorem tail_bd {x y c : Int} (hx : 0 ≤ x ∧ x ≤ c) (hy : 0 ≤ y ∧ y ≤ c) : 0 ≤ (if 0 ≤ x - y then x - y else -(x - y)) ∧ (if 0 ≤ x - y then x - y else -(x - y)) ≤ c := by
  split <;> omega
theorem s_weightOf (hb : YB b) (hY : YP m b V) (hI : Iv D V) {n : Int} (h0 : 0 ≤ n) (h1 : n < V 0 0) : Mt E 2 yX2_weightOf cX2_weightOf 5 (some .int) [zr b, zi n] m (ans (some (zi (raw V n))) m) := by
  have hlf := lfrom_ok hI
  have hI2 := hI
  obtain ⟨hn, hl, hk0, hd, hk, hfg, ht, hr, hx, he, hz⟩ := hI
  refine Mt.of 3 (by decide +kernel) (Nat.le_of_ble_eq_true rfl) (Or.inl rfl) ?_ ?_
  · rintro r m' ⟨rfl, rfl⟩; simp
  show Ex E cX2_weightOf 5 RX2 2 _ 0 [some (zr b), some (zi n), none, none, none] [] m
  have hnb := near_bd hI2 h0 (show n < 6 by omega)
  have hab := away_bd hI2 h0 (show n < 6 by omega)
  have g1 := hx n h0 (by omega)
  have g2 := hx _ hlf.1 hlf.2
  -- from 79: the kinds
  have kinds : Ex E cX2_weightOf 5 RX2 2 (ans (some (zi (raw V n))) m) 79 [some (zr b), some (zi n), some (zi (lfrom V)), some (zi (near V n)), some (zi (away V n))] [] m := by
    refine x_aload0 dX2_weightOf_79 ?_
    refine x_getR (q := b + 6) dX2_weightOf_80 fd_X2_27 (by first | rfl | exact yb_k (by assumption)) rfl (yb_p5 (by assumption)) ?_
    refine x_iconst dX2_weightOf_83 ⟨by decide, by decide⟩ ?_
    refine x_iald dX2_weightOf_84 (yb_a5 (by assumption)) (by omega) (by omega) (v := V 0 6) hY.kind ?_
    have hkk : V 0 6 = 0 ∨ V 0 6 = 1 ∨ V 0 6 = 2 ∨ V 0 6 = 3 ∨ V 0 6 = 4 ∨ V 0 6 = 5 := by omega
    rcases hkk with q | q | q | q | q | q
    · rw [q]
      refine x_tout (tgt := 179) dX2_weightOf_85 (by omega) rfl ?_
      refine x_iload3 dX2_weightOf_179 ?_
      exact xe_i dX2_weightOf_180 (⟨by rw [raw, q]; rfl, rfl⟩)
    · rw [q]
      refine x_tin (tgt := 120) (off := 35) dX2_weightOf_85 (by decide) (by decide) rfl rfl ?_
      refine x_aload0 dX2_weightOf_120 ?_
      refine x_getR (q := b + 4) dX2_weightOf_121 fd_X2_21 (by first | rfl | exact yb_k (by assumption)) rfl (yb_p3 (by assumption)) ?_
      refine x_iload1 dX2_weightOf_124 ?_
      refine x_iald dX2_weightOf_125 (yb_a3 (by assumption)) (by omega) (by omega) (v := V 4 n) (hY.lik h0 (by omega)) ?_
      exact xe_i dX2_weightOf_126 (⟨by rw [raw, q]; rfl, rfl⟩)
    · rw [q]
      refine x_tin (tgt := 127) (off := 42) dX2_weightOf_85 (by decide) (by decide) rfl rfl ?_
      refine x_iconst dX2_weightOf_127 ⟨by decide, by decide⟩ ?_
      exact xe_i dX2_weightOf_128 (⟨by rw [raw, q]; rfl, rfl⟩)
    · rw [q]
      refine x_tin (tgt := 129) (off := 44) dX2_weightOf_85 (by decide) (by decide) rfl rfl ?_
      refine x_iload4 dX2_weightOf_129 ?_
      exact xe_i dX2_weightOf_131 (⟨by rw [raw, q]; rfl, rfl⟩)
    · rw [q]
      refine x_tin (tgt := 132) (off := 47) dX2_weightOf_85 (by decide) (by decide) rfl rfl ?_
      refine x_iload4 dX2_weightOf_132 ?_
      refine x_aload0 dX2_weightOf_134 ?_
      refine x_getR (q := b + 6) dX2_weightOf_135 fd_X2_27 (by first | rfl | exact yb_k (by assumption)) rfl (yb_p5 (by assumption)) ?_
      refine x_iconst dX2_weightOf_138 ⟨by decide, by decide⟩ ?_
      refine x_iald dX2_weightOf_139 (yb_a5 (by assumption)) (by omega) (by omega) (v := V 0 7) hY.figure ?_
      refine x_iconst dX2_weightOf_140 ⟨by decide, by decide⟩ ?_
      refine x_bipush dX2_weightOf_141 ⟨by decide, by decide⟩ ?_
      refine x_aload0 dX2_weightOf_143 ?_
      refine x_iload1 dX2_weightOf_144 ?_
      refine x_callv1 dX2_weightOf_145 cv_X2_68 ci_X2_eggsAt (by first | rfl | exact yb_k (by assumption)) (T := TX2) rfl (by decide) (Nat.le_of_ble_eq_true rfl) (s_eggsAt hb hY he (n := n) h0 (by omega)) (fun r m1 hq => ?_)
      obtain ⟨rfl, rfl⟩ := hq
      have g3 := eggs_bd he h0 (show n < 6 by omega) 10 (by omega)
      have g5 : eggs V n = smI (fun a => V 5 (10 * n + a)) 10 := rfl
      rw [← g5] at g3
      show Ex _ _ _ _ _ _ _ _ [zi (eggs V n), zi 9, zi 0, zi (V 0 7), zi (away V n)] _
      have g4 : 0 ≤ V 0 7 * (if 0 < 9 - eggs V n then 9 - eggs V n else 0) ∧ V 0 7 * (if 0 < 9 - eggs V n then 9 - eggs V n else 0) ≤ 81 := by
        apply mul99 hfg.1 hfg.2
        · split <;> omega
        · split <;> omega
      refine x_isub dX2_weightOf_148 (nrm_id (by omega) (by omega)) ?_
      refine x_max dX2_weightOf_149 mx_X2_94 (by decide) (Nat.le_of_ble_eq_true rfl) rfl ?_
      refine x_imul dX2_weightOf_152 (nrm_id (by omega) (by omega)) ?_
      refine x_iadd dX2_weightOf_153 (nrm_id (by omega) (by omega)) ?_
      exact xe_i dX2_weightOf_154 (⟨by rw [raw, q]; rfl, rfl⟩)
    · rw [q]
      refine x_tin (tgt := 155) (off := 70) dX2_weightOf_85 (by decide) (by decide) rfl rfl ?_
      refine x_aload0 dX2_weightOf_155 ?_
      refine x_getR (q := b + 4) dX2_weightOf_156 fd_X2_21 (by first | rfl | exact yb_k (by assumption)) rfl (yb_p3 (by assumption)) ?_
      refine x_iload1 dX2_weightOf_159 ?_
      refine x_iald dX2_weightOf_160 (yb_a3 (by assumption)) (by omega) (by omega) (v := V 4 n) (hY.lik h0 (by omega)) ?_
      refine x_iload1 dX2_weightOf_161 ?_
      refine x_aload0 dX2_weightOf_162 ?_
      refine x_getR (q := b + 6) dX2_weightOf_163 fd_X2_27 (by first | rfl | exact yb_k (by assumption)) rfl (yb_p5 (by assumption)) ?_
      refine x_iconst dX2_weightOf_166 ⟨by decide, by decide⟩ ?_
      refine x_iald dX2_weightOf_167 (yb_a5 (by assumption)) (by omega) (by omega) (v := V 0 7) hY.figure ?_
      refine x_icmp_ne (tgt := 176) dX2_weightOf_168 rfl (fun hc => ?_) (fun hc => ?_)
      · refine x_iconst dX2_weightOf_176 ⟨by decide, by decide⟩ ?_
        refine x_iadd dX2_weightOf_177 (nrm_id (by omega) (by omega)) ?_
        exact xe_i dX2_weightOf_178 (⟨by rw [raw, q, if_neg hc]; rfl, rfl⟩)
      · refine x_bipush dX2_weightOf_171 ⟨by decide, by decide⟩ ?_
        refine x_goto (tgt := 177) dX2_weightOf_173 rfl ?_
        refine x_iadd dX2_weightOf_177 (nrm_id (by omega) (by omega)) ?_
        exact xe_i dX2_weightOf_178 (⟨by rw [raw, q, if_pos hc]; rfl, rfl⟩)
  -- from 26: the way
  have way : Ex E cX2_weightOf 5 RX2 2 (ans (some (zi (raw V n))) m) 26 [some (zr b), some (zi n), none, none, none] [zi (lfrom V)] m := by
    have a1 := tail_bd g1.1 g2.1
    have a2 := tail_bd g1.2.1 g2.2.1
    refine x_istore2 dX2_weightOf_26 (by decide) rfl ?_
    refine x_bipush dX2_weightOf_27 ⟨by decide, by decide⟩ ?_
    refine x_aload0 dX2_weightOf_29 ?_
    refine x_getR (q := b + 1) dX2_weightOf_30 fd_X2_9 (by first | rfl | exact yb_k (by assumption)) rfl (yb_p0 (by assumption)) ?_
    refine x_iload1 dX2_weightOf_33 ?_
    refine x_iald dX2_weightOf_34 (yb_a0 (by assumption)) (by omega) (by omega) (v := V 1 n) (hY.x h0 (by omega)) ?_
    refine x_aload0 dX2_weightOf_35 ?_
    refine x_getR (q := b + 1) dX2_weightOf_36 fd_X2_9 (by first | rfl | exact yb_k (by assumption)) rfl (yb_p0 (by assumption)) ?_
    refine x_iload2 dX2_weightOf_39 ?_
    refine x_iald dX2_weightOf_40 (yb_a0 (by assumption)) (by omega) (by omega) (v := V 1 (lfrom V)) (hY.x hlf.1 hlf.2) ?_
    refine x_isub dX2_weightOf_41 (nrm_id (by omega) (by omega)) ?_
    refine x_abs dX2_weightOf_42 ma_X2_89 (by decide) (Nat.le_of_ble_eq_true rfl) (v := zabs (V 1 n - V 1 (lfrom V))) (nrm_id (by omega) (by omega)) ?_
    refine x_isub dX2_weightOf_45 (v := 20 - zabs (V 1 n - V 1 (lfrom V))) (nrm_id (by unfold zabs; omega) (by unfold zabs; omega)) ?_
    refine x_aload0 dX2_weightOf_46 ?_
    refine x_getR (q := b + 2) dX2_weightOf_47 fd_X2_15 (by first | rfl | exact yb_k (by assumption)) rfl (yb_p1 (by assumption)) ?_
    refine x_iload1 dX2_weightOf_50 ?_
    refine x_iald dX2_weightOf_51 (yb_a1 (by assumption)) (by omega) (by omega) (v := V 2 n) (hY.y h0 (by omega)) ?_
    refine x_aload0 dX2_weightOf_52 ?_
    refine x_getR (q := b + 2) dX2_weightOf_53 fd_X2_15 (by first | rfl | exact yb_k (by assumption)) rfl (yb_p1 (by assumption)) ?_
    refine x_iload2 dX2_weightOf_56 ?_
    refine x_iald dX2_weightOf_57 (yb_a1 (by assumption)) (by omega) (by omega) (v := V 2 (lfrom V)) (hY.y hlf.1 hlf.2) ?_
    refine x_isub dX2_weightOf_58 (nrm_id (by omega) (by omega)) ?_
    refine x_abs dX2_weightOf_59 ma_X2_89 (by decide) (Nat.le_of_ble_eq_true rfl) (v := zabs (V 2 n - V 2 (lfrom V))) (nrm_id (by omega) (by omega)) ?_
    refine x_isub dX2_weightOf_62 (v := near V n) (nrm_id (by unfold zabs; omega) (by unfold zabs; omega)) ?_
    refine x_istore3 dX2_weightOf_63 (by decide) rfl ?_
    refine x_iload1 dX2_weightOf_64 ?_
    refine x_aload0 dX2_weightOf_65 ?_
    refine x_getI dX2_weightOf_66 fd_X2_33 (by first | rfl | exact yb_k (by assumption)) (Or.inl rfl) (v := lc (V 0 1)) hY.last ?_
    refine x_icmp_ne (tgt := 76) dX2_weightOf_69 rfl (fun hc => ?_) (fun hc => ?_)
    · refine x_iload3 dX2_weightOf_76 ?_
      refine x_istore4 dX2_weightOf_77 (by decide) rfl ?_
      have e1 : away V n = near V n := if_neg (fun q => hc (by rw [q, lc_nn (by omega)]))
      exact Ex.eq (by rw [e1]) rfl rfl kinds
    · refine x_iconst dX2_weightOf_72 ⟨by decide, by decide⟩ ?_
      refine x_goto (tgt := 77) dX2_weightOf_73 rfl ?_
      refine x_istore4 dX2_weightOf_77 (by decide) rfl ?_
      have e1 : away V n = 0 := if_pos (by unfold lc at hc; split at hc <;> omega)
      exact Ex.eq (by rw [e1]) rfl rfl kinds
  refine x_aload0 dX2_weightOf_0 ?_
  refine x_getI dX2_weightOf_1 fd_X2_33 (by first | rfl | exact yb_k (by assumption)) (Or.inl rfl) (v := lc (V 0 1)) hY.last ?_
  refine x_if_lt (tgt := 25) dX2_weightOf_4 rfl (fun hc => ?_) (fun hc => ?_)
  · refine x_iconst dX2_weightOf_25 ⟨by decide, by decide⟩ ?_
    have e1 : lfrom V = 0 := if_pos (by unfold lc at hc; split at hc <;> omega)
    exact Ex.eq rfl (by rw [e1]) rfl way
  · refine x_aload0 dX2_weightOf_7 ?_
    refine x_getI dX2_weightOf_8 fd_X2_33 (by first | rfl | exact yb_k (by assumption)) (Or.inl rfl) (v := lc (V 0 1)) hY.last ?_
    refine x_aload0 dX2_weightOf_11 ?_
    refine x_getI dX2_weightOf_12 fd_X2_43 (by first | rfl | exact yb_k (by assumption)) (Or.inl rfl) (v := V 0 0) hY.nests ?_
    have hc1 : 0 ≤ V 0 1 := by unfold lc at hc; split at hc <;> omega
    rw [lc_nn hc1]
    refine x_icmp_ge (tgt := 25) dX2_weightOf_15 rfl (fun hc2 => ?_) (fun hc2 => ?_)
    · omega
    · refine x_aload0 dX2_weightOf_18 ?_
      refine x_getI dX2_weightOf_19 fd_X2_33 (by first | rfl | exact yb_k (by assumption)) (Or.inl rfl) (v := lc (V 0 1)) hY.last ?_
      refine x_goto (tgt := 26) dX2_weightOf_22 rfl ?_
      have e1 : lfrom V = V 0 1 := if_neg (by omega)
      exact Ex.eq rfl (by rw [e1, lc_nn hc1]) rfl way
end YM3
end
section
section YM4
variable {E : zz_E} {m : zz_M} {b : Nat} {V : zz_W} {D : Int}
theorem may_f : ∀ (p l : Fin 64), (0 ≤ ian (p.val : Int) (ixr (l.val : Int) (-1)) ∧ ian (p.val : Int) (ixr (l.val : Int) (-1)) < 64) ∧ ∀ i : Fin 6, bt (p.val : Int) (i.val : Int) = 0 → bt (ian (p.val : Int) (ixr (l.val : Int) (-1))) (i.val : Int) = 0 := by decide +kernel
theorem nat_of {y : Int} (h : 0 ≤ y) : ((y.toNat : Nat) : Int) = y := by omega
theorem may_sub {n p : Int} (hn : 0 ≤ n) (hl : 0 ≤ V 0 2 ∧ V 0 2 < 64) (hp : sub6 n p) : sub6 n (may V p) := by
  unfold may
  split
  · exact hp
  · have h := may_f ⟨p.toNat, by have := hp.1; have := hp.2.1; omega⟩ ⟨(V 0 2).toNat, by omega⟩
    simp only [nat_of hp.1, nat_of hl.1] at h
    refine ⟨h.1.1, h.1.2, fun i h0 h1 => ?_⟩
    have h2 := h.2 ⟨i.toNat, by omega⟩
    simp only [nat_of (show 0 ≤ i by omega)] at h2
    exact h2 (hp.2.2 i h0 h1)
theorem WP.cg {m : zz_M} {f g : Int → Int} {n : Int} (h : WP m b f n) (e : ∀ z, 0 ≤ z → z < n → f z = g z) : WP m b g n := fun z h0 h1 => (h z h0 h1).trans (e z h0 h1)
def wf (V : zz_W) (y : Int) (n : Int) : Int := if bt y n = 1 then raw V n else 0
theorem wf_bd (hI : Iv D V) (y : Int) {n : Int} (h0 : 0 ≤ n) (h1 : n < 6) : 0 ≤ wf V y n ∧ wf V y n ≤ 101 := by
  have := raw_bd hI h0 h1
  unfold wf
  split <;> omega
theorem wsum_eq (y : Int) : wsum V y = smI (wf V y) (V 0 0).toNat := rfl
theorem s_weigh (hb : YB b) (hY : YP m b V) (hI : Iv D V) {y : Int} (hy : sub6 (V 0 0) y) : Mt E 3 yX2_weigh cX2_weigh 4 (some .int) [zr b, zi y] m (fun r m' => r = some (zi (wtot V y)) ∧ WP m' b (wt V y) (V 0 0) ∧ YP m' b V ∧ Fr (b + 7) (b + 8) m m') := by
  have hI2 := hI
  obtain ⟨hn, hl, hk0, hd, hk, hfg, ht, hr, hx, he, hz⟩ := hI
  refine Mt.of 2 (by decide +kernel) (Nat.le_of_ble_eq_true rfl) (Or.inl rfl) ?_ ?_
  · rintro r m' ⟨rfl, -⟩; simp
  show Ex E cX2_weigh 4 RX2 3 _ 0 [some (zr b), some (zi y), none, none] [] m
  have loop : ∀ (k j : Nat) (m1 : zz_M), (j : Int) + k = V 0 0 → WP m1 b (wf V y) j → YP m1 b V → Fr (b + 7) (b + 8) m m1 → Ex E cX2_weigh 4 RX2 3 (fun r m' => r = some (zi (wtot V y)) ∧ WP m' b (wt V y) (V 0 0) ∧ YP m' b V ∧ Fr (b + 7) (b + 8) m m') 4 [some (zr b), some (zi y), some (zi (smI (wf V y) j)), some (zi j)] [] m1 := by
    intro k
    induction k with
    | zero =>
      intro j m1 hj hW hY hF
      have hj2 : (V 0 0).toNat = j := by omega
      have hws : wsum V y = smI (wf V y) j := by rw [wsum_eq, hj2]
      refine x_iload3 dX2_weigh_4 ?_
      refine x_aload0 dX2_weigh_5 ?_
      refine x_getI dX2_weigh_6 fd_X2_43 (by first | rfl | exact yb_k (by assumption)) (Or.inl rfl) (v := V 0 0) hY.nests ?_
      refine x_icmp_ge (tgt := 51) dX2_weigh_9 rfl (fun hc => ?_) (fun hc => ?_)
      · refine x_iload2 dX2_weigh_51 ?_
        have hb0 := smI_bd (f := wf V y) (c := 101) j (fun i h0 h1 => wf_bd hI2 y h0 (by omega))
        refine x_if_le (tgt := 59) dX2_weigh_52 rfl (fun hc2 => ?_) (fun hc2 => ?_)
        · refine x_aload0 dX2_weigh_59 ?_
          refine x_iload1 dX2_weigh_60 ?_
          refine x_callv1 dX2_weigh_61 cv_X2_81 ci_X2_weighAlike (by first | rfl | exact yb_k (by assumption)) (T := TX2) rfl (by decide) (Nat.le_of_ble_eq_true rfl) (s_weighAlike hb hY hn hy) (fun r m2 hq => ?_)
          obtain ⟨rfl, hW2, hY2, hF2⟩ := hq
          exact xe_i dX2_weigh_64 (⟨by rw [wtot, if_pos (by omega)], hW2.cg (fun z _ _ => by rw [wt, if_pos (by omega)]), hY2, hF.tr hF2⟩)
        · refine x_iload2 dX2_weigh_55 ?_
          refine x_goto (tgt := 64) dX2_weigh_56 rfl ?_
          exact xe_i dX2_weigh_64 (⟨by rw [wtot, if_neg (by omega), hws], by rw [show V 0 0 = (j : Int) by omega]; exact hW.cg (fun z _ _ => by rw [wt, if_neg (by omega)]; rfl), hY, hF⟩)
      · omega
    | succ k ih =>
      intro j m1 hj hW hY hF
      have hb1 := smI_bd (f := wf V y) (c := 101) j (fun i h0 h1 => wf_bd hI2 y h0 (by omega))
      have hb2 := wf_bd hI2 y (n := j) (by omega) (by omega)
      have rest : ∀ (m2 : zz_M) (x : Int), x = wf V y j → WP m2 b (wf V y) j → YP m2 b V → Fr (b + 7) (b + 8) m m2 → Ex E cX2_weigh 4 RX2 3 (fun r m' => r = some (zi (wtot V y)) ∧ WP m' b (wt V y) (V 0 0) ∧ YP m' b V ∧ Fr (b + 7) (b + 8) m m') 35 [some (zr b), some (zi y), some (zi (smI (wf V y) j)), some (zi j)] [zi x, zi j, zr (b + 7)] m2 := by
        intro m2 x hx hW hY hF
        have hW3 := hW.put (by omega) hx
        have e1 : up m2 (b + 7) (j : Int).toNat x (b + 7) (j : Int).toNat = wf V y j := by rw [up_same, hx]
        refine x_iast dX2_weigh_35 (yb_a6 (by assumption)) (by omega) (by omega) ?_
        refine x_iload2 dX2_weigh_36 ?_
        refine x_aload0 dX2_weigh_37 ?_
        refine x_getR (q := b + 7) dX2_weigh_38 fd_X2_30 (by first | rfl | exact yb_k (by assumption)) rfl (yb_p6 (by assumption)) ?_
        refine x_iload3 dX2_weigh_41 ?_
        refine x_iald dX2_weigh_42 (yb_a6 (by assumption)) (by omega) (by omega) (v := wf V y j) e1 ?_
        refine x_iadd dX2_weigh_43 (nrm_id (by omega) (by omega)) ?_
        refine x_istore2 dX2_weigh_44 (by decide) rfl ?_
        refine x_iinc3 dX2_weigh_45 (by decide) rfl (nrm_id (by omega) (by omega)) ?_
        refine x_goto (tgt := 4) dX2_weigh_48 rfl ?_
        refine Ex.eq ?_ rfl rfl (ih (j + 1) _ (by omega) (by push_cast; exact hW3) hY.w (hF.up (by omega) (by omega)))
        simp only [List.cons.injEq, Option.some.injEq, Sum.inl.injEq, and_true, true_and, smI_succ]
        push_cast
        omega
      refine x_iload3 dX2_weigh_4 ?_
      refine x_aload0 dX2_weigh_5 ?_
      refine x_getI dX2_weigh_6 fd_X2_43 (by first | rfl | exact yb_k (by assumption)) (Or.inl rfl) (v := V 0 0) hY.nests ?_
      refine x_icmp_ge (tgt := 51) dX2_weigh_9 rfl (fun hc => ?_) (fun hc => ?_)
      · omega
      · refine x_aload0 dX2_weigh_12 ?_
        refine x_getR (q := b + 7) dX2_weigh_13 fd_X2_30 (by first | rfl | exact yb_k (by assumption)) rfl (yb_p6 (by assumption)) ?_
        refine x_iload3 dX2_weigh_16 ?_
        refine x_iload1 dX2_weigh_17 ?_
        refine x_iload3 dX2_weigh_18 ?_
        refine x_ishr dX2_weigh_19 rfl ?_
        refine x_iconst dX2_weigh_20 ⟨by decide, by decide⟩ ?_
        refine x_iand dX2_weigh_21 rfl ?_
        refine x_iconst dX2_weigh_22 ⟨by decide, by decide⟩ ?_
        refine x_icmp_ne (tgt := 34) dX2_weigh_23 rfl (fun hc2 => ?_) (fun hc2 => ?_)
        · have hc2 : bt y j ≠ 1 := hc2
          refine x_iconst dX2_weigh_34 ⟨by decide, by decide⟩ ?_
          exact rest m1 _ (by unfold wf; rw [if_neg hc2]) hW hY hF
        · refine x_aload0 dX2_weigh_26 ?_
          refine x_iload3 dX2_weigh_27 ?_
          refine x_callv1 dX2_weigh_28 cv_X2_78 ci_X2_weightOf (by first | rfl | exact yb_k (by assumption)) (T := TX2) rfl (by decide) (Nat.le_of_ble_eq_true rfl) (s_weightOf hb hY hI2 (n := j) (by omega) (by omega)) (fun r m2 hq => ?_)
          obtain ⟨rfl, rfl⟩ := hq
          show Ex _ _ _ _ _ _ _ _ [zi (raw V j), zi j, zr (b + 7)] _
          refine x_goto (tgt := 35) dX2_weigh_31 rfl ?_
          exact rest m2 _ (by unfold wf; exact (if_pos hc2).symm) hW hY hF
  refine x_iconst dX2_weigh_0 ⟨by decide, by decide⟩ ?_
  refine x_istore2 dX2_weigh_1 (by decide) rfl ?_
  refine x_iconst dX2_weigh_2 ⟨by decide, by decide⟩ ?_
  refine x_istore3 dX2_weigh_3 (by decide) rfl ?_
  exact loop (V 0 0).toNat 0 m (by omega) (fun z h0 h1 => by omega) hY Fr.rf
theorem irm_pos {a c : Int} (h0 : 0 ≤ a) (h1 : a ≤ 2147483647) (h2 : 0 < c) (h3 : c ≤ 2147483647) : irm a c = a % c := by
  unfold irm
  rw [rem_toInt, i32_of ⟨by omega, h1⟩, i32_of ⟨by omega, h3⟩, Int.tmod_eq_emod_of_nonneg h0]
theorem cnt_bd (y : Int) (n : Nat) (hy : 0 ≤ y ∧ y < 64) (hn : n ≤ 6) : 0 ≤ smI (bt y) n ∧ smI (bt y) n ≤ n := by
  have := smI_bd (f := bt y) (c := 1) n (fun i h0 h1 => by
    have := bt_01 hy.1 hy.2 h0 (show i < 6 by omega)
    omega)
  omega
theorem s_nestByLot (hb : YB b) (hY : YP m b V) (hI : Iv D V) (hD : D ≤ 20000) {y : Int} (hy : sub6 (V 0 0) y) : Mt E 2 yX2_nestByLot cX2_nestByLot 5 (some .int) [zr b, zi y] m (ans (some (zi (lc (if smI (bt y) (V 0 0).toNat = 0 then -1 else nth y (V 0 0).toNat 0 (irm (V 0 4 * (V 0 7 + 1)) (smI (bt y) (V 0 0).toNat)))))) m) := by
  obtain ⟨hn, hl, hk0, hd, hk, hfg, ht, hr, hx, he, hz⟩ := hI
  refine Mt.of 3 (by decide +kernel) (Nat.le_of_ble_eq_true rfl) (Or.inl rfl) ?_ ?_
  · rintro r m' ⟨rfl, rfl⟩; simp
  show Ex E cX2_nestByLot 5 RX2 2 _ 0 [some (zr b), some (zi y), none, none, none] [] m
  have hcb := cnt_bd y (V 0 0).toNat ⟨hy.1, hy.2.1⟩ (by omega)
  refine x_iload1 dX2_nestByLot_0 ?_
  refine x_calls1 dX2_nestByLot_1 cv_X2_84 cs_J6_bitCount_0f7a4 (by decide) (Nat.le_of_ble_eq_true rfl) (s_bitCount hy.1 hy.2.1) (fun r m1 hq => ?_)
  obtain ⟨rfl, rfl⟩ := hq
  rw [sub6_sum hn hy]
  show Ex _ _ _ _ _ _ _ _ [zi (smI (bt y) (V 0 0).toNat)] _
  refine x_istore2 dX2_nestByLot_4 (by decide) rfl ?_
  refine x_iload2 dX2_nestByLot_5 ?_
  refine x_if_ne (tgt := 12) dX2_nestByLot_6 rfl (fun hc => ?_) (fun hc => ?_)
  · have hab : 0 ≤ V 0 4 * (V 0 7 + 1) ∧ V 0 4 * (V 0 7 + 1) ≤ 200000 := by
      refine ⟨Int.mul_nonneg hd.1 (by omega), ?_⟩
      have := Int.mul_le_mul (show V 0 4 ≤ 20000 by omega) (show V 0 7 + 1 ≤ 10 by omega) (by omega) (by decide)
      omega
    refine x_aload0 dX2_nestByLot_12 ?_
    refine x_getI dX2_nestByLot_13 fd_X2_59 (by first | rfl | exact yb_k (by assumption)) (Or.inl rfl) (v := V 0 4) hY.day ?_
    refine x_aload0 dX2_nestByLot_16 ?_
    refine x_getR (q := b + 6) dX2_nestByLot_17 fd_X2_27 (by first | rfl | exact yb_k (by assumption)) rfl (yb_p5 (by assumption)) ?_
    refine x_iconst dX2_nestByLot_20 ⟨by decide, by decide⟩ ?_
    refine x_iald dX2_nestByLot_21 (yb_a5 (by assumption)) (by omega) (by omega) (v := V 0 7) hY.figure ?_
    refine x_iconst dX2_nestByLot_22 ⟨by decide, by decide⟩ ?_
    refine x_iadd dX2_nestByLot_23 (nrm_id (by omega) (by omega)) ?_
    refine x_imul dX2_nestByLot_24 (nrm_id (by omega) (by omega)) ?_
    refine x_iload2 dX2_nestByLot_25 ?_
    refine x_irem dX2_nestByLot_26 (by omega) rfl ?_
    refine x_istore3 dX2_nestByLot_27 (by decide) rfl ?_
    refine x_iconst dX2_nestByLot_28 ⟨by decide, by decide⟩ ?_
    refine x_istore4 dX2_nestByLot_29 (by decide) rfl ?_
    rw [if_neg hc]
    have hk9 : 0 ≤ irm (V 0 4 * (V 0 7 + 1)) (smI (bt y) (V 0 0).toNat) ∧ irm (V 0 4 * (V 0 7 + 1)) (smI (bt y) (V 0 0).toNat) < 6 := by
      rw [irm_pos (by omega) (by omega) (by omega) (by omega)]
      have := Int.emod_nonneg (V 0 4 * (V 0 7 + 1)) hc
      have := Int.emod_lt_of_pos (V 0 4 * (V 0 7 + 1)) (show 0 < smI (bt y) (V 0 0).toNat by omega)
      omega
    generalize irm (V 0 4 * (V 0 7 + 1)) (smI (bt y) (V 0 0).toNat) = q at hk9
    have loop : ∀ (k j : Nat) (q : Int), (j : Int) + k = V 0 0 → 0 ≤ q → q < 6 → Ex E cX2_nestByLot 5 RX2 2 (ans (some (zi (lc (nth y k j q)))) m1) 31 [some (zr b), some (zi y), some (zi (smI (bt y) (V 0 0).toNat)), some (zi q), some (zi j)] [] m1 := by
      intro k
      induction k with
      | zero =>
        intro j q hj hq0 hq1
        refine x_iload4 dX2_nestByLot_31 ?_
        refine x_aload0 dX2_nestByLot_33 ?_
        refine x_getI dX2_nestByLot_34 fd_X2_43 (by first | rfl | exact yb_k (by assumption)) (Or.inl rfl) (v := V 0 0) hY.nests ?_
        refine x_icmp_ge (tgt := 66) dX2_nestByLot_37 rfl (fun h3 => ?_) (fun h3 => ?_)
        · refine x_bipush dX2_nestByLot_66 ⟨by decide, by decide⟩ ?_
          exact xe_i dX2_nestByLot_68 (⟨rfl, rfl⟩)
        · omega
      | succ k ih =>
        intro j q hj hq0 hq1
        refine x_iload4 dX2_nestByLot_31 ?_
        refine x_aload0 dX2_nestByLot_33 ?_
        refine x_getI dX2_nestByLot_34 fd_X2_43 (by first | rfl | exact yb_k (by assumption)) (Or.inl rfl) (v := V 0 0) hY.nests ?_
        refine x_icmp_ge (tgt := 66) dX2_nestByLot_37 rfl (fun h3 => ?_) (fun h3 => ?_)
        · omega
        · refine x_iload1 dX2_nestByLot_40 ?_
          refine x_iload4 dX2_nestByLot_41 ?_
          refine x_ishr dX2_nestByLot_43 rfl ?_
          refine x_iconst dX2_nestByLot_44 ⟨by decide, by decide⟩ ?_
          refine x_iand dX2_nestByLot_45 rfl ?_
          refine x_iconst dX2_nestByLot_46 ⟨by decide, by decide⟩ ?_
          refine x_icmp_ne (tgt := 60) dX2_nestByLot_47 rfl (fun h4 => ?_) (fun h4 => ?_)
          · have h4 : bt y j ≠ 1 := h4
            refine x_iinc4 dX2_nestByLot_60 (by decide) rfl (nrm_id (by omega) (by omega)) ?_
            refine x_goto (tgt := 31) dX2_nestByLot_63 rfl ?_
            have e2 : nth y (k + 1) j q = nth y k ((j + 1 : Nat) : Int) q := by rw [nth, if_neg h4]; push_cast; rfl
            rw [e2]
            exact Ex.eq (by push_cast; rfl) rfl rfl (ih (j + 1) q (by omega) hq0 hq1)
          · have h4 : bt y j = 1 := h4
            refine x_iload3 dX2_nestByLot_50 ?_
            refine x_if_ne (tgt := 57) dX2_nestByLot_51 rfl (fun h5 => ?_) (fun h5 => ?_)
            · refine x_iinc3 dX2_nestByLot_57 (by decide) rfl (nrm_id (by omega) (by omega)) ?_
              refine x_iinc4 dX2_nestByLot_60 (by decide) rfl (nrm_id (by omega) (by omega)) ?_
              refine x_goto (tgt := 31) dX2_nestByLot_63 rfl ?_
              have e2 : nth y (k + 1) j q = nth y k ((j + 1 : Nat) : Int) (q - 1) := by rw [nth, if_pos h4, if_neg h5]; push_cast; rfl
              rw [e2]
              exact Ex.eq (by push_cast; rfl) rfl rfl (ih (j + 1) (q - 1) (by omega) (by omega) (by omega))
            · refine x_iload4 dX2_nestByLot_54 ?_
              exact xe_i dX2_nestByLot_56 (⟨by rw [nth, if_pos h4, if_pos h5, lc_nn (by omega)], rfl⟩)
    exact loop (V 0 0).toNat 0 q (by omega) hk9.1 hk9.2
  · refine x_bipush dX2_nestByLot_9 ⟨by decide, by decide⟩ ?_
    exact xe_i dX2_nestByLot_11 (⟨by rw [if_pos hc]; rfl, rfl⟩)
theorem amx_bd (f : Int → Int) : ∀ n : Nat, -1 ≤ (amx f n).1 ∧ (amx f n).1 < n ∧ 0 ≤ (amx f n).2
  | 0 => by simp [amx]
  | n + 1 => by
    have h := amx_bd f n
    unfold amx
    split
    · refine ⟨by show (-1 : Int) ≤ (n : Int); omega, by show (n : Int) < ((n + 1 : Nat) : Int); omega, by show 0 ≤ f n; omega⟩
    · refine ⟨h.1, by have := h.2.1; push_cast; omega, h.2.2⟩
theorem s_laysAmong (hb : YB b) (hY : YP m b V) (hI : Iv D V) (hD : D ≤ 20000) {p : Int} (hp : sub6 (V 0 0) p) : Mt E 4 yX2_laysAmong cX2_laysAmong 6 (some .int) [zr b, zi p] m (fun r m' => r = some (zi (lc (lays V p))) ∧ YP m' b V ∧ Fr (b + 7) (b + 8) m m') := by
  have hI2 := hI
  obtain ⟨hn, hl, hk0, hd, hk, hfg, ht, hr, hx, he, hz⟩ := hI
  have hy := may_sub hn.1 hk0 hp
  refine Mt.of 4 (by decide +kernel) (Nat.le_of_ble_eq_true rfl) (Or.inl rfl) ?_ ?_
  · rintro r m' ⟨rfl, -⟩; simp
  show Ex E cX2_laysAmong 6 RX2 4 _ 0 [some (zr b), some (zi p), none, none, none, none] [] m
  refine x_aload0 dX2_laysAmong_0 ?_
  refine x_iload1 dX2_laysAmong_1 ?_
  refine x_callv1 dX2_laysAmong_2 cv_X2_98 ci_X2_mayAmong (by first | rfl | exact yb_k (by assumption)) (T := TX2) rfl (by decide) (Nat.le_of_ble_eq_true rfl) (s_mayAmong hb hY) (fun r m1 hq => ?_)
  obtain ⟨rfl, rfl⟩ := hq
  show Ex _ _ _ _ _ _ _ _ [zi (may V p)] _
  refine x_istore2 dX2_laysAmong_5 (by decide) rfl ?_
  refine x_aload0 dX2_laysAmong_6 ?_
  refine x_getR (q := b + 6) dX2_laysAmong_7 fd_X2_27 (by first | rfl | exact yb_k (by assumption)) rfl (yb_p5 (by assumption)) ?_
  refine x_iconst dX2_laysAmong_10 ⟨by decide, by decide⟩ ?_
  refine x_iald dX2_laysAmong_11 (yb_a5 (by assumption)) (by omega) (by omega) (v := V 0 6) hY.kind ?_
  refine x_iconst dX2_laysAmong_12 ⟨by decide, by decide⟩ ?_
  refine x_icmp_ne (tgt := 22) dX2_laysAmong_13 rfl (fun hc => ?_) (fun hc => ?_)
  · refine x_aload0 dX2_laysAmong_22 ?_
    refine x_iload2 dX2_laysAmong_23 ?_
    refine x_callv1 dX2_laysAmong_24 cv_X2_104 ci_X2_weigh (by first | rfl | exact yb_k (by assumption)) (T := TX2) rfl (by decide) (Nat.le_of_ble_eq_true rfl) (s_weigh hb hY hI2 hy) (fun r m2 hq => ?_)
    obtain ⟨rfl, hW, hY2, hF2⟩ := hq
    show Ex _ _ _ _ _ _ _ _ [zi (wtot V (may V p))] _
    refine x_pop dX2_laysAmong_27 ?_
    refine x_bipush dX2_laysAmong_28 ⟨by decide, by decide⟩ ?_
    refine x_istore3 dX2_laysAmong_30 (by decide) rfl ?_
    refine x_iconst dX2_laysAmong_31 ⟨by decide, by decide⟩ ?_
    refine x_istore4 dX2_laysAmong_32 (by decide) rfl ?_
    refine x_iconst dX2_laysAmong_34 ⟨by decide, by decide⟩ ?_
    refine x_istore5 dX2_laysAmong_35 (by decide) rfl ?_
    have loop : ∀ (k j : Nat), (j : Int) + k = V 0 0 → Ex E cX2_laysAmong 6 RX2 4 (fun r m' => r = some (zi (lc (lays V p))) ∧ YP m' b V ∧ Fr (b + 7) (b + 8) m1 m') 37 [some (zr b), some (zi p), some (zi (may V p)), some (zi (lc (amx (wt V (may V p)) j).1)), some (zi (amx (wt V (may V p)) j).2), some (zi j)] [] m2 := by
      intro k
      induction k with
      | zero =>
        intro j hj
        refine x_iload5 dX2_laysAmong_37 ?_
        refine x_aload0 dX2_laysAmong_39 ?_
        refine x_getI dX2_laysAmong_40 fd_X2_43 (by first | rfl | exact yb_k (by assumption)) (Or.inl rfl) (v := V 0 0) hY2.nests ?_
        refine x_icmp_ge (tgt := 76) dX2_laysAmong_43 rfl (fun h3 => ?_) (fun h3 => ?_)
        · refine x_iload3 dX2_laysAmong_76 ?_
          have e1 : (V 0 0).toNat = j := by omega
          exact xe_i dX2_laysAmong_77 (⟨by rw [lays, if_neg hc, e1], hY2, hF2⟩)
        · omega
      | succ k ih =>
        intro j hj
        refine x_iload5 dX2_laysAmong_37 ?_
        refine x_aload0 dX2_laysAmong_39 ?_
        refine x_getI dX2_laysAmong_40 fd_X2_43 (by first | rfl | exact yb_k (by assumption)) (Or.inl rfl) (v := V 0 0) hY2.nests ?_
        refine x_icmp_ge (tgt := 76) dX2_laysAmong_43 rfl (fun h3 => ?_) (fun h3 => ?_)
        · omega
        · refine x_aload0 dX2_laysAmong_46 ?_
          refine x_getR (q := b + 7) dX2_laysAmong_47 fd_X2_30 (by first | rfl | exact yb_k (by assumption)) rfl (yb_p6 (by assumption)) ?_
          refine x_iload5 dX2_laysAmong_50 ?_
          refine x_iald dX2_laysAmong_52 (yb_a6 (by assumption)) (by omega) (by omega) (v := wt V (may V p) j) (hW j (by omega) (by omega)) ?_
          refine x_iload4 dX2_laysAmong_53 ?_
          refine x_icmp_le (tgt := 70) dX2_laysAmong_55 rfl (fun h4 => ?_) (fun h4 => ?_)
          · refine x_iinc5 dX2_laysAmong_70 (by decide) rfl (nrm_id (by omega) (by omega)) ?_
            refine x_goto (tgt := 37) dX2_laysAmong_73 rfl ?_
            have e2 : amx (wt V (may V p)) (j + 1) = amx (wt V (may V p)) j := by rw [amx, if_neg (by omega)]
            have := ih (j + 1) (by omega)
            rw [e2] at this
            exact Ex.eq (by push_cast; rfl) rfl rfl this
          · refine x_aload0 dX2_laysAmong_58 ?_
            refine x_getR (q := b + 7) dX2_laysAmong_59 fd_X2_30 (by first | rfl | exact yb_k (by assumption)) rfl (yb_p6 (by assumption)) ?_
            refine x_iload5 dX2_laysAmong_62 ?_
            refine x_iald dX2_laysAmong_64 (yb_a6 (by assumption)) (by omega) (by omega) (v := wt V (may V p) j) (hW j (by omega) (by omega)) ?_
            refine x_istore4 dX2_laysAmong_65 (by decide) rfl ?_
            refine x_iload5 dX2_laysAmong_67 ?_
            refine x_istore3 dX2_laysAmong_69 (by decide) rfl ?_
            refine x_iinc5 dX2_laysAmong_70 (by decide) rfl (nrm_id (by omega) (by omega)) ?_
            refine x_goto (tgt := 37) dX2_laysAmong_73 rfl ?_
            have e2 : amx (wt V (may V p)) (j + 1) = ((j : Int), wt V (may V p) j) := by rw [amx, if_pos (by omega)]
            have := ih (j + 1) (by omega)
            rw [e2] at this
            exact Ex.eq (by rw [lc_nn (by show (0 : Int) ≤ (j : Int); omega)]; push_cast; rfl) rfl rfl this
    exact Ex.eq rfl rfl rfl (loop (V 0 0).toNat 0 (by omega))
  · refine x_aload0 dX2_laysAmong_16 ?_
    refine x_iload2 dX2_laysAmong_17 ?_
    refine x_callv1 dX2_laysAmong_18 cv_X2_101 ci_X2_nestByLot (by first | rfl | exact yb_k (by assumption)) (T := TX2) rfl (by decide) (Nat.le_of_ble_eq_true rfl) (s_nestByLot hb hY hI2 hD hy) (fun r m2 hq => ?_)
    obtain ⟨rfl, rfl⟩ := hq
    exact xe_i dX2_laysAmong_21 (⟨by rw [lays, if_pos hc], hY, Fr.rf⟩)
/-- where a number below all weights together falls -/
def naw (f : Int → Int) : Nat → Int → Int → Int
  | 0, _, _ => -1
  | n + 1, i, r => if r < f i then i else naw f n (i + 1) (r - f i)
theorem s_nestAtWeight (hb : YB b) (hY : YP m b V) (hn : 0 ≤ V 0 0 ∧ V 0 0 ≤ 6) {f : Int → Int} (hW : WP m b f (V 0 0)) (hf : ∀ i, 0 ≤ i → i < V 0 0 → 0 ≤ f i ∧ f i ≤ 101) {x : Int} (h0 : 0 ≤ x) (h1 : x ≤ 1000000) : Mt E 1 yX2_nestAtWeight cX2_nestAtWeight 4 (some .int) [zr b, zi x] m (ans (some (zi (lc (naw f (V 0 0).toNat 0 x)))) m) := by
  refine Mt.of 2 (by decide +kernel) (Nat.le_of_ble_eq_true rfl) (Or.inl rfl) ?_ ?_
  · rintro r m' ⟨rfl, rfl⟩; simp
  show Ex E cX2_nestAtWeight 4 RX2 1 _ 0 [some (zr b), some (zi x), none, none] [] m
  have loop : ∀ (k j : Nat) (q : Int), (j : Int) + k = V 0 0 → 0 ≤ q → q ≤ 1000000 → Ex E cX2_nestAtWeight 4 RX2 1 (ans (some (zi (lc (naw f k j q)))) m) 4 [some (zr b), some (zi x), some (zi q), some (zi j)] [] m := by
    intro k
    induction k with
    | zero =>
      intro j q hj hq0 hq1
      refine x_iload3 dX2_nestAtWeight_4 ?_
      refine x_aload0 dX2_nestAtWeight_5 ?_
      refine x_getI dX2_nestAtWeight_6 fd_X2_43 (by first | rfl | exact yb_k (by assumption)) (Or.inl rfl) (v := V 0 0) hY.nests ?_
      refine x_icmp_ge (tgt := 39) dX2_nestAtWeight_9 rfl (fun h3 => ?_) (fun h3 => ?_)
      · refine x_bipush dX2_nestAtWeight_39 ⟨by decide, by decide⟩ ?_
        exact xe_i dX2_nestAtWeight_41 (⟨rfl, rfl⟩)
      · omega
    | succ k ih =>
      intro j q hj hq0 hq1
      have hfj := hf j (by omega) (by omega)
      refine x_iload3 dX2_nestAtWeight_4 ?_
      refine x_aload0 dX2_nestAtWeight_5 ?_
      refine x_getI dX2_nestAtWeight_6 fd_X2_43 (by first | rfl | exact yb_k (by assumption)) (Or.inl rfl) (v := V 0 0) hY.nests ?_
      refine x_icmp_ge (tgt := 39) dX2_nestAtWeight_9 rfl (fun h3 => ?_) (fun h3 => ?_)
      · omega
      · refine x_iload2 dX2_nestAtWeight_12 ?_
        refine x_aload0 dX2_nestAtWeight_13 ?_
        refine x_getR (q := b + 7) dX2_nestAtWeight_14 fd_X2_30 (by first | rfl | exact yb_k (by assumption)) rfl (yb_p6 (by assumption)) ?_
        refine x_iload3 dX2_nestAtWeight_17 ?_
        refine x_iald dX2_nestAtWeight_18 (yb_a6 (by assumption)) (by omega) (by omega) (v := f j) (hW j (by omega) (by omega)) ?_
        refine x_icmp_ge (tgt := 24) dX2_nestAtWeight_19 rfl (fun h4 => ?_) (fun h4 => ?_)
        · refine x_iload2 dX2_nestAtWeight_24 ?_
          refine x_aload0 dX2_nestAtWeight_25 ?_
          refine x_getR (q := b + 7) dX2_nestAtWeight_26 fd_X2_30 (by first | rfl | exact yb_k (by assumption)) rfl (yb_p6 (by assumption)) ?_
          refine x_iload3 dX2_nestAtWeight_29 ?_
          refine x_iald dX2_nestAtWeight_30 (yb_a6 (by assumption)) (by omega) (by omega) (v := f j) (hW j (by omega) (by omega)) ?_
          refine x_isub dX2_nestAtWeight_31 (nrm_id (by omega) (by omega)) ?_
          refine x_istore2 dX2_nestAtWeight_32 (by decide) rfl ?_
          refine x_iinc3 dX2_nestAtWeight_33 (by decide) rfl (nrm_id (by omega) (by omega)) ?_
          refine x_goto (tgt := 4) dX2_nestAtWeight_36 rfl ?_
          have e2 : naw f (k + 1) j q = naw f k ((j + 1 : Nat) : Int) (q - f j) := by rw [naw, if_neg (by omega)]; push_cast; rfl
          rw [e2]
          exact Ex.eq (by push_cast; rfl) rfl rfl (ih (j + 1) (q - f j) (by omega) (by omega) (by omega))
        · refine x_iload3 dX2_nestAtWeight_22 ?_
          exact xe_i dX2_nestAtWeight_23 (⟨by rw [naw, if_pos h4, lc_nn (by omega)], rfl⟩)
  refine x_iload1 dX2_nestAtWeight_0 ?_
  refine x_istore2 dX2_nestAtWeight_1 (by decide) rfl ?_
  refine x_iconst dX2_nestAtWeight_2 ⟨by decide, by decide⟩ ?_
  refine x_istore3 dX2_nestAtWeight_3 (by decide) rfl ?_
  exact loop (V 0 0).toNat 0 x (by omega) h0 h1
end YM4
end
section
theorem cpm_ne {m : zz_M} {a b n k : Nat} (h : k ≠ b) : cpm m a b n k = m k := by
  funext j
  exact if_neg (fun q => h q.1)
theorem cpm_eq {m : zz_M} {a b n j : Nat} (h : j < n) : cpm m a b n b j = m a j := if_pos ⟨rfl, h⟩
section YM5
variable {E : zz_E} {m : zz_M} {b : Nat} {V : zz_W} {D : Int}
/-- ages above a of the nest n are moved up -/
def agj (V : zz_W) (n a : Int) : zz_W := fun A z => if A = 5 ∧ 10 * n + a < z ∧ z < 10 * n + 10 then (if z - 10 * n < V 0 9 then V 5 (z - 1) else 0) else V A z
def agd (V : zz_W) (n : Int) : zz_W := ux (agj V n 0) 5 (10 * n) 0
theorem s_ageEggs (hb : YB b) (hY : YP m b V) {n q : Int} (h0 : 0 ≤ n) (h1 : n < 6) (hq : 10 * n = q) : Mt E 1 yX2_ageEggs cX2_ageEggs 3 none [zr b, zi q] m (fun r m' => r = none ∧ YP m' b (agd V n) ∧ Fr b (b + 8) m m') := by
  subst hq
  refine Mt.of 1 (by decide +kernel) (Nat.le_of_ble_eq_true rfl) (Or.inr (Or.inr (Or.inr rfl))) ?_ ?_
  · rintro r m' ⟨rfl, -⟩; simp
  show Ex E cX2_ageEggs 3 RX2 1 _ 0 [some (zr b), some (zi (10 * n)), none] [] m
  have loop : ∀ (k : Nat) (m1 : zz_M), k ≤ 9 → YP m1 b (agj V n k) → Fr b (b + 8) m m1 → Ex E cX2_ageEggs 3 RX2 1 (fun r m' => r = none ∧ YP m' b (agd V n) ∧ Fr b (b + 8) m m') 3 [some (zr b), some (zi (10 * n)), some (zi k)] [] m1 := by
    intro k
    induction k with
    | zero =>
      intro m1 hk hY hF
      refine x_iload2 dX2_ageEggs_3 ?_
      refine x_if_le (tgt := 45) dX2_ageEggs_4 rfl (fun hc => ?_) (fun hc => ?_)
      · refine x_aload0 dX2_ageEggs_45 ?_
        refine x_getR (q := b + 5) dX2_ageEggs_46 fd_X2_24 (by first | rfl | exact yb_k (by assumption)) rfl (yb_p4 (by assumption)) ?_
        refine x_iload1 dX2_ageEggs_49 ?_
        refine x_iconst dX2_ageEggs_50 ⟨by decide, by decide⟩ ?_
        refine x_iast dX2_ageEggs_51 (yb_a4 (by assumption)) (by omega) (by omega) ?_
        exact xe_v dX2_ageEggs_52 (⟨rfl, hY.eggup (by omega), hF.up (by omega) (by omega)⟩)
      · omega
    | succ k ih =>
      intro m1 hk hY hF
      have er : agj V n ((k + 1 : Nat) : Int) 0 9 = V 0 9 := if_neg (by omega)
      have rest : ∀ (x : Int), x = (if ((k + 1 : Nat) : Int) < V 0 9 then V 5 (10 * n + (k + 1 : Nat) - 1) else 0) → Ex E cX2_ageEggs 3 RX2 1 (fun r m' => r = none ∧ YP m' b (agd V n) ∧ Fr b (b + 8) m m') 38 [some (zr b), some (zi (10 * n)), some (zi ((k + 1 : Nat) : Int))] [zi x, zi (10 * n + (k + 1 : Nat)), zr (b + 5)] m1 := by
        intro x hx
        refine x_iast dX2_ageEggs_38 (yb_a4 (by assumption)) (by omega) (by omega) ?_
        refine x_iinc2 dX2_ageEggs_39 (by decide) rfl (nrm_id (by omega) (by omega)) ?_
        refine x_goto (tgt := 3) dX2_ageEggs_42 rfl ?_
        refine Ex.eq ?_ rfl rfl (ih _ (by omega) ?_ (hF.up (by omega) (by omega)))
        · rw [show ((k + 1 : Nat) : Int) + -1 = k from by omega]
        · refine (hY.eggup (by omega)).cg (fun a z => ?_)
          unfold ux agj
          by_cases ha : a = 5 ∧ z = 10 * n + (k + 1 : Nat)
          · rw [if_pos ha, if_pos (by omega), hx, ha.2]
            rw [show 10 * n + ((k + 1 : Nat) : Int) - 10 * n = (k + 1 : Nat) from by omega]
          · rw [if_neg ha]
            by_cases hb3 : a = 5 ∧ 10 * n + ((k + 1 : Nat) : Int) < z ∧ z < 10 * n + 10
            · rw [if_pos hb3, if_pos (show a = 5 ∧ 10 * n + (k : Int) < z ∧ z < 10 * n + 10 by omega)]
            · rw [if_neg hb3, if_neg (show ¬ (a = 5 ∧ 10 * n + (k : Int) < z ∧ z < 10 * n + 10) by omega)]
      refine x_iload2 dX2_ageEggs_3 ?_
      refine x_if_le (tgt := 45) dX2_ageEggs_4 rfl (fun hc => ?_) (fun hc => ?_)
      · omega
      · refine x_aload0 dX2_ageEggs_7 ?_
        refine x_getR (q := b + 5) dX2_ageEggs_8 fd_X2_24 (by first | rfl | exact yb_k (by assumption)) rfl (yb_p4 (by assumption)) ?_
        refine x_iload1 dX2_ageEggs_11 ?_
        refine x_iload2 dX2_ageEggs_12 ?_
        refine x_iadd dX2_ageEggs_13 (nrm_id (by omega) (by omega)) ?_
        refine x_iload2 dX2_ageEggs_14 ?_
        refine x_aload0 dX2_ageEggs_15 ?_
        refine x_getR (q := b + 6) dX2_ageEggs_16 fd_X2_27 (by first | rfl | exact yb_k (by assumption)) rfl (yb_p5 (by assumption)) ?_
        refine x_iconst dX2_ageEggs_19 ⟨by decide, by decide⟩ ?_
        refine x_iald dX2_ageEggs_20 (yb_a5 (by assumption)) (by omega) (by omega) (v := V 0 9) (by rw [hY.rat, er]) ?_
        refine x_icmp_ge (tgt := 37) dX2_ageEggs_21 rfl (fun h2 => ?_) (fun h2 => ?_)
        · refine x_iconst dX2_ageEggs_37 ⟨by decide, by decide⟩ ?_
          exact rest 0 (by rw [if_neg (by omega)])
        · refine x_aload0 dX2_ageEggs_24 ?_
          refine x_getR (q := b + 5) dX2_ageEggs_25 fd_X2_24 (by first | rfl | exact yb_k (by assumption)) rfl (yb_p4 (by assumption)) ?_
          refine x_iload1 dX2_ageEggs_28 ?_
          refine x_iload2 dX2_ageEggs_29 ?_
          refine x_iadd dX2_ageEggs_30 (nrm_id (by omega) (by omega)) ?_
          refine x_iconst dX2_ageEggs_31 ⟨by decide, by decide⟩ ?_
          refine x_isub dX2_ageEggs_32 (nrm_id (by omega) (by omega)) ?_
          refine x_iald dX2_ageEggs_33 (yb_a4 (by assumption)) (by omega) (by omega) (v := V 5 (10 * n + (k + 1 : Nat) - 1)) (by rw [hY.egg (by omega) (by omega)]; exact if_neg (by omega)) ?_
          refine x_goto (tgt := 38) dX2_ageEggs_34 rfl ?_
          exact rest _ (by rw [if_pos h2])
  refine x_bipush dX2_ageEggs_0 ⟨by decide, by decide⟩ ?_
  refine x_istore2 dX2_ageEggs_2 (by decide) rfl ?_
  refine loop 9 m (by omega) (hY.cg (fun a z => ?_)) Fr.rf
  unfold agj
  rw [if_neg (by omega)]
/-- the nests below j are a day older -/
def psj (V : zz_W) (j : Int) : zz_W := fun a z => if a = 5 ∧ 0 ≤ z ∧ z < 10 * j then (if z % 10 = 0 then 0 else if z % 10 < V 0 9 then V 5 (z - 1) else 0) else V a z
theorem psj_next (V : zz_W) (j : Nat) (a : Nat) (z : Int) : agd (psj V j) j a z = psj V ((j + 1 : Nat) : Int) a z := by
  unfold agd ux agj psj
  by_cases ha : a = 5
  · subst ha
    simp only [true_and]
    by_cases h1 : z = 10 * (j : Int)
    · rw [if_pos h1, if_pos (by omega), if_pos (by omega)]
    · rw [if_neg h1]
      by_cases h2 : 10 * (j : Int) + 0 < z ∧ z < 10 * (j : Int) + 10
      · rw [if_pos h2, if_pos (show 0 ≤ z ∧ z < 10 * ((j + 1 : Nat) : Int) by omega), if_neg (show ¬ z % 10 = 0 by omega), if_neg (show ¬ (0 ≤ z - 1 ∧ z - 1 < 10 * (j : Int)) by omega)]
        rw [show z - 10 * (j : Int) = z % 10 by omega]
        rfl
      · rw [if_neg h2]
        by_cases h4 : 0 ≤ z ∧ z < 10 * (j : Int)
        · rw [if_pos h4, if_pos (show 0 ≤ z ∧ z < 10 * ((j + 1 : Nat) : Int) by omega)]
        · rw [if_neg h4, if_neg (show ¬ (0 ≤ z ∧ z < 10 * ((j + 1 : Nat) : Int)) by omega)]
  · rw [if_neg (fun q => ha q.1), if_neg (fun q => ha q.1), if_neg (fun q => ha q.1), if_neg (fun q => ha q.1)]
theorem s_passNight (hb : YB b) (hY : YP m b V) (hI : Iv D V) (hD : D ≤ 20000) {w : Int} (hw : 0 ≤ w ∧ w < V 0 0) : Mt E 2 yX2_passNight cX2_passNight 3 none [zr b, zi w] m (fun r m' => r = none ∧ YP m' b (pass V w) ∧ Fr b (b + 8) m m') := by
  obtain ⟨hn, hl, hk0, hd, hk, hf, ht, hr, hx, he, hz⟩ := hI
  refine Mt.of 1 (by decide +kernel) (Nat.le_of_ble_eq_true rfl) (Or.inr (Or.inr (Or.inr rfl))) ?_ ?_
  · rintro r m' ⟨rfl, -⟩; simp
  show Ex E cX2_passNight 3 RX2 2 _ 0 [some (zr b), some (zi w), none] [] m
  have loop : ∀ (k j : Nat) (m1 : zz_M), (j : Int) + k = V 0 0 → YP m1 b (psj V j) → Fr b (b + 8) m m1 → Ex E cX2_passNight 3 RX2 2 (fun r m' => r = none ∧ YP m' b (pass V w) ∧ Fr b (b + 8) m m') 2 [some (zr b), some (zi w), some (zi j)] [] m1 := by
    intro k
    induction k with
    | zero =>
      intro j m1 hj hY hF
      refine x_iload2 dX2_passNight_2 ?_
      refine x_aload0 dX2_passNight_3 ?_
      refine x_getI dX2_passNight_4 fd_X2_43 (by first | rfl | exact yb_k (by assumption)) (Or.inl rfl) (v := V 0 0) hY.nests ?_
      refine x_icmp_ge (tgt := 24) dX2_passNight_7 rfl (fun hc => ?_) (fun hc => ?_)
      · refine x_iload1 dX2_passNight_24 ?_
        refine x_if_lt (tgt := 51) dX2_passNight_25 rfl (fun h2 => ?_) (fun h2 => ?_)
        · omega
        · refine x_iload1 dX2_passNight_28 ?_
          refine x_aload0 dX2_passNight_29 ?_
          refine x_getI dX2_passNight_30 fd_X2_43 (by first | rfl | exact yb_k (by assumption)) (Or.inl rfl) (v := V 0 0) hY.nests ?_
          refine x_icmp_ge (tgt := 51) dX2_passNight_33 rfl (fun h3 => ?_) (fun h3 => ?_)
          · omega
          · refine x_aload0 dX2_passNight_36 ?_
            refine x_getR (q := b + 5) dX2_passNight_37 fd_X2_24 (by first | rfl | exact yb_k (by assumption)) rfl (yb_p4 (by assumption)) ?_
            refine x_iload1 dX2_passNight_40 ?_
            refine x_bipush dX2_passNight_41 ⟨by decide, by decide⟩ ?_
            refine x_imul dX2_passNight_43 (nrm_id (by omega) (by omega)) ?_
            refine x_iconst dX2_passNight_44 ⟨by decide, by decide⟩ ?_
            refine x_iast dX2_passNight_45 (yb_a4 (by assumption)) (by omega) (by omega) ?_
            have hY2 : YP _ b _ := hY.eggup (z := w * 10) (x := 1) (by omega)
            refine x_aload0 dX2_passNight_46 ?_
            refine x_iload1 dX2_passNight_47 ?_
            refine x_putI dX2_passNight_48 fd_X2_33 (by first | rfl | exact yb_k (by assumption)) rfl ?_
            have hY3 := hY2.setLast (x := w)
            rw [lc_nn hw.1] at hY3
            refine x_aload0 dX2_passNight_51 ?_
            refine x_aload0 dX2_passNight_52 ?_
            refine x_getI dX2_passNight_53 fd_X2_56 (by first | rfl | exact yb_k (by assumption)) (Or.inl rfl) (v := V 0 2) hY3.looked ?_
            refine x_putI dX2_passNight_56 fd_X2_46 (by first | rfl | exact yb_k (by assumption)) rfl ?_
            have hY4 := hY3.setBefore (x := V 0 2)
            refine x_aload0 dX2_passNight_59 ?_
            refine x_iconst dX2_passNight_60 ⟨by decide, by decide⟩ ?_
            refine x_putI dX2_passNight_61 fd_X2_56 (by first | rfl | exact yb_k (by assumption)) rfl ?_
            have hY5 := hY4.setLooked (x := 0)
            refine x_aload0 dX2_passNight_64 ?_
            refine x_dupr dX2_passNight_65 ?_
            refine x_getI dX2_passNight_66 fd_X2_59 (by first | rfl | exact yb_k (by assumption)) (Or.inl rfl) (v := V 0 4) hY5.day ?_
            refine x_iconst dX2_passNight_69 ⟨by decide, by decide⟩ ?_
            refine x_iadd dX2_passNight_70 (nrm_id (by omega) (by omega)) ?_
            refine x_putI dX2_passNight_71 fd_X2_59 (by first | rfl | exact yb_k (by assumption)) rfl ?_
            have hY6 := hY5.setDay (x := V 0 4 + 1)
            refine xe_v dX2_passNight_74 ?_
            refine ⟨rfl, hY6.cg (fun a z => ?_), ((((hF.up (by omega) (by omega)).up (by omega) (by omega)).up (by omega) (by omega)).up (by omega) (by omega)).up (by omega) (by omega)⟩
            unfold ux psj pass
            rw [show (j : Int) = V 0 0 by omega]
            by_cases ha : a = 5
            · subst ha
              simp only [show ¬ ((5 : Nat) = 0) by decide, false_and, if_false, true_and, if_true]
              by_cases h7 : z = w * 10
              · rw [if_pos h7, if_pos (by omega), if_pos (by omega), if_pos (by omega)]
              · rw [if_neg h7]
                by_cases h8 : 0 ≤ z ∧ z < 10 * V 0 0
                · rw [if_pos h8, if_pos h8]
                  by_cases h9 : z % 10 = 0
                  · rw [if_pos h9, if_pos h9, if_neg (by omega)]
                  · rw [if_neg h9, if_neg h9]
                · rw [if_neg h8, if_neg h8]
            · by_cases ha0 : a = 0
              · subst ha0
                simp only [true_and, show ¬ ((0 : Nat) = 5) by decide, false_and, if_false, if_true]
                by_cases z1 : z = 1
                · subst z1; simp
                · by_cases z2 : z = 2
                  · subst z2; simp
                  · by_cases z3 : z = 3
                    · subst z3; simp
                    · by_cases z4 : z = 4
                      · subst z4; simp
                      · simp [z1, z2, z3, z4]
              · simp [ha, ha0]
      · omega
    | succ k ih =>
      intro j m1 hj hY hF
      refine x_iload2 dX2_passNight_2 ?_
      refine x_aload0 dX2_passNight_3 ?_
      refine x_getI dX2_passNight_4 fd_X2_43 (by first | rfl | exact yb_k (by assumption)) (Or.inl rfl) (v := V 0 0) hY.nests ?_
      refine x_icmp_ge (tgt := 24) dX2_passNight_7 rfl (fun hc => ?_) (fun hc => ?_)
      · omega
      · refine x_aload0 dX2_passNight_10 ?_
        refine x_iload2 dX2_passNight_11 ?_
        refine x_bipush dX2_passNight_12 ⟨by decide, by decide⟩ ?_
        refine x_imul dX2_passNight_14 (nrm_id (by omega) (by omega)) ?_
        refine x_callv1 dX2_passNight_15 cv_X2_107 ci_X2_ageEggs (by first | rfl | exact yb_k (by assumption)) (T := TX2) rfl (by decide) (Nat.le_of_ble_eq_true rfl) (s_ageEggs hb hY (n := j) (by omega) (by omega) (by omega)) (fun r m2 hq => ?_)
        obtain ⟨rfl, hY2, hF2⟩ := hq
        show Ex _ _ _ _ _ _ _ _ [] _
        refine x_iinc2 dX2_passNight_18 (by decide) rfl (nrm_id (by omega) (by omega)) ?_
        refine x_goto (tgt := 2) dX2_passNight_21 rfl ?_
        exact Ex.eq (by push_cast; rfl) rfl rfl (ih (j + 1) _ (by omega) (hY2.cg (psj_next V j)) (hF.tr hF2))
  refine x_iconst dX2_passNight_0 ⟨by decide, by decide⟩ ?_
  refine x_istore2 dX2_passNight_1 (by decide) rfl ?_
  refine loop (V 0 0).toNat 0 m (by omega) (hY.cg (fun a z => ?_)) Fr.rf
  unfold psj
  rw [if_neg (by omega)]
/-- V0 with what looks and nights change of V -/
def crs (V0 V : zz_W) : zz_W := fun a z => if a = 5 ∨ (a = 0 ∧ (z = 1 ∨ z = 2 ∨ z = 4)) then V a z else V0 a z
theorem s_copyCourse {c : Nat} {V0 : zz_W} (hb : YB b) (hc : YB c) (hbc : b + 8 ≤ c ∨ c + 8 ≤ b) (hY0 : YP m b V0) (hY : YP m c V) : Mt E 1 yX2_copyCourse cX2_copyCourse 2 none [zr b, zr c] m (fun r m' => r = none ∧ YP m' b (crs V0 V) ∧ Fr b (b + 8) m m') := by
  refine Mt.of 0 (by decide +kernel) (Nat.le_of_ble_eq_true rfl) (Or.inr (Or.inr (Or.inr rfl))) ?_ ?_
  · rintro r m' ⟨rfl, -⟩; simp
  show Ex E cX2_copyCourse 2 RX2 1 _ 0 [some (zr b), some (zr c)] [] m
  refine x_aload1 dX2_copyCourse_0 ?_
  refine x_getR (q := c + 5) dX2_copyCourse_1 fd_X2_24 (by first | rfl | exact yb_k (by assumption)) rfl (yb_p4 (by assumption)) ?_
  refine x_iconst dX2_copyCourse_4 ⟨by decide, by decide⟩ ?_
  refine x_aload0 dX2_copyCourse_5 ?_
  refine x_getR (q := b + 5) dX2_copyCourse_6 fd_X2_24 (by first | rfl | exact yb_k (by assumption)) rfl (yb_p4 (by assumption)) ?_
  refine x_iconst dX2_copyCourse_9 ⟨by decide, by decide⟩ ?_
  refine x_bipush dX2_copyCourse_10 ⟨by decide, by decide⟩ ?_
  refine x_copy dX2_copyCourse_12 ac_X2_37 (by decide) (Nat.le_of_ble_eq_true rfl) (yb_a4 (by assumption)) (yb_a4 (by assumption)) (len := 60) rfl (by decide) (by decide) ?_
  refine x_aload0 dX2_copyCourse_15 ?_
  refine x_aload1 dX2_copyCourse_16 ?_
  refine x_getI dX2_copyCourse_17 fd_X2_33 (by first | rfl | exact yb_k (by assumption)) (Or.inl rfl) rfl ?_
  refine x_putI dX2_copyCourse_20 fd_X2_33 (by first | rfl | exact yb_k (by assumption)) rfl ?_
  refine x_aload0 dX2_copyCourse_23 ?_
  refine x_aload1 dX2_copyCourse_24 ?_
  refine x_getI dX2_copyCourse_25 fd_X2_56 (by first | rfl | exact yb_k (by assumption)) (Or.inl rfl) rfl ?_
  refine x_putI dX2_copyCourse_28 fd_X2_56 (by first | rfl | exact yb_k (by assumption)) rfl ?_
  refine x_aload0 dX2_copyCourse_31 ?_
  refine x_aload1 dX2_copyCourse_32 ?_
  refine x_getI dX2_copyCourse_33 fd_X2_59 (by first | rfl | exact yb_k (by assumption)) (Or.inl rfl) rfl ?_
  refine x_putI dX2_copyCourse_36 fd_X2_59 (by first | rfl | exact yb_k (by assumption)) rfl ?_
  have hF : Fr b (b + 8) m (cpm m (c + 5) (b + 5) 60) := fun k hk => by funext j; exact if_neg (by omega)
  refine xe_v dX2_copyCourse_39 ?_
  refine ⟨rfl, ?_, ((hF.up (by omega) (by omega)).up (by omega) (by omega)).up (by omega) (by omega)⟩
  have hy := hY
  unfold YP at hY hY0 ⊢
  obtain ⟨⟨g1, g2, g3, g4, g5, g6⟩, g7, g8, g9⟩ := hY
  obtain ⟨⟨k1, k2, k3, k4, k5, k6⟩, k7, k8, k9⟩ := hY0
  refine ⟨⟨?_, ?_, ?_, ?_, ?_, ?_⟩, fun z h0 h1 => ?_, fun z h0 h1 => ⟨?_, ?_, ?_, ?_⟩, fun z h0 h1 => ?_⟩
  all_goals simp (disch := omega) only [up_cell, upn, up_same, cpm_ne, cpm_eq, crs, if_neg, if_pos]
  all_goals first | assumption | skip
  · exact k7 z h0 h1
  · exact (k8 z h0 h1).1
  · exact (k8 z h0 h1).2.1
  · exact (k8 z h0 h1).2.2.1
  · exact (k8 z h0 h1).2.2.2
  · exact g9 z h0 h1
theorem s_copyFrom {c : Nat} {V1 : zz_W} (hb : YB b) (hc : YB c) (hbc : b + 8 ≤ c ∨ c + 8 ≤ b) (hY1 : YP m b V1) (hY : YP m c V) : Mt E 2 yX2_copyFrom cX2_copyFrom 2 none [zr b, zr c] m (fun r m' => r = none ∧ YP m' b V ∧ Fr b (b + 8) m m') := by
  refine Mt.of 0 (by decide +kernel) (Nat.le_of_ble_eq_true rfl) (Or.inr (Or.inr (Or.inr rfl))) ?_ ?_
  · rintro r m' ⟨rfl, -⟩; simp
  show Ex E cX2_copyFrom 2 RX2 2 _ 0 [some (zr b), some (zr c)] [] m
  refine x_aload1 dX2_copyFrom_0 ?_
  refine x_getR (q := c + 1) dX2_copyFrom_1 fd_X2_9 (by first | rfl | exact yb_k (by assumption)) rfl (yb_p0 (by assumption)) ?_
  refine x_iconst dX2_copyFrom_4 ⟨by decide, by decide⟩ ?_
  refine x_aload0 dX2_copyFrom_5 ?_
  refine x_getR (q := b + 1) dX2_copyFrom_6 fd_X2_9 (by first | rfl | exact yb_k (by assumption)) rfl (yb_p0 (by assumption)) ?_
  refine x_iconst dX2_copyFrom_9 ⟨by decide, by decide⟩ ?_
  refine x_bipush dX2_copyFrom_10 ⟨by decide, by decide⟩ ?_
  refine x_copy dX2_copyFrom_12 ac_X2_37 (by decide) (Nat.le_of_ble_eq_true rfl) (yb_a0 (by assumption)) (yb_a0 (by assumption)) (len := 6) rfl (by decide) (by decide) ?_
  refine x_aload1 dX2_copyFrom_15 ?_
  refine x_getR (q := c + 2) dX2_copyFrom_16 fd_X2_15 (by first | rfl | exact yb_k (by assumption)) rfl (yb_p1 (by assumption)) ?_
  refine x_iconst dX2_copyFrom_19 ⟨by decide, by decide⟩ ?_
  refine x_aload0 dX2_copyFrom_20 ?_
  refine x_getR (q := b + 2) dX2_copyFrom_21 fd_X2_15 (by first | rfl | exact yb_k (by assumption)) rfl (yb_p1 (by assumption)) ?_
  refine x_iconst dX2_copyFrom_24 ⟨by decide, by decide⟩ ?_
  refine x_bipush dX2_copyFrom_25 ⟨by decide, by decide⟩ ?_
  refine x_copy dX2_copyFrom_27 ac_X2_37 (by decide) (Nat.le_of_ble_eq_true rfl) (yb_a1 (by assumption)) (yb_a1 (by assumption)) (len := 6) rfl (by decide) (by decide) ?_
  refine x_aload1 dX2_copyFrom_30 ?_
  refine x_getR (q := c + 3) dX2_copyFrom_31 fd_X2_18 (by first | rfl | exact yb_k (by assumption)) rfl (yb_p2 (by assumption)) ?_
  refine x_iconst dX2_copyFrom_34 ⟨by decide, by decide⟩ ?_
  refine x_aload0 dX2_copyFrom_35 ?_
  refine x_getR (q := b + 3) dX2_copyFrom_36 fd_X2_18 (by first | rfl | exact yb_k (by assumption)) rfl (yb_p2 (by assumption)) ?_
  refine x_iconst dX2_copyFrom_39 ⟨by decide, by decide⟩ ?_
  refine x_bipush dX2_copyFrom_40 ⟨by decide, by decide⟩ ?_
  refine x_copy dX2_copyFrom_42 ac_X2_37 (by decide) (Nat.le_of_ble_eq_true rfl) (yb_a2 (by assumption)) (yb_a2 (by assumption)) (len := 6) rfl (by decide) (by decide) ?_
  refine x_aload1 dX2_copyFrom_45 ?_
  refine x_getR (q := c + 4) dX2_copyFrom_46 fd_X2_21 (by first | rfl | exact yb_k (by assumption)) rfl (yb_p3 (by assumption)) ?_
  refine x_iconst dX2_copyFrom_49 ⟨by decide, by decide⟩ ?_
  refine x_aload0 dX2_copyFrom_50 ?_
  refine x_getR (q := b + 4) dX2_copyFrom_51 fd_X2_21 (by first | rfl | exact yb_k (by assumption)) rfl (yb_p3 (by assumption)) ?_
  refine x_iconst dX2_copyFrom_54 ⟨by decide, by decide⟩ ?_
  refine x_bipush dX2_copyFrom_55 ⟨by decide, by decide⟩ ?_
  refine x_copy dX2_copyFrom_57 ac_X2_37 (by decide) (Nat.le_of_ble_eq_true rfl) (yb_a3 (by assumption)) (yb_a3 (by assumption)) (len := 6) rfl (by decide) (by decide) ?_
  refine x_aload1 dX2_copyFrom_60 ?_
  refine x_getR (q := c + 6) dX2_copyFrom_61 fd_X2_27 (by first | rfl | exact yb_k (by assumption)) rfl (yb_p5 (by assumption)) ?_
  refine x_iconst dX2_copyFrom_64 ⟨by decide, by decide⟩ ?_
  refine x_aload0 dX2_copyFrom_65 ?_
  refine x_getR (q := b + 6) dX2_copyFrom_66 fd_X2_27 (by first | rfl | exact yb_k (by assumption)) rfl (yb_p5 (by assumption)) ?_
  refine x_iconst dX2_copyFrom_69 ⟨by decide, by decide⟩ ?_
  refine x_iconst dX2_copyFrom_70 ⟨by decide, by decide⟩ ?_
  refine x_copy dX2_copyFrom_71 ac_X2_37 (by decide) (Nat.le_of_ble_eq_true rfl) (yb_a5 (by assumption)) (yb_a5 (by assumption)) (len := 4) rfl (by decide) (by decide) ?_
  refine x_aload0 dX2_copyFrom_74 ?_
  refine x_aload1 dX2_copyFrom_75 ?_
  refine x_getI dX2_copyFrom_76 fd_X2_43 (by first | rfl | exact yb_k (by assumption)) (Or.inl rfl) rfl ?_
  refine x_putI dX2_copyFrom_79 fd_X2_43 (by first | rfl | exact yb_k (by assumption)) rfl ?_
  refine x_aload0 dX2_copyFrom_82 ?_
  refine x_aload1 dX2_copyFrom_83 ?_
  refine x_getI dX2_copyFrom_84 fd_X2_46 (by first | rfl | exact yb_k (by assumption)) (Or.inl rfl) rfl ?_
  refine x_putI dX2_copyFrom_87 fd_X2_46 (by first | rfl | exact yb_k (by assumption)) rfl ?_
  refine x_aload0 dX2_copyFrom_90 ?_
  refine x_aload1 dX2_copyFrom_91 ?_
  refine x_getI dX2_copyFrom_92 fd_X2_49 (by first | rfl | exact yb_k (by assumption)) (Or.inl rfl) rfl ?_
  refine x_putI dX2_copyFrom_95 fd_X2_49 (by first | rfl | exact yb_k (by assumption)) rfl ?_
  refine x_aload0 dX2_copyFrom_98 ?_
  refine x_aload1 dX2_copyFrom_99 ?_
  have hF : ∀ (m : zz_M) (a q len : Nat), b ≤ q → q < b + 8 → Fr b (b + 8) m (cpm m a q len) := fun m a q len h1 h2 k hk => by funext j; exact if_neg (by omega)
  have hF1 := ((((((((hF m (c + 1) (b + 1) 6 (by omega) (by omega)).tr (hF _ (c + 2) (b + 2) 6 (by omega) (by omega))).tr (hF _ (c + 3) (b + 3) 6 (by omega) (by omega))).tr (hF _ (c + 4) (b + 4) 6 (by omega) (by omega))).tr (hF _ (c + 6) (b + 6) 4 (by omega) (by omega))).up (k := b) (j := 7) (v := V 0 0) (by omega) (by omega)).up (k := b) (j := 10) (v := V 0 3) (by omega) (by omega)).up (k := b) (j := 12) (v := V 0 5) (by omega) (by omega))
  have hYb : YP (up (up (up (cpm (cpm (cpm (cpm (cpm m (c + 1) (b + 1) 6) (c + 2) (b + 2) 6) (c + 3) (b + 3) 6) (c + 4) (b + 4) 6) (c + 6) (b + 6) 4) b 7 (V 0 0)) b 10 (V 0 3)) b 12 (V 0 5)) b (crs V V1) := by
    have hY0 := hY1
    have hYc := hY
    unfold YP at hYc hY0 ⊢
    obtain ⟨⟨g1, g2, g3, g4, g5, g6⟩, g7, g8, g9⟩ := hYc
    obtain ⟨⟨k1, k2, k3, k4, k5, k6⟩, k7, k8, k9⟩ := hY0
    refine ⟨⟨?_, ?_, ?_, ?_, ?_, ?_⟩, fun z h0 h1 => ?_, fun z h0 h1 => ⟨?_, ?_, ?_, ?_⟩, fun z h0 h1 => ?_⟩
    all_goals simp (disch := omega) only [up_cell, upn, up_same, cpm_ne, cpm_eq, crs, if_neg, if_pos]
    all_goals first | assumption | skip
    · exact g7 z h0 h1
    · exact (g8 z h0 h1).1
    · exact (g8 z h0 h1).2.1
    · exact (g8 z h0 h1).2.2.1
    · exact (g8 z h0 h1).2.2.2
    · exact k9 z h0 h1
  refine Ex.eq (m' := up (up (up (cpm (cpm (cpm (cpm (cpm m (c + 1) (b + 1) 6) (c + 2) (b + 2) 6) (c + 3) (b + 3) 6) (c + 4) (b + 4) 6) (c + 6) (b + 6) 4) b 7 (V 0 0)) b 10 (V 0 3)) b 12 (V 0 5)) rfl rfl ?_ ?_
  · have e : ∀ (m1 m2 : zz_M), (∀ k j, m1 k j = m2 k j) → m1 = m2 := fun m1 m2 h => by funext k j; exact h k j
    obtain ⟨⟨g1, g2, g3, g4, g5, g6⟩, -⟩ := hY
    congr 1
    · congr 1
      · congr 1
        simp (disch := omega) only [cpm_ne]
        exact g1
      · simp (disch := omega) only [up_cell, cpm_ne]
        exact g4
    · simp (disch := omega) only [up_cell, cpm_ne]
      exact g6
  have hYc := hY.fr hF1 (by omega)
  generalize up (up (up (cpm (cpm (cpm (cpm (cpm m (c + 1) (b + 1) 6) (c + 2) (b + 2) 6) (c + 3) (b + 3) 6) (c + 4) (b + 4) 6) (c + 6) (b + 6) 4) b 7 (V 0 0)) b 10 (V 0 3)) b 12 (V 0 5) = m1 at hF1 hYb hYc
  refine x_callv1 dX2_copyFrom_100 cv_X2_52 ci_X2_copyCourse (by first | rfl | exact yb_k (by assumption)) (T := TX2) rfl (by decide) (Nat.le_of_ble_eq_true rfl) (s_copyCourse hb hc hbc hYb hYc) (fun r m2 hq => ?_)
  obtain ⟨rfl, hY2, hF2⟩ := hq
  refine xe_v dX2_copyFrom_103 ?_
  refine ⟨rfl, hY2.cg (fun a z => ?_), hF1.tr hF2⟩
  unfold crs
  by_cases h : a = 5 ∨ a = 0 ∧ (z = 1 ∨ z = 2 ∨ z = 4)
  · rw [if_pos h]
  · rw [if_neg h, if_neg h]
end YM5
end
section
section YM6
variable {E : zz_E} {m : zz_M} {b : Nat} {V : zz_W} {D : Int}
theorem YP.arrup {a : Nat} {z x : Int} (h : YP m b V) (h0 : 0 ≤ z) (ha : 1 ≤ a) (ha2 : a ≤ 4) : YP (up m (b + a) z.toNat x) b (ux V a z x) := by
  have hc : ∀ k, k ≠ b + a → up m (b + a) z.toNat x k = m k := fun k hk => up_cell hk
  unfold YP at h ⊢
  rw [hc b (by omega), hc (b + 5) (by omega), hc (b + 6) (by omega)]
  refine ⟨?_, fun w h1 h2 => ?_, fun w h1 h2 => ?_, fun w h1 h2 => ?_⟩
  · unfold ux
    simp only [show ¬ ((0 : Nat) = a) by omega, false_and, if_false]
    exact h.1
  · rw [h.2.1 w h1 h2]
    exact (if_neg (by omega)).symm
  · obtain ⟨g1, g2, g3, g4⟩ := h.2.2.1 w h1 h2
    have key : ∀ k, 1 ≤ k → m (b + k) w.toNat = V k w → up m (b + a) z.toNat x (b + k) w.toNat = ux V a z x k w := by
      intro k hk hg
      unfold up ux
      by_cases hh : k = a ∧ w = z
      · rw [if_pos hh, if_pos ⟨by omega, by omega⟩]
      · rw [if_neg hh, if_neg (by omega), hg]
    exact ⟨key 1 (by decide) g1, key 2 (by decide) g2, key 3 (by decide) g3, key 4 (by decide) g4⟩
  · rw [h.2.2.2 w h1 h2]
    exact (if_neg (by omega)).symm
/-- a nest more -/
def addn (V : zz_W) (x y mi li : Int) : zz_W := fun a z =>
  if a = 0 ∧ z = 0 then V 0 0 + 1 else if a = 1 ∧ z = V 0 0 then x else if a = 2 ∧ z = V 0 0 then y else if a = 3 ∧ z = V 0 0 then mi else if a = 4 ∧ z = V 0 0 then li else V a z
theorem s_addNest (hb : YB b) (hY : YP m b V) (hn : 0 ≤ V 0 0 ∧ V 0 0 ≤ 6) {x y mi li : Int} : Mt E 1 yX2_addNest cX2_addNest 5 (some .boolean) [zr b, zi x, zi y, zi mi, zi li] m (fun r m' => (V 0 0 = 6 ∧ r = some (zi 0) ∧ m' = m) ∨ (V 0 0 < 6 ∧ r = some (zi 1) ∧ YP m' b (addn V x y mi li) ∧ Fr b (b + 8) m m')) := by
  refine Mt.of 0 (by decide +kernel) (Nat.le_of_ble_eq_true rfl) (Or.inr (Or.inl ⟨rfl, by rintro z m' (⟨-, h, -⟩ | ⟨-, h, -⟩) <;> cases h <;> simp⟩)) ?_ ?_
  · rintro r m' (⟨-, rfl, -⟩ | ⟨-, rfl, -⟩) <;> simp
  show Ex E cX2_addNest 5 RX2 1 _ 0 [some (zr b), some (zi x), some (zi y), some (zi mi), some (zi li)] [] m
  refine x_aload0 dX2_addNest_0 ?_
  refine x_getI dX2_addNest_1 fd_X2_43 (by first | rfl | exact yb_k (by assumption)) (Or.inl rfl) (v := V 0 0) hY.nests ?_
  refine x_bipush dX2_addNest_4 ⟨by decide, by decide⟩ ?_
  refine x_icmp_lt (tgt := 11) dX2_addNest_6 rfl (fun hc => ?_) (fun hc => ?_)
  · refine x_aload0 dX2_addNest_11 ?_
    refine x_getR (q := b + 1) dX2_addNest_12 fd_X2_9 (by first | rfl | exact yb_k (by assumption)) rfl (yb_p0 (by assumption)) ?_
    refine x_aload0 dX2_addNest_15 ?_
    refine x_getI dX2_addNest_16 fd_X2_43 (by first | rfl | exact yb_k (by assumption)) (Or.inl rfl) (v := V 0 0) hY.nests ?_
    refine x_iload1 dX2_addNest_19 ?_
    refine x_iast dX2_addNest_20 (yb_a0 (by assumption)) (by omega) (by omega) ?_
    have hY1 : YP _ b _ := hY.arrup (a := 1) (z := V 0 0) (x := x) hn.1 (by decide) (by decide)
    refine x_aload0 dX2_addNest_21 ?_
    refine x_getR (q := b + 2) dX2_addNest_22 fd_X2_15 (by first | rfl | exact yb_k (by assumption)) rfl (yb_p1 (by assumption)) ?_
    refine x_aload0 dX2_addNest_25 ?_
    refine x_getI dX2_addNest_26 fd_X2_43 (by first | rfl | exact yb_k (by assumption)) (Or.inl rfl) (v := V 0 0) hY1.nests ?_
    refine x_iload2 dX2_addNest_29 ?_
    refine x_iast dX2_addNest_30 (yb_a1 (by assumption)) (by omega) (by omega) ?_
    have hY2 : YP _ b _ := hY1.arrup (a := 2) (z := V 0 0) (x := y) hn.1 (by decide) (by decide)
    refine x_aload0 dX2_addNest_31 ?_
    refine x_getR (q := b + 3) dX2_addNest_32 fd_X2_18 (by first | rfl | exact yb_k (by assumption)) rfl (yb_p2 (by assumption)) ?_
    refine x_aload0 dX2_addNest_35 ?_
    refine x_getI dX2_addNest_36 fd_X2_43 (by first | rfl | exact yb_k (by assumption)) (Or.inl rfl) (v := V 0 0) hY2.nests ?_
    refine x_iload3 dX2_addNest_39 ?_
    refine x_iast dX2_addNest_40 (yb_a2 (by assumption)) (by omega) (by omega) ?_
    have hY3 : YP _ b _ := hY2.arrup (a := 3) (z := V 0 0) (x := mi) hn.1 (by decide) (by decide)
    refine x_aload0 dX2_addNest_41 ?_
    refine x_getR (q := b + 4) dX2_addNest_42 fd_X2_21 (by first | rfl | exact yb_k (by assumption)) rfl (yb_p3 (by assumption)) ?_
    refine x_aload0 dX2_addNest_45 ?_
    refine x_getI dX2_addNest_46 fd_X2_43 (by first | rfl | exact yb_k (by assumption)) (Or.inl rfl) (v := V 0 0) hY3.nests ?_
    refine x_iload4 dX2_addNest_49 ?_
    refine x_iast dX2_addNest_51 (yb_a3 (by assumption)) (by omega) (by omega) ?_
    have hY4 : YP _ b _ := hY3.arrup (a := 4) (z := V 0 0) (x := li) hn.1 (by decide) (by decide)
    refine x_aload0 dX2_addNest_52 ?_
    refine x_dupr dX2_addNest_53 ?_
    refine x_getI dX2_addNest_54 fd_X2_43 (by first | rfl | exact yb_k (by assumption)) (Or.inl rfl) (v := V 0 0) hY4.nests ?_
    refine x_iconst dX2_addNest_57 ⟨by decide, by decide⟩ ?_
    refine x_iadd dX2_addNest_58 (nrm_id (by omega) (by omega)) ?_
    refine x_putI dX2_addNest_59 fd_X2_43 (by first | rfl | exact yb_k (by assumption)) rfl ?_
    refine x_iconst dX2_addNest_62 ⟨by decide, by decide⟩ ?_
    have hY5 := hY4.setNests (x := V 0 0 + 1)
    refine xe_i dX2_addNest_63 ?_
    right
    refine ⟨hc, rfl, hY5.cg (fun a z => ?_), ((((Fr.rf.up (by omega) (by omega)).up (by omega) (by omega)).up (by omega) (by omega)).up (by omega) (by omega)).up (by omega) (by omega)⟩
    unfold ux addn
    by_cases h0 : a = 0
    · subst h0; simp
    · by_cases h1 : a = 1
      · subst h1; simp
      · by_cases h2 : a = 2
        · subst h2; simp
        · by_cases h3 : a = 3
          · subst h3; simp
          · by_cases h4 : a = 4
            · subst h4; simp
            · simp [h0, h1, h2, h3, h4]
  · refine x_iconst dX2_addNest_9 ⟨by decide, by decide⟩ ?_
    exact xe_i dX2_addNest_10 (Or.inl ⟨by omega, rfl, rfl⟩)
theorem s_addEgg (hb : YB b) (hY : YP m b V) (hn : 0 ≤ V 0 0 ∧ V 0 0 ≤ 6) {n g : Int} (hg0 : 0 ≤ g) (hg1 : g ≤ 9) (hn0 : 0 ≤ n) : Mt E 1 yX2_addEgg cX2_addEgg 4 (some .boolean) [zr b, zi n, zi g] m (fun r m' => ((V 0 0 ≤ n ∨ 9 ≤ V 5 (10 * n + g)) ∧ r = some (zi 0) ∧ m' = m) ∨ (n < V 0 0 ∧ V 5 (10 * n + g) < 9 ∧ r = some (zi 1) ∧ YP m' b (ux V 5 (10 * n + g) (nrm (V 5 (10 * n + g) + 1))) ∧ Fr b (b + 8) m m')) := by
  refine Mt.of 1 (by decide +kernel) (Nat.le_of_ble_eq_true rfl) (Or.inr (Or.inl ⟨rfl, by rintro z m' (⟨-, h, -⟩ | ⟨-, -, h, -⟩) <;> cases h <;> simp⟩)) ?_ ?_
  · rintro r m' (⟨-, rfl, -⟩ | ⟨-, -, rfl, -⟩) <;> simp
  show Ex E cX2_addEgg 4 RX2 1 _ 0 [some (zr b), some (zi n), some (zi g), none] [] m
  refine x_iload1 dX2_addEgg_0 ?_
  refine x_if_lt (tgt := 22) dX2_addEgg_1 rfl (fun h1 => ?_) (fun h1 => ?_)
  · omega
  · refine x_iload1 dX2_addEgg_4 ?_
    refine x_aload0 dX2_addEgg_5 ?_
    refine x_getI dX2_addEgg_6 fd_X2_43 (by first | rfl | exact yb_k (by assumption)) (Or.inl rfl) (v := V 0 0) hY.nests ?_
    refine x_icmp_ge (tgt := 22) dX2_addEgg_9 rfl (fun h2 => ?_) (fun h2 => ?_)
    · refine x_iconst dX2_addEgg_22 ⟨by decide, by decide⟩ ?_
      exact xe_i dX2_addEgg_23 (Or.inl ⟨Or.inl h2, rfl, rfl⟩)
    · refine x_iload2 dX2_addEgg_12 ?_
      refine x_if_lt (tgt := 22) dX2_addEgg_13 rfl (fun h3 => ?_) (fun h3 => ?_)
      · omega
      · refine x_iload2 dX2_addEgg_16 ?_
        refine x_bipush dX2_addEgg_17 ⟨by decide, by decide⟩ ?_
        refine x_icmp_lt (tgt := 24) dX2_addEgg_19 rfl (fun h4 => ?_) (fun h4 => ?_)
        · refine x_iload1 dX2_addEgg_24 ?_
          refine x_bipush dX2_addEgg_25 ⟨by decide, by decide⟩ ?_
          refine x_imul dX2_addEgg_27 (nrm_id (by omega) (by omega)) ?_
          refine x_iload2 dX2_addEgg_28 ?_
          refine x_iadd dX2_addEgg_29 (v := 10 * n + g) (by rw [show n * 10 + g = 10 * n + g by omega]; exact nrm_id (by omega) (by omega)) ?_
          refine x_istore3 dX2_addEgg_30 (by decide) rfl ?_
          refine x_aload0 dX2_addEgg_31 ?_
          refine x_getR (q := b + 5) dX2_addEgg_32 fd_X2_24 (by first | rfl | exact yb_k (by assumption)) rfl (yb_p4 (by assumption)) ?_
          refine x_iload3 dX2_addEgg_35 ?_
          refine x_iald dX2_addEgg_36 (yb_a4 (by assumption)) (by omega) (by omega) (v := V 5 (10 * n + g)) (hY.egg (by omega) (by omega)) ?_
          refine x_bipush dX2_addEgg_37 ⟨by decide, by decide⟩ ?_
          refine x_icmp_lt (tgt := 44) dX2_addEgg_39 rfl (fun h5 => ?_) (fun h5 => ?_)
          · refine x_aload0 dX2_addEgg_44 ?_
            refine x_getR (q := b + 5) dX2_addEgg_45 fd_X2_24 (by first | rfl | exact yb_k (by assumption)) rfl (yb_p4 (by assumption)) ?_
            refine x_iload3 dX2_addEgg_48 ?_
            refine x_dup2 dX2_addEgg_49 ?_
            refine x_iald dX2_addEgg_50 (yb_a4 (by assumption)) (by omega) (by omega) (v := V 5 (10 * n + g)) (hY.egg (by omega) (by omega)) ?_
            refine x_iconst dX2_addEgg_51 ⟨by decide, by decide⟩ ?_
            refine x_iadd dX2_addEgg_52 rfl ?_
            refine x_iast dX2_addEgg_53 (yb_a4 (by assumption)) (by omega) (by omega) ?_
            refine x_iconst dX2_addEgg_54 ⟨by decide, by decide⟩ ?_
            exact xe_i dX2_addEgg_55 (Or.inr ⟨h2, h5, rfl, hY.eggup (by omega), Fr.rf.up (by omega) (by omega)⟩)
          · refine x_iconst dX2_addEgg_42 ⟨by decide, by decide⟩ ?_
            exact xe_i dX2_addEgg_43 (Or.inl ⟨Or.inr h5, rfl, rfl⟩)
        · omega
theorem YP.setFig {z x : Int} (h : YP m b V) (h0 : 0 ≤ z) (h1 : z < 4) : YP (up m (b + 6) z.toNat x) b (ux V 0 (6 + z) x) := by
  have hc : ∀ k, k ≠ b + 6 → up m (b + 6) z.toNat x k = m k := fun k hk => up_cell hk
  have hn : ∀ a w, a ≠ 0 → ux V 0 (6 + z) x a w = V a w := fun a w ha => if_neg (fun q => ha q.1)
  have hs : ∀ w, w ≠ 6 + z → ux V 0 (6 + z) x 0 w = V 0 w := fun w hw => if_neg (fun q => hw q.2)
  unfold YP at h ⊢
  rw [hc b (by omega), hc (b + 1) (by omega), hc (b + 2) (by omega), hc (b + 3) (by omega), hc (b + 4) (by omega), hc (b + 5) (by omega)]
  refine ⟨?_, fun w h2 h3 => ?_, fun w h2 h3 => ?_, fun w h2 h3 => ?_⟩
  · rw [hs 0 (by omega), hs 1 (by omega), hs 2 (by omega), hs 3 (by omega), hs 4 (by omega), hs 5 (by omega)]
    exact h.1
  · unfold up ux
    by_cases hw : w = z
    · subst hw
      rw [if_pos ⟨rfl, rfl⟩, if_pos ⟨rfl, rfl⟩]
    · rw [if_neg (by omega), if_neg (by omega)]
      exact h.2.1 w h2 h3
  · rw [hn 1 w (by decide), hn 2 w (by decide), hn 3 w (by decide), hn 4 w (by decide)]
    exact h.2.2.1 w h2 h3
  · rw [hn 5 w (by decide)]
    exact h.2.2.2 w h2 h3
theorem s_change (hb : YB b) (hY : YP m b V) {q v : Int} (hq0 : 0 ≤ q) (hq1 : q < 4) : Mt E 1 yX2_change cX2_change 3 (some .boolean) [zr b, zi q, zi v] m (fun r m' => ((v < ro E 77 q.toNat ∨ ro E 78 q.toNat < v) ∧ r = some (zi 0) ∧ m' = m) ∨ (ro E 77 q.toNat ≤ v ∧ v ≤ ro E 78 q.toNat ∧ r = some (zi 1) ∧ YP m' b (ux V 0 (6 + q) v) ∧ Fr b (b + 8) m m')) := by
  refine Mt.of 0 (by decide +kernel) (Nat.le_of_ble_eq_true rfl) (Or.inr (Or.inl ⟨rfl, by rintro z m' (⟨-, h, -⟩ | ⟨-, -, h, -⟩) <;> cases h <;> simp⟩)) ?_ ?_
  · rintro r m' (⟨-, rfl, -⟩ | ⟨-, -, rfl, -⟩) <;> simp
  show Ex E cX2_change 3 RX2 1 _ 0 [some (zr b), some (zi q), some (zi v)] [] m
  have e7 : rn E 77 = 4 := rfl
  have e8 : rn E 78 = 4 := rfl
  refine x_iload2 dX2_change_0 ?_
  refine x_gets dX2_change_1 st_X2_62 ?_
  refine x_iload1 dX2_change_4 ?_
  refine x_rald dX2_change_5 ⟨by decide, by decide⟩ (by omega) (by omega) rfl ?_
  refine x_icmp_lt (tgt := 18) dX2_change_6 rfl (fun h1 => ?_) (fun h1 => ?_)
  · refine x_iconst dX2_change_18 ⟨by decide, by decide⟩ ?_
    exact xe_i dX2_change_19 (Or.inl ⟨Or.inl h1, rfl, rfl⟩)
  · refine x_iload2 dX2_change_9 ?_
    refine x_gets dX2_change_10 st_X2_65 ?_
    refine x_iload1 dX2_change_13 ?_
    refine x_rald dX2_change_14 ⟨by decide, by decide⟩ (by omega) (by omega) rfl ?_
    refine x_icmp_le (tgt := 20) dX2_change_15 rfl (fun h2 => ?_) (fun h2 => ?_)
    · refine x_aload0 dX2_change_20 ?_
      refine x_getR (q := b + 6) dX2_change_21 fd_X2_27 (by first | rfl | exact yb_k (by assumption)) rfl (yb_p5 (by assumption)) ?_
      refine x_iload1 dX2_change_24 ?_
      refine x_iload2 dX2_change_25 ?_
      refine x_iast dX2_change_26 (yb_a5 (by assumption)) (by omega) (by omega) ?_
      refine x_iconst dX2_change_27 ⟨by decide, by decide⟩ ?_
      exact xe_i dX2_change_28 (Or.inr ⟨h1, h2, rfl, hY.setFig hq0 hq1, Fr.rf.up (by omega) (by omega)⟩)
    · refine x_iconst dX2_change_18 ⟨by decide, by decide⟩ ?_
      exact xe_i dX2_change_19 (Or.inl ⟨Or.inr h2, rfl, rfl⟩)
end YM6
end
section
/-! ===== what stays true of a yard; where she lays is a nest ===== -/
section INV
variable {V : zz_W} {D : Int}
theorem all_f : ∀ n : Fin 7, (0 ≤ alln (n.val : Int) ∧ alln (n.val : Int) < 64) ∧ (∀ i : Fin 6, if (i.val : Int) < n.val then bt (alln (n.val : Int)) (i.val : Int) = 1 else bt (alln (n.val : Int)) (i.val : Int) = 0) := by decide +kernel
theorem all_sub {n : Int} (h0 : 0 ≤ n) (h1 : n ≤ 6) : sub6 n (alln n) := by
  have h := all_f ⟨n.toNat, by omega⟩
  simp only [nat_of h0] at h
  refine ⟨h.1.1, h.1.2, fun i h2 h3 => ?_⟩
  have h4 := h.2 ⟨i.toNat, by omega⟩
  simp only [nat_of (show 0 ≤ i by omega)] at h4
  rw [if_neg (by omega)] at h4
  exact h4
theorem all_bt {n i : Int} (h1 : n ≤ 6) (h2 : 0 ≤ i) (h3 : i < n) : bt (alln n) i = 1 := by
  have h := all_f ⟨n.toNat, by omega⟩
  simp only [nat_of (show 0 ≤ n by omega)] at h
  have h4 := h.2 ⟨i.toNat, by omega⟩
  simp only [nat_of h2] at h4
  rw [if_pos (by omega)] at h4
  exact h4
/-- a set with a nest in it -/
def has (y : Int) : Prop := ∃ i, 0 ≤ i ∧ i < 6 ∧ bt y i = 1
theorem has_f : ∀ y : Fin 64, y.val ≠ 0 → ∃ i : Fin 6, bt (y.val : Int) (i.val : Int) = 1 := by decide +kernel
theorem has_of {y : Int} (h0 : 0 ≤ y) (h1 : y < 64) (h : y ≠ 0) : has y := by
  obtain ⟨i, hi⟩ := has_f ⟨y.toNat, by omega⟩ (by show y.toNat ≠ 0; omega)
  simp only [nat_of h0] at hi
  exact ⟨_, by omega, by have := i.isLt; omega, hi⟩
theorem may_has {n p : Int} (hn : 0 ≤ n) (hl : 0 ≤ V 0 2 ∧ V 0 2 < 64) (hp : sub6 n p) (hh : has p) : has (may V p) := by
  have hs := may_sub hn hl hp
  by_cases h : ian p (ixr (V 0 2) (-1)) = 0
  · rw [show may V p = p from if_pos h]
    exact hh
  · rw [show may V p = _ from if_neg h] at hs ⊢
    exact has_of hs.1 hs.2.1 h
theorem smI_pos {f : Int → Int} : ∀ (n : Nat), (∀ i : Int, 0 ≤ i → i < n → 0 ≤ f i) → ∀ i : Int, 0 ≤ i → i < n → f i ≤ smI f n
  | 0, _, i, h0, h1 => by omega
  | n + 1, h, i, h0, h1 => by
    have h2 := smI_pos n (fun j a b => h j a (by omega))
    have h3 : 0 ≤ smI f n := by
      have : ∀ k : Nat, k ≤ n → 0 ≤ smI f k := by
        intro k
        induction k with
        | zero => intro _; exact Int.le_refl _
        | succ k ih =>
          intro hk
          have := ih (by omega)
          have := h k (by omega) (by omega)
          rw [smI_succ]
          omega
      exact this n (Nat.le_refl n)
    rw [smI_succ]
    by_cases hi : i = n
    · subst hi; omega
    · have := h2 i h0 (by omega)
      have := h n (by omega) (by omega)
      omega
theorem smI_some {f : Int → Int} : ∀ (n : Nat), smI f n ≠ 0 → ∃ i : Int, 0 ≤ i ∧ i < n ∧ f i ≠ 0
  | 0, h => absurd rfl h
  | n + 1, h => by
    by_cases hf : f n = 0
    · rw [smI_succ, hf] at h
      obtain ⟨i, h0, h1, h2⟩ := smI_some (f := f) n (by omega)
      exact ⟨i, h0, by omega, h2⟩
    · exact ⟨n, by omega, by omega, hf⟩
theorem amx_pos {f : Int → Int} : ∀ (n : Nat), (∃ i : Int, 0 ≤ i ∧ i < n ∧ 0 < f i) → 0 < (amx f n).2 ∧ 0 ≤ (amx f n).1
  | 0, ⟨i, h0, h1, _⟩ => by omega
  | n + 1, ⟨i, h0, h1, h2⟩ => by
    have hb := amx_bd f n
    unfold amx
    by_cases hg : (amx f n).2 < f n
    · rw [if_pos hg]
      exact ⟨by show 0 < f n; omega, by show (0 : Int) ≤ (n : Int); omega⟩
    · rw [if_neg hg]
      by_cases hi : i = n
      · subst hi
        have hp : 0 < (amx f n).2 := by omega
        refine ⟨hp, ?_⟩
        have : ∀ k : Nat, 0 < (amx f k).2 → 0 ≤ (amx f k).1 := by
          intro k
          induction k with
          | zero => intro h; simp [amx] at h
          | succ k ih =>
            unfold amx
            split
            · intro _; show (0 : Int) ≤ (k : Int); omega
            · exact ih
        exact this n hp
      · exact amx_pos n ⟨i, h0, by omega, h2⟩
theorem smI_shift (f : Int → Int) : ∀ n : Nat, smI f (n + 1) = f 0 + smI (fun j => f (j + 1)) n
  | 0 => by simp [smI]
  | n + 1 => by
    rw [smI_succ, smI_shift f n, smI_succ]
    push_cast
    omega
theorem nth_ok {y : Int} (hy : 0 ≤ y ∧ y < 64) : ∀ (n : Nat) (i q : Int), 0 ≤ i → i + n ≤ 6 → 0 ≤ q → q < smI (fun j => bt y (i + j)) n → i ≤ nth y n i q ∧ nth y n i q < i + n
  | 0, i, q, _, _, h0, h1 => by simp [smI] at h1; omega
  | n + 1, i, q, hi, hn, h0, h1 => by
    rw [smI_shift] at h1
    have e : smI (fun j => bt y (i + (j + 1))) n = smI (fun j => bt y ((i + 1) + j)) n := smI_congr n (fun j _ _ => by rw [show i + (j + 1) = i + 1 + j by omega])
    rw [e] at h1
    have hb := bt_01 hy.1 hy.2 hi (show i < 6 by omega)
    simp only [Int.add_zero] at h1
    unfold nth
    by_cases hbt : bt y i = 1
    · rw [if_pos hbt]
      by_cases hq : q = 0
      · rw [if_pos hq]; omega
      · rw [if_neg hq]
        have := nth_ok hy n (i + 1) (q - 1) (by omega) (by omega) (by omega) (by omega)
        omega
    · rw [if_neg hbt]
      have := nth_ok hy n (i + 1) q (by omega) (by omega) (by omega) (by omega)
      omega
theorem cnt_pos {n y : Int} (hn : 0 ≤ n ∧ n ≤ 6) (hy : sub6 n y) (hh : has y) : 0 < smI (bt y) n.toNat := by
  obtain ⟨i, h0, h1, h2⟩ := hh
  have hin : i < n := by
    rcases Int.lt_or_le i n with q | q
    · exact q
    · have := hy.2.2 i q h1
      omega
  have := smI_pos (f := bt y) n.toNat (fun j a b => by have := bt_01 hy.1 hy.2.1 a (show j < 6 by omega); omega) i h0 (by omega)
  omega
theorem wt_nn (hI : Iv D V) {y : Int} (hy : sub6 (V 0 0) y) {i : Int} (h0 : 0 ≤ i) (h1 : i < 6) : 0 ≤ wt V y i ∧ wt V y i ≤ 101 := by
  have h2 := raw_bd hI h0 h1
  have h3 := bt_01 hy.1 hy.2.1 h0 h1
  unfold wt
  split
  · omega
  · split <;> omega
theorem wt_some (hI : Iv D V) {y : Int} (hy : sub6 (V 0 0) y) (hh : has y) : ∃ i : Int, 0 ≤ i ∧ i < ((V 0 0).toNat : Int) ∧ 0 < wt V y i := by
  have hn := hI.1
  by_cases hw : wsum V y = 0
  · obtain ⟨i, h0, h1, h2⟩ := hh
    have hin : i < V 0 0 := by
      rcases Int.lt_or_le i (V 0 0) with q | q
      · exact q
      · have := hy.2.2 i q h1
        omega
    exact ⟨i, h0, by omega, by unfold wt; rw [if_pos hw, h2]; decide⟩
  · obtain ⟨i, h0, h1, h2⟩ := smI_some _ hw
    have hb := wf_bd hI y h0 (show i < 6 by omega)
    refine ⟨i, h0, h1, ?_⟩
    unfold wt
    rw [if_neg hw]
    show 0 < wf V y i
    have h2 : wf V y i ≠ 0 := h2
    omega
theorem lays_in (hI : Iv D V) (hD : D ≤ 20000) {p : Int} (hp : sub6 (V 0 0) p) (hh : has p) : 0 ≤ lays V p ∧ lays V p < V 0 0 := by
  have hI2 := hI
  obtain ⟨hn, hl, hk0, hd, hk, hfg, ht, hr, hx, he, hz⟩ := hI
  have hy := may_sub hn.1 hk0 hp
  have hmh := may_has hn.1 hk0 hp hh
  have hc := cnt_pos hn hy hmh
  have hcb := cnt_bd (may V p) (V 0 0).toNat ⟨hy.1, hy.2.1⟩ (by omega)
  unfold lays
  by_cases h2 : V 0 6 = 2
  · rw [if_pos h2, if_neg (by omega)]
    have hab : 0 ≤ V 0 4 * (V 0 7 + 1) ∧ V 0 4 * (V 0 7 + 1) ≤ 200000 := by
      refine ⟨Int.mul_nonneg hd.1 (by omega), ?_⟩
      have := Int.mul_le_mul (show V 0 4 ≤ 20000 by omega) (show V 0 7 + 1 ≤ 10 by omega) (by omega) (by decide)
      omega
    rw [irm_pos hab.1 (by omega) hc (by omega)]
    have h3 := Int.emod_nonneg (V 0 4 * (V 0 7 + 1)) (show smI (bt (may V p)) (V 0 0).toNat ≠ 0 by omega)
    have h4 := Int.emod_lt_of_pos (V 0 4 * (V 0 7 + 1)) hc
    have e : smI (fun j => bt (may V p) (0 + j)) (V 0 0).toNat = smI (bt (may V p)) (V 0 0).toNat := smI_congr _ (fun j _ _ => by rw [Int.zero_add])
    have := nth_ok ⟨hy.1, hy.2.1⟩ (V 0 0).toNat 0 _ (by omega) (by omega) h3 (by rw [e]; exact h4)
    omega
  · rw [if_neg h2]
    have h3 := amx_pos _ (wt_some hI2 hy hmh)
    have h4 := amx_bd (wt V (may V p)) (V 0 0).toNat
    omega
theorem has_all {n : Int} (h0 : 0 < n) (h1 : n ≤ 6) : has (alln n) := ⟨0, by decide, by decide, all_bt h1 (by decide) h0⟩
/-- where she lays among all nests -/
def lay (V : zz_W) : Int := lays V (alln (V 0 0))
theorem lay_in (hI : Iv D V) (hD : D ≤ 20000) (h0 : V 0 0 ≠ 0) : 0 ≤ lay V ∧ lay V < V 0 0 :=
  lays_in hI hD (all_sub hI.1.1 hI.1.2) (has_all (by have := hI.1; omega) hI.1.2)
theorem Iv.wd {D' : Int} (h : Iv D V) (hD : D ≤ D') : Iv D' V := by
  obtain ⟨hn, hl, hk0, hd, hr⟩ := h
  exact ⟨hn, hl, hk0, ⟨hd.1, by omega⟩, hr⟩
theorem Iv_pass (h : Iv D V) {w : Int} (h0 : 0 ≤ w) (h1 : w < V 0 0) : Iv (D + 1) (pass V w) := by
  obtain ⟨hn, hl, hk0, hd, hk, hfg, ht, hr, hx, he, hz⟩ := h
  have e0 : ∀ z, z ≠ 1 → z ≠ 2 → z ≠ 3 → z ≠ 4 → pass V w 0 z = V 0 z := by
    intro z a b c d
    simp [pass, a, b, c, d]
  have e1 : pass V w 0 1 = w := rfl
  have e2 : pass V w 0 2 = 0 := rfl
  have e4 : pass V w 0 4 = V 0 4 + 1 := rfl
  have ea : ∀ a z, a ≠ 0 → a ≠ 5 → pass V w a z = V a z := by
    intro a z h5 h6
    simp [pass, h5, h6]
  unfold Iv
  rw [e1, e2, e4, e0 0 (by decide) (by decide) (by decide) (by decide), e0 6 (by decide) (by decide) (by decide) (by decide), e0 7 (by decide) (by decide) (by decide) (by decide), e0 8 (by decide) (by decide) (by decide) (by decide), e0 9 (by decide) (by decide) (by decide) (by decide)]
  refine ⟨hn, Or.inl ⟨by omega, h1⟩, by decide, by omega, hk, hfg, ht, hr, fun z h2 h3 => ?_, fun z h2 h3 => ?_, fun z h2 h3 => ?_⟩
  · rw [ea 1 z (by decide) (by decide), ea 2 z (by decide) (by decide), ea 3 z (by decide) (by decide), ea 4 z (by decide) (by decide)]
    exact hx z h2 h3
  · have a1 := he z h2 h3
    show 0 ≤ (if (5 : Nat) = 5 then _ else _) ∧ (if (5 : Nat) = 5 then _ else _) ≤ 9
    rw [if_pos rfl]
    split
    · split
      · split <;> omega
      · split
        · have := he (z - 1) (by omega) (by omega)
          omega
        · omega
    · exact a1
  · show (if (5 : Nat) = 5 then _ else _) = 0
    rw [if_pos rfl, if_neg (by omega)]
    exact hz z h2 h3
theorem ior_f : ∀ (p l : Fin 64), 0 ≤ ior (p.val : Int) (l.val : Int) ∧ ior (p.val : Int) (l.val : Int) < 64 := by decide +kernel
theorem ior_bd {p l : Int} (h0 : 0 ≤ p) (h1 : p < 64) (h2 : 0 ≤ l) (h3 : l < 64) : 0 ≤ ior p l ∧ ior p l < 64 := by
  have h := ior_f ⟨p.toNat, by omega⟩ ⟨l.toNat, by omega⟩
  simpa only [nat_of h0, nat_of h2] using h
theorem tak_sc (V : zz_W) (s z : Int) (h : z ≠ 2) : tak V s 0 z = V 0 z := by simp [tak, h]
theorem Iv_tak (h : Iv D V) {s : Int} (h0 : 0 ≤ s) (h1 : s < 64) : Iv D (tak V s) := by
  obtain ⟨hn, hl, hk0, hd, hk, hfg, ht, hr, hx, he, hz⟩ := h
  have e2 : tak V s 0 2 = ior (V 0 2) s := rfl
  have ea : ∀ a z, a ≠ 0 → a ≠ 5 → tak V s a z = V a z := by
    intro a z h5 h6
    simp [tak, h5, h6]
  unfold Iv
  rw [e2, tak_sc V s 0 (by decide), tak_sc V s 1 (by decide), tak_sc V s 4 (by decide), tak_sc V s 6 (by decide), tak_sc V s 7 (by decide), tak_sc V s 8 (by decide), tak_sc V s 9 (by decide)]
  refine ⟨hn, hl, ior_bd hk0.1 hk0.2 h0 h1, hd, hk, hfg, ht, hr, fun z h2 h3 => ?_, fun z h2 h3 => ?_, fun z h2 h3 => ?_⟩
  · rw [ea 1 z (by decide) (by decide), ea 2 z (by decide) (by decide), ea 3 z (by decide) (by decide), ea 4 z (by decide) (by decide)]
    exact hx z h2 h3
  · have a1 := he z h2 h3
    show 0 ≤ (if (5 : Nat) = 5 then _ else _) ∧ (if (5 : Nat) = 5 then _ else _) ≤ 9
    rw [if_pos rfl]
    split <;> omega
  · show (if (5 : Nat) = 5 then _ else _) = 0
    rw [if_pos rfl]
    split
    · rfl
    · exact hz z h2 h3
theorem Iv_ux0 (h : Iv D V) {z x : Int} (hz : z = 2 ∧ (0 ≤ x ∧ x < 64) ∨ z = 3 ∨ z = 5 ∨ z = 6 ∧ (0 ≤ x ∧ x ≤ 5) ∨ z = 7 ∧ (0 ≤ x ∧ x ≤ 9) ∨ z = 8 ∧ (0 ≤ x ∧ x ≤ 40) ∨ z = 9 ∧ (1 ≤ x ∧ x ≤ 9)) : Iv D (ux V 0 z x) := by
  obtain ⟨hn, hl, hk0, hd, hk, hfg, ht, hr, hx, he, hzz⟩ := h
  have ea : ∀ a w, a ≠ 0 → ux V 0 z x a w = V a w := fun a w ha => if_neg (fun q => ha q.1)
  have es : ∀ w, w ≠ z → ux V 0 z x 0 w = V 0 w := fun w hw => if_neg (fun q => hw q.2)
  have ez : ux V 0 z x 0 z = x := if_pos ⟨rfl, rfl⟩
  unfold Iv
  simp only [ea 1 _ (by decide), ea 2 _ (by decide), ea 3 _ (by decide), ea 4 _ (by decide), ea 5 _ (by decide)]
  rw [es 0 (by omega), es 1 (by omega), es 4 (by omega)]
  refine ⟨hn, hl, ?_, hd, ?_, ?_, ?_, ?_, hx, he, hzz⟩
  · by_cases h : 2 = z
    · rw [h, ez]; omega
    · rw [es 2 h]; exact hk0
  · by_cases h : 6 = z
    · rw [h, ez]; omega
    · rw [es 6 h]; exact hk
  · by_cases h : 7 = z
    · rw [h, ez]; omega
    · rw [es 7 h]; exact hfg
  · by_cases h : 8 = z
    · rw [h, ez]; omega
    · rw [es 8 h]; exact ht
  · by_cases h : 9 = z
    · rw [h, ez]; omega
    · rw [es 9 h]; exact hr
end INV
end
section
/-! ===== what each call answers and leaves, in plain words. A state: the yard, its image, the rest (0: letters, in the row, whether there is an image; 1 letters; 2 the row; 3 refusals) ===== -/
abbrev zz_S : Type := zz_W × zz_W × zz_W
abbrev zz_A : Type := Int × zz_S
def rfS (s : zz_S) (k : Int) : zz_S := (s.1, s.2.1, ux s.2.2 3 k (nrm (s.2.2 3 k + 1)))
def rfo (s : zz_S) (k : Int) : zz_A := (-k, rfS s k)
def isn (V : zz_W) (n : Int) : Prop := 0 ≤ n ∧ n < V 0 0
def o_feed (s : zz_S) (l : Int) : zz_A := if l < 0 then rfo s 4 else if 255 < l ∨ 80 ≤ s.2.2 0 0 then rfo s 6 else (s.2.2 0 0 + 1, (s.1, s.2.1, ux (ux s.2.2 1 (s.2.2 0 0) l) 0 0 (s.2.2 0 0 + 1)))
def o_nest (s : zz_S) (n w : Int) : zz_A :=
  if n < 0 ∨ s.1 0 0 ≤ n then rfo s 1 else if w = 0 then (s.1 1 n, s) else if w = 1 then (s.1 2 n, s) else if w = 2 then (s.1 3 n, s) else if w = 3 then (s.1 4 n, s) else
  if w = 4 then (eggs s.1 n, s) else if w = 5 then (gage s.1 n, s) else if w = 6 then (wt s.1 (may s.1 (alln (s.1 0 0))) n, s) else if w = 7 then (bt (s.1 0 2) n, s) else rfo s 2
def lo_f (q : Int) : Int := if q = 3 then 1 else 0
def hi_f (q : Int) : Int := if q = 0 then 5 else if q = 2 then 40 else 9
def o_set (s : zz_S) (q v : Int) : zz_A := if q < 0 ∨ 4 ≤ q then rfo s 2 else if v < lo_f q then rfo s 4 else if hi_f q < v then rfo s 6 else (s.1 0 (6 + q), (ux s.1 0 (6 + q) v, s.2))
def o_look (s : zz_S) (n : Int) : zz_A := if n < 0 ∨ s.1 0 0 ≤ n then rfo s 1 else if bt (s.1 0 2) n = 1 then rfo s 3 else if tml s.1 < s.1 3 n then rfo s 6 else
  (tkn s.1 (isl 1 n), (ux (tak s.1 (isl 1 n)) 0 5 (nrm (s.1 0 5 + tkn s.1 (isl 1 n))), s.2))
def nit (V : zz_W) : zz_W := pass V (lay V)
def o_night (s : zz_S) : zz_A := if s.1 0 0 = 0 then rfo s 3 else if 9999 ≤ s.1 0 4 then rfo s 6 else (lay s.1, (nit s.1, s.2))
def o_tonight (s : zz_S) (w : Int) : zz_A := if w < 0 ∨ 1 < w then rfo s 2 else if s.1 0 0 = 0 then rfo s 3 else (if w = 0 then lay s.1 else may s.1 (alln (s.1 0 0)), s)
def gcI (a b : Int) : Int := (Nat.gcd a.toNat b.toNat : Int)
def mya (V : zz_W) : Int := may V (alln (V 0 0))
def o_likely (s : zz_S) (n p : Int) : zz_A := if n < 0 ∨ s.1 0 0 ≤ n then (4000000000000000001, rfS s 1) else if p < 0 ∨ 1 < p then (4000000000000000002, rfS s 2) else
  ((if p = 0 then wt s.1 (mya s.1) n else wtot s.1 (mya s.1)) / gcI (wt s.1 (mya s.1) n) (wtot s.1 (mya s.1)), s)
/-- n days of looks at one set -/
def eac (q : Int) : Nat → zz_W → Int × zz_W
  | 0, V => (0, V)
  | n + 1, V => ((eac q n V).1 + tkn (eac q n V).2 q, nit (tak (eac q n V).2 q))
def o_each (s : zz_S) (q n : Int) : zz_A := if isr q (s.1 0 0) ≠ 0 then rfo s 1 else if n < 1 then rfo s 4 else if 30 < n then rfo s 6 else if s.1 0 0 = 0 then rfo s 3 else ((eac q n.toNat (ux s.1 0 2 0)).1, s)
def o_row (s : zz_S) (n : Int) : zz_A := if n < 0 then rfo s 4 else if 6 ≤ n ∨ 8 ≤ s.2.2 0 1 then rfo s 6 else (s.2.2 0 1 + 1, (s.1, s.2.1, ux (ux s.2.2 2 (s.2.2 0 1) n) 0 1 (s.2.2 0 1 + 1)))
/-- nights without looks -/
def nts : Nat → zz_W → zz_W
  | 0, V => V
  | n + 1, V => nit (nts n V)
/-- the nest of the i-th night from now on of a hen of a kind -/
def ldn (V : zz_W) (k : Int) (i : Nat) : Int := lay (nts i (ux V 0 6 k))
/-- the first place (from i, of n) at which the told row is not so -/
def fun_ (T V : zz_W) (k : Int) : Nat → Nat → Int
  | 0, _ => -9
  | n + 1, i => if T 2 (i : Int) = ldn V k i then fun_ T V k n (i + 1) else (i : Int)
def fut (s : zz_S) (k : Int) : Int := fun_ s.2.2 s.1 k (s.2.2 0 1).toNat 0
def wys (s : zz_S) : Nat → Int
  | 0 => 0
  | k + 1 => if fut s k = -9 then ior (wys s k) (isl 1 k) else wys s k
def o_ways (s : zz_S) : zz_A := if s.1 0 0 = 0 then rfo s 3 else (wys s 6, s)
/-- behind how many nights the rows of two kinds are unlike -/
def nun (V : zz_W) (a b : Int) : Nat → Nat → Int
  | 0, _ => 0
  | n + 1, i => if ldn V a i = ldn V b i then nun V a b n (i + 1) else (i : Int) + 1
def mxx (a b : Int) : Int := if a < b then b else a
def so2 (V : zz_W) (k : Nat) (x : Int) : Nat → Int
  | 0 => x
  | j + 1 => mxx (so2 V k x j) (nun V k j 8 0)
def so1 (V : zz_W) : Nat → Int
  | 0 => 0
  | k + 1 => so2 V k (so1 V k) k
def o_soon (s : zz_S) : zz_A := if s.1 0 0 = 0 then rfo s 3 else (so1 s.1 6, s)
def o_settle (s : zz_S) (n : Int) : zz_A := if n < 0 then rfo s 4 else if 30 < n then rfo s 6 else if s.1 0 0 = 0 then rfo s 3 else (alle (nts n.toNat s.1), s)
def o_without (s : zz_S) (n : Int) : zz_A := if n < 0 ∨ s.1 0 0 ≤ n then rfo s 1 else (lc (lays s.1 (ian (alln (s.1 0 0)) (ixr (isl 1 n) (-1)))), s)
def o_put (s : zz_S) (x y l : Int) : zz_A := if x < 0 ∨ y < 0 ∨ l < 0 then rfo s 4 else if 9 < x ∨ 9 < y ∨ 9 < l ∨ s.1 0 0 = 6 then rfo s 6 else (lay (addn s.1 x y 0 l), s)
def bee (f : Int → Int) : Nat → Nat → Int
  | 0, _ => -9
  | n + 1, i => if 0 < f (i : Int) then (i : Int) else bee f n (i + 1)
def o_been (s : zz_S) (g : Int) : zz_A := if g < 0 then rfo s 4 else if 9 < g then rfo s 6 else (bee (fun n => s.1 5 (10 * n + g)) (s.1 0 0).toNat 0, s)
def o_judge (s : zz_S) : zz_A := if s.1 0 0 = 0 then rfo s 3 else (fut s (s.1 0 6), (s.1, s.2.1, ux s.2.2 0 1 0))
def nsd (z : Int) : Int := nrm (nrm (z * 1103515245) + 12345)
def drw (n z : Int) : Int := irm (idv (ian z 2147483647) 65536) n
/-- one day by seeds: eggs found, yard, seed -/
def sda (f : Int) (V : zz_W) (z : Int) : Int × zz_W × Int :=
  (f + tkn V (isl 1 (drw (V 0 0) (nsd z))),
   pass (tak V (isl 1 (drw (V 0 0) (nsd z)))) (naw (wt (tak V (isl 1 (drw (V 0 0) (nsd z)))) (mya (tak V (isl 1 (drw (V 0 0) (nsd z)))))) (V 0 0).toNat 0 (drw (wtot (tak V (isl 1 (drw (V 0 0) (nsd z)))) (mya (tak V (isl 1 (drw (V 0 0) (nsd z)))))) (nsd (nsd z)))),
   nsd (nsd z))
def sds (V : zz_W) (z : Int) : Nat → Int × zz_W × Int
  | 0 => (0, V, z)
  | n + 1 => sda (sds V z n).1 (sds V z n).2.1 (sds V z n).2.2
def o_seeds (s : zz_S) (n z : Int) : zz_A := if n < 1 then rfo s 4 else if 60 < n then rfo s 6 else if s.1 0 0 = 0 then rfo s 3 else ((sds s.1 z n.toNat).1, s)
def o_clear (s : zz_S) : zz_A := (s.2.2 0 1, (s.1, s.2.1, ux s.2.2 0 1 0))
def o_image (s : zz_S) : zz_A := (s.1 0 4, (s.1, s.1, ux s.2.2 0 2 1))
def o_restore (s : zz_S) : zz_A := if s.2.2 0 2 = 0 then rfo s 3 else (s.2.1 0 4, (s.2.1, s.2))
def o_count (s : zz_S) (w : Int) : Int :=
  if w = 0 then s.1 0 0 else if w = 1 then s.1 0 4 else if w = 2 then alle s.1 else if w = 3 then lc (s.1 0 1) else if w = 4 then s.1 0 2 else if w = 5 then s.1 0 3 else if w = 6 then tml s.1 else
  if w = 7 then s.2.2 0 0 else if w = 8 then s.2.2 0 1 else if w = 9 then s.1 0 5 else if 11 ≤ w ∧ w ≤ 16 then s.2.2 3 (w - 10) else -9
/-- what holds of a state -/
def Is (s : zz_S) : Prop := Iv 9999 s.1 ∧ Iv 9999 s.2.1 ∧ (0 ≤ s.2.2 0 0 ∧ s.2.2 0 0 ≤ 80) ∧ (0 ≤ s.2.2 0 1 ∧ s.2.2 0 1 ≤ 8) ∧ (s.2.2 0 2 = 0 ∨ s.2.2 0 2 = 1)
/-! ===== the class's memory ===== -/
def CR (m : zz_M) (T : zz_W) : Prop :=
  m 53 1 = T 0 0 ∧ (∀ z : Int, 0 ≤ z → z < 80 → m 54 z.toNat = T 1 z) ∧ m 55 8 = T 0 1 ∧ m 55 9 = T 0 2 ∧ (∀ z : Int, 0 ≤ z → z < 8 → m 56 z.toNat = T 2 z) ∧ (∀ z : Int, 0 ≤ z → z < 7 → m 58 z.toNat = T 3 z)
def CY (m : zz_M) (V K : zz_W) : Prop := YP m 0 V ∧ YP m 8 K ∧ (∃ V', YP m 16 V') ∧ (∃ V', YP m 24 V') ∧ (∃ V', YP m 32 V') ∧ (∃ V', YP m 40 V') ∧ m 52 0 = 0
def CP (m : zz_M) (s : zz_S) : Prop := CY m s.1 s.2.1 ∧ CR m s.2.2
theorem CR.fr {m m' : zz_M} {T : zz_W} (h : CR m T) (h53 : m' 53 = m 53) (h54 : m' 54 = m 54) (h55 : m' 55 = m 55) (h56 : m' 56 = m 56) (h58 : m' 58 = m 58) : CR m' T := by
  unfold CR at h ⊢
  rw [h53, h54, h55, h56, h58]
  exact h
theorem CR.f53 {m m' : zz_M} {T : zz_W} (h : CR m T) {lo hi : Nat} (hf : Fr lo hi m m') (hh : hi ≤ 53) : CR m' T := h.fr (hf _ (by omega)) (hf _ (by omega)) (hf _ (by omega)) (hf _ (by omega)) (hf _ (by omega))
theorem CY.f53 {m m' : zz_M} {V K : zz_W} (h : CY m V K) {lo hi : Nat} (hf : Fr lo hi m m') (hh : 53 ≤ lo) : CY m' V K := by
  obtain ⟨h1, h2, ⟨V3, h3⟩, ⟨V4, h4⟩, ⟨V5, h5⟩, ⟨V6, h6⟩, h7⟩ := h
  exact ⟨h1.fr hf (by omega), h2.fr hf (by omega), ⟨V3, h3.fr hf (by omega)⟩, ⟨V4, h4.fr hf (by omega)⟩, ⟨V5, h5.fr hf (by omega)⟩, ⟨V6, h6.fr hf (by omega)⟩, by rw [hf 52 (by omega)]; exact h7⟩
/-- only the mind changed, or weights -/
theorem CY.mind {m m' : zz_M} {V K V' : zz_W} (h : CY m V K) (hf : Fr 16 24 m m') (h' : YP m' 16 V') : CY m' V K := by
  obtain ⟨h1, h2, -, ⟨V4, h4⟩, ⟨V5, h5⟩, ⟨V6, h6⟩, h7⟩ := h
  exact ⟨h1.fr hf (by omega), h2.fr hf (by omega), ⟨V', h'⟩, ⟨V4, h4.fr hf (by omega)⟩, ⟨V5, h5.fr hf (by omega)⟩, ⟨V6, h6.fr hf (by omega)⟩, by rw [hf 52 (by omega)]; exact h7⟩
theorem CY.yard {m m' : zz_M} {V K V' : zz_W} (h : CY m V K) (hf : Fr 0 8 m m') (h' : YP m' 0 V') : CY m' V' K := by
  obtain ⟨h1, h2, ⟨V3, h3⟩, ⟨V4, h4⟩, ⟨V5, h5⟩, ⟨V6, h6⟩, h7⟩ := h
  exact ⟨h', h2.fr hf (by omega), ⟨V3, h3.fr hf (by omega)⟩, ⟨V4, h4.fr hf (by omega)⟩, ⟨V5, h5.fr hf (by omega)⟩, ⟨V6, h6.fr hf (by omega)⟩, by rw [hf 52 (by omega)]; exact h7⟩
theorem CY.kept {m m' : zz_M} {V K V' : zz_W} (h : CY m V K) (hf : Fr 8 16 m m') (h' : YP m' 8 V') : CY m' V V' := by
  obtain ⟨h1, h2, ⟨V3, h3⟩, ⟨V4, h4⟩, ⟨V5, h5⟩, ⟨V6, h6⟩, h7⟩ := h
  exact ⟨h1.fr hf (by omega), h', ⟨V3, h3.fr hf (by omega)⟩, ⟨V4, h4.fr hf (by omega)⟩, ⟨V5, h5.fr hf (by omega)⟩, ⟨V6, h6.fr hf (by omega)⟩, by rw [hf 52 (by omega)]; exact h7⟩
theorem CP.yard {m m' : zz_M} {s : zz_S} {V' : zz_W} (h : CP m s) (hf : Fr 0 8 m m') (h' : YP m' 0 V') : CP m' (V', s.2) := ⟨h.1.yard hf h', h.2.f53 hf (by omega)⟩
theorem CP.mind {m m' : zz_M} {s : zz_S} {V' : zz_W} (h : CP m s) (hf : Fr 16 24 m m') (h' : YP m' 16 V') : CP m' s := ⟨h.1.mind hf h', h.2.f53 hf (by omega)⟩
theorem CP.rest {m m' : zz_M} {s : zz_S} {T : zz_W} (h : CP m s) {lo hi : Nat} (hf : Fr lo hi m m') (hh : 53 ≤ lo) (h' : CR m' T) : CP m' (s.1, s.2.1, T) := ⟨h.1.f53 hf hh, h'⟩
end
section
section MC1
variable {E : zz_E} {m : zz_M} {s : zz_S}
/-- how a call ends: its answer, the class's memory behind it, nothing else written -/
abbrev CQ (m : zz_M) (a : zz_A) : Option zz_V → zz_M → Prop := fun r m' => r = some (zi a.1) ∧ CP m' a.2 ∧ Fr 0 59 m m'
theorem CQ.rt {m : zz_M} {a : zz_A} : ∀ r m', CQ m a r m' → (some FieldType.int = none ↔ r = none) ∧ (some FieldType.int = some FieldType.long ↔ ∃ z, r = some (zj z)) := by
  rintro r m' ⟨rfl, -⟩; simp
theorem s_refuse (hC : CP m s) {k n : Int} (h1 : 1 ≤ k) (h6 : k ≤ 6) (hn : n = -k) : Mt E 1 yX3_refuse cX3_refuse 3 (some .int) [zr 55, zi n] m (CQ m (rfo s k)) := by
  subst hn
  refine Mt.of 1 (by decide +kernel) (Nat.le_of_ble_eq_true rfl) (Or.inl rfl) ?_ ?_
  · exact CQ.rt
  show Ex E cX3_refuse 3 RX3 1 _ 0 [some (zr 55), some (zi (-k)), none] [] m
  refine x_iload1 dX3_refuse_0 ?_
  refine x_ineg dX3_refuse_1 (v := k) (by rw [Int.neg_neg]; exact nrm_id (by omega) (by omega)) ?_
  refine x_istore2 dX3_refuse_2 (by decide) rfl ?_
  refine x_iload2 dX3_refuse_3 ?_
  refine x_if_lt (tgt := 26) dX3_refuse_4 rfl (fun h4 => ?_) (fun h4 => ?_)
  · omega
  · refine x_iload2 dX3_refuse_7 ?_
    refine x_aload0 dX3_refuse_8 ?_
    refine x_getR (q := 58) dX3_refuse_9 fd_X3_43 rfl rfl rfl ?_
    refine x_alen dX3_refuse_12 (Or.inl rfl) (by decide) ?_
    refine x_icmp_ge (tgt := 26) dX3_refuse_13 rfl (fun h5 => ?_) (fun h5 => ?_)
    · have h5 : (7 : Int) ≤ k := h5
      omega
    · refine x_aload0 dX3_refuse_16 ?_
      refine x_getR (q := 58) dX3_refuse_17 fd_X3_43 rfl rfl rfl ?_
      refine x_iload2 dX3_refuse_20 ?_
      refine x_dup2 dX3_refuse_21 ?_
      refine x_iald dX3_refuse_22 rfl (by omega) (by omega) (v := s.2.2 3 k) (hC.2.2.2.2.2.2 k (by omega) (by omega)) ?_
      refine x_iconst dX3_refuse_23 ⟨by decide, by decide⟩ ?_
      refine x_iadd dX3_refuse_24 rfl ?_
      refine x_iast dX3_refuse_25 rfl (by omega) (by omega) ?_
      refine x_iload1 dX3_refuse_26 ?_
      refine xe_i dX3_refuse_27 ?_
      refine ⟨rfl, hC.rest (Fr.rf.up (lo := 58) (hi := 59) (by omega) (by omega)) (by omega) ?_, Fr.rf.up (by omega) (by omega)⟩
      have hR := hC.2
      unfold CR at hR ⊢
      rw [up_cell (show 53 ≠ 58 by decide), up_cell (show 54 ≠ 58 by decide), up_cell (show 55 ≠ 58 by decide), up_cell (show 56 ≠ 58 by decide)]
      have hx : ∀ a z, a ≠ 3 → ux s.2.2 3 k (nrm (s.2.2 3 k + 1)) a z = s.2.2 a z := fun a z ha => if_neg (fun q => ha q.1)
      obtain ⟨g1, g2, g3, g4, g5, g6⟩ := hR
      refine ⟨g1.trans (hx 0 0 (by decide)).symm, fun z a b => (g2 z a b).trans (hx 1 z (by decide)).symm, g3.trans (hx 0 1 (by decide)).symm, g4.trans (hx 0 2 (by decide)).symm, fun z a b => (g5 z a b).trans (hx 2 z (by decide)).symm, fun z a b => ?_⟩
      unfold up ux
      by_cases hz : z = k
      · subst hz
        rw [if_pos ⟨rfl, rfl⟩, if_pos ⟨rfl, rfl⟩]
      · rw [if_neg (by omega), if_neg (by omega)]
        exact g6 z a b
theorem s_isNoNest (hC : CP m s) {n : Int} : Mt E 1 yX3_isNoNest cX3_isNoNest 2 (some .boolean) [zr 55, zi n] m (fun r m' => m' = m ∧ ((n < 0 ∨ s.1 0 0 ≤ n) ∧ r = some (zi 1) ∨ (0 ≤ n ∧ n < s.1 0 0) ∧ r = some (zi 0))) := by
  refine Mt.of 0 (by decide +kernel) (Nat.le_of_ble_eq_true rfl) (Or.inr (Or.inl ⟨rfl, by rintro z m' ⟨-, ⟨-, h⟩ | ⟨-, h⟩⟩ <;> cases h <;> simp⟩)) ?_ ?_
  · rintro r m' ⟨-, ⟨-, rfl⟩ | ⟨-, rfl⟩⟩ <;> simp
  show Ex E cX3_isNoNest 2 RX3 1 _ 0 [some (zr 55), some (zi n)] [] m
  refine x_iload1 dX3_isNoNest_0 ?_
  refine x_if_lt (tgt := 15) dX3_isNoNest_1 rfl (fun h1 => ?_) (fun h1 => ?_)
  · refine x_iconst dX3_isNoNest_15 ⟨by decide, by decide⟩ ?_
    refine x_goto (tgt := 20) dX3_isNoNest_16 rfl ?_
    exact xe_i dX3_isNoNest_20 (⟨rfl, Or.inl ⟨Or.inl h1, rfl⟩⟩)
  · refine x_iload1 dX3_isNoNest_4 ?_
    refine x_aload0 dX3_isNoNest_5 ?_
    refine x_getR (q := 0) dX3_isNoNest_6 fd_X3_10 rfl rfl rfl ?_
    refine x_getI dX3_isNoNest_9 fd_X3_112 rfl (Or.inl rfl) (v := s.1 0 0) hC.1.1.nests ?_
    refine x_icmp_lt (tgt := 19) dX3_isNoNest_12 rfl (fun h2 => ?_) (fun h2 => ?_)
    · refine x_iconst dX3_isNoNest_19 ⟨by decide, by decide⟩ ?_
      exact xe_i dX3_isNoNest_20 (⟨rfl, Or.inr ⟨⟨h1, h2⟩, rfl⟩⟩)
    · refine x_iconst dX3_isNoNest_15 ⟨by decide, by decide⟩ ?_
      refine x_goto (tgt := 20) dX3_isNoNest_16 rfl ?_
      exact xe_i dX3_isNoNest_20 (⟨rfl, Or.inl ⟨Or.inr h2, rfl⟩⟩)
theorem s_append (hC : CP m s) (hI : Is s) (hl : s.2.2 0 0 < 80) {l : Int} : Mt E 1 yX0_append cX0_append 2 (some .int) [zr 53, zi l] m (CQ m (s.2.2 0 0 + 1, (s.1, s.2.1, ux (ux s.2.2 1 (s.2.2 0 0) l) 0 0 (s.2.2 0 0 + 1)))) := by
  have hl0 := hI.2.2.1
  refine Mt.of 0 (by decide +kernel) (Nat.le_of_ble_eq_true rfl) (Or.inl rfl) ?_ ?_
  · exact CQ.rt
  show Ex E cX0_append 2 RX0 1 _ 0 [some (zr 53), some (zi l)] [] m
  have hR := hC.2
  refine x_aload0 dX0_append_0 ?_
  refine x_getI dX0_append_1 fd_X0_15 rfl (Or.inl rfl) (v := s.2.2 0 0) hR.1 ?_
  refine x_bipush dX0_append_4 ⟨by decide, by decide⟩ ?_
  refine x_icmp_ge (tgt := 29) dX0_append_6 rfl (fun hc => ?_) (fun hc => ?_)
  · omega
  · refine x_aload0 dX0_append_9 ?_
    refine x_getR (q := 54) dX0_append_10 fd_X0_9 rfl rfl rfl ?_
    refine x_aload0 dX0_append_13 ?_
    refine x_getI dX0_append_14 fd_X0_15 rfl (Or.inl rfl) (v := s.2.2 0 0) hR.1 ?_
    refine x_iload1 dX0_append_17 ?_
    refine x_iast dX0_append_18 rfl (by omega) (by omega) ?_
    refine x_aload0 dX0_append_19 ?_
    refine x_dupr dX0_append_20 ?_
    have e1 : up m 54 (s.2.2 0 0).toNat l 53 1 = s.2.2 0 0 := by rw [up_cell (by decide)]; exact hR.1
    refine x_getI dX0_append_21 fd_X0_15 rfl (Or.inl rfl) e1 ?_
    refine x_iconst dX0_append_24 ⟨by decide, by decide⟩ ?_
    refine x_iadd dX0_append_25 (nrm_id (by omega) (by omega)) ?_
    refine x_putI dX0_append_26 fd_X0_15 rfl rfl ?_
    refine x_aload0 dX0_append_29 ?_
    refine x_getI dX0_append_30 fd_X0_15 rfl (Or.inl rfl) (v := s.2.2 0 0 + 1) (up_same _ _ _ _) ?_
    refine xe_i dX0_append_33 ?_
    refine ⟨rfl, hC.rest (lo := 53) (hi := 55) ((Fr.rf.up (by omega) (by omega)).up (by omega) (by omega)) (by omega) ?_, (Fr.rf.up (by omega) (by omega)).up (by omega) (by omega)⟩
    obtain ⟨g1, g2, g3, g4, g5, g6⟩ := hR
    refine ⟨?_, fun z a b => ?_, ?_, ?_, fun z a b => ?_, fun z a b => ?_⟩
    · rw [up_same]; rfl
    · rw [up_cell (by decide)]
      unfold up ux
      simp only [show ¬ ((1 : Nat) = 0) by decide, false_and, if_false, true_and]
      by_cases hz : z = s.2.2 0 0
      · subst hz; simp
      · rw [if_neg (by omega), if_neg hz]; exact g2 z a b
    · rw [up_cell (by decide), up_cell (by decide), g3]; rfl
    · rw [up_cell (by decide), up_cell (by decide), g4]; rfl
    · rw [up_cell (by decide), up_cell (by decide), g5 z a b]; rfl
    · rw [up_cell (by decide), up_cell (by decide), g6 z a b]; rfl
theorem s_feed (hC : CP m s) (hI : Is s) {l : Int} : Mt E 2 yX3_feed cX3_feed 2 (some .int) [zr 55, zi l] m (CQ m (o_feed s l)) := by
  refine Mt.of 0 (by decide +kernel) (Nat.le_of_ble_eq_true rfl) (Or.inl rfl) ?_ ?_
  · exact CQ.rt
  show Ex E cX3_feed 2 RX3 2 _ 0 [some (zr 55), some (zi l)] [] m
  refine x_iload1 dX3_feed_0 ?_
  refine x_if_ge (tgt := 11) dX3_feed_1 rfl (fun h1 => ?_) (fun h1 => ?_)
  · refine x_iload1 dX3_feed_11 ?_
    refine x_sipush dX3_feed_12 ⟨by decide, by decide⟩ ?_
    refine x_icmp_gt (tgt := 30) dX3_feed_15 rfl (fun h2 => ?_) (fun h2 => ?_)
    · refine x_aload0 dX3_feed_30 ?_
      refine x_bipush dX3_feed_31 ⟨by decide, by decide⟩ ?_
      refine x_callv1 dX3_feed_33 cv_X3_46 ci_X3_refuse rfl (T := TX3) rfl (by decide) (Nat.le_of_ble_eq_true rfl) (s_refuse hC (k := 6) (by decide) (by decide) (by decide)) (fun r m1 hq => ?_)
      obtain ⟨rfl, hC1, hF1⟩ := hq
      exact xe_i dX3_feed_36 (by rw [o_feed, if_neg (by omega), if_pos (by omega)]; exact ⟨rfl, hC1, hF1⟩)
    · refine x_aload0 dX3_feed_18 ?_
      refine x_getR (q := 53) dX3_feed_19 fd_X3_32 rfl rfl rfl ?_
      refine x_getI dX3_feed_22 fd_X3_50 rfl (Or.inl rfl) (v := s.2.2 0 0) hC.2.1 ?_
      refine x_bipush dX3_feed_25 ⟨by decide, by decide⟩ ?_
      refine x_icmp_lt (tgt := 37) dX3_feed_27 rfl (fun h3 => ?_) (fun h3 => ?_)
      · refine x_aload0 dX3_feed_37 ?_
        refine x_getR (q := 53) dX3_feed_38 fd_X3_32 rfl rfl rfl ?_
        refine x_iload1 dX3_feed_41 ?_
        refine x_callv1 dX3_feed_42 cv_X3_54 ci_X0_append rfl (T := TX0) rfl (by decide) (Nat.le_of_ble_eq_true rfl) (s_append hC hI h3) (fun r m1 hq => ?_)
        obtain ⟨rfl, hq⟩ := hq
        exact xe_i dX3_feed_45 (by rw [o_feed, if_neg (by omega), if_neg (by omega)]; exact ⟨rfl, hq⟩)
      · refine x_aload0 dX3_feed_30 ?_
        refine x_bipush dX3_feed_31 ⟨by decide, by decide⟩ ?_
        refine x_callv1 dX3_feed_33 cv_X3_46 ci_X3_refuse rfl (T := TX3) rfl (by decide) (Nat.le_of_ble_eq_true rfl) (s_refuse hC (k := 6) (by decide) (by decide) (by decide)) (fun r m1 hq => ?_)
        obtain ⟨rfl, hC1, hF1⟩ := hq
        exact xe_i dX3_feed_36 (by rw [o_feed, if_neg (by omega), if_pos (by omega)]; exact ⟨rfl, hC1, hF1⟩)
  · refine x_aload0 dX3_feed_4 ?_
    refine x_bipush dX3_feed_5 ⟨by decide, by decide⟩ ?_
    refine x_callv1 dX3_feed_7 cv_X3_46 ci_X3_refuse rfl (T := TX3) rfl (by decide) (Nat.le_of_ble_eq_true rfl) (s_refuse hC (k := 4) (by decide) (by decide) (by decide)) (fun r m1 hq => ?_)
    obtain ⟨rfl, hC1, hF1⟩ := hq
    exact xe_i dX3_feed_10 (by rw [o_feed, if_pos h1]; exact ⟨rfl, hC1, hF1⟩)
theorem s_weightTonight (hC : CP m s) (hI : Is s) {n : Int} (h0 : 0 ≤ n) (h1 : n < s.1 0 0) : Mt E 4 yX3_weightTonight cX3_weightTonight 2 (some .int) [zr 55, zi n] m (CQ m (wt s.1 (may s.1 (alln (s.1 0 0))) n, s)) := by
  have hV := hI.1
  have hY := hC.1.1
  refine Mt.of 0 (by decide +kernel) (Nat.le_of_ble_eq_true rfl) (Or.inl rfl) ?_ ?_
  · exact CQ.rt
  show Ex E cX3_weightTonight 2 RX3 4 _ 0 [some (zr 55), some (zi n)] [] m
  refine x_aload0 dX3_weightTonight_0 ?_
  refine x_getR (q := 0) dX3_weightTonight_1 fd_X3_10 rfl rfl rfl ?_
  refine x_aload0 dX3_weightTonight_4 ?_
  refine x_getR (q := 0) dX3_weightTonight_5 fd_X3_10 rfl rfl rfl ?_
  refine x_aload0 dX3_weightTonight_8 ?_
  refine x_getR (q := 0) dX3_weightTonight_9 fd_X3_10 rfl rfl rfl ?_
  refine x_callv0 dX3_weightTonight_12 cv_X3_118 ci_X2_allNests (by first | rfl | exact yb_k (by assumption)) (T := TX2) rfl (by decide) (Nat.le_of_ble_eq_true rfl) (s_allNests yb_0 hY hV) (fun r m1 hq => ?_)
  obtain ⟨rfl, rfl⟩ := hq
  refine x_callv1 dX3_weightTonight_15 cv_X3_128 ci_X2_mayAmong (by first | rfl | exact yb_k (by assumption)) (T := TX2) rfl (by decide) (Nat.le_of_ble_eq_true rfl) (s_mayAmong yb_0 hY) (fun r m2 hq => ?_)
  obtain ⟨rfl, rfl⟩ := hq
  refine x_callv1 dX3_weightTonight_18 cv_X3_133 ci_X2_weigh (by first | rfl | exact yb_k (by assumption)) (T := TX2) rfl (by decide) (Nat.le_of_ble_eq_true rfl) (s_weigh yb_0 hY hV (may_sub hV.1.1 hV.2.2.1 (all_sub hV.1.1 hV.1.2))) (fun r m3 hq => ?_)
  obtain ⟨rfl, hW, hY3, hF3⟩ := hq
  show Ex _ _ _ _ _ _ _ _ [zi _] _
  have hn := hV.1
  refine x_pop dX3_weightTonight_21 ?_
  refine x_aload0 dX3_weightTonight_22 ?_
  refine x_getR (q := 0) dX3_weightTonight_23 fd_X3_10 rfl rfl rfl ?_
  refine x_getR (q := 7) dX3_weightTonight_26 fd_X3_136 rfl rfl rfl ?_
  refine x_iload1 dX3_weightTonight_29 ?_
  refine x_iald dX3_weightTonight_30 rfl (by omega) (by omega) (hW n h0 h1) ?_
  exact xe_i dX3_weightTonight_31 (⟨rfl, hC.yard (hF3.wd (by omega) (by omega)) hY3, hF3.wd (by omega) (by omega)⟩)
theorem s_nest (hC : CP m s) (hI : Is s) {n w : Int} : Mt E 5 yX3_nest cX3_nest 3 (some .int) [zr 55, zi n, zi w] m (CQ m (o_nest s n w)) := by
  have hV := hI.1
  have hY := hC.1.1
  have hn := hV.1
  refine Mt.of 0 (by decide +kernel) (Nat.le_of_ble_eq_true rfl) (Or.inl rfl) ?_ ?_
  · exact CQ.rt
  show Ex E cX3_nest 3 RX3 5 _ 0 [some (zr 55), some (zi n), some (zi w)] [] m
  refine x_aload0 dX3_nest_0 ?_
  refine x_iload1 dX3_nest_1 ?_
  refine x_callv1 dX3_nest_2 cv_X3_65 ci_X3_isNoNest rfl (T := TX3) rfl (by decide) (Nat.le_of_ble_eq_true rfl) (s_isNoNest hC) (fun r m1 hq => ?_)
  obtain ⟨rfl, ⟨h1, rfl⟩ | ⟨h1, rfl⟩⟩ := hq
  · show Ex _ _ _ _ _ _ _ _ [zi 1] _
    refine x_if_eq (tgt := 14) dX3_nest_5 rfl (fun h2 => ?_) (fun h2 => ?_)
    · omega
    · refine x_aload0 dX3_nest_8 ?_
      refine x_iconst dX3_nest_9 ⟨by decide, by decide⟩ ?_
      refine x_callv1 dX3_nest_10 cv_X3_46 ci_X3_refuse rfl (T := TX3) rfl (by decide) (Nat.le_of_ble_eq_true rfl) (s_refuse hC (k := 1) (by decide) (by decide) (by decide)) (fun r m1 hq => ?_)
      obtain ⟨rfl, hC1, hF1⟩ := hq
      exact xe_i dX3_nest_13 (by rw [o_nest, if_pos h1]; exact ⟨rfl, hC1, hF1⟩)
  · show Ex _ _ _ _ _ _ _ _ [zi 0] _
    refine x_if_eq (tgt := 14) dX3_nest_5 rfl (fun h2 => ?_) (fun h2 => ?_)
    · refine x_iload2 dX3_nest_14 ?_
      by_cases hw : w < 0 ∨ 7 < w
      · refine x_tout (tgt := 136) dX3_nest_15 (by omega) rfl ?_
        refine x_aload0 dX3_nest_136 ?_
        refine x_bipush dX3_nest_137 ⟨by decide, by decide⟩ ?_
        refine x_callv1 dX3_nest_139 cv_X3_46 ci_X3_refuse rfl (T := TX3) rfl (by decide) (Nat.le_of_ble_eq_true rfl) (s_refuse hC (k := 2) (by decide) (by decide) (by decide)) (fun r m1 hq => ?_)
        obtain ⟨rfl, hC1, hF1⟩ := hq
        exact xe_i dX3_nest_142 (by rw [o_nest, if_neg (by omega), if_neg (by omega), if_neg (by omega), if_neg (by omega), if_neg (by omega), if_neg (by omega), if_neg (by omega), if_neg (by omega), if_neg (by omega)]; exact ⟨rfl, hC1, hF1⟩)
      · have hw : w = 0 ∨ w = 1 ∨ w = 2 ∨ w = 3 ∨ w = 4 ∨ w = 5 ∨ w = 6 ∨ w = 7 := by omega
        rcases hw with rfl | rfl | rfl | rfl | rfl | rfl | rfl | rfl
        · refine x_tin (tgt := 60) (off := 45) dX3_nest_15 (by decide) (by decide) rfl rfl ?_
          refine x_aload0 dX3_nest_60 ?_
          refine x_getR (q := 0) dX3_nest_61 fd_X3_10 rfl rfl rfl ?_
          refine x_getR (q := 1) dX3_nest_64 fd_X3_69 rfl rfl rfl ?_
          refine x_iload1 dX3_nest_67 ?_
          refine x_iald dX3_nest_68 rfl (by omega) (by omega) (hY.x h1.1 (by omega)) ?_
          exact xe_i dX3_nest_69 (by rw [o_nest, if_neg (by omega)]; exact ⟨rfl, hC, Fr.rf⟩)
        · refine x_tin (tgt := 70) (off := 55) dX3_nest_15 (by decide) (by decide) rfl rfl ?_
          refine x_aload0 dX3_nest_70 ?_
          refine x_getR (q := 0) dX3_nest_71 fd_X3_10 rfl rfl rfl ?_
          refine x_getR (q := 2) dX3_nest_74 fd_X3_72 rfl rfl rfl ?_
          refine x_iload1 dX3_nest_77 ?_
          refine x_iald dX3_nest_78 rfl (by omega) (by omega) (hY.y h1.1 (by omega)) ?_
          exact xe_i dX3_nest_79 (by rw [o_nest, if_neg (by omega)]; exact ⟨rfl, hC, Fr.rf⟩)
        · refine x_tin (tgt := 80) (off := 65) dX3_nest_15 (by decide) (by decide) rfl rfl ?_
          refine x_aload0 dX3_nest_80 ?_
          refine x_getR (q := 0) dX3_nest_81 fd_X3_10 rfl rfl rfl ?_
          refine x_getR (q := 3) dX3_nest_84 fd_X3_75 rfl rfl rfl ?_
          refine x_iload1 dX3_nest_87 ?_
          refine x_iald dX3_nest_88 rfl (by omega) (by omega) (hY.min h1.1 (by omega)) ?_
          exact xe_i dX3_nest_89 (by rw [o_nest, if_neg (by omega)]; exact ⟨rfl, hC, Fr.rf⟩)
        · refine x_tin (tgt := 90) (off := 75) dX3_nest_15 (by decide) (by decide) rfl rfl ?_
          refine x_aload0 dX3_nest_90 ?_
          refine x_getR (q := 0) dX3_nest_91 fd_X3_10 rfl rfl rfl ?_
          refine x_getR (q := 4) dX3_nest_94 fd_X3_78 rfl rfl rfl ?_
          refine x_iload1 dX3_nest_97 ?_
          refine x_iald dX3_nest_98 rfl (by omega) (by omega) (hY.lik h1.1 (by omega)) ?_
          exact xe_i dX3_nest_99 (by rw [o_nest, if_neg (by omega)]; exact ⟨rfl, hC, Fr.rf⟩)
        · refine x_tin (tgt := 100) (off := 85) dX3_nest_15 (by decide) (by decide) rfl rfl ?_
          refine x_aload0 dX3_nest_100 ?_
          refine x_getR (q := 0) dX3_nest_101 fd_X3_10 rfl rfl rfl ?_
          refine x_iload1 dX3_nest_104 ?_
          refine x_callv1 dX3_nest_105 cv_X3_81 ci_X2_eggsAt (by first | rfl | exact yb_k (by assumption)) (T := TX2) rfl (by decide) (Nat.le_of_ble_eq_true rfl) (s_eggsAt yb_0 hY hV.2.2.2.2.2.2.2.2.2.1 h1.1 (by omega)) (fun r m2 hq => ?_)
          obtain ⟨rfl, rfl⟩ := hq
          exact xe_i dX3_nest_108 (by rw [o_nest, if_neg (by omega)]; exact ⟨rfl, hC, Fr.rf⟩)
        · refine x_tin (tgt := 109) (off := 94) dX3_nest_15 (by decide) (by decide) rfl rfl ?_
          refine x_aload0 dX3_nest_109 ?_
          refine x_getR (q := 0) dX3_nest_110 fd_X3_10 rfl rfl rfl ?_
          refine x_iload1 dX3_nest_113 ?_
          refine x_callv1 dX3_nest_114 cv_X3_84 ci_X2_greatestAge (by first | rfl | exact yb_k (by assumption)) (T := TX2) rfl (by decide) (Nat.le_of_ble_eq_true rfl) (s_greatestAge yb_0 hY h1.1 (by omega)) (fun r m2 hq => ?_)
          obtain ⟨rfl, rfl⟩ := hq
          exact xe_i dX3_nest_117 (by rw [o_nest, if_neg (by omega)]; exact ⟨rfl, hC, Fr.rf⟩)
        · refine x_tin (tgt := 118) (off := 103) dX3_nest_15 (by decide) (by decide) rfl rfl ?_
          refine x_aload0 dX3_nest_118 ?_
          refine x_iload1 dX3_nest_119 ?_
          refine x_callv1 dX3_nest_120 cv_X3_87 ci_X3_weightTonight rfl (T := TX3) rfl (by decide) (Nat.le_of_ble_eq_true rfl) (s_weightTonight hC hI h1.1 h1.2) (fun r m2 hq => ?_)
          obtain ⟨rfl, hq⟩ := hq
          exact xe_i dX3_nest_123 (by rw [o_nest, if_neg (by omega)]; exact ⟨rfl, hq⟩)
        · refine x_tin (tgt := 124) (off := 109) dX3_nest_15 (by decide) (by decide) rfl rfl ?_
          refine x_aload0 dX3_nest_124 ?_
          refine x_getR (q := 0) dX3_nest_125 fd_X3_10 rfl rfl rfl ?_
          refine x_getI dX3_nest_128 fd_X3_90 rfl (Or.inl rfl) (v := s.1 0 2) hY.looked ?_
          refine x_iload1 dX3_nest_131 ?_
          refine x_ishr dX3_nest_132 rfl ?_
          refine x_iconst dX3_nest_133 ⟨by decide, by decide⟩ ?_
          refine x_iand dX3_nest_134 rfl ?_
          exact xe_i dX3_nest_135 (by rw [o_nest, if_neg (by omega)]; exact ⟨rfl, hC, Fr.rf⟩)
    · omega
theorem ro77 {q : Int} (h0 : 0 ≤ q) (h1 : q < 4) : ro E 77 q.toNat = lo_f q ∧ ro E 78 q.toNat = hi_f q := by
  have : q = 0 ∨ q = 1 ∨ q = 2 ∨ q = 3 := by omega
  rcases this with rfl | rfl | rfl | rfl <;> exact ⟨rfl, rfl⟩
theorem s_set (hC : CP m s) {q v : Int} : Mt E 2 yX3_set cX3_set 4 (some .int) [zr 55, zi q, zi v] m (CQ m (o_set s q v)) := by
  have hY := hC.1.1
  refine Mt.of 1 (by decide +kernel) (Nat.le_of_ble_eq_true rfl) (Or.inl rfl) ?_ ?_
  · exact CQ.rt
  show Ex E cX3_set 4 RX3 2 _ 0 [some (zr 55), some (zi q), some (zi v), none] [] m
  have e7 : rn E 77 = 4 := rfl
  have e8 : rn E 78 = 4 := rfl
  refine x_iload1 dX3_set_0 ?_
  refine x_if_lt (tgt := 9) dX3_set_1 rfl (fun h1 => ?_) (fun h1 => ?_)
  · refine x_aload0 dX3_set_9 ?_
    refine x_bipush dX3_set_10 ⟨by decide, by decide⟩ ?_
    refine x_callv1 dX3_set_12 cv_X3_46 ci_X3_refuse rfl (T := TX3) rfl (by decide) (Nat.le_of_ble_eq_true rfl) (s_refuse hC (k := 2) (by decide) (by decide) (by decide)) (fun r m1 hq => ?_)
    obtain ⟨rfl, hC1, hF1⟩ := hq
    exact xe_i dX3_set_15 (by rw [o_set, if_pos (by omega)]; exact ⟨rfl, hC1, hF1⟩)
  · refine x_iload1 dX3_set_4 ?_
    refine x_iconst dX3_set_5 ⟨by decide, by decide⟩ ?_
    refine x_icmp_lt (tgt := 16) dX3_set_6 rfl (fun h2 => ?_) (fun h2 => ?_)
    · obtain ⟨r7, r8⟩ := ro77 (E := E) h1 h2
      refine x_iload2 dX3_set_16 ?_
      refine x_gets dX3_set_17 st_X3_93 ?_
      refine x_iload1 dX3_set_20 ?_
      refine x_rald dX3_set_21 ⟨by decide, by decide⟩ (by omega) (by omega) r7 ?_
      refine x_icmp_ge (tgt := 32) dX3_set_22 rfl (fun h3 => ?_) (fun h3 => ?_)
      · refine x_iload2 dX3_set_32 ?_
        refine x_gets dX3_set_33 st_X3_96 ?_
        refine x_iload1 dX3_set_36 ?_
        refine x_rald dX3_set_37 ⟨by decide, by decide⟩ (by omega) (by omega) r8 ?_
        refine x_icmp_le (tgt := 48) dX3_set_38 rfl (fun h4 => ?_) (fun h4 => ?_)
        · refine x_aload0 dX3_set_48 ?_
          refine x_getR (q := 0) dX3_set_49 fd_X3_10 rfl rfl rfl ?_
          refine x_getR (q := 6) dX3_set_52 fd_X3_99 rfl rfl rfl ?_
          refine x_iload1 dX3_set_55 ?_
          refine x_iald dX3_set_56 rfl (by omega) (by omega) (hY.2.1 q h1 h2) ?_
          refine x_istore3 dX3_set_57 (by decide) rfl ?_
          refine x_aload0 dX3_set_58 ?_
          refine x_getR (q := 0) dX3_set_59 fd_X3_10 rfl rfl rfl ?_
          refine x_getR (q := 6) dX3_set_62 fd_X3_99 rfl rfl rfl ?_
          refine x_iload1 dX3_set_65 ?_
          refine x_iload2 dX3_set_66 ?_
          refine x_iast dX3_set_67 rfl (by omega) (by omega) ?_
          refine x_iload3 dX3_set_68 ?_
          exact xe_i dX3_set_69 (by rw [o_set, if_neg (by omega), if_neg (by omega), if_neg (by omega)]; exact ⟨rfl, hC.yard (Fr.rf.up (by omega) (by omega)) (YP.setFig (b := 0) hY h1 h2), Fr.rf.up (by omega) (by omega)⟩)
        · refine x_aload0 dX3_set_41 ?_
          refine x_bipush dX3_set_42 ⟨by decide, by decide⟩ ?_
          refine x_callv1 dX3_set_44 cv_X3_46 ci_X3_refuse rfl (T := TX3) rfl (by decide) (Nat.le_of_ble_eq_true rfl) (s_refuse hC (k := 6) (by decide) (by decide) (by decide)) (fun r m1 hq => ?_)
          obtain ⟨rfl, hC1, hF1⟩ := hq
          exact xe_i dX3_set_47 (by rw [o_set, if_neg (by omega), if_neg (by omega), if_pos (by omega)]; exact ⟨rfl, hC1, hF1⟩)
      · refine x_aload0 dX3_set_25 ?_
        refine x_bipush dX3_set_26 ⟨by decide, by decide⟩ ?_
        refine x_callv1 dX3_set_28 cv_X3_46 ci_X3_refuse rfl (T := TX3) rfl (by decide) (Nat.le_of_ble_eq_true rfl) (s_refuse hC (k := 4) (by decide) (by decide) (by decide)) (fun r m1 hq => ?_)
        obtain ⟨rfl, hC1, hF1⟩ := hq
        exact xe_i dX3_set_31 (by rw [o_set, if_neg (by omega), if_pos (by omega)]; exact ⟨rfl, hC1, hF1⟩)
    · refine x_aload0 dX3_set_9 ?_
      refine x_bipush dX3_set_10 ⟨by decide, by decide⟩ ?_
      refine x_callv1 dX3_set_12 cv_X3_46 ci_X3_refuse rfl (T := TX3) rfl (by decide) (Nat.le_of_ble_eq_true rfl) (s_refuse hC (k := 2) (by decide) (by decide) (by decide)) (fun r m1 hq => ?_)
      obtain ⟨rfl, hC1, hF1⟩ := hq
      exact xe_i dX3_set_15 (by rw [o_set, if_pos (by omega)]; exact ⟨rfl, hC1, hF1⟩)
end MC1
end
section
/-- fewer locals are known -/
def wkb : List (Option zz_V) → List (Option zz_V) → Prop
  | [], _ => True
  | none :: L', _ :: L => wkb L' L
  | none :: L', [] => wkb L' []
  | some v :: L', o :: L => o = some v ∧ wkb L' L
  | some _ :: _, [] => False
theorem wkb_at : ∀ (L' L : List (Option zz_V)), wkb L' L → ∀ (i : Nat) (v : zz_V), L'[i]? = some (some v) → L[i]? = some (some v)
  | [], _, _, i, v, h => by simp at h
  | none :: L', o :: L, hw, 0, v, h => by simp at h
  | none :: L', o :: L, hw, i + 1, v, h => by
    simp only [List.getElem?_cons_succ] at h ⊢
    exact wkb_at L' L hw i v h
  | none :: L', [], hw, 0, v, h => by simp at h
  | none :: L', [], hw, i + 1, v, h => by
    simp only [List.getElem?_cons_succ] at h
    have := wkb_at L' [] hw i v h
    simp at this
  | some w :: L', o :: L, hw, 0, v, h => by
    simp only [List.getElem?_cons_zero] at h ⊢
    rw [hw.1]
    exact h
  | some w :: L', o :: L, hw, i + 1, v, h => by
    simp only [List.getElem?_cons_succ] at h ⊢
    exact wkb_at L' L hw.2 i v h
theorem Ex.wk {E : zz_E} {cc : ByteArray} {nL : Nat} {own : String} {d : Nat} {Q : Option zz_V → zz_M → Prop} {pc : Nat} {L : List (Option zz_V)} {S : List zz_V} {m : zz_M} {L' : List (Option zz_V)} (hw : wkb L' L) (kk : Ex E cc nL own d Q pc L' S m) : Ex E cc nL own d Q pc L S m := Ex.weak (wkb_at L' L hw) kk
section MC2
variable {E : zz_E} {m : zz_M} {s : zz_S}
theorem bit_f : ∀ (n : Fin 6) (l : Fin 64), (0 ≤ isl 1 (n.val : Int) ∧ isl 1 (n.val : Int) < 64) ∧ (ian (l.val : Int) (isl 1 (n.val : Int)) ≠ 0 ↔ bt (l.val : Int) (n.val : Int) = 1) := by decide +kernel
theorem bit_bd {n : Int} (h0 : 0 ≤ n) (h1 : n < 6) : 0 ≤ isl 1 n ∧ isl 1 n < 64 := by
  have h := (bit_f ⟨n.toNat, by omega⟩ ⟨0, by decide⟩).1
  simpa only [nat_of h0] using h
theorem bit_bt {n l : Int} (h0 : 0 ≤ n) (h1 : n < 6) (h2 : 0 ≤ l) (h3 : l < 64) : ian l (isl 1 n) ≠ 0 ↔ bt l n = 1 := by
  have h := (bit_f ⟨n.toNat, by omega⟩ ⟨l.toNat, by omega⟩).2
  simpa only [nat_of h0, nat_of h2] using h
theorem s_look (hC : CP m s) (hI : Is s) {n : Int} : Mt E 3 yX3_look cX3_look 4 (some .int) [zr 55, zi n] m (CQ m (o_look s n)) := by
  have hV := hI.1
  have hY := hC.1.1
  have hn := hV.1
  refine Mt.of 2 (by decide +kernel) (Nat.le_of_ble_eq_true rfl) (Or.inl rfl) ?_ ?_
  · exact CQ.rt
  show Ex E cX3_look 4 RX3 3 _ 0 [some (zr 55), some (zi n), none, none] [] m
  refine x_aload0 dX3_look_0 ?_
  refine x_iload1 dX3_look_1 ?_
  refine x_callv1 dX3_look_2 cv_X3_65 ci_X3_isNoNest rfl (T := TX3) rfl (by decide) (Nat.le_of_ble_eq_true rfl) (s_isNoNest hC) (fun r m1 hq => ?_)
  obtain ⟨rfl, ⟨h1, rfl⟩ | ⟨h1, rfl⟩⟩ := hq
  · show Ex _ _ _ _ _ _ _ _ [zi 1] _
    refine x_if_eq (tgt := 14) dX3_look_5 rfl (fun h2 => ?_) (fun h2 => ?_)
    · omega
    · refine x_aload0 dX3_look_8 ?_
      refine x_iconst dX3_look_9 ⟨by decide, by decide⟩ ?_
      refine x_callv1 dX3_look_10 cv_X3_46 ci_X3_refuse rfl (T := TX3) rfl (by decide) (Nat.le_of_ble_eq_true rfl) (s_refuse hC (k := 1) (by decide) (by decide) (by decide)) (fun r m1 hq => ?_)
      obtain ⟨rfl, hC1, hF1⟩ := hq
      exact xe_i dX3_look_13 (by rw [o_look, if_pos h1]; exact ⟨rfl, hC1, hF1⟩)
  · show Ex _ _ _ _ _ _ _ _ [zi 0] _
    refine x_if_eq (tgt := 14) dX3_look_5 rfl (fun h2 => ?_) (fun h2 => ?_)
    · refine x_iconst dX3_look_14 ⟨by decide, by decide⟩ ?_
      refine x_iload1 dX3_look_15 ?_
      refine x_ishl dX3_look_16 rfl ?_
      refine x_istore2 dX3_look_17 (by decide) rfl ?_
      refine x_aload0 dX3_look_18 ?_
      refine x_getR (q := 0) dX3_look_19 fd_X3_10 rfl rfl rfl ?_
      refine x_getI dX3_look_22 fd_X3_90 rfl (Or.inl rfl) (v := s.1 0 2) hY.looked ?_
      refine x_iload2 dX3_look_25 ?_
      refine x_iand dX3_look_26 rfl ?_
      have hbb := bit_bt h1.1 (show n < 6 by omega) hV.2.2.1.1 hV.2.2.1.2
      have hb2 := bit_bd h1.1 (show n < 6 by omega)
      refine x_if_eq (tgt := 37) dX3_look_27 rfl (fun h3 => ?_) (fun h3 => ?_)
      · have hnb : ¬ bt (s.1 0 2) n = 1 := fun q => hbb.mpr q h3
        refine x_aload0 dX3_look_37 ?_
        refine x_getR (q := 0) dX3_look_38 fd_X3_10 rfl rfl rfl ?_
        refine x_getR (q := 3) dX3_look_41 fd_X3_75 rfl rfl rfl ?_
        refine x_iload1 dX3_look_44 ?_
        refine x_iald dX3_look_45 rfl (by omega) (by omega) (v := s.1 3 n) (hY.min h1.1 (by omega)) ?_
        refine x_aload0 dX3_look_46 ?_
        refine x_getR (q := 0) dX3_look_47 fd_X3_10 rfl rfl rfl ?_
        refine x_callv0 dX3_look_50 cv_X3_102 ci_X2_timeLeft (by first | rfl | exact yb_k (by assumption)) (T := TX2) rfl (by decide) (Nat.le_of_ble_eq_true rfl) (s_timeLeft yb_0 hY hV) (fun r m2 hq => ?_)
        obtain ⟨rfl, rfl⟩ := hq
        show Ex _ _ _ _ _ _ _ _ [zi (tml s.1), zi (s.1 3 n)] _
        refine x_icmp_le (tgt := 63) dX3_look_53 rfl (fun h4 => ?_) (fun h4 => ?_)
        · refine x_aload0 dX3_look_63 ?_
          refine x_getR (q := 0) dX3_look_64 fd_X3_10 rfl rfl rfl ?_
          refine x_iload2 dX3_look_67 ?_
          refine x_callv1 dX3_look_68 cv_X3_106 ci_X2_takeEggs (by first | rfl | exact yb_k (by assumption)) (T := TX2) rfl (by decide) (Nat.le_of_ble_eq_true rfl) (s_takeEggs yb_0 hY hV) (fun r m3 hq => ?_)
          obtain ⟨rfl, hY3, hF3⟩ := hq
          show Ex _ _ _ _ _ _ _ _ [zi _] _
          refine x_istore3 dX3_look_71 (by decide) rfl ?_
          refine x_aload0 dX3_look_72 ?_
          refine x_getR (q := 0) dX3_look_73 fd_X3_10 rfl rfl rfl ?_
          refine x_dupr dX3_look_76 ?_
          refine x_getI dX3_look_77 fd_X3_109 rfl (Or.inl rfl) (v := s.1 0 5) (hY3.found.trans (tak_sc _ _ _ (by decide))) ?_
          refine x_iload3 dX3_look_80 ?_
          refine x_iadd dX3_look_81 rfl ?_
          refine x_putI dX3_look_82 fd_X3_109 rfl rfl ?_
          refine x_iload3 dX3_look_85 ?_
          refine xe_i dX3_look_86 ?_
          rw [o_look, if_neg (by omega), if_neg hnb, if_neg (by omega)]
          exact ⟨rfl, hC.yard (hF3.up (by omega) (by omega)) (YP.setFound (b := 0) hY3), (hF3.wd (by omega) (by omega)).up (by omega) (by omega)⟩
        · refine x_aload0 dX3_look_56 ?_
          refine x_bipush dX3_look_57 ⟨by decide, by decide⟩ ?_
          refine x_callv1 dX3_look_59 cv_X3_46 ci_X3_refuse rfl (T := TX3) rfl (by decide) (Nat.le_of_ble_eq_true rfl) (s_refuse hC (k := 6) (by decide) (by decide) (by decide)) (fun r m1 hq => ?_)
          obtain ⟨rfl, hC1, hF1⟩ := hq
          exact xe_i dX3_look_62 (by rw [o_look, if_neg (by omega), if_neg hnb, if_pos h4]; exact ⟨rfl, hC1, hF1⟩)
      · refine x_aload0 dX3_look_30 ?_
        refine x_bipush dX3_look_31 ⟨by decide, by decide⟩ ?_
        refine x_callv1 dX3_look_33 cv_X3_46 ci_X3_refuse rfl (T := TX3) rfl (by decide) (Nat.le_of_ble_eq_true rfl) (s_refuse hC (k := 3) (by decide) (by decide) (by decide)) (fun r m1 hq => ?_)
        obtain ⟨rfl, hC1, hF1⟩ := hq
        exact xe_i dX3_look_36 (by rw [o_look, if_neg (by omega), if_pos (hbb.mp h3)]; exact ⟨rfl, hC1, hF1⟩)
    · omega
theorem s_night (hC : CP m s) (hI : Is s) : Mt E 5 yX3_night cX3_night 2 (some .int) [zr 55] m (CQ m (o_night s)) := by
  have hV := hI.1
  have hY := hC.1.1
  have hn := hV.1
  refine Mt.of 1 (by decide +kernel) (Nat.le_of_ble_eq_true rfl) (Or.inl rfl) ?_ ?_
  · exact CQ.rt
  show Ex E cX3_night 2 RX3 5 _ 0 [some (zr 55), none] [] m
  refine x_aload0 dX3_night_0 ?_
  refine x_getR (q := 0) dX3_night_1 fd_X3_10 rfl rfl rfl ?_
  refine x_getI dX3_night_4 fd_X3_112 rfl (Or.inl rfl) (v := s.1 0 0) hY.nests ?_
  refine x_if_ne (tgt := 17) dX3_night_7 rfl (fun h1 => ?_) (fun h1 => ?_)
  · refine x_aload0 dX3_night_17 ?_
    refine x_getR (q := 0) dX3_night_18 fd_X3_10 rfl rfl rfl ?_
    refine x_getI dX3_night_21 fd_X3_115 rfl (Or.inl rfl) (v := s.1 0 4) hY.day ?_
    refine x_sipush dX3_night_24 ⟨by decide, by decide⟩ ?_
    refine x_icmp_lt (tgt := 37) dX3_night_27 rfl (fun h2 => ?_) (fun h2 => ?_)
    · refine x_aload0 dX3_night_37 ?_
      refine x_getR (q := 0) dX3_night_38 fd_X3_10 rfl rfl rfl ?_
      refine x_aload0 dX3_night_41 ?_
      refine x_getR (q := 0) dX3_night_42 fd_X3_10 rfl rfl rfl ?_
      refine x_callv0 dX3_night_45 cv_X3_118 ci_X2_allNests (by first | rfl | exact yb_k (by assumption)) (T := TX2) rfl (by decide) (Nat.le_of_ble_eq_true rfl) (s_allNests yb_0 hY hV) (fun r m1 hq => ?_)
      obtain ⟨rfl, rfl⟩ := hq
      refine x_callv1 dX3_night_48 cv_X3_121 ci_X2_laysAmong (by first | rfl | exact yb_k (by assumption)) (T := TX2) rfl (by decide) (Nat.le_of_ble_eq_true rfl) (s_laysAmong yb_0 hY hV (by decide) (all_sub hn.1 hn.2)) (fun r m2 hq => ?_)
      obtain ⟨rfl, hY2, hF2⟩ := hq
      have hl := lay_in hV (by decide) h1
      rw [lc_nn (show 0 ≤ lays s.1 (alln (s.1 0 0)) from hl.1)]
      show Ex _ _ _ _ _ _ _ _ [zi (lay s.1)] _
      refine x_istore1 dX3_night_51 (by decide) rfl ?_
      refine x_aload0 dX3_night_52 ?_
      refine x_getR (q := 0) dX3_night_53 fd_X3_10 rfl rfl rfl ?_
      refine x_iload1 dX3_night_56 ?_
      refine x_callv1 dX3_night_57 cv_X3_124 ci_X2_passNight (by first | rfl | exact yb_k (by assumption)) (T := TX2) rfl (by decide) (Nat.le_of_ble_eq_true rfl) (s_passNight yb_0 hY2 hV (by decide) hl) (fun r m3 hq => ?_)
      obtain ⟨rfl, hY3, hF3⟩ := hq
      show Ex _ _ _ _ _ _ _ _ [] _
      refine x_iload1 dX3_night_60 ?_
      have hFt : Fr 0 8 m1 m3 := (hF2.wd (lo' := 0) (hi' := 8) (by omega) (by omega)).tr hF3
      exact xe_i dX3_night_61 (by rw [o_night, if_neg h1, if_neg (by omega)]; exact ⟨rfl, hC.yard hFt hY3, hFt.wd (by omega) (by omega)⟩)
    · refine x_aload0 dX3_night_30 ?_
      refine x_bipush dX3_night_31 ⟨by decide, by decide⟩ ?_
      refine x_callv1 dX3_night_33 cv_X3_46 ci_X3_refuse rfl (T := TX3) rfl (by decide) (Nat.le_of_ble_eq_true rfl) (s_refuse hC (k := 6) (by decide) (by decide) (by decide)) (fun r m1 hq => ?_)
      obtain ⟨rfl, hC1, hF1⟩ := hq
      exact xe_i dX3_night_36 (by rw [o_night, if_neg h1, if_pos (by omega)]; exact ⟨rfl, hC1, hF1⟩)
  · refine x_aload0 dX3_night_10 ?_
    refine x_bipush dX3_night_11 ⟨by decide, by decide⟩ ?_
    refine x_callv1 dX3_night_13 cv_X3_46 ci_X3_refuse rfl (T := TX3) rfl (by decide) (Nat.le_of_ble_eq_true rfl) (s_refuse hC (k := 3) (by decide) (by decide) (by decide)) (fun r m1 hq => ?_)
    obtain ⟨rfl, hC1, hF1⟩ := hq
    exact xe_i dX3_night_16 (by rw [o_night, if_pos h1]; exact ⟨rfl, hC1, hF1⟩)
theorem s_tonight (hC : CP m s) (hI : Is s) {w : Int} : Mt E 5 yX3_tonight cX3_tonight 3 (some .int) [zr 55, zi w] m (CQ m (o_tonight s w)) := by
  have hV := hI.1
  have hY := hC.1.1
  have hn := hV.1
  refine Mt.of 1 (by decide +kernel) (Nat.le_of_ble_eq_true rfl) (Or.inl rfl) ?_ ?_
  · exact CQ.rt
  show Ex E cX3_tonight 3 RX3 5 _ 0 [some (zr 55), some (zi w), none] [] m
  refine x_iload1 dX3_tonight_0 ?_
  refine x_if_lt (tgt := 9) dX3_tonight_1 rfl (fun h1 => ?_) (fun h1 => ?_)
  · refine x_aload0 dX3_tonight_9 ?_
    refine x_bipush dX3_tonight_10 ⟨by decide, by decide⟩ ?_
    refine x_callv1 dX3_tonight_12 cv_X3_46 ci_X3_refuse rfl (T := TX3) rfl (by decide) (Nat.le_of_ble_eq_true rfl) (s_refuse hC (k := 2) (by decide) (by decide) (by decide)) (fun r m1 hq => ?_)
    obtain ⟨rfl, hC1, hF1⟩ := hq
    exact xe_i dX3_tonight_15 (by rw [o_tonight, if_pos (by omega)]; exact ⟨rfl, hC1, hF1⟩)
  · refine x_iload1 dX3_tonight_4 ?_
    refine x_iconst dX3_tonight_5 ⟨by decide, by decide⟩ ?_
    refine x_icmp_le (tgt := 16) dX3_tonight_6 rfl (fun h2 => ?_) (fun h2 => ?_)
    · refine x_aload0 dX3_tonight_16 ?_
      refine x_getR (q := 0) dX3_tonight_17 fd_X3_10 rfl rfl rfl ?_
      refine x_getI dX3_tonight_20 fd_X3_112 rfl (Or.inl rfl) (v := s.1 0 0) hY.nests ?_
      refine x_if_ne (tgt := 33) dX3_tonight_23 rfl (fun h3 => ?_) (fun h3 => ?_)
      · refine x_aload0 dX3_tonight_33 ?_
        refine x_getR (q := 0) dX3_tonight_34 fd_X3_10 rfl rfl rfl ?_
        refine x_callv0 dX3_tonight_37 cv_X3_118 ci_X2_allNests (by first | rfl | exact yb_k (by assumption)) (T := TX2) rfl (by decide) (Nat.le_of_ble_eq_true rfl) (s_allNests yb_0 hY hV) (fun r m1 hq => ?_)
        obtain ⟨rfl, rfl⟩ := hq
        show Ex _ _ _ _ _ _ _ _ [zi _] _
        refine x_istore2 dX3_tonight_40 (by decide) rfl ?_
        refine x_iload1 dX3_tonight_41 ?_
        refine x_if_ne (tgt := 56) dX3_tonight_42 rfl (fun h4 => ?_) (fun h4 => ?_)
        · refine x_aload0 dX3_tonight_56 ?_
          refine x_getR (q := 0) dX3_tonight_57 fd_X3_10 rfl rfl rfl ?_
          refine x_iload2 dX3_tonight_60 ?_
          refine x_callv1 dX3_tonight_61 cv_X3_128 ci_X2_mayAmong (by first | rfl | exact yb_k (by assumption)) (T := TX2) rfl (by decide) (Nat.le_of_ble_eq_true rfl) (s_mayAmong yb_0 hY) (fun r m2 hq => ?_)
          obtain ⟨rfl, rfl⟩ := hq
          exact xe_i dX3_tonight_64 (by rw [o_tonight, if_neg (by omega), if_neg h3, if_neg h4]; exact ⟨rfl, hC, Fr.rf⟩)
        · refine x_aload0 dX3_tonight_45 ?_
          refine x_getR (q := 0) dX3_tonight_46 fd_X3_10 rfl rfl rfl ?_
          refine x_iload2 dX3_tonight_49 ?_
          refine x_callv1 dX3_tonight_50 cv_X3_121 ci_X2_laysAmong (by first | rfl | exact yb_k (by assumption)) (T := TX2) rfl (by decide) (Nat.le_of_ble_eq_true rfl) (s_laysAmong yb_0 hY hV (by decide) (all_sub hn.1 hn.2)) (fun r m2 hq => ?_)
          obtain ⟨rfl, hY2, hF2⟩ := hq
          have hl := lay_in hV (by decide) h3
          rw [lc_nn (show 0 ≤ lays s.1 (alln (s.1 0 0)) from hl.1)]
          show Ex _ _ _ _ _ _ _ _ [zi (lay s.1)] _
          refine x_goto (tgt := 64) dX3_tonight_53 rfl ?_
          exact xe_i dX3_tonight_64 (by rw [o_tonight, if_neg (by omega), if_neg h3, if_pos h4]; exact ⟨rfl, hC.yard (hF2.wd (by omega) (by omega)) hY2, hF2.wd (by omega) (by omega)⟩)
      · refine x_aload0 dX3_tonight_26 ?_
        refine x_bipush dX3_tonight_27 ⟨by decide, by decide⟩ ?_
        refine x_callv1 dX3_tonight_29 cv_X3_46 ci_X3_refuse rfl (T := TX3) rfl (by decide) (Nat.le_of_ble_eq_true rfl) (s_refuse hC (k := 3) (by decide) (by decide) (by decide)) (fun r m1 hq => ?_)
        obtain ⟨rfl, hC1, hF1⟩ := hq
        exact xe_i dX3_tonight_32 (by rw [o_tonight, if_neg (by omega), if_pos h3]; exact ⟨rfl, hC1, hF1⟩)
    · refine x_aload0 dX3_tonight_9 ?_
      refine x_bipush dX3_tonight_10 ⟨by decide, by decide⟩ ?_
      refine x_callv1 dX3_tonight_12 cv_X3_46 ci_X3_refuse rfl (T := TX3) rfl (by decide) (Nat.le_of_ble_eq_true rfl) (s_refuse hC (k := 2) (by decide) (by decide) (by decide)) (fun r m1 hq => ?_)
      obtain ⟨rfl, hC1, hF1⟩ := hq
      exact xe_i dX3_tonight_15 (by rw [o_tonight, if_pos (by omega)]; exact ⟨rfl, hC1, hF1⟩)
-- Euclid's
def euc : Nat → Nat → Nat → Nat
  | 0, a, _ => a
  | k + 1, a, c => if c = 0 then a else euc k c (a % c)
theorem euc_gcd : ∀ (k a c : Nat), c ≤ k → euc k a c = Nat.gcd a c
  | 0, a, c, h => by
    have : c = 0 := by omega
    subst this
    simp [euc]
  | k + 1, a, c, h => by
    unfold euc
    by_cases hc : c = 0
    · rw [if_pos hc, hc, Nat.gcd_zero_right]
    · rw [if_neg hc, euc_gcd k c (a % c) (by have := Nat.mod_lt a (Nat.pos_of_ne_zero hc); omega), Nat.gcd_comm, ← Nat.gcd_rec, Nat.gcd_comm]
/-- two steps more than halve: so few are enough -/
theorem euc_few : ∀ (k a c : Nat), c < 2 ^ k → euc (2 * k) a c = Nat.gcd a c
  | 0, a, c, h => by
    have : c = 0 := by omega
    subst this
    simp [euc]
  | k + 1, a, c, h => by
    show euc (2 * k + 1 + 1) a c = _
    unfold euc
    by_cases hc : c = 0
    · rw [if_pos hc, hc, Nat.gcd_zero_right]
    · rw [if_neg hc]
      unfold euc
      by_cases h2 : a % c = 0
      · rw [if_pos h2]
        have : Nat.gcd a c = Nat.gcd (a % c) c := by rw [Nat.gcd_comm, Nat.gcd_rec, Nat.gcd_comm]
        rw [this, h2, Nat.gcd_zero_left]
      · rw [if_neg h2]
        have hlt := Nat.mod_lt a (Nat.pos_of_ne_zero hc)
        have h3 : c % (a % c) < 2 ^ k := by
          have h4 := Nat.mod_lt c (Nat.pos_of_ne_zero h2)
          have h5 := Nat.div_add_mod c (a % c)
          have h6 : 1 ≤ c / (a % c) := Nat.div_pos (by omega) (by omega)
          have h7 : (a % c) * 1 ≤ (a % c) * (c / (a % c)) := Nat.mul_le_mul_left _ h6
          rw [Nat.pow_succ] at h
          omega
        rw [euc_few k _ _ h3]
        have e1 : Nat.gcd (a % c) (c % (a % c)) = Nat.gcd c (a % c) := by rw [Nat.gcd_comm c (a % c), Nat.gcd_rec (a % c) c, Nat.gcd_comm]
        rw [e1, Nat.gcd_comm c (a % c), ← Nat.gcd_rec, Nat.gcd_comm]
theorem irm_nat {a c : Nat} (h0 : a ≤ 2147483647) (h1 : 0 < c) (h2 : c ≤ 2147483647) : irm (a : Int) (c : Int) = ((a % c : Nat) : Int) := by
  rw [irm_pos (by omega) (by omega) (by omega) (by omega)]
  push_cast
  rfl
theorem s_commonDivisor {a c : Nat} (ha : a < 1000) (hc : c < 1000) : Mt E 1 yX3_commonDivisor cX3_commonDivisor 6 (some .int) [zi (a : Int), zi (c : Int)] m (ans (some (zi (Nat.gcd a c : Int))) m) := by
  refine Mt.of 4 (by decide +kernel) (Nat.le_of_ble_eq_true rfl) (Or.inl rfl) ?_ ?_
  · rintro r m' ⟨rfl, rfl⟩; simp
  show Ex E cX3_commonDivisor 6 RX3 1 _ 0 [some (zi a), some (zi c), none, none, none, none] [] m
  have loop : ∀ (k : Nat) (x y : Nat), k ≤ 64 → x < 1000 → y < 1000 → euc k x y = Nat.gcd a c → Ex E cX3_commonDivisor 6 RX3 1 (ans (some (zi (Nat.gcd a c : Int))) m) 7 [some (zi a), some (zi c), some (zi x), some (zi y), some (zi (64 - (k : Int))), none] [] m := by
    intro k
    induction k with
    | zero =>
      intro x y hk hx hy hg
      refine x_iload4 dX3_commonDivisor_7 ?_
      refine x_bipush dX3_commonDivisor_9 ⟨by decide, by decide⟩ ?_
      refine x_icmp_ge (tgt := 34) dX3_commonDivisor_11 rfl (fun h1 => ?_) (fun h1 => ?_)
      · refine x_iload2 dX3_commonDivisor_34 ?_
        exact xe_i dX3_commonDivisor_35 (⟨by rw [← hg]; rfl, rfl⟩)
      · omega
    | succ k ih =>
      intro x y hk hx hy hg
      refine x_iload4 dX3_commonDivisor_7 ?_
      refine x_bipush dX3_commonDivisor_9 ⟨by decide, by decide⟩ ?_
      refine x_icmp_ge (tgt := 34) dX3_commonDivisor_11 rfl (fun h1 => ?_) (fun h1 => ?_)
      · omega
      · refine x_iload3 dX3_commonDivisor_14 ?_
        refine x_if_eq (tgt := 34) dX3_commonDivisor_15 rfl (fun h2 => ?_) (fun h2 => ?_)
        · refine x_iload2 dX3_commonDivisor_34 ?_
          have : y = 0 := by omega
          exact xe_i dX3_commonDivisor_35 (⟨by rw [← hg, euc, if_pos this], rfl⟩)
        · have hy0 : y ≠ 0 := by omega
          refine x_iload2 dX3_commonDivisor_18 ?_
          refine x_iload3 dX3_commonDivisor_19 ?_
          refine x_irem dX3_commonDivisor_20 (by omega) (v := ((x % y : Nat) : Int)) (irm_nat (by omega) (by omega) (by omega)) ?_
          refine x_istore5 dX3_commonDivisor_21 (by decide) rfl ?_
          refine x_iload3 dX3_commonDivisor_23 ?_
          refine x_istore2 dX3_commonDivisor_24 (by decide) rfl ?_
          refine x_iload5 dX3_commonDivisor_25 ?_
          refine x_istore3 dX3_commonDivisor_27 (by decide) rfl ?_
          refine x_iinc4 dX3_commonDivisor_28 (by decide) rfl (nrm_id (by omega) (by omega)) ?_
          refine x_goto (tgt := 7) dX3_commonDivisor_31 rfl ?_
          have hlt := Nat.mod_lt x (Nat.pos_of_ne_zero hy0)
          refine Ex.wk (L' := [some (zi a), some (zi c), some (zi y), some (zi ((x % y : Nat) : Int)), some (zi (64 - ((k + 1 : Nat) : Int) + 1)), none]) ⟨rfl, rfl, rfl, rfl, rfl, trivial⟩ (Ex.eq (by rw [show (64 : Int) - ((k + 1 : Nat) : Int) + 1 = 64 - k by omega]) rfl rfl (ih y (x % y) (by omega) (by omega) (by omega) ?_))
          rw [← hg, euc, if_neg hy0]
  refine x_iload0 dX3_commonDivisor_0 ?_
  refine x_istore2 dX3_commonDivisor_1 (by decide) rfl ?_
  refine x_iload1 dX3_commonDivisor_2 ?_
  refine x_istore3 dX3_commonDivisor_3 (by decide) rfl ?_
  refine x_iconst dX3_commonDivisor_4 ⟨by decide, by decide⟩ ?_
  refine x_istore4 dX3_commonDivisor_5 (by decide) rfl ?_
  have h232 : c < 2 ^ 32 := by
    have : (1000 : Nat) ≤ 2 ^ 32 := by decide
    omega
  exact loop 64 a c (by omega) ha hc (euc_few 32 a c h232)
end MC2
end
section
section MC3
variable {E : zz_E} {m : zz_M} {s : zz_S}
theorem isr_sh {q : Int} (hq : zz_in q) (k : Nat) (hk : k < 7) : isr q (k : Int) = q / 2 ^ k := by
  have key : ∀ j : Nat, j < 7 → (Int32.ofInt q >>> (Int32.ofInt (j : Int) &&& 31)).toInt = (BitVec.ofInt 32 ((Int32.ofInt q).toInt >>> j)).toInt := by
    intro j hj
    have : ((Int32.ofInt (j : Int) &&& 31).toBitVec.smod 32).toNat = j := by
      have h : ∀ i : Fin 7, ((Int32.ofInt (i.val : Int) &&& 31).toBitVec.smod 32).toNat = i.val := by decide +kernel
      exact h ⟨j, hj⟩
    show ((Int32.ofInt q).toBitVec.sshiftRight ((Int32.ofInt (j : Int) &&& 31).toBitVec.smod 32).toNat).toInt = _
    rw [this]
    rfl
  unfold isr
  rw [key k hk, i32_of hq, BitVec.toInt_ofInt, Int.shiftRight_eq_div_pow]
  have h2 : (k = 0 ∨ k = 1 ∨ k = 2 ∨ k = 3 ∨ k = 4 ∨ k = 5 ∨ k = 6) := by omega
  obtain ⟨h0, h1⟩ := hq
  rcases h2 with rfl | rfl | rfl | rfl | rfl | rfl | rfl
  · show (q / 1).bmod 4294967296 = q / 1
    exact Int.bmod_eq_of_le (by omega) (by omega)
  · show (q / 2).bmod 4294967296 = q / 2
    exact Int.bmod_eq_of_le (by omega) (by omega)
  · show (q / 4).bmod 4294967296 = q / 4
    exact Int.bmod_eq_of_le (by omega) (by omega)
  · show (q / 8).bmod 4294967296 = q / 8
    exact Int.bmod_eq_of_le (by omega) (by omega)
  · show (q / 16).bmod 4294967296 = q / 16
    exact Int.bmod_eq_of_le (by omega) (by omega)
  · show (q / 32).bmod 4294967296 = q / 32
    exact Int.bmod_eq_of_le (by omega) (by omega)
  · show (q / 64).bmod 4294967296 = q / 64
    exact Int.bmod_eq_of_le (by omega) (by omega)
theorem isr_bd {q n : Int} (hq : zz_in q) (h0 : 0 ≤ n) (h1 : n ≤ 6) (h : isr q n = 0) : 0 ≤ q ∧ q < 64 := by
  have := isr_sh hq n.toNat (by omega)
  rw [nat_of h0, h] at this
  have h2 : (n.toNat = 0 ∨ n.toNat = 1 ∨ n.toNat = 2 ∨ n.toNat = 3 ∨ n.toNat = 4 ∨ n.toNat = 5 ∨ n.toNat = 6) := by omega
  rcases h2 with e | e | e | e | e | e | e <;> rw [e] at this <;> simp at this <;> omega
theorem isr_neg {q n : Int} (hq : zz_in q) (h0 : 0 ≤ n) (h1 : n ≤ 6) (h : q < 0) : isr q n ≠ 0 := fun e => by have := isr_bd hq h0 h1 e; omega
theorem idv_pos {a c : Int} (h0 : 0 ≤ a) (h1 : a ≤ 2147483647) (h2 : 0 < c) (h3 : c ≤ 2147483647) : idv a c = a / c := by
  unfold idv
  rw [Int32.toInt_div, i32_of ⟨by omega, h1⟩, i32_of ⟨by omega, h3⟩, Int.tdiv_eq_ediv_of_nonneg h0]
  have h4 : 0 ≤ a / c := Int.ediv_nonneg h0 (by omega)
  have h5 : a / c ≤ a := Int.ediv_le_self c h0
  exact Int.bmod_eq_of_le (by omega) (by omega)
theorem wtot_bd {V : zz_W} {D : Int} (hI : Iv D V) {y : Int} (hy : sub6 (V 0 0) y) (hh : has y) : 0 < wtot V y ∧ wtot V y ≤ 606 := by
  have hn := hI.1
  have h1 := cnt_pos hn hy hh
  have h2 := cnt_bd y (V 0 0).toNat ⟨hy.1, hy.2.1⟩ (by omega)
  have h3 := smI_bd (f := wf V y) (c := 101) (V 0 0).toNat (fun i h0 h1 => wf_bd hI y h0 (by omega))
  unfold wtot
  rw [wsum_eq]
  split <;> omega
theorem mya_ok {V : zz_W} {D : Int} (hI : Iv D V) : sub6 (V 0 0) (mya V) := may_sub hI.1.1 hI.2.2.1 (all_sub hI.1.1 hI.1.2)
theorem mya_has {V : zz_W} {D : Int} (hI : Iv D V) (h0 : V 0 0 ≠ 0) : has (mya V) := may_has hI.1.1 hI.2.2.1 (all_sub hI.1.1 hI.1.2) (has_all (by have := hI.1; omega) hI.1.2)
abbrev CQl (m : zz_M) (a : zz_A) : Option zz_V → zz_M → Prop := fun r m' => r = some (zj a.1) ∧ CP m' a.2 ∧ Fr 0 59 m m'
theorem gcI_nat {a c : Int} {x y : Nat} (ha : a = x) (hc : c = y) : gcI a c = (Nat.gcd x y : Int) := by
  subst ha hc
  rfl
theorem gcI_pos {a c : Int} (hc : 0 < c) : 0 < gcI a c ∧ gcI a c ≤ c := by
  unfold gcI
  have h1 : 0 < Nat.gcd a.toNat c.toNat := Nat.gcd_pos_of_pos_right _ (by omega)
  have h2 := Nat.gcd_le_right a.toNat (show 0 < c.toNat by omega)
  omega
theorem s_likely (hC : CP m s) (hI : Is s) {n p : Int} : Mt E 4 yX3_likely cX3_likely 5 (some .long) [zr 55, zi n, zi p] m (CQl m (o_likely s n p)) := by
  have hV := hI.1
  have hY := hC.1.1
  have hn := hV.1
  refine Mt.of 2 (by decide +kernel) (Nat.le_of_ble_eq_true rfl) (Or.inr (Or.inr (Or.inl rfl))) ?_ ?_
  · rintro r m' ⟨rfl, -⟩; simp
  show Ex E cX3_likely 5 RX3 4 _ 0 [some (zr 55), some (zi n), some (zi p), none, none] [] m
  refine x_aload0 dX3_likely_0 ?_
  refine x_iload1 dX3_likely_1 ?_
  refine x_callv1 dX3_likely_2 cv_X3_65 ci_X3_isNoNest rfl (T := TX3) rfl (by decide) (Nat.le_of_ble_eq_true rfl) (s_isNoNest hC) (fun r m1 hq => ?_)
  obtain ⟨rfl, ⟨h1, rfl⟩ | ⟨h1, rfl⟩⟩ := hq
  · show Ex _ _ _ _ _ _ _ _ [zi 1] _
    refine x_if_eq (tgt := 19) dX3_likely_5 rfl (fun h2 => ?_) (fun h2 => ?_)
    · omega
    · refine x_ldc2 (v := 4000000000000000000) dX3_likely_8 ⟨by decide, by decide⟩ ctl_X3_131 ?_
      refine x_aload0 dX3_likely_11 ?_
      refine x_iconst dX3_likely_12 ⟨by decide, by decide⟩ ?_
      refine x_callv1 dX3_likely_13 cv_X3_46 ci_X3_refuse rfl (T := TX3) rfl (by decide) (Nat.le_of_ble_eq_true rfl) (s_refuse hC (k := 1) (by decide) (by decide) (by decide)) (fun r m2 hq => ?_)
      obtain ⟨rfl, hC1, hF1⟩ := hq
      show Ex _ _ _ _ _ _ _ _ [zi (-1), zj 4000000000000000000] _
      refine x_i2l dX3_likely_16 ?_
      refine x_lsub dX3_likely_17 (nrml_id (by omega) (by omega)) ?_
      exact xe_l dX3_likely_18 (by rw [o_likely, if_pos h1]; exact ⟨rfl, hC1, hF1⟩)
  · show Ex _ _ _ _ _ _ _ _ [zi 0] _
    refine x_if_eq (tgt := 19) dX3_likely_5 rfl (fun h2 => ?_) (fun h2 => ?_)
    · refine x_iload2 dX3_likely_19 ?_
      have ref2 : (p < 0 ∨ 1 < p) → Ex E cX3_likely 5 RX3 4 (CQl m1 (o_likely s n p)) 28 [some (zr 55), some (zi n), some (zi p), none, none] [] m1 := by
        intro hp
        refine x_ldc2 (v := 4000000000000000000) dX3_likely_28 ⟨by decide, by decide⟩ ctl_X3_131 ?_
        refine x_aload0 dX3_likely_31 ?_
        refine x_bipush dX3_likely_32 ⟨by decide, by decide⟩ ?_
        refine x_callv1 dX3_likely_34 cv_X3_46 ci_X3_refuse rfl (T := TX3) rfl (by decide) (Nat.le_of_ble_eq_true rfl) (s_refuse hC (k := 2) (by decide) (by decide) (by decide)) (fun r m2 hq => ?_)
        obtain ⟨rfl, hC1, hF1⟩ := hq
        show Ex _ _ _ _ _ _ _ _ [zi (-2), zj 4000000000000000000] _
        refine x_i2l dX3_likely_37 ?_
        refine x_lsub dX3_likely_38 (nrml_id (by omega) (by omega)) ?_
        exact xe_l dX3_likely_39 (by rw [o_likely, if_neg (by omega), if_pos hp]; exact ⟨rfl, hC1, hF1⟩)
      refine x_if_lt (tgt := 28) dX3_likely_20 rfl (fun h3 => ?_) (fun h3 => ?_)
      · exact ref2 (Or.inl h3)
      · refine x_iload2 dX3_likely_23 ?_
        refine x_iconst dX3_likely_24 ⟨by decide, by decide⟩ ?_
        refine x_icmp_le (tgt := 40) dX3_likely_25 rfl (fun h4 => ?_) (fun h4 => ?_)
        · refine x_aload0 dX3_likely_40 ?_
          refine x_getR (q := 0) dX3_likely_41 fd_X3_10 rfl rfl rfl ?_
          refine x_aload0 dX3_likely_44 ?_
          refine x_getR (q := 0) dX3_likely_45 fd_X3_10 rfl rfl rfl ?_
          refine x_aload0 dX3_likely_48 ?_
          refine x_getR (q := 0) dX3_likely_49 fd_X3_10 rfl rfl rfl ?_
          refine x_callv0 dX3_likely_52 cv_X3_118 ci_X2_allNests (by first | rfl | exact yb_k (by assumption)) (T := TX2) rfl (by decide) (Nat.le_of_ble_eq_true rfl) (s_allNests yb_0 hY hV) (fun r m2 hq => ?_)
          obtain ⟨rfl, rfl⟩ := hq
          refine x_callv1 dX3_likely_55 cv_X3_128 ci_X2_mayAmong (by first | rfl | exact yb_k (by assumption)) (T := TX2) rfl (by decide) (Nat.le_of_ble_eq_true rfl) (s_mayAmong yb_0 hY) (fun r m3 hq => ?_)
          obtain ⟨rfl, rfl⟩ := hq
          refine x_callv1 dX3_likely_58 cv_X3_133 ci_X2_weigh (by first | rfl | exact yb_k (by assumption)) (T := TX2) rfl (by decide) (Nat.le_of_ble_eq_true rfl) (s_weigh yb_0 hY hV (mya_ok hV)) (fun r m4 hq => ?_)
          obtain ⟨rfl, hW, hY4, hF4⟩ := hq
          have h0 : s.1 0 0 ≠ 0 := by omega
          have hwb := wtot_bd hV (mya_ok hV) (mya_has hV h0)
          have hwn := wt_nn hV (mya_ok hV) h1.1 (show n < 6 by omega)
          have hWn := hW n h1.1 h1.2
          show Ex _ _ _ _ _ _ _ _ [zi (wtot s.1 (mya s.1))] _
          have hCr : CP m4 s := hC.yard (hF4.wd (by omega) (by omega)) hY4
          have hFr : Fr 0 59 m3 m4 := hF4.wd (by omega) (by omega)
          have e1 : wt s.1 (mya s.1) n = ((wt s.1 (mya s.1) n).toNat : Int) := by omega
          have e2 : wtot s.1 (mya s.1) = ((wtot s.1 (mya s.1)).toNat : Int) := by omega
          have hg := gcI_nat e1 e2
          have hgp := gcI_pos (a := wt s.1 (mya s.1) n) hwb.1
          refine x_istore3 dX3_likely_61 (by decide) rfl ?_
          refine x_aload0 dX3_likely_62 ?_
          refine x_getR (q := 0) dX3_likely_63 fd_X3_10 rfl rfl rfl ?_
          refine x_getR (q := 7) dX3_likely_66 fd_X3_136 rfl rfl rfl ?_
          refine x_iload1 dX3_likely_69 ?_
          refine x_iald dX3_likely_70 rfl (by omega) (by omega) (v := wt s.1 (mya s.1) n) hWn ?_
          refine x_iload3 dX3_likely_71 ?_
          refine Ex.eq (S' := [zi ((wtot s.1 (mya s.1)).toNat : Int), zi ((wt s.1 (mya s.1) n).toNat : Int)]) rfl (by rw [← e1, ← e2]) rfl ?_
          refine x_calls2 dX3_likely_72 cv_X3_139 cs_X3_commonDivisor (by decide) (Nat.le_of_ble_eq_true rfl) (s_commonDivisor (a := (wt s.1 (mya s.1) n).toNat) (c := (wtot s.1 (mya s.1)).toNat) (by omega) (by omega)) (fun r m5 hq => ?_)
          obtain ⟨rfl, rfl⟩ := hq
          rw [← hg]
          show Ex _ _ _ _ _ _ _ _ [zi (gcI (wt s.1 (mya s.1) n) (wtot s.1 (mya s.1)))] _
          refine x_istore4 dX3_likely_75 (by decide) rfl ?_
          refine x_iload4 dX3_likely_77 ?_
          refine x_iconst dX3_likely_79 ⟨by decide, by decide⟩ ?_
          refine x_icmp_ge (tgt := 85) dX3_likely_80 rfl (fun h5 => ?_) (fun h5 => ?_)
          · refine x_iload2 dX3_likely_85 ?_
            refine x_if_ne (tgt := 101) dX3_likely_86 rfl (fun h6 => ?_) (fun h6 => ?_)
            · refine x_iload3 dX3_likely_101 ?_
              refine x_iload4 dX3_likely_102 ?_
              refine x_idiv dX3_likely_104 (by omega) (idv_pos (by omega) (by omega) (by omega) (by omega)) ?_
              refine x_i2l dX3_likely_105 ?_
              exact xe_l dX3_likely_106 (by rw [o_likely, if_neg (by omega), if_neg (by omega), if_neg h6]; exact ⟨rfl, hCr, hFr⟩)
            · refine x_aload0 dX3_likely_89 ?_
              refine x_getR (q := 0) dX3_likely_90 fd_X3_10 rfl rfl rfl ?_
              refine x_getR (q := 7) dX3_likely_93 fd_X3_136 rfl rfl rfl ?_
              refine x_iload1 dX3_likely_96 ?_
              refine x_iald dX3_likely_97 rfl (by omega) (by omega) (v := wt s.1 (mya s.1) n) hWn ?_
              refine x_goto (tgt := 102) dX3_likely_98 rfl ?_
              refine x_iload4 dX3_likely_102 ?_
              refine x_idiv dX3_likely_104 (by omega) (idv_pos (by omega) (by omega) (by omega) (by omega)) ?_
              refine x_i2l dX3_likely_105 ?_
              exact xe_l dX3_likely_106 (by rw [o_likely, if_neg (by omega), if_neg (by omega), if_pos h6]; exact ⟨rfl, hCr, hFr⟩)
          · omega
        · exact ref2 (Or.inr h4)
    · omega
end MC3
end
