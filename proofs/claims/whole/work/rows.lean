section
-- ===== PART A: goes FIRST, ahead of the names: the tables' words, and 'selects' of the private methods out of them =====
/-- a private method of a class that the tables say can be made, by its rows of tables_1 -/
def lw_okq (q : MethodName × Nat) : Prop := (q.1.cls ≠ "java/lang/invoke/MethodHandle" ∧ q.1.cls ≠ "java/lang/invoke/VarHandle") ∧ Cond.instantiable q.1.cls q.2 ∈ tables_1 ∧ Cond.privateMethod q.1 ∈ tables_1 ∧ Cond.instanceMethod q.1 ∈ tables_1
theorem lw_p0 : lw_okq (⟨"NobodyLookedYesterday", "refuse", "(I)I"⟩, 10) := ⟨⟨by decide +kernel, by decide +kernel⟩, List.mem_of_getElem? (i := 10) (by decide +kernel), List.mem_of_getElem? (i := 161) (by decide +kernel), List.mem_of_getElem? (i := 162) (by decide +kernel)⟩
theorem lw_p1 : lw_okq (⟨"NobodyLookedYesterday$FarmText", "firstUnfit", "()I"⟩, 2) := ⟨⟨by decide +kernel, by decide +kernel⟩, List.mem_of_getElem? (i := 112) (by decide +kernel), List.mem_of_getElem? (i := 188) (by decide +kernel), List.mem_of_getElem? (i := 189) (by decide +kernel)⟩
theorem lw_p2 : lw_okq (⟨"NobodyLookedYesterday$FarmText", "digitsBehind", "(I)I"⟩, 2) := ⟨⟨by decide +kernel, by decide +kernel⟩, List.mem_of_getElem? (i := 112) (by decide +kernel), List.mem_of_getElem? (i := 195) (by decide +kernel), List.mem_of_getElem? (i := 196) (by decide +kernel)⟩
theorem lw_p3 : lw_okq (⟨"NobodyLookedYesterday$FarmText", "letterAt", "(I)I"⟩, 2) := ⟨⟨by decide +kernel, by decide +kernel⟩, List.mem_of_getElem? (i := 112) (by decide +kernel), List.mem_of_getElem? (i := 199) (by decide +kernel), List.mem_of_getElem? (i := 200) (by decide +kernel)⟩
theorem lw_p4 : lw_okq (⟨"NobodyLookedYesterday$FarmText", "digitAt", "(I)I"⟩, 2) := ⟨⟨by decide +kernel, by decide +kernel⟩, List.mem_of_getElem? (i := 112) (by decide +kernel), List.mem_of_getElem? (i := 203) (by decide +kernel), List.mem_of_getElem? (i := 204) (by decide +kernel)⟩
theorem lw_p5 : lw_okq (⟨"NobodyLookedYesterday$FarmText", "applyStatement", "(LNobodyLookedYesterday$Yard;II)Z"⟩, 2) := ⟨⟨by decide +kernel, by decide +kernel⟩, List.mem_of_getElem? (i := 112) (by decide +kernel), List.mem_of_getElem? (i := 207) (by decide +kernel), List.mem_of_getElem? (i := 208) (by decide +kernel)⟩
theorem lw_p6 : lw_okq (⟨"NobodyLookedYesterday", "isNoNest", "(I)Z"⟩, 10) := ⟨⟨by decide +kernel, by decide +kernel⟩, List.mem_of_getElem? (i := 10) (by decide +kernel), List.mem_of_getElem? (i := 231) (by decide +kernel), List.mem_of_getElem? (i := 232) (by decide +kernel)⟩
theorem lw_p7 : lw_okq (⟨"NobodyLookedYesterday", "weightTonight", "(I)I"⟩, 10) := ⟨⟨by decide +kernel, by decide +kernel⟩, List.mem_of_getElem? (i := 10) (by decide +kernel), List.mem_of_getElem? (i := 243) (by decide +kernel), List.mem_of_getElem? (i := 244) (by decide +kernel)⟩
theorem lw_p8 : lw_okq (⟨"NobodyLookedYesterday$Yard", "weightOf", "(I)I"⟩, 13) := ⟨⟨by decide +kernel, by decide +kernel⟩, List.mem_of_getElem? (i := 18) (by decide +kernel), List.mem_of_getElem? (i := 259) (by decide +kernel), List.mem_of_getElem? (i := 260) (by decide +kernel)⟩
theorem lw_p9 : lw_okq (⟨"NobodyLookedYesterday$Yard", "weighAlike", "(I)I"⟩, 13) := ⟨⟨by decide +kernel, by decide +kernel⟩, List.mem_of_getElem? (i := 18) (by decide +kernel), List.mem_of_getElem? (i := 270) (by decide +kernel), List.mem_of_getElem? (i := 271) (by decide +kernel)⟩
theorem lw_p10 : lw_okq (⟨"NobodyLookedYesterday$Yard", "emptyNest", "(I)I"⟩, 13) := ⟨⟨by decide +kernel, by decide +kernel⟩, List.mem_of_getElem? (i := 18) (by decide +kernel), List.mem_of_getElem? (i := 302) (by decide +kernel), List.mem_of_getElem? (i := 303) (by decide +kernel)⟩
theorem lw_p11 : lw_okq (⟨"NobodyLookedYesterday$Yard", "nestByLot", "(I)I"⟩, 13) := ⟨⟨by decide +kernel, by decide +kernel⟩, List.mem_of_getElem? (i := 18) (by decide +kernel), List.mem_of_getElem? (i := 315) (by decide +kernel), List.mem_of_getElem? (i := 316) (by decide +kernel)⟩
theorem lw_p12 : lw_okq (⟨"NobodyLookedYesterday$Yard", "ageEggs", "(I)V"⟩, 13) := ⟨⟨by decide +kernel, by decide +kernel⟩, List.mem_of_getElem? (i := 18) (by decide +kernel), List.mem_of_getElem? (i := 324) (by decide +kernel), List.mem_of_getElem? (i := 325) (by decide +kernel)⟩
theorem lw_p13 : lw_okq (⟨"NobodyLookedYesterday$Planner", "listAllowed", "(LNobodyLookedYesterday$Yard;)V"⟩, 6) := ⟨⟨by decide +kernel, by decide +kernel⟩, List.mem_of_getElem? (i := 83) (by decide +kernel), List.mem_of_getElem? (i := 348) (by decide +kernel), List.mem_of_getElem? (i := 349) (by decide +kernel)⟩
theorem lw_p14 : lw_okq (⟨"NobodyLookedYesterday$Planner", "mostToday", "(I)I"⟩, 6) := ⟨⟨by decide +kernel, by decide +kernel⟩, List.mem_of_getElem? (i := 83) (by decide +kernel), List.mem_of_getElem? (i := 357) (by decide +kernel), List.mem_of_getElem? (i := 358) (by decide +kernel)⟩
theorem lw_p15 : lw_okq (⟨"NobodyLookedYesterday$Planner", "noteFirst", "(II)V"⟩, 6) := ⟨⟨by decide +kernel, by decide +kernel⟩, List.mem_of_getElem? (i := 83) (by decide +kernel), List.mem_of_getElem? (i := 362) (by decide +kernel), List.mem_of_getElem? (i := 363) (by decide +kernel)⟩
def lw_privs_1 : List (MethodName × Nat) := [(⟨"NobodyLookedYesterday", "refuse", "(I)I"⟩, 10), (⟨"NobodyLookedYesterday$FarmText", "firstUnfit", "()I"⟩, 2), (⟨"NobodyLookedYesterday$FarmText", "digitsBehind", "(I)I"⟩, 2), (⟨"NobodyLookedYesterday$FarmText", "letterAt", "(I)I"⟩, 2), (⟨"NobodyLookedYesterday$FarmText", "digitAt", "(I)I"⟩, 2), (⟨"NobodyLookedYesterday$FarmText", "applyStatement", "(LNobodyLookedYesterday$Yard;II)Z"⟩, 2), (⟨"NobodyLookedYesterday", "isNoNest", "(I)Z"⟩, 10), (⟨"NobodyLookedYesterday", "weightTonight", "(I)I"⟩, 10), (⟨"NobodyLookedYesterday$Yard", "weightOf", "(I)I"⟩, 13), (⟨"NobodyLookedYesterday$Yard", "weighAlike", "(I)I"⟩, 13), (⟨"NobodyLookedYesterday$Yard", "emptyNest", "(I)I"⟩, 13), (⟨"NobodyLookedYesterday$Yard", "nestByLot", "(I)I"⟩, 13), (⟨"NobodyLookedYesterday$Yard", "ageEggs", "(I)V"⟩, 13), (⟨"NobodyLookedYesterday$Planner", "listAllowed", "(LNobodyLookedYesterday$Yard;)V"⟩, 6), (⟨"NobodyLookedYesterday$Planner", "mostToday", "(I)I"⟩, 6), (⟨"NobodyLookedYesterday$Planner", "noteFirst", "(II)V"⟩, 6)]
theorem lw_r1 : ∀ q ∈ lw_privs_1, lw_okq q := List.forall_mem_cons.mpr ⟨lw_p0, List.forall_mem_cons.mpr ⟨lw_p1, List.forall_mem_cons.mpr ⟨lw_p2, List.forall_mem_cons.mpr ⟨lw_p3, List.forall_mem_cons.mpr ⟨lw_p4, List.forall_mem_cons.mpr ⟨lw_p5, List.forall_mem_cons.mpr ⟨lw_p6, List.forall_mem_cons.mpr ⟨lw_p7, List.forall_mem_cons.mpr ⟨lw_p8, List.forall_mem_cons.mpr ⟨lw_p9, List.forall_mem_cons.mpr ⟨lw_p10, List.forall_mem_cons.mpr ⟨lw_p11, List.forall_mem_cons.mpr ⟨lw_p12, List.forall_mem_cons.mpr ⟨lw_p13, List.forall_mem_cons.mpr ⟨lw_p14, List.forall_mem_cons.mpr ⟨lw_p15, fun _ h => absurd h List.not_mem_nil⟩⟩⟩⟩⟩⟩⟩⟩⟩⟩⟩⟩⟩⟩⟩⟩
theorem lw_p16 : lw_okq (⟨"NobodyLookedYesterday$Planner", "laidByAnySet", "(LNobodyLookedYesterday$Yard;)I"⟩, 6) := ⟨⟨by decide +kernel, by decide +kernel⟩, List.mem_of_getElem? (i := 83) (by decide +kernel), List.mem_of_getElem? (i := 400) (by decide +kernel), List.mem_of_getElem? (i := 401) (by decide +kernel)⟩
theorem lw_p17 : lw_okq (⟨"NobodyLookedYesterday", "layRow", "(I)V"⟩, 10) := ⟨⟨by decide +kernel, by decide +kernel⟩, List.mem_of_getElem? (i := 10) (by decide +kernel), List.mem_of_getElem? (i := 412) (by decide +kernel), List.mem_of_getElem? (i := 413) (by decide +kernel)⟩
theorem lw_p18 : lw_okq (⟨"NobodyLookedYesterday", "firstUntrue", "(I)I"⟩, 10) := ⟨⟨by decide +kernel, by decide +kernel⟩, List.mem_of_getElem? (i := 10) (by decide +kernel), List.mem_of_getElem? (i := 416) (by decide +kernel), List.mem_of_getElem? (i := 417) (by decide +kernel)⟩
theorem lw_p19 : lw_okq (⟨"NobodyLookedYesterday", "nightsUntilUnlike", "(II)I"⟩, 10) := ⟨⟨by decide +kernel, by decide +kernel⟩, List.mem_of_getElem? (i := 10) (by decide +kernel), List.mem_of_getElem? (i := 424) (by decide +kernel), List.mem_of_getElem? (i := 425) (by decide +kernel)⟩
theorem lw_p20 : lw_okq (⟨"NobodyLookedYesterdayModel", "carryAll", "([IZ)V"⟩, 40) := ⟨⟨by decide +kernel, by decide +kernel⟩, List.mem_of_getElem? (i := 484) (by decide +kernel), List.mem_of_getElem? (i := 615) (by decide +kernel), List.mem_of_getElem? (i := 616) (by decide +kernel)⟩
theorem lw_p21 : lw_okq (⟨"NobodyLookedYesterdayModel", "carry", "(I)I"⟩, 40) := ⟨⟨by decide +kernel, by decide +kernel⟩, List.mem_of_getElem? (i := 484) (by decide +kernel), List.mem_of_getElem? (i := 619) (by decide +kernel), List.mem_of_getElem? (i := 620) (by decide +kernel)⟩
theorem lw_p22 : lw_okq (⟨"NobodyLookedYesterdayModel", "refuse", "(I)I"⟩, 40) := ⟨⟨by decide +kernel, by decide +kernel⟩, List.mem_of_getElem? (i := 484) (by decide +kernel), List.mem_of_getElem? (i := 627) (by decide +kernel), List.mem_of_getElem? (i := 628) (by decide +kernel)⟩
theorem lw_p23 : lw_okq (⟨"NobodyLookedYesterdayModel", "readStatement", "()V"⟩, 40) := ⟨⟨by decide +kernel, by decide +kernel⟩, List.mem_of_getElem? (i := 484) (by decide +kernel), List.mem_of_getElem? (i := 639) (by decide +kernel), List.mem_of_getElem? (i := 640) (by decide +kernel)⟩
theorem lw_p24 : lw_okq (⟨"NobodyLookedYesterdayModel", "here", "()I"⟩, 40) := ⟨⟨by decide +kernel, by decide +kernel⟩, List.mem_of_getElem? (i := 484) (by decide +kernel), List.mem_of_getElem? (i := 643) (by decide +kernel), List.mem_of_getElem? (i := 644) (by decide +kernel)⟩
theorem lw_p25 : lw_okq (⟨"NobodyLookedYesterdayModel", "readDigit", "()I"⟩, 40) := ⟨⟨by decide +kernel, by decide +kernel⟩, List.mem_of_getElem? (i := 484) (by decide +kernel), List.mem_of_getElem? (i := 647) (by decide +kernel), List.mem_of_getElem? (i := 648) (by decide +kernel)⟩
theorem lw_p26 : lw_okq (⟨"NobodyLookedYesterdayModel", "open", "()V"⟩, 40) := ⟨⟨by decide +kernel, by decide +kernel⟩, List.mem_of_getElem? (i := 484) (by decide +kernel), List.mem_of_getElem? (i := 656) (by decide +kernel), List.mem_of_getElem? (i := 657) (by decide +kernel)⟩
theorem lw_p27 : lw_okq (⟨"NobodyLookedYesterdayModel", "comes", "(I)Z"⟩, 40) := ⟨⟨by decide +kernel, by decide +kernel⟩, List.mem_of_getElem? (i := 484) (by decide +kernel), List.mem_of_getElem? (i := 660) (by decide +kernel), List.mem_of_getElem? (i := 661) (by decide +kernel)⟩
theorem lw_p28 : lw_okq (⟨"NobodyLookedYesterdayModel", "isNest", "(I)Z"⟩, 40) := ⟨⟨by decide +kernel, by decide +kernel⟩, List.mem_of_getElem? (i := 484) (by decide +kernel), List.mem_of_getElem? (i := 664) (by decide +kernel), List.mem_of_getElem? (i := 665) (by decide +kernel)⟩
theorem lw_p29 : lw_okq (⟨"NobodyLookedYesterdayModel", "close", "()V"⟩, 40) := ⟨⟨by decide +kernel, by decide +kernel⟩, List.mem_of_getElem? (i := 484) (by decide +kernel), List.mem_of_getElem? (i := 668) (by decide +kernel), List.mem_of_getElem? (i := 669) (by decide +kernel)⟩
theorem lw_p30 : lw_okq (⟨"NobodyLookedYesterdayModel", "eggsIn", "(I)I"⟩, 40) := ⟨⟨by decide +kernel, by decide +kernel⟩, List.mem_of_getElem? (i := 484) (by decide +kernel), List.mem_of_getElem? (i := 676) (by decide +kernel), List.mem_of_getElem? (i := 677) (by decide +kernel)⟩
theorem lw_p31 : lw_okq (⟨"NobodyLookedYesterdayModel", "oldest", "(I)I"⟩, 40) := ⟨⟨by decide +kernel, by decide +kernel⟩, List.mem_of_getElem? (i := 484) (by decide +kernel), List.mem_of_getElem? (i := 680) (by decide +kernel), List.mem_of_getElem? (i := 681) (by decide +kernel)⟩
def lw_privs_2 : List (MethodName × Nat) := [(⟨"NobodyLookedYesterday$Planner", "laidByAnySet", "(LNobodyLookedYesterday$Yard;)I"⟩, 6), (⟨"NobodyLookedYesterday", "layRow", "(I)V"⟩, 10), (⟨"NobodyLookedYesterday", "firstUntrue", "(I)I"⟩, 10), (⟨"NobodyLookedYesterday", "nightsUntilUnlike", "(II)I"⟩, 10), (⟨"NobodyLookedYesterdayModel", "carryAll", "([IZ)V"⟩, 40), (⟨"NobodyLookedYesterdayModel", "carry", "(I)I"⟩, 40), (⟨"NobodyLookedYesterdayModel", "refuse", "(I)I"⟩, 40), (⟨"NobodyLookedYesterdayModel", "readStatement", "()V"⟩, 40), (⟨"NobodyLookedYesterdayModel", "here", "()I"⟩, 40), (⟨"NobodyLookedYesterdayModel", "readDigit", "()I"⟩, 40), (⟨"NobodyLookedYesterdayModel", "open", "()V"⟩, 40), (⟨"NobodyLookedYesterdayModel", "comes", "(I)Z"⟩, 40), (⟨"NobodyLookedYesterdayModel", "isNest", "(I)Z"⟩, 40), (⟨"NobodyLookedYesterdayModel", "close", "()V"⟩, 40), (⟨"NobodyLookedYesterdayModel", "eggsIn", "(I)I"⟩, 40), (⟨"NobodyLookedYesterdayModel", "oldest", "(I)I"⟩, 40)]
theorem lw_r2 : ∀ q ∈ lw_privs_2, lw_okq q := List.forall_mem_cons.mpr ⟨lw_p16, List.forall_mem_cons.mpr ⟨lw_p17, List.forall_mem_cons.mpr ⟨lw_p18, List.forall_mem_cons.mpr ⟨lw_p19, List.forall_mem_cons.mpr ⟨lw_p20, List.forall_mem_cons.mpr ⟨lw_p21, List.forall_mem_cons.mpr ⟨lw_p22, List.forall_mem_cons.mpr ⟨lw_p23, List.forall_mem_cons.mpr ⟨lw_p24, List.forall_mem_cons.mpr ⟨lw_p25, List.forall_mem_cons.mpr ⟨lw_p26, List.forall_mem_cons.mpr ⟨lw_p27, List.forall_mem_cons.mpr ⟨lw_p28, List.forall_mem_cons.mpr ⟨lw_p29, List.forall_mem_cons.mpr ⟨lw_p30, List.forall_mem_cons.mpr ⟨lw_p31, fun _ h => absurd h List.not_mem_nil⟩⟩⟩⟩⟩⟩⟩⟩⟩⟩⟩⟩⟩⟩⟩⟩
theorem lw_p32 : lw_okq (⟨"NobodyLookedYesterdayModel", "weigh", "()V"⟩, 40) := ⟨⟨by decide +kernel, by decide +kernel⟩, List.mem_of_getElem? (i := 484) (by decide +kernel), List.mem_of_getElem? (i := 684) (by decide +kernel), List.mem_of_getElem? (i := 685) (by decide +kernel)⟩
theorem lw_p33 : lw_okq (⟨"NobodyLookedYesterdayModel", "mayBits", "()I"⟩, 40) := ⟨⟨by decide +kernel, by decide +kernel⟩, List.mem_of_getElem? (i := 484) (by decide +kernel), List.mem_of_getElem? (i := 688) (by decide +kernel), List.mem_of_getElem? (i := 689) (by decide +kernel)⟩
theorem lw_p34 : lw_okq (⟨"NobodyLookedYesterdayModel", "rawWeight", "(I)I"⟩, 40) := ⟨⟨by decide +kernel, by decide +kernel⟩, List.mem_of_getElem? (i := 484) (by decide +kernel), List.mem_of_getElem? (i := 692) (by decide +kernel), List.mem_of_getElem? (i := 693) (by decide +kernel)⟩
theorem lw_p35 : lw_okq (⟨"NobodyLookedYesterdayModel", "minutesOf", "(I)I"⟩, 40) := ⟨⟨by decide +kernel, by decide +kernel⟩, List.mem_of_getElem? (i := 484) (by decide +kernel), List.mem_of_getElem? (i := 708) (by decide +kernel), List.mem_of_getElem? (i := 709) (by decide +kernel)⟩
theorem lw_p36 : lw_okq (⟨"NobodyLookedYesterdayModel", "take", "(I)I"⟩, 40) := ⟨⟨by decide +kernel, by decide +kernel⟩, List.mem_of_getElem? (i := 484) (by decide +kernel), List.mem_of_getElem? (i := 712) (by decide +kernel), List.mem_of_getElem? (i := 713) (by decide +kernel)⟩
theorem lw_p37 : lw_okq (⟨"NobodyLookedYesterdayModel", "nightOn", "()I"⟩, 40) := ⟨⟨by decide +kernel, by decide +kernel⟩, List.mem_of_getElem? (i := 484) (by decide +kernel), List.mem_of_getElem? (i := 720) (by decide +kernel), List.mem_of_getElem? (i := 721) (by decide +kernel)⟩
theorem lw_p38 : lw_okq (⟨"NobodyLookedYesterdayModel", "laysAt", "()I"⟩, 40) := ⟨⟨by decide +kernel, by decide +kernel⟩, List.mem_of_getElem? (i := 484) (by decide +kernel), List.mem_of_getElem? (i := 724) (by decide +kernel), List.mem_of_getElem? (i := 725) (by decide +kernel)⟩
theorem lw_p39 : lw_okq (⟨"NobodyLookedYesterdayModel", "nightAt", "(I)V"⟩, 40) := ⟨⟨by decide +kernel, by decide +kernel⟩, List.mem_of_getElem? (i := 484) (by decide +kernel), List.mem_of_getElem? (i := 728) (by decide +kernel), List.mem_of_getElem? (i := 729) (by decide +kernel)⟩
theorem lw_p40 : lw_okq (⟨"NobodyLookedYesterdayModel", "allows", "(I)Z"⟩, 40) := ⟨⟨by decide +kernel, by decide +kernel⟩, List.mem_of_getElem? (i := 484) (by decide +kernel), List.mem_of_getElem? (i := 745) (by decide +kernel), List.mem_of_getElem? (i := 746) (by decide +kernel)⟩
theorem lw_p41 : lw_okq (⟨"NobodyLookedYesterdayModel", "bestOfDay", "()I"⟩, 40) := ⟨⟨by decide +kernel, by decide +kernel⟩, List.mem_of_getElem? (i := 484) (by decide +kernel), List.mem_of_getElem? (i := 749) (by decide +kernel), List.mem_of_getElem? (i := 750) (by decide +kernel)⟩
theorem lw_p42 : lw_okq (⟨"NobodyLookedYesterdayModel", "eggsOf", "(I)I"⟩, 40) := ⟨⟨by decide +kernel, by decide +kernel⟩, List.mem_of_getElem? (i := 484) (by decide +kernel), List.mem_of_getElem? (i := 753) (by decide +kernel), List.mem_of_getElem? (i := 754) (by decide +kernel)⟩
theorem lw_p43 : lw_okq (⟨"NobodyLookedYesterdayModel", "bestOfTwo", "()I"⟩, 40) := ⟨⟨by decide +kernel, by decide +kernel⟩, List.mem_of_getElem? (i := 484) (by decide +kernel), List.mem_of_getElem? (i := 757) (by decide +kernel), List.mem_of_getElem? (i := 758) (by decide +kernel)⟩
theorem lw_p44 : lw_okq (⟨"NobodyLookedYesterdayModel", "firstUnlike", "()I"⟩, 40) := ⟨⟨by decide +kernel, by decide +kernel⟩, List.mem_of_getElem? (i := 484) (by decide +kernel), List.mem_of_getElem? (i := 781) (by decide +kernel), List.mem_of_getElem? (i := 782) (by decide +kernel)⟩
theorem lw_p45 : lw_okq (⟨"NobodyLookedYesterdayModel", "eggsOfAll", "()I"⟩, 40) := ⟨⟨by decide +kernel, by decide +kernel⟩, List.mem_of_getElem? (i := 484) (by decide +kernel), List.mem_of_getElem? (i := 793) (by decide +kernel), List.mem_of_getElem? (i := 794) (by decide +kernel)⟩
theorem lw_p46 : lw_okq (⟨"NobodyLookedYesterdayModel", "draw", "(I)I"⟩, 40) := ⟨⟨by decide +kernel, by decide +kernel⟩, List.mem_of_getElem? (i := 484) (by decide +kernel), List.mem_of_getElem? (i := 817) (by decide +kernel), List.mem_of_getElem? (i := 818) (by decide +kernel)⟩
theorem lw_p47 : lw_okq (⟨"NobodyLookedYesterdayModel", "drawnNest", "()I"⟩, 40) := ⟨⟨by decide +kernel, by decide +kernel⟩, List.mem_of_getElem? (i := 484) (by decide +kernel), List.mem_of_getElem? (i := 824) (by decide +kernel), List.mem_of_getElem? (i := 825) (by decide +kernel)⟩
def lw_privs_3 : List (MethodName × Nat) := [(⟨"NobodyLookedYesterdayModel", "weigh", "()V"⟩, 40), (⟨"NobodyLookedYesterdayModel", "mayBits", "()I"⟩, 40), (⟨"NobodyLookedYesterdayModel", "rawWeight", "(I)I"⟩, 40), (⟨"NobodyLookedYesterdayModel", "minutesOf", "(I)I"⟩, 40), (⟨"NobodyLookedYesterdayModel", "take", "(I)I"⟩, 40), (⟨"NobodyLookedYesterdayModel", "nightOn", "()I"⟩, 40), (⟨"NobodyLookedYesterdayModel", "laysAt", "()I"⟩, 40), (⟨"NobodyLookedYesterdayModel", "nightAt", "(I)V"⟩, 40), (⟨"NobodyLookedYesterdayModel", "allows", "(I)Z"⟩, 40), (⟨"NobodyLookedYesterdayModel", "bestOfDay", "()I"⟩, 40), (⟨"NobodyLookedYesterdayModel", "eggsOf", "(I)I"⟩, 40), (⟨"NobodyLookedYesterdayModel", "bestOfTwo", "()I"⟩, 40), (⟨"NobodyLookedYesterdayModel", "firstUnlike", "()I"⟩, 40), (⟨"NobodyLookedYesterdayModel", "eggsOfAll", "()I"⟩, 40), (⟨"NobodyLookedYesterdayModel", "draw", "(I)I"⟩, 40), (⟨"NobodyLookedYesterdayModel", "drawnNest", "()I"⟩, 40)]
theorem lw_r3 : ∀ q ∈ lw_privs_3, lw_okq q := List.forall_mem_cons.mpr ⟨lw_p32, List.forall_mem_cons.mpr ⟨lw_p33, List.forall_mem_cons.mpr ⟨lw_p34, List.forall_mem_cons.mpr ⟨lw_p35, List.forall_mem_cons.mpr ⟨lw_p36, List.forall_mem_cons.mpr ⟨lw_p37, List.forall_mem_cons.mpr ⟨lw_p38, List.forall_mem_cons.mpr ⟨lw_p39, List.forall_mem_cons.mpr ⟨lw_p40, List.forall_mem_cons.mpr ⟨lw_p41, List.forall_mem_cons.mpr ⟨lw_p42, List.forall_mem_cons.mpr ⟨lw_p43, List.forall_mem_cons.mpr ⟨lw_p44, List.forall_mem_cons.mpr ⟨lw_p45, List.forall_mem_cons.mpr ⟨lw_p46, List.forall_mem_cons.mpr ⟨lw_p47, fun _ h => absurd h List.not_mem_nil⟩⟩⟩⟩⟩⟩⟩⟩⟩⟩⟩⟩⟩⟩⟩⟩
def lw_privs : List (MethodName × Nat) := lw_privs_1 ++ (lw_privs_2 ++ (lw_privs_3))
def lw_tbl : List Cond := k2_sels lw_privs ++ tables_1
theorem lw_privs_ok : ∀ q ∈ lw_privs, lw_okq q := by
  show ∀ q ∈ lw_privs_1 ++ (lw_privs_2 ++ (lw_privs_3)), lw_okq q
  exact List.forall_mem_append.mpr ⟨lw_r1, List.forall_mem_append.mpr ⟨lw_r2, lw_r3⟩⟩
def RX0 : String := "NobodyLookedYesterday$FarmText"
def TX0 : u_T := fun k => match k with
  | 0 => ("NobodyLookedYesterday$FarmText", "letters", "[I", true)
  | _ => ("NobodyLookedYesterday$FarmText", "length", "I", false)
def tyX0 : Nat → FieldType := fun k => match k with
  | 0 => .array .int
  | _ => .int
theorem nmX0 : ∀ a, a < 2 → ∀ b, b < 2 → a ≠ b → (TX0 a).2.1 ≠ (TX0 b).2.1 := by decide +kernel
theorem tyX0_ok : ∀ k, k < 2 → parseFieldDescriptor (TX0 k).2.2.1 = some (tyX0 k) := by decide +kernel
def RX1 : String := "NobodyLookedYesterday$Planner"
def TX1 : u_T := fun k => match k with
  | 0 => ("NobodyLookedYesterday$Planner", "minds", "[LNobodyLookedYesterday$Yard;", true)
  | 1 => ("NobodyLookedYesterday$Planner", "allowed", "[I", true)
  | 2 => ("NobodyLookedYesterday$Planner", "heaps", "[I", true)
  | 3 => ("NobodyLookedYesterday$Planner", "sums", "[I", true)
  | 4 => ("NobodyLookedYesterday$Planner", "allowedCount", "I", false)
  | _ => ("NobodyLookedYesterday$Planner", "firstSet", "I", false)
def tyX1 : Nat → FieldType := fun k => match k with
  | 0 => .array (.object "NobodyLookedYesterday$Yard")
  | 1 => .array .int
  | 2 => .array .int
  | 3 => .array .int
  | 4 => .int
  | _ => .int
theorem nmX1 : ∀ a, a < 6 → ∀ b, b < 6 → a ≠ b → (TX1 a).2.1 ≠ (TX1 b).2.1 := by decide +kernel
theorem tyX1_ok : ∀ k, k < 6 → parseFieldDescriptor (TX1 k).2.2.1 = some (tyX1 k) := by decide +kernel
def RX2 : String := "NobodyLookedYesterday$Yard"
def TX2 : u_T := fun k => match k with
  | 0 => ("NobodyLookedYesterday$Yard", "xs", "[I", true)
  | 1 => ("NobodyLookedYesterday$Yard", "ys", "[I", true)
  | 2 => ("NobodyLookedYesterday$Yard", "minutes", "[I", true)
  | 3 => ("NobodyLookedYesterday$Yard", "likings", "[I", true)
  | 4 => ("NobodyLookedYesterday$Yard", "eggs", "[I", true)
  | 5 => ("NobodyLookedYesterday$Yard", "figures", "[I", true)
  | 6 => ("NobodyLookedYesterday$Yard", "weights", "[I", true)
  | 7 => ("NobodyLookedYesterday$Yard", "nests", "I", false)
  | 8 => ("NobodyLookedYesterday$Yard", "last", "I", false)
  | 9 => ("NobodyLookedYesterday$Yard", "looked", "I", false)
  | 10 => ("NobodyLookedYesterday$Yard", "before", "I", false)
  | 11 => ("NobodyLookedYesterday$Yard", "day", "I", false)
  | _ => ("NobodyLookedYesterday$Yard", "found", "I", false)
def tyX2 : Nat → FieldType := fun k => match k with
  | 0 => .array .int
  | 1 => .array .int
  | 2 => .array .int
  | 3 => .array .int
  | 4 => .array .int
  | 5 => .array .int
  | 6 => .array .int
  | 7 => .int
  | 8 => .int
  | 9 => .int
  | 10 => .int
  | 11 => .int
  | _ => .int
theorem nmX2 : ∀ a, a < 13 → ∀ b, b < 13 → a ≠ b → (TX2 a).2.1 ≠ (TX2 b).2.1 := by decide +kernel
theorem tyX2_ok : ∀ k, k < 13 → parseFieldDescriptor (TX2 k).2.2.1 = some (tyX2 k) := by decide +kernel
def RX3 : String := "NobodyLookedYesterday"
def TX3 : u_T := fun k => match k with
  | 0 => ("NobodyLookedYesterday", "yard", "LNobodyLookedYesterday$Yard;", true)
  | 1 => ("NobodyLookedYesterday", "kept", "LNobodyLookedYesterday$Yard;", true)
  | 2 => ("NobodyLookedYesterday", "mind", "LNobodyLookedYesterday$Yard;", true)
  | 3 => ("NobodyLookedYesterday", "planner", "LNobodyLookedYesterday$Planner;", true)
  | 4 => ("NobodyLookedYesterday", "text", "LNobodyLookedYesterday$FarmText;", true)
  | 5 => ("NobodyLookedYesterday", "told", "[I", true)
  | 6 => ("NobodyLookedYesterday", "laid", "[I", true)
  | 7 => ("NobodyLookedYesterday", "refusals", "[I", true)
  | 8 => ("NobodyLookedYesterday", "toldCount", "I", false)
  | _ => ("NobodyLookedYesterday", "isKept", "Z", false)
def tyX3 : Nat → FieldType := fun k => match k with
  | 0 => .object "NobodyLookedYesterday$Yard"
  | 1 => .object "NobodyLookedYesterday$Yard"
  | 2 => .object "NobodyLookedYesterday$Yard"
  | 3 => .object "NobodyLookedYesterday$Planner"
  | 4 => .object "NobodyLookedYesterday$FarmText"
  | 5 => .array .int
  | 6 => .array .int
  | 7 => .array .int
  | 8 => .int
  | _ => .boolean
theorem nmX3 : ∀ a, a < 10 → ∀ b, b < 10 → a ≠ b → (TX3 a).2.1 ≠ (TX3 b).2.1 := by decide +kernel
theorem tyX3_ok : ∀ k, k < 10 → parseFieldDescriptor (TX3 k).2.2.1 = some (tyX3 k) := by decide +kernel
def RX4 : String := "NobodyLookedYesterdayModel"
def TX4 : u_T := fun k => match k with
  | 0 => ("NobodyLookedYesterdayModel", "nests", "I", false)
  | 1 => ("NobodyLookedYesterdayModel", "kind", "I", false)
  | 2 => ("NobodyLookedYesterdayModel", "figure", "I", false)
  | 3 => ("NobodyLookedYesterdayModel", "time", "I", false)
  | 4 => ("NobodyLookedYesterdayModel", "rat", "I", false)
  | 5 => ("NobodyLookedYesterdayModel", "last", "I", false)
  | 6 => ("NobodyLookedYesterdayModel", "looked", "I", false)
  | 7 => ("NobodyLookedYesterdayModel", "before", "I", false)
  | 8 => ("NobodyLookedYesterdayModel", "days", "I", false)
  | 9 => ("NobodyLookedYesterdayModel", "found", "I", false)
  | 10 => ("NobodyLookedYesterdayModel", "xs", "[I", true)
  | 11 => ("NobodyLookedYesterdayModel", "ys", "[I", true)
  | 12 => ("NobodyLookedYesterdayModel", "minutes", "[I", true)
  | 13 => ("NobodyLookedYesterdayModel", "likings", "[I", true)
  | 14 => ("NobodyLookedYesterdayModel", "eggs", "[I", true)
  | 15 => ("NobodyLookedYesterdayModel", "thrown", "I", false)
  | 16 => ("NobodyLookedYesterdayModel", "refusals", "[I", true)
  | 17 => ("NobodyLookedYesterdayModel", "gone", "I", false)
  | 18 => ("NobodyLookedYesterdayModel", "weights", "[I", true)
  | 19 => ("NobodyLookedYesterdayModel", "weightOfAll", "I", false)
  | 20 => ("NobodyLookedYesterdayModel", "kept", "[I", true)
  | 21 => ("NobodyLookedYesterdayModel", "keptTwo", "[I", true)
  | 22 => ("NobodyLookedYesterdayModel", "keptThree", "[I", true)
  | 23 => ("NobodyLookedYesterdayModel", "imaged", "[I", true)
  | 24 => ("NobodyLookedYesterdayModel", "hasImage", "Z", false)
  | 25 => ("NobodyLookedYesterdayModel", "place", "I", false)
  | 26 => ("NobodyLookedYesterdayModel", "isTaking", "Z", false)
  | 27 => ("NobodyLookedYesterdayModel", "keptIn", "[I", false)
  | 28 => ("NobodyLookedYesterdayModel", "letters", "[I", true)
  | 29 => ("NobodyLookedYesterdayModel", "letterMany", "I", false)
  | 30 => ("NobodyLookedYesterdayModel", "at", "I", false)
  | 31 => ("NobodyLookedYesterdayModel", "isBad", "Z", false)
  | 32 => ("NobodyLookedYesterdayModel", "statements", "I", false)
  | 33 => ("NobodyLookedYesterdayModel", "placeOf", "[I", true)
  | 34 => ("NobodyLookedYesterdayModel", "letterOf", "[I", true)
  | 35 => ("NobodyLookedYesterdayModel", "told", "[I", true)
  | 36 => ("NobodyLookedYesterdayModel", "row", "[I", true)
  | 37 => ("NobodyLookedYesterdayModel", "rowMany", "I", false)
  | 38 => ("NobodyLookedYesterdayModel", "laid", "[I", true)
  | _ => ("NobodyLookedYesterdayModel", "seed", "I", false)
def tyX4 : Nat → FieldType := fun k => match k with
  | 0 => .int
  | 1 => .int
  | 2 => .int
  | 3 => .int
  | 4 => .int
  | 5 => .int
  | 6 => .int
  | 7 => .int
  | 8 => .int
  | 9 => .int
  | 10 => .array .int
  | 11 => .array .int
  | 12 => .array .int
  | 13 => .array .int
  | 14 => .array .int
  | 15 => .int
  | 16 => .array .int
  | 17 => .int
  | 18 => .array .int
  | 19 => .int
  | 20 => .array .int
  | 21 => .array .int
  | 22 => .array .int
  | 23 => .array .int
  | 24 => .boolean
  | 25 => .int
  | 26 => .boolean
  | 27 => .array .int
  | 28 => .array .int
  | 29 => .int
  | 30 => .int
  | 31 => .boolean
  | 32 => .int
  | 33 => .array .int
  | 34 => .array .int
  | 35 => .array .int
  | 36 => .array .int
  | 37 => .int
  | 38 => .array .int
  | _ => .int
theorem nmX4 : ∀ a, a < 40 → ∀ b, b < 40 → a ≠ b → (TX4 a).2.1 ≠ (TX4 b).2.1 := by decide +kernel
theorem tyX4_ok : ∀ k, k < 40 → parseFieldDescriptor (TX4 k).2.2.1 = some (tyX4 k) := by decide +kernel
def RJ6 : String := "java/lang/Integer"
def RJ9 : String := "java/lang/Math"
def RJ10 : String := "java/lang/System"
abbrev cX0_init : ByteArray := prog_2_method_1_code
def yX0_init : MethodName := ⟨RX0, "<init>", "()V"⟩
abbrev cX0_append : ByteArray := prog_2_method_2_code
def yX0_append : MethodName := ⟨RX0, "append", "(I)I"⟩
abbrev cX0_readInto : ByteArray := prog_2_method_3_code
def yX0_readInto : MethodName := ⟨RX0, "readInto", "(LNobodyLookedYesterday$Yard;)I"⟩
abbrev cX0_firstUnfit : ByteArray := prog_2_method_4_code
def yX0_firstUnfit : MethodName := ⟨RX0, "firstUnfit", "()I"⟩
abbrev cX0_applyStatement : ByteArray := prog_2_method_5_code
def yX0_applyStatement : MethodName := ⟨RX0, "applyStatement", "(LNobodyLookedYesterday$Yard;II)Z"⟩
abbrev cX0_leastDigits : ByteArray := prog_2_method_6_code
def yX0_leastDigits : MethodName := ⟨RX0, "leastDigits", "(I)I"⟩
abbrev cX0_digitsBehind : ByteArray := prog_2_method_7_code
def yX0_digitsBehind : MethodName := ⟨RX0, "digitsBehind", "(I)I"⟩
abbrev cX0_digitAt : ByteArray := prog_2_method_8_code
def yX0_digitAt : MethodName := ⟨RX0, "digitAt", "(I)I"⟩
abbrev cX0_letterAt : ByteArray := prog_2_method_9_code
def yX0_letterAt : MethodName := ⟨RX0, "letterAt", "(I)I"⟩
abbrev cX1_init : ByteArray := prog_3_method_1_code
def yX1_init : MethodName := ⟨RX1, "<init>", "()V"⟩
abbrev cX1_listAllowed : ByteArray := prog_3_method_2_code
def yX1_listAllowed : MethodName := ⟨RX1, "listAllowed", "(LNobodyLookedYesterday$Yard;)V"⟩
abbrev cX1_mostFound : ByteArray := prog_3_method_3_code
def yX1_mostFound : MethodName := ⟨RX1, "mostFound", "(LNobodyLookedYesterday$Yard;I)I"⟩
abbrev cX1_mostFrom : ByteArray := prog_3_method_4_code
def yX1_mostFrom : MethodName := ⟨RX1, "mostFrom", "(LNobodyLookedYesterday$Planner;II)I"⟩
abbrev cX1_noteFirst : ByteArray := prog_3_method_5_code
def yX1_noteFirst : MethodName := ⟨RX1, "noteFirst", "(II)V"⟩
abbrev cX1_mostToday : ByteArray := prog_3_method_6_code
def yX1_mostToday : MethodName := ⟨RX1, "mostToday", "(I)I"⟩
abbrev cX1_leastShutting : ByteArray := prog_3_method_7_code
def yX1_leastShutting : MethodName := ⟨RX1, "leastShutting", "(LNobodyLookedYesterday$Yard;)I"⟩
abbrev cX1_fewestDays : ByteArray := prog_3_method_8_code
def yX1_fewestDays : MethodName := ⟨RX1, "fewestDays", "(LNobodyLookedYesterday$Yard;I)I"⟩
abbrev cX1_laidByAnySet : ByteArray := prog_3_method_9_code
def yX1_laidByAnySet : MethodName := ⟨RX1, "laidByAnySet", "(LNobodyLookedYesterday$Yard;)I"⟩
abbrev cX2_init : ByteArray := prog_4_method_1_code
def yX2_init : MethodName := ⟨RX2, "<init>", "()V"⟩
abbrev cX2_copyFrom : ByteArray := prog_4_method_2_code
def yX2_copyFrom : MethodName := ⟨RX2, "copyFrom", "(LNobodyLookedYesterday$Yard;)V"⟩
abbrev cX2_copyCourse : ByteArray := prog_4_method_3_code
def yX2_copyCourse : MethodName := ⟨RX2, "copyCourse", "(LNobodyLookedYesterday$Yard;)V"⟩
abbrev cX2_addNest : ByteArray := prog_4_method_4_code
def yX2_addNest : MethodName := ⟨RX2, "addNest", "(IIII)Z"⟩
abbrev cX2_addEgg : ByteArray := prog_4_method_5_code
def yX2_addEgg : MethodName := ⟨RX2, "addEgg", "(II)Z"⟩
abbrev cX2_change : ByteArray := prog_4_method_6_code
def yX2_change : MethodName := ⟨RX2, "change", "(II)Z"⟩
abbrev cX2_allNests : ByteArray := prog_4_method_7_code
def yX2_allNests : MethodName := ⟨RX2, "allNests", "()I"⟩
abbrev cX2_eggsAt : ByteArray := prog_4_method_8_code
def yX2_eggsAt : MethodName := ⟨RX2, "eggsAt", "(I)I"⟩
abbrev cX2_allEggs : ByteArray := prog_4_method_9_code
def yX2_allEggs : MethodName := ⟨RX2, "allEggs", "()I"⟩
abbrev cX2_greatestAge : ByteArray := prog_4_method_10_code
def yX2_greatestAge : MethodName := ⟨RX2, "greatestAge", "(I)I"⟩
abbrev cX2_minutesOf : ByteArray := prog_4_method_11_code
def yX2_minutesOf : MethodName := ⟨RX2, "minutesOf", "(I)I"⟩
abbrev cX2_timeLeft : ByteArray := prog_4_method_12_code
def yX2_timeLeft : MethodName := ⟨RX2, "timeLeft", "()I"⟩
abbrev cX2_takeEggs : ByteArray := prog_4_method_13_code
def yX2_takeEggs : MethodName := ⟨RX2, "takeEggs", "(I)I"⟩
abbrev cX2_emptyNest : ByteArray := prog_4_method_14_code
def yX2_emptyNest : MethodName := ⟨RX2, "emptyNest", "(I)I"⟩
abbrev cX2_mayAmong : ByteArray := prog_4_method_15_code
def yX2_mayAmong : MethodName := ⟨RX2, "mayAmong", "(I)I"⟩
abbrev cX2_weigh : ByteArray := prog_4_method_16_code
def yX2_weigh : MethodName := ⟨RX2, "weigh", "(I)I"⟩
abbrev cX2_weighAlike : ByteArray := prog_4_method_17_code
def yX2_weighAlike : MethodName := ⟨RX2, "weighAlike", "(I)I"⟩
abbrev cX2_weightOf : ByteArray := prog_4_method_18_code
def yX2_weightOf : MethodName := ⟨RX2, "weightOf", "(I)I"⟩
abbrev cX2_laysAmong : ByteArray := prog_4_method_19_code
def yX2_laysAmong : MethodName := ⟨RX2, "laysAmong", "(I)I"⟩
abbrev cX2_nestByLot : ByteArray := prog_4_method_20_code
def yX2_nestByLot : MethodName := ⟨RX2, "nestByLot", "(I)I"⟩
abbrev cX2_nestAtWeight : ByteArray := prog_4_method_21_code
def yX2_nestAtWeight : MethodName := ⟨RX2, "nestAtWeight", "(I)I"⟩
abbrev cX2_passNight : ByteArray := prog_4_method_22_code
def yX2_passNight : MethodName := ⟨RX2, "passNight", "(I)V"⟩
abbrev cX2_ageEggs : ByteArray := prog_4_method_23_code
def yX2_ageEggs : MethodName := ⟨RX2, "ageEggs", "(I)V"⟩
abbrev cX3_init : ByteArray := prog_1_method_1_code
def yX3_init : MethodName := ⟨RX3, "<init>", "()V"⟩
abbrev cX3_feed : ByteArray := prog_1_method_2_code
def yX3_feed : MethodName := ⟨RX3, "feed", "(I)I"⟩
abbrev cX3_farm : ByteArray := prog_1_method_3_code
def yX3_farm : MethodName := ⟨RX3, "farm", "()I"⟩
abbrev cX3_nest : ByteArray := prog_1_method_4_code
def yX3_nest : MethodName := ⟨RX3, "nest", "(II)I"⟩
abbrev cX3_set : ByteArray := prog_1_method_5_code
def yX3_set : MethodName := ⟨RX3, "set", "(II)I"⟩
abbrev cX3_look : ByteArray := prog_1_method_6_code
def yX3_look : MethodName := ⟨RX3, "look", "(I)I"⟩
abbrev cX3_night : ByteArray := prog_1_method_7_code
def yX3_night : MethodName := ⟨RX3, "night", "()I"⟩
abbrev cX3_tonight : ByteArray := prog_1_method_8_code
def yX3_tonight : MethodName := ⟨RX3, "tonight", "(I)I"⟩
abbrev cX3_likely : ByteArray := prog_1_method_9_code
def yX3_likely : MethodName := ⟨RX3, "likely", "(II)J"⟩
abbrev cX3_plan : ByteArray := prog_1_method_10_code
def yX3_plan : MethodName := ⟨RX3, "plan", "(II)I"⟩
abbrev cX3_each : ByteArray := prog_1_method_11_code
def yX3_each : MethodName := ⟨RX3, "each", "(II)I"⟩
abbrev cX3_shut : ByteArray := prog_1_method_12_code
def yX3_shut : MethodName := ⟨RX3, "shut", "()I"⟩
abbrev cX3_lead : ByteArray := prog_1_method_13_code
def yX3_lead : MethodName := ⟨RX3, "lead", "(I)I"⟩
abbrev cX3_row : ByteArray := prog_1_method_14_code
def yX3_row : MethodName := ⟨RX3, "row", "(I)I"⟩
abbrev cX3_ways : ByteArray := prog_1_method_15_code
def yX3_ways : MethodName := ⟨RX3, "ways", "()I"⟩
abbrev cX3_soon : ByteArray := prog_1_method_16_code
def yX3_soon : MethodName := ⟨RX3, "soon", "()I"⟩
abbrev cX3_settle : ByteArray := prog_1_method_17_code
def yX3_settle : MethodName := ⟨RX3, "settle", "(I)I"⟩
abbrev cX3_without : ByteArray := prog_1_method_18_code
def yX3_without : MethodName := ⟨RX3, "without", "(I)I"⟩
abbrev cX3_put : ByteArray := prog_1_method_19_code
def yX3_put : MethodName := ⟨RX3, "put", "(III)I"⟩
abbrev cX3_been : ByteArray := prog_1_method_20_code
def yX3_been : MethodName := ⟨RX3, "been", "(I)I"⟩
abbrev cX3_judge : ByteArray := prog_1_method_21_code
def yX3_judge : MethodName := ⟨RX3, "judge", "()I"⟩
abbrev cX3_seeds : ByteArray := prog_1_method_22_code
def yX3_seeds : MethodName := ⟨RX3, "seeds", "(II)I"⟩
abbrev cX3_clear : ByteArray := prog_1_method_23_code
def yX3_clear : MethodName := ⟨RX3, "clear", "()I"⟩
abbrev cX3_image : ByteArray := prog_1_method_24_code
def yX3_image : MethodName := ⟨RX3, "image", "()I"⟩
abbrev cX3_restore : ByteArray := prog_1_method_25_code
def yX3_restore : MethodName := ⟨RX3, "restore", "()I"⟩
abbrev cX3_count : ByteArray := prog_1_method_26_code
def yX3_count : MethodName := ⟨RX3, "count", "(I)I"⟩
abbrev cX3_refuse : ByteArray := prog_1_method_27_code
def yX3_refuse : MethodName := ⟨RX3, "refuse", "(I)I"⟩
abbrev cX3_isNoNest : ByteArray := prog_1_method_28_code
def yX3_isNoNest : MethodName := ⟨RX3, "isNoNest", "(I)Z"⟩
abbrev cX3_weightTonight : ByteArray := prog_1_method_29_code
def yX3_weightTonight : MethodName := ⟨RX3, "weightTonight", "(I)I"⟩
abbrev cX3_layRow : ByteArray := prog_1_method_30_code
def yX3_layRow : MethodName := ⟨RX3, "layRow", "(I)V"⟩
abbrev cX3_firstUntrue : ByteArray := prog_1_method_31_code
def yX3_firstUntrue : MethodName := ⟨RX3, "firstUntrue", "(I)I"⟩
abbrev cX3_nightsUntilUnlike : ByteArray := prog_1_method_32_code
def yX3_nightsUntilUnlike : MethodName := ⟨RX3, "nightsUntilUnlike", "(II)I"⟩
abbrev cX3_nextSeed : ByteArray := prog_1_method_33_code
def yX3_nextSeed : MethodName := ⟨RX3, "nextSeed", "(I)I"⟩
abbrev cX3_drawBelow : ByteArray := prog_1_method_34_code
def yX3_drawBelow : MethodName := ⟨RX3, "drawBelow", "(II)I"⟩
abbrev cX3_commonDivisor : ByteArray := prog_1_method_35_code
def yX3_commonDivisor : MethodName := ⟨RX3, "commonDivisor", "(II)I"⟩
abbrev cX4_init : ByteArray := prog_6_method_1_code
def yX4_init : MethodName := ⟨RX4, "<init>", "()V"⟩
abbrev cX4_in : ByteArray := prog_6_method_3_code
def yX4_in : MethodName := ⟨RX4, "in", "(JJJ)Z"⟩
abbrev cX4_refuse : ByteArray := prog_6_method_4_code
def yX4_refuse : MethodName := ⟨RX4, "refuse", "(I)I"⟩
abbrev cX4_isNest : ByteArray := prog_6_method_5_code
def yX4_isNest : MethodName := ⟨RX4, "isNest", "(I)Z"⟩
abbrev cX4_eggsIn : ByteArray := prog_6_method_6_code
def yX4_eggsIn : MethodName := ⟨RX4, "eggsIn", "(I)I"⟩
abbrev cX4_mayBits : ByteArray := prog_6_method_7_code
def yX4_mayBits : MethodName := ⟨RX4, "mayBits", "()I"⟩
abbrev cX4_apart : ByteArray := prog_6_method_8_code
def yX4_apart : MethodName := ⟨RX4, "apart", "(II)I"⟩
abbrev cX4_rawWeight : ByteArray := prog_6_method_9_code
def yX4_rawWeight : MethodName := ⟨RX4, "rawWeight", "(I)I"⟩
abbrev cX4_weigh : ByteArray := prog_6_method_10_code
def yX4_weigh : MethodName := ⟨RX4, "weigh", "()V"⟩
abbrev cX4_laysAt : ByteArray := prog_6_method_11_code
def yX4_laysAt : MethodName := ⟨RX4, "laysAt", "()I"⟩
abbrev cX4_nightAt : ByteArray := prog_6_method_12_code
def yX4_nightAt : MethodName := ⟨RX4, "nightAt", "(I)V"⟩
abbrev cX4_nightOn : ByteArray := prog_6_method_13_code
def yX4_nightOn : MethodName := ⟨RX4, "nightOn", "()I"⟩
abbrev cX4_take : ByteArray := prog_6_method_14_code
def yX4_take : MethodName := ⟨RX4, "take", "(I)I"⟩
abbrev cX4_minutesOf : ByteArray := prog_6_method_15_code
def yX4_minutesOf : MethodName := ⟨RX4, "minutesOf", "(I)I"⟩
abbrev cX4_carry : ByteArray := prog_6_method_16_code
def yX4_carry : MethodName := ⟨RX4, "carry", "(I)I"⟩
abbrev cX4_carryAll : ByteArray := prog_6_method_17_code
def yX4_carryAll : MethodName := ⟨RX4, "carryAll", "([IZ)V"⟩
abbrev cX4_open : ByteArray := prog_6_method_18_code
def yX4_open : MethodName := ⟨RX4, "open", "()V"⟩
abbrev cX4_close : ByteArray := prog_6_method_19_code
def yX4_close : MethodName := ⟨RX4, "close", "()V"⟩
abbrev cX4_image : ByteArray := prog_6_method_20_code
def yX4_image : MethodName := ⟨RX4, "image", "()I"⟩
abbrev cX4_restore : ByteArray := prog_6_method_21_code
def yX4_restore : MethodName := ⟨RX4, "restore", "()I"⟩
abbrev cX4_feed : ByteArray := prog_6_method_22_code
def yX4_feed : MethodName := ⟨RX4, "feed", "(I)I"⟩
abbrev cX4_here : ByteArray := prog_6_method_23_code
def yX4_here : MethodName := ⟨RX4, "here", "()I"⟩
abbrev cX4_readDigit : ByteArray := prog_6_method_24_code
def yX4_readDigit : MethodName := ⟨RX4, "readDigit", "()I"⟩
abbrev cX4_readStatement : ByteArray := prog_6_method_25_code
def yX4_readStatement : MethodName := ⟨RX4, "readStatement", "()V"⟩
abbrev cX4_comes : ByteArray := prog_6_method_26_code
def yX4_comes : MethodName := ⟨RX4, "comes", "(I)Z"⟩
abbrev cX4_farm : ByteArray := prog_6_method_27_code
def yX4_farm : MethodName := ⟨RX4, "farm", "()I"⟩
abbrev cX4_nest : ByteArray := prog_6_method_28_code
def yX4_nest : MethodName := ⟨RX4, "nest", "(II)I"⟩
abbrev cX4_oldest : ByteArray := prog_6_method_29_code
def yX4_oldest : MethodName := ⟨RX4, "oldest", "(I)I"⟩
abbrev cX4_set : ByteArray := prog_6_method_30_code
def yX4_set : MethodName := ⟨RX4, "set", "(II)I"⟩
abbrev cX4_look : ByteArray := prog_6_method_31_code
def yX4_look : MethodName := ⟨RX4, "look", "(I)I"⟩
abbrev cX4_night : ByteArray := prog_6_method_32_code
def yX4_night : MethodName := ⟨RX4, "night", "()I"⟩
abbrev cX4_tonight : ByteArray := prog_6_method_33_code
def yX4_tonight : MethodName := ⟨RX4, "tonight", "(I)I"⟩
abbrev cX4_likely : ByteArray := prog_6_method_34_code
def yX4_likely : MethodName := ⟨RX4, "likely", "(II)J"⟩
abbrev cX4_allows : ByteArray := prog_6_method_35_code
def yX4_allows : MethodName := ⟨RX4, "allows", "(I)Z"⟩
abbrev cX4_eggsOf : ByteArray := prog_6_method_36_code
def yX4_eggsOf : MethodName := ⟨RX4, "eggsOf", "(I)I"⟩
abbrev cX4_bestOfDay : ByteArray := prog_6_method_37_code
def yX4_bestOfDay : MethodName := ⟨RX4, "bestOfDay", "()I"⟩
abbrev cX4_bestOfTwo : ByteArray := prog_6_method_38_code
def yX4_bestOfTwo : MethodName := ⟨RX4, "bestOfTwo", "()I"⟩
abbrev cX4_plan : ByteArray := prog_6_method_39_code
def yX4_plan : MethodName := ⟨RX4, "plan", "(II)I"⟩
abbrev cX4_each : ByteArray := prog_6_method_40_code
def yX4_each : MethodName := ⟨RX4, "each", "(II)I"⟩
abbrev cX4_shut : ByteArray := prog_6_method_41_code
def yX4_shut : MethodName := ⟨RX4, "shut", "()I"⟩
abbrev cX4_lead : ByteArray := prog_6_method_42_code
def yX4_lead : MethodName := ⟨RX4, "lead", "(I)I"⟩
abbrev cX4_row : ByteArray := prog_6_method_43_code
def yX4_row : MethodName := ⟨RX4, "row", "(I)I"⟩
abbrev cX4_firstUnlike : ByteArray := prog_6_method_44_code
def yX4_firstUnlike : MethodName := ⟨RX4, "firstUnlike", "()I"⟩
abbrev cX4_ways : ByteArray := prog_6_method_45_code
def yX4_ways : MethodName := ⟨RX4, "ways", "()I"⟩
abbrev cX4_soon : ByteArray := prog_6_method_46_code
def yX4_soon : MethodName := ⟨RX4, "soon", "()I"⟩
abbrev cX4_eggsOfAll : ByteArray := prog_6_method_47_code
def yX4_eggsOfAll : MethodName := ⟨RX4, "eggsOfAll", "()I"⟩
abbrev cX4_settle : ByteArray := prog_6_method_48_code
def yX4_settle : MethodName := ⟨RX4, "settle", "(I)I"⟩
abbrev cX4_without : ByteArray := prog_6_method_49_code
def yX4_without : MethodName := ⟨RX4, "without", "(I)I"⟩
abbrev cX4_put : ByteArray := prog_6_method_50_code
def yX4_put : MethodName := ⟨RX4, "put", "(III)I"⟩
abbrev cX4_been : ByteArray := prog_6_method_51_code
def yX4_been : MethodName := ⟨RX4, "been", "(I)I"⟩
abbrev cX4_judge : ByteArray := prog_6_method_52_code
def yX4_judge : MethodName := ⟨RX4, "judge", "()I"⟩
abbrev cX4_draw : ByteArray := prog_6_method_53_code
def yX4_draw : MethodName := ⟨RX4, "draw", "(I)I"⟩
abbrev cX4_drawnNest : ByteArray := prog_6_method_54_code
def yX4_drawnNest : MethodName := ⟨RX4, "drawnNest", "()I"⟩
abbrev cX4_seeds : ByteArray := prog_6_method_55_code
def yX4_seeds : MethodName := ⟨RX4, "seeds", "(II)I"⟩
abbrev cX4_clear : ByteArray := prog_6_method_56_code
def yX4_clear : MethodName := ⟨RX4, "clear", "()I"⟩
abbrev cX4_count : ByteArray := prog_6_method_57_code
def yX4_count : MethodName := ⟨RX4, "count", "(I)I"⟩
abbrev cJ6_numberOfTrailingZeros_0f7a4 : ByteArray := prog_7_method_48_code
def yJ6_numberOfTrailingZeros_0f7a4 : MethodName := ⟨RJ6, "numberOfTrailingZeros", "(I)I"⟩
abbrev cJ6_bitCount_0f7a4 : ByteArray := prog_7_method_49_code
def yJ6_bitCount_0f7a4 : MethodName := ⟨RJ6, "bitCount", "(I)I"⟩
abbrev cJ9_abs_0f7a4 : ByteArray := prog_8_method_59_code
def yJ9_abs_0f7a4 : MethodName := ⟨RJ9, "abs", "(I)I"⟩
abbrev cJ9_max_7cf53 : ByteArray := prog_8_method_65_code
def yJ9_max_7cf53 : MethodName := ⟨RJ9, "max", "(II)I"⟩
def zz_cl : List vw_C := [(RX0, TX0, 2), (RX1, TX1, 6), (RX2, TX2, 13), (RX3, TX3, 10), (RX4, TX4, 40)]
end
section
/-! ===== the plain machine: values are whole numbers, memory is cells of numbers ===== -/
abbrev zz_V : Type := Int ⊕ Int ⊕ Nat
abbrev zz_M : Type := Nat → Nat → Int
abbrev zi (z : Int) : zz_V := .inl z
abbrev zj (z : Int) : zz_V := .inr (.inl z)
abbrev zr (k : Nat) : zz_V := .inr (.inr k)
def zz_in (z : Int) : Prop := -2147483648 ≤ z ∧ z ≤ 2147483647
def zz_inl (z : Int) : Prop := -9223372036854775808 ≤ z ∧ z ≤ 9223372036854775807
def nrm (z : Int) : Int := (Int32.ofInt z).toInt
theorem nrm_in (z : Int) : zz_in (nrm z) := ⟨Int32.le_toInt _, Int32.toInt_le _⟩
theorem i32_of {z : Int} (h : zz_in z) : (Int32.ofInt z).toInt = z := by
  rw [Int32.toInt_ofInt]
  unfold zz_in at h
  rw [show Int32.size = 4294967296 from rfl]
  exact Int.bmod_eq_of_le (by omega) (by omega)
theorem nrm_id {z : Int} (h1 : -2147483648 ≤ z) (h2 : z ≤ 2147483647) : nrm z = z := i32_of ⟨h1, h2⟩
theorem i32_nrm (z : Int) : Int32.ofInt (nrm z) = Int32.ofInt z := Int32.ofInt_toInt _
theorem i32_inj {a b : Int} (ha : zz_in a) (hb : zz_in b) (h : Int32.ofInt a = Int32.ofInt b) : a = b := by
  rw [← i32_of ha, ← i32_of hb, h]
theorem i32_eq {a b : Int} (ha : zz_in a) (hb : zz_in b) : Int32.ofInt a = Int32.ofInt b ↔ a = b := ⟨i32_inj ha hb, fun h => by rw [h]⟩
theorem i32_lt {a b : Int} (ha : zz_in a) (hb : zz_in b) : Int32.ofInt a < Int32.ofInt b ↔ a < b := by
  rw [Int32.lt_iff_toInt_lt, i32_of ha, i32_of hb]
theorem i32_le {a b : Int} (ha : zz_in a) (hb : zz_in b) : Int32.ofInt a ≤ Int32.ofInt b ↔ a ≤ b := by
  rw [Int32.le_iff_toInt_le, i32_of ha, i32_of hb]
theorem i64_of {z : Int} (h : zz_inl z) : (Int64.ofInt z).toInt = z := by
  rw [Int64.toInt_ofInt]
  unfold zz_inl at h
  rw [show Int64.size = 18446744073709551616 from rfl]
  exact Int.bmod_eq_of_le (by omega) (by omega)
def nrml (z : Int) : Int := (Int64.ofInt z).toInt
theorem nrml_in (z : Int) : zz_inl (nrml z) := ⟨Int64.le_toInt _, Int64.toInt_le _⟩
theorem nrml_id {z : Int} (h1 : -9223372036854775808 ≤ z) (h2 : z ≤ 9223372036854775807) : nrml z = z := i64_of ⟨h1, h2⟩
theorem i64_nrml (z : Int) : Int64.ofInt (nrml z) = Int64.ofInt z := Int64.ofInt_toInt _
-- the operations
def idv (a b : Int) : Int := (Int32.ofInt a / Int32.ofInt b).toInt
def irm (a b : Int) : Int := (Int32.ofInt a - Int32.ofInt a / Int32.ofInt b * Int32.ofInt b).toInt
def ian (a b : Int) : Int := (Int32.ofInt a &&& Int32.ofInt b).toInt
def ior (a b : Int) : Int := (Int32.ofInt a ||| Int32.ofInt b).toInt
def ixr (a b : Int) : Int := (Int32.ofInt a ^^^ Int32.ofInt b).toInt
def isl (a b : Int) : Int := (Int32.ofInt a <<< (Int32.ofInt b &&& 31)).toInt
def isr (a b : Int) : Int := (Int32.ofInt a >>> (Int32.ofInt b &&& 31)).toInt
def ius (a b : Int) : Int := ((Int32.ofInt a).toUInt32 >>> ((Int32.ofInt b).toUInt32 &&& Int32.toUInt32 31)).toInt32.toInt
theorem i32_back (x : Int32) : Int32.ofInt x.toInt = x := Int32.ofInt_toInt x
theorem i32_in (x : Int32) : zz_in x.toInt := ⟨Int32.le_toInt _, Int32.toInt_le _⟩
-- cells: kinds and lengths (0 numbers, 1 the three minds, 2 + a class)
def kd_y : List (Nat × Nat) := [(4, 13), (0, 6), (0, 6), (0, 6), (0, 6), (0, 60), (0, 4), (0, 6)]
def kd_L : List (Nat × Nat) := kd_y ++ kd_y ++ kd_y ++ kd_y ++ kd_y ++ kd_y ++
  [(3, 6), (1, 3), (0, 64), (0, 6), (0, 64), (2, 2), (0, 80), (5, 10), (0, 8), (0, 48), (0, 7),
   (6, 40), (0, 7), (0, 7), (0, 7), (0, 7), (0, 70), (0, 7), (0, 7), (0, 108), (0, 108), (0, 108), (0, 108), (0, 80), (0, 41), (0, 41), (0, 164), (0, 8), (0, 48)]
def kd (k : Nat) : Nat × Nat := kd_L.getD k (99, 0)
theorem kd_len : kd_L.length = 77 := rfl
theorem kd_lt {k a n : Nat} (h : kd k = (a, n)) (ha : a ≠ 99) : k < 77 := by
  rcases Nat.lt_or_ge k 77 with q | q
  · exact q
  · exfalso
    apply ha
    unfold kd at h
    rw [List.getD_eq_getElem?_getD, List.getElem?_eq_none (by rw [kd_len]; exact q)] at h
    exact (Prod.mk.inj h).1.symm
/-- the place of the array or object that field k of the object o holds, for good -/
def pt (o k : Nat) : Nat := if o < 54 then o + 1 + k else if o = 55 then ([0, 8, 16, 48, 53, 56, 57, 58] : List Nat).getD k 0 else
  ([0, 0, 0, 0, 0, 0, 0, 0, 0, 0, 60, 61, 62, 63, 64, 0, 65, 0, 66, 0, 67, 68, 69, 70, 0, 0, 0, 0, 71, 0, 0, 0, 0, 72, 73, 74, 75, 0, 76, 0] : List Nat).getD k 0
/-- a field's kind: 0 a number, 1 a boolean, 2 an array or object for good, 3 an array that may change -/
def ft (c k : Nat) : Nat := match c with
  | 0 => if k = 0 then 2 else 0
  | 1 => if k < 4 then 2 else 0
  | 2 => if k < 7 then 2 else 0
  | 3 => if k < 8 then 2 else if k = 9 then 1 else 0
  | _ => ([0, 0, 0, 0, 0, 0, 0, 0, 0, 0, 2, 2, 2, 2, 2, 0, 2, 0, 2, 0, 2, 2, 2, 2, 1, 0, 1, 3, 2, 0, 0, 1, 0, 2, 2, 2, 2, 0, 2, 0] : List Nat).getD k 0
def gv (ad : Nat → Nat) (v : zz_V) : Value := match v with
  | .inl z => .int (Int32.ofInt z)
  | .inr (.inl z) => .long (Int64.ofInt z)
  | .inr (.inr k) => .ref (ad k)
def okv (v : zz_V) : Prop := match v with
  | .inl z => zz_in z
  | .inr (.inl z) => zz_inl z
  | .inr (.inr _) => True
def okm (m : zz_M) : Prop := ∀ k j, zz_in (m k j)
def fv (ad : Nat → Nat) (m : zz_M) (o c k : Nat) : Value := match ft c k with
  | 2 => .ref (ad (pt o k))
  | 3 => if m o k < 0 then .null else .ref (ad (m o k).toNat)
  | _ => .int (Int32.ofInt (m o k))
def ce (ad : Nat → Nat) (cI cY : ClassId) (m : zz_M) (k : Nat) : va_E := match (kd k).1 with
  | 0 => .inl (cI, ((kd k).2, .inl fun j => Int32.ofInt (m k j)))
  | 1 => .inl (cY, ((kd k).2, .inr (.inr (.inr (.inr fun j => some (ad (24 + 8 * j)))))))
  | c + 2 => .inr (c, (List.range (kd k).2).map (fv ad m k c))
def wl (ad : Nat → Nat) (cI cY : ClassId) (m : zz_M) : va_W := (List.range 77).map fun k => (ad k, ce ad cI cY m k)
def up (m : zz_M) (k j : Nat) (v : Int) : zz_M := fun k' j' => if k' = k ∧ j' = j then v else m k' j'
theorem up_same (m : zz_M) (k j : Nat) (v : Int) : up m k j v k j = v := if_pos ⟨rfl, rfl⟩
theorem up_cell {m : zz_M} {k j k' : Nat} {v : Int} (h : k' ≠ k) : up m k j v k' = m k' := by
  funext j'
  exact if_neg (fun q => h q.1)
theorem up_ok {m : zz_M} {k j : Nat} {v : Int} (h : okm m) (hv : zz_in v) : okm (up m k j v) := by
  intro k' j'
  unfold up
  split
  · exact hv
  · exact h k' j'
theorem wl_get {ad : Nat → Nat} {cI cY : ClassId} {m : zz_M} {k : Nat} (h : k < 77) : (wl ad cI cY m)[k]? = some (ad k, ce ad cI cY m k) := by
  unfold wl
  rw [List.getElem?_map, List.getElem?_range h]
  rfl
theorem wl_inv {ad : Nat → Nat} {cI cY : ClassId} {m : zz_M} {k : Nat} {q : Nat × va_E} (h : (wl ad cI cY m)[k]? = some q) : k < 77 ∧ q.1 = ad k := by
  have hk : k < 77 := by
    have := (List.getElem?_eq_some_iff.mp h).1
    simpa [wl] using this
  refine ⟨hk, ?_⟩
  rw [wl_get hk] at h
  rw [← Option.some.inj h]
theorem ce_kept {ad : Nat → Nat} {cI cY : ClassId} {m m' : zz_M} {k : Nat} (h : m' k = m k) : ce ad cI cY m' k = ce ad cI cY m k := by
  unfold ce
  split
  · rw [h]
  · rfl
  · congr 2
    apply List.map_congr_left
    intro j _
    unfold fv
    rw [h]
theorem wl_set {ad : Nat → Nat} {cI cY : ClassId} {m m' : zz_M} {k : Nat} {e : va_E} (h : ∀ k', k' ≠ k → m' k' = m k') (he : ce ad cI cY m' k = e) : (wl ad cI cY m).set k (ad k, e) = wl ad cI cY m' := by
  apply List.ext_getElem?
  intro i
  by_cases hi : i < 77
  · rw [wl_get hi]
    by_cases hik : i = k
    · subst hik
      rw [List.getElem?_set_self (by simpa [wl] using hi), he]
    · rw [List.getElem?_set_ne (Ne.symm hik), wl_get hi, ce_kept (h i hik)]
  · rw [List.getElem?_eq_none (by simp [wl]; omega), List.getElem?_eq_none (by simp [wl]; omega)]
/-- the addresses are apart and in A -/
def adok (A : Nat → Prop) (ad : Nat → Nat) : Prop := (∀ i j, i < 77 → j < 77 → ad i = ad j → i = j) ∧ ∀ i, i < 77 → A (ad i)
theorem wl_D {A : Nat → Prop} {ad : Nat → Nat} {cI cY : ClassId} {m : zz_M} (h : adok A ad) : va_D A (wl ad cI cY m) := by
  refine ⟨fun i j x y hx hy hxy => ?_, fun k q hk => ?_⟩
  · obtain ⟨h1, h2⟩ := wl_inv hx
    obtain ⟨h3, h4⟩ := wl_inv hy
    exact h.1 i j h1 h3 (by rw [← h2, ← h4]; exact hxy)
  · obtain ⟨h1, h2⟩ := wl_inv hk
    rw [h2]
    exact h.2 k h1
def zz_tys (cI cY : ClassId) : List (ClassId × FieldType) := [(cI, .int), (cY, .object "NobodyLookedYesterday$Yard")]
-- what nobody writes: 77, 78 the least and greatest figures, 79 the script
abbrev zz_E : Type := Nat × (Nat → Int)
def ro (E : zz_E) (k j : Nat) : Int := if k = 77 then ([0, 0, 0, 1] : List Int).getD j 0 else if k = 78 then ([5, 9, 40, 9] : List Int).getD j 0 else E.2 j
def rn (E : zz_E) (k : Nat) : Nat := if k = 79 then E.1 else 4
def zz_Ro (E : zz_E) (ad : Nat → Nat) (A : Nat → Prop) (U : State) (H : Heap) : Prop :=
  (∀ k, 77 ≤ k → k < 80 → va_T .int (ad k) (rn E k) (fun j => .int (Int32.ofInt (ro E k j))) A U H) ∧
  va_Z "NobodyLookedYesterday" "LEAST" "[I" (.ref (ad 77)) A U H ∧ va_Z "NobodyLookedYesterday" "GREATEST" "[I" (.ref (ad 78)) A U H
theorem zz_Ro.moved {E : zz_E} {ad : Nat → Nat} {A : Nat → Prop} {u U : State} {H : Heap} (hvm : u.vm.Alike U.vm) (h : zz_Ro E ad A u H) : zz_Ro E ad A U H :=
  ⟨fun k h1 h2 => va_T.moved hvm (h.1 k h1 h2), va_Z.moved hvm h.2.1, va_Z.moved hvm h.2.2⟩
theorem zz_Ro.kept {E : zz_E} {ad : Nat → Nat} {A : Nat → Prop} {U : State} {H H1 : Heap} (h : zz_Ro E ad A U H) (hq : ∀ a : Nat, a < H.size → ¬ A a → H1[a]? = H[a]?) : zz_Ro E ad A U H1 :=
  ⟨fun k h1 h2 => va_T.kept (h.1 k h1 h2) hq, va_Z.kept h.2.1 hq, va_Z.kept h.2.2 hq⟩
def zz_E.ok (E : zz_E) : Prop := E.1 ≤ 2048 ∧ ∀ j, zz_in (E.2 j)
theorem ro_in {E : zz_E} (h : zz_E.ok E) {k j : Nat} (hj : j < rn E k) : zz_in (ro E k j) := by
  unfold ro
  split
  · rename_i hk
    have : j < 4 := by simpa [rn, hk] using hj
    match j, this with
    | 0, _ => exact ⟨by decide, by decide⟩
    | 1, _ => exact ⟨by decide, by decide⟩
    | 2, _ => exact ⟨by decide, by decide⟩
    | 3, _ => exact ⟨by decide, by decide⟩
  · split
    · rename_i hk hk2
      have : j < 4 := by simpa [rn, hk2] using hj
      match j, this with
      | 0, _ => exact ⟨by decide, by decide⟩
      | 1, _ => exact ⟨by decide, by decide⟩
      | 2, _ => exact ⟨by decide, by decide⟩
      | 3, _ => exact ⟨by decide, by decide⟩
    · exact h.2 j
-- locals, by place
def gl (ad : Nat → Nat) : Nat → List (Option zz_V) → List (Nat × Value)
  | _, [] => []
  | i, none :: L => gl ad (i + 1) L
  | i, some v :: L => (i, gv ad v) :: gl ad (i + 1) L
theorem gl_mem {ad : Nat → Nat} {q : Nat × Value} : ∀ {L : List (Option zz_V)} {i : Nat}, q ∈ gl ad i L ↔ ∃ k v, L[k]? = some (some v) ∧ q = (i + k, gv ad v)
  | [], i => by simp [gl]
  | none :: L, i => by
    rw [gl, gl_mem]
    constructor
    · rintro ⟨k, v, h, rfl⟩
      exact ⟨k + 1, v, by simpa using h, by congr 1; omega⟩
    · rintro ⟨k, v, h, rfl⟩
      cases k with
      | zero => simp at h
      | succ k => exact ⟨k, v, by simpa using h, by congr 1; omega⟩
  | some w :: L, i => by
    rw [gl, List.mem_cons, gl_mem]
    constructor
    · rintro (rfl | ⟨k, v, h, rfl⟩)
      · exact ⟨0, w, rfl, rfl⟩
      · exact ⟨k + 1, v, by simpa using h, by congr 1; omega⟩
    · rintro ⟨k, v, h, rfl⟩
      cases k with
      | zero => left; simp at h; subst h; rfl
      | succ k => right; exact ⟨k, v, by simpa using h, by congr 1; omega⟩
def njl : List (Option zz_V) → Bool
  | [] => true
  | some (.inr (.inl _)) :: _ => false
  | _ :: L => njl L
theorem njl_cat {ad : Nat → Nat} : ∀ {L : List (Option zz_V)}, njl L = true → ∀ v, some v ∈ L → (gv ad v).category = 1
  | [], _, v, h => by cases h
  | none :: L, hn, v, h => by
    rcases List.mem_cons.mp h with q | q
    · cases q
    · exact njl_cat (L := L) (by simpa [njl] using hn) v q
  | some (.inl z) :: L, hn, v, h => by
    rcases List.mem_cons.mp h with q | q
    · cases q; rfl
    · exact njl_cat (L := L) (by simpa [njl] using hn) v q
  | some (.inr (.inr z)) :: L, hn, v, h => by
    rcases List.mem_cons.mp h with q | q
    · cases q; rfl
    · exact njl_cat (L := L) (by simpa [njl] using hn) v q
  | some (.inr (.inl z)) :: L, hn, v, h => by simp [njl] at hn
theorem gl_at {ad : Nat → Nat} {ls : Array Slot} {nL i : Nat} {L : List (Option zz_V)} {v : zz_V} (h : lv_has ls nL (gl ad 0 L)) (hk : L[i]? = some (some v)) : ls[i]? = some (.val (gv ad v)) := by
  have := h.2.2 (i, gv ad v) (gl_mem.mpr ⟨i, v, hk, by simp⟩)
  exact this
theorem gl_weak {ad : Nat → Nat} {ls : Array Slot} {nL : Nat} {L L' : List (Option zz_V)} (h : lv_has ls nL (gl ad 0 L)) (hw : ∀ (i : Nat) (v : zz_V), L'[i]? = some (some v) → L[i]? = some (some v)) : lv_has ls nL (gl ad 0 L') := by
  refine ⟨h.1, h.2.1, fun q hq => ?_⟩
  obtain ⟨k, v, h1, h2⟩ := gl_mem.mp hq
  exact h.2.2 q (gl_mem.mpr ⟨k, v, hw k v h1, h2⟩)
theorem gl_store {ad : Nat → Nat} {ls' : Array Slot} {nL i : Nat} {L L' : List (Option zz_V)} {v : zz_V} (h : lv_has ls' nL ((i, gv ad v) :: (gl ad 0 L).filter (fun q => !(q.1 == i) && !(q.1 + 1 == i && q.2.category == 2)))) (hn : njl L = true)
    (hw : ∀ (k : Nat) (w : zz_V), L'[k]? = some (some w) → (k = i ∧ w = v) ∨ (k ≠ i ∧ L[k]? = some (some w))) : lv_has ls' nL (gl ad 0 L') := by
  refine ⟨h.1, h.2.1, fun q hq => ?_⟩
  obtain ⟨k, w, h1, h2⟩ := gl_mem.mp hq
  apply h.2.2 q
  rcases hw k w h1 with ⟨rfl, rfl⟩ | ⟨h3, h4⟩
  · rw [h2]
    simp
  · apply List.mem_cons_of_mem
    apply List.mem_filter.mpr
    refine ⟨gl_mem.mpr ⟨k, w, h4, h2⟩, ?_⟩
    have hc := njl_cat (ad := ad) hn w (List.mem_of_getElem? h4)
    rw [h2]
    simp [h3, hc]
/-! the words of the tables that every method's run may use: those that stay when the tables warm up, and the links to private fields of nest mates -/
def zz_nf : Cond → Bool
  | .fieldLinkNest .. => true
  | _ => false
def zz_T : List Cond := lw_tbl.filter (fun w => goodWord w || zz_nf w)
def zz_G : List Cond := lw_tbl.filter goodWord
theorem zz_T_mem {w : Cond} (h : w ∈ lw_tbl) (hg : (goodWord w || zz_nf w) = true) : w ∈ zz_T := List.mem_filter.mpr ⟨h, hg⟩
theorem zz_T_tbl {w : Cond} (h : w ∈ zz_T) : w ∈ lw_tbl := (List.mem_filter.mp h).1
theorem zz_T_cases {w : Cond} (h : w ∈ zz_T) : w ∈ zz_G ∨ zz_nf w = true := by
  obtain ⟨h1, h2⟩ := List.mem_filter.mp h
  rcases Bool.or_eq_true_iff.mp h2 with q | q
  · exact Or.inl (List.mem_filter.mpr ⟨h1, q⟩)
  · exact Or.inr q
theorem zz_G_T {w : Cond} (h : w ∈ zz_G) : w ∈ zz_T := by
  obtain ⟨h1, h2⟩ := List.mem_filter.mp h
  exact List.mem_filter.mpr ⟨h1, by rw [h2]; rfl⟩
def zz_N (U : State) : Prop := ∀ w ∈ zz_T, zz_nf w = true → va_Nw w U
theorem zz_N.same {u U : State} (h : u.vm = U.vm) (hN : zz_N u) : zz_N U := by
  intro w hw hn
  have h1 := hN w hw hn
  match w, hn with
  | .fieldLinkNest .., _ => exact va_Nw.same rfl h h1
theorem zz_N.warm {s U : State} (hW : s.WarmedH U.vm) (hN : zz_N s) : zz_N U := by
  intro w hw hn
  have h1 := hN w hw hn
  match w, hn with
  | .fieldLinkNest .., _ => exact va_Nw.warmF hW h1
theorem zz_N.of {s : State} {args : Array Value} (h : ∀ w ∈ zz_T, w.before args s = true) : zz_N s := by
  intro w hw hn
  have h1 := h w hw
  match w, hn with
  | .fieldLinkNest .., _ => exact va_Nw.of rfl h1
theorem zz_T_of {s : State} {args : Array Value} (h : ∀ w ∈ zz_G, w.before args s = true) (hN : zz_N s) : ∀ w ∈ zz_T, w.before args s = true := by
  intro w hw
  rcases zz_T_cases hw with q | q
  · exact h w q
  · have h1 := hN w hw q
    match w, q with
    | .fieldLinkNest .., _ => exact va_Nw.use rfl h1
theorem zz_G_good : ∀ w ∈ zz_G, (w.onTables && w.keeps) = true ∨ ∃ ty, w = .arrayClass ty := fun w h => good_of_word (List.mem_filter.mp h).2
end
section
/-! ===== what it means that a run from here comes to an end at which Q holds ===== -/
/-- the surroundings of a method's run, the same from its entry to its end -/
def zz_C (E : zz_E) (p : Program) (R : Room) (s : State) (mi : MethodId) (args : Array Value) (meth : Method) (c : Code) (cc : ByteArray) (nL : Nat) (own : String) (A : Nat → Prop) (D : va_G) (cI cY : ClassId) (ad : Nat → Nat) (d cells slots : Nat) : Prop :=
  (p.tables.exec = Jvm.exec ∧ c.code = cc ∧ c.maxLocals = nL ∧ s.vm.findClass own = some mi.cls ∧ ∀ w ∈ zz_T, w.before args s = true) ∧
  va_K D zz_cl (zz_tys cI cY) s ∧ zz_Ro E ad A s s.heap ∧ zz_E.ok E ∧ adok A ad ∧ d ≤ R.frames ∧ 128 * d ≤ R.locals ∧ cells ≤ R.cells ∧ slots ≤ R.slots
/-- the stack at a return -/
def rtat (cc : ByteArray) (pc : Nat) (S : List zz_V) (r : Option zz_V) : Prop := match r with
  | none => S = [] ∧ decode cc pc = .ok (.return_, 1)
  | some (.inl z) => S = [zi z] ∧ decode cc pc = .ok (.ireturn, 1)
  | some (.inr (.inl z)) => S = [zj z] ∧ decode cc pc = .ok (.lreturn, 1)
  | some (.inr (.inr _)) => False
def Ex (E : zz_E) (cc : ByteArray) (nL : Nat) (own : String) (d : Nat) (Q : Option zz_V → zz_M → Prop) (pc : Nat) (L : List (Option zz_V)) (S : List zz_V) (m : zz_M) : Prop :=
  ∀ (p : Program) (l : Launch) (e : Env) (R : Room) (s : State) (mi : MethodId) (args : Array Value) (below : List Frame) (meth : Method) (c : Code) (A : Nat → Prop) (D : va_G) (cI cY : ClassId) (ad : Nat → Nat) (cells slots : Nat) (Qs : State → Prop),
    zz_C E p R s mi args meth c cc nL own A D cI cY ad d cells slots →
    (∀ (r : Option zz_V) (pc' : Nat) (S' : List zz_V) (ls' : Array Slot) (m' : zz_M) (H' : Heap) (locs' : List Loc), rtat cc pc' S' r → Q r m' → (∀ v ∈ S', okv v) → okm m' → va_P D zz_cl (wl ad cI cY m') H' → va_S A s.heap H' locs' →
      W p l e R s mi args below meth c H' locs' cells slots Qs (F0 mi pc' ls' (S'.map (gv ad)))) →
    ∀ (H : Heap) (locs : List Loc) (ls : Array Slot), (∀ v, some v ∈ L → okv v) → (∀ v ∈ S, okv v) → okm m → va_P D zz_cl (wl ad cI cY m) H → va_S A s.heap H locs → lv_has ls nL (gl ad 0 L) →
      W p l e R s mi args below meth c H locs cells slots Qs (F0 mi pc ls (S.map (gv ad)))
/-- a method's contract, in plain words -/
def zz_Pc (E : zz_E) (A : Nat → Prop) (D : va_G) (cI cY : ClassId) (ad : Nat → Nat) (as : List zz_V) (m : zz_M) : Array Value → State → Prop := fun v U =>
  v = (as.map (gv ad)).toArray ∧ va_P D zz_cl (wl ad cI cY m) U.heap ∧ va_K D zz_cl (zz_tys cI cY) U ∧ zz_Ro E ad A U U.heap ∧ zz_N U
def zz_Qc (E : zz_E) (A : Nat → Prop) (D : va_G) (cI cY : ClassId) (ad : Nat → Nat) (Q : Option zz_V → zz_M → Prop) : Array Value → State → Outcome → State → Prop := fun _ st oc t =>
  (∃ (r : Option zz_V) (m' : zz_M), oc = .returned (r.map (gv ad)) ∧ Q r m' ∧ (∀ v, r = some v → okv v) ∧ okm m' ∧ va_P D zz_cl (wl ad cI cY m') t.heap) ∧ va_F A st t
def zz_rm (d : Nat) : Room := { frames := d, cells := 0, slots := 0, locals := 128 * d }
def Mt (E : zz_E) (d : Nat) (y : MethodName) (cc : ByteArray) (nL : Nat) (ret : Option FieldType) (as : List zz_V) (m : zz_M) (Q : Option zz_V → zz_M → Prop) : Prop :=
  zz_E.ok E → (∀ v ∈ as, okv v) → okm m → ∀ (l : Launch) (A : Nat → Prop) (D : va_G) (cI cY : ClassId) (ad : Nat → Nat), adok A ad →
    Met l y (.code y cc nL ret :: zz_G) (zz_rm d) (zz_Pc E A D cI cY ad as m) (zz_Qc E A D cI cY ad Q) 0 0 A
section EXR
variable {E : zz_E} {cc : ByteArray} {nL : Nat} {own : String} {d : Nat} {Q : Option zz_V → zz_M → Prop} {pc : Nat} {L : List (Option zz_V)} {S : List zz_V} {m : zz_M}
theorem Ex.post {Q' : Option zz_V → zz_M → Prop} (h : ∀ r m', Q' r m' → Q r m') (kk : Ex E cc nL own d Q' pc L S m) : Ex E cc nL own d Q pc L S m := by
  intro p l e R s mi args below meth c A D cI cY ad cells slots Qs hC hK
  exact kk p l e R s mi args below meth c A D cI cY ad cells slots Qs hC (fun r pc' S' ls' m' H' locs' h1 h2 => hK r pc' S' ls' m' H' locs' h1 (h r m' h2))
theorem Ex.weak {L' : List (Option zz_V)} (hw : ∀ (i : Nat) (v : zz_V), L'[i]? = some (some v) → L[i]? = some (some v)) (kk : Ex E cc nL own d Q pc L' S m) : Ex E cc nL own d Q pc L S m := by
  intro p l e R s mi args below meth c A D cI cY ad cells slots Qs hC hK H locs ls hL hS hm hP hV hl
  refine kk p l e R s mi args below meth c A D cI cY ad cells slots Qs hC hK H locs ls (fun v hv => ?_) hS hm hP hV (gl_weak hl hw)
  obtain ⟨i, hi⟩ := List.getElem?_of_mem hv
  exact hL v (List.mem_of_getElem? (hw i v hi))
/-- the numbers in memory are ints -/
theorem Ex.okm (kk : okm m → Ex E cc nL own d Q pc L S m) : Ex E cc nL own d Q pc L S m := by
  intro p l e R s mi args below meth c A D cI cY ad cells slots Qs hC hK H locs ls hL hS hm
  exact kk hm p l e R s mi args below meth c A D cI cY ad cells slots Qs hC hK H locs ls hL hS hm
theorem Ex.okL (kk : (∀ v, some v ∈ L → okv v) → Ex E cc nL own d Q pc L S m) : Ex E cc nL own d Q pc L S m := by
  intro p l e R s mi args below meth c A D cI cY ad cells slots Qs hC hK H locs ls hL hS hm
  exact kk hL p l e R s mi args below meth c A D cI cY ad cells slots Qs hC hK H locs ls hL hS hm
theorem Ex.okS (kk : (∀ v ∈ S, okv v) → Ex E cc nL own d Q pc L S m) : Ex E cc nL own d Q pc L S m := by
  intro p l e R s mi args below meth c A D cI cY ad cells slots Qs hC hK H locs ls hL hS hm
  exact kk hS p l e R s mi args below meth c A D cI cY ad cells slots Qs hC hK H locs ls hL hS hm
theorem Ex.okE (kk : zz_E.ok E → Ex E cc nL own d Q pc L S m) : Ex E cc nL own d Q pc L S m := by
  intro p l e R s mi args below meth c A D cI cY ad cells slots Qs hC
  exact kk hC.2.2.2.1 p l e R s mi args below meth c A D cI cY ad cells slots Qs hC
theorem Ex.eq {L' : List (Option zz_V)} {S' : List zz_V} {m' : zz_M} (hL : L = L') (hS : S = S') (hm : m = m') (kk : Ex E cc nL own d Q pc L' S' m') : Ex E cc nL own d Q pc L S m := by
  subst hL hS hm
  exact kk
-- the ends
theorem xe_i {z : Int} (hd : decode cc pc = .ok (.ireturn, 1)) (hq : Q (some (zi z)) m) : Ex E cc nL own d Q pc L [zi z] m := by
  intro p l e R s mi args below meth c A D cI cY ad cells slots Qs hC hK H locs ls hL hS hm hP hV hl
  exact hK (some (zi z)) pc [zi z] ls m H locs ⟨rfl, hd⟩ hq hS hm hP hV
theorem xe_l {z : Int} (hd : decode cc pc = .ok (.lreturn, 1)) (hq : Q (some (zj z)) m) : Ex E cc nL own d Q pc L [zj z] m := by
  intro p l e R s mi args below meth c A D cI cY ad cells slots Qs hC hK H locs ls hL hS hm hP hV hl
  exact hK (some (zj z)) pc [zj z] ls m H locs ⟨rfl, hd⟩ hq hS hm hP hV
theorem xe_v (hd : decode cc pc = .ok (.return_, 1)) (hq : Q none m) : Ex E cc nL own d Q pc L [] m := by
  intro p l e R s mi args below meth c A D cI cY ad cells slots Qs hC hK H locs ls hL hS hm hP hV hl
  exact hK none pc [] ls m H locs ⟨rfl, hd⟩ hq hS hm hP hV
/-- a step that changes the stack alone -/
theorem ex_st {pc' : Nat} {S' : List zz_V} (hok : (∀ v, some v ∈ L → okv v) → (∀ v ∈ S, okv v) → okm m → ∀ v ∈ S', okv v)
    (hw : ∀ (p : Program) (l : Launch) (e : Env) (R : Room) (s : State) (mi : MethodId) (args : Array Value) (below : List Frame) (meth : Method) (c : Code) (A : Nat → Prop) (D : va_G) (cI cY : ClassId) (ad : Nat → Nat) (cells slots : Nat) (Qs : State → Prop) (H : Heap) (locs : List Loc) (ls : Array Slot),
      zz_C E p R s mi args meth c cc nL own A D cI cY ad d cells slots → (∀ v, some v ∈ L → okv v) → (∀ v ∈ S, okv v) → okm m → va_P D zz_cl (wl ad cI cY m) H → va_S A s.heap H locs → lv_has ls nL (gl ad 0 L) →
      W p l e R s mi args below meth c H locs cells slots Qs (F0 mi pc' ls (S'.map (gv ad))) → W p l e R s mi args below meth c H locs cells slots Qs (F0 mi pc ls (S.map (gv ad))))
    (kk : Ex E cc nL own d Q pc' L S' m) : Ex E cc nL own d Q pc L S m := by
  intro p l e R s mi args below meth c A D cI cY ad cells slots Qs hC hK H locs ls hL hS hm hP hV hl
  exact hw p l e R s mi args below meth c A D cI cY ad cells slots Qs H locs ls hC hL hS hm hP hV hl (kk p l e R s mi args below meth c A D cI cY ad cells slots Qs hC hK H locs ls hL (hok hL hS hm) hm hP hV hl)
theorem ok_cons {v : zz_V} {S : List zz_V} (h : okv v) (hS : ∀ w ∈ S, okv w) : ∀ w ∈ v :: S, okv w := by
  intro w hw
  rcases List.mem_cons.mp hw with rfl | q
  · exact h
  · exact hS w q
theorem ok_tl {v : zz_V} {S : List zz_V} (hS : ∀ w ∈ v :: S, okv w) : ∀ w ∈ S, okv w := fun w hw => hS w (List.mem_cons_of_mem _ hw)
theorem ok_hd {v : zz_V} {S : List zz_V} (hS : ∀ w ∈ v :: S, okv w) : okv v := hS v List.mem_cons_self
theorem x_iconst {n : Int} (hd : decode cc pc = .ok (.iconst n, 1)) (hn : -1 ≤ n ∧ n ≤ 5) (kk : Ex E cc nL own d Q (pc + 1) L (zi n :: S) m) : Ex E cc nL own d Q pc L S m :=
  ex_st (fun _ hS _ => ok_cons (v := zi n) (show zz_in n from ⟨by omega, by omega⟩) hS) (fun p l e R s mi args below meth c A D cI cY ad cells slots Qs H locs ls hC hL hS hm hP hV hl k => lv_iconst hC.1.1 hC.1.2.1 hd rfl k) kk
theorem x_bipush {n : Int} (hd : decode cc pc = .ok (.bipush n, 2)) (hn : -128 ≤ n ∧ n ≤ 127) (kk : Ex E cc nL own d Q (pc + 2) L (zi n :: S) m) : Ex E cc nL own d Q pc L S m := by
  refine ex_st (fun _ hS _ => ok_cons (v := zi n) (show zz_in n from ⟨by omega, by omega⟩) hS) (fun p l e R s mi args below meth c A D cI cY ad cells slots Qs H locs ls hC hL hS hm hP hV hl k => lv_bipush hC.1.1 hC.1.2.1 hd ?_ k) kk
  apply Int32.toInt_inj.mp
  rw [Int8.toInt_toInt32, i32_of ⟨by omega, by omega⟩, Int8.toInt_ofInt, show Int8.size = 256 from rfl]
  exact Int.bmod_eq_of_le (by omega) (by omega)
theorem x_sipush {n : Int} (hd : decode cc pc = .ok (.sipush n, 3)) (hn : -32768 ≤ n ∧ n ≤ 32767) (kk : Ex E cc nL own d Q (pc + 3) L (zi n :: S) m) : Ex E cc nL own d Q pc L S m := by
  refine ex_st (fun _ hS _ => ok_cons (v := zi n) (show zz_in n from ⟨by omega, by omega⟩) hS) (fun p l e R s mi args below meth c A D cI cY ad cells slots Qs H locs ls hC hL hS hm hP hV hl k => lv_sipush hC.1.1 hC.1.2.1 hd ?_ k) kk
  apply Int32.toInt_inj.mp
  rw [Int16.toInt_toInt32, i32_of ⟨by omega, by omega⟩, Int16.toInt_ofInt, show Int16.size = 65536 from rfl]
  exact Int.bmod_eq_of_le (by omega) (by omega)
theorem x_lconst {n : Fin 2} {z : Int} (hd : decode cc pc = .ok (.lconst n, 1)) (hz : ((n : Nat) : Int) = z) (kk : Ex E cc nL own d Q (pc + 1) L (zj z :: S) m) : Ex E cc nL own d Q pc L S m := by
  subst hz
  refine ex_st (fun _ hS _ => ok_cons (v := zj ((n : Nat) : Int)) (show zz_inl ((n : Nat) : Int) from ⟨by have := n.isLt; omega, by have := n.isLt; omega⟩) hS) (fun p l e R s mi args below meth c A D cI cY ad cells slots Qs H locs ls hC hL hS hm hP hV hl k => lv_lconst hC.1.1 hC.1.2.1 hd ?_ k) kk
  exact (Int64.ofInt_eq_ofNat).symm
theorem x_ldc {idx : Nat} {v : Int} (hd : decode cc pc = .ok (.ldc idx, 2)) (hv : zz_in v) (hc : Cond.constant own idx (Int32.ofInt v) ∈ zz_T) (kk : Ex E cc nL own d Q (pc + 2) L (zi v :: S) m) : Ex E cc nL own d Q pc L S m :=
  ex_st (fun _ hS _ => ok_cons (v := zi v) (show zz_in v from hv) hS) (fun p l e R s mi args below meth c A D cI cY ad cells slots Qs H locs ls hC hL hS hm hP hV hl k => lv_ldc hC.1.1 hC.1.2.1 hC.1.2.2.2.1 (hC.1.2.2.2.2 _ hc) hd k) kk
theorem x_ldcw {idx : Nat} {v : Int} (hd : decode cc pc = .ok (.ldc_w idx, 3)) (hv : zz_in v) (hc : Cond.constant own idx (Int32.ofInt v) ∈ zz_T) (kk : Ex E cc nL own d Q (pc + 3) L (zi v :: S) m) : Ex E cc nL own d Q pc L S m :=
  ex_st (fun _ hS _ => ok_cons (v := zi v) (show zz_in v from hv) hS) (fun p l e R s mi args below meth c A D cI cY ad cells slots Qs H locs ls hC hL hS hm hP hV hl k => lv_ldcw hC.1.1 hC.1.2.1 hC.1.2.2.2.1 (hC.1.2.2.2.2 _ hc) hd k) kk
theorem x_ldc2 {idx : Nat} {v : Int} (hd : decode cc pc = .ok (.ldc2_w idx, 3)) (hv : zz_inl v) (hc : Cond.constantLong own idx (Int64.ofInt v) ∈ zz_T) (kk : Ex E cc nL own d Q (pc + 3) L (zj v :: S) m) : Ex E cc nL own d Q pc L S m :=
  ex_st (fun _ hS _ => ok_cons (v := zj v) (show zz_inl v from hv) hS) (fun p l e R s mi args below meth c A D cI cY ad cells slots Qs H locs ls hC hL hS hm hP hV hl k => lv_ldc2 hC.1.1 hC.1.2.1 hC.1.2.2.2.1 (hC.1.2.2.2.2 _ hc) hd k) kk
-- locals
theorem x_iloadG {i pc' : Nat} {z : Int} (hd : decode cc pc = .ok (.iload i, 2) ∧ pc' = pc + 2 ∨ ∃ k : Fin 4, decode cc pc = .ok (.iload_n k, 1) ∧ (k : Nat) = i ∧ pc' = pc + 1) (hL : L[i]? = some (some (zi z))) (kk : Ex E cc nL own d Q pc' L (zi z :: S) m) : Ex E cc nL own d Q pc L S m := by
  refine ex_st (fun hl hS _ => ok_cons (hl _ (List.mem_of_getElem? hL)) hS) (fun p l e R s mi args below meth c A D cI cY ad cells slots Qs H locs ls hC _ hS hm hP hV hl k => ?_) kk
  have hv := gl_at hl hL
  rcases hd with ⟨hd, rfl⟩ | ⟨f, hd, hf, rfl⟩
  · exact lv_iload hC.1.1 hC.1.2.1 hd hv k
  · exact lv_iload_n hC.1.1 hC.1.2.1 hd hf hv k
theorem x_aloadG {i pc' : Nat} {z : Nat} (hd : decode cc pc = .ok (.aload i, 2) ∧ pc' = pc + 2 ∨ ∃ k : Fin 4, decode cc pc = .ok (.aload_n k, 1) ∧ (k : Nat) = i ∧ pc' = pc + 1) (hL : L[i]? = some (some (zr z))) (kk : Ex E cc nL own d Q pc' L (zr z :: S) m) : Ex E cc nL own d Q pc L S m := by
  refine ex_st (fun hl hS _ => ok_cons (hl _ (List.mem_of_getElem? hL)) hS) (fun p l e R s mi args below meth c A D cI cY ad cells slots Qs H locs ls hC _ hS hm hP hV hl k => ?_) kk
  have hv := gl_at hl hL
  rcases hd with ⟨hd, rfl⟩ | ⟨f, hd, hf, rfl⟩
  · exact lv_aload hC.1.1 hC.1.2.1 hd hv k
  · exact lv_aload_n hC.1.1 hC.1.2.1 hd hf hv k
theorem x_lloadG {i pc' : Nat} {z : Int} (hd : decode cc pc = .ok (.lload i, 2) ∧ pc' = pc + 2 ∨ ∃ k : Fin 4, decode cc pc = .ok (.lload_n k, 1) ∧ (k : Nat) = i ∧ pc' = pc + 1) (hL : L[i]? = some (some (zj z))) (kk : Ex E cc nL own d Q pc' L (zj z :: S) m) : Ex E cc nL own d Q pc L S m := by
  refine ex_st (fun hl hS _ => ok_cons (hl _ (List.mem_of_getElem? hL)) hS) (fun p l e R s mi args below meth c A D cI cY ad cells slots Qs H locs ls hC _ hS hm hP hV hl k => ?_) kk
  have hv := gl_at hl hL
  rcases hd with ⟨hd, rfl⟩ | ⟨f, hd, hf, rfl⟩
  · exact lv_lload hC.1.1 hC.1.2.1 hd hv k
  · exact lv_lload_n hC.1.1 hC.1.2.1 hd hf hv k
theorem set_rule {i : Nat} {v : zz_V} {L : List (Option zz_V)} : ∀ (k : Nat) (w : zz_V), (L.set i (some v))[k]? = some (some w) → (k = i ∧ w = v) ∨ (k ≠ i ∧ L[k]? = some (some w)) := by
  intro k w h
  by_cases hk : k = i
  · subst hk
    left
    have hl : k < L.length := by
      have := (List.getElem?_eq_some_iff.mp h).1
      simpa using this
    rw [List.getElem?_set_self hl] at h
    cases h
    exact ⟨rfl, rfl⟩
  · right
    rw [List.getElem?_set_ne (Ne.symm hk)] at h
    exact ⟨hk, h⟩
theorem ok_set {i : Nat} {v : zz_V} {L : List (Option zz_V)} (hL : ∀ v, some v ∈ L → okv v) (hv : okv v) : ∀ w, some w ∈ L.set i (some v) → okv w := by
  intro w hw
  rcases List.mem_or_eq_of_mem_set hw with h | h
  · exact hL w h
  · cases h; exact hv
theorem x_storeG {i pc' : Nat} {v : zz_V} (hi : i < nL) (hn : njl L = true)
    (hd : (∃ z, v = zi z ∧ (decode cc pc = .ok (.istore i, 2) ∧ pc' = pc + 2 ∨ ∃ k : Fin 4, decode cc pc = .ok (.istore_n k, 1) ∧ (k : Nat) = i ∧ pc' = pc + 1)) ∨ (∃ z, v = zr z ∧ (decode cc pc = .ok (.astore i, 2) ∧ pc' = pc + 2 ∨ ∃ k : Fin 4, decode cc pc = .ok (.astore_n k, 1) ∧ (k : Nat) = i ∧ pc' = pc + 1)))
    (kk : Ex E cc nL own d Q pc' (L.set i (some v)) S m) : Ex E cc nL own d Q pc L (v :: S) m := by
  intro p l e R s mi args below meth c A D cI cY ad cells slots Qs hC hK H locs ls hL hS hm hP hV hl
  have go : ∀ ls' : Array Slot, lv_has ls' nL ((i, gv ad v) :: (gl ad 0 L).filter (fun q => !(q.1 == i) && !(q.1 + 1 == i && q.2.category == 2))) → W p l e R s mi args below meth c H locs cells slots Qs (F0 mi pc' ls' (S.map (gv ad))) := fun ls' h =>
    kk p l e R s mi args below meth c A D cI cY ad cells slots Qs hC hK H locs ls' (ok_set hL (ok_hd hS)) (ok_tl hS) hm hP hV (gl_store h hn set_rule)
  rcases hd with ⟨z, rfl, hd⟩ | ⟨z, rfl, hd⟩ <;> rcases hd with ⟨hd, rfl⟩ | ⟨f, hd, hf, rfl⟩
  · exact lv_istore hC.1.1 hC.1.2.1 hd hl hi rfl go
  · exact lv_istore_n hC.1.1 hC.1.2.1 hd hf hl hi rfl go
  · exact lv_astore hC.1.1 hC.1.2.1 hd hl hi rfl go
  · exact lv_astore_n hC.1.1 hC.1.2.1 hd hf hl hi rfl go
theorem x_iincG {i : Nat} {n z v : Int} (hi : i < nL) (hn : njl L = true) (hd : decode cc pc = .ok (.iinc i n, 3)) (hL : L[i]? = some (some (zi z))) (hv : nrm (z + n) = v) (kk : Ex E cc nL own d Q (pc + 3) (L.set i (some (zi v))) S m) : Ex E cc nL own d Q pc L S m := by
  subst hv
  intro p l e R s mi args below meth c A D cI cY ad cells slots Qs hC hK H locs ls hLo hS hm hP hV hl
  have hmem : (i, gv ad (zi z)) ∈ gl ad 0 L := gl_mem.mpr ⟨i, _, hL, by simp⟩
  obtain ⟨k, hk⟩ := List.getElem?_of_mem hmem
  refine lv_iinc (v := Int32.ofInt (nrm (z + n))) hC.1.1 hC.1.2.1 hd hl hk ?_ hi rfl (fun ls' h => ?_)
  · rw [i32_nrm, Int32.ofInt_add]
  · exact kk p l e R s mi args below meth c A D cI cY ad cells slots Qs hC hK H locs ls' (ok_set hLo (nrm_in _)) hS hm hP hV (gl_store (v := zi (nrm (z + n))) h hn set_rule)
-- arithmetic
theorem ex_i2 {a b r : Int} {pc' : Nat} (hr : zz_in r) (hw : ∀ (p : Program) (l : Launch) (e : Env) (R : Room) (s : State) (mi : MethodId) (args : Array Value) (below : List Frame) (meth : Method) (c : Code) (cells slots : Nat) (Qs : State → Prop) (H : Heap) (locs : List Loc) (ls : Array Slot) (rest : List Value),
      p.tables.exec = Jvm.exec → c.code = cc → zz_in a → zz_in b → W p l e R s mi args below meth c H locs cells slots Qs (F0 mi pc' ls (.int (Int32.ofInt r) :: rest)) → W p l e R s mi args below meth c H locs cells slots Qs (F0 mi pc ls (.int (Int32.ofInt b) :: .int (Int32.ofInt a) :: rest)))
    (kk : Ex E cc nL own d Q pc' L (zi r :: S) m) : Ex E cc nL own d Q pc L (zi b :: zi a :: S) m :=
  ex_st (fun _ hS _ => ok_cons (v := zi r) hr (ok_tl (ok_tl hS))) (fun p l e R s mi args below meth c A D cI cY ad cells slots Qs H locs ls hC hL hS hm hP hV hl k => hw p l e R s mi args below meth c cells slots Qs H locs ls _ hC.1.1 hC.1.2.1 (ok_hd (ok_tl hS)) (ok_hd hS) k) kk
end EXR
end
section
section EXA
variable {E : zz_E} {cc : ByteArray} {nL : Nat} {own : String} {d : Nat} {Q : Option zz_V → zz_M → Prop} {pc tgt : Nat} {L : List (Option zz_V)} {S : List zz_V} {m : zz_M} {a b v off : Int}
theorem x_iadd (hd : decode cc pc = .ok (.iadd, 1)) (hv : nrm (a + b) = v) (kk : Ex E cc nL own d Q (pc + 1) L (zi v :: S) m) : Ex E cc nL own d Q pc L (zi b :: zi a :: S) m := by
  subst hv
  refine ex_i2 (nrm_in _) (fun p l e R s mi args below meth c cells slots Qs H locs ls rest hx hb ha hb2 k => lv_iadd hx hb hd ?_) kk
  rw [i32_nrm, Int32.ofInt_add] at k
  exact k
theorem x_isub (hd : decode cc pc = .ok (.isub, 1)) (hv : nrm (a - b) = v) (kk : Ex E cc nL own d Q (pc + 1) L (zi v :: S) m) : Ex E cc nL own d Q pc L (zi b :: zi a :: S) m := by
  subst hv
  refine ex_i2 (nrm_in _) (fun p l e R s mi args below meth c cells slots Qs H locs ls rest hx hb ha hb2 k => lv_isub hx hb hd ?_) kk
  rw [i32_nrm, Int32.ofInt_sub] at k
  exact k
theorem x_imul (hd : decode cc pc = .ok (.imul, 1)) (hv : nrm (a * b) = v) (kk : Ex E cc nL own d Q (pc + 1) L (zi v :: S) m) : Ex E cc nL own d Q pc L (zi b :: zi a :: S) m := by
  subst hv
  refine ex_i2 (nrm_in _) (fun p l e R s mi args below meth c cells slots Qs H locs ls rest hx hb ha hb2 k => lv_imul hx hb hd ?_) kk
  rw [i32_nrm, Int32.ofInt_mul] at k
  exact k
theorem x_iand (hd : decode cc pc = .ok (.iand, 1)) (hv : ian a b = v) (kk : Ex E cc nL own d Q (pc + 1) L (zi v :: S) m) : Ex E cc nL own d Q pc L (zi b :: zi a :: S) m := by
  subst hv
  refine ex_i2 (i32_in _) (fun p l e R s mi args below meth c cells slots Qs H locs ls rest hx hb ha hb2 k => lv_iand hx hb hd ?_) kk
  rw [i32_back] at k
  exact k
theorem x_ior (hd : decode cc pc = .ok (.ior, 1)) (hv : ior a b = v) (kk : Ex E cc nL own d Q (pc + 1) L (zi v :: S) m) : Ex E cc nL own d Q pc L (zi b :: zi a :: S) m := by
  subst hv
  refine ex_i2 (i32_in _) (fun p l e R s mi args below meth c cells slots Qs H locs ls rest hx hb ha hb2 k => lv_ior hx hb hd ?_) kk
  rw [i32_back] at k
  exact k
theorem x_ixor (hd : decode cc pc = .ok (.ixor, 1)) (hv : ixr a b = v) (kk : Ex E cc nL own d Q (pc + 1) L (zi v :: S) m) : Ex E cc nL own d Q pc L (zi b :: zi a :: S) m := by
  subst hv
  refine ex_i2 (i32_in _) (fun p l e R s mi args below meth c cells slots Qs H locs ls rest hx hb ha hb2 k => lv_ixor hx hb hd ?_) kk
  rw [i32_back] at k
  exact k
theorem x_ishl (hd : decode cc pc = .ok (.ishl, 1)) (hv : isl a b = v) (kk : Ex E cc nL own d Q (pc + 1) L (zi v :: S) m) : Ex E cc nL own d Q pc L (zi b :: zi a :: S) m := by
  subst hv
  refine ex_i2 (i32_in _) (fun p l e R s mi args below meth c cells slots Qs H locs ls rest hx hb ha hb2 k => lv_ishl hx hb hd ?_) kk
  rw [i32_back] at k
  exact k
theorem x_ishr (hd : decode cc pc = .ok (.ishr, 1)) (hv : isr a b = v) (kk : Ex E cc nL own d Q (pc + 1) L (zi v :: S) m) : Ex E cc nL own d Q pc L (zi b :: zi a :: S) m := by
  subst hv
  refine ex_i2 (i32_in _) (fun p l e R s mi args below meth c cells slots Qs H locs ls rest hx hb ha hb2 k => lv_ishr hx hb hd ?_) kk
  rw [i32_back] at k
  exact k
theorem x_iushr (hd : decode cc pc = .ok (.iushr, 1)) (hv : ius a b = v) (kk : Ex E cc nL own d Q (pc + 1) L (zi v :: S) m) : Ex E cc nL own d Q pc L (zi b :: zi a :: S) m := by
  subst hv
  exact ex_i2 (i32_in _) (fun p l e R s mi args below meth c cells slots Qs H locs ls rest hx hb ha hb2 k => lv_iushr hx hb hd (i32_back _).symm k) kk
theorem i32_ne0 {b : Int} (hb : zz_in b) (h : b ≠ 0) : ¬ Int32.ofInt b = 0 := fun q => h (i32_inj hb ⟨by decide, by decide⟩ q)
theorem x_idiv (hd : decode cc pc = .ok (.idiv, 1)) (hne : b ≠ 0) (hv : idv a b = v) (kk : Ex E cc nL own d Q (pc + 1) L (zi v :: S) m) : Ex E cc nL own d Q pc L (zi b :: zi a :: S) m := by
  subst hv
  refine ex_i2 (i32_in _) (fun p l e R s mi args below meth c cells slots Qs H locs ls rest hx hb ha hb2 k => lv_idiv hx hb hd (i32_ne0 hb2 hne) ?_) kk
  rw [i32_back] at k
  exact k
theorem x_irem (hd : decode cc pc = .ok (.irem, 1)) (hne : b ≠ 0) (hv : irm a b = v) (kk : Ex E cc nL own d Q (pc + 1) L (zi v :: S) m) : Ex E cc nL own d Q pc L (zi b :: zi a :: S) m := by
  subst hv
  refine ex_i2 (i32_in _) (fun p l e R s mi args below meth c cells slots Qs H locs ls rest hx hb ha hb2 k => lv_irem hx hb hd (i32_ne0 hb2 hne) ?_) kk
  rw [i32_back] at k
  exact k
theorem x_ineg (hd : decode cc pc = .ok (.ineg, 1)) (hv : nrm (-a) = v) (kk : Ex E cc nL own d Q (pc + 1) L (zi v :: S) m) : Ex E cc nL own d Q pc L (zi a :: S) m := by
  subst hv
  refine ex_st (fun _ hS _ => ok_cons (v := zi (nrm (-a))) (nrm_in _) (ok_tl hS)) (fun p l e R s mi args below meth c A D cI cY ad cells slots Qs H locs ls hC hL hS hm hP hV hl k => lv_ineg hC.1.1 hC.1.2.1 hd ?_) kk
  have e2 : -Int32.ofInt a = Int32.ofInt (nrm (-a)) := by rw [i32_nrm, Int32.ofInt_neg]
  rw [e2]
  exact k
-- longs
theorem x_i2l (hd : decode cc pc = .ok (.i2l, 1)) (kk : Ex E cc nL own d Q (pc + 1) L (zj a :: S) m) : Ex E cc nL own d Q pc L (zi a :: S) m := by
  refine ex_st (fun _ hS _ => ok_cons (v := zj a) (show zz_inl a from ?_) (ok_tl hS)) (fun p l e R s mi args below meth c A D cI cY ad cells slots Qs H locs ls hC hL hS hm hP hV hl k => lv_i2l hC.1.1 hC.1.2.1 hd ?_ k) kk
  · have h := ok_hd hS
    exact ⟨by have := h.1; omega, by have := h.2; omega⟩
  · have h : zz_in a := ok_hd hS
    apply Int64.toInt_inj.mp
    rw [Int32.toInt_toInt64, i32_of h, i64_of ⟨by have := h.1; omega, by have := h.2; omega⟩]
theorem x_lsub (hd : decode cc pc = .ok (.lsub, 1)) (hv : nrml (a - b) = v) (kk : Ex E cc nL own d Q (pc + 1) L (zj v :: S) m) : Ex E cc nL own d Q pc L (zj b :: zj a :: S) m := by
  subst hv
  refine ex_st (fun _ hS _ => ok_cons (v := zj _) (nrml_in _) (ok_tl (ok_tl hS))) (fun p l e R s mi args below meth c A D cI cY ad cells slots Qs H locs ls hC hL hS hm hP hV hl k => lv_lsub hC.1.1 hC.1.2.1 hd ?_) kk
  have e2 : Int64.ofInt a - Int64.ofInt b = Int64.ofInt (nrml (a - b)) := by rw [i64_nrml, Int64.ofInt_sub]
  rw [e2]
  exact k
def lcm_ (a b : Int) : Int := if b < a then 1 else if a = b then 0 else -1
theorem x_lcmp (hd : decode cc pc = .ok (.lcmp, 1)) (kk : Ex E cc nL own d Q (pc + 1) L (zi (lcm_ a b) :: S) m) : Ex E cc nL own d Q pc L (zj b :: zj a :: S) m := by
  refine ex_st (fun _ hS _ => ok_cons (v := zi _) (show zz_in _ from ?_) (ok_tl (ok_tl hS))) (fun p l e R s mi args below meth c A D cI cY ad cells slots Qs H locs ls hC hL hS hm hP hV hl k => W.lcmp hC.1.1 hC.1.2.1 hd ?_) kk
  · unfold lcm_ zz_in
    split <;> try split
    all_goals omega
  · have ha : zz_inl a := ok_hd (ok_tl hS)
    have hb : zz_inl b := ok_hd hS
    have e2 : lg_cmp (Int64.ofInt a) (Int64.ofInt b) = Int32.ofInt (lcm_ a b) := by
      unfold lg_cmp lcm_
      simp only [GT.gt, Int64.lt_iff_toInt_lt, ← Int64.toInt_inj, i64_of ha, i64_of hb]
      split
      · rfl
      · split <;> rfl
    rw [e2]
    exact k
-- the stack
theorem x_dup (hd : decode cc pc = .ok (.dup, 1)) (kk : Ex E cc nL own d Q (pc + 1) L (zi a :: zi a :: S) m) : Ex E cc nL own d Q pc L (zi a :: S) m :=
  ex_st (fun _ hS _ => ok_cons (ok_hd hS) hS) (fun p l e R s mi args below meth c A D cI cY ad cells slots Qs H locs ls hC hL hS hm hP hV hl k => lv_dup hC.1.1 hC.1.2.1 hd rfl k) kk
theorem x_dupr {k : Nat} (hd : decode cc pc = .ok (.dup, 1)) (kk : Ex E cc nL own d Q (pc + 1) L (zr k :: zr k :: S) m) : Ex E cc nL own d Q pc L (zr k :: S) m :=
  ex_st (fun _ hS _ => ok_cons (ok_hd hS) hS) (fun p l e R s mi args below meth c A D cI cY ad cells slots Qs H locs ls hC hL hS hm hP hV hl k => lv_dup hC.1.1 hC.1.2.1 hd rfl k) kk
theorem x_dup2 {k : Nat} (hd : decode cc pc = .ok (.dup2, 1)) (kk : Ex E cc nL own d Q (pc + 1) L (zi a :: zr k :: zi a :: zr k :: S) m) : Ex E cc nL own d Q pc L (zi a :: zr k :: S) m :=
  ex_st (fun _ hS _ => ok_cons (ok_hd hS) (ok_cons (ok_hd (ok_tl hS)) hS)) (fun p l e R s mi args below meth c A D cI cY ad cells slots Qs H locs ls hC hL hS hm hP hV hl k => lv_dup2_11 hC.1.1 hC.1.2.1 hd rfl rfl k) kk
theorem x_pop (hd : decode cc pc = .ok (.pop, 1)) (kk : Ex E cc nL own d Q (pc + 1) L S m) : Ex E cc nL own d Q pc L (zi a :: S) m :=
  ex_st (fun _ hS _ => ok_tl hS) (fun p l e R s mi args below meth c A D cI cY ad cells slots Qs H locs ls hC hL hS hm hP hV hl k => lv_pop hC.1.1 hC.1.2.1 hd rfl k) kk
theorem x_goto (hd : decode cc pc = .ok (.goto off, 3)) (ht : (pc : Int) + off = (tgt : Int)) (kk : Ex E cc nL own d Q tgt L S m) : Ex E cc nL own d Q pc L S m :=
  ex_st (fun _ hS _ => hS) (fun p l e R s mi args below meth c A D cI cY ad cells slots Qs H locs ls hC hL hS hm hP hV hl k => lv_goto hC.1.1 hC.1.2.1 hd ht k) kk
theorem x_icmp_eq (hd : decode cc pc = .ok (.if_icmp .eq off, 3)) (ht : (pc : Int) + off = (tgt : Int)) (kt : a = b → Ex E cc nL own d Q tgt L S m) (kf : a ≠ b → Ex E cc nL own d Q (pc + 3) L S m) : Ex E cc nL own d Q pc L (zi b :: zi a :: S) m := by
  intro p l e R s mi args below meth c A D cI cY ad cells slots Qs hC hK H locs ls hL hS hm hP hV hl
  have ha : zz_in a := ok_hd (ok_tl hS)
  have hb : zz_in b := ok_hd hS
  have kt := fun h => kt h p l e R s mi args below meth c A D cI cY ad cells slots Qs hC hK H locs ls hL (ok_tl (ok_tl hS)) hm hP hV hl
  have kf := fun h => kf h p l e R s mi args below meth c A D cI cY ad cells slots Qs hC hK H locs ls hL (ok_tl (ok_tl hS)) hm hP hV hl
  exact lv_icmp_eq hC.1.1 hC.1.2.1 hd ht (fun h => kt (i32_inj ha hb h)) (fun h => kf (fun q => h (congrArg Int32.ofInt q)))
theorem x_if_eq (hd : decode cc pc = .ok (.ifCond .eq off, 3)) (ht : (pc : Int) + off = (tgt : Int)) (kt : a = 0 → Ex E cc nL own d Q tgt L S m) (kf : a ≠ 0 → Ex E cc nL own d Q (pc + 3) L S m) : Ex E cc nL own d Q pc L (zi a :: S) m := by
  intro p l e R s mi args below meth c A D cI cY ad cells slots Qs hC hK H locs ls hL hS hm hP hV hl
  have ha : zz_in a := ok_hd hS
  have hb : zz_in 0 := ⟨by decide, by decide⟩
  have kt := fun h => kt h p l e R s mi args below meth c A D cI cY ad cells slots Qs hC hK H locs ls hL (ok_tl hS) hm hP hV hl
  have kf := fun h => kf h p l e R s mi args below meth c A D cI cY ad cells slots Qs hC hK H locs ls hL (ok_tl hS) hm hP hV hl
  exact lv_if_eq hC.1.1 hC.1.2.1 hd ht (fun h => kt (i32_inj ha hb h)) (fun h => kf (fun q => h (congrArg Int32.ofInt q)))
theorem x_icmp_ne (hd : decode cc pc = .ok (.if_icmp .ne off, 3)) (ht : (pc : Int) + off = (tgt : Int)) (kt : a ≠ b → Ex E cc nL own d Q tgt L S m) (kf : a = b → Ex E cc nL own d Q (pc + 3) L S m) : Ex E cc nL own d Q pc L (zi b :: zi a :: S) m := by
  intro p l e R s mi args below meth c A D cI cY ad cells slots Qs hC hK H locs ls hL hS hm hP hV hl
  have ha : zz_in a := ok_hd (ok_tl hS)
  have hb : zz_in b := ok_hd hS
  have kt := fun h => kt h p l e R s mi args below meth c A D cI cY ad cells slots Qs hC hK H locs ls hL (ok_tl (ok_tl hS)) hm hP hV hl
  have kf := fun h => kf h p l e R s mi args below meth c A D cI cY ad cells slots Qs hC hK H locs ls hL (ok_tl (ok_tl hS)) hm hP hV hl
  exact lv_icmp_ne hC.1.1 hC.1.2.1 hd ht (fun h => kt (fun q => h (congrArg Int32.ofInt q))) (fun h => kf (i32_inj ha hb h))
theorem x_if_ne (hd : decode cc pc = .ok (.ifCond .ne off, 3)) (ht : (pc : Int) + off = (tgt : Int)) (kt : a ≠ 0 → Ex E cc nL own d Q tgt L S m) (kf : a = 0 → Ex E cc nL own d Q (pc + 3) L S m) : Ex E cc nL own d Q pc L (zi a :: S) m := by
  intro p l e R s mi args below meth c A D cI cY ad cells slots Qs hC hK H locs ls hL hS hm hP hV hl
  have ha : zz_in a := ok_hd hS
  have hb : zz_in 0 := ⟨by decide, by decide⟩
  have kt := fun h => kt h p l e R s mi args below meth c A D cI cY ad cells slots Qs hC hK H locs ls hL (ok_tl hS) hm hP hV hl
  have kf := fun h => kf h p l e R s mi args below meth c A D cI cY ad cells slots Qs hC hK H locs ls hL (ok_tl hS) hm hP hV hl
  exact lv_if_ne hC.1.1 hC.1.2.1 hd ht (fun h => kt (fun q => h (congrArg Int32.ofInt q))) (fun h => kf (i32_inj ha hb h))
theorem x_icmp_lt (hd : decode cc pc = .ok (.if_icmp .lt off, 3)) (ht : (pc : Int) + off = (tgt : Int)) (kt : a < b → Ex E cc nL own d Q tgt L S m) (kf : b ≤ a → Ex E cc nL own d Q (pc + 3) L S m) : Ex E cc nL own d Q pc L (zi b :: zi a :: S) m := by
  intro p l e R s mi args below meth c A D cI cY ad cells slots Qs hC hK H locs ls hL hS hm hP hV hl
  have ha : zz_in a := ok_hd (ok_tl hS)
  have hb : zz_in b := ok_hd hS
  have kt := fun h => kt h p l e R s mi args below meth c A D cI cY ad cells slots Qs hC hK H locs ls hL (ok_tl (ok_tl hS)) hm hP hV hl
  have kf := fun h => kf h p l e R s mi args below meth c A D cI cY ad cells slots Qs hC hK H locs ls hL (ok_tl (ok_tl hS)) hm hP hV hl
  exact lv_icmp_lt hC.1.1 hC.1.2.1 hd ht (fun h => kt ((i32_lt ha hb).mp h)) (fun h => kf (Int.not_lt.mp (fun q => h ((i32_lt ha hb).mpr q))))
theorem x_if_lt (hd : decode cc pc = .ok (.ifCond .lt off, 3)) (ht : (pc : Int) + off = (tgt : Int)) (kt : a < 0 → Ex E cc nL own d Q tgt L S m) (kf : 0 ≤ a → Ex E cc nL own d Q (pc + 3) L S m) : Ex E cc nL own d Q pc L (zi a :: S) m := by
  intro p l e R s mi args below meth c A D cI cY ad cells slots Qs hC hK H locs ls hL hS hm hP hV hl
  have ha : zz_in a := ok_hd hS
  have hb : zz_in 0 := ⟨by decide, by decide⟩
  have kt := fun h => kt h p l e R s mi args below meth c A D cI cY ad cells slots Qs hC hK H locs ls hL (ok_tl hS) hm hP hV hl
  have kf := fun h => kf h p l e R s mi args below meth c A D cI cY ad cells slots Qs hC hK H locs ls hL (ok_tl hS) hm hP hV hl
  exact lv_if_lt hC.1.1 hC.1.2.1 hd ht (fun h => kt ((i32_lt ha hb).mp h)) (fun h => kf (Int.not_lt.mp (fun q => h ((i32_lt ha hb).mpr q))))
theorem x_icmp_ge (hd : decode cc pc = .ok (.if_icmp .ge off, 3)) (ht : (pc : Int) + off = (tgt : Int)) (kt : b ≤ a → Ex E cc nL own d Q tgt L S m) (kf : a < b → Ex E cc nL own d Q (pc + 3) L S m) : Ex E cc nL own d Q pc L (zi b :: zi a :: S) m := by
  intro p l e R s mi args below meth c A D cI cY ad cells slots Qs hC hK H locs ls hL hS hm hP hV hl
  have ha : zz_in a := ok_hd (ok_tl hS)
  have hb : zz_in b := ok_hd hS
  have kt := fun h => kt h p l e R s mi args below meth c A D cI cY ad cells slots Qs hC hK H locs ls hL (ok_tl (ok_tl hS)) hm hP hV hl
  have kf := fun h => kf h p l e R s mi args below meth c A D cI cY ad cells slots Qs hC hK H locs ls hL (ok_tl (ok_tl hS)) hm hP hV hl
  exact lv_icmp_ge hC.1.1 hC.1.2.1 hd ht (fun h => kt ((i32_le hb ha).mp h)) (fun h => kf (Int.not_le.mp (fun q => h ((i32_le hb ha).mpr q))))
theorem x_if_ge (hd : decode cc pc = .ok (.ifCond .ge off, 3)) (ht : (pc : Int) + off = (tgt : Int)) (kt : 0 ≤ a → Ex E cc nL own d Q tgt L S m) (kf : a < 0 → Ex E cc nL own d Q (pc + 3) L S m) : Ex E cc nL own d Q pc L (zi a :: S) m := by
  intro p l e R s mi args below meth c A D cI cY ad cells slots Qs hC hK H locs ls hL hS hm hP hV hl
  have ha : zz_in a := ok_hd hS
  have hb : zz_in 0 := ⟨by decide, by decide⟩
  have kt := fun h => kt h p l e R s mi args below meth c A D cI cY ad cells slots Qs hC hK H locs ls hL (ok_tl hS) hm hP hV hl
  have kf := fun h => kf h p l e R s mi args below meth c A D cI cY ad cells slots Qs hC hK H locs ls hL (ok_tl hS) hm hP hV hl
  exact lv_if_ge hC.1.1 hC.1.2.1 hd ht (fun h => kt ((i32_le hb ha).mp h)) (fun h => kf (Int.not_le.mp (fun q => h ((i32_le hb ha).mpr q))))
theorem x_icmp_gt (hd : decode cc pc = .ok (.if_icmp .gt off, 3)) (ht : (pc : Int) + off = (tgt : Int)) (kt : b < a → Ex E cc nL own d Q tgt L S m) (kf : a ≤ b → Ex E cc nL own d Q (pc + 3) L S m) : Ex E cc nL own d Q pc L (zi b :: zi a :: S) m := by
  intro p l e R s mi args below meth c A D cI cY ad cells slots Qs hC hK H locs ls hL hS hm hP hV hl
  have ha : zz_in a := ok_hd (ok_tl hS)
  have hb : zz_in b := ok_hd hS
  have kt := fun h => kt h p l e R s mi args below meth c A D cI cY ad cells slots Qs hC hK H locs ls hL (ok_tl (ok_tl hS)) hm hP hV hl
  have kf := fun h => kf h p l e R s mi args below meth c A D cI cY ad cells slots Qs hC hK H locs ls hL (ok_tl (ok_tl hS)) hm hP hV hl
  exact lv_icmp_gt hC.1.1 hC.1.2.1 hd ht (fun h => kt ((i32_lt hb ha).mp h)) (fun h => kf (Int.not_lt.mp (fun q => h ((i32_lt hb ha).mpr q))))
theorem x_if_gt (hd : decode cc pc = .ok (.ifCond .gt off, 3)) (ht : (pc : Int) + off = (tgt : Int)) (kt : 0 < a → Ex E cc nL own d Q tgt L S m) (kf : a ≤ 0 → Ex E cc nL own d Q (pc + 3) L S m) : Ex E cc nL own d Q pc L (zi a :: S) m := by
  intro p l e R s mi args below meth c A D cI cY ad cells slots Qs hC hK H locs ls hL hS hm hP hV hl
  have ha : zz_in a := ok_hd hS
  have hb : zz_in 0 := ⟨by decide, by decide⟩
  have kt := fun h => kt h p l e R s mi args below meth c A D cI cY ad cells slots Qs hC hK H locs ls hL (ok_tl hS) hm hP hV hl
  have kf := fun h => kf h p l e R s mi args below meth c A D cI cY ad cells slots Qs hC hK H locs ls hL (ok_tl hS) hm hP hV hl
  exact lv_if_gt hC.1.1 hC.1.2.1 hd ht (fun h => kt ((i32_lt hb ha).mp h)) (fun h => kf (Int.not_lt.mp (fun q => h ((i32_lt hb ha).mpr q))))
theorem x_icmp_le (hd : decode cc pc = .ok (.if_icmp .le off, 3)) (ht : (pc : Int) + off = (tgt : Int)) (kt : a ≤ b → Ex E cc nL own d Q tgt L S m) (kf : b < a → Ex E cc nL own d Q (pc + 3) L S m) : Ex E cc nL own d Q pc L (zi b :: zi a :: S) m := by
  intro p l e R s mi args below meth c A D cI cY ad cells slots Qs hC hK H locs ls hL hS hm hP hV hl
  have ha : zz_in a := ok_hd (ok_tl hS)
  have hb : zz_in b := ok_hd hS
  have kt := fun h => kt h p l e R s mi args below meth c A D cI cY ad cells slots Qs hC hK H locs ls hL (ok_tl (ok_tl hS)) hm hP hV hl
  have kf := fun h => kf h p l e R s mi args below meth c A D cI cY ad cells slots Qs hC hK H locs ls hL (ok_tl (ok_tl hS)) hm hP hV hl
  exact lv_icmp_le hC.1.1 hC.1.2.1 hd ht (fun h => kt ((i32_le ha hb).mp h)) (fun h => kf (Int.not_le.mp (fun q => h ((i32_le ha hb).mpr q))))
theorem x_if_le (hd : decode cc pc = .ok (.ifCond .le off, 3)) (ht : (pc : Int) + off = (tgt : Int)) (kt : a ≤ 0 → Ex E cc nL own d Q tgt L S m) (kf : 0 < a → Ex E cc nL own d Q (pc + 3) L S m) : Ex E cc nL own d Q pc L (zi a :: S) m := by
  intro p l e R s mi args below meth c A D cI cY ad cells slots Qs hC hK H locs ls hL hS hm hP hV hl
  have ha : zz_in a := ok_hd hS
  have hb : zz_in 0 := ⟨by decide, by decide⟩
  have kt := fun h => kt h p l e R s mi args below meth c A D cI cY ad cells slots Qs hC hK H locs ls hL (ok_tl hS) hm hP hV hl
  have kf := fun h => kf h p l e R s mi args below meth c A D cI cY ad cells slots Qs hC hK H locs ls hL (ok_tl hS) hm hP hV hl
  exact lv_if_le hC.1.1 hC.1.2.1 hd ht (fun h => kt ((i32_le ha hb).mp h)) (fun h => kf (Int.not_le.mp (fun q => h ((i32_le ha hb).mpr q))))
theorem x_tin {dflt lo hi : Int} {offs : Array Int} {len : Nat} (hd : decode cc pc = .ok (.tableswitch dflt lo hi offs, len)) (h1 : lo ≤ a) (h2 : a ≤ hi) (ho : offs[(a - lo).toNat]? = some off) (ht : (pc : Int) + off = (tgt : Int)) (kk : Ex E cc nL own d Q tgt L S m) : Ex E cc nL own d Q pc L (zi a :: S) m :=
  ex_st (fun _ hS _ => ok_tl hS) (fun p l e R s mi args below meth c A D cI cY ad cells slots Qs H locs ls hC hL hS hm hP hV hl k => lv_tableIn hC.1.1 hC.1.2.1 hd (by rw [i32_of (ok_hd hS)]; omega) (by rw [i32_of (ok_hd hS)]; omega) (by rw [i32_of (ok_hd hS)]; exact ho) ht k) kk
theorem x_tout {dflt lo hi : Int} {offs : Array Int} {len : Nat} (hd : decode cc pc = .ok (.tableswitch dflt lo hi offs, len)) (h : a < lo ∨ hi < a) (ht : (pc : Int) + dflt = (tgt : Int)) (kk : Ex E cc nL own d Q tgt L S m) : Ex E cc nL own d Q pc L (zi a :: S) m :=
  ex_st (fun _ hS _ => ok_tl hS) (fun p l e R s mi args below meth c A D cI cY ad cells slots Qs H locs ls hC hL hS hm hP hV hl k => lv_tableOut hC.1.1 hC.1.2.1 hd (by rw [i32_of (ok_hd hS)]; exact h) ht k) kk
theorem x_look {dflt : Int} {ps : Array (Int × Int)} {len : Nat} (hd : decode cc pc = .ok (.lookupswitch dflt ps, len)) (hp : (ps.toList.zip (ps.toList.drop 1)).all (fun (a, next) => a.1 < next.1) = true) (ho : Op.lookupswitch.offset ps.toList dflt a = off) (ht : (pc : Int) + off = (tgt : Int)) (kk : Ex E cc nL own d Q tgt L S m) : Ex E cc nL own d Q pc L (zi a :: S) m :=
  ex_st (fun _ hS _ => ok_tl hS) (fun p l e R s mi args below meth c A D cI cY ad cells slots Qs H locs ls hC hL hS hm hP hV hl k => lv_lookup hC.1.1 hC.1.2.1 hd hp (by rw [i32_of (ok_hd hS)]; exact ho) ht k) kk
end EXA
section EXL
variable {E : zz_E} {cc : ByteArray} {nL : Nat} {own : String} {d : Nat} {Q : Option zz_V → zz_M → Prop} {pc : Nat} {L : List (Option zz_V)} {S : List zz_V} {m : zz_M} {z v n : Int} {k : Nat}
theorem x_iload0 (hd : decode cc pc = .ok (.iload_n 0, 1)) (kk : Ex E cc nL own d Q (pc + 1) (some (zi z) :: L) (zi z :: S) m) : Ex E cc nL own d Q pc (some (zi z) :: L) S m := x_iloadG (i := 0) (Or.inr ⟨0, hd, rfl, rfl⟩) rfl kk
theorem x_istore0 {o : Option zz_V} (hd : decode cc pc = .ok (.istore_n 0, 1)) (hi : 0 < nL) (hn : njl (o :: L) = true) (kk : Ex E cc nL own d Q (pc + 1) (some (zi z) :: L) S m) : Ex E cc nL own d Q pc (o :: L) (zi z :: S) m := x_storeG (i := 0) hi hn (Or.inl ⟨z, rfl, Or.inr ⟨0, hd, rfl, rfl⟩⟩) kk
theorem x_aload0 (hd : decode cc pc = .ok (.aload_n 0, 1)) (kk : Ex E cc nL own d Q (pc + 1) (some (zr k) :: L) (zr k :: S) m) : Ex E cc nL own d Q pc (some (zr k) :: L) S m := x_aloadG (i := 0) (Or.inr ⟨0, hd, rfl, rfl⟩) rfl kk
theorem x_astore0 {o : Option zz_V} (hd : decode cc pc = .ok (.astore_n 0, 1)) (hi : 0 < nL) (hn : njl (o :: L) = true) (kk : Ex E cc nL own d Q (pc + 1) (some (zr k) :: L) S m) : Ex E cc nL own d Q pc (o :: L) (zr k :: S) m := x_storeG (i := 0) hi hn (Or.inr ⟨k, rfl, Or.inr ⟨0, hd, rfl, rfl⟩⟩) kk
theorem x_iinc0 (hd : decode cc pc = .ok (.iinc 0 n, 3)) (hi : 0 < nL) (hn : njl (some (zi z) :: L) = true) (hv : nrm (z + n) = v) (kk : Ex E cc nL own d Q (pc + 3) (some (zi v) :: L) S m) : Ex E cc nL own d Q pc (some (zi z) :: L) S m := x_iincG (i := 0) hi hn hd rfl hv kk
theorem x_iload1 {l0 : Option zz_V} (hd : decode cc pc = .ok (.iload_n 1, 1)) (kk : Ex E cc nL own d Q (pc + 1) (l0 :: some (zi z) :: L) (zi z :: S) m) : Ex E cc nL own d Q pc (l0 :: some (zi z) :: L) S m := x_iloadG (i := 1) (Or.inr ⟨1, hd, rfl, rfl⟩) rfl kk
theorem x_istore1 {l0 : Option zz_V} {o : Option zz_V} (hd : decode cc pc = .ok (.istore_n 1, 1)) (hi : 1 < nL) (hn : njl (l0 :: o :: L) = true) (kk : Ex E cc nL own d Q (pc + 1) (l0 :: some (zi z) :: L) S m) : Ex E cc nL own d Q pc (l0 :: o :: L) (zi z :: S) m := x_storeG (i := 1) hi hn (Or.inl ⟨z, rfl, Or.inr ⟨1, hd, rfl, rfl⟩⟩) kk
theorem x_aload1 {l0 : Option zz_V} (hd : decode cc pc = .ok (.aload_n 1, 1)) (kk : Ex E cc nL own d Q (pc + 1) (l0 :: some (zr k) :: L) (zr k :: S) m) : Ex E cc nL own d Q pc (l0 :: some (zr k) :: L) S m := x_aloadG (i := 1) (Or.inr ⟨1, hd, rfl, rfl⟩) rfl kk
theorem x_astore1 {l0 : Option zz_V} {o : Option zz_V} (hd : decode cc pc = .ok (.astore_n 1, 1)) (hi : 1 < nL) (hn : njl (l0 :: o :: L) = true) (kk : Ex E cc nL own d Q (pc + 1) (l0 :: some (zr k) :: L) S m) : Ex E cc nL own d Q pc (l0 :: o :: L) (zr k :: S) m := x_storeG (i := 1) hi hn (Or.inr ⟨k, rfl, Or.inr ⟨1, hd, rfl, rfl⟩⟩) kk
theorem x_iinc1 {l0 : Option zz_V} (hd : decode cc pc = .ok (.iinc 1 n, 3)) (hi : 1 < nL) (hn : njl (l0 :: some (zi z) :: L) = true) (hv : nrm (z + n) = v) (kk : Ex E cc nL own d Q (pc + 3) (l0 :: some (zi v) :: L) S m) : Ex E cc nL own d Q pc (l0 :: some (zi z) :: L) S m := x_iincG (i := 1) hi hn hd rfl hv kk
theorem x_iload2 {l0 l1 : Option zz_V} (hd : decode cc pc = .ok (.iload_n 2, 1)) (kk : Ex E cc nL own d Q (pc + 1) (l0 :: l1 :: some (zi z) :: L) (zi z :: S) m) : Ex E cc nL own d Q pc (l0 :: l1 :: some (zi z) :: L) S m := x_iloadG (i := 2) (Or.inr ⟨2, hd, rfl, rfl⟩) rfl kk
theorem x_istore2 {l0 l1 : Option zz_V} {o : Option zz_V} (hd : decode cc pc = .ok (.istore_n 2, 1)) (hi : 2 < nL) (hn : njl (l0 :: l1 :: o :: L) = true) (kk : Ex E cc nL own d Q (pc + 1) (l0 :: l1 :: some (zi z) :: L) S m) : Ex E cc nL own d Q pc (l0 :: l1 :: o :: L) (zi z :: S) m := x_storeG (i := 2) hi hn (Or.inl ⟨z, rfl, Or.inr ⟨2, hd, rfl, rfl⟩⟩) kk
theorem x_aload2 {l0 l1 : Option zz_V} (hd : decode cc pc = .ok (.aload_n 2, 1)) (kk : Ex E cc nL own d Q (pc + 1) (l0 :: l1 :: some (zr k) :: L) (zr k :: S) m) : Ex E cc nL own d Q pc (l0 :: l1 :: some (zr k) :: L) S m := x_aloadG (i := 2) (Or.inr ⟨2, hd, rfl, rfl⟩) rfl kk
theorem x_astore2 {l0 l1 : Option zz_V} {o : Option zz_V} (hd : decode cc pc = .ok (.astore_n 2, 1)) (hi : 2 < nL) (hn : njl (l0 :: l1 :: o :: L) = true) (kk : Ex E cc nL own d Q (pc + 1) (l0 :: l1 :: some (zr k) :: L) S m) : Ex E cc nL own d Q pc (l0 :: l1 :: o :: L) (zr k :: S) m := x_storeG (i := 2) hi hn (Or.inr ⟨k, rfl, Or.inr ⟨2, hd, rfl, rfl⟩⟩) kk
theorem x_iinc2 {l0 l1 : Option zz_V} (hd : decode cc pc = .ok (.iinc 2 n, 3)) (hi : 2 < nL) (hn : njl (l0 :: l1 :: some (zi z) :: L) = true) (hv : nrm (z + n) = v) (kk : Ex E cc nL own d Q (pc + 3) (l0 :: l1 :: some (zi v) :: L) S m) : Ex E cc nL own d Q pc (l0 :: l1 :: some (zi z) :: L) S m := x_iincG (i := 2) hi hn hd rfl hv kk
theorem x_iload3 {l0 l1 l2 : Option zz_V} (hd : decode cc pc = .ok (.iload_n 3, 1)) (kk : Ex E cc nL own d Q (pc + 1) (l0 :: l1 :: l2 :: some (zi z) :: L) (zi z :: S) m) : Ex E cc nL own d Q pc (l0 :: l1 :: l2 :: some (zi z) :: L) S m := x_iloadG (i := 3) (Or.inr ⟨3, hd, rfl, rfl⟩) rfl kk
theorem x_istore3 {l0 l1 l2 : Option zz_V} {o : Option zz_V} (hd : decode cc pc = .ok (.istore_n 3, 1)) (hi : 3 < nL) (hn : njl (l0 :: l1 :: l2 :: o :: L) = true) (kk : Ex E cc nL own d Q (pc + 1) (l0 :: l1 :: l2 :: some (zi z) :: L) S m) : Ex E cc nL own d Q pc (l0 :: l1 :: l2 :: o :: L) (zi z :: S) m := x_storeG (i := 3) hi hn (Or.inl ⟨z, rfl, Or.inr ⟨3, hd, rfl, rfl⟩⟩) kk
theorem x_aload3 {l0 l1 l2 : Option zz_V} (hd : decode cc pc = .ok (.aload_n 3, 1)) (kk : Ex E cc nL own d Q (pc + 1) (l0 :: l1 :: l2 :: some (zr k) :: L) (zr k :: S) m) : Ex E cc nL own d Q pc (l0 :: l1 :: l2 :: some (zr k) :: L) S m := x_aloadG (i := 3) (Or.inr ⟨3, hd, rfl, rfl⟩) rfl kk
theorem x_astore3 {l0 l1 l2 : Option zz_V} {o : Option zz_V} (hd : decode cc pc = .ok (.astore_n 3, 1)) (hi : 3 < nL) (hn : njl (l0 :: l1 :: l2 :: o :: L) = true) (kk : Ex E cc nL own d Q (pc + 1) (l0 :: l1 :: l2 :: some (zr k) :: L) S m) : Ex E cc nL own d Q pc (l0 :: l1 :: l2 :: o :: L) (zr k :: S) m := x_storeG (i := 3) hi hn (Or.inr ⟨k, rfl, Or.inr ⟨3, hd, rfl, rfl⟩⟩) kk
theorem x_iinc3 {l0 l1 l2 : Option zz_V} (hd : decode cc pc = .ok (.iinc 3 n, 3)) (hi : 3 < nL) (hn : njl (l0 :: l1 :: l2 :: some (zi z) :: L) = true) (hv : nrm (z + n) = v) (kk : Ex E cc nL own d Q (pc + 3) (l0 :: l1 :: l2 :: some (zi v) :: L) S m) : Ex E cc nL own d Q pc (l0 :: l1 :: l2 :: some (zi z) :: L) S m := x_iincG (i := 3) hi hn hd rfl hv kk
theorem x_iload4 {l0 l1 l2 l3 : Option zz_V} (hd : decode cc pc = .ok (.iload 4, 2)) (kk : Ex E cc nL own d Q (pc + 2) (l0 :: l1 :: l2 :: l3 :: some (zi z) :: L) (zi z :: S) m) : Ex E cc nL own d Q pc (l0 :: l1 :: l2 :: l3 :: some (zi z) :: L) S m := x_iloadG (i := 4) (Or.inl ⟨hd, rfl⟩) rfl kk
theorem x_istore4 {l0 l1 l2 l3 : Option zz_V} {o : Option zz_V} (hd : decode cc pc = .ok (.istore 4, 2)) (hi : 4 < nL) (hn : njl (l0 :: l1 :: l2 :: l3 :: o :: L) = true) (kk : Ex E cc nL own d Q (pc + 2) (l0 :: l1 :: l2 :: l3 :: some (zi z) :: L) S m) : Ex E cc nL own d Q pc (l0 :: l1 :: l2 :: l3 :: o :: L) (zi z :: S) m := x_storeG (i := 4) hi hn (Or.inl ⟨z, rfl, Or.inl ⟨hd, rfl⟩⟩) kk
theorem x_aload4 {l0 l1 l2 l3 : Option zz_V} (hd : decode cc pc = .ok (.aload 4, 2)) (kk : Ex E cc nL own d Q (pc + 2) (l0 :: l1 :: l2 :: l3 :: some (zr k) :: L) (zr k :: S) m) : Ex E cc nL own d Q pc (l0 :: l1 :: l2 :: l3 :: some (zr k) :: L) S m := x_aloadG (i := 4) (Or.inl ⟨hd, rfl⟩) rfl kk
theorem x_astore4 {l0 l1 l2 l3 : Option zz_V} {o : Option zz_V} (hd : decode cc pc = .ok (.astore 4, 2)) (hi : 4 < nL) (hn : njl (l0 :: l1 :: l2 :: l3 :: o :: L) = true) (kk : Ex E cc nL own d Q (pc + 2) (l0 :: l1 :: l2 :: l3 :: some (zr k) :: L) S m) : Ex E cc nL own d Q pc (l0 :: l1 :: l2 :: l3 :: o :: L) (zr k :: S) m := x_storeG (i := 4) hi hn (Or.inr ⟨k, rfl, Or.inl ⟨hd, rfl⟩⟩) kk
theorem x_iinc4 {l0 l1 l2 l3 : Option zz_V} (hd : decode cc pc = .ok (.iinc 4 n, 3)) (hi : 4 < nL) (hn : njl (l0 :: l1 :: l2 :: l3 :: some (zi z) :: L) = true) (hv : nrm (z + n) = v) (kk : Ex E cc nL own d Q (pc + 3) (l0 :: l1 :: l2 :: l3 :: some (zi v) :: L) S m) : Ex E cc nL own d Q pc (l0 :: l1 :: l2 :: l3 :: some (zi z) :: L) S m := x_iincG (i := 4) hi hn hd rfl hv kk
theorem x_iload5 {l0 l1 l2 l3 l4 : Option zz_V} (hd : decode cc pc = .ok (.iload 5, 2)) (kk : Ex E cc nL own d Q (pc + 2) (l0 :: l1 :: l2 :: l3 :: l4 :: some (zi z) :: L) (zi z :: S) m) : Ex E cc nL own d Q pc (l0 :: l1 :: l2 :: l3 :: l4 :: some (zi z) :: L) S m := x_iloadG (i := 5) (Or.inl ⟨hd, rfl⟩) rfl kk
theorem x_istore5 {l0 l1 l2 l3 l4 : Option zz_V} {o : Option zz_V} (hd : decode cc pc = .ok (.istore 5, 2)) (hi : 5 < nL) (hn : njl (l0 :: l1 :: l2 :: l3 :: l4 :: o :: L) = true) (kk : Ex E cc nL own d Q (pc + 2) (l0 :: l1 :: l2 :: l3 :: l4 :: some (zi z) :: L) S m) : Ex E cc nL own d Q pc (l0 :: l1 :: l2 :: l3 :: l4 :: o :: L) (zi z :: S) m := x_storeG (i := 5) hi hn (Or.inl ⟨z, rfl, Or.inl ⟨hd, rfl⟩⟩) kk
theorem x_aload5 {l0 l1 l2 l3 l4 : Option zz_V} (hd : decode cc pc = .ok (.aload 5, 2)) (kk : Ex E cc nL own d Q (pc + 2) (l0 :: l1 :: l2 :: l3 :: l4 :: some (zr k) :: L) (zr k :: S) m) : Ex E cc nL own d Q pc (l0 :: l1 :: l2 :: l3 :: l4 :: some (zr k) :: L) S m := x_aloadG (i := 5) (Or.inl ⟨hd, rfl⟩) rfl kk
theorem x_astore5 {l0 l1 l2 l3 l4 : Option zz_V} {o : Option zz_V} (hd : decode cc pc = .ok (.astore 5, 2)) (hi : 5 < nL) (hn : njl (l0 :: l1 :: l2 :: l3 :: l4 :: o :: L) = true) (kk : Ex E cc nL own d Q (pc + 2) (l0 :: l1 :: l2 :: l3 :: l4 :: some (zr k) :: L) S m) : Ex E cc nL own d Q pc (l0 :: l1 :: l2 :: l3 :: l4 :: o :: L) (zr k :: S) m := x_storeG (i := 5) hi hn (Or.inr ⟨k, rfl, Or.inl ⟨hd, rfl⟩⟩) kk
theorem x_iinc5 {l0 l1 l2 l3 l4 : Option zz_V} (hd : decode cc pc = .ok (.iinc 5 n, 3)) (hi : 5 < nL) (hn : njl (l0 :: l1 :: l2 :: l3 :: l4 :: some (zi z) :: L) = true) (hv : nrm (z + n) = v) (kk : Ex E cc nL own d Q (pc + 3) (l0 :: l1 :: l2 :: l3 :: l4 :: some (zi v) :: L) S m) : Ex E cc nL own d Q pc (l0 :: l1 :: l2 :: l3 :: l4 :: some (zi z) :: L) S m := x_iincG (i := 5) hi hn hd rfl hv kk
theorem x_iload6 {l0 l1 l2 l3 l4 l5 : Option zz_V} (hd : decode cc pc = .ok (.iload 6, 2)) (kk : Ex E cc nL own d Q (pc + 2) (l0 :: l1 :: l2 :: l3 :: l4 :: l5 :: some (zi z) :: L) (zi z :: S) m) : Ex E cc nL own d Q pc (l0 :: l1 :: l2 :: l3 :: l4 :: l5 :: some (zi z) :: L) S m := x_iloadG (i := 6) (Or.inl ⟨hd, rfl⟩) rfl kk
theorem x_istore6 {l0 l1 l2 l3 l4 l5 : Option zz_V} {o : Option zz_V} (hd : decode cc pc = .ok (.istore 6, 2)) (hi : 6 < nL) (hn : njl (l0 :: l1 :: l2 :: l3 :: l4 :: l5 :: o :: L) = true) (kk : Ex E cc nL own d Q (pc + 2) (l0 :: l1 :: l2 :: l3 :: l4 :: l5 :: some (zi z) :: L) S m) : Ex E cc nL own d Q pc (l0 :: l1 :: l2 :: l3 :: l4 :: l5 :: o :: L) (zi z :: S) m := x_storeG (i := 6) hi hn (Or.inl ⟨z, rfl, Or.inl ⟨hd, rfl⟩⟩) kk
theorem x_aload6 {l0 l1 l2 l3 l4 l5 : Option zz_V} (hd : decode cc pc = .ok (.aload 6, 2)) (kk : Ex E cc nL own d Q (pc + 2) (l0 :: l1 :: l2 :: l3 :: l4 :: l5 :: some (zr k) :: L) (zr k :: S) m) : Ex E cc nL own d Q pc (l0 :: l1 :: l2 :: l3 :: l4 :: l5 :: some (zr k) :: L) S m := x_aloadG (i := 6) (Or.inl ⟨hd, rfl⟩) rfl kk
theorem x_astore6 {l0 l1 l2 l3 l4 l5 : Option zz_V} {o : Option zz_V} (hd : decode cc pc = .ok (.astore 6, 2)) (hi : 6 < nL) (hn : njl (l0 :: l1 :: l2 :: l3 :: l4 :: l5 :: o :: L) = true) (kk : Ex E cc nL own d Q (pc + 2) (l0 :: l1 :: l2 :: l3 :: l4 :: l5 :: some (zr k) :: L) S m) : Ex E cc nL own d Q pc (l0 :: l1 :: l2 :: l3 :: l4 :: l5 :: o :: L) (zr k :: S) m := x_storeG (i := 6) hi hn (Or.inr ⟨k, rfl, Or.inl ⟨hd, rfl⟩⟩) kk
theorem x_iinc6 {l0 l1 l2 l3 l4 l5 : Option zz_V} (hd : decode cc pc = .ok (.iinc 6 n, 3)) (hi : 6 < nL) (hn : njl (l0 :: l1 :: l2 :: l3 :: l4 :: l5 :: some (zi z) :: L) = true) (hv : nrm (z + n) = v) (kk : Ex E cc nL own d Q (pc + 3) (l0 :: l1 :: l2 :: l3 :: l4 :: l5 :: some (zi v) :: L) S m) : Ex E cc nL own d Q pc (l0 :: l1 :: l2 :: l3 :: l4 :: l5 :: some (zi z) :: L) S m := x_iincG (i := 6) hi hn hd rfl hv kk
theorem x_iload7 {l0 l1 l2 l3 l4 l5 l6 : Option zz_V} (hd : decode cc pc = .ok (.iload 7, 2)) (kk : Ex E cc nL own d Q (pc + 2) (l0 :: l1 :: l2 :: l3 :: l4 :: l5 :: l6 :: some (zi z) :: L) (zi z :: S) m) : Ex E cc nL own d Q pc (l0 :: l1 :: l2 :: l3 :: l4 :: l5 :: l6 :: some (zi z) :: L) S m := x_iloadG (i := 7) (Or.inl ⟨hd, rfl⟩) rfl kk
theorem x_istore7 {l0 l1 l2 l3 l4 l5 l6 : Option zz_V} {o : Option zz_V} (hd : decode cc pc = .ok (.istore 7, 2)) (hi : 7 < nL) (hn : njl (l0 :: l1 :: l2 :: l3 :: l4 :: l5 :: l6 :: o :: L) = true) (kk : Ex E cc nL own d Q (pc + 2) (l0 :: l1 :: l2 :: l3 :: l4 :: l5 :: l6 :: some (zi z) :: L) S m) : Ex E cc nL own d Q pc (l0 :: l1 :: l2 :: l3 :: l4 :: l5 :: l6 :: o :: L) (zi z :: S) m := x_storeG (i := 7) hi hn (Or.inl ⟨z, rfl, Or.inl ⟨hd, rfl⟩⟩) kk
theorem x_aload7 {l0 l1 l2 l3 l4 l5 l6 : Option zz_V} (hd : decode cc pc = .ok (.aload 7, 2)) (kk : Ex E cc nL own d Q (pc + 2) (l0 :: l1 :: l2 :: l3 :: l4 :: l5 :: l6 :: some (zr k) :: L) (zr k :: S) m) : Ex E cc nL own d Q pc (l0 :: l1 :: l2 :: l3 :: l4 :: l5 :: l6 :: some (zr k) :: L) S m := x_aloadG (i := 7) (Or.inl ⟨hd, rfl⟩) rfl kk
theorem x_astore7 {l0 l1 l2 l3 l4 l5 l6 : Option zz_V} {o : Option zz_V} (hd : decode cc pc = .ok (.astore 7, 2)) (hi : 7 < nL) (hn : njl (l0 :: l1 :: l2 :: l3 :: l4 :: l5 :: l6 :: o :: L) = true) (kk : Ex E cc nL own d Q (pc + 2) (l0 :: l1 :: l2 :: l3 :: l4 :: l5 :: l6 :: some (zr k) :: L) S m) : Ex E cc nL own d Q pc (l0 :: l1 :: l2 :: l3 :: l4 :: l5 :: l6 :: o :: L) (zr k :: S) m := x_storeG (i := 7) hi hn (Or.inr ⟨k, rfl, Or.inl ⟨hd, rfl⟩⟩) kk
theorem x_iinc7 {l0 l1 l2 l3 l4 l5 l6 : Option zz_V} (hd : decode cc pc = .ok (.iinc 7 n, 3)) (hi : 7 < nL) (hn : njl (l0 :: l1 :: l2 :: l3 :: l4 :: l5 :: l6 :: some (zi z) :: L) = true) (hv : nrm (z + n) = v) (kk : Ex E cc nL own d Q (pc + 3) (l0 :: l1 :: l2 :: l3 :: l4 :: l5 :: l6 :: some (zi v) :: L) S m) : Ex E cc nL own d Q pc (l0 :: l1 :: l2 :: l3 :: l4 :: l5 :: l6 :: some (zi z) :: L) S m := x_iincG (i := 7) hi hn hd rfl hv kk
theorem x_iload8 {l0 l1 l2 l3 l4 l5 l6 l7 : Option zz_V} (hd : decode cc pc = .ok (.iload 8, 2)) (kk : Ex E cc nL own d Q (pc + 2) (l0 :: l1 :: l2 :: l3 :: l4 :: l5 :: l6 :: l7 :: some (zi z) :: L) (zi z :: S) m) : Ex E cc nL own d Q pc (l0 :: l1 :: l2 :: l3 :: l4 :: l5 :: l6 :: l7 :: some (zi z) :: L) S m := x_iloadG (i := 8) (Or.inl ⟨hd, rfl⟩) rfl kk
theorem x_istore8 {l0 l1 l2 l3 l4 l5 l6 l7 : Option zz_V} {o : Option zz_V} (hd : decode cc pc = .ok (.istore 8, 2)) (hi : 8 < nL) (hn : njl (l0 :: l1 :: l2 :: l3 :: l4 :: l5 :: l6 :: l7 :: o :: L) = true) (kk : Ex E cc nL own d Q (pc + 2) (l0 :: l1 :: l2 :: l3 :: l4 :: l5 :: l6 :: l7 :: some (zi z) :: L) S m) : Ex E cc nL own d Q pc (l0 :: l1 :: l2 :: l3 :: l4 :: l5 :: l6 :: l7 :: o :: L) (zi z :: S) m := x_storeG (i := 8) hi hn (Or.inl ⟨z, rfl, Or.inl ⟨hd, rfl⟩⟩) kk
theorem x_aload8 {l0 l1 l2 l3 l4 l5 l6 l7 : Option zz_V} (hd : decode cc pc = .ok (.aload 8, 2)) (kk : Ex E cc nL own d Q (pc + 2) (l0 :: l1 :: l2 :: l3 :: l4 :: l5 :: l6 :: l7 :: some (zr k) :: L) (zr k :: S) m) : Ex E cc nL own d Q pc (l0 :: l1 :: l2 :: l3 :: l4 :: l5 :: l6 :: l7 :: some (zr k) :: L) S m := x_aloadG (i := 8) (Or.inl ⟨hd, rfl⟩) rfl kk
theorem x_astore8 {l0 l1 l2 l3 l4 l5 l6 l7 : Option zz_V} {o : Option zz_V} (hd : decode cc pc = .ok (.astore 8, 2)) (hi : 8 < nL) (hn : njl (l0 :: l1 :: l2 :: l3 :: l4 :: l5 :: l6 :: l7 :: o :: L) = true) (kk : Ex E cc nL own d Q (pc + 2) (l0 :: l1 :: l2 :: l3 :: l4 :: l5 :: l6 :: l7 :: some (zr k) :: L) S m) : Ex E cc nL own d Q pc (l0 :: l1 :: l2 :: l3 :: l4 :: l5 :: l6 :: l7 :: o :: L) (zr k :: S) m := x_storeG (i := 8) hi hn (Or.inr ⟨k, rfl, Or.inl ⟨hd, rfl⟩⟩) kk
theorem x_iinc8 {l0 l1 l2 l3 l4 l5 l6 l7 : Option zz_V} (hd : decode cc pc = .ok (.iinc 8 n, 3)) (hi : 8 < nL) (hn : njl (l0 :: l1 :: l2 :: l3 :: l4 :: l5 :: l6 :: l7 :: some (zi z) :: L) = true) (hv : nrm (z + n) = v) (kk : Ex E cc nL own d Q (pc + 3) (l0 :: l1 :: l2 :: l3 :: l4 :: l5 :: l6 :: l7 :: some (zi v) :: L) S m) : Ex E cc nL own d Q pc (l0 :: l1 :: l2 :: l3 :: l4 :: l5 :: l6 :: l7 :: some (zi z) :: L) S m := x_iincG (i := 8) hi hn hd rfl hv kk
theorem x_iload9 {l0 l1 l2 l3 l4 l5 l6 l7 l8 : Option zz_V} (hd : decode cc pc = .ok (.iload 9, 2)) (kk : Ex E cc nL own d Q (pc + 2) (l0 :: l1 :: l2 :: l3 :: l4 :: l5 :: l6 :: l7 :: l8 :: some (zi z) :: L) (zi z :: S) m) : Ex E cc nL own d Q pc (l0 :: l1 :: l2 :: l3 :: l4 :: l5 :: l6 :: l7 :: l8 :: some (zi z) :: L) S m := x_iloadG (i := 9) (Or.inl ⟨hd, rfl⟩) rfl kk
theorem x_istore9 {l0 l1 l2 l3 l4 l5 l6 l7 l8 : Option zz_V} {o : Option zz_V} (hd : decode cc pc = .ok (.istore 9, 2)) (hi : 9 < nL) (hn : njl (l0 :: l1 :: l2 :: l3 :: l4 :: l5 :: l6 :: l7 :: l8 :: o :: L) = true) (kk : Ex E cc nL own d Q (pc + 2) (l0 :: l1 :: l2 :: l3 :: l4 :: l5 :: l6 :: l7 :: l8 :: some (zi z) :: L) S m) : Ex E cc nL own d Q pc (l0 :: l1 :: l2 :: l3 :: l4 :: l5 :: l6 :: l7 :: l8 :: o :: L) (zi z :: S) m := x_storeG (i := 9) hi hn (Or.inl ⟨z, rfl, Or.inl ⟨hd, rfl⟩⟩) kk
theorem x_aload9 {l0 l1 l2 l3 l4 l5 l6 l7 l8 : Option zz_V} (hd : decode cc pc = .ok (.aload 9, 2)) (kk : Ex E cc nL own d Q (pc + 2) (l0 :: l1 :: l2 :: l3 :: l4 :: l5 :: l6 :: l7 :: l8 :: some (zr k) :: L) (zr k :: S) m) : Ex E cc nL own d Q pc (l0 :: l1 :: l2 :: l3 :: l4 :: l5 :: l6 :: l7 :: l8 :: some (zr k) :: L) S m := x_aloadG (i := 9) (Or.inl ⟨hd, rfl⟩) rfl kk
theorem x_astore9 {l0 l1 l2 l3 l4 l5 l6 l7 l8 : Option zz_V} {o : Option zz_V} (hd : decode cc pc = .ok (.astore 9, 2)) (hi : 9 < nL) (hn : njl (l0 :: l1 :: l2 :: l3 :: l4 :: l5 :: l6 :: l7 :: l8 :: o :: L) = true) (kk : Ex E cc nL own d Q (pc + 2) (l0 :: l1 :: l2 :: l3 :: l4 :: l5 :: l6 :: l7 :: l8 :: some (zr k) :: L) S m) : Ex E cc nL own d Q pc (l0 :: l1 :: l2 :: l3 :: l4 :: l5 :: l6 :: l7 :: l8 :: o :: L) (zr k :: S) m := x_storeG (i := 9) hi hn (Or.inr ⟨k, rfl, Or.inl ⟨hd, rfl⟩⟩) kk
theorem x_iinc9 {l0 l1 l2 l3 l4 l5 l6 l7 l8 : Option zz_V} (hd : decode cc pc = .ok (.iinc 9 n, 3)) (hi : 9 < nL) (hn : njl (l0 :: l1 :: l2 :: l3 :: l4 :: l5 :: l6 :: l7 :: l8 :: some (zi z) :: L) = true) (hv : nrm (z + n) = v) (kk : Ex E cc nL own d Q (pc + 3) (l0 :: l1 :: l2 :: l3 :: l4 :: l5 :: l6 :: l7 :: l8 :: some (zi v) :: L) S m) : Ex E cc nL own d Q pc (l0 :: l1 :: l2 :: l3 :: l4 :: l5 :: l6 :: l7 :: l8 :: some (zi z) :: L) S m := x_iincG (i := 9) hi hn hd rfl hv kk
theorem x_lload0 (hd : decode cc pc = .ok (.lload_n 0, 1)) (kk : Ex E cc nL own d Q (pc + 1) (some (zj z) :: L) (zj z :: S) m) : Ex E cc nL own d Q pc (some (zj z) :: L) S m := x_lloadG (i := 0) (Or.inr ⟨0, hd, rfl, rfl⟩) rfl kk
theorem x_lload2 {l0 l1 : Option zz_V} (hd : decode cc pc = .ok (.lload_n 2, 1)) (kk : Ex E cc nL own d Q (pc + 1) (l0 :: l1 :: some (zj z) :: L) (zj z :: S) m) : Ex E cc nL own d Q pc (l0 :: l1 :: some (zj z) :: L) S m := x_lloadG (i := 2) (Or.inr ⟨2, hd, rfl, rfl⟩) rfl kk
theorem x_lload4 {l0 l1 l2 l3 : Option zz_V} (hd : decode cc pc = .ok (.lload 4, 2)) (kk : Ex E cc nL own d Q (pc + 2) (l0 :: l1 :: l2 :: l3 :: some (zj z) :: L) (zj z :: S) m) : Ex E cc nL own d Q pc (l0 :: l1 :: l2 :: l3 :: some (zj z) :: L) S m := x_lloadG (i := 4) (Or.inl ⟨hd, rfl⟩) rfl kk
end EXL
end
section
/-! ===== memory and calls ===== -/
section EXM
variable {E : zz_E} {cc : ByteArray} {nL : Nat} {own : String} {d : Nat} {Q : Option zz_V → zz_M → Prop} {pc tgt : Nat} {L : List (Option zz_V)} {S : List zz_V} {m : zz_M} {z v : Int} {o k n idx ci N : Nat}
variable {ad : Nat → Nat} {cI cY : ClassId}
theorem ce_arr (h : kd o = (0, n)) : ce ad cI cY m o = .inl (cI, (n, .inl fun j => Int32.ofInt (m o j))) := by
  unfold ce
  rw [h]
theorem ce_ref (h : kd o = (1, n)) : ce ad cI cY m o = .inl (cY, (n, .inr (.inr (.inr (.inr fun j => some (ad (24 + 8 * j))))))) := by
  unfold ce
  rw [h]
theorem ce_obj (h : kd o = (ci + 2, N)) : ce ad cI cY m o = .inr (ci, (List.range N).map (fv ad m o ci)) := by
  unfold ce
  rw [h]
theorem wl_arr (h : kd o = (0, n)) : (wl ad cI cY m)[o]? = some (ad o, .inl (cI, (n, .inl fun j => Int32.ofInt (m o j)))) := by
  rw [wl_get (kd_lt h (by decide)), ce_arr h]
theorem wl_ref (h : kd o = (1, n)) : (wl ad cI cY m)[o]? = some (ad o, .inl (cY, (n, .inr (.inr (.inr (.inr fun j => some (ad (24 + 8 * j)))))))) := by
  rw [wl_get (kd_lt h (by decide)), ce_ref h]
theorem wl_obj (h : kd o = (ci + 2, N)) (hci : ci < 5) : (wl ad cI cY m)[o]? = some (ad o, .inr (ci, (List.range N).map (fv ad m o ci))) := by
  rw [wl_get (kd_lt h (by omega)), ce_obj h]
def zz_fd (own : String) (idx ci k N : Nat) : Prop := ∃ (C : String) (T : u_T), zz_cl[ci]? = some (C, T, N) ∧ k < N ∧ (Cond.fieldLink own idx C (T k).2.1 (T k).2.2.1 ∈ zz_T ∨ ∃ host, Cond.fieldLinkNest own idx C (T k).2.1 (T k).2.2.1 host ∈ zz_T)
/-- what the tables say of each class's fields -/
def zz_fits (ci : Nat) (T : u_T) (ty : Nat → FieldType) (k : Nat) : Bool := (ft ci k == 2) || ((T k).2.2.2 == false && ((ft ci k == 0 && ty k == .int) || (ft ci k == 1 && ty k == .boolean) || (ft ci k == 3 && ty k == .array .int)))
theorem zz_cls {ci N : Nat} {C : String} {T : u_T} (h : zz_cl[ci]? = some (C, T, N)) : ci < 5 ∧ (∀ w ∈ u_ws C T N, w ∈ zz_T) ∧ (∃ ty : Nat → FieldType, (∀ k, k < N → parseFieldDescriptor (T k).2.2.1 = some (ty k)) ∧ ∀ k, k < N → zz_fits ci T ty k = true) ∧
    (∀ a, a < N → ∀ b, b < N → a ≠ b → (T a).2.1 ≠ (T b).2.1) ∧ ∀ k, k < N → (T k).1 = C := by
  match ci, h with
  | 0, h => cases h; exact ⟨by decide, by decide +kernel, ⟨tyX0, tyX0_ok, by decide +kernel⟩, nmX0, by decide +kernel⟩
  | 1, h => cases h; exact ⟨by decide, by decide +kernel, ⟨tyX1, tyX1_ok, by decide +kernel⟩, nmX1, by decide +kernel⟩
  | 2, h => cases h; exact ⟨by decide, by decide +kernel, ⟨tyX2, tyX2_ok, by decide +kernel⟩, nmX2, by decide +kernel⟩
  | 3, h => cases h; exact ⟨by decide, by decide +kernel, ⟨tyX3, tyX3_ok, by decide +kernel⟩, nmX3, by decide +kernel⟩
  | 4, h => cases h; exact ⟨by decide, by decide +kernel, ⟨tyX4, tyX4_ok, by decide +kernel⟩, nmX4, by decide +kernel⟩
  | k + 5, h => simp [zz_cl] at h
/-- a field is read -/
theorem x_getG {w : zz_V} (hd : decode cc pc = .ok (.getfield idx, 3)) (hf : zz_fd own idx ci k N) (hk : kd o = (ci + 2, N)) (hw : okm m → okv w) (he : ∀ ad, fv ad m o ci k = gv ad w) (kk : Ex E cc nL own d Q (pc + 3) L (w :: S) m) : Ex E cc nL own d Q pc L (zr o :: S) m := by
  refine ex_st (fun _ hS hm => ok_cons (hw hm) (ok_tl hS)) (fun p l e R s mi args below meth c A D cI cY ad cells slots Qs H locs ls hC hL hS hm hP hV hl kq => ?_) kk
  obtain ⟨C, T, hcl, hkN, hlink⟩ := hf
  obtain ⟨hci, hin, -, -, hdec⟩ := zz_cls hcl
  have he0 := wl_obj (ad := ad) (cI := cI) (cY := cY) (m := m) hk hci
  have hv : ((List.range N).map (fv ad m o ci))[k]? = some (gv ad w) := by
    rw [List.getElem?_map, List.getElem?_range hkN, ← he ad]
    rfl
  have hs : ∀ x, s.fieldFound? (T k).1 (T k).2.1 (T k).2.2.1 = some x → s.fieldFound? C (T k).2.1 (T k).2.2.1 = some x := by
    rw [hdec k hkN]
    exact fun _ h => h
  rcases hlink with h | ⟨host, h⟩
  · exact va_get hC.1.1 hC.1.2.1 hC.1.2.2.2.2 hin hC.1.2.2.2.1 hC.2.1 hP o he0 hcl k hkN (hC.1.2.2.2.2 _ h) hs hv hd kq
  · exact va_getN hC.1.1 hC.1.2.1 hC.1.2.2.2.2 hin hC.1.2.2.2.1 hC.2.1 hP o he0 hcl k hkN (hC.1.2.2.2.2 _ h) hs hv hd kq
theorem x_getI (hd : decode cc pc = .ok (.getfield idx, 3)) (hf : zz_fd own idx ci k N) (hk : kd o = (ci + 2, N)) (ht : ft ci k = 0 ∨ ft ci k = 1) (hv : m o k = v) (kk : Ex E cc nL own d Q (pc + 3) L (zi v :: S) m) : Ex E cc nL own d Q pc L (zr o :: S) m := by
  subst hv
  refine x_getG (w := zi (m o k)) hd hf hk (fun hm => hm o k) (fun ad => ?_) kk
  unfold fv
  rcases ht with h | h <;> rw [h] <;> rfl
theorem x_getR {q : Nat} (hd : decode cc pc = .ok (.getfield idx, 3)) (hf : zz_fd own idx ci k N) (hk : kd o = (ci + 2, N)) (ht : ft ci k = 2) (hv : pt o k = q) (kk : Ex E cc nL own d Q (pc + 3) L (zr q :: S) m) : Ex E cc nL own d Q pc L (zr o :: S) m := by
  subst hv
  refine x_getG (w := zr (pt o k)) hd hf hk (fun hm => trivial) (fun ad => ?_) kk
  unfold fv
  rw [ht]
  rfl
theorem x_getD {q : Nat} (hd : decode cc pc = .ok (.getfield idx, 3)) (hf : zz_fd own idx ci k N) (hk : kd o = (ci + 2, N)) (ht : ft ci k = 3) (hv : m o k = (q : Int)) (kk : Ex E cc nL own d Q (pc + 3) L (zr q :: S) m) : Ex E cc nL own d Q pc L (zr o :: S) m := by
  refine x_getG (w := zr q) hd hf hk (fun hm => trivial) (fun ad => ?_) kk
  unfold fv
  rw [ht, hv]
  show (if (q : Int) < 0 then Value.null else .ref (ad (q : Int).toNat)) = _
  rw [if_neg (by omega)]
  rfl
/-- a field is written -/
theorem x_putG {w : zz_V} {z : Int} (hd : decode cc pc = .ok (.putfield idx, 3)) (hf : zz_fd own idx ci k N) (hk : kd o = (ci + 2, N)) (h2 : ft ci k ≠ 2) (hw : zz_in z ∨ okv w → zz_in z) (he : ∀ ad, fv ad (up m o k z) o ci k = gv ad w) (hn : ∀ ad ty, (ft ci k = 0 → ty = .int) → (ft ci k = 1 → ty = .boolean) → (ft ci k = 3 → ty = .array .int) → narrow ty (gv ad w) = gv ad w ∧ fits ty (gv ad w) = true) (kk : Ex E cc nL own d Q (pc + 3) L S (up m o k z)) : Ex E cc nL own d Q pc L (w :: zr o :: S) m := by
  intro p l e R s mi args below meth c A D cI cY ad cells slots Qs hC hK H locs ls hL hS hm hP hV hl
  obtain ⟨C, T, hcl, hkN, hlink⟩ := hf
  obtain ⟨hci, hin, ⟨ty, hty, hfit⟩, hnm, hdec⟩ := zz_cls hcl
  have he0 := wl_obj (ad := ad) (cI := cI) (cY := cY) (m := m) hk hci
  have hs : ∀ x, s.fieldFound? (T k).1 (T k).2.1 (T k).2.2.1 = some x → s.fieldFound? C (T k).2.1 (T k).2.2.1 = some x := by
    rw [hdec k hkN]
    exact fun _ h => h
  have hf1 := hfit k hkN
  have hfin : (T k).2.2.2 = false := by
    unfold zz_fits at hf1
    simp only [Bool.or_eq_true, Bool.and_eq_true, beq_iff_eq] at hf1
    rcases hf1 with h | h
    · exact absurd h h2
    · exact h.1
  have htys : (ft ci k = 0 → ty k = .int) ∧ (ft ci k = 1 → ty k = .boolean) ∧ (ft ci k = 3 → ty k = .array .int) := by
    unfold zz_fits at hf1
    simp only [Bool.or_eq_true, Bool.and_eq_true, beq_iff_eq] at hf1
    refine ⟨fun h => ?_, fun h => ?_, fun h => ?_⟩ <;> rw [h] at hf1 <;> simp at hf1 <;> exact hf1.2
  obtain ⟨hna, hfi⟩ := hn ad (ty k) htys.1 htys.2.1 htys.2.2
  have hset : (wl ad cI cY m).set o (ad o, .inr (ci, ((List.range N).map (fv ad m o ci)).set k (gv ad w))) = wl ad cI cY (up m o k z) := by
    refine wl_set (fun k' h => up_cell h) ?_
    rw [ce_obj hk]
    congr 2
    apply List.ext_getElem?
    intro i
    by_cases hi : i < N
    · by_cases hik : i = k
      · subst hik
        rw [List.getElem?_set_self (by simpa using hi), List.getElem?_map, List.getElem?_range hi]
        show some _ = _
        rw [← he ad]
      · rw [List.getElem?_set_ne (Ne.symm hik), List.getElem?_map, List.getElem?_map, List.getElem?_range hi]
        show some _ = some _
        congr 1
        unfold fv
        rw [show up m o k z o i = m o i from if_neg (fun q => hik q.2)]
    · rw [List.getElem?_eq_none (by simp; omega), List.getElem?_eq_none (by simp; omega)]
  have hzi : zz_in z := hw (Or.inr (ok_hd hS))
  have go : ∀ (H1 : Heap) (locs1 : List Loc), va_P D zz_cl ((wl ad cI cY m).set o (ad o, .inr (ci, ((List.range N).map (fv ad m o ci)).set k (gv ad w)))) H1 → va_D A ((wl ad cI cY m).set o (ad o, .inr (ci, ((List.range N).map (fv ad m o ci)).set k (gv ad w)))) → va_S A s.heap H1 locs1 → W p l e R s mi args below meth c H1 locs1 cells slots Qs (F0 mi (pc + 3) ls (S.map (gv ad))) := by
    intro H1 locs1 hP1 _ hV1
    rw [hset] at hP1
    exact kk p l e R s mi args below meth c A D cI cY ad cells slots Qs hC hK H1 locs1 ls hL (ok_tl (ok_tl hS)) (up_ok hm hzi) hP1 hV1 hl
  rcases hlink with h | ⟨host, h⟩
  · exact va_put hC.1.1 hC.1.2.1 hC.1.2.2.2.2 hin ty hty hnm hC.1.2.2.2.1 hC.2.1 hP (wl_D hC.2.2.2.2.1) hV o he0 hcl k hkN (hC.1.2.2.2.2 _ h) hs hfin (hty k hkN) hna hfi (by simpa using hkN) hd go
  · exact va_putN hC.1.1 hC.1.2.1 hC.1.2.2.2.2 hin ty hty hnm hC.1.2.2.2.1 hC.2.1 hP (wl_D hC.2.2.2.2.1) hV o he0 hcl k hkN (hC.1.2.2.2.2 _ h) hs hfin (hty k hkN) hna hfi (by simpa using hkN) hd go
theorem x_putI (hd : decode cc pc = .ok (.putfield idx, 3)) (hf : zz_fd own idx ci k N) (hk : kd o = (ci + 2, N)) (ht : ft ci k = 0) (kk : Ex E cc nL own d Q (pc + 3) L S (up m o k z)) : Ex E cc nL own d Q pc L (zi z :: zr o :: S) m := by
  refine x_putG (z := z) hd hf hk (by rw [ht]; decide) (fun h => h.elim id id) (fun ad => ?_) (fun ad ty h0 _ _ => ?_) kk
  · unfold fv
    rw [ht, up_same]
    rfl
  · rw [h0 ht]
    exact ⟨rfl, rfl⟩
theorem x_putZ (hd : decode cc pc = .ok (.putfield idx, 3)) (hf : zz_fd own idx ci k N) (hk : kd o = (ci + 2, N)) (ht : ft ci k = 1) (hz : z = 0 ∨ z = 1) (kk : Ex E cc nL own d Q (pc + 3) L S (up m o k z)) : Ex E cc nL own d Q pc L (zi z :: zr o :: S) m := by
  refine x_putG (z := z) hd hf hk (by rw [ht]; decide) (fun h => h.elim id id) (fun ad => ?_) (fun ad ty _ h1 _ => ?_) kk
  · unfold fv
    rw [ht, up_same]
    rfl
  · rw [h1 ht]
    rcases hz with rfl | rfl
    · exact ⟨(by decide +kernel : narrow .boolean (.int (Int32.ofInt 0)) = .int (Int32.ofInt 0)), (by decide +kernel : fits .boolean (.int (Int32.ofInt 0)) = true)⟩
    · exact ⟨(by decide +kernel : narrow .boolean (.int (Int32.ofInt 1)) = .int (Int32.ofInt 1)), (by decide +kernel : fits .boolean (.int (Int32.ofInt 1)) = true)⟩
theorem x_putD {q : Nat} (hd : decode cc pc = .ok (.putfield idx, 3)) (hf : zz_fd own idx ci k N) (hk : kd o = (ci + 2, N)) (ht : ft ci k = 3) (hq : kd q = (0, n)) (kk : Ex E cc nL own d Q (pc + 3) L S (up m o k (q : Int))) : Ex E cc nL own d Q pc L (zr q :: zr o :: S) m := by
  have hq77 : q < 77 := kd_lt hq (by decide)
  refine x_putG (z := (q : Int)) hd hf hk (by rw [ht]; decide) (fun _ => ⟨by omega, by omega⟩) (fun ad => ?_) (fun ad ty _ _ h3 => ?_) kk
  · unfold fv
    rw [ht, up_same]
    show (if (q : Int) < 0 then Value.null else .ref (ad (q : Int).toNat)) = _
    rw [if_neg (by omega)]
    rfl
  · rw [h3 ht]
    exact ⟨rfl, rfl⟩
-- arrays
theorem i32_idx {z : Int} (hz : zz_in z) (h0 : 0 ≤ z) : (Int32.ofInt z).toNatClampNeg = z.toNat := by
  show (Int32.ofInt z).toInt.toNat = _
  rw [i32_of hz]
theorem i32_bd {z : Int} {n : Nat} (hz : zz_in z) (h0 : 0 ≤ z) (h1 : z < n) : vp_in (Int32.ofInt z) n := by
  rintro (h | h)
  · have := (i32_lt hz (b := 0) ⟨by decide, by decide⟩).mp h
    omega
  · rw [i32_idx hz h0] at h
    omega
theorem x_iald (hd : decode cc pc = .ok (.iaload, 1)) (hk : kd k = (0, n)) (h0 : 0 ≤ z) (h1 : z < n) (hv : m k z.toNat = v) (kk : Ex E cc nL own d Q (pc + 1) L (zi v :: S) m) : Ex E cc nL own d Q pc L (zi z :: zr k :: S) m := by
  subst hv
  refine ex_st (fun _ hS hm => ok_cons (v := zi _) (hm k _) (ok_tl (ok_tl hS))) (fun p l e R s mi args below meth c A D cI cY ad cells slots Qs H locs ls hC hL hS hm hP hV hl kq => ?_) kk
  have hz : zz_in z := ok_hd hS
  refine va_iald hC.1.1 hC.1.2.1 hC.2.1 hP k 0 (wl_arr hk) rfl (i32_bd hz h0 h1) hd ?_
  rw [i32_idx hz h0]
  exact kq
theorem x_iast {x : Int} (hd : decode cc pc = .ok (.iastore, 1)) (hk : kd k = (0, n)) (h0 : 0 ≤ z) (h1 : z < n) (kk : Ex E cc nL own d Q (pc + 1) L S (up m k z.toNat x)) : Ex E cc nL own d Q pc L (zi x :: zi z :: zr k :: S) m := by
  intro p l e R s mi args below meth c A D cI cY ad cells slots Qs hC hK H locs ls hL hS hm hP hV hl
  have hz : zz_in z := ok_hd (ok_tl hS)
  have hset : (wl ad cI cY m).set k (ad k, .inl (cI, (n, .inl (upd (fun j => Int32.ofInt (m k j)) (Int32.ofInt z).toNatClampNeg (Int32.ofInt x))))) = wl ad cI cY (up m k z.toNat x) := by
    refine wl_set (fun k' h => up_cell h) ?_
    rw [ce_arr hk, i32_idx hz h0]
    congr 4
    funext j
    unfold upd up
    by_cases hj : j = z.toNat
    · rw [if_pos ⟨rfl, hj⟩, if_pos hj]
    · rw [if_neg (fun q => hj q.2), if_neg hj]
  refine va_iast hC.1.1 hC.1.2.1 hC.2.1 hP (wl_D hC.2.2.2.2.1) hV k 0 (wl_arr hk) rfl (i32_bd hz h0 h1) hd (fun H1 locs1 hP1 _ hV1 => ?_)
  rw [hset] at hP1
  exact kk p l e R s mi args below meth c A D cI cY ad cells slots Qs hC hK H1 locs1 ls hL (ok_tl (ok_tl (ok_tl hS))) (up_ok hm (ok_hd hS)) hP1 hV1 hl
theorem x_aald (hd : decode cc pc = .ok (.aaload, 1)) (hk : kd k = (1, n)) (h0 : 0 ≤ z) (h1 : z < n) {q : Nat} (hv : 24 + 8 * z.toNat = q) (kk : Ex E cc nL own d Q (pc + 1) L (zr q :: S) m) : Ex E cc nL own d Q pc L (zi z :: zr k :: S) m := by
  subst hv
  refine ex_st (fun _ hS hm => ok_cons (v := zr _) trivial (ok_tl (ok_tl hS))) (fun p l e R s mi args below meth c A D cI cY ad cells slots Qs H locs ls hC hL hS hm hP hV hl kq => ?_) kk
  have hz : zz_in z := ok_hd hS
  refine va_aldq hC.1.1 hC.1.2.1 hC.2.1 hP k 1 (wl_ref hk) rfl (i32_bd hz h0 h1) hd ?_
  rw [i32_idx hz h0]
  exact kq
theorem x_alen (hd : decode cc pc = .ok (.arraylength, 1)) (hk : kd k = (0, n) ∨ kd k = (1, n)) (hn : n < 1000) (kk : Ex E cc nL own d Q (pc + 1) L (zi (n : Int) :: S) m) : Ex E cc nL own d Q pc L (zr k :: S) m := by
  refine ex_st (fun _ hS hm => ok_cons (v := zi _) (show zz_in (n : Int) from ⟨by omega, by omega⟩) (ok_tl hS)) (fun p l e R s mi args below meth c A D cI cY ad cells slots Qs H locs ls hC hL hS hm hP hV hl kq => ?_) kk
  have e0 : Int32.ofNat n = Int32.ofInt (n : Int) := (Int32.ofInt_eq_ofNat).symm
  rcases hk with hk | hk
  · exact va_alen hC.1.1 hC.1.2.1 hC.2.1 hP k 0 (wl_arr hk) rfl e0 hd kq
  · exact va_alen hC.1.1 hC.1.2.1 hC.2.1 hP k 1 (wl_ref hk) rfl e0 hd kq
theorem x_rald (hd : decode cc pc = .ok (.iaload, 1)) (hk : 77 ≤ k ∧ k < 80) (h0 : 0 ≤ z) (h1 : z < rn E k) (hv : ro E k z.toNat = v) (kk : Ex E cc nL own d Q (pc + 1) L (zi v :: S) m) : Ex E cc nL own d Q pc L (zi z :: zr k :: S) m := by
  subst hv
  intro p l e R s mi args below meth c A D cI cY ad cells slots Qs hC hK H locs ls hL hS hm hP hV hl
  have hz : zz_in z := ok_hd hS
  obtain ⟨cell, g1, g2, g3, g4, g5, g6, g7⟩ := hC.2.2.1.1 k hk.1 hk.2
  have hlt : z.toNat < rn E k := by omega
  refine W.iald (v := .int (Int32.ofInt (ro E k z.toNat))) hC.1.1 hC.1.2.1 (a := ad k) (cell := cell) (j := Int32.ofInt z) (by rw [hV.2.1 (ad k) (Array.getElem?_eq_some_iff.mp g1).1 g7]; exact g1) g2 g3 ?_ (by rw [i32_idx hz h0]; exact g6 _ hlt) rfl rfl hd ?_
  · have hb := i32_bd hz h0 (show z < ((rn E k : Nat) : Int) from h1)
    rintro (h | h)
    · exact hb (Or.inl h)
    · exact hb (Or.inr (Nat.le_trans g4 h))
  · exact kk p l e R s mi args below meth c A D cI cY ad cells slots Qs hC hK H locs ls hL (ok_cons (v := zi _) (ro_in hC.2.2.2.1 hlt) (ok_tl (ok_tl hS))) hm hP hV hl
theorem x_ralen (hd : decode cc pc = .ok (.arraylength, 1)) (hk : 77 ≤ k ∧ k < 80) (kk : Ex E cc nL own d Q (pc + 1) L (zi (rn E k : Int) :: S) m) : Ex E cc nL own d Q pc L (zr k :: S) m := by
  intro p l e R s mi args below meth c A D cI cY ad cells slots Qs hC hK H locs ls hL hS hm hP hV hl
  obtain ⟨cell, g1, g2, g3, g4, g5, g6, g7⟩ := hC.2.2.1.1 k hk.1 hk.2
  have hn : rn E k ≤ 2048 := by
    unfold rn
    split
    · exact hC.2.2.2.1.1
    · omega
  have e0 : Int32.ofNat (rn E k) = Int32.ofInt (rn E k : Int) := (Int32.ofInt_eq_ofNat).symm
  refine W.alen (n := Int32.ofInt (rn E k : Int)) hC.1.1 hC.1.2.1 (a := ad k) (cell := cell) (by rw [hV.2.1 (ad k) (Array.getElem?_eq_some_iff.mp g1).1 g7]; exact g1) g2 (by rw [g5, e0]) rfl rfl hd ?_
  exact kk p l e R s mi args below meth c A D cI cY ad cells slots Qs hC hK H locs ls hL (ok_cons (v := zi _) (show zz_in (rn E k : Int) from ⟨by omega, by omega⟩) (ok_tl hS)) hm hP hV hl
/-- the two static arrays: 77 LEAST, 78 GREATEST -/
def zz_st (own : String) (idx q : Nat) : Prop := ∃ n : String, ((q = 77 ∧ n = "LEAST") ∨ (q = 78 ∧ n = "GREATEST")) ∧ (Cond.fieldLink own idx "NobodyLookedYesterday" n "[I" ∈ zz_T ∨ ∃ host, Cond.fieldLinkNest own idx "NobodyLookedYesterday" n "[I" host ∈ zz_T)
theorem x_gets {q : Nat} (hd : decode cc pc = .ok (.getstatic idx, 3)) (hf : zz_st own idx q) (kk : Ex E cc nL own d Q (pc + 3) L (zr q :: S) m) : Ex E cc nL own d Q pc L S m := by
  refine ex_st (fun _ hS hm => ok_cons (v := zr _) trivial hS) (fun p l e R s mi args below meth c A D cI cY ad cells slots Qs H locs ls hC hL hS hm hP hV hl kq => ?_) kk
  obtain ⟨n, hq, hl1⟩ := hf
  have hZ : va_Z "NobodyLookedYesterday" n "[I" (.ref (ad q)) A s s.heap := by
    rcases hq with ⟨rfl, rfl⟩ | ⟨rfl, rfl⟩
    · exact hC.2.2.1.2.1
    · exact hC.2.2.1.2.2
  rcases hl1 with h | ⟨host, h⟩
  · exact va_gets hC.1.1 hC.1.2.1 hZ hV hC.1.2.2.2.1 (hC.1.2.2.2.2 _ h) (fun _ h => h) hd kq
  · exact va_getsN hC.1.1 hC.1.2.1 hZ hV hC.1.2.2.2.1 (hC.1.2.2.2.2 _ h) (fun _ h => h) hd kq
end EXM
end
section
/-! ===== calls ===== -/
theorem zz_Pc_blind {E : zz_E} {A : Nat → Prop} {D : va_G} {cI cY : ClassId} {ad : Nat → Nat} {as : List zz_V} {m : zz_M} : FrameBlind (zz_Pc E A D cI cY ad as m) :=
  fun a U g mk h => ⟨h.1, h.2.1, va_K.moved (u := U) (U := U.calling g mk a) (Vm.Alike.refl U.vm) h.2.2.1, zz_Ro.moved (u := U) (U := U.calling g mk a) (Vm.Alike.refl U.vm) h.2.2.2.1, zz_N.same (u := U) (U := U.calling g mk a) rfl h.2.2.2.2⟩
def catsum (ad : Nat → Nat) (S : List zz_V) : Nat := ((S.map (gv ad)).map fun v => v.category).sum
def cat8 : List zz_V → Nat
  | [] => 0
  | .inr (.inl _) :: S => 2 + cat8 S
  | _ :: S => 1 + cat8 S
theorem catsum_eq (ad : Nat → Nat) : ∀ S : List zz_V, catsum ad S = cat8 S
  | [] => rfl
  | .inl z :: S => by
    have h := catsum_eq ad S
    unfold catsum at h ⊢
    rw [List.map_cons, List.map_cons, List.sum_cons, h]
    rfl
  | .inr (.inl z) :: S => by
    have h := catsum_eq ad S
    unfold catsum at h ⊢
    rw [List.map_cons, List.map_cons, List.sum_cons, h]
    rfl
  | .inr (.inr z) :: S => by
    have h := catsum_eq ad S
    unfold catsum at h ⊢
    rw [List.map_cons, List.map_cons, List.sum_cons, h]
    rfl
section EXK
variable {E : zz_E} {cc : ByteArray} {nL : Nat} {own : String} {d : Nat} {Q Q' : Option zz_V → zz_M → Prop} {pc tgt : Nat} {L : List (Option zz_V)} {S : List zz_V} {m : zz_M} {z v : Int} {o k n idx ci N d' : Nat}
variable {p : Program} {l : Launch} {e : Env} {R : Room} {s : State} {mi : MethodId} {args : Array Value} {below : List Frame} {meth : Method} {c : Code} {A : Nat → Prop} {D : va_G} {cI cY : ClassId} {ad : Nat → Nat} {cells slots : Nat} {Qs : State → Prop} {H : Heap} {locs : List Loc} {ls : Array Slot}
theorem ex_run {st0 : List Value} {as : Array Value} {pc' : Nat} (hr : va_Run p l e R s mi args below meth c H locs cells slots 0 0 (F0 mi pc ls st0) (S.map (gv ad)) (zz_Qc E A D cI cY ad Q' as) A) (hV : va_S A s.heap H locs)
    (kk : ∀ (r : Option zz_V) (m' : zz_M) (H' : Heap) (locs' : List Loc), Q' r m' → (∀ v, r = some v → okv v) → okm m' → va_P D zz_cl (wl ad cI cY m') H' → va_S A s.heap H' locs' → W p l e R s mi args below meth c H' locs' cells slots Qs (F0 mi (pc + 3) ls ((r.toList ++ S).map (gv ad)))) :
    W p l e R s mi args below meth c H locs cells slots Qs (F0 mi pc ls st0) := by
  intro T hT X
  obtain ⟨v, st₀, t, T', Lc, h0, X', hL, e1, e2, ⟨⟨r, m', hv, hq, hok, hom, hP⟩, hz, hk⟩, st⟩ := hr T hT X
  cases hv
  rw [h0] at hz hk
  obtain ⟨t2, a1, b1⟩ := kk r m' t.heap (locs ++ Lc) hq hok hom hP
    ⟨Nat.le_trans hV.1 hz, fun q h1 h2 => by rw [hk q (Nat.lt_of_lt_of_le h1 hV.1) h2]; exact hV.2.1 q h1 h2, fun q hq => by
      rcases List.mem_append.mp hq with h | h
      · exact hV.2.2 q h
      · exact hL q h⟩ T' e1 X'
  refine ⟨t2, st t2 ?_, b1⟩
  cases r <;> exact a1
/-- a call's words: 'true' of a virtual one -/
def zz_cv (own : String) (idx : Nat) (y : MethodName) (cc' : ByteArray) (nL' : Nat) (ret' : Option FieldType) (n : Nat) : Prop :=
  Cond.methodLink own idx y ∈ zz_T ∧ Cond.initialized y.cls ∈ zz_T ∧ Cond.code y cc' nL' ret' ∈ zz_G ∧ (y.cls ≠ "java/lang/invoke/MethodHandle" ∧ y.cls ≠ "java/lang/invoke/VarHandle") ∧ (parseMethodDescriptor y.desc).map (fun d => d.parameters.length) = some n ∧ nL' ≤ 40
theorem ex_cb {y : MethodName} {cc' : ByteArray} {nL' : Nat} {ret' : Option FieldType} (hw : zz_cv own idx y cc' nL' ret' n) (hd' : d' + 1 ≤ d) (hC : zz_C E p R s mi args meth c cc nL own A D cI cY ad d cells slots) : CallB R s args own idx y cc' nL' ret' (.code y cc' nL' ret' :: zz_G) (zz_rm d') 0 0 n := by
  obtain ⟨h1, h2, h3, h4, h5, h6⟩ := hw
  obtain ⟨⟨hx, hb, hml, hown, hts⟩, -, -, -, -, hR1, hR2, -, -⟩ := hC
  refine callB_of n hts (fun w hw => ?_) rfl rfl rfl (hts _ h2) (hts _ h1) ⟨h4.1, h4.2, h5⟩ ⟨?_, ?_⟩
  · rcases List.mem_cons.mp hw with rfl | h
    · exact ⟨zz_G_T h3, zz_G_good _ h3⟩
    · exact ⟨zz_G_T h, zz_G_good _ h⟩
  · show d' + 1 ≤ R.frames
    omega
  · show 8 + (nL' + 11) + 128 * d' ≤ R.locals
    omega
theorem ex_pre {as : List zz_V} (hC : zz_C E p R s mi args meth c cc nL own A D cI cY ad d cells slots) (hP : va_P D zz_cl (wl ad cI cY m) H) (hV : va_S A s.heap H locs) {U : State} (hU : U.heap = H) (hW : s.WarmedH U.vm) : zz_Pc E A D cI cY ad as m (as.map (gv ad)).toArray U := by
  refine ⟨rfl, by rw [hU]; exact hP, va_K.moved hW.alike hC.2.1, ?_, (zz_N.of hC.1.2.2.2.2).warm hW⟩
  exact (hC.2.2.1.moved hW.alike).kept (fun a h1 h2 => by rw [hU]; exact hV.2.1 a h1 h2)
theorem x_callvG {y : MethodName} {cc' : ByteArray} {nL' : Nat} {ret' : Option FieldType} {As : List zz_V} {T : u_T} {S0 : List zz_V} (hd : decode cc pc = .ok (.invokevirtual idx, 3)) (hw : zz_cv own idx y cc' nL' ret' n) (hi : Cond.instanceMethod y ∈ zz_T ∧ Cond.selects y.cls y y ∈ zz_T) (hn : As.length = n)
    (hk : kd o = (ci + 2, N)) (hcl : zz_cl[ci]? = some (y.cls, T, N)) (hd' : d' + 1 ≤ d) (hS8 : cat8 S ≤ 8) (hS0 : S0 = As.reverse ++ zr o :: S) (hM : Mt E d' y cc' nL' ret' (zr o :: As) m Q') (kk : ∀ r m', Q' r m' → Ex E cc nL own d Q (pc + 3) L (r.toList ++ S) m') : Ex E cc nL own d Q pc L S0 m := by
  subst hS0
  intro p l e R s mi args below meth c A D cI cY ad cells slots Qs hC hK H locs ls hL hS hm hP hV hl
  have hci := (zz_cls hcl).1
  have hokA : ∀ v ∈ zr o :: As, okv v := by
    intro v hv
    rcases List.mem_cons.mp hv with rfl | h
    · trivial
    · exact hS v (List.mem_append_left _ (List.mem_reverse.mpr h))
  have hokS : ∀ v ∈ S, okv v := fun v hv => hS v (List.mem_append_right _ (List.mem_cons_of_mem _ hv))
  have hMm := hM hC.2.2.2.1 hokA hm l A D cI cY ad hC.2.2.2.2.1
  have he := wl_obj (ad := ad) (cI := cI) (cY := cY) (m := m) hk hci
  have hr : va_Run p l e R s mi args below meth c H locs cells slots 0 0 (F0 mi pc ls ((As.reverse ++ zr o :: S).map (gv ad))) (S.map (gv ad)) (zz_Qc E A D cI cY ad Q' (Value.ref (ad o) :: As.map (gv ad)).toArray) A := by
    refine va_runV (As := As.map (gv ad)) (C := y.cls) (Ts := zz_T) ⟨hC.1.1, hC.1.2.1, hC.1.2.2.1, hC.1.2.2.2.1, hC.1.2.2.2.2⟩ hMm ⟨ex_cb hw hd' hC, hC.1.2.2.2.2 _ hi.1, hC.1.2.2.2.2 _ hi.2⟩ ⟨zz_Pc_blind, va_recv hC.2.1 hP hcl he, fun U hU hW => ex_pre (as := zr o :: As) hC hP hV hU hW⟩ rfl (by simpa using hn) hl.1 ?_ ?_ hd ⟨by have := hC.2.2.2.2.2.2.2.1; omega, by have := hC.2.2.2.2.2.2.2.2; omega⟩
    · show (As.reverse ++ zr o :: S).map (gv ad) = _
      rw [List.map_append, List.map_reverse, List.map_cons]
      rfl
    · show 2 * 0 + _ ≤ 8
      have := catsum_eq ad S
      unfold catsum at this
      omega
  refine ex_run (pc' := pc) hr hV (fun r m' H' locs' hq hok hom hP' hV' => ?_)
  exact kk r m' hq p l e R s mi args below meth c A D cI cY ad cells slots Qs hC hK H' locs' ls hL (fun v hv => by
    rcases List.mem_append.mp hv with h | h
    · exact hok v (Option.mem_toList.mp h)
    · exact hokS v h) hom hP' hV' hl
theorem x_callsG {y : MethodName} {cc' : ByteArray} {nL' : Nat} {ret' : Option FieldType} {As : List zz_V} {S0 : List zz_V} (hd : decode cc pc = .ok (.invokestatic idx, 3)) (hw : zz_cv own idx y cc' nL' ret' n) (hi : Cond.static y ∈ zz_T) (hn : As.length = n)
    (hd' : d' + 1 ≤ d) (hS8 : cat8 S ≤ 8) (hS0 : S0 = As.reverse ++ S) (hM : Mt E d' y cc' nL' ret' As m Q') (kk : ∀ r m', Q' r m' → Ex E cc nL own d Q (pc + 3) L (r.toList ++ S) m') : Ex E cc nL own d Q pc L S0 m := by
  subst hS0
  intro p l e R s mi args below meth c A D cI cY ad cells slots Qs hC hK H locs ls hL hS hm hP hV hl
  have hokA : ∀ v ∈ As, okv v := fun v h => hS v (List.mem_append_left _ (List.mem_reverse.mpr h))
  have hokS : ∀ v ∈ S, okv v := fun v hv => hS v (List.mem_append_right _ hv)
  have hMm := hM hC.2.2.2.1 hokA hm l A D cI cY ad hC.2.2.2.2.1
  have hr : va_Run p l e R s mi args below meth c H locs cells slots 0 0 (F0 mi pc ls ((As.reverse ++ S).map (gv ad))) (S.map (gv ad)) (zz_Qc E A D cI cY ad Q' (As.map (gv ad)).toArray) A := by
    refine va_runS (As := As.map (gv ad)) (Ts := zz_T) ⟨hC.1.1, hC.1.2.1, hC.1.2.2.1, hC.1.2.2.2.1, hC.1.2.2.2.2⟩ hMm ⟨ex_cb hw hd' hC, hC.1.2.2.2.2 _ hi⟩ ⟨zz_Pc_blind, fun U hU hW => ex_pre hC hP hV hU hW⟩ rfl (by simpa using hn) hl.1 ?_ ?_ hd ⟨by have := hC.2.2.2.2.2.2.2.1; omega, by have := hC.2.2.2.2.2.2.2.2; omega⟩
    · show (As.reverse ++ S).map (gv ad) = _
      rw [List.map_append, List.map_reverse]
    · show 2 * 0 + _ ≤ 8
      have := catsum_eq ad S
      unfold catsum at this
      omega
  refine ex_run (pc' := pc) hr hV (fun r m' H' locs' hq hok hom hP' hV' => ?_)
  exact kk r m' hq p l e R s mi args below meth c A D cI cY ad cells slots Qs hC hK H' locs' ls hL (fun v hv => by
    rcases List.mem_append.mp hv with h | h
    · exact hok v (Option.mem_toList.mp h)
    · exact hokS v h) hom hP' hV' hl
theorem x_callv0 {y : MethodName} {cc' : ByteArray} {nL' : Nat} {ret' : Option FieldType} {T : u_T} (hd : decode cc pc = .ok (.invokevirtual idx, 3)) (hw : zz_cv own idx y cc' nL' ret' 0) (hi : Cond.instanceMethod y ∈ zz_T ∧ Cond.selects y.cls y y ∈ zz_T)
    (hk : kd o = (ci + 2, N)) (hcl : zz_cl[ci]? = some (y.cls, T, N)) (hd' : d' + 1 ≤ d) (hS8 : cat8 S ≤ 8) (hM : Mt E d' y cc' nL' ret' [zr o] m Q') (kk : ∀ r m', Q' r m' → Ex E cc nL own d Q (pc + 3) L (r.toList ++ S) m') : Ex E cc nL own d Q pc L (zr o :: S) m :=
  x_callvG (As := []) hd hw hi rfl hk hcl hd' hS8 rfl hM kk
theorem x_calls0 {y : MethodName} {cc' : ByteArray} {nL' : Nat} {ret' : Option FieldType} (hd : decode cc pc = .ok (.invokestatic idx, 3)) (hw : zz_cv own idx y cc' nL' ret' 0) (hi : Cond.static y ∈ zz_T) (hd' : d' + 1 ≤ d) (hS8 : cat8 S ≤ 8) (hM : Mt E d' y cc' nL' ret' [] m Q') (kk : ∀ r m', Q' r m' → Ex E cc nL own d Q (pc + 3) L (r.toList ++ S) m') : Ex E cc nL own d Q pc L (S) m :=
  x_callsG (As := []) hd hw hi rfl hd' hS8 rfl hM kk
theorem x_callv1 {v0 : zz_V} {y : MethodName} {cc' : ByteArray} {nL' : Nat} {ret' : Option FieldType} {T : u_T} (hd : decode cc pc = .ok (.invokevirtual idx, 3)) (hw : zz_cv own idx y cc' nL' ret' 1) (hi : Cond.instanceMethod y ∈ zz_T ∧ Cond.selects y.cls y y ∈ zz_T)
    (hk : kd o = (ci + 2, N)) (hcl : zz_cl[ci]? = some (y.cls, T, N)) (hd' : d' + 1 ≤ d) (hS8 : cat8 S ≤ 8) (hM : Mt E d' y cc' nL' ret' [zr o, v0] m Q') (kk : ∀ r m', Q' r m' → Ex E cc nL own d Q (pc + 3) L (r.toList ++ S) m') : Ex E cc nL own d Q pc L (v0 :: zr o :: S) m :=
  x_callvG (As := [v0]) hd hw hi rfl hk hcl hd' hS8 rfl hM kk
theorem x_calls1 {v0 : zz_V} {y : MethodName} {cc' : ByteArray} {nL' : Nat} {ret' : Option FieldType} (hd : decode cc pc = .ok (.invokestatic idx, 3)) (hw : zz_cv own idx y cc' nL' ret' 1) (hi : Cond.static y ∈ zz_T) (hd' : d' + 1 ≤ d) (hS8 : cat8 S ≤ 8) (hM : Mt E d' y cc' nL' ret' [v0] m Q') (kk : ∀ r m', Q' r m' → Ex E cc nL own d Q (pc + 3) L (r.toList ++ S) m') : Ex E cc nL own d Q pc L (v0 :: S) m :=
  x_callsG (As := [v0]) hd hw hi rfl hd' hS8 rfl hM kk
theorem x_callv2 {v0 v1 : zz_V} {y : MethodName} {cc' : ByteArray} {nL' : Nat} {ret' : Option FieldType} {T : u_T} (hd : decode cc pc = .ok (.invokevirtual idx, 3)) (hw : zz_cv own idx y cc' nL' ret' 2) (hi : Cond.instanceMethod y ∈ zz_T ∧ Cond.selects y.cls y y ∈ zz_T)
    (hk : kd o = (ci + 2, N)) (hcl : zz_cl[ci]? = some (y.cls, T, N)) (hd' : d' + 1 ≤ d) (hS8 : cat8 S ≤ 8) (hM : Mt E d' y cc' nL' ret' [zr o, v0, v1] m Q') (kk : ∀ r m', Q' r m' → Ex E cc nL own d Q (pc + 3) L (r.toList ++ S) m') : Ex E cc nL own d Q pc L (v1 :: v0 :: zr o :: S) m :=
  x_callvG (As := [v0, v1]) hd hw hi rfl hk hcl hd' hS8 rfl hM kk
theorem x_calls2 {v0 v1 : zz_V} {y : MethodName} {cc' : ByteArray} {nL' : Nat} {ret' : Option FieldType} (hd : decode cc pc = .ok (.invokestatic idx, 3)) (hw : zz_cv own idx y cc' nL' ret' 2) (hi : Cond.static y ∈ zz_T) (hd' : d' + 1 ≤ d) (hS8 : cat8 S ≤ 8) (hM : Mt E d' y cc' nL' ret' [v0, v1] m Q') (kk : ∀ r m', Q' r m' → Ex E cc nL own d Q (pc + 3) L (r.toList ++ S) m') : Ex E cc nL own d Q pc L (v1 :: v0 :: S) m :=
  x_callsG (As := [v0, v1]) hd hw hi rfl hd' hS8 rfl hM kk
theorem x_callv3 {v0 v1 v2 : zz_V} {y : MethodName} {cc' : ByteArray} {nL' : Nat} {ret' : Option FieldType} {T : u_T} (hd : decode cc pc = .ok (.invokevirtual idx, 3)) (hw : zz_cv own idx y cc' nL' ret' 3) (hi : Cond.instanceMethod y ∈ zz_T ∧ Cond.selects y.cls y y ∈ zz_T)
    (hk : kd o = (ci + 2, N)) (hcl : zz_cl[ci]? = some (y.cls, T, N)) (hd' : d' + 1 ≤ d) (hS8 : cat8 S ≤ 8) (hM : Mt E d' y cc' nL' ret' [zr o, v0, v1, v2] m Q') (kk : ∀ r m', Q' r m' → Ex E cc nL own d Q (pc + 3) L (r.toList ++ S) m') : Ex E cc nL own d Q pc L (v2 :: v1 :: v0 :: zr o :: S) m :=
  x_callvG (As := [v0, v1, v2]) hd hw hi rfl hk hcl hd' hS8 rfl hM kk
theorem x_calls3 {v0 v1 v2 : zz_V} {y : MethodName} {cc' : ByteArray} {nL' : Nat} {ret' : Option FieldType} (hd : decode cc pc = .ok (.invokestatic idx, 3)) (hw : zz_cv own idx y cc' nL' ret' 3) (hi : Cond.static y ∈ zz_T) (hd' : d' + 1 ≤ d) (hS8 : cat8 S ≤ 8) (hM : Mt E d' y cc' nL' ret' [v0, v1, v2] m Q') (kk : ∀ r m', Q' r m' → Ex E cc nL own d Q (pc + 3) L (r.toList ++ S) m') : Ex E cc nL own d Q pc L (v2 :: v1 :: v0 :: S) m :=
  x_callsG (As := [v0, v1, v2]) hd hw hi rfl hd' hS8 rfl hM kk
theorem x_callv4 {v0 v1 v2 v3 : zz_V} {y : MethodName} {cc' : ByteArray} {nL' : Nat} {ret' : Option FieldType} {T : u_T} (hd : decode cc pc = .ok (.invokevirtual idx, 3)) (hw : zz_cv own idx y cc' nL' ret' 4) (hi : Cond.instanceMethod y ∈ zz_T ∧ Cond.selects y.cls y y ∈ zz_T)
    (hk : kd o = (ci + 2, N)) (hcl : zz_cl[ci]? = some (y.cls, T, N)) (hd' : d' + 1 ≤ d) (hS8 : cat8 S ≤ 8) (hM : Mt E d' y cc' nL' ret' [zr o, v0, v1, v2, v3] m Q') (kk : ∀ r m', Q' r m' → Ex E cc nL own d Q (pc + 3) L (r.toList ++ S) m') : Ex E cc nL own d Q pc L (v3 :: v2 :: v1 :: v0 :: zr o :: S) m :=
  x_callvG (As := [v0, v1, v2, v3]) hd hw hi rfl hk hcl hd' hS8 rfl hM kk
theorem x_calls4 {v0 v1 v2 v3 : zz_V} {y : MethodName} {cc' : ByteArray} {nL' : Nat} {ret' : Option FieldType} (hd : decode cc pc = .ok (.invokestatic idx, 3)) (hw : zz_cv own idx y cc' nL' ret' 4) (hi : Cond.static y ∈ zz_T) (hd' : d' + 1 ≤ d) (hS8 : cat8 S ≤ 8) (hM : Mt E d' y cc' nL' ret' [v0, v1, v2, v3] m Q') (kk : ∀ r m', Q' r m' → Ex E cc nL own d Q (pc + 3) L (r.toList ++ S) m') : Ex E cc nL own d Q pc L (v3 :: v2 :: v1 :: v0 :: S) m :=
  x_callsG (As := [v0, v1, v2, v3]) hd hw hi rfl hd' hS8 rfl hM kk
/-- Math.abs, Math.max -/
def zz_ma (own : String) (idx : Nat) : Prop := Cond.methodLink own idx Lib.Math.abs.name ∈ zz_T ∧ Cond.static Lib.Math.abs.name ∈ zz_T ∧ Cond.initialized "java/lang/Math" ∈ zz_T ∧ Cond.code Lib.Math.abs.name Lib.Math.abs.code 1 (some .int) ∈ zz_T
def zz_mx (own : String) (idx : Nat) : Prop := Cond.methodLink own idx Lib.Math.max.name ∈ zz_T ∧ Cond.static Lib.Math.max.name ∈ zz_T ∧ Cond.initialized "java/lang/Math" ∈ zz_T ∧ Cond.code Lib.Math.max.name Lib.Math.max.code 2 (some .int) ∈ zz_T
theorem x_abs {a : Int} (hd : decode cc pc = .ok (.invokestatic idx, 3)) (hw : zz_ma own idx) (hd' : 1 ≤ d) (hS8 : cat8 S ≤ 8) (hv : nrm (if 0 ≤ a then a else -a) = v) (kk : Ex E cc nL own d Q (pc + 3) L (zi v :: S) m) : Ex E cc nL own d Q pc L (zi a :: S) m := by
  subst hv
  refine ex_st (fun _ hS hm => ok_cons (v := zi _) (nrm_in _) (ok_tl hS)) (fun p l e R s mi args below meth c A D cI cY ad cells slots Qs H locs ls hC hL hS hm hP hV hl kq => ?_) kk
  have ha : zz_in a := ok_hd hS
  have hts := hC.1.2.2.2.2
  have h8 := catsum_eq ad S
  unfold catsum at h8
  have hR1 := hC.2.2.2.2.2.1
  have hR2 := hC.2.2.2.2.2.2.1
  refine va_mabs hC.1.1 hC.1.2.1 (hC.1.2.2.1.trans hl.1.symm) hC.1.2.2.2.1 (hts _ hw.1) (hts _ hw.2.1) (hts _ hw.2.2.1) (hts _ hw.2.2.2) (by omega) (by rw [h8]; omega) hC.2.2.2.2.2.2.2.1 hC.2.2.2.2.2.2.2.2 hd ?_
  have e0 : (if 0 ≤ Int32.ofInt a then Int32.ofInt a else 0 - Int32.ofInt a) = Int32.ofInt (nrm (if 0 ≤ a then a else -a)) := by
    rw [i32_nrm]
    have h : (0 : Int32) ≤ Int32.ofInt a ↔ 0 ≤ a := i32_le (a := 0) (b := a) ⟨by decide, by decide⟩ ha
    by_cases h0 : 0 ≤ a
    · rw [if_pos h0, if_pos (h.mpr h0)]
    · rw [if_neg h0, if_neg (fun q => h0 (h.mp q)), Int32.ofInt_neg, Int32.zero_sub]
  rw [e0]
  exact kq
theorem x_max {a b : Int} (hd : decode cc pc = .ok (.invokestatic idx, 3)) (hw : zz_mx own idx) (hd' : 1 ≤ d) (hS8 : cat8 S ≤ 8) (hv : (if a < b then b else a) = v) (kk : Ex E cc nL own d Q (pc + 3) L (zi v :: S) m) : Ex E cc nL own d Q pc L (zi b :: zi a :: S) m := by
  subst hv
  refine ex_st (fun _ hS hm => ok_cons (v := zi _) (by split; exact ok_hd hS; exact ok_hd (ok_tl hS)) (ok_tl (ok_tl hS))) (fun p l e R s mi args below meth c A D cI cY ad cells slots Qs H locs ls hC hL hS hm hP hV hl kq => ?_) kk
  have ha : zz_in a := ok_hd (ok_tl hS)
  have hb : zz_in b := ok_hd hS
  have hts := hC.1.2.2.2.2
  have h8 := catsum_eq ad S
  unfold catsum at h8
  have hR1 := hC.2.2.2.2.2.1
  have hR2 := hC.2.2.2.2.2.2.1
  refine va_mmax hC.1.1 hC.1.2.1 (hC.1.2.2.1.trans hl.1.symm) hC.1.2.2.2.1 (hts _ hw.1) (hts _ hw.2.1) (hts _ hw.2.2.1) (hts _ hw.2.2.2) (by omega) (by rw [h8]; omega) hC.2.2.2.2.2.2.2.1 hC.2.2.2.2.2.2.2.2 hd ?_
  have e0 : (if Int32.ofInt a < Int32.ofInt b then Int32.ofInt b else Int32.ofInt a) = Int32.ofInt (if a < b then b else a) := by
    by_cases h0 : a < b
    · rw [if_pos h0, if_pos ((i32_lt ha hb).mpr h0)]
    · rw [if_neg h0, if_neg (fun q => h0 ((i32_lt ha hb).mp q))]
  rw [e0]
  exact kq
/-- System.arraycopy from the start of one array to the start of another -/
def cpm (m : zz_M) (a b n : Nat) : zz_M := fun k j => if k = b ∧ j < n then m a j else m k j
def zz_ac (own : String) (idx : Nat) : Prop := Cond.methodLink own idx arraycopyName ∈ zz_T ∧ Cond.native arraycopyName ∈ zz_T ∧ Cond.static arraycopyName ∈ zz_T ∧ Cond.initialized "java/lang/System" ∈ zz_T
theorem x_copy {a b na nb len : Nat} {z : Int} (hd : decode cc pc = .ok (.invokestatic idx, 3)) (hw : zz_ac own idx) (hd' : 1 ≤ d) (hS8 : cat8 S ≤ 8) (ha : kd a = (0, na)) (hb : kd b = (0, nb)) (hz : (len : Int) = z) (h1 : len ≤ na) (h2 : len ≤ nb) (kk : Ex E cc nL own d Q (pc + 3) L S (cpm m a b len)) : Ex E cc nL own d Q pc L (zi z :: zi 0 :: zr b :: zi 0 :: zr a :: S) m := by
  subst hz
  intro p l e R s mi args below meth c A D cI cY ad cells slots Qs hC hK H locs ls hL hS hm hP hV hl
  have hzi : zz_in (len : Int) := ok_hd hS
  have h0i : zz_in 0 := ⟨by decide, by decide⟩
  have hts := hC.1.2.2.2.2
  have h8 := catsum_eq ad S
  unfold catsum at h8
  have hR1 := hC.2.2.2.2.2.1
  have hR2 := hC.2.2.2.2.2.2.1
  have e0 : (Int32.ofInt 0).toNatClampNeg = 0 := by decide
  have el : (Int32.ofInt (len : Int)).toNatClampNeg = len := by rw [i32_idx hzi (by omega)]; omega
  have hnn : ¬ Int32.ofInt (len : Int) < 0 := by
    intro q
    have := (i32_lt hzi h0i).mp q
    omega
  have hset : (wl ad cI cY m).set b (ad b, .inl (cI, (nb, .inl (va_cpy (fun j => Int32.ofInt (m a j)) (fun j => Int32.ofInt (m b j)) (Int32.ofInt 0).toNatClampNeg (Int32.ofInt 0).toNatClampNeg (Int32.ofInt (len : Int)).toNatClampNeg)))) = wl ad cI cY (cpm m a b len) := by
    refine wl_set (fun k' h => by funext j; exact if_neg (fun q => h q.1)) ?_
    rw [ce_arr hb, e0, el]
    congr 4
    funext j
    unfold va_cpy cpm
    by_cases hj : j < len
    · rw [if_pos ⟨rfl, hj⟩, if_pos ⟨Nat.zero_le _, by omega⟩]
      simp
    · rw [if_neg (fun q => hj q.2), if_neg (fun q => hj (by omega))]
  refine va_copyi hC.1.1 hC.1.2.1 (hC.1.2.2.1.trans hl.1.symm) hC.1.2.2.2.1 (hts _ hw.1) (hts _ hw.2.1) (hts _ hw.2.2.1) (hts _ hw.2.2.2) hC.2.1 hP (wl_D hC.2.2.2.2.1) hV a b 0 0 (wl_arr ha) (wl_arr hb) rfl rfl rfl (by decide) (by decide) hnn (by rw [e0, el]; omega) (by rw [e0, el]; omega) (fun i hi => rfl) (by omega) (by rw [h8, show nativeFrameWords "java/lang/System" "arraycopy" 5 = 7 from by decide]; omega) hd (fun H1 locs1 hP1 _ hV1 => ?_)
  rw [hset] at hP1
  refine kk p l e R s mi args below meth c A D cI cY ad cells slots Qs hC hK H1 locs1 ls hL (ok_tl (ok_tl (ok_tl (ok_tl (ok_tl hS))))) (fun k j => ?_) hP1 hV1 hl
  unfold cpm
  split
  · exact hm _ _
  · exact hm _ _
end EXK
/-! ===== a method's contract out of its run ===== -/
def entL : List zz_V → List (Option zz_V)
  | [] => []
  | .inr (.inl z) :: as => some (zj z) :: none :: entL as
  | v :: as => some v :: entL as
theorem gl_app_none {ad : Nat → Nat} (n : Nat) : ∀ (i : Nat), gl ad i (List.replicate n none) = [] := by
  induction n with
  | zero => intro i; rfl
  | succ n ih => intro i; rw [List.replicate_succ, gl, ih]
theorem gl_ent {ad : Nat → Nat} (n : Nat) : ∀ (as : List zz_V) (i : Nat), gl ad i (entL as ++ List.replicate n none) = lv_args i (as.map (gv ad))
  | [], i => gl_app_none n i
  | .inl z :: as, i => by
    show _ :: gl ad (i + 1) (entL as ++ List.replicate n none) = _
    rw [gl_ent n as (i + 1)]
    rfl
  | .inr (.inl z) :: as, i => by
    show _ :: gl ad (i + 1 + 1) (entL as ++ List.replicate n none) = _
    rw [gl_ent n as (i + 1 + 1)]
    rfl
  | .inr (.inr z) :: as, i => by
    show _ :: gl ad (i + 1) (entL as ++ List.replicate n none) = _
    rw [gl_ent n as (i + 1)]
    rfl
def lens : List zz_V → Nat
  | [] => 0
  | .inr (.inl _) :: as => 2 + lens as
  | _ :: as => 1 + lens as
theorem lens_eq {ad : Nat → Nat} : ∀ as : List zz_V, (lg_sl (as.map (gv ad))).length = lens as
  | [] => rfl
  | .inl z :: as => by
    have h := lens_eq (ad := ad) as
    unfold lg_sl at h ⊢
    rw [List.map_cons, List.flatMap_cons, List.length_append, h]
    rfl
  | .inr (.inl z) :: as => by
    have h := lens_eq (ad := ad) as
    unfold lg_sl at h ⊢
    rw [List.map_cons, List.flatMap_cons, List.length_append, h]
    rfl
  | .inr (.inr z) :: as => by
    have h := lens_eq (ad := ad) as
    unfold lg_sl at h ⊢
    rw [List.map_cons, List.flatMap_cons, List.length_append, h]
    rfl
theorem Mt.of {E : zz_E} {d : Nat} {y : MethodName} {cc : ByteArray} {nL : Nat} {ret : Option FieldType} {as : List zz_V} {m : zz_M} {Q : Option zz_V → zz_M → Prop} (n : Nat) (hy : plainName y.cls = true) (hn : lens as ≤ nL)
    (hret : ret = some .int ∨ (ret = some .boolean ∧ ∀ z m', Q (some (zi z)) m' → z = 0 ∨ z = 1) ∨ ret = some .long ∨ ret = none) (hrt : ∀ r m', Q r m' → (ret = none ↔ r = none) ∧ (ret = some .long ↔ ∃ z, r = some (zj z)))
    (hex : Ex E cc nL y.cls d Q 0 (entL as ++ List.replicate n none) [] m) : Mt E d y cc nL ret as m Q := by
  intro hE has hm l A D cI cY ad had
  refine Met.ofW (cc := cc) (maxL := nL) (ret := ret) hy rfl ?_
  intro p e s mi args below meth c s₁ B hml hv
  obtain ⟨rfl, hP, hKn, hRo, hNf⟩ := hv
  have hts := atoms_spec (ws := Cond.code y cc nL ret :: zz_G) B.pre
  have hown : s.vm.findClass y.cls = some mi.cls := findClass_of_methodNamed B.named
  have hlocks := B.notSynchronized
  have hr := B.returns
  have hl := lv_entry (as.map (gv ad)) (n := nL) (by rw [lens_eq]; exact hn)
  rw [lg_entry_eq]
  generalize (lg_sl (as.map (gv ad)) ++ List.replicate (nL - (lg_sl (as.map (gv ad))).length) Slot.unset).toArray = ls at hl ⊢
  rw [← gl_ent n as 0] at hl
  have hC : zz_C E p (headSpec (Cond.code y cc nL ret :: zz_G) (zz_rm d)).room s mi (as.map (gv ad)).toArray meth c cc nL y.cls A D cI cY ad d 0 0 :=
    ⟨⟨B.exec, B.bytes, hml, hown, zz_T_of (fun w hw => hts w (List.mem_cons_of_mem _ hw)) hNf⟩, hKn, hRo, hE, had, Nat.le_refl _, Nat.le_refl _, Nat.le_refl _, Nat.le_refl _⟩
  refine hex p l e _ s mi _ below meth c A D cI cY ad 0 0 _ hC ?_ s.heap [] ls ?_ (fun v hv => by cases hv) hm hP va_S.rf hl
  · intro r pc' S' ls' m' H' locs' hrt' hq hS' hm' hP' hV'
    have fin : ∀ t : State, t.heap = H' → s.WarmedH t.vm → zz_Qc E A D cI cY ad Q (as.map (gv ad)).toArray s (.returned (r.map (gv ad))) t := by
      intro t ht hW
      refine ⟨⟨r, m', rfl, hq, fun v hv => ?_, hm', by rw [ht]; exact hP'⟩, hV'.F ht⟩
      subst hv
      match v, hrt' with
      | .inl z, h => exact hS' _ (by rw [h.1]; exact List.mem_cons_self)
      | .inr (.inl z), h => exact hS' _ (by rw [h.1]; exact List.mem_cons_self)
      | .inr (.inr z), h => exact trivial
    have hr1 := hrt r m' hq
    match r, hrt', fin, hr1, hq with
    | none, ⟨h1, h2⟩, fin, hr1, _ =>
      subst h1
      have hr0 : ret = none := hr1.1.mpr rfl
      subst hr0
      exact W.vret B.exec B.bytes hr fin hV'.2.2 h2
    | some (.inl z), ⟨h1, h2⟩, fin, hr1, hq =>
      subst h1
      rcases hret with h | ⟨h, hz⟩ | h | h
      · subst h
        exact W.iret B.exec B.bytes hr fin hV'.2.2 h2
      · subst h
        rcases hz z m' hq with rfl | rfl
        · exact W.zret B.exec B.bytes hr (by decide +kernel : narrow .boolean (.int (Int32.ofInt 0)) = .int (Int32.ofInt 0)) fin hV'.2.2 h2
        · exact W.zret B.exec B.bytes hr (by decide +kernel : narrow .boolean (.int (Int32.ofInt 1)) = .int (Int32.ofInt 1)) fin hV'.2.2 h2
      · obtain ⟨z', hz'⟩ := hr1.2.mp h
        cases hz'
      · exact absurd (hr1.1.mp h) (by simp)
    | some (.inr (.inl z)), ⟨h1, h2⟩, fin, hr1, _ =>
      subst h1
      have hr0 : ret = some .long := hr1.2.mpr ⟨z, rfl⟩
      subst hr0
      exact W.lret B.exec B.bytes hr fin hV'.2.2 h2
  · intro v hv
    have : ∀ (as : List zz_V), (∀ v ∈ as, okv v) → ∀ v, some v ∈ entL as ++ List.replicate n none → okv v := by
      intro as
      induction as with
      | nil =>
        intro _ v hv
        have hv : some v ∈ List.replicate n (none : Option zz_V) := hv
        have := List.eq_of_mem_replicate hv
        cases this
      | cons w as ih =>
        intro h v hv
        have h2 := ih (fun v hv => h v (List.mem_cons_of_mem _ hv))
        have h3 := h w List.mem_cons_self
        match w, hv, h3 with
        | .inl z, hv, h3 =>
          rcases List.mem_cons.mp hv with q | q
          · cases q; exact h3
          · exact h2 v q
        | .inr (.inr z), hv, h3 =>
          rcases List.mem_cons.mp hv with q | q
          · cases q; exact h3
          · exact h2 v q
        | .inr (.inl z), hv, h3 =>
          rcases List.mem_cons.mp hv with q | q
          · cases q; exact h3
          · rcases List.mem_cons.mp q with q | q
            · cases q
            · exact h2 v q
    exact this as has v hv
end
