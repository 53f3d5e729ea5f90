/-! ===== the constructors ===== -/
def figs : Nat → Int32 := fun j => Int32.ofInt (if j = 2 then 10 else if j = 3 then 9 else 0)
theorem figs_eq : (upd (upd (upd (upd (fun _ => z0) (Int32.ofInt 0).toNatClampNeg (Int32.ofInt 0)) (Int32.ofInt 1).toNatClampNeg (Int32.ofInt 0)) (Int32.ofInt 2).toNatClampNeg (Int32.ofInt 10)) (Int32.ofInt 3).toNatClampNeg (Int32.ofInt 9)) = figs := by
  have e0 : (Int32.ofInt 0).toNatClampNeg = 0 := by decide +kernel
  have e1 : (Int32.ofInt 1).toNatClampNeg = 1 := by decide +kernel
  have e2 : (Int32.ofInt 2).toNatClampNeg = 2 := by decide +kernel
  have e3 : (Int32.ofInt 3).toNatClampNeg = 3 := by decide +kernel
  rw [e0, e1, e2, e3]
  funext j
  show (if j = 3 then Int32.ofInt 9 else if j = 2 then Int32.ofInt 10 else if j = 1 then Int32.ofInt 0 else if j = 0 then Int32.ofInt 0 else Int32.ofInt 0) = Int32.ofInt (if j = 2 then 10 else if j = 3 then 9 else 0)
  by_cases h3 : j = 3
  · subst h3; rfl
  · by_cases h2 : j = 2
    · subst h2; rfl
    · rw [if_neg h3, if_neg h2, if_neg h2, if_neg h3]
      split
      · rfl
      · split <;> rfl
theorem bk_X0 : ∀ j, j < 2 → defaultValue (tyX0 j) = vp_V [.null, .int z0] j := by decide +kernel
theorem cnl_X0 : CnL yX0_init cX0_init := ⟨(List.mem_filter.mpr ⟨List.mem_of_getElem? (i := 163) (by decide +kernel), by decide +kernel⟩), (zz_T_mem (List.mem_of_getElem? (i := 52) (by decide +kernel)) (by decide +kernel)), (zz_T_mem (List.mem_of_getElem? (i := 162) (by decide +kernel)) (by decide +kernel)), ⟨by decide +kernel, by decide +kernel, by decide +kernel⟩, rfl⟩
theorem bk_X1 : ∀ j, j < 6 → defaultValue (tyX1 j) = vp_V [.null, .null, .null, .null, .int z0, .int z0] j := by decide +kernel
theorem cnl_X1 : CnL yX1_init cX1_init := ⟨(List.mem_filter.mpr ⟨List.mem_of_getElem? (i := 134) (by decide +kernel), by decide +kernel⟩), (zz_T_mem (List.mem_of_getElem? (i := 51) (by decide +kernel)) (by decide +kernel)), (zz_T_mem (List.mem_of_getElem? (i := 133) (by decide +kernel)) (by decide +kernel)), ⟨by decide +kernel, by decide +kernel, by decide +kernel⟩, rfl⟩
theorem bk_X2 : ∀ j, j < 13 → defaultValue (tyX2 j) = vp_V [.null, .null, .null, .null, .null, .null, .null, .int z0, .int z0, .int z0, .int z0, .int z0, .int z0] j := by decide +kernel
theorem cnl_X2 : CnL yX2_init cX2_init := ⟨(List.mem_filter.mpr ⟨List.mem_of_getElem? (i := 69) (by decide +kernel), by decide +kernel⟩), (zz_T_mem (List.mem_of_getElem? (i := 50) (by decide +kernel)) (by decide +kernel)), (zz_T_mem (List.mem_of_getElem? (i := 68) (by decide +kernel)) (by decide +kernel)), ⟨by decide +kernel, by decide +kernel, by decide +kernel⟩, rfl⟩
theorem bk_X3 : ∀ j, j < 10 → defaultValue (tyX3 j) = vp_V [.null, .null, .null, .null, .null, .null, .null, .null, .int z0, .int z0] j := by decide +kernel
theorem cnl_X3 : CnL yX3_init cX3_init := ⟨(List.mem_filter.mpr ⟨List.mem_of_getElem? (i := 61) (by decide +kernel), by decide +kernel⟩), (zz_T_mem (List.mem_of_getElem? (i := 49) (by decide +kernel)) (by decide +kernel)), (zz_T_mem (List.mem_of_getElem? (i := 60) (by decide +kernel)) (by decide +kernel)), ⟨by decide +kernel, by decide +kernel, by decide +kernel⟩, rfl⟩
theorem bk_X4 : ∀ j, j < 40 → defaultValue (tyX4 j) = vp_V [.int z0, .int z0, .int z0, .int z0, .int z0, .int z0, .int z0, .int z0, .int z0, .int z0, .null, .null, .null, .null, .null, .int z0, .null, .int z0, .null, .int z0, .null, .null, .null, .null, .int z0, .int z0, .int z0, .null, .null, .int z0, .int z0, .int z0, .int z0, .null, .null, .null, .null, .int z0, .null, .int z0] j := by decide +kernel
theorem cnl_X4 : CnL yX4_init cX4_init := ⟨(List.mem_filter.mpr ⟨List.mem_of_getElem? (i := 535) (by decide +kernel), by decide +kernel⟩), (zz_T_mem (List.mem_of_getElem? (i := 53) (by decide +kernel)) (by decide +kernel)), (zz_T_mem (List.mem_of_getElem? (i := 534) (by decide +kernel)) (by decide +kernel)), ⟨by decide +kernel, by decide +kernel, by decide +kernel⟩, rfl⟩
theorem mt_50 : Cond.initialized RX2 ∈ zz_T := (zz_T_mem (List.mem_of_getElem? (i := 50) (by decide +kernel)) (by decide +kernel))
theorem mt_51 : Cond.initialized RX1 ∈ zz_T := (zz_T_mem (List.mem_of_getElem? (i := 51) (by decide +kernel)) (by decide +kernel))
theorem mt_52 : Cond.initialized RX0 ∈ zz_T := (zz_T_mem (List.mem_of_getElem? (i := 52) (by decide +kernel)) (by decide +kernel))
theorem mt_62 : Cond.methodLink RX3 1 Lib.objectInit ∈ zz_T := (zz_T_mem (List.mem_of_getElem? (i := 62) (by decide +kernel)) (by decide +kernel))
theorem mt_65 : Cond.classLink RX3 7 RX2 ∈ zz_T := (zz_T_mem (List.mem_of_getElem? (i := 65) (by decide +kernel)) (by decide +kernel))
theorem mt_66 : Cond.instantiable RX2 13 ∈ zz_T := (zz_T_mem (List.mem_of_getElem? (i := 66) (by decide +kernel)) (by decide +kernel))
theorem mt_70 : Cond.methodLink RX2 3 Lib.objectInit ∈ zz_T := (zz_T_mem (List.mem_of_getElem? (i := 70) (by decide +kernel)) (by decide +kernel))
theorem mt_71 : Cond.fieldLink RX2 9 RX2 (TX2 0).2.1 (TX2 0).2.2.1 ∈ zz_T := (zz_T_mem (List.mem_of_getElem? (i := 71) (by decide +kernel)) (by decide +kernel))
theorem mt_73 : Cond.fieldLink RX2 15 RX2 (TX2 1).2.1 (TX2 1).2.2.1 ∈ zz_T := (zz_T_mem (List.mem_of_getElem? (i := 73) (by decide +kernel)) (by decide +kernel))
theorem mt_75 : Cond.fieldLink RX2 18 RX2 (TX2 2).2.1 (TX2 2).2.2.1 ∈ zz_T := (zz_T_mem (List.mem_of_getElem? (i := 75) (by decide +kernel)) (by decide +kernel))
theorem mt_77 : Cond.fieldLink RX2 21 RX2 (TX2 3).2.1 (TX2 3).2.2.1 ∈ zz_T := (zz_T_mem (List.mem_of_getElem? (i := 77) (by decide +kernel)) (by decide +kernel))
theorem mt_79 : Cond.fieldLink RX2 24 RX2 (TX2 4).2.1 (TX2 4).2.2.1 ∈ zz_T := (zz_T_mem (List.mem_of_getElem? (i := 79) (by decide +kernel)) (by decide +kernel))
theorem mt_81 : Cond.fieldLink RX2 27 RX2 (TX2 5).2.1 (TX2 5).2.2.1 ∈ zz_T := (zz_T_mem (List.mem_of_getElem? (i := 81) (by decide +kernel)) (by decide +kernel))
theorem mt_84 : Cond.fieldLink RX2 30 RX2 (TX2 6).2.1 (TX2 6).2.2.1 ∈ zz_T := (zz_T_mem (List.mem_of_getElem? (i := 84) (by decide +kernel)) (by decide +kernel))
theorem mt_89 : Cond.fieldLink RX2 33 RX2 (TX2 8).2.1 (TX2 8).2.2.1 ∈ zz_T := (zz_T_mem (List.mem_of_getElem? (i := 89) (by decide +kernel)) (by decide +kernel))
theorem mt_130 : Cond.classLink RX3 22 RX1 ∈ zz_T := (zz_T_mem (List.mem_of_getElem? (i := 130) (by decide +kernel)) (by decide +kernel))
theorem mt_131 : Cond.instantiable RX1 6 ∈ zz_T := (zz_T_mem (List.mem_of_getElem? (i := 131) (by decide +kernel)) (by decide +kernel))
theorem mt_135 : Cond.methodLink RX1 3 Lib.objectInit ∈ zz_T := (zz_T_mem (List.mem_of_getElem? (i := 135) (by decide +kernel)) (by decide +kernel))
theorem mt_136 : Cond.classLink RX1 9 RX2 ∈ zz_T := (zz_T_mem (List.mem_of_getElem? (i := 136) (by decide +kernel)) (by decide +kernel))
theorem mt_139 : Cond.fieldLink RX1 12 RX1 (TX1 0).2.1 (TX1 0).2.2.1 ∈ zz_T := (zz_T_mem (List.mem_of_getElem? (i := 139) (by decide +kernel)) (by decide +kernel))
theorem mt_140 : Cond.fieldLink RX1 18 RX1 (TX1 1).2.1 (TX1 1).2.2.1 ∈ zz_T := (zz_T_mem (List.mem_of_getElem? (i := 140) (by decide +kernel)) (by decide +kernel))
theorem mt_141 : Cond.fieldLink RX1 22 RX1 (TX1 2).2.1 (TX1 2).2.2.1 ∈ zz_T := (zz_T_mem (List.mem_of_getElem? (i := 141) (by decide +kernel)) (by decide +kernel))
theorem mt_142 : Cond.fieldLink RX1 25 RX1 (TX1 3).2.1 (TX1 3).2.2.1 ∈ zz_T := (zz_T_mem (List.mem_of_getElem? (i := 142) (by decide +kernel)) (by decide +kernel))
theorem mt_159 : Cond.classLink RX3 29 RX0 ∈ zz_T := (zz_T_mem (List.mem_of_getElem? (i := 159) (by decide +kernel)) (by decide +kernel))
theorem mt_160 : Cond.instantiable RX0 2 ∈ zz_T := (zz_T_mem (List.mem_of_getElem? (i := 160) (by decide +kernel)) (by decide +kernel))
theorem mt_164 : Cond.methodLink RX0 3 Lib.objectInit ∈ zz_T := (zz_T_mem (List.mem_of_getElem? (i := 164) (by decide +kernel)) (by decide +kernel))
theorem mt_165 : Cond.fieldLink RX0 9 RX0 (TX0 0).2.1 (TX0 0).2.2.1 ∈ zz_T := (zz_T_mem (List.mem_of_getElem? (i := 165) (by decide +kernel)) (by decide +kernel))
theorem mt_173 : Cond.fieldLink RX3 10 RX3 (TX3 0).2.1 (TX3 0).2.2.1 ∈ zz_T := (zz_T_mem (List.mem_of_getElem? (i := 173) (by decide +kernel)) (by decide +kernel))
theorem mt_174 : Cond.fieldLink RX3 16 RX3 (TX3 1).2.1 (TX3 1).2.2.1 ∈ zz_T := (zz_T_mem (List.mem_of_getElem? (i := 174) (by decide +kernel)) (by decide +kernel))
theorem mt_175 : Cond.fieldLink RX3 19 RX3 (TX3 2).2.1 (TX3 2).2.2.1 ∈ zz_T := (zz_T_mem (List.mem_of_getElem? (i := 175) (by decide +kernel)) (by decide +kernel))
theorem mt_176 : Cond.fieldLink RX3 25 RX3 (TX3 3).2.1 (TX3 3).2.2.1 ∈ zz_T := (zz_T_mem (List.mem_of_getElem? (i := 176) (by decide +kernel)) (by decide +kernel))
theorem mt_177 : Cond.fieldLink RX3 32 RX3 (TX3 4).2.1 (TX3 4).2.2.1 ∈ zz_T := (zz_T_mem (List.mem_of_getElem? (i := 177) (by decide +kernel)) (by decide +kernel))
theorem mt_178 : Cond.fieldLink RX3 36 RX3 (TX3 5).2.1 (TX3 5).2.2.1 ∈ zz_T := (zz_T_mem (List.mem_of_getElem? (i := 178) (by decide +kernel)) (by decide +kernel))
theorem mt_179 : Cond.fieldLink RX3 40 RX3 (TX3 6).2.1 (TX3 6).2.2.1 ∈ zz_T := (zz_T_mem (List.mem_of_getElem? (i := 179) (by decide +kernel)) (by decide +kernel))
theorem mt_180 : Cond.fieldLink RX3 43 RX3 (TX3 7).2.1 (TX3 7).2.2.1 ∈ zz_T := (zz_T_mem (List.mem_of_getElem? (i := 180) (by decide +kernel)) (by decide +kernel))
theorem mt_536 : Cond.methodLink RX4 1 Lib.objectInit ∈ zz_T := (zz_T_mem (List.mem_of_getElem? (i := 536) (by decide +kernel)) (by decide +kernel))
theorem mt_540 : Cond.fieldLink RX4 7 RX4 (TX4 3).2.1 (TX4 3).2.2.1 ∈ zz_T := (zz_T_mem (List.mem_of_getElem? (i := 540) (by decide +kernel)) (by decide +kernel))
theorem mt_541 : Cond.fieldLink RX4 13 RX4 (TX4 4).2.1 (TX4 4).2.2.1 ∈ zz_T := (zz_T_mem (List.mem_of_getElem? (i := 541) (by decide +kernel)) (by decide +kernel))
theorem mt_542 : Cond.fieldLink RX4 16 RX4 (TX4 5).2.1 (TX4 5).2.2.1 ∈ zz_T := (zz_T_mem (List.mem_of_getElem? (i := 542) (by decide +kernel)) (by decide +kernel))
theorem mt_547 : Cond.fieldLink RX4 19 RX4 (TX4 10).2.1 (TX4 10).2.2.1 ∈ zz_T := (zz_T_mem (List.mem_of_getElem? (i := 547) (by decide +kernel)) (by decide +kernel))
theorem mt_548 : Cond.fieldLink RX4 23 RX4 (TX4 11).2.1 (TX4 11).2.2.1 ∈ zz_T := (zz_T_mem (List.mem_of_getElem? (i := 548) (by decide +kernel)) (by decide +kernel))
theorem mt_549 : Cond.fieldLink RX4 26 RX4 (TX4 12).2.1 (TX4 12).2.2.1 ∈ zz_T := (zz_T_mem (List.mem_of_getElem? (i := 549) (by decide +kernel)) (by decide +kernel))
theorem mt_550 : Cond.fieldLink RX4 29 RX4 (TX4 13).2.1 (TX4 13).2.2.1 ∈ zz_T := (zz_T_mem (List.mem_of_getElem? (i := 550) (by decide +kernel)) (by decide +kernel))
theorem mt_551 : Cond.fieldLink RX4 32 RX4 (TX4 14).2.1 (TX4 14).2.2.1 ∈ zz_T := (zz_T_mem (List.mem_of_getElem? (i := 551) (by decide +kernel)) (by decide +kernel))
theorem mt_552 : Cond.fieldLink RX4 74 RX4 (TX4 15).2.1 (TX4 15).2.2.1 ∈ zz_T := (zz_T_mem (List.mem_of_getElem? (i := 552) (by decide +kernel)) (by decide +kernel))
theorem mt_553 : Cond.fieldLink RX4 35 RX4 (TX4 16).2.1 (TX4 16).2.2.1 ∈ zz_T := (zz_T_mem (List.mem_of_getElem? (i := 553) (by decide +kernel)) (by decide +kernel))
theorem mt_554 : Cond.fieldLink RX4 38 RX4 (TX4 17).2.1 (TX4 17).2.2.1 ∈ zz_T := (zz_T_mem (List.mem_of_getElem? (i := 554) (by decide +kernel)) (by decide +kernel))
theorem mt_555 : Cond.fieldLink RX4 41 RX4 (TX4 18).2.1 (TX4 18).2.2.1 ∈ zz_T := (zz_T_mem (List.mem_of_getElem? (i := 555) (by decide +kernel)) (by decide +kernel))
theorem mt_557 : Cond.fieldLink RX4 44 RX4 (TX4 20).2.1 (TX4 20).2.2.1 ∈ zz_T := (zz_T_mem (List.mem_of_getElem? (i := 557) (by decide +kernel)) (by decide +kernel))
theorem mt_558 : Cond.fieldLink RX4 47 RX4 (TX4 21).2.1 (TX4 21).2.2.1 ∈ zz_T := (zz_T_mem (List.mem_of_getElem? (i := 558) (by decide +kernel)) (by decide +kernel))
theorem mt_559 : Cond.fieldLink RX4 50 RX4 (TX4 22).2.1 (TX4 22).2.2.1 ∈ zz_T := (zz_T_mem (List.mem_of_getElem? (i := 559) (by decide +kernel)) (by decide +kernel))
theorem mt_560 : Cond.fieldLink RX4 53 RX4 (TX4 23).2.1 (TX4 23).2.2.1 ∈ zz_T := (zz_T_mem (List.mem_of_getElem? (i := 560) (by decide +kernel)) (by decide +kernel))
theorem mt_565 : Cond.fieldLink RX4 56 RX4 (TX4 28).2.1 (TX4 28).2.2.1 ∈ zz_T := (zz_T_mem (List.mem_of_getElem? (i := 565) (by decide +kernel)) (by decide +kernel))
theorem mt_570 : Cond.fieldLink RX4 59 RX4 (TX4 33).2.1 (TX4 33).2.2.1 ∈ zz_T := (zz_T_mem (List.mem_of_getElem? (i := 570) (by decide +kernel)) (by decide +kernel))
theorem mt_571 : Cond.fieldLink RX4 62 RX4 (TX4 34).2.1 (TX4 34).2.2.1 ∈ zz_T := (zz_T_mem (List.mem_of_getElem? (i := 571) (by decide +kernel)) (by decide +kernel))
theorem mt_572 : Cond.fieldLink RX4 65 RX4 (TX4 35).2.1 (TX4 35).2.2.1 ∈ zz_T := (zz_T_mem (List.mem_of_getElem? (i := 572) (by decide +kernel)) (by decide +kernel))
theorem mt_573 : Cond.fieldLink RX4 68 RX4 (TX4 36).2.1 (TX4 36).2.2.1 ∈ zz_T := (zz_T_mem (List.mem_of_getElem? (i := 573) (by decide +kernel)) (by decide +kernel))
theorem mt_575 : Cond.fieldLink RX4 71 RX4 (TX4 38).2.1 (TX4 38).2.2.1 ∈ zz_T := (zz_T_mem (List.mem_of_getElem? (i := 575) (by decide +kernel)) (by decide +kernel))
