section MC1
variable {E : zz_E} {m : zz_M} {s : zz_S}
/-- how a call ends: its answer, the class's memory behind it, nothing else written -/
abbrev CQ (m : zz_M) (a : zz_A) : Option zz_V → zz_M → Prop := fun r m' => r = some (zi a.1) ∧ CP m' a.2 ∧ Fr 0 59 m m'
theorem CQ.rt {m : zz_M} {a : zz_A} : ∀ r m', CQ m a r m' → (some FieldType.int = none ↔ r = none) ∧ (some FieldType.int = some FieldType.long ↔ ∃ z, r = some (zj z)) := by
  rintro r m' ⟨rfl, -⟩; simp
theorem s_refuse (hC : CP m s) {k n : Int} (h1 : 1 ≤ k) (h6 : k ≤ 6) (hn : n = -k) : Mt E 1 yX3_refuse cX3_refuse 3 (some .int) [zr 55, zi n] m (CQ m (rfo s k)) := by
  subst hn
  refine Mt.of 1 (by decide +kernel) (Nat.le_of_ble_eq_true rfl) (Or.inl rfl) ?_ ?_
  · exact CQ.rt
  show Ex E cX3_refuse 3 RX3 1 _ 0 [some (zr 55), some (zi (-k)), none] [] m
  refine x_iload1 dX3_refuse_0 ?_
  refine x_ineg dX3_refuse_1 (v := k) (by rw [Int.neg_neg]; exact nrm_id (by omega) (by omega)) ?_
  refine x_istore2 dX3_refuse_2 (by decide) rfl ?_
  refine x_iload2 dX3_refuse_3 ?_
  refine x_if_lt (tgt := 26) dX3_refuse_4 rfl (fun h4 => ?_) (fun h4 => ?_)
  · omega
  · refine x_iload2 dX3_refuse_7 ?_
    refine x_aload0 dX3_refuse_8 ?_
    refine x_getR (q := 58) dX3_refuse_9 fd_X3_43 rfl rfl rfl ?_
    refine x_alen dX3_refuse_12 (Or.inl rfl) (by decide) ?_
    refine x_icmp_ge (tgt := 26) dX3_refuse_13 rfl (fun h5 => ?_) (fun h5 => ?_)
    · have h5 : (7 : Int) ≤ k := h5
      omega
    · refine x_aload0 dX3_refuse_16 ?_
      refine x_getR (q := 58) dX3_refuse_17 fd_X3_43 rfl rfl rfl ?_
      refine x_iload2 dX3_refuse_20 ?_
      refine x_dup2 dX3_refuse_21 ?_
      refine x_iald dX3_refuse_22 rfl (by omega) (by omega) (v := s.2.2 3 k) (hC.2.2.2.2.2.2 k (by omega) (by omega)) ?_
      refine x_iconst dX3_refuse_23 ⟨by decide, by decide⟩ ?_
      refine x_iadd dX3_refuse_24 rfl ?_
      refine x_iast dX3_refuse_25 rfl (by omega) (by omega) ?_
      refine x_iload1 dX3_refuse_26 ?_
      refine xe_i dX3_refuse_27 ?_
      refine ⟨rfl, hC.rest (Fr.rf.up (lo := 58) (hi := 59) (by omega) (by omega)) (by omega) ?_, Fr.rf.up (by omega) (by omega)⟩
      have hR := hC.2
      unfold CR at hR ⊢
      rw [up_cell (show 53 ≠ 58 by decide), up_cell (show 54 ≠ 58 by decide), up_cell (show 55 ≠ 58 by decide), up_cell (show 56 ≠ 58 by decide)]
      have hx : ∀ a z, a ≠ 3 → ux s.2.2 3 k (nrm (s.2.2 3 k + 1)) a z = s.2.2 a z := fun a z ha => if_neg (fun q => ha q.1)
      obtain ⟨g1, g2, g3, g4, g5, g6⟩ := hR
      refine ⟨g1.trans (hx 0 0 (by decide)).symm, fun z a b => (g2 z a b).trans (hx 1 z (by decide)).symm, g3.trans (hx 0 1 (by decide)).symm, g4.trans (hx 0 2 (by decide)).symm, fun z a b => (g5 z a b).trans (hx 2 z (by decide)).symm, fun z a b => ?_⟩
      unfold up ux
      by_cases hz : z = k
      · subst hz
        rw [if_pos ⟨rfl, rfl⟩, if_pos ⟨rfl, rfl⟩]
      · rw [if_neg (by omega), if_neg (by omega)]
        exact g6 z a b
theorem s_isNoNest (hC : CP m s) {n : Int} : Mt E 1 yX3_isNoNest cX3_isNoNest 2 (some .boolean) [zr 55, zi n] m (fun r m' => m' = m ∧ ((n < 0 ∨ s.1 0 0 ≤ n) ∧ r = some (zi 1) ∨ (0 ≤ n ∧ n < s.1 0 0) ∧ r = some (zi 0))) := by
  refine Mt.of 0 (by decide +kernel) (Nat.le_of_ble_eq_true rfl) (Or.inr (Or.inl ⟨rfl, by rintro z m' ⟨-, ⟨-, h⟩ | ⟨-, h⟩⟩ <;> cases h <;> simp⟩)) ?_ ?_
  · rintro r m' ⟨-, ⟨-, rfl⟩ | ⟨-, rfl⟩⟩ <;> simp
  show Ex E cX3_isNoNest 2 RX3 1 _ 0 [some (zr 55), some (zi n)] [] m
  refine x_iload1 dX3_isNoNest_0 ?_
  refine x_if_lt (tgt := 15) dX3_isNoNest_1 rfl (fun h1 => ?_) (fun h1 => ?_)
  · refine x_iconst dX3_isNoNest_15 ⟨by decide, by decide⟩ ?_
    refine x_goto (tgt := 20) dX3_isNoNest_16 rfl ?_
    exact xe_i dX3_isNoNest_20 (⟨rfl, Or.inl ⟨Or.inl h1, rfl⟩⟩)
  · refine x_iload1 dX3_isNoNest_4 ?_
    refine x_aload0 dX3_isNoNest_5 ?_
    refine x_getR (q := 0) dX3_isNoNest_6 fd_X3_10 rfl rfl rfl ?_
    refine x_getI dX3_isNoNest_9 fd_X3_112 rfl (Or.inl rfl) (v := s.1 0 0) hC.1.1.nests ?_
    refine x_icmp_lt (tgt := 19) dX3_isNoNest_12 rfl (fun h2 => ?_) (fun h2 => ?_)
    · refine x_iconst dX3_isNoNest_19 ⟨by decide, by decide⟩ ?_
      exact xe_i dX3_isNoNest_20 (⟨rfl, Or.inr ⟨⟨h1, h2⟩, rfl⟩⟩)
    · refine x_iconst dX3_isNoNest_15 ⟨by decide, by decide⟩ ?_
      refine x_goto (tgt := 20) dX3_isNoNest_16 rfl ?_
      exact xe_i dX3_isNoNest_20 (⟨rfl, Or.inl ⟨Or.inr h2, rfl⟩⟩)
theorem s_append (hC : CP m s) (hI : Is s) (hl : s.2.2 0 0 < 80) {l : Int} : Mt E 1 yX0_append cX0_append 2 (some .int) [zr 53, zi l] m (CQ m (s.2.2 0 0 + 1, (s.1, s.2.1, ux (ux s.2.2 1 (s.2.2 0 0) l) 0 0 (s.2.2 0 0 + 1)))) := by
  have hl0 := hI.2.2.1
  refine Mt.of 0 (by decide +kernel) (Nat.le_of_ble_eq_true rfl) (Or.inl rfl) ?_ ?_
  · exact CQ.rt
  show Ex E cX0_append 2 RX0 1 _ 0 [some (zr 53), some (zi l)] [] m
  have hR := hC.2
  refine x_aload0 dX0_append_0 ?_
  refine x_getI dX0_append_1 fd_X0_15 rfl (Or.inl rfl) (v := s.2.2 0 0) hR.1 ?_
  refine x_bipush dX0_append_4 ⟨by decide, by decide⟩ ?_
  refine x_icmp_ge (tgt := 29) dX0_append_6 rfl (fun hc => ?_) (fun hc => ?_)
  · omega
  · refine x_aload0 dX0_append_9 ?_
    refine x_getR (q := 54) dX0_append_10 fd_X0_9 rfl rfl rfl ?_
    refine x_aload0 dX0_append_13 ?_
    refine x_getI dX0_append_14 fd_X0_15 rfl (Or.inl rfl) (v := s.2.2 0 0) hR.1 ?_
    refine x_iload1 dX0_append_17 ?_
    refine x_iast dX0_append_18 rfl (by omega) (by omega) ?_
    refine x_aload0 dX0_append_19 ?_
    refine x_dupr dX0_append_20 ?_
    have e1 : up m 54 (s.2.2 0 0).toNat l 53 1 = s.2.2 0 0 := by rw [up_cell (by decide)]; exact hR.1
    refine x_getI dX0_append_21 fd_X0_15 rfl (Or.inl rfl) e1 ?_
    refine x_iconst dX0_append_24 ⟨by decide, by decide⟩ ?_
    refine x_iadd dX0_append_25 (nrm_id (by omega) (by omega)) ?_
    refine x_putI dX0_append_26 fd_X0_15 rfl rfl ?_
    refine x_aload0 dX0_append_29 ?_
    refine x_getI dX0_append_30 fd_X0_15 rfl (Or.inl rfl) (v := s.2.2 0 0 + 1) (up_same _ _ _ _) ?_
    refine xe_i dX0_append_33 ?_
    refine ⟨rfl, hC.rest (lo := 53) (hi := 55) ((Fr.rf.up (by omega) (by omega)).up (by omega) (by omega)) (by omega) ?_, (Fr.rf.up (by omega) (by omega)).up (by omega) (by omega)⟩
    obtain ⟨g1, g2, g3, g4, g5, g6⟩ := hR
    refine ⟨?_, fun z a b => ?_, ?_, ?_, fun z a b => ?_, fun z a b => ?_⟩
    · rw [up_same]; rfl
    · rw [up_cell (by decide)]
      unfold up ux
      simp only [show ¬ ((1 : Nat) = 0) by decide, false_and, if_false, true_and]
      by_cases hz : z = s.2.2 0 0
      · subst hz; simp
      · rw [if_neg (by omega), if_neg hz]; exact g2 z a b
    · rw [up_cell (by decide), up_cell (by decide), g3]; rfl
    · rw [up_cell (by decide), up_cell (by decide), g4]; rfl
    · rw [up_cell (by decide), up_cell (by decide), g5 z a b]; rfl
    · rw [up_cell (by decide), up_cell (by decide), g6 z a b]; rfl
theorem s_feed (hC : CP m s) (hI : Is s) {l : Int} : Mt E 2 yX3_feed cX3_feed 2 (some .int) [zr 55, zi l] m (CQ m (o_feed s l)) := by
  refine Mt.of 0 (by decide +kernel) (Nat.le_of_ble_eq_true rfl) (Or.inl rfl) ?_ ?_
  · exact CQ.rt
  show Ex E cX3_feed 2 RX3 2 _ 0 [some (zr 55), some (zi l)] [] m
  refine x_iload1 dX3_feed_0 ?_
  refine x_if_ge (tgt := 11) dX3_feed_1 rfl (fun h1 => ?_) (fun h1 => ?_)
  · refine x_iload1 dX3_feed_11 ?_
    refine x_sipush dX3_feed_12 ⟨by decide, by decide⟩ ?_
    refine x_icmp_gt (tgt := 30) dX3_feed_15 rfl (fun h2 => ?_) (fun h2 => ?_)
    · refine x_aload0 dX3_feed_30 ?_
      refine x_bipush dX3_feed_31 ⟨by decide, by decide⟩ ?_
      refine x_callv1 dX3_feed_33 cv_X3_46 ci_X3_refuse rfl (T := TX3) rfl (by decide) (Nat.le_of_ble_eq_true rfl) (s_refuse hC (k := 6) (by decide) (by decide) (by decide)) (fun r m1 hq => ?_)
      obtain ⟨rfl, hC1, hF1⟩ := hq
      exact xe_i dX3_feed_36 (by rw [o_feed, if_neg (by omega), if_pos (by omega)]; exact ⟨rfl, hC1, hF1⟩)
    · refine x_aload0 dX3_feed_18 ?_
      refine x_getR (q := 53) dX3_feed_19 fd_X3_32 rfl rfl rfl ?_
      refine x_getI dX3_feed_22 fd_X3_50 rfl (Or.inl rfl) (v := s.2.2 0 0) hC.2.1 ?_
      refine x_bipush dX3_feed_25 ⟨by decide, by decide⟩ ?_
      refine x_icmp_lt (tgt := 37) dX3_feed_27 rfl (fun h3 => ?_) (fun h3 => ?_)
      · refine x_aload0 dX3_feed_37 ?_
        refine x_getR (q := 53) dX3_feed_38 fd_X3_32 rfl rfl rfl ?_
        refine x_iload1 dX3_feed_41 ?_
        refine x_callv1 dX3_feed_42 cv_X3_54 ci_X0_append rfl (T := TX0) rfl (by decide) (Nat.le_of_ble_eq_true rfl) (s_append hC hI h3) (fun r m1 hq => ?_)
        obtain ⟨rfl, hq⟩ := hq
        exact xe_i dX3_feed_45 (by rw [o_feed, if_neg (by omega), if_neg (by omega)]; exact ⟨rfl, hq⟩)
      · refine x_aload0 dX3_feed_30 ?_
        refine x_bipush dX3_feed_31 ⟨by decide, by decide⟩ ?_
        refine x_callv1 dX3_feed_33 cv_X3_46 ci_X3_refuse rfl (T := TX3) rfl (by decide) (Nat.le_of_ble_eq_true rfl) (s_refuse hC (k := 6) (by decide) (by decide) (by decide)) (fun r m1 hq => ?_)
        obtain ⟨rfl, hC1, hF1⟩ := hq
        exact xe_i dX3_feed_36 (by rw [o_feed, if_neg (by omega), if_pos (by omega)]; exact ⟨rfl, hC1, hF1⟩)
  · refine x_aload0 dX3_feed_4 ?_
    refine x_bipush dX3_feed_5 ⟨by decide, by decide⟩ ?_
    refine x_callv1 dX3_feed_7 cv_X3_46 ci_X3_refuse rfl (T := TX3) rfl (by decide) (Nat.le_of_ble_eq_true rfl) (s_refuse hC (k := 4) (by decide) (by decide) (by decide)) (fun r m1 hq => ?_)
    obtain ⟨rfl, hC1, hF1⟩ := hq
    exact xe_i dX3_feed_10 (by rw [o_feed, if_pos h1]; exact ⟨rfl, hC1, hF1⟩)
theorem s_weightTonight (hC : CP m s) (hI : Is s) {n : Int} (h0 : 0 ≤ n) (h1 : n < s.1 0 0) : Mt E 4 yX3_weightTonight cX3_weightTonight 2 (some .int) [zr 55, zi n] m (CQ m (wt s.1 (may s.1 (alln (s.1 0 0))) n, s)) := by
  have hV := hI.1
  have hY := hC.1.1
  refine Mt.of 0 (by decide +kernel) (Nat.le_of_ble_eq_true rfl) (Or.inl rfl) ?_ ?_
  · exact CQ.rt
  show Ex E cX3_weightTonight 2 RX3 4 _ 0 [some (zr 55), some (zi n)] [] m
  refine x_aload0 dX3_weightTonight_0 ?_
  refine x_getR (q := 0) dX3_weightTonight_1 fd_X3_10 rfl rfl rfl ?_
  refine x_aload0 dX3_weightTonight_4 ?_
  refine x_getR (q := 0) dX3_weightTonight_5 fd_X3_10 rfl rfl rfl ?_
  refine x_aload0 dX3_weightTonight_8 ?_
  refine x_getR (q := 0) dX3_weightTonight_9 fd_X3_10 rfl rfl rfl ?_
  refine x_callv0 dX3_weightTonight_12 cv_X3_118 ci_X2_allNests (by first | rfl | exact yb_k (by assumption)) (T := TX2) rfl (by decide) (Nat.le_of_ble_eq_true rfl) (s_allNests yb_0 hY hV) (fun r m1 hq => ?_)
  obtain ⟨rfl, rfl⟩ := hq
  refine x_callv1 dX3_weightTonight_15 cv_X3_128 ci_X2_mayAmong (by first | rfl | exact yb_k (by assumption)) (T := TX2) rfl (by decide) (Nat.le_of_ble_eq_true rfl) (s_mayAmong yb_0 hY) (fun r m2 hq => ?_)
  obtain ⟨rfl, rfl⟩ := hq
  refine x_callv1 dX3_weightTonight_18 cv_X3_133 ci_X2_weigh (by first | rfl | exact yb_k (by assumption)) (T := TX2) rfl (by decide) (Nat.le_of_ble_eq_true rfl) (s_weigh yb_0 hY hV (may_sub hV.1.1 hV.2.2.1 (all_sub hV.1.1 hV.1.2))) (fun r m3 hq => ?_)
  obtain ⟨rfl, hW, hY3, hF3⟩ := hq
  show Ex _ _ _ _ _ _ _ _ [zi _] _
  have hn := hV.1
  refine x_pop dX3_weightTonight_21 ?_
  refine x_aload0 dX3_weightTonight_22 ?_
  refine x_getR (q := 0) dX3_weightTonight_23 fd_X3_10 rfl rfl rfl ?_
  refine x_getR (q := 7) dX3_weightTonight_26 fd_X3_136 rfl rfl rfl ?_
  refine x_iload1 dX3_weightTonight_29 ?_
  refine x_iald dX3_weightTonight_30 rfl (by omega) (by omega) (hW n h0 h1) ?_
  exact xe_i dX3_weightTonight_31 (⟨rfl, hC.yard (hF3.wd (by omega) (by omega)) hY3, hF3.wd (by omega) (by omega)⟩)
theorem s_nest (hC : CP m s) (hI : Is s) {n w : Int} : Mt E 5 yX3_nest cX3_nest 3 (some .int) [zr 55, zi n, zi w] m (CQ m (o_nest s n w)) := by
  have hV := hI.1
  have hY := hC.1.1
  have hn := hV.1
  refine Mt.of 0 (by decide +kernel) (Nat.le_of_ble_eq_true rfl) (Or.inl rfl) ?_ ?_
  · exact CQ.rt
  show Ex E cX3_nest 3 RX3 5 _ 0 [some (zr 55), some (zi n), some (zi w)] [] m
  refine x_aload0 dX3_nest_0 ?_
  refine x_iload1 dX3_nest_1 ?_
  refine x_callv1 dX3_nest_2 cv_X3_65 ci_X3_isNoNest rfl (T := TX3) rfl (by decide) (Nat.le_of_ble_eq_true rfl) (s_isNoNest hC) (fun r m1 hq => ?_)
  obtain ⟨rfl, ⟨h1, rfl⟩ | ⟨h1, rfl⟩⟩ := hq
  · show Ex _ _ _ _ _ _ _ _ [zi 1] _
    refine x_if_eq (tgt := 14) dX3_nest_5 rfl (fun h2 => ?_) (fun h2 => ?_)
    · omega
    · refine x_aload0 dX3_nest_8 ?_
      refine x_iconst dX3_nest_9 ⟨by decide, by decide⟩ ?_
      refine x_callv1 dX3_nest_10 cv_X3_46 ci_X3_refuse rfl (T := TX3) rfl (by decide) (Nat.le_of_ble_eq_true rfl) (s_refuse hC (k := 1) (by decide) (by decide) (by decide)) (fun r m1 hq => ?_)
      obtain ⟨rfl, hC1, hF1⟩ := hq
      exact xe_i dX3_nest_13 (by rw [o_nest, if_pos h1]; exact ⟨rfl, hC1, hF1⟩)
  · show Ex _ _ _ _ _ _ _ _ [zi 0] _
    refine x_if_eq (tgt := 14) dX3_nest_5 rfl (fun h2 => ?_) (fun h2 => ?_)
    · refine x_iload2 dX3_nest_14 ?_
      by_cases hw : w < 0 ∨ 7 < w
      · refine x_tout (tgt := 136) dX3_nest_15 (by omega) rfl ?_
        refine x_aload0 dX3_nest_136 ?_
        refine x_bipush dX3_nest_137 ⟨by decide, by decide⟩ ?_
        refine x_callv1 dX3_nest_139 cv_X3_46 ci_X3_refuse rfl (T := TX3) rfl (by decide) (Nat.le_of_ble_eq_true rfl) (s_refuse hC (k := 2) (by decide) (by decide) (by decide)) (fun r m1 hq => ?_)
        obtain ⟨rfl, hC1, hF1⟩ := hq
        exact xe_i dX3_nest_142 (by rw [o_nest, if_neg (by omega), if_neg (by omega), if_neg (by omega), if_neg (by omega), if_neg (by omega), if_neg (by omega), if_neg (by omega), if_neg (by omega), if_neg (by omega)]; exact ⟨rfl, hC1, hF1⟩)
      · have hw : w = 0 ∨ w = 1 ∨ w = 2 ∨ w = 3 ∨ w = 4 ∨ w = 5 ∨ w = 6 ∨ w = 7 := by omega
        rcases hw with rfl | rfl | rfl | rfl | rfl | rfl | rfl | rfl
        · refine x_tin (tgt := 60) (off := 45) dX3_nest_15 (by decide) (by decide) rfl rfl ?_
          refine x_aload0 dX3_nest_60 ?_
          refine x_getR (q := 0) dX3_nest_61 fd_X3_10 rfl rfl rfl ?_
          refine x_getR (q := 1) dX3_nest_64 fd_X3_69 rfl rfl rfl ?_
          refine x_iload1 dX3_nest_67 ?_
          refine x_iald dX3_nest_68 rfl (by omega) (by omega) (hY.x h1.1 (by omega)) ?_
          exact xe_i dX3_nest_69 (by rw [o_nest, if_neg (by omega)]; exact ⟨rfl, hC, Fr.rf⟩)
        · refine x_tin (tgt := 70) (off := 55) dX3_nest_15 (by decide) (by decide) rfl rfl ?_
          refine x_aload0 dX3_nest_70 ?_
          refine x_getR (q := 0) dX3_nest_71 fd_X3_10 rfl rfl rfl ?_
          refine x_getR (q := 2) dX3_nest_74 fd_X3_72 rfl rfl rfl ?_
          refine x_iload1 dX3_nest_77 ?_
          refine x_iald dX3_nest_78 rfl (by omega) (by omega) (hY.y h1.1 (by omega)) ?_
          exact xe_i dX3_nest_79 (by rw [o_nest, if_neg (by omega)]; exact ⟨rfl, hC, Fr.rf⟩)
        · refine x_tin (tgt := 80) (off := 65) dX3_nest_15 (by decide) (by decide) rfl rfl ?_
          refine x_aload0 dX3_nest_80 ?_
          refine x_getR (q := 0) dX3_nest_81 fd_X3_10 rfl rfl rfl ?_
          refine x_getR (q := 3) dX3_nest_84 fd_X3_75 rfl rfl rfl ?_
          refine x_iload1 dX3_nest_87 ?_
          refine x_iald dX3_nest_88 rfl (by omega) (by omega) (hY.min h1.1 (by omega)) ?_
          exact xe_i dX3_nest_89 (by rw [o_nest, if_neg (by omega)]; exact ⟨rfl, hC, Fr.rf⟩)
        · refine x_tin (tgt := 90) (off := 75) dX3_nest_15 (by decide) (by decide) rfl rfl ?_
          refine x_aload0 dX3_nest_90 ?_
          refine x_getR (q := 0) dX3_nest_91 fd_X3_10 rfl rfl rfl ?_
          refine x_getR (q := 4) dX3_nest_94 fd_X3_78 rfl rfl rfl ?_
          refine x_iload1 dX3_nest_97 ?_
          refine x_iald dX3_nest_98 rfl (by omega) (by omega) (hY.lik h1.1 (by omega)) ?_
          exact xe_i dX3_nest_99 (by rw [o_nest, if_neg (by omega)]; exact ⟨rfl, hC, Fr.rf⟩)
        · refine x_tin (tgt := 100) (off := 85) dX3_nest_15 (by decide) (by decide) rfl rfl ?_
          refine x_aload0 dX3_nest_100 ?_
          refine x_getR (q := 0) dX3_nest_101 fd_X3_10 rfl rfl rfl ?_
          refine x_iload1 dX3_nest_104 ?_
          refine x_callv1 dX3_nest_105 cv_X3_81 ci_X2_eggsAt (by first | rfl | exact yb_k (by assumption)) (T := TX2) rfl (by decide) (Nat.le_of_ble_eq_true rfl) (s_eggsAt yb_0 hY hV.2.2.2.2.2.2.2.2.2.1 h1.1 (by omega)) (fun r m2 hq => ?_)
          obtain ⟨rfl, rfl⟩ := hq
          exact xe_i dX3_nest_108 (by rw [o_nest, if_neg (by omega)]; exact ⟨rfl, hC, Fr.rf⟩)
        · refine x_tin (tgt := 109) (off := 94) dX3_nest_15 (by decide) (by decide) rfl rfl ?_
          refine x_aload0 dX3_nest_109 ?_
          refine x_getR (q := 0) dX3_nest_110 fd_X3_10 rfl rfl rfl ?_
          refine x_iload1 dX3_nest_113 ?_
          refine x_callv1 dX3_nest_114 cv_X3_84 ci_X2_greatestAge (by first | rfl | exact yb_k (by assumption)) (T := TX2) rfl (by decide) (Nat.le_of_ble_eq_true rfl) (s_greatestAge yb_0 hY h1.1 (by omega)) (fun r m2 hq => ?_)
          obtain ⟨rfl, rfl⟩ := hq
          exact xe_i dX3_nest_117 (by rw [o_nest, if_neg (by omega)]; exact ⟨rfl, hC, Fr.rf⟩)
        · refine x_tin (tgt := 118) (off := 103) dX3_nest_15 (by decide) (by decide) rfl rfl ?_
          refine x_aload0 dX3_nest_118 ?_
          refine x_iload1 dX3_nest_119 ?_
          refine x_callv1 dX3_nest_120 cv_X3_87 ci_X3_weightTonight rfl (T := TX3) rfl (by decide) (Nat.le_of_ble_eq_true rfl) (s_weightTonight hC hI h1.1 h1.2) (fun r m2 hq => ?_)
          obtain ⟨rfl, hq⟩ := hq
          exact xe_i dX3_nest_123 (by rw [o_nest, if_neg (by omega)]; exact ⟨rfl, hq⟩)
        · refine x_tin (tgt := 124) (off := 109) dX3_nest_15 (by decide) (by decide) rfl rfl ?_
          refine x_aload0 dX3_nest_124 ?_
          refine x_getR (q := 0) dX3_nest_125 fd_X3_10 rfl rfl rfl ?_
          refine x_getI dX3_nest_128 fd_X3_90 rfl (Or.inl rfl) (v := s.1 0 2) hY.looked ?_
          refine x_iload1 dX3_nest_131 ?_
          refine x_ishr dX3_nest_132 rfl ?_
          refine x_iconst dX3_nest_133 ⟨by decide, by decide⟩ ?_
          refine x_iand dX3_nest_134 rfl ?_
          exact xe_i dX3_nest_135 (by rw [o_nest, if_neg (by omega)]; exact ⟨rfl, hC, Fr.rf⟩)
    · omega
theorem ro77 {q : Int} (h0 : 0 ≤ q) (h1 : q < 4) : ro E 77 q.toNat = lo_f q ∧ ro E 78 q.toNat = hi_f q := by
  have : q = 0 ∨ q = 1 ∨ q = 2 ∨ q = 3 := by omega
  rcases this with rfl | rfl | rfl | rfl <;> exact ⟨rfl, rfl⟩
theorem s_set (hC : CP m s) {q v : Int} : Mt E 2 yX3_set cX3_set 4 (some .int) [zr 55, zi q, zi v] m (CQ m (o_set s q v)) := by
  have hY := hC.1.1
  refine Mt.of 1 (by decide +kernel) (Nat.le_of_ble_eq_true rfl) (Or.inl rfl) ?_ ?_
  · exact CQ.rt
  show Ex E cX3_set 4 RX3 2 _ 0 [some (zr 55), some (zi q), some (zi v), none] [] m
  have e7 : rn E 77 = 4 := rfl
  have e8 : rn E 78 = 4 := rfl
  refine x_iload1 dX3_set_0 ?_
  refine x_if_lt (tgt := 9) dX3_set_1 rfl (fun h1 => ?_) (fun h1 => ?_)
  · refine x_aload0 dX3_set_9 ?_
    refine x_bipush dX3_set_10 ⟨by decide, by decide⟩ ?_
    refine x_callv1 dX3_set_12 cv_X3_46 ci_X3_refuse rfl (T := TX3) rfl (by decide) (Nat.le_of_ble_eq_true rfl) (s_refuse hC (k := 2) (by decide) (by decide) (by decide)) (fun r m1 hq => ?_)
    obtain ⟨rfl, hC1, hF1⟩ := hq
    exact xe_i dX3_set_15 (by rw [o_set, if_pos (by omega)]; exact ⟨rfl, hC1, hF1⟩)
  · refine x_iload1 dX3_set_4 ?_
    refine x_iconst dX3_set_5 ⟨by decide, by decide⟩ ?_
    refine x_icmp_lt (tgt := 16) dX3_set_6 rfl (fun h2 => ?_) (fun h2 => ?_)
    · obtain ⟨r7, r8⟩ := ro77 (E := E) h1 h2
      refine x_iload2 dX3_set_16 ?_
      refine x_gets dX3_set_17 st_X3_93 ?_
      refine x_iload1 dX3_set_20 ?_
      refine x_rald dX3_set_21 ⟨by decide, by decide⟩ (by omega) (by omega) r7 ?_
      refine x_icmp_ge (tgt := 32) dX3_set_22 rfl (fun h3 => ?_) (fun h3 => ?_)
      · refine x_iload2 dX3_set_32 ?_
        refine x_gets dX3_set_33 st_X3_96 ?_
        refine x_iload1 dX3_set_36 ?_
        refine x_rald dX3_set_37 ⟨by decide, by decide⟩ (by omega) (by omega) r8 ?_
        refine x_icmp_le (tgt := 48) dX3_set_38 rfl (fun h4 => ?_) (fun h4 => ?_)
        · refine x_aload0 dX3_set_48 ?_
          refine x_getR (q := 0) dX3_set_49 fd_X3_10 rfl rfl rfl ?_
          refine x_getR (q := 6) dX3_set_52 fd_X3_99 rfl rfl rfl ?_
          refine x_iload1 dX3_set_55 ?_
          refine x_iald dX3_set_56 rfl (by omega) (by omega) (hY.2.1 q h1 h2) ?_
          refine x_istore3 dX3_set_57 (by decide) rfl ?_
          refine x_aload0 dX3_set_58 ?_
          refine x_getR (q := 0) dX3_set_59 fd_X3_10 rfl rfl rfl ?_
          refine x_getR (q := 6) dX3_set_62 fd_X3_99 rfl rfl rfl ?_
          refine x_iload1 dX3_set_65 ?_
          refine x_iload2 dX3_set_66 ?_
          refine x_iast dX3_set_67 rfl (by omega) (by omega) ?_
          refine x_iload3 dX3_set_68 ?_
          exact xe_i dX3_set_69 (by rw [o_set, if_neg (by omega), if_neg (by omega), if_neg (by omega)]; exact ⟨rfl, hC.yard (Fr.rf.up (by omega) (by omega)) (YP.setFig (b := 0) hY h1 h2), Fr.rf.up (by omega) (by omega)⟩)
        · refine x_aload0 dX3_set_41 ?_
          refine x_bipush dX3_set_42 ⟨by decide, by decide⟩ ?_
          refine x_callv1 dX3_set_44 cv_X3_46 ci_X3_refuse rfl (T := TX3) rfl (by decide) (Nat.le_of_ble_eq_true rfl) (s_refuse hC (k := 6) (by decide) (by decide) (by decide)) (fun r m1 hq => ?_)
          obtain ⟨rfl, hC1, hF1⟩ := hq
          exact xe_i dX3_set_47 (by rw [o_set, if_neg (by omega), if_neg (by omega), if_pos (by omega)]; exact ⟨rfl, hC1, hF1⟩)
      · refine x_aload0 dX3_set_25 ?_
        refine x_bipush dX3_set_26 ⟨by decide, by decide⟩ ?_
        refine x_callv1 dX3_set_28 cv_X3_46 ci_X3_refuse rfl (T := TX3) rfl (by decide) (Nat.le_of_ble_eq_true rfl) (s_refuse hC (k := 4) (by decide) (by decide) (by decide)) (fun r m1 hq => ?_)
        obtain ⟨rfl, hC1, hF1⟩ := hq
        exact xe_i dX3_set_31 (by rw [o_set, if_neg (by omega), if_pos (by omega)]; exact ⟨rfl, hC1, hF1⟩)
    · refine x_aload0 dX3_set_9 ?_
      refine x_bipush dX3_set_10 ⟨by decide, by decide⟩ ?_
      refine x_callv1 dX3_set_12 cv_X3_46 ci_X3_refuse rfl (T := TX3) rfl (by decide) (Nat.le_of_ble_eq_true rfl) (s_refuse hC (k := 2) (by decide) (by decide) (by decide)) (fun r m1 hq => ?_)
      obtain ⟨rfl, hC1, hF1⟩ := hq
      exact xe_i dX3_set_15 (by rw [o_set, if_pos (by omega)]; exact ⟨rfl, hC1, hF1⟩)
end MC1
