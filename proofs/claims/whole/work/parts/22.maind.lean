section MC4
variable {E : zz_E} {m : zz_M} {s : zz_S}
theorem nit_sc (V : zz_W) : nit V 0 0 = V 0 0 := rfl
theorem nit_ok {V : zz_W} {D : Int} (hI : Iv D V) (hD : D ≤ 20000) (h0 : V 0 0 ≠ 0) : Iv (D + 1) (nit V) := Iv_pass hI (lay_in hI hD h0).1 (lay_in hI hD h0).2
theorem nts_sc (V : zz_W) : ∀ n, nts n V 0 0 = V 0 0
  | 0 => rfl
  | n + 1 => nts_sc V n
theorem nts_ok {V : zz_W} {D : Int} (hI : Iv D V) (h0 : V 0 0 ≠ 0) : ∀ n : Nat, D + n ≤ 20000 → Iv (D + n) (nts n V)
  | 0, _ => hI.wd (by omega)
  | n + 1, h => by
    have h1 := nts_ok hI h0 n (by omega)
    have := nit_ok h1 (by omega) (by rw [nts_sc]; exact h0)
    exact this.wd (by omega)
theorem eac_sc (q : Int) (V : zz_W) : ∀ n, (eac q n V).2 0 0 = V 0 0
  | 0 => rfl
  | n + 1 => (tak_sc _ q 0 (by decide)).trans (eac_sc q V n)
theorem eac_ok {V : zz_W} {D q : Int} (hI : Iv D V) (h0 : V 0 0 ≠ 0) (hq : 0 ≤ q ∧ q < 64) : ∀ n : Nat, D + n ≤ 20000 → Iv (D + n) (eac q n V).2 ∧ 0 ≤ (eac q n V).1 ∧ (eac q n V).1 ≤ 540 * n
  | 0, _ => ⟨hI.wd (by omega), Int.le_refl _, by show (0 : Int) ≤ _; omega⟩
  | n + 1, h => by
    obtain ⟨h1, h2, h3⟩ := eac_ok hI h0 hq n (by omega)
    have h4 := Iv_tak h1 hq.1 hq.2
    have h5 := nit_ok h4 (by omega) (by rw [tak_sc _ _ _ (by decide), eac_sc]; exact h0)
    have h6 := tkn_bd (V := (eac q n V).2) h1.2.2.2.2.2.2.2.2.2.1 q ((eac q n V).2 0 0).toNat (by have := h1.1; omega)
    refine ⟨h5.wd (by omega), ?_, ?_⟩
    · show 0 ≤ (eac q n V).1 + tkn (eac q n V).2 q
      unfold tkn
      omega
    · show (eac q n V).1 + tkn (eac q n V).2 q ≤ _
      unfold tkn
      push_cast
      omega
theorem CP.yp16 (h : CP m s) : ∃ V', YP m 16 V' := h.1.2.2.1
/-- an empty look forgets -/
theorem Iv_l0 {V : zz_W} {D : Int} (h : Iv D V) : Iv D (ux V 0 2 0) := Iv_ux0 h (Or.inl ⟨rfl, by decide, by decide⟩)
theorem s_each (hC : CP m s) (hI : Is s) {q n : Int} : Mt E 5 yX3_each cX3_each 5 (some .int) [zr 55, zi q, zi n] m (CQ m (o_each s q n)) := by
  have hV := hI.1
  have hY := hC.1.1
  have hn := hV.1
  refine Mt.of 2 (by decide +kernel) (Nat.le_of_ble_eq_true rfl) (Or.inl rfl) ?_ ?_
  · exact CQ.rt
  show Ex E cX3_each 5 RX3 5 _ 0 [some (zr 55), some (zi q), some (zi n), none, none] [] m
  refine Ex.okL (fun hL => ?_)
  have hqi : zz_in q := hL (zi q) (List.mem_cons_of_mem _ List.mem_cons_self)
  clear hL
  refine x_iload1 dX3_each_0 ?_
  refine x_aload0 dX3_each_1 ?_
  refine x_getR (q := 0) dX3_each_2 fd_X3_10 rfl rfl rfl ?_
  refine x_getI dX3_each_5 fd_X3_112 rfl (Or.inl rfl) (v := s.1 0 0) hY.nests ?_
  refine x_ishr dX3_each_8 rfl ?_
  refine x_if_eq (tgt := 18) dX3_each_9 rfl (fun h1 => ?_) (fun h1 => ?_)
  · refine x_iload2 dX3_each_18 ?_
    refine x_iconst dX3_each_19 ⟨by decide, by decide⟩ ?_
    refine x_icmp_ge (tgt := 30) dX3_each_20 rfl (fun h2 => ?_) (fun h2 => ?_)
    · refine x_iload2 dX3_each_30 ?_
      refine x_bipush dX3_each_31 ⟨by decide, by decide⟩ ?_
      refine x_icmp_le (tgt := 43) dX3_each_33 rfl (fun h3 => ?_) (fun h3 => ?_)
      · refine x_aload0 dX3_each_43 ?_
        refine x_getR (q := 0) dX3_each_44 fd_X3_10 rfl rfl rfl ?_
        refine x_getI dX3_each_47 fd_X3_112 rfl (Or.inl rfl) (v := s.1 0 0) hY.nests ?_
        refine x_if_ne (tgt := 60) dX3_each_50 rfl (fun h4 => ?_) (fun h4 => ?_)
        · have hq6 := isr_bd hqi hn.1 hn.2 h1
          have hV0 := Iv_l0 hV
          have hok := eac_ok hV0 (show ux s.1 0 2 0 0 0 ≠ 0 from h4) hq6
          obtain ⟨V1, hY1⟩ := hC.yp16
          refine x_aload0 dX3_each_60 ?_
          refine x_getR (q := 16) dX3_each_61 fd_X3_19 rfl rfl rfl ?_
          refine x_aload0 dX3_each_64 ?_
          refine x_getR (q := 0) dX3_each_65 fd_X3_10 rfl rfl rfl ?_
          refine x_callv1 dX3_each_68 cv_X3_57 ci_X2_copyFrom (by first | rfl | exact yb_k (by assumption)) (T := TX2) rfl (by decide) (Nat.le_of_ble_eq_true rfl) (s_copyFrom yb_16 yb_0 (by omega) hY1 hY) (fun r m1 hq => ?_)
          obtain ⟨rfl, hYm, hF1⟩ := hq
          show Ex _ _ _ _ _ _ _ _ [] _
          refine x_aload0 dX3_each_71 ?_
          refine x_getR (q := 16) dX3_each_72 fd_X3_19 rfl rfl rfl ?_
          refine x_iconst dX3_each_75 ⟨by decide, by decide⟩ ?_
          refine x_putI dX3_each_76 fd_X3_90 rfl rfl ?_
          refine x_iconst dX3_each_79 ⟨by decide, by decide⟩ ?_
          refine x_istore3 dX3_each_80 (by decide) rfl ?_
          refine x_iconst dX3_each_81 ⟨by decide, by decide⟩ ?_
          refine x_istore4 dX3_each_82 (by decide) rfl ?_
          have hYm2 := YP.setLooked (b := 16) (x := 0) hYm
          have hF2 : Fr 16 24 m (up m1 16 9 0) := (hF1.wd (by omega) (by omega)).up (by omega) (by omega)
          have loop : ∀ (k j : Nat) (m2 : zz_M), (j : Int) + k = n → YP m2 16 (eac q j (ux s.1 0 2 0)).2 → Fr 16 24 m m2 → Ex E cX3_each 5 RX3 5 (CQ m (o_each s q n)) 84 [some (zr 55), some (zi q), some (zi n), some (zi (eac q j (ux s.1 0 2 0)).1), some (zi j)] [] m2 := by
            intro k
            induction k with
            | zero =>
              intro j m2 hj hY2 hF2
              refine x_iload4 dX3_each_84 ?_
              refine x_iload2 dX3_each_86 ?_
              refine x_icmp_ge (tgt := 128) dX3_each_87 rfl (fun h5 => ?_) (fun h5 => ?_)
              · refine x_iload3 dX3_each_128 ?_
                have e1 : n.toNat = j := by omega
                exact xe_i dX3_each_129 (by rw [o_each, if_neg (fun z => z h1), if_neg (by omega), if_neg (by omega), if_neg h4, e1]; exact ⟨rfl, hC.mind hF2 hY2, hF2.wd (by omega) (by omega)⟩)
              · omega
            | succ k ih =>
              intro j m2 hj hY2 hF2
              obtain ⟨g1, g2, g3⟩ := hok j (by omega)
              have gt := tkn_bd (V := (eac q j (ux s.1 0 2 0)).2) g1.2.2.2.2.2.2.2.2.2.1 q ((eac q j (ux s.1 0 2 0)).2 0 0).toNat (by have := g1.1; omega)
              refine x_iload4 dX3_each_84 ?_
              refine x_iload2 dX3_each_86 ?_
              refine x_icmp_ge (tgt := 128) dX3_each_87 rfl (fun h5 => ?_) (fun h5 => ?_)
              · omega
              · refine x_iload3 dX3_each_90 ?_
                refine x_aload0 dX3_each_91 ?_
                refine x_getR (q := 16) dX3_each_92 fd_X3_19 rfl rfl rfl ?_
                refine x_iload1 dX3_each_95 ?_
                refine x_callv1 dX3_each_96 cv_X3_106 ci_X2_takeEggs (by first | rfl | exact yb_k (by assumption)) (T := TX2) rfl (by decide) (Nat.le_of_ble_eq_true rfl) (s_takeEggs yb_16 hY2 g1) (fun r m3 hq => ?_)
                obtain ⟨rfl, hY3, hF3⟩ := hq
                show Ex _ _ _ _ _ _ _ _ [zi (tkn (eac q j (ux s.1 0 2 0)).2 q), zi _] _
                have gt2 : 0 ≤ tkn (eac q j (ux s.1 0 2 0)).2 q ∧ tkn (eac q j (ux s.1 0 2 0)).2 q ≤ 540 := gt
                refine x_iadd dX3_each_99 (nrm_id (by omega) (by omega)) ?_
                refine x_istore3 dX3_each_100 (by decide) rfl ?_
                refine x_aload0 dX3_each_101 ?_
                refine x_getR (q := 16) dX3_each_102 fd_X3_19 rfl rfl rfl ?_
                refine x_aload0 dX3_each_105 ?_
                refine x_getR (q := 16) dX3_each_106 fd_X3_19 rfl rfl rfl ?_
                refine x_aload0 dX3_each_109 ?_
                refine x_getR (q := 16) dX3_each_110 fd_X3_19 rfl rfl rfl ?_
                have g4 := Iv_tak g1 hq6.1 hq6.2
                have g5 : tak (eac q j (ux s.1 0 2 0)).2 q 0 0 ≠ 0 := by
                  rw [tak_sc _ _ _ (by decide), eac_sc]
                  exact h4
                refine x_callv0 dX3_each_113 cv_X3_118 ci_X2_allNests (by first | rfl | exact yb_k (by assumption)) (T := TX2) rfl (by decide) (Nat.le_of_ble_eq_true rfl) (s_allNests yb_16 hY3 g4) (fun r m4 hq => ?_)
                obtain ⟨rfl, rfl⟩ := hq
                refine x_callv1 dX3_each_116 cv_X3_121 ci_X2_laysAmong (by first | rfl | exact yb_k (by assumption)) (T := TX2) rfl (by decide) (Nat.le_of_ble_eq_true rfl) (s_laysAmong yb_16 hY3 g4 (by omega) (all_sub g4.1.1 g4.1.2)) (fun r m5 hq => ?_)
                obtain ⟨rfl, hY5, hF5⟩ := hq
                have hl := lay_in g4 (by omega) g5
                rw [lc_nn (show 0 ≤ lays _ (alln _) from hl.1)]
                refine x_callv1 dX3_each_119 cv_X3_124 ci_X2_passNight (by first | rfl | exact yb_k (by assumption)) (T := TX2) rfl (by decide) (Nat.le_of_ble_eq_true rfl) (s_passNight yb_16 hY5 g4 (by omega) hl) (fun r m6 hq => ?_)
                obtain ⟨rfl, hY6, hF6⟩ := hq
                show Ex _ _ _ _ _ _ _ _ [] _
                refine x_iinc4 dX3_each_122 (by decide) rfl (nrm_id (by omega) (by omega)) ?_
                refine x_goto (tgt := 84) dX3_each_125 rfl ?_
                refine Ex.eq ?_ rfl rfl (ih (j + 1) m6 (by omega) hY6 (((hF2.tr hF3).to hF5 (by omega) (by omega)).tr hF6))
                rw [show (((j + 1 : Nat) : Nat) : Int) = (j : Int) + 1 by omega]
                rfl
          exact loop n.toNat 0 _ (by omega) hYm2 hF2
        · refine x_aload0 dX3_each_53 ?_
          refine x_bipush dX3_each_54 ⟨by decide, by decide⟩ ?_
          refine x_callv1 dX3_each_56 cv_X3_46 ci_X3_refuse rfl (T := TX3) rfl (by decide) (Nat.le_of_ble_eq_true rfl) (s_refuse hC (k := 3) (by decide) (by decide) (by decide)) (fun r m1 hq => ?_)
          obtain ⟨rfl, hC1, hF1⟩ := hq
          exact xe_i dX3_each_59 (by rw [o_each, if_neg (fun z => z h1), if_neg (by omega), if_neg (by omega), if_pos h4]; exact ⟨rfl, hC1, hF1⟩)
      · refine x_aload0 dX3_each_36 ?_
        refine x_bipush dX3_each_37 ⟨by decide, by decide⟩ ?_
        refine x_callv1 dX3_each_39 cv_X3_46 ci_X3_refuse rfl (T := TX3) rfl (by decide) (Nat.le_of_ble_eq_true rfl) (s_refuse hC (k := 6) (by decide) (by decide) (by decide)) (fun r m1 hq => ?_)
        obtain ⟨rfl, hC1, hF1⟩ := hq
        exact xe_i dX3_each_42 (by rw [o_each, if_neg (fun z => z h1), if_neg (by omega), if_pos h3]; exact ⟨rfl, hC1, hF1⟩)
    · refine x_aload0 dX3_each_23 ?_
      refine x_bipush dX3_each_24 ⟨by decide, by decide⟩ ?_
      refine x_callv1 dX3_each_26 cv_X3_46 ci_X3_refuse rfl (T := TX3) rfl (by decide) (Nat.le_of_ble_eq_true rfl) (s_refuse hC (k := 4) (by decide) (by decide) (by decide)) (fun r m1 hq => ?_)
      obtain ⟨rfl, hC1, hF1⟩ := hq
      exact xe_i dX3_each_29 (by rw [o_each, if_neg (fun z => z h1), if_pos h2]; exact ⟨rfl, hC1, hF1⟩)
  · refine x_aload0 dX3_each_12 ?_
    refine x_iconst dX3_each_13 ⟨by decide, by decide⟩ ?_
    refine x_callv1 dX3_each_14 cv_X3_46 ci_X3_refuse rfl (T := TX3) rfl (by decide) (Nat.le_of_ble_eq_true rfl) (s_refuse hC (k := 1) (by decide) (by decide) (by decide)) (fun r m1 hq => ?_)
    obtain ⟨rfl, hC1, hF1⟩ := hq
    exact xe_i dX3_each_17 (by rw [o_each, if_pos h1]; exact ⟨rfl, hC1, hF1⟩)
theorem s_row (hC : CP m s) (hI : Is s) {n : Int} : Mt E 2 yX3_row cX3_row 2 (some .int) [zr 55, zi n] m (CQ m (o_row s n)) := by
  have hl0 := hI.2.2.2.1
  have hR := hC.2
  refine Mt.of 0 (by decide +kernel) (Nat.le_of_ble_eq_true rfl) (Or.inl rfl) ?_ ?_
  · exact CQ.rt
  show Ex E cX3_row 2 RX3 2 _ 0 [some (zr 55), some (zi n)] [] m
  refine x_iload1 dX3_row_0 ?_
  refine x_if_ge (tgt := 11) dX3_row_1 rfl (fun h1 => ?_) (fun h1 => ?_)
  · refine x_iload1 dX3_row_11 ?_
    refine x_bipush dX3_row_12 ⟨by decide, by decide⟩ ?_
    refine x_icmp_ge (tgt := 26) dX3_row_14 rfl (fun h2 => ?_) (fun h2 => ?_)
    · refine x_aload0 dX3_row_26 ?_
      refine x_bipush dX3_row_27 ⟨by decide, by decide⟩ ?_
      refine x_callv1 dX3_row_29 cv_X3_46 ci_X3_refuse rfl (T := TX3) rfl (by decide) (Nat.le_of_ble_eq_true rfl) (s_refuse hC (k := 6) (by decide) (by decide) (by decide)) (fun r m1 hq => ?_)
      obtain ⟨rfl, hC1, hF1⟩ := hq
      exact xe_i dX3_row_32 (by rw [o_row, if_neg (by omega), if_pos (by omega)]; exact ⟨rfl, hC1, hF1⟩)
    · refine x_aload0 dX3_row_17 ?_
      refine x_getI dX3_row_18 fd_X3_156 rfl (Or.inl rfl) (v := s.2.2 0 1) hR.2.2.1 ?_
      refine x_bipush dX3_row_21 ⟨by decide, by decide⟩ ?_
      refine x_icmp_lt (tgt := 33) dX3_row_23 rfl (fun h3 => ?_) (fun h3 => ?_)
      · refine x_aload0 dX3_row_33 ?_
        refine x_getR (q := 56) dX3_row_34 fd_X3_36 rfl rfl rfl ?_
        refine x_aload0 dX3_row_37 ?_
        refine x_getI dX3_row_38 fd_X3_156 rfl (Or.inl rfl) (v := s.2.2 0 1) hR.2.2.1 ?_
        refine x_iload1 dX3_row_41 ?_
        refine x_iast dX3_row_42 rfl (by omega) (by omega) ?_
        refine x_aload0 dX3_row_43 ?_
        refine x_dupr dX3_row_44 ?_
        have e1 : up m 56 (s.2.2 0 1).toNat n 55 8 = s.2.2 0 1 := by rw [up_cell (by decide)]; exact hR.2.2.1
        refine x_getI dX3_row_45 fd_X3_156 rfl (Or.inl rfl) e1 ?_
        refine x_iconst dX3_row_48 ⟨by decide, by decide⟩ ?_
        refine x_iadd dX3_row_49 (nrm_id (by omega) (by omega)) ?_
        refine x_putI dX3_row_50 fd_X3_156 rfl rfl ?_
        refine x_aload0 dX3_row_53 ?_
        refine x_getI dX3_row_54 fd_X3_156 rfl (Or.inl rfl) (v := s.2.2 0 1 + 1) (up_same _ _ _ _) ?_
        refine xe_i dX3_row_57 ?_
        rw [o_row, if_neg (by omega), if_neg (by omega)]
        refine ⟨rfl, hC.rest (lo := 55) (hi := 57) ((Fr.rf.up (by omega) (by omega)).up (by omega) (by omega)) (by omega) ?_, (Fr.rf.up (by omega) (by omega)).up (by omega) (by omega)⟩
        obtain ⟨g1, g2, g3, g4, g5, g6⟩ := hR
        refine ⟨?_, fun z a b => ?_, ?_, ?_, fun z a b => ?_, fun z a b => ?_⟩
        · rw [up_cell (by decide), up_cell (by decide), g1]; rfl
        · rw [up_cell (by decide), up_cell (by decide), g2 z a b]; rfl
        · rw [up_same]; rfl
        · rw [upn (by decide), up_cell (by decide), g4]; rfl
        · rw [up_cell (by decide)]
          unfold up ux
          simp only [show ¬ ((2 : Nat) = 0) by decide, false_and, if_false, true_and]
          by_cases hz : z = s.2.2 0 1
          · subst hz; simp
          · rw [if_neg (by omega), if_neg hz]; exact g5 z a b
        · rw [up_cell (by decide), up_cell (by decide), g6 z a b]; rfl
      · refine x_aload0 dX3_row_26 ?_
        refine x_bipush dX3_row_27 ⟨by decide, by decide⟩ ?_
        refine x_callv1 dX3_row_29 cv_X3_46 ci_X3_refuse rfl (T := TX3) rfl (by decide) (Nat.le_of_ble_eq_true rfl) (s_refuse hC (k := 6) (by decide) (by decide) (by decide)) (fun r m1 hq => ?_)
        obtain ⟨rfl, hC1, hF1⟩ := hq
        exact xe_i dX3_row_32 (by rw [o_row, if_neg (by omega), if_pos (by omega)]; exact ⟨rfl, hC1, hF1⟩)
  · refine x_aload0 dX3_row_4 ?_
    refine x_bipush dX3_row_5 ⟨by decide, by decide⟩ ?_
    refine x_callv1 dX3_row_7 cv_X3_46 ci_X3_refuse rfl (T := TX3) rfl (by decide) (Nat.le_of_ble_eq_true rfl) (s_refuse hC (k := 4) (by decide) (by decide) (by decide)) (fun r m1 hq => ?_)
    obtain ⟨rfl, hC1, hF1⟩ := hq
    exact xe_i dX3_row_10 (by rw [o_row, if_pos h1]; exact ⟨rfl, hC1, hF1⟩)
theorem s_settle (hC : CP m s) (hI : Is s) {n : Int} : Mt E 5 yX3_settle cX3_settle 3 (some .int) [zr 55, zi n] m (CQ m (o_settle s n)) := by
  have hV := hI.1
  have hY := hC.1.1
  have hn := hV.1
  refine Mt.of 1 (by decide +kernel) (Nat.le_of_ble_eq_true rfl) (Or.inl rfl) ?_ ?_
  · exact CQ.rt
  show Ex E cX3_settle 3 RX3 5 _ 0 [some (zr 55), some (zi n), none] [] m
  refine x_iload1 dX3_settle_0 ?_
  refine x_if_ge (tgt := 11) dX3_settle_1 rfl (fun h1 => ?_) (fun h1 => ?_)
  · refine x_iload1 dX3_settle_11 ?_
    refine x_bipush dX3_settle_12 ⟨by decide, by decide⟩ ?_
    refine x_icmp_le (tgt := 24) dX3_settle_14 rfl (fun h2 => ?_) (fun h2 => ?_)
    · refine x_aload0 dX3_settle_24 ?_
      refine x_getR (q := 0) dX3_settle_25 fd_X3_10 rfl rfl rfl ?_
      refine x_getI dX3_settle_28 fd_X3_112 rfl (Or.inl rfl) (v := s.1 0 0) hY.nests ?_
      refine x_if_ne (tgt := 41) dX3_settle_31 rfl (fun h3 => ?_) (fun h3 => ?_)
      · obtain ⟨V1, hY1⟩ := hC.yp16
        have hok := nts_ok hV h3
        refine x_aload0 dX3_settle_41 ?_
        refine x_getR (q := 16) dX3_settle_42 fd_X3_19 rfl rfl rfl ?_
        refine x_aload0 dX3_settle_45 ?_
        refine x_getR (q := 0) dX3_settle_46 fd_X3_10 rfl rfl rfl ?_
        refine x_callv1 dX3_settle_49 cv_X3_57 ci_X2_copyFrom (by first | rfl | exact yb_k (by assumption)) (T := TX2) rfl (by decide) (Nat.le_of_ble_eq_true rfl) (s_copyFrom yb_16 yb_0 (by omega) hY1 hY) (fun r m1 hq => ?_)
        obtain ⟨rfl, hYm, hF1⟩ := hq
        show Ex _ _ _ _ _ _ _ _ [] _
        refine x_iconst dX3_settle_52 ⟨by decide, by decide⟩ ?_
        refine x_istore2 dX3_settle_53 (by decide) rfl ?_
        have loop : ∀ (k j : Nat) (m2 : zz_M), (j : Int) + k = n → YP m2 16 (nts j s.1) → Fr 16 24 m m2 → Ex E cX3_settle 3 RX3 5 (CQ m (o_settle s n)) 54 [some (zr 55), some (zi n), some (zi j)] [] m2 := by
          intro k
          induction k with
          | zero =>
            intro j m2 hj hY2 hF2
            refine x_iload2 dX3_settle_54 ?_
            refine x_iload1 dX3_settle_55 ?_
            refine x_icmp_ge (tgt := 86) dX3_settle_56 rfl (fun h5 => ?_) (fun h5 => ?_)
            · have e1 : n.toNat = j := by omega
              refine x_aload0 dX3_settle_86 ?_
              refine x_getR (q := 16) dX3_settle_87 fd_X3_19 rfl rfl rfl ?_
              refine x_callv0 dX3_settle_90 cv_X3_173 ci_X2_allEggs (by first | rfl | exact yb_k (by assumption)) (T := TX2) rfl (by decide) (Nat.le_of_ble_eq_true rfl) (s_allEggs yb_16 hY2 (hok j (by omega))) (fun r m3 hq => ?_)
              obtain ⟨rfl, rfl⟩ := hq
              exact xe_i dX3_settle_93 (by rw [o_settle, if_neg (by omega), if_neg (by omega), if_neg h3, e1]; exact ⟨rfl, hC.mind hF2 hY2, hF2.wd (by omega) (by omega)⟩)
            · omega
          | succ k ih =>
            intro j m2 hj hY2 hF2
            have g4 := hok j (by omega)
            refine x_iload2 dX3_settle_54 ?_
            refine x_iload1 dX3_settle_55 ?_
            refine x_icmp_ge (tgt := 86) dX3_settle_56 rfl (fun h5 => ?_) (fun h5 => ?_)
            · omega
            · refine x_aload0 dX3_settle_59 ?_
              refine x_getR (q := 16) dX3_settle_60 fd_X3_19 rfl rfl rfl ?_
              refine x_aload0 dX3_settle_63 ?_
              refine x_getR (q := 16) dX3_settle_64 fd_X3_19 rfl rfl rfl ?_
              refine x_aload0 dX3_settle_67 ?_
              refine x_getR (q := 16) dX3_settle_68 fd_X3_19 rfl rfl rfl ?_
              refine x_callv0 dX3_settle_71 cv_X3_118 ci_X2_allNests (by first | rfl | exact yb_k (by assumption)) (T := TX2) rfl (by decide) (Nat.le_of_ble_eq_true rfl) (s_allNests yb_16 hY2 g4) (fun r m4 hq => ?_)
              obtain ⟨rfl, rfl⟩ := hq
              refine x_callv1 dX3_settle_74 cv_X3_121 ci_X2_laysAmong (by first | rfl | exact yb_k (by assumption)) (T := TX2) rfl (by decide) (Nat.le_of_ble_eq_true rfl) (s_laysAmong yb_16 hY2 g4 (by omega) (all_sub g4.1.1 g4.1.2)) (fun r m5 hq => ?_)
              obtain ⟨rfl, hY5, hF5⟩ := hq
              have hl := lay_in g4 (by omega) (by rw [nts_sc]; exact h3)
              rw [lc_nn (show 0 ≤ lays _ (alln _) from hl.1)]
              refine x_callv1 dX3_settle_77 cv_X3_124 ci_X2_passNight (by first | rfl | exact yb_k (by assumption)) (T := TX2) rfl (by decide) (Nat.le_of_ble_eq_true rfl) (s_passNight yb_16 hY5 g4 (by omega) hl) (fun r m6 hq => ?_)
              obtain ⟨rfl, hY6, hF6⟩ := hq
              show Ex _ _ _ _ _ _ _ _ [] _
              refine x_iinc2 dX3_settle_80 (by decide) rfl (nrm_id (by omega) (by omega)) ?_
              refine x_goto (tgt := 54) dX3_settle_83 rfl ?_
              refine Ex.eq ?_ rfl rfl (ih (j + 1) m6 (by omega) hY6 ((hF2.to hF5 (by omega) (by omega)).tr hF6))
              rw [show (((j + 1 : Nat) : Nat) : Int) = (j : Int) + 1 by omega]
        exact loop n.toNat 0 _ (by omega) hYm hF1
      · refine x_aload0 dX3_settle_34 ?_
        refine x_bipush dX3_settle_35 ⟨by decide, by decide⟩ ?_
        refine x_callv1 dX3_settle_37 cv_X3_46 ci_X3_refuse rfl (T := TX3) rfl (by decide) (Nat.le_of_ble_eq_true rfl) (s_refuse hC (k := 3) (by decide) (by decide) (by decide)) (fun r m1 hq => ?_)
        obtain ⟨rfl, hC1, hF1⟩ := hq
        exact xe_i dX3_settle_40 (by rw [o_settle, if_neg (by omega), if_neg (by omega), if_pos h3]; exact ⟨rfl, hC1, hF1⟩)
    · refine x_aload0 dX3_settle_17 ?_
      refine x_bipush dX3_settle_18 ⟨by decide, by decide⟩ ?_
      refine x_callv1 dX3_settle_20 cv_X3_46 ci_X3_refuse rfl (T := TX3) rfl (by decide) (Nat.le_of_ble_eq_true rfl) (s_refuse hC (k := 6) (by decide) (by decide) (by decide)) (fun r m1 hq => ?_)
      obtain ⟨rfl, hC1, hF1⟩ := hq
      exact xe_i dX3_settle_23 (by rw [o_settle, if_neg (by omega), if_pos h2]; exact ⟨rfl, hC1, hF1⟩)
  · refine x_aload0 dX3_settle_4 ?_
    refine x_bipush dX3_settle_5 ⟨by decide, by decide⟩ ?_
    refine x_callv1 dX3_settle_7 cv_X3_46 ci_X3_refuse rfl (T := TX3) rfl (by decide) (Nat.le_of_ble_eq_true rfl) (s_refuse hC (k := 4) (by decide) (by decide) (by decide)) (fun r m1 hq => ?_)
    obtain ⟨rfl, hC1, hF1⟩ := hq
    exact xe_i dX3_settle_10 (by rw [o_settle, if_pos h1]; exact ⟨rfl, hC1, hF1⟩)
end MC4
