section RM6
variable {E : zz_E} {m : zz_M} {s : zz_S}
theorem t_nest (hC : MPS m s) (hI : Is s) {n w : Int} : Mt E 4 yX4_nest cX4_nest 3 (some .int) [zr 59, zi n, zi w] m (RQ m (o_nest s n w)) := by
  have hV := hI.1
  have hn := hV.1
  refine Mt.of 0 (by decide +kernel) (Nat.le_of_ble_eq_true rfl) (Or.inl rfl) ?_ ?_
  · exact RQ.rt
  show Ex E cX4_nest 3 RX4 4 _ 0 [some (zr 59), some (zi n), some (zi w)] [] m
  refine x_aload0 dX4_nest_0 ?_
  refine x_iconst dX4_nest_1 ⟨by decide, by decide⟩ ?_
  refine x_putI dX4_nest_2 fd_X4_74 rfl rfl ?_
  refine th15 (fun m hC => ?_) hC
  have hM := hC.1
  have he := hV.2.2.2.2.2.2.2.2.2.1
  refine x_aload0 dX4_nest_5 ?_
  refine x_iload1 dX4_nest_6 ?_
  refine x_callv1 dX4_nest_7 cv_X4_175 ci_X4_isNest rfl (T := TX4) rfl (by omega) (Nat.le_of_ble_eq_true rfl) (t_isNest hM hn) (fun r m1 hq => ?_)
  obtain ⟨rfl, rfl⟩ := hq
  by_cases h1 : 0 ≤ n ∧ n < s.1 0 0
  · rw [if_pos h1]
    show Ex _ _ _ _ _ _ _ _ [zi 1] _
    have h2 : ¬ (n < 0 ∨ s.1 0 0 ≤ n) := by omega
    refine x_if_ne (tgt := 19) dX4_nest_10 rfl (fun c1 => ?_) (fun c1 => ?_)
    · refine x_iload2 dX4_nest_19 ?_
      by_cases w0 : w = 0
      · subst w0
        refine x_tin (tgt := 68) (off := 48) dX4_nest_20 (by decide) (by decide) rfl rfl ?_
        refine x_aload0 dX4_nest_68 ?_
        refine x_getR (q := 60) dX4_nest_69 fd_X4_19 rfl rfl rfl ?_
        refine x_iload1 dX4_nest_72 ?_
        refine x_iald dX4_nest_73 rfl (by omega) (by omega) (v := s.1 1 n) (hM.x h1.1 (by omega)) ?_
        exact xe_i dX4_nest_74 (by rw [o_nest, if_neg h2]; exact ⟨rfl, hC, Fr.rf⟩)
      by_cases w1 : w = 1
      · subst w1
        refine x_tin (tgt := 75) (off := 55) dX4_nest_20 (by decide) (by decide) rfl rfl ?_
        refine x_aload0 dX4_nest_75 ?_
        refine x_getR (q := 61) dX4_nest_76 fd_X4_23 rfl rfl rfl ?_
        refine x_iload1 dX4_nest_79 ?_
        refine x_iald dX4_nest_80 rfl (by omega) (by omega) (v := s.1 2 n) (hM.y h1.1 (by omega)) ?_
        exact xe_i dX4_nest_81 (by rw [o_nest, if_neg h2]; exact ⟨rfl, hC, Fr.rf⟩)
      by_cases w2 : w = 2
      · subst w2
        refine x_tin (tgt := 82) (off := 62) dX4_nest_20 (by decide) (by decide) rfl rfl ?_
        refine x_aload0 dX4_nest_82 ?_
        refine x_getR (q := 62) dX4_nest_83 fd_X4_26 rfl rfl rfl ?_
        refine x_iload1 dX4_nest_86 ?_
        refine x_iald dX4_nest_87 rfl (by omega) (by omega) (v := s.1 3 n) (hM.min h1.1 (by omega)) ?_
        exact xe_i dX4_nest_88 (by rw [o_nest, if_neg h2]; exact ⟨rfl, hC, Fr.rf⟩)
      by_cases w3 : w = 3
      · subst w3
        refine x_tin (tgt := 89) (off := 69) dX4_nest_20 (by decide) (by decide) rfl rfl ?_
        refine x_aload0 dX4_nest_89 ?_
        refine x_getR (q := 63) dX4_nest_90 fd_X4_29 rfl rfl rfl ?_
        refine x_iload1 dX4_nest_93 ?_
        refine x_iald dX4_nest_94 rfl (by omega) (by omega) (v := s.1 4 n) (hM.lik h1.1 (by omega)) ?_
        exact xe_i dX4_nest_95 (by rw [o_nest, if_neg h2]; exact ⟨rfl, hC, Fr.rf⟩)
      by_cases w4 : w = 4
      · subst w4
        refine x_tin (tgt := 96) (off := 76) dX4_nest_20 (by decide) (by decide) rfl rfl ?_
        refine x_aload0 dX4_nest_96 ?_
        refine x_iload1 dX4_nest_97 ?_
        refine x_callv1 dX4_nest_98 cv_X4_91 ci_X4_eggsIn rfl (T := TX4) rfl (by omega) (Nat.le_of_ble_eq_true rfl) (t_eggsIn hM he h1.1 (by omega)) (fun r m2 hq => ?_)
        obtain ⟨rfl, rfl⟩ := hq
        exact xe_i dX4_nest_101 (by rw [o_nest, if_neg h2]; exact ⟨rfl, hC, Fr.rf⟩)
      by_cases w5 : w = 5
      · subst w5
        refine x_tin (tgt := 102) (off := 82) dX4_nest_20 (by decide) (by decide) rfl rfl ?_
        refine x_aload0 dX4_nest_102 ?_
        refine x_iload1 dX4_nest_103 ?_
        refine x_callv1 dX4_nest_104 cv_X4_191 ci_X4_oldest rfl (T := TX4) rfl (by omega) (Nat.le_of_ble_eq_true rfl) (t_oldest hM h1.1 (by omega)) (fun r m2 hq => ?_)
        obtain ⟨rfl, rfl⟩ := hq
        exact xe_i dX4_nest_107 (by rw [o_nest, if_neg h2]; exact ⟨rfl, hC, Fr.rf⟩)
      by_cases w6 : w = 6
      · subst w6
        refine x_tin (tgt := 108) (off := 88) dX4_nest_20 (by decide) (by decide) rfl rfl ?_
        refine x_aload0 dX4_nest_108 ?_
        refine x_callv0 dX4_nest_109 cv_X4_111 ci_X4_weigh rfl (T := TX4) rfl (by omega) (Nat.le_of_ble_eq_true rfl) (t_weigh hM hV hC.gone rfl (may_sub hn.1 hV.2.2.1 (by rw [gs_all]; exact all_sub hn.1 hn.2))) (fun r m2 hq => ?_)
        obtain ⟨rfl, hW, -, hF⟩ := hq
        show Ex _ _ _ _ _ _ _ _ [] _
        refine x_aload0 dX4_nest_112 ?_
        refine x_getR (q := 66) dX4_nest_113 fd_X4_41 rfl rfl rfl ?_
        refine x_iload1 dX4_nest_116 ?_
        refine x_iald dX4_nest_117 rfl (by omega) (by omega) (v := wt s.1 (may s.1 (gs s.1 (-1))) n) (hW n h1.1 h1.2) ?_
        exact xe_i dX4_nest_118 (by rw [o_nest, if_neg h2]; exact ⟨by rw [gs_all]; rfl, hC.fg (hF.fg (a := 67) (b := 67)) (by decide) (hF.mp hM), (hF.fg (a := 67) (b := 67)).fr (by decide)⟩)
      by_cases w7 : w = 7
      · subst w7
        refine x_tin (tgt := 119) (off := 99) dX4_nest_20 (by decide) (by decide) rfl rfl ?_
        refine x_aload0 dX4_nest_119 ?_
        refine x_getI dX4_nest_120 fd_X4_84 rfl (Or.inl rfl) (v := s.1 0 2) hM.looked ?_
        refine x_iload1 dX4_nest_123 ?_
        refine x_ishr dX4_nest_124 rfl ?_
        refine x_iconst dX4_nest_125 ⟨by decide, by decide⟩ ?_
        refine x_iand dX4_nest_126 rfl ?_
        exact xe_i dX4_nest_127 (by rw [o_nest, if_neg h2]; exact ⟨rfl, hC, Fr.rf⟩)
      refine x_tout (tgt := 128) dX4_nest_20 (by omega) rfl ?_
      refine x_aload0 dX4_nest_128 ?_
      refine x_bipush dX4_nest_129 ⟨by decide, by decide⟩ ?_
      refine x_callv1 dX4_nest_131 cv_X4_150 ci_X4_refuse rfl (T := TX4) rfl (by omega) (Nat.le_of_ble_eq_true rfl) (t_refuse hC (k := 2) (by decide) (by decide) (by decide)) (fun r m1 hq => ?_)
      obtain ⟨rfl, hC1, hF1⟩ := hq
      exact xe_i dX4_nest_134 (by rw [o_nest, if_neg h2, if_neg w0, if_neg w1, if_neg w2, if_neg w3, if_neg w4, if_neg w5, if_neg w6, if_neg w7]; exact ⟨rfl, hC1, hF1⟩)
    · omega
  · rw [if_neg h1]
    show Ex _ _ _ _ _ _ _ _ [zi 0] _
    refine x_if_ne (tgt := 19) dX4_nest_10 rfl (fun c1 => ?_) (fun c1 => ?_)
    · omega
    · refine x_aload0 dX4_nest_13 ?_
      refine x_iconst dX4_nest_14 ⟨by decide, by decide⟩ ?_
      refine x_callv1 dX4_nest_15 cv_X4_150 ci_X4_refuse rfl (T := TX4) rfl (by omega) (Nat.le_of_ble_eq_true rfl) (t_refuse hC (k := 1) (by decide) (by decide) (by decide)) (fun r m1 hq => ?_)
      obtain ⟨rfl, hC1, hF1⟩ := hq
      exact xe_i dX4_nest_18 (by rw [o_nest, if_pos (by omega)]; exact ⟨rfl, hC1, hF1⟩)
theorem t_look (hC : MPS m s) (hI : Is s) {n : Int} : Mt E 3 yX4_look cX4_look 4 (some .int) [zr 59, zi n] m (RQ m (o_look s n)) := by
  have hV := hI.1
  have hn := hV.1
  refine Mt.of 2 (by decide +kernel) (Nat.le_of_ble_eq_true rfl) (Or.inl rfl) ?_ ?_
  · exact RQ.rt
  show Ex E cX4_look 4 RX4 3 _ 0 [some (zr 59), some (zi n), none, none] [] m
  refine x_aload0 dX4_look_0 ?_
  refine x_iconst dX4_look_1 ⟨by decide, by decide⟩ ?_
  refine x_putI dX4_look_2 fd_X4_74 rfl rfl ?_
  refine th15 (fun m hC => ?_) hC
  have hM := hC.1
  have bad : ∀ k : Int, 1 ≤ k → k ≤ 6 → o_look s n = rfo s k → Ex E cX4_look 4 RX4 3 (RQ m (o_look s n)) 62 [some (zr 59), some (zi n), none, none] [zi (-k)] m := by
    intro k hk1 hk6 he
    refine x_istore2 dX4_look_62 (by decide) rfl ?_
    refine x_iload2 dX4_look_63 ?_
    refine x_if_ge (tgt := 73) dX4_look_64 rfl (fun c1 => ?_) (fun c1 => ?_)
    · omega
    · refine x_aload0 dX4_look_67 ?_
      refine x_iload2 dX4_look_68 ?_
      refine x_callv1 dX4_look_69 cv_X4_150 ci_X4_refuse rfl (T := TX4) rfl (by omega) (Nat.le_of_ble_eq_true rfl) (t_refuse hC hk1 hk6 rfl) (fun r m1 hq => ?_)
      obtain ⟨rfl, hC1, hF1⟩ := hq
      rw [he]
      exact xe_i dX4_look_72 (⟨rfl, hC1, hF1⟩)
  refine x_aload0 dX4_look_5 ?_
  refine x_iload1 dX4_look_6 ?_
  refine x_callv1 dX4_look_7 cv_X4_175 ci_X4_isNest rfl (T := TX4) rfl (by omega) (Nat.le_of_ble_eq_true rfl) (t_isNest hM hn) (fun r m1 hq => ?_)
  obtain ⟨rfl, rfl⟩ := hq
  by_cases h1 : 0 ≤ n ∧ n < s.1 0 0
  · rw [if_pos h1]
    show Ex _ _ _ _ _ _ _ _ [zi 1] _
    have h2 : ¬ (n < 0 ∨ s.1 0 0 ≤ n) := by omega
    have hb2 := bit_bd h1.1 (show n < 6 by omega)
    refine x_if_ne (tgt := 17) dX4_look_10 rfl (fun c1 => ?_) (fun c1 => ?_)
    · refine x_aload0 dX4_look_17 ?_
      refine x_getI dX4_look_18 fd_X4_84 rfl (Or.inl rfl) (v := s.1 0 2) hM.looked ?_
      refine x_iload1 dX4_look_21 ?_
      refine x_ishr dX4_look_22 rfl ?_
      refine x_iconst dX4_look_23 ⟨by decide, by decide⟩ ?_
      refine x_iand dX4_look_24 rfl ?_
      refine x_iconst dX4_look_25 ⟨by decide, by decide⟩ ?_
      refine x_icmp_ne (tgt := 34) dX4_look_26 rfl (fun c2 => ?_) (fun c2 => ?_)
      · have c2 : bt (s.1 0 2) n ≠ 1 := c2
        have ht := hV.2.2.2.2.2.2.1
        have hmb := mins_bd hV (s.1 0 2)
        refine x_aload0 dX4_look_34 ?_
        refine x_getI dX4_look_35 fd_X4_7 rfl (Or.inl rfl) (v := s.1 0 8) hM.time ?_
        refine x_aload0 dX4_look_38 ?_
        refine x_aload0 dX4_look_39 ?_
        refine x_getI dX4_look_40 fd_X4_84 rfl (Or.inl rfl) (v := s.1 0 2) hM.looked ?_
        refine x_callv1 dX4_look_43 cv_X4_196 ci_X4_minutesOf rfl (T := TX4) rfl (by omega) (Nat.le_of_ble_eq_true rfl) (t_minutesOf hM hV) (fun r m2 hq => ?_)
        obtain ⟨rfl, rfl⟩ := hq
        show Ex _ _ _ _ _ _ _ _ [zi (mins s.1 (s.1 0 2)), zi (s.1 0 8)] _
        refine x_isub dX4_look_46 (nrm_id (by omega) (by omega)) ?_
        refine x_aload0 dX4_look_47 ?_
        refine x_getR (q := 62) dX4_look_48 fd_X4_26 rfl rfl rfl ?_
        refine x_iload1 dX4_look_51 ?_
        refine x_iald dX4_look_52 rfl (by omega) (by omega) (v := s.1 3 n) (hM.min h1.1 (by omega)) ?_
        refine x_icmp_ge (tgt := 61) dX4_look_53 rfl (fun c3 => ?_) (fun c3 => ?_)
        · have c3 : s.1 3 n ≤ tml s.1 := c3
          refine x_iconst dX4_look_61 ⟨by decide, by decide⟩ ?_
          refine x_istore2 dX4_look_62 (by decide) rfl ?_
          refine x_iload2 dX4_look_63 ?_
          refine x_if_ge (tgt := 73) dX4_look_64 rfl (fun c4 => ?_) (fun c4 => ?_)
          · refine x_aload0 dX4_look_73 ?_
            refine x_iconst dX4_look_74 ⟨by decide, by decide⟩ ?_
            refine x_iload1 dX4_look_75 ?_
            refine x_ishl dX4_look_76 rfl ?_
            refine x_callv1 dX4_look_77 cv_X4_199 ci_X4_take rfl (T := TX4) rfl (by omega) (Nat.le_of_ble_eq_true rfl) (t_take hM hV) (fun r m3 hq => ?_)
            obtain ⟨rfl, hM3, hF3⟩ := hq
            show Ex _ _ _ _ _ _ _ _ [zi _] _
            refine x_istore3 dX4_look_80 (by decide) rfl ?_
            refine x_aload0 dX4_look_81 ?_
            refine x_dupr dX4_look_82 ?_
            refine x_getI dX4_look_83 fd_X4_140 rfl (Or.inl rfl) (v := s.1 0 5) (hM3.found.trans (tak_sc _ _ _ (by decide))) ?_
            refine x_iload3 dX4_look_86 ?_
            refine x_iadd dX4_look_87 rfl ?_
            refine x_putI dX4_look_88 fd_X4_140 rfl rfl ?_
            refine x_iload3 dX4_look_91 ?_
            have hM4 : MP _ (ux _ 0 5 (nrm (s.1 0 5 + tkn s.1 (isl 1 n)))) := hM3.f (j := 9) (by decide)
            have hF4 := hF3.y.upf (s := 9) (x := nrm (s.1 0 5 + tkn s.1 (isl 1 n))) (by decide)
            refine xe_i dX4_look_92 ?_
            rw [o_look, if_neg h2, if_neg c2, if_neg (by omega)]
            exact ⟨rfl, hC.fg hF4 (by decide) hM4, hF4.fr (by decide)⟩
          · omega
        · have c3 : tml s.1 < s.1 3 n := c3
          refine x_bipush dX4_look_56 ⟨by decide, by decide⟩ ?_
          refine x_goto (tgt := 62) dX4_look_58 rfl ?_
          exact bad 6 (by decide) (by decide) (by rw [o_look, if_neg h2, if_neg c2, if_pos c3])
      · have c2 : bt (s.1 0 2) n = 1 := c2
        refine x_bipush dX4_look_29 ⟨by decide, by decide⟩ ?_
        refine x_goto (tgt := 62) dX4_look_31 rfl ?_
        exact bad 3 (by decide) (by decide) (by rw [o_look, if_neg h2, if_pos c2])
    · omega
  · rw [if_neg h1]
    show Ex _ _ _ _ _ _ _ _ [zi 0] _
    refine x_if_ne (tgt := 17) dX4_look_10 rfl (fun c1 => ?_) (fun c1 => ?_)
    · omega
    · refine x_iconst dX4_look_13 ⟨by decide, by decide⟩ ?_
      refine x_goto (tgt := 62) dX4_look_14 rfl ?_
      exact bad 1 (by decide) (by decide) (by rw [o_look, if_pos (by omega)])
theorem t_been (hC : MPS m s) (hI : Is s) {g : Int} : Mt E 2 yX4_been cX4_been 3 (some .int) [zr 59, zi g] m (RQ m (o_been s g)) := by
  have hn := hI.1.1
  refine Mt.of 1 (by decide +kernel) (Nat.le_of_ble_eq_true rfl) (Or.inl rfl) ?_ ?_
  · exact RQ.rt
  show Ex E cX4_been 3 RX4 2 _ 0 [some (zr 59), some (zi g), none] [] m
  refine x_aload0 dX4_been_0 ?_
  refine x_iconst dX4_been_1 ⟨by decide, by decide⟩ ?_
  refine x_putI dX4_been_2 fd_X4_74 rfl rfl ?_
  refine th15 (fun m hC => ?_) hC
  have hM := hC.1
  refine x_iload1 dX4_been_5 ?_
  refine x_if_lt (tgt := 15) dX4_been_6 rfl (fun c1 => ?_) (fun c1 => ?_)
  · refine x_aload0 dX4_been_15 ?_
    refine x_iload1 dX4_been_16 ?_
    refine x_if_ge (tgt := 25) dX4_been_17 rfl (fun c2 => ?_) (fun c2 => ?_)
    · omega
    · refine x_bipush dX4_been_20 ⟨by decide, by decide⟩ ?_
      refine x_goto (tgt := 27) dX4_been_22 rfl ?_
      refine x_callv1 dX4_been_27 cv_X4_150 ci_X4_refuse rfl (T := TX4) rfl (by omega) (Nat.le_of_ble_eq_true rfl) (t_refuse hC (k := 4) (by decide) (by decide) (by decide)) (fun r m1 hq => ?_)
      obtain ⟨rfl, hC1, hF1⟩ := hq
      exact xe_i dX4_been_30 (by rw [o_been, if_pos c1]; exact ⟨rfl, hC1, hF1⟩)
  · refine x_iload1 dX4_been_9 ?_
    refine x_bipush dX4_been_10 ⟨by decide, by decide⟩ ?_
    refine x_icmp_le (tgt := 31) dX4_been_12 rfl (fun c2 => ?_) (fun c2 => ?_)
    · refine x_iconst dX4_been_31 ⟨by decide, by decide⟩ ?_
      refine x_istore2 dX4_been_32 (by decide) rfl ?_
      have loop : ∀ (k j : Nat), (j : Int) + k = s.1 0 0 → bee (fun n => s.1 5 (10 * n + g)) k j = (o_been s g).1 → Ex E cX4_been 3 RX4 2 (RQ m (o_been s g)) 33 [some (zr 59), some (zi g), some (zi j)] [] m := by
        have eo : (o_been s g).2 = s := by rw [o_been, if_neg (by omega), if_neg (by omega)]
        intro k
        induction k with
        | zero =>
          intro j hj hb
          refine x_iload2 dX4_been_33 ?_
          refine x_aload0 dX4_been_34 ?_
          refine x_getI dX4_been_35 fd_X4_77 rfl (Or.inl rfl) (v := s.1 0 0) hM.nests ?_
          refine x_icmp_ge (tgt := 63) dX4_been_38 rfl (fun hc => ?_) (fun hc => ?_)
          · refine x_bipush dX4_been_63 ⟨by decide, by decide⟩ ?_
            exact xe_i dX4_been_65 (⟨by rw [← hb]; rfl, by rw [eo]; exact hC, Fr.rf⟩)
          · omega
        | succ k ih =>
          intro j hj hb
          refine x_iload2 dX4_been_33 ?_
          refine x_aload0 dX4_been_34 ?_
          refine x_getI dX4_been_35 fd_X4_77 rfl (Or.inl rfl) (v := s.1 0 0) hM.nests ?_
          refine x_icmp_ge (tgt := 63) dX4_been_38 rfl (fun hc => ?_) (fun hc => ?_)
          · omega
          · refine x_aload0 dX4_been_41 ?_
            refine x_getR (q := 64) dX4_been_42 fd_X4_32 rfl rfl rfl ?_
            refine x_bipush dX4_been_45 ⟨by decide, by decide⟩ ?_
            refine x_iload2 dX4_been_47 ?_
            refine x_imul dX4_been_48 (nrm_id (by omega) (by omega)) ?_
            refine x_iload1 dX4_been_49 ?_
            refine x_iadd dX4_been_50 (nrm_id (by omega) (by omega)) ?_
            refine x_iald dX4_been_51 rfl (by omega) (by omega) (v := s.1 5 (10 * (j : Int) + g)) (hM.egg (by omega) (by omega)) ?_
            refine x_if_le (tgt := 57) dX4_been_52 rfl (fun c3 => ?_) (fun c3 => ?_)
            · refine x_iinc2 dX4_been_57 (by decide) rfl (nrm_id (by omega) (by omega)) ?_
              refine x_goto (tgt := 33) dX4_been_60 rfl ?_
              exact Ex.eq (by push_cast; rfl) rfl rfl (ih (j + 1) (by omega) (by rw [← hb, bee, if_neg (by omega)]))
            · refine x_iload2 dX4_been_55 ?_
              exact xe_i dX4_been_56 (⟨by rw [← hb, bee, if_pos (by omega)], by rw [eo]; exact hC, Fr.rf⟩)
      exact loop (s.1 0 0).toNat 0 (by omega) (by rw [o_been, if_neg (by omega), if_neg (by omega)])
    · refine x_aload0 dX4_been_15 ?_
      refine x_iload1 dX4_been_16 ?_
      refine x_if_ge (tgt := 25) dX4_been_17 rfl (fun c3 => ?_) (fun c3 => ?_)
      · refine x_bipush dX4_been_25 ⟨by decide, by decide⟩ ?_
        refine x_callv1 dX4_been_27 cv_X4_150 ci_X4_refuse rfl (T := TX4) rfl (by omega) (Nat.le_of_ble_eq_true rfl) (t_refuse hC (k := 6) (by decide) (by decide) (by decide)) (fun r m1 hq => ?_)
        obtain ⟨rfl, hC1, hF1⟩ := hq
        exact xe_i dX4_been_30 (by rw [o_been, if_neg (by omega), if_pos (by omega)]; exact ⟨rfl, hC1, hF1⟩)
      · omega
theorem t_count (hC : MPS m s) (hI : Is s) {w : Int} : Mt E 4 yX4_count cX4_count 2 (some .int) [zr 59, zi w] m (RQ m (o_count s w, s)) := by
  have hV := hI.1
  refine Mt.of 0 (by decide +kernel) (Nat.le_of_ble_eq_true rfl) (Or.inl rfl) ?_ ?_
  · exact RQ.rt
  show Ex E cX4_count 2 RX4 4 _ 0 [some (zr 59), some (zi w)] [] m
  refine x_aload0 dX4_count_0 ?_
  refine x_iconst dX4_count_1 ⟨by decide, by decide⟩ ?_
  refine x_putI dX4_count_2 fd_X4_74 rfl rfl ?_
  refine th15 (fun m hC => ?_) hC
  have hM := hC.1
  have hR := hC.2.2
  have done : ∀ {v : Int}, v = o_count s w → (some (zi v) = some (zi (o_count s w, s).1) ∧ MPS m (o_count s w, s).2 ∧ Fr 59 77 m m) := fun h => ⟨by rw [h], hC, Fr.rf⟩
  refine x_iload1 dX4_count_5 ?_
  by_cases w0 : w = 0
  · subst w0
    refine x_tin (tgt := 60) (off := 54) dX4_count_6 (by decide) (by decide) rfl rfl ?_
    refine x_aload0 dX4_count_60 ?_
    refine x_getI dX4_count_61 fd_X4_77 rfl (Or.inl rfl) (v := s.1 0 0) hM.nests ?_
    exact xe_i dX4_count_64 (done rfl)
  by_cases w1 : w = 1
  · subst w1
    refine x_tin (tgt := 65) (off := 59) dX4_count_6 (by decide) (by decide) rfl rfl ?_
    refine x_aload0 dX4_count_65 ?_
    refine x_getI dX4_count_66 fd_X4_114 rfl (Or.inl rfl) (v := s.1 0 4) hM.day ?_
    exact xe_i dX4_count_69 (done rfl)
  by_cases w2 : w = 2
  · subst w2
    refine x_tin (tgt := 70) (off := 64) dX4_count_6 (by decide) (by decide) rfl rfl ?_
    refine x_aload0 dX4_count_70 ?_
    refine x_callv0 dX4_count_71 cv_X4_225 ci_X4_eggsOfAll rfl (T := TX4) rfl (by omega) (Nat.le_of_ble_eq_true rfl) (t_eggsOfAll hM hV) (fun r m2 hq => ?_)
    obtain ⟨rfl, rfl⟩ := hq
    exact xe_i dX4_count_74 (done rfl)
  by_cases w3 : w = 3
  · subst w3
    refine x_tin (tgt := 75) (off := 69) dX4_count_6 (by decide) (by decide) rfl rfl ?_
    refine x_aload0 dX4_count_75 ?_
    refine x_getI dX4_count_76 fd_X4_16 rfl (Or.inl rfl) (v := s.1 0 1) hM.last ?_
    refine x_if_ge (tgt := 87) dX4_count_79 rfl (fun c1 => ?_) (fun c1 => ?_)
    · refine x_aload0 dX4_count_87 ?_
      refine x_getI dX4_count_88 fd_X4_16 rfl (Or.inl rfl) (v := s.1 0 1) hM.last ?_
      exact xe_i dX4_count_91 (done (by show s.1 0 1 = lc (s.1 0 1); rw [lc_nn c1]))
    · refine x_bipush dX4_count_82 ⟨by decide, by decide⟩ ?_
      refine x_goto (tgt := 91) dX4_count_84 rfl ?_
      exact xe_i dX4_count_91 (done (by show (-9 : Int) = lc (s.1 0 1); rw [lc, if_pos c1]))
  by_cases w4 : w = 4
  · subst w4
    refine x_tin (tgt := 92) (off := 86) dX4_count_6 (by decide) (by decide) rfl rfl ?_
    refine x_aload0 dX4_count_92 ?_
    refine x_getI dX4_count_93 fd_X4_84 rfl (Or.inl rfl) (v := s.1 0 2) hM.looked ?_
    exact xe_i dX4_count_96 (done rfl)
  by_cases w5 : w = 5
  · subst w5
    refine x_tin (tgt := 97) (off := 91) dX4_count_6 (by decide) (by decide) rfl rfl ?_
    refine x_aload0 dX4_count_97 ?_
    refine x_getI dX4_count_98 fd_X4_117 rfl (Or.inl rfl) (v := s.1 0 3) hM.before ?_
    exact xe_i dX4_count_101 (done rfl)
  by_cases w6 : w = 6
  · subst w6
    refine x_tin (tgt := 102) (off := 96) dX4_count_6 (by decide) (by decide) rfl rfl ?_
    have ht := hV.2.2.2.2.2.2.1
    have hmb := mins_bd hV (s.1 0 2)
    refine x_aload0 dX4_count_102 ?_
    refine x_getI dX4_count_103 fd_X4_7 rfl (Or.inl rfl) (v := s.1 0 8) hM.time ?_
    refine x_aload0 dX4_count_106 ?_
    refine x_aload0 dX4_count_107 ?_
    refine x_getI dX4_count_108 fd_X4_84 rfl (Or.inl rfl) (v := s.1 0 2) hM.looked ?_
    refine x_callv1 dX4_count_111 cv_X4_196 ci_X4_minutesOf rfl (T := TX4) rfl (by omega) (Nat.le_of_ble_eq_true rfl) (t_minutesOf hM hV) (fun r m2 hq => ?_)
    obtain ⟨rfl, rfl⟩ := hq
    show Ex _ _ _ _ _ _ _ _ [zi (mins s.1 (s.1 0 2)), zi (s.1 0 8)] _
    refine x_isub dX4_count_114 (nrm_id (by omega) (by omega)) ?_
    exact xe_i dX4_count_115 (done rfl)
  by_cases w7 : w = 7
  · subst w7
    refine x_tin (tgt := 116) (off := 110) dX4_count_6 (by decide) (by decide) rfl rfl ?_
    refine x_aload0 dX4_count_116 ?_
    refine x_getI dX4_count_117 fd_X4_153 rfl (Or.inl rfl) (v := s.2.2 0 0) hR.1 ?_
    exact xe_i dX4_count_120 (done rfl)
  by_cases w8 : w = 8
  · subst w8
    refine x_tin (tgt := 121) (off := 115) dX4_count_6 (by decide) (by decide) rfl rfl ?_
    refine x_aload0 dX4_count_121 ?_
    refine x_getI dX4_count_122 fd_X4_219 rfl (Or.inl rfl) (v := s.2.2 0 1) hR.2.2.1 ?_
    exact xe_i dX4_count_125 (done rfl)
  by_cases w9 : w = 9
  · subst w9
    refine x_tin (tgt := 126) (off := 120) dX4_count_6 (by decide) (by decide) rfl rfl ?_
    refine x_aload0 dX4_count_126 ?_
    refine x_getI dX4_count_127 fd_X4_140 rfl (Or.inl rfl) (v := s.1 0 5) hM.found ?_
    exact xe_i dX4_count_130 (done rfl)
  refine x_tout (tgt := 131) dX4_count_6 (by omega) rfl ?_
  refine x_iload1 dX4_count_131 ?_
  refine x_i2l dX4_count_132 ?_
  refine x_ldc2 (v := 11) dX4_count_133 ⟨by decide, by decide⟩ ctl_X4_240 ?_
  refine x_ldc2 (v := 16) dX4_count_136 ⟨by decide, by decide⟩ ctl_X4_242 ?_
  refine x_calls3 dX4_count_139 cv_X4_80 cs_X4_in (by omega) (Nat.le_of_ble_eq_true rfl) (t_in) (fun r m2 hq => ?_)
  obtain ⟨rfl, rfl⟩ := hq
  by_cases h1 : 11 ≤ w ∧ w ≤ 16
  · rw [if_pos h1]
    show Ex _ _ _ _ _ _ _ _ [zi 1] _
    refine x_if_eq (tgt := 157) dX4_count_142 rfl (fun c1 => ?_) (fun c1 => ?_)
    · omega
    · refine x_aload0 dX4_count_145 ?_
      refine x_getR (q := 65) dX4_count_146 fd_X4_35 rfl rfl rfl ?_
      refine x_iload1 dX4_count_149 ?_
      refine x_bipush dX4_count_150 ⟨by decide, by decide⟩ ?_
      refine x_isub dX4_count_152 (nrm_id (by omega) (by omega)) ?_
      refine x_iald dX4_count_153 rfl (by omega) (by omega) (v := s.2.2 3 (w - 10)) (hR.2.2.2.2.2.1 (w - 10) (by omega) (by omega)) ?_
      refine x_goto (tgt := 159) dX4_count_154 rfl ?_
      exact xe_i dX4_count_159 (done (by rw [o_count, if_neg w0, if_neg w1, if_neg w2, if_neg w3, if_neg w4, if_neg w5, if_neg w6, if_neg w7, if_neg w8, if_neg w9, if_pos h1]))
  · rw [if_neg h1]
    show Ex _ _ _ _ _ _ _ _ [zi 0] _
    refine x_if_eq (tgt := 157) dX4_count_142 rfl (fun c1 => ?_) (fun c1 => ?_)
    · refine x_bipush dX4_count_157 ⟨by decide, by decide⟩ ?_
      exact xe_i dX4_count_159 (done (by rw [o_count, if_neg w0, if_neg w1, if_neg w2, if_neg w3, if_neg w4, if_neg w5, if_neg w6, if_neg w7, if_neg w8, if_neg w9, if_neg h1]))
    · omega
theorem tt_set (hC : MPS m s) {q v : Int} : Mt E 2 yX4_set cX4_set 6 (some .int) [zr 59, zi q, zi v] m (RQ m (o_set s q v)) := by
  refine Mt.of 3 (by decide +kernel) (Nat.le_of_ble_eq_true rfl) (Or.inl rfl) ?_ ?_
  · exact RQ.rt
  show Ex E cX4_set 6 RX4 2 _ 0 [some (zr 59), some (zi q), some (zi v), none, none, none] [] m
  refine x_aload0 dX4_set_0 ?_
  refine x_iconst dX4_set_1 ⟨by decide, by decide⟩ ?_
  refine x_putI dX4_set_2 fd_X4_74 rfl rfl ?_
  refine th15 (fun m hC => ?_) hC
  have hM := hC.1
  refine x_iload1 dX4_set_5 ?_
  refine x_i2l dX4_set_6 ?_
  refine x_lconst dX4_set_7 rfl ?_
  refine x_ldc2 (v := 3) dX4_set_8 ⟨by decide, by decide⟩ ctl_X4_194 ?_
  refine x_calls3 dX4_set_11 cv_X4_80 cs_X4_in (by omega) (Nat.le_of_ble_eq_true rfl) (t_in) (fun r m1 hq => ?_)
  obtain ⟨rfl, rfl⟩ := hq
  show Ex _ _ _ _ _ _ _ _ [zi (if (0 : Int) ≤ q ∧ q ≤ 3 then 1 else 0)] _
  by_cases h1 : 0 ≤ q ∧ q ≤ 3
  · rw [if_pos h1]
    refine x_if_ne (tgt := 24) dX4_set_14 rfl (fun c1 => ?_) (fun c1 => ?_)
    rotate_left
    · omega
    have fin : lo_f q ≤ v → v ≤ hi_f q → ∀ a b : Int, Ex E cX4_set 6 RX4 2 (RQ m1 (o_set s q v)) 85 [some (zr 59), some (zi q), some (zi v), some (zi a), some (zi b), none] [] m1 := by
      intro hlo hhi a b
      have hcases : q = 0 ∨ q = 1 ∨ q = 2 ∨ q = 3 := by omega
      rcases hcases with rfl | rfl | rfl | rfl
      · refine x_iload1 dX4_set_85 ?_
        refine x_if_ne (tgt := 96) dX4_set_86 rfl (fun d0 => ?_) (fun d0 => ?_)
        · omega
        refine x_aload0 dX4_set_89 ?_
        refine x_getI dX4_set_90 fd_X4_95 rfl (Or.inl rfl) (v := s.1 0 6) hM.kind ?_
        refine x_goto (tgt := 124) dX4_set_93 rfl ?_
        refine x_istore5 dX4_set_124 (by decide) rfl ?_
        refine x_aload0 dX4_set_126 ?_
        refine x_iload1 dX4_set_127 ?_
        refine x_if_ne (tgt := 135) dX4_set_128 rfl (fun f0 => ?_) (fun f0 => ?_)
        · omega
        refine x_iload2 dX4_set_131 ?_
        refine x_goto (tgt := 139) dX4_set_132 rfl ?_
        refine x_putI dX4_set_139 fd_X4_95 rfl rfl ?_
        have hM0 : MP _ (ux _ 0 6 (v)) := hM.f (j := 1) (by decide)
        refine x_aload0 dX4_set_142 ?_
        refine x_iload1 dX4_set_143 ?_
        refine x_iconst dX4_set_144 ⟨by decide, by decide⟩ ?_
        refine x_icmp_ne (tgt := 152) dX4_set_145 rfl (fun f1 => ?_) (fun f1 => ?_)
        rotate_left
        · omega
        refine x_aload0 dX4_set_152 ?_
        refine x_getI dX4_set_153 fd_X4_98 rfl (Or.inl rfl) (v := s.1 0 7) hM0.figure ?_
        refine x_putI dX4_set_156 fd_X4_98 rfl rfl ?_
        have hM1 : MP _ (ux _ 0 7 (s.1 0 7)) := hM0.f (j := 2) (by decide)
        refine x_aload0 dX4_set_159 ?_
        refine x_iload1 dX4_set_160 ?_
        refine x_iconst dX4_set_161 ⟨by decide, by decide⟩ ?_
        refine x_icmp_ne (tgt := 169) dX4_set_162 rfl (fun f2 => ?_) (fun f2 => ?_)
        rotate_left
        · omega
        refine x_aload0 dX4_set_169 ?_
        refine x_getI dX4_set_170 fd_X4_7 rfl (Or.inl rfl) (v := s.1 0 8) hM1.time ?_
        refine x_putI dX4_set_173 fd_X4_7 rfl rfl ?_
        have hM2 : MP _ (ux _ 0 8 (s.1 0 8)) := hM1.f (j := 3) (by decide)
        refine x_aload0 dX4_set_176 ?_
        refine x_iload1 dX4_set_177 ?_
        refine x_iconst dX4_set_178 ⟨by decide, by decide⟩ ?_
        refine x_icmp_ne (tgt := 186) dX4_set_179 rfl (fun f3 => ?_) (fun f3 => ?_)
        rotate_left
        · omega
        refine x_aload0 dX4_set_186 ?_
        refine x_getI dX4_set_187 fd_X4_13 rfl (Or.inl rfl) (v := s.1 0 9) hM2.rat ?_
        refine x_putI dX4_set_190 fd_X4_13 rfl rfl ?_
        have hM3 : MP _ (ux _ 0 9 (s.1 0 9)) := hM2.f (j := 4) (by decide)
        refine x_iload5 dX4_set_193 ?_
        have hF : Fg 67 67 m1 (up (up (up (up m1 59 1 (v)) 59 2 (s.1 0 7)) 59 3 (s.1 0 8)) 59 4 (s.1 0 9)) := (((Fg.rf.upf (by decide)).upf (by decide)).upf (by decide)).upf (by decide)
        refine xe_i dX4_set_195 ?_
        rw [o_set, if_neg (by omega), if_neg (by omega), if_neg (by omega)]
        refine ⟨rfl, hC.fg hF (by decide) (hM3.cg (fun a z => ?_)), hF.fr (by decide)⟩
        unfold ux
        by_cases ha : a = 0
        · subst ha
          by_cases z1 : z = 6
          · subst z1; simp
          · by_cases z2 : z = 7
            · subst z2; simp
            · by_cases z3 : z = 8
              · subst z3; simp
              · by_cases z4 : z = 9
                · subst z4; simp
                · simp [z1, z2, z3, z4]
        · simp [ha]
      · refine x_iload1 dX4_set_85 ?_
        refine x_if_ne (tgt := 96) dX4_set_86 rfl (fun d0 => ?_) (fun d0 => ?_)
        rotate_left
        · omega
        refine x_iload1 dX4_set_96 ?_
        refine x_iconst dX4_set_97 ⟨by decide, by decide⟩ ?_
        refine x_icmp_ne (tgt := 108) dX4_set_98 rfl (fun d1 => ?_) (fun d1 => ?_)
        · omega
        refine x_aload0 dX4_set_101 ?_
        refine x_getI dX4_set_102 fd_X4_98 rfl (Or.inl rfl) (v := s.1 0 7) hM.figure ?_
        refine x_goto (tgt := 124) dX4_set_105 rfl ?_
        refine x_istore5 dX4_set_124 (by decide) rfl ?_
        refine x_aload0 dX4_set_126 ?_
        refine x_iload1 dX4_set_127 ?_
        refine x_if_ne (tgt := 135) dX4_set_128 rfl (fun f0 => ?_) (fun f0 => ?_)
        rotate_left
        · omega
        refine x_aload0 dX4_set_135 ?_
        refine x_getI dX4_set_136 fd_X4_95 rfl (Or.inl rfl) (v := s.1 0 6) hM.kind ?_
        refine x_putI dX4_set_139 fd_X4_95 rfl rfl ?_
        have hM0 : MP _ (ux _ 0 6 (s.1 0 6)) := hM.f (j := 1) (by decide)
        refine x_aload0 dX4_set_142 ?_
        refine x_iload1 dX4_set_143 ?_
        refine x_iconst dX4_set_144 ⟨by decide, by decide⟩ ?_
        refine x_icmp_ne (tgt := 152) dX4_set_145 rfl (fun f1 => ?_) (fun f1 => ?_)
        · omega
        refine x_iload2 dX4_set_148 ?_
        refine x_goto (tgt := 156) dX4_set_149 rfl ?_
        refine x_putI dX4_set_156 fd_X4_98 rfl rfl ?_
        have hM1 : MP _ (ux _ 0 7 (v)) := hM0.f (j := 2) (by decide)
        refine x_aload0 dX4_set_159 ?_
        refine x_iload1 dX4_set_160 ?_
        refine x_iconst dX4_set_161 ⟨by decide, by decide⟩ ?_
        refine x_icmp_ne (tgt := 169) dX4_set_162 rfl (fun f2 => ?_) (fun f2 => ?_)
        rotate_left
        · omega
        refine x_aload0 dX4_set_169 ?_
        refine x_getI dX4_set_170 fd_X4_7 rfl (Or.inl rfl) (v := s.1 0 8) hM1.time ?_
        refine x_putI dX4_set_173 fd_X4_7 rfl rfl ?_
        have hM2 : MP _ (ux _ 0 8 (s.1 0 8)) := hM1.f (j := 3) (by decide)
        refine x_aload0 dX4_set_176 ?_
        refine x_iload1 dX4_set_177 ?_
        refine x_iconst dX4_set_178 ⟨by decide, by decide⟩ ?_
        refine x_icmp_ne (tgt := 186) dX4_set_179 rfl (fun f3 => ?_) (fun f3 => ?_)
        rotate_left
        · omega
        refine x_aload0 dX4_set_186 ?_
        refine x_getI dX4_set_187 fd_X4_13 rfl (Or.inl rfl) (v := s.1 0 9) hM2.rat ?_
        refine x_putI dX4_set_190 fd_X4_13 rfl rfl ?_
        have hM3 : MP _ (ux _ 0 9 (s.1 0 9)) := hM2.f (j := 4) (by decide)
        refine x_iload5 dX4_set_193 ?_
        have hF : Fg 67 67 m1 (up (up (up (up m1 59 1 (s.1 0 6)) 59 2 (v)) 59 3 (s.1 0 8)) 59 4 (s.1 0 9)) := (((Fg.rf.upf (by decide)).upf (by decide)).upf (by decide)).upf (by decide)
        refine xe_i dX4_set_195 ?_
        rw [o_set, if_neg (by omega), if_neg (by omega), if_neg (by omega)]
        refine ⟨rfl, hC.fg hF (by decide) (hM3.cg (fun a z => ?_)), hF.fr (by decide)⟩
        unfold ux
        by_cases ha : a = 0
        · subst ha
          by_cases z1 : z = 6
          · subst z1; simp
          · by_cases z2 : z = 7
            · subst z2; simp
            · by_cases z3 : z = 8
              · subst z3; simp
              · by_cases z4 : z = 9
                · subst z4; simp
                · simp [z1, z2, z3, z4]
        · simp [ha]
      · refine x_iload1 dX4_set_85 ?_
        refine x_if_ne (tgt := 96) dX4_set_86 rfl (fun d0 => ?_) (fun d0 => ?_)
        rotate_left
        · omega
        refine x_iload1 dX4_set_96 ?_
        refine x_iconst dX4_set_97 ⟨by decide, by decide⟩ ?_
        refine x_icmp_ne (tgt := 108) dX4_set_98 rfl (fun d1 => ?_) (fun d1 => ?_)
        rotate_left
        · omega
        refine x_iload1 dX4_set_108 ?_
        refine x_iconst dX4_set_109 ⟨by decide, by decide⟩ ?_
        refine x_icmp_ne (tgt := 120) dX4_set_110 rfl (fun d2 => ?_) (fun d2 => ?_)
        · omega
        refine x_aload0 dX4_set_113 ?_
        refine x_getI dX4_set_114 fd_X4_7 rfl (Or.inl rfl) (v := s.1 0 8) hM.time ?_
        refine x_goto (tgt := 124) dX4_set_117 rfl ?_
        refine x_istore5 dX4_set_124 (by decide) rfl ?_
        refine x_aload0 dX4_set_126 ?_
        refine x_iload1 dX4_set_127 ?_
        refine x_if_ne (tgt := 135) dX4_set_128 rfl (fun f0 => ?_) (fun f0 => ?_)
        rotate_left
        · omega
        refine x_aload0 dX4_set_135 ?_
        refine x_getI dX4_set_136 fd_X4_95 rfl (Or.inl rfl) (v := s.1 0 6) hM.kind ?_
        refine x_putI dX4_set_139 fd_X4_95 rfl rfl ?_
        have hM0 : MP _ (ux _ 0 6 (s.1 0 6)) := hM.f (j := 1) (by decide)
        refine x_aload0 dX4_set_142 ?_
        refine x_iload1 dX4_set_143 ?_
        refine x_iconst dX4_set_144 ⟨by decide, by decide⟩ ?_
        refine x_icmp_ne (tgt := 152) dX4_set_145 rfl (fun f1 => ?_) (fun f1 => ?_)
        rotate_left
        · omega
        refine x_aload0 dX4_set_152 ?_
        refine x_getI dX4_set_153 fd_X4_98 rfl (Or.inl rfl) (v := s.1 0 7) hM0.figure ?_
        refine x_putI dX4_set_156 fd_X4_98 rfl rfl ?_
        have hM1 : MP _ (ux _ 0 7 (s.1 0 7)) := hM0.f (j := 2) (by decide)
        refine x_aload0 dX4_set_159 ?_
        refine x_iload1 dX4_set_160 ?_
        refine x_iconst dX4_set_161 ⟨by decide, by decide⟩ ?_
        refine x_icmp_ne (tgt := 169) dX4_set_162 rfl (fun f2 => ?_) (fun f2 => ?_)
        · omega
        refine x_iload2 dX4_set_165 ?_
        refine x_goto (tgt := 173) dX4_set_166 rfl ?_
        refine x_putI dX4_set_173 fd_X4_7 rfl rfl ?_
        have hM2 : MP _ (ux _ 0 8 (v)) := hM1.f (j := 3) (by decide)
        refine x_aload0 dX4_set_176 ?_
        refine x_iload1 dX4_set_177 ?_
        refine x_iconst dX4_set_178 ⟨by decide, by decide⟩ ?_
        refine x_icmp_ne (tgt := 186) dX4_set_179 rfl (fun f3 => ?_) (fun f3 => ?_)
        rotate_left
        · omega
        refine x_aload0 dX4_set_186 ?_
        refine x_getI dX4_set_187 fd_X4_13 rfl (Or.inl rfl) (v := s.1 0 9) hM2.rat ?_
        refine x_putI dX4_set_190 fd_X4_13 rfl rfl ?_
        have hM3 : MP _ (ux _ 0 9 (s.1 0 9)) := hM2.f (j := 4) (by decide)
        refine x_iload5 dX4_set_193 ?_
        have hF : Fg 67 67 m1 (up (up (up (up m1 59 1 (s.1 0 6)) 59 2 (s.1 0 7)) 59 3 (v)) 59 4 (s.1 0 9)) := (((Fg.rf.upf (by decide)).upf (by decide)).upf (by decide)).upf (by decide)
        refine xe_i dX4_set_195 ?_
        rw [o_set, if_neg (by omega), if_neg (by omega), if_neg (by omega)]
        refine ⟨rfl, hC.fg hF (by decide) (hM3.cg (fun a z => ?_)), hF.fr (by decide)⟩
        unfold ux
        by_cases ha : a = 0
        · subst ha
          by_cases z1 : z = 6
          · subst z1; simp
          · by_cases z2 : z = 7
            · subst z2; simp
            · by_cases z3 : z = 8
              · subst z3; simp
              · by_cases z4 : z = 9
                · subst z4; simp
                · simp [z1, z2, z3, z4]
        · simp [ha]
      · refine x_iload1 dX4_set_85 ?_
        refine x_if_ne (tgt := 96) dX4_set_86 rfl (fun d0 => ?_) (fun d0 => ?_)
        rotate_left
        · omega
        refine x_iload1 dX4_set_96 ?_
        refine x_iconst dX4_set_97 ⟨by decide, by decide⟩ ?_
        refine x_icmp_ne (tgt := 108) dX4_set_98 rfl (fun d1 => ?_) (fun d1 => ?_)
        rotate_left
        · omega
        refine x_iload1 dX4_set_108 ?_
        refine x_iconst dX4_set_109 ⟨by decide, by decide⟩ ?_
        refine x_icmp_ne (tgt := 120) dX4_set_110 rfl (fun d2 => ?_) (fun d2 => ?_)
        rotate_left
        · omega
        refine x_aload0 dX4_set_120 ?_
        refine x_getI dX4_set_121 fd_X4_13 rfl (Or.inl rfl) (v := s.1 0 9) hM.rat ?_
        refine x_istore5 dX4_set_124 (by decide) rfl ?_
        refine x_aload0 dX4_set_126 ?_
        refine x_iload1 dX4_set_127 ?_
        refine x_if_ne (tgt := 135) dX4_set_128 rfl (fun f0 => ?_) (fun f0 => ?_)
        rotate_left
        · omega
        refine x_aload0 dX4_set_135 ?_
        refine x_getI dX4_set_136 fd_X4_95 rfl (Or.inl rfl) (v := s.1 0 6) hM.kind ?_
        refine x_putI dX4_set_139 fd_X4_95 rfl rfl ?_
        have hM0 : MP _ (ux _ 0 6 (s.1 0 6)) := hM.f (j := 1) (by decide)
        refine x_aload0 dX4_set_142 ?_
        refine x_iload1 dX4_set_143 ?_
        refine x_iconst dX4_set_144 ⟨by decide, by decide⟩ ?_
        refine x_icmp_ne (tgt := 152) dX4_set_145 rfl (fun f1 => ?_) (fun f1 => ?_)
        rotate_left
        · omega
        refine x_aload0 dX4_set_152 ?_
        refine x_getI dX4_set_153 fd_X4_98 rfl (Or.inl rfl) (v := s.1 0 7) hM0.figure ?_
        refine x_putI dX4_set_156 fd_X4_98 rfl rfl ?_
        have hM1 : MP _ (ux _ 0 7 (s.1 0 7)) := hM0.f (j := 2) (by decide)
        refine x_aload0 dX4_set_159 ?_
        refine x_iload1 dX4_set_160 ?_
        refine x_iconst dX4_set_161 ⟨by decide, by decide⟩ ?_
        refine x_icmp_ne (tgt := 169) dX4_set_162 rfl (fun f2 => ?_) (fun f2 => ?_)
        rotate_left
        · omega
        refine x_aload0 dX4_set_169 ?_
        refine x_getI dX4_set_170 fd_X4_7 rfl (Or.inl rfl) (v := s.1 0 8) hM1.time ?_
        refine x_putI dX4_set_173 fd_X4_7 rfl rfl ?_
        have hM2 : MP _ (ux _ 0 8 (s.1 0 8)) := hM1.f (j := 3) (by decide)
        refine x_aload0 dX4_set_176 ?_
        refine x_iload1 dX4_set_177 ?_
        refine x_iconst dX4_set_178 ⟨by decide, by decide⟩ ?_
        refine x_icmp_ne (tgt := 186) dX4_set_179 rfl (fun f3 => ?_) (fun f3 => ?_)
        · omega
        refine x_iload2 dX4_set_182 ?_
        refine x_goto (tgt := 190) dX4_set_183 rfl ?_
        refine x_putI dX4_set_190 fd_X4_13 rfl rfl ?_
        have hM3 : MP _ (ux _ 0 9 (v)) := hM2.f (j := 4) (by decide)
        refine x_iload5 dX4_set_193 ?_
        have hF : Fg 67 67 m1 (up (up (up (up m1 59 1 (s.1 0 6)) 59 2 (s.1 0 7)) 59 3 (s.1 0 8)) 59 4 (v)) := (((Fg.rf.upf (by decide)).upf (by decide)).upf (by decide)).upf (by decide)
        refine xe_i dX4_set_195 ?_
        rw [o_set, if_neg (by omega), if_neg (by omega), if_neg (by omega)]
        refine ⟨rfl, hC.fg hF (by decide) (hM3.cg (fun a z => ?_)), hF.fr (by decide)⟩
        unfold ux
        by_cases ha : a = 0
        · subst ha
          by_cases z1 : z = 6
          · subst z1; simp
          · by_cases z2 : z = 7
            · subst z2; simp
            · by_cases z3 : z = 8
              · subst z3; simp
              · by_cases z4 : z = 9
                · subst z4; simp
                · simp [z1, z2, z3, z4]
        · simp [ha]
    have mid : ∀ w : Int, w = hi_f q → Ex E cX4_set 6 RX4 2 (RQ m1 (o_set s q v)) 55 [some (zr 59), some (zi q), some (zi v), some (zi (lo_f q)), none, none] [zi w] m1 := by
      intro w hw
      subst hw
      have hlh : lo_f q ≤ 1 ∧ 5 ≤ hi_f q := by
        unfold lo_f hi_f
        constructor
        · split <;> omega
        · split
          · omega
          · split <;> omega
      refine x_istore4 dX4_set_55 (by decide) rfl ?_
      refine x_iload2 dX4_set_57 ?_
      refine x_iload3 dX4_set_58 ?_
      refine x_icmp_lt (tgt := 68) dX4_set_59 rfl (fun d1 => ?_) (fun d1 => ?_)
      · refine x_aload0 dX4_set_68 ?_
        refine x_iload2 dX4_set_69 ?_
        refine x_iload3 dX4_set_70 ?_
        refine x_icmp_ge (tgt := 79) dX4_set_71 rfl (fun d2 => ?_) (fun d2 => ?_)
        · omega
        · refine x_bipush dX4_set_74 ⟨by decide, by decide⟩ ?_
          refine x_goto (tgt := 81) dX4_set_76 rfl ?_
          refine x_callv1 dX4_set_81 cv_X4_150 ci_X4_refuse rfl (T := TX4) rfl (by omega) (Nat.le_of_ble_eq_true rfl) (t_refuse hC (k := 4) (by decide) (by decide) (by decide)) (fun r m1 hq => ?_)
          obtain ⟨rfl, hC1, hF1⟩ := hq
          exact xe_i dX4_set_84 (by rw [o_set, if_neg (by omega), if_pos d1]; exact ⟨rfl, hC1, hF1⟩)
      · refine x_iload2 dX4_set_62 ?_
        refine x_iload4 dX4_set_63 ?_
        refine x_icmp_le (tgt := 85) dX4_set_65 rfl (fun d2 => ?_) (fun d2 => ?_)
        · exact fin d1 d2 _ _
        · refine x_aload0 dX4_set_68 ?_
          refine x_iload2 dX4_set_69 ?_
          refine x_iload3 dX4_set_70 ?_
          refine x_icmp_ge (tgt := 79) dX4_set_71 rfl (fun d3 => ?_) (fun d3 => ?_)
          · refine x_bipush dX4_set_79 ⟨by decide, by decide⟩ ?_
            refine x_callv1 dX4_set_81 cv_X4_150 ci_X4_refuse rfl (T := TX4) rfl (by omega) (Nat.le_of_ble_eq_true rfl) (t_refuse hC (k := 6) (by decide) (by decide) (by decide)) (fun r m1 hq => ?_)
            obtain ⟨rfl, hC1, hF1⟩ := hq
            exact xe_i dX4_set_84 (by rw [o_set, if_neg (by omega), if_neg (by omega), if_pos d2]; exact ⟨rfl, hC1, hF1⟩)
          · omega
    have mid2 : ∀ w : Int, w = lo_f q → Ex E cX4_set 6 RX4 2 (RQ m1 (o_set s q v)) 34 [some (zr 59), some (zi q), some (zi v), none, none, none] [zi w] m1 := by
      intro w hw
      subst hw
      refine x_istore3 dX4_set_34 (by decide) rfl ?_
      refine x_iload1 dX4_set_35 ?_
      refine x_if_ne (tgt := 43) dX4_set_36 rfl (fun d1 => ?_) (fun d1 => ?_)
      · refine x_iload1 dX4_set_43 ?_
        refine x_iconst dX4_set_44 ⟨by decide, by decide⟩ ?_
        refine x_icmp_ne (tgt := 53) dX4_set_45 rfl (fun d2 => ?_) (fun d2 => ?_)
        · refine x_bipush dX4_set_53 ⟨by decide, by decide⟩ ?_
          exact mid 9 (by rw [hi_f, if_neg d1, if_neg d2])
        · refine x_bipush dX4_set_48 ⟨by decide, by decide⟩ ?_
          refine x_goto (tgt := 55) dX4_set_50 rfl ?_
          exact mid 40 (by rw [hi_f, if_neg d1, if_pos d2])
      · refine x_iconst dX4_set_39 ⟨by decide, by decide⟩ ?_
        refine x_goto (tgt := 55) dX4_set_40 rfl ?_
        exact mid 5 (by rw [hi_f, if_pos d1])
    refine x_iload1 dX4_set_24 ?_
    refine x_iconst dX4_set_25 ⟨by decide, by decide⟩ ?_
    refine x_icmp_ne (tgt := 33) dX4_set_26 rfl (fun d1 => ?_) (fun d1 => ?_)
    · refine x_iconst dX4_set_33 ⟨by decide, by decide⟩ ?_
      exact mid2 0 (by rw [lo_f, if_neg d1])
    · refine x_iconst dX4_set_29 ⟨by decide, by decide⟩ ?_
      refine x_goto (tgt := 34) dX4_set_30 rfl ?_
      exact mid2 1 (by rw [lo_f, if_pos d1])
  · rw [if_neg h1]
    refine x_if_ne (tgt := 24) dX4_set_14 rfl (fun c1 => ?_) (fun c1 => ?_)
    · omega
    · refine x_aload0 dX4_set_17 ?_
      refine x_bipush dX4_set_18 ⟨by decide, by decide⟩ ?_
      refine x_callv1 dX4_set_20 cv_X4_150 ci_X4_refuse rfl (T := TX4) rfl (by omega) (Nat.le_of_ble_eq_true rfl) (t_refuse hC (k := 2) (by decide) (by decide) (by decide)) (fun r m1 hq => ?_)
      obtain ⟨rfl, hC1, hF1⟩ := hq
      exact xe_i dX4_set_23 (by rw [o_set, if_pos (by omega)]; exact ⟨rfl, hC1, hF1⟩)
end RM6
