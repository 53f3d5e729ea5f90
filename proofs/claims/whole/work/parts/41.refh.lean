section RM8
variable {E : zz_E} {m : zz_M} {s : zz_S} {V W : zz_W} {D : Int}
/-- between open and close: the yard holds W, what is kept V -/
def OM (m m2 : zz_M) (V W : zz_W) : Prop := MP m2 W ∧ SP m2 67 V ∧ Fg 67 68 m m2
theorem OM.st {m2 m3 : zz_M} {W' : zz_W} (h : OM m m2 V W) (hF : Fy m2 m3) (hM : MP m3 W') : OM m m3 V W' := ⟨hM, hF.sp h.2.1 (by decide) (by decide), h.2.2.tr hF.y⟩
theorem OM.gone {m2 : zz_M} (h : OM m m2 V W) (hg : m 59 17 = -1) : m2 59 17 = -1 := (h.2.2.2 17 (by decide) (by decide) (by decide) (by decide)).trans hg
theorem OM.fin {m2 : zz_M} (h : OM m m2 s.1 s.1) (hC : MPS m s) : MPS m2 s ∧ Fr 59 77 m m2 := ⟨hC.fg h.2.2 (by decide) h.1, h.2.2.fr (by decide)⟩
theorem t_settle (hC : MPS m s) (hI : Is s) {n : Int} : Mt E 6 yX4_settle cX4_settle 4 (some .int) [zr 59, zi n] m (RQ m (o_settle s n)) := by
  have hV := hI.1
  have hn := hV.1
  refine Mt.of 2 (by decide +kernel) (Nat.le_of_ble_eq_true rfl) (Or.inl rfl) ?_ ?_
  · exact RQ.rt
  show Ex E cX4_settle 4 RX4 6 _ 0 [some (zr 59), some (zi n), none, none] [] m
  refine x_aload0 dX4_settle_0 ?_
  refine x_iconst dX4_settle_1 ⟨by decide, by decide⟩ ?_
  refine x_putI dX4_settle_2 fd_X4_74 rfl rfl ?_
  refine th15 (fun m hC => ?_) hC
  have hM := hC.1
  have bad : ∀ k : Int, 1 ≤ k → k ≤ 6 → o_settle s n = rfo s k → Ex E cX4_settle 4 RX4 6 (RQ m (o_settle s n)) 38 [some (zr 59), some (zi n), none, none] [zi (-k)] m := by
    intro k hk1 hk6 he
    refine x_istore2 dX4_settle_38 (by decide) rfl ?_
    refine x_iload2 dX4_settle_39 ?_
    refine x_if_ge (tgt := 49) dX4_settle_40 rfl (fun c1 => ?_) (fun c1 => ?_)
    · omega
    · refine x_aload0 dX4_settle_43 ?_
      refine x_iload2 dX4_settle_44 ?_
      refine x_callv1 dX4_settle_45 cv_X4_150 ci_X4_refuse rfl (T := TX4) rfl (by omega) (Nat.le_of_ble_eq_true rfl) (t_refuse hC hk1 hk6 rfl) (fun r m1 hq => ?_)
      obtain ⟨rfl, hC1, hF1⟩ := hq
      rw [he]
      exact xe_i dX4_settle_48 (⟨rfl, hC1, hF1⟩)
  refine x_iload1 dX4_settle_5 ?_
  refine x_if_ge (tgt := 14) dX4_settle_6 rfl (fun c1 => ?_) (fun c1 => ?_)
  · refine x_iload1 dX4_settle_14 ?_
    refine x_bipush dX4_settle_15 ⟨by decide, by decide⟩ ?_
    refine x_icmp_le (tgt := 25) dX4_settle_17 rfl (fun c2 => ?_) (fun c2 => ?_)
    · refine x_aload0 dX4_settle_25 ?_
      refine x_getI dX4_settle_26 fd_X4_77 rfl (Or.inl rfl) (v := s.1 0 0) hM.nests ?_
      refine x_if_ne (tgt := 37) dX4_settle_29 rfl (fun c3 => ?_) (fun c3 => ?_)
      · refine x_iconst dX4_settle_37 ⟨by decide, by decide⟩ ?_
        refine x_istore2 dX4_settle_38 (by decide) rfl ?_
        refine x_iload2 dX4_settle_39 ?_
        refine x_if_ge (tgt := 49) dX4_settle_40 rfl (fun c4 => ?_) (fun c4 => ?_)
        · have hok := nts_ok hV c3
          refine x_aload0 dX4_settle_49 ?_
          refine x_callv0 dX4_settle_50 cv_X4_182 ci_X4_open rfl (T := TX4) rfl (by omega) (Nat.le_of_ble_eq_true rfl) (t_open hM) (fun r m1 hq => ?_)
          obtain ⟨rfl, hO⟩ := hq
          have hO : OM m m1 s.1 s.1 := hO
          show Ex _ _ _ _ _ _ _ _ [] _
          refine x_iconst dX4_settle_53 ⟨by decide, by decide⟩ ?_
          refine x_istore3 dX4_settle_54 (by decide) rfl ?_
          have loop : ∀ (k j : Nat) (m2 : zz_M), (j : Int) + k = n → OM m m2 s.1 (nts j s.1) → Ex E cX4_settle 4 RX4 6 (RQ m (o_settle s n)) 55 [some (zr 59), some (zi n), some (zi 0), some (zi j)] [] m2 := by
            intro k
            induction k with
            | zero =>
              intro j m2 hj hO2
              refine x_iload3 dX4_settle_55 ?_
              refine x_iload1 dX4_settle_56 ?_
              refine x_icmp_ge (tgt := 71) dX4_settle_57 rfl (fun d1 => ?_) (fun d1 => ?_)
              · have e1 : n.toNat = j := by omega
                refine x_aload0 dX4_settle_71 ?_
                refine x_callv0 dX4_settle_72 cv_X4_225 ci_X4_eggsOfAll rfl (T := TX4) rfl (by omega) (Nat.le_of_ble_eq_true rfl) (t_eggsOfAll hO2.1 (hok j (by omega))) (fun r m3 hq => ?_)
                obtain ⟨rfl, rfl⟩ := hq
                show Ex _ _ _ _ _ _ _ _ [zi (alle (nts j s.1))] _
                refine x_istore3 dX4_settle_75 (by decide) rfl ?_
                refine x_aload0 dX4_settle_76 ?_
                refine x_callv0 dX4_settle_77 cv_X4_188 ci_X4_close rfl (T := TX4) rfl (by omega) (Nat.le_of_ble_eq_true rfl) (t_close hO2.2.1) (fun r m4 hq => ?_)
                obtain ⟨rfl, hM4, hS4, hF4⟩ := hq
                have hO4 : OM m m4 s.1 s.1 := ⟨hM4, hS4, hO2.2.2.tr hF4⟩
                have hfin := hO4.fin hC
                show Ex _ _ _ _ _ _ _ _ [] _
                refine x_iload3 dX4_settle_80 ?_
                exact xe_i dX4_settle_81 (by rw [o_settle, if_neg (by omega), if_neg (by omega), if_neg c3, e1]; exact ⟨rfl, hfin⟩)
              · omega
            | succ k ih =>
              intro j m2 hj hO2
              refine x_iload3 dX4_settle_55 ?_
              refine x_iload1 dX4_settle_56 ?_
              refine x_icmp_ge (tgt := 71) dX4_settle_57 rfl (fun d1 => ?_) (fun d1 => ?_)
              · omega
              · refine x_aload0 dX4_settle_60 ?_
                refine x_callv0 dX4_settle_61 cv_X4_202 ci_X4_nightOn rfl (T := TX4) rfl (by omega) (Nat.le_of_ble_eq_true rfl) (t_nightOn hO2.1 (hok j (by omega)) (by omega) (hO2.gone hC.gone) (by rw [nts_sc]; exact c3)) (fun r m3 hq => ?_)
                obtain ⟨rfl, hM3, hF3⟩ := hq
                show Ex _ _ _ _ _ _ _ _ [zi _] _
                refine x_pop dX4_settle_64 ?_
                refine x_iinc3 dX4_settle_65 (by decide) rfl (nrm_id (by omega) (by omega)) ?_
                refine x_goto (tgt := 55) dX4_settle_68 rfl ?_
                exact Ex.eq (by push_cast; rfl) rfl rfl (ih (j + 1) _ (by omega) (hO2.st hF3 hM3))
          exact loop n.toNat 0 m1 (by omega) hO
        · omega
      · refine x_bipush dX4_settle_32 ⟨by decide, by decide⟩ ?_
        refine x_goto (tgt := 38) dX4_settle_34 rfl ?_
        exact bad 3 (by decide) (by decide) (by rw [o_settle, if_neg (by omega), if_neg (by omega), if_pos c3])
    · refine x_bipush dX4_settle_20 ⟨by decide, by decide⟩ ?_
      refine x_goto (tgt := 38) dX4_settle_22 rfl ?_
      exact bad 6 (by decide) (by decide) (by rw [o_settle, if_neg (by omega), if_pos c2])
  · refine x_bipush dX4_settle_9 ⟨by decide, by decide⟩ ?_
    refine x_goto (tgt := 38) dX4_settle_11 rfl ?_
    exact bad 4 (by decide) (by decide) (by rw [o_settle, if_pos c1])
theorem t_each (hC : MPS m s) (hI : Is s) {q n : Int} : Mt E 6 yX4_each cX4_each 6 (some .int) [zr 59, zi q, zi n] m (RQ m (o_each s q n)) := by
  have hV := hI.1
  have hn := hV.1
  refine Mt.of 3 (by decide +kernel) (Nat.le_of_ble_eq_true rfl) (Or.inl rfl) ?_ ?_
  · exact RQ.rt
  show Ex E cX4_each 6 RX4 6 _ 0 [some (zr 59), some (zi q), some (zi n), none, none, none] [] m
  refine Ex.okL (fun hL => ?_)
  have hqi : zz_in q := hL (zi q) (List.mem_cons_of_mem _ List.mem_cons_self)
  clear hL
  refine x_aload0 dX4_each_0 ?_
  refine x_iconst dX4_each_1 ⟨by decide, by decide⟩ ?_
  refine x_putI dX4_each_2 fd_X4_74 rfl rfl ?_
  refine th15 (fun m hC => ?_) hC
  have hM := hC.1
  have bad : ∀ k : Int, 1 ≤ k → k ≤ 6 → o_each s q n = rfo s k → Ex E cX4_each 6 RX4 6 (RQ m (o_each s q n)) 56 [some (zr 59), some (zi q), some (zi n), none, none, none] [zi (-k)] m := by
    intro k hk1 hk6 he
    refine x_istore3 dX4_each_56 (by decide) rfl ?_
    refine x_iload3 dX4_each_57 ?_
    refine x_if_ge (tgt := 67) dX4_each_58 rfl (fun c1 => ?_) (fun c1 => ?_)
    · omega
    · refine x_aload0 dX4_each_61 ?_
      refine x_iload3 dX4_each_62 ?_
      refine x_callv1 dX4_each_63 cv_X4_150 ci_X4_refuse rfl (T := TX4) rfl (by omega) (Nat.le_of_ble_eq_true rfl) (t_refuse hC hk1 hk6 rfl) (fun r m1 hq => ?_)
      obtain ⟨rfl, hC1, hF1⟩ := hq
      rw [he]
      exact xe_i dX4_each_66 (⟨rfl, hC1, hF1⟩)
  have noset : isr q (s.1 0 0) ≠ 0 → Ex E cX4_each 6 RX4 6 (RQ m (o_each s q n)) 18 [some (zr 59), some (zi q), some (zi n), none, none, none] [] m := by
    intro h
    refine x_iconst dX4_each_18 ⟨by decide, by decide⟩ ?_
    refine x_goto (tgt := 56) dX4_each_19 rfl ?_
    exact bad 1 (by decide) (by decide) (by rw [o_each, if_pos h])
  refine x_iload1 dX4_each_5 ?_
  refine x_if_lt (tgt := 18) dX4_each_6 rfl (fun c1 => ?_) (fun c1 => ?_)
  · exact noset (fun h => by have := isr_bd hqi hn.1 hn.2 h; omega)
  · refine x_iload1 dX4_each_9 ?_
    refine x_aload0 dX4_each_10 ?_
    refine x_getI dX4_each_11 fd_X4_77 rfl (Or.inl rfl) (v := s.1 0 0) hM.nests ?_
    refine x_ishr dX4_each_14 rfl ?_
    refine x_if_eq (tgt := 22) dX4_each_15 rfl (fun c2 => ?_) (fun c2 => ?_)
    · have c2 : isr q (s.1 0 0) = 0 := c2
      have hq6 := isr_bd hqi hn.1 hn.2 c2
      refine x_iload2 dX4_each_22 ?_
      refine x_iconst dX4_each_23 ⟨by decide, by decide⟩ ?_
      refine x_icmp_ge (tgt := 32) dX4_each_24 rfl (fun c3 => ?_) (fun c3 => ?_)
      · refine x_iload2 dX4_each_32 ?_
        refine x_bipush dX4_each_33 ⟨by decide, by decide⟩ ?_
        refine x_icmp_le (tgt := 43) dX4_each_35 rfl (fun c4 => ?_) (fun c4 => ?_)
        · refine x_aload0 dX4_each_43 ?_
          refine x_getI dX4_each_44 fd_X4_77 rfl (Or.inl rfl) (v := s.1 0 0) hM.nests ?_
          refine x_if_ne (tgt := 55) dX4_each_47 rfl (fun c5 => ?_) (fun c5 => ?_)
          · refine x_iconst dX4_each_55 ⟨by decide, by decide⟩ ?_
            refine x_istore3 dX4_each_56 (by decide) rfl ?_
            refine x_iload3 dX4_each_57 ?_
            refine x_if_ge (tgt := 67) dX4_each_58 rfl (fun c6 => ?_) (fun c6 => ?_)
            · have hV0 := Iv_l0 hV
              have hok := eac_ok hV0 (show ux s.1 0 2 0 0 0 ≠ 0 from c5) hq6
              refine x_aload0 dX4_each_67 ?_
              refine x_callv0 dX4_each_68 cv_X4_182 ci_X4_open rfl (T := TX4) rfl (by omega) (Nat.le_of_ble_eq_true rfl) (t_open hM) (fun r m1 hq => ?_)
              obtain ⟨rfl, hO⟩ := hq
              have hO : OM m m1 s.1 s.1 := hO
              show Ex _ _ _ _ _ _ _ _ [] _
              refine x_aload0 dX4_each_71 ?_
              refine x_iconst dX4_each_72 ⟨by decide, by decide⟩ ?_
              refine x_putI dX4_each_73 fd_X4_84 rfl rfl ?_
              refine x_iconst dX4_each_76 ⟨by decide, by decide⟩ ?_
              refine x_istore4 dX4_each_77 (by decide) rfl ?_
              refine x_iconst dX4_each_79 ⟨by decide, by decide⟩ ?_
              refine x_istore5 dX4_each_80 (by decide) rfl ?_
              have hO1 : OM m (up m1 59 6 0) s.1 (ux s.1 0 2 0) := hO.st (Fg.rf.upf (by decide)) (hO.1.f (j := 6) (by decide))
              have loop : ∀ (k j : Nat) (m2 : zz_M), (j : Int) + k = n → OM m m2 s.1 (eac q j (ux s.1 0 2 0)).2 → Ex E cX4_each 6 RX4 6 (RQ m (o_each s q n)) 82 [some (zr 59), some (zi q), some (zi n), some (zi 0), some (zi (eac q j (ux s.1 0 2 0)).1), some (zi j)] [] m2 := by
                intro k
                induction k with
                | zero =>
                  intro j m2 hj hO2
                  refine x_iload5 dX4_each_82 ?_
                  refine x_iload2 dX4_each_84 ?_
                  refine x_icmp_ge (tgt := 109) dX4_each_85 rfl (fun d1 => ?_) (fun d1 => ?_)
                  · have e1 : n.toNat = j := by omega
                    refine x_aload0 dX4_each_109 ?_
                    refine x_callv0 dX4_each_110 cv_X4_188 ci_X4_close rfl (T := TX4) rfl (by omega) (Nat.le_of_ble_eq_true rfl) (t_close hO2.2.1) (fun r m4 hq => ?_)
                    obtain ⟨rfl, hM4, hS4, hF4⟩ := hq
                    have hO4 : OM m m4 s.1 s.1 := ⟨hM4, hS4, hO2.2.2.tr hF4⟩
                    have hfin := hO4.fin hC
                    show Ex _ _ _ _ _ _ _ _ [] _
                    refine x_iload4 dX4_each_113 ?_
                    exact xe_i dX4_each_115 (by rw [o_each, if_neg (fun z => z c2), if_neg (by omega), if_neg (by omega), if_neg c5, e1]; exact ⟨rfl, hfin⟩)
                  · omega
                | succ k ih =>
                  intro j m2 hj hO2
                  obtain ⟨g1, g2, g3⟩ := hok j (by omega)
                  have gt := tkn_bd (V := (eac q j (ux s.1 0 2 0)).2) g1.2.2.2.2.2.2.2.2.2.1 q ((eac q j (ux s.1 0 2 0)).2 0 0).toNat (by have := g1.1; omega)
                  have gt2 : 0 ≤ tkn (eac q j (ux s.1 0 2 0)).2 q ∧ tkn (eac q j (ux s.1 0 2 0)).2 q ≤ 540 := gt
                  have g4 := Iv_tak g1 hq6.1 hq6.2
                  have g5 : tak (eac q j (ux s.1 0 2 0)).2 q 0 0 ≠ 0 := by
                    rw [tak_sc _ _ _ (by decide), eac_sc]
                    exact c5
                  refine x_iload5 dX4_each_82 ?_
                  refine x_iload2 dX4_each_84 ?_
                  refine x_icmp_ge (tgt := 109) dX4_each_85 rfl (fun d1 => ?_) (fun d1 => ?_)
                  · omega
                  · refine x_iload4 dX4_each_88 ?_
                    refine x_aload0 dX4_each_90 ?_
                    refine x_iload1 dX4_each_91 ?_
                    refine x_callv1 dX4_each_92 cv_X4_199 ci_X4_take rfl (T := TX4) rfl (by omega) (Nat.le_of_ble_eq_true rfl) (t_take hO2.1 g1) (fun r m3 hq => ?_)
                    obtain ⟨rfl, hM3, hF3⟩ := hq
                    have hO3 := hO2.st hF3.y hM3
                    show Ex _ _ _ _ _ _ _ _ [zi (tkn (eac q j (ux s.1 0 2 0)).2 q), zi _] _
                    refine x_iadd dX4_each_95 (nrm_id (by omega) (by omega)) ?_
                    refine x_istore4 dX4_each_96 (by decide) rfl ?_
                    refine x_aload0 dX4_each_98 ?_
                    refine x_callv0 dX4_each_99 cv_X4_202 ci_X4_nightOn rfl (T := TX4) rfl (by omega) (Nat.le_of_ble_eq_true rfl) (t_nightOn hO3.1 g4 (by omega) (hO3.gone hC.gone) g5) (fun r m4 hq => ?_)
                    obtain ⟨rfl, hM4, hF4⟩ := hq
                    show Ex _ _ _ _ _ _ _ _ [zi _] _
                    refine x_pop dX4_each_102 ?_
                    refine x_iinc5 dX4_each_103 (by decide) rfl (nrm_id (by omega) (by omega)) ?_
                    refine x_goto (tgt := 82) dX4_each_106 rfl ?_
                    refine Ex.eq ?_ rfl rfl (ih (j + 1) _ (by omega) (hO3.st hF4 hM4))
                    rw [show (((j + 1 : Nat) : Nat) : Int) = (j : Int) + 1 by omega]
                    rfl
              exact loop n.toNat 0 _ (by omega) hO1
            · omega
          · refine x_bipush dX4_each_50 ⟨by decide, by decide⟩ ?_
            refine x_goto (tgt := 56) dX4_each_52 rfl ?_
            exact bad 3 (by decide) (by decide) (by rw [o_each, if_neg (fun z => z c2), if_neg (by omega), if_neg (by omega), if_pos c5])
        · refine x_bipush dX4_each_38 ⟨by decide, by decide⟩ ?_
          refine x_goto (tgt := 56) dX4_each_40 rfl ?_
          exact bad 6 (by decide) (by decide) (by rw [o_each, if_neg (fun z => z c2), if_neg (by omega), if_pos c4])
      · refine x_bipush dX4_each_27 ⟨by decide, by decide⟩ ?_
        refine x_goto (tgt := 56) dX4_each_29 rfl ?_
        exact bad 4 (by decide) (by decide) (by rw [o_each, if_neg (fun z => z c2), if_pos c3])
    · exact noset c2
theorem fun_b (T V : zz_W) (k : Int) : ∀ (q j : Nat), fun_ T V k q j = -9 ∨ 0 ≤ fun_ T V k q j
  | 0, _ => Or.inl rfl
  | q + 1, j => by
    unfold fun_
    split
    · exact fun_b T V k q (j + 1)
    · exact Or.inr (by omega)
theorem t_firstUnlike {k : Int} {T : zz_W} (hM : MP m (ux V 0 6 k)) (hg : m 59 17 = -1) (h37 : m 59 37 = T 0 1) (h75 : ∀ z : Int, 0 ≤ z → z < 8 → m 75 z.toNat = T 2 z) (hT : 0 ≤ T 0 1 ∧ T 0 1 ≤ 8) (hI : Iv 9999 (ux V 0 6 k)) (h0 : V 0 0 ≠ 0) : Mt E 6 yX4_firstUnlike cX4_firstUnlike 3 (some .int) [zr 59] m (fun r m' => r = some (zi (fun_ T V k (T 0 1).toNat 0)) ∧ OM m m' (ux V 0 6 k) (ux V 0 6 k)) := by
  have hok := nts_ok hI (show ux V 0 6 k 0 0 ≠ 0 from h0)
  refine Mt.of 2 (by decide +kernel) (Nat.le_of_ble_eq_true rfl) (Or.inl rfl) ?_ ?_
  · rintro r m' ⟨rfl, -⟩; simp
  show Ex E cX4_firstUnlike 3 RX4 6 _ 0 [some (zr 59), none, none] [] m
  refine x_aload0 dX4_firstUnlike_0 ?_
  refine x_callv0 dX4_firstUnlike_1 cv_X4_182 ci_X4_open rfl (T := TX4) rfl (by omega) (Nat.le_of_ble_eq_true rfl) (t_open hM) (fun r m1 hq => ?_)
  obtain ⟨rfl, hO⟩ := hq
  have hO : OM m m1 (ux V 0 6 k) (ux V 0 6 k) := hO
  show Ex _ _ _ _ _ _ _ _ [] _
  refine x_bipush dX4_firstUnlike_4 ⟨by decide, by decide⟩ ?_
  refine x_istore1 dX4_firstUnlike_6 (by decide) rfl ?_
  refine x_iconst dX4_firstUnlike_7 ⟨by decide, by decide⟩ ?_
  refine x_istore2 dX4_firstUnlike_8 (by decide) rfl ?_
  have fin : ∀ (v x : Int) (m2 : zz_M) (U : zz_W), v = fun_ T V k (T 0 1).toNat 0 → OM m m2 (ux V 0 6 k) U → Ex E cX4_firstUnlike 3 RX4 6 (fun r m' => r = some (zi (fun_ T V k (T 0 1).toNat 0)) ∧ OM m m' (ux V 0 6 k) (ux V 0 6 k)) 47 [some (zr 59), some (zi v), some (zi x)] [] m2 := by
    intro v x m2 U hv hO2
    refine x_aload0 dX4_firstUnlike_47 ?_
    refine x_callv0 dX4_firstUnlike_48 cv_X4_188 ci_X4_close rfl (T := TX4) rfl (by omega) (Nat.le_of_ble_eq_true rfl) (t_close hO2.2.1) (fun r m4 hq => ?_)
    obtain ⟨rfl, hM4, hS4, hF4⟩ := hq
    show Ex _ _ _ _ _ _ _ _ [] _
    refine x_iload1 dX4_firstUnlike_51 ?_
    exact xe_i dX4_firstUnlike_52 (⟨by rw [hv], hM4, hS4, hO2.2.2.tr hF4⟩)
  have loop : ∀ (q j : Nat) (m2 : zz_M), (j : Int) + q = T 0 1 → OM m m2 (ux V 0 6 k) (nts j (ux V 0 6 k)) → fun_ T V k q j = fun_ T V k (T 0 1).toNat 0 → Ex E cX4_firstUnlike 3 RX4 6 (fun r m' => r = some (zi (fun_ T V k (T 0 1).toNat 0)) ∧ OM m m' (ux V 0 6 k) (ux V 0 6 k)) 9 [some (zr 59), some (zi (-9)), some (zi j)] [] m2 := by
    intro q
    induction q with
    | zero =>
      intro j m2 hj hO2 he
      have e37 : m2 59 37 = T 0 1 := (hO2.2.2.2 37 (by decide) (by decide) (by decide) (by decide)).trans h37
      refine x_iload2 dX4_firstUnlike_9 ?_
      refine x_aload0 dX4_firstUnlike_10 ?_
      refine x_getI dX4_firstUnlike_11 fd_X4_219 rfl (Or.inl rfl) (v := T 0 1) e37 ?_
      refine x_icmp_ge (tgt := 47) dX4_firstUnlike_14 rfl (fun d1 => ?_) (fun d1 => ?_)
      · exact fin _ _ _ _ he hO2
      · omega
    | succ q ih =>
      intro j m2 hj hO2 he
      have e37 : m2 59 37 = T 0 1 := (hO2.2.2.2 37 (by decide) (by decide) (by decide) (by decide)).trans h37
      refine x_iload2 dX4_firstUnlike_9 ?_
      refine x_aload0 dX4_firstUnlike_10 ?_
      refine x_getI dX4_firstUnlike_11 fd_X4_219 rfl (Or.inl rfl) (v := T 0 1) e37 ?_
      refine x_icmp_ge (tgt := 47) dX4_firstUnlike_14 rfl (fun d1 => ?_) (fun d1 => ?_)
      · omega
      · refine x_iload1 dX4_firstUnlike_17 ?_
        refine x_if_ge (tgt := 47) dX4_firstUnlike_18 rfl (fun d2 => ?_) (fun d2 => ?_)
        · omega
        · refine x_aload0 dX4_firstUnlike_21 ?_
          refine x_callv0 dX4_firstUnlike_22 cv_X4_202 ci_X4_nightOn rfl (T := TX4) rfl (by omega) (Nat.le_of_ble_eq_true rfl) (t_nightOn hO2.1 (hok j (by omega)) (by omega) (hO2.gone hg) (by rw [nts_sc]; exact h0)) (fun r m3 hq => ?_)
          obtain ⟨rfl, hM3, hF3⟩ := hq
          have hO3 : OM m m3 (ux V 0 6 k) (nts (j + 1) (ux V 0 6 k)) := hO2.st hF3 hM3
          show Ex _ _ _ _ _ _ _ _ [zi (ldn V k j)] _
          refine x_aload0 dX4_firstUnlike_25 ?_
          refine x_getR (q := 75) dX4_firstUnlike_26 fd_X4_68 rfl rfl rfl ?_
          refine x_iload2 dX4_firstUnlike_29 ?_
          refine x_iald dX4_firstUnlike_30 rfl (by omega) (by omega) (v := T 2 j) (by rw [hO3.2.2.1 75 (by decide)]; exact h75 j (by omega) (by omega)) ?_
          refine x_icmp_ne (tgt := 39) dX4_firstUnlike_31 rfl (fun d3 => ?_) (fun d3 => ?_)
          · refine x_iload2 dX4_firstUnlike_39 ?_
            refine x_istore1 dX4_firstUnlike_40 (by decide) rfl ?_
            refine x_iinc2 dX4_firstUnlike_41 (by decide) rfl (nrm_id (by omega) (by omega)) ?_
            refine x_goto (tgt := 9) dX4_firstUnlike_44 rfl ?_
            have ev : fun_ T V k (T 0 1).toNat 0 = (j : Int) := by rw [← he, fun_, if_neg (fun h => d3 h.symm)]
            have e37 : m3 59 37 = T 0 1 := (hO3.2.2.2 37 (by decide) (by decide) (by decide) (by decide)).trans h37
            refine x_iload2 dX4_firstUnlike_9 ?_
            refine x_aload0 dX4_firstUnlike_10 ?_
            refine x_getI dX4_firstUnlike_11 fd_X4_219 rfl (Or.inl rfl) (v := T 0 1) e37 ?_
            refine x_icmp_ge (tgt := 47) dX4_firstUnlike_14 rfl (fun d4 => ?_) (fun d4 => ?_)
            · exact fin _ _ _ _ ev.symm hO3
            · refine x_iload1 dX4_firstUnlike_17 ?_
              refine x_if_ge (tgt := 47) dX4_firstUnlike_18 rfl (fun d5 => ?_) (fun d5 => ?_)
              · exact fin _ _ _ _ ev.symm hO3
              · omega
          · refine x_bipush dX4_firstUnlike_34 ⟨by decide, by decide⟩ ?_
            refine x_goto (tgt := 40) dX4_firstUnlike_36 rfl ?_
            refine x_istore1 dX4_firstUnlike_40 (by decide) rfl ?_
            refine x_iinc2 dX4_firstUnlike_41 (by decide) rfl (nrm_id (by omega) (by omega)) ?_
            refine x_goto (tgt := 9) dX4_firstUnlike_44 rfl ?_
            exact Ex.eq (by push_cast; rfl) rfl rfl (ih (j + 1) _ (by omega) hO3 (by rw [← he, fun_, if_pos d3.symm]))
  exact loop (T 0 1).toNat 0 m1 (by omega) hO rfl
theorem ux_same (V : zz_W) (k : Int) (h : V 0 6 = k) : ∀ a z, V a z = ux V 0 6 k a z := by
  intro a z
  unfold ux
  by_cases h2 : a = 0 ∧ z = 6
  · rw [if_pos h2, h2.1, h2.2, h]
  · rw [if_neg h2]
theorem ux_eq (V : zz_W) (k : Int) (h : V 0 6 = k) : ux V 0 6 k = V := by
  funext a z
  exact (ux_same V k h a z).symm
theorem t_judge (hC : MPS m s) (hI : Is s) : Mt E 7 yX4_judge cX4_judge 2 (some .int) [zr 59] m (RQ m (o_judge s)) := by
  have hV := hI.1
  refine Mt.of 1 (by decide +kernel) (Nat.le_of_ble_eq_true rfl) (Or.inl rfl) ?_ ?_
  · exact RQ.rt
  show Ex E cX4_judge 2 RX4 7 _ 0 [some (zr 59), none] [] m
  refine x_aload0 dX4_judge_0 ?_
  refine x_iconst dX4_judge_1 ⟨by decide, by decide⟩ ?_
  refine x_putI dX4_judge_2 fd_X4_74 rfl rfl ?_
  refine th15 (fun m hC => ?_) hC
  have hM := hC.1
  refine x_aload0 dX4_judge_5 ?_
  refine x_getI dX4_judge_6 fd_X4_77 rfl (Or.inl rfl) (v := s.1 0 0) hM.nests ?_
  refine x_if_ne (tgt := 19) dX4_judge_9 rfl (fun c1 => ?_) (fun c1 => ?_)
  · have eu := ux_eq s.1 _ rfl
    refine x_aload0 dX4_judge_19 ?_
    refine x_callv0 dX4_judge_20 cv_X4_222 ci_X4_firstUnlike rfl (T := TX4) rfl (by omega) (Nat.le_of_ble_eq_true rfl) (t_firstUnlike (V := s.1) (k := s.1 0 6) (T := s.2.2) (by rw [eu]; exact hM) hC.gone hC.2.2.2.2.1 hC.2.2.2.2.2.2.1 hI.2.2.2.1 (by rw [eu]; exact hV) c1) (fun r m1 hq => ?_)
    obtain ⟨rfl, hO⟩ := hq
    rw [eu] at hO
    have hfin := hO.fin hC
    show Ex _ _ _ _ _ _ _ _ [zi (fut s (s.1 0 6))] _
    refine x_istore1 dX4_judge_23 (by decide) rfl ?_
    refine x_aload0 dX4_judge_24 ?_
    refine x_iconst dX4_judge_25 ⟨by decide, by decide⟩ ?_
    refine x_putI dX4_judge_26 fd_X4_219 rfl rfl ?_
    refine x_iload1 dX4_judge_29 ?_
    exact xe_i dX4_judge_30 (by rw [o_judge, if_neg c1]; exact ⟨rfl, hfin.1.row0, hfin.2.up (by decide) (by decide)⟩)
  · refine x_aload0 dX4_judge_12 ?_
    refine x_bipush dX4_judge_13 ⟨by decide, by decide⟩ ?_
    refine x_callv1 dX4_judge_15 cv_X4_150 ci_X4_refuse rfl (T := TX4) rfl (by omega) (Nat.le_of_ble_eq_true rfl) (t_refuse hC (k := 3) (by decide) (by decide) (by decide)) (fun r m1 hq => ?_)
    obtain ⟨rfl, hC1, hF1⟩ := hq
    exact xe_i dX4_judge_18 (by rw [o_judge, if_pos c1]; exact ⟨rfl, hC1, hF1⟩)
theorem ior0_f : ∀ l : Fin 64, ior (l.val : Int) 0 = (l.val : Int) := by decide +kernel
theorem wys_bd (s : zz_S) : ∀ k : Nat, k ≤ 6 → 0 ≤ wys s k ∧ wys s k < 64
  | 0, _ => ⟨by show (0 : Int) ≤ 0; omega, by show (0 : Int) < 64; omega⟩
  | k + 1, h => by
    have h1 := wys_bd s k (by omega)
    unfold wys
    split
    · have h2 := bit_bd (n := (k : Int)) (by omega) (by omega)
      exact ior_bd h1.1 h1.2 h2.1 h2.2
    · exact h1
theorem t_ways (hC : MPS m s) (hI : Is s) : Mt E 7 yX4_ways cX4_ways 4 (some .int) [zr 59] m (RQ m (o_ways s)) := by
  have hV := hI.1
  refine Mt.of 3 (by decide +kernel) (Nat.le_of_ble_eq_true rfl) (Or.inl rfl) ?_ ?_
  · exact RQ.rt
  show Ex E cX4_ways 4 RX4 7 _ 0 [some (zr 59), none, none, none] [] m
  refine x_aload0 dX4_ways_0 ?_
  refine x_iconst dX4_ways_1 ⟨by decide, by decide⟩ ?_
  refine x_putI dX4_ways_2 fd_X4_74 rfl rfl ?_
  refine th15 (fun m hC => ?_) hC
  have hM := hC.1
  refine x_aload0 dX4_ways_5 ?_
  refine x_getI dX4_ways_6 fd_X4_77 rfl (Or.inl rfl) (v := s.1 0 0) hM.nests ?_
  refine x_if_ne (tgt := 19) dX4_ways_9 rfl (fun c1 => ?_) (fun c1 => ?_)
  · refine x_aload0 dX4_ways_19 ?_
    refine x_getI dX4_ways_20 fd_X4_95 rfl (Or.inl rfl) (v := s.1 0 6) hM.kind ?_
    refine x_istore1 dX4_ways_23 (by decide) rfl ?_
    refine x_iconst dX4_ways_24 ⟨by decide, by decide⟩ ?_
    refine x_istore2 dX4_ways_25 (by decide) rfl ?_
    refine x_iconst dX4_ways_26 ⟨by decide, by decide⟩ ?_
    refine x_istore3 dX4_ways_27 (by decide) rfl ?_
    have uu : ∀ k k' : Int, ux (ux s.1 0 6 k) 0 6 k' = ux s.1 0 6 k' := by
      intro k k'
      funext a z
      unfold ux
      by_cases h2 : a = 0 ∧ z = 6
      · rw [if_pos h2, if_pos h2]
      · rw [if_neg h2, if_neg h2, if_neg h2]
    have loop : ∀ (q j : Nat) (m2 : zz_M) (x : Int), j + q = 6 → MP m2 (ux s.1 0 6 x) → Fg 67 68 m m2 → Ex E cX4_ways 4 RX4 7 (RQ m (o_ways s)) 28 [some (zr 59), some (zi (s.1 0 6)), some (zi (wys s j)), some (zi j)] [] m2 := by
      intro q
      induction q with
      | zero =>
        intro j m2 x hj hM2 hF2
        obtain rfl : j = 6 := by omega
        refine x_iload3 dX4_ways_28 ?_
        refine x_bipush dX4_ways_29 ⟨by decide, by decide⟩ ?_
        refine x_icmp_ge (tgt := 62) dX4_ways_31 rfl (fun d1 => ?_) (fun d1 => ?_)
        · refine x_aload0 dX4_ways_62 ?_
          refine x_iload1 dX4_ways_63 ?_
          refine x_putI dX4_ways_64 fd_X4_95 rfl rfl ?_
          refine x_iload2 dX4_ways_67 ?_
          have hM3 : MP (up m2 59 1 (s.1 0 6)) s.1 := by
            have := hM2.f (j := 1) (x := s.1 0 6) (by decide)
            rw [show vf 1 = 6 from rfl, uu, ux_eq _ _ rfl] at this
            exact this
          have hF3 : Fg 67 68 m (up m2 59 1 (s.1 0 6)) := hF2.upf (by decide)
          exact xe_i dX4_ways_68 (by rw [o_ways, if_neg c1]; exact ⟨rfl, hC.fg hF3 (by decide) hM3, hF3.fr (by decide)⟩)
        · omega
      | succ q ih =>
        intro j m2 x hj hM2 hF2
        refine x_iload3 dX4_ways_28 ?_
        refine x_bipush dX4_ways_29 ⟨by decide, by decide⟩ ?_
        refine x_icmp_ge (tgt := 62) dX4_ways_31 rfl (fun d1 => ?_) (fun d1 => ?_)
        · omega
        · refine x_aload0 dX4_ways_34 ?_
          refine x_iload3 dX4_ways_35 ?_
          refine x_putI dX4_ways_36 fd_X4_95 rfl rfl ?_
          refine x_iload2 dX4_ways_39 ?_
          refine x_aload0 dX4_ways_40 ?_
          have hM3 : MP (up m2 59 1 j) (ux s.1 0 6 j) := by
            have := hM2.f (j := 1) (x := (j : Int)) (by decide)
            rw [show vf 1 = 6 from rfl, uu] at this
            exact this
          have hF3 : Fg 67 68 m (up m2 59 1 j) := hF2.upf (by decide)
          have hR3 := hF3.mr (by decide) hC.2.2
          refine x_callv0 dX4_ways_41 cv_X4_222 ci_X4_firstUnlike rfl (T := TX4) rfl (by omega) (Nat.le_of_ble_eq_true rfl) (t_firstUnlike (V := s.1) (k := j) (T := s.2.2) hM3 hR3.2.2.2.2.2.2 hR3.2.2.1 hR3.2.2.2.2.1 hI.2.2.2.1 (kind_ok hV (by omega)) c1) (fun r m3 hq => ?_)
          obtain ⟨rfl, hO⟩ := hq
          have hF4 := hF3.tr hO.2.2
          have hwb := wys_bd s j (by omega)
          have hfb : fut s j = -9 ∨ 0 ≤ fut s j := fun_b _ _ _ _ _
          show Ex _ _ _ _ _ _ _ _ [zi (fut s j), zi (wys s j)] _
          refine x_if_ge (tgt := 53) dX4_ways_44 rfl (fun d2 => ?_) (fun d2 => ?_)
          · have ew : wys s (j + 1) = wys s j := by rw [wys, if_neg (by omega)]
            have e0 := ior0_f ⟨(wys s j).toNat, by omega⟩
            simp only [nat_of hwb.1] at e0
            refine x_iconst dX4_ways_53 ⟨by decide, by decide⟩ ?_
            refine x_ior dX4_ways_54 (v := wys s j) e0 ?_
            refine x_istore2 dX4_ways_55 (by decide) rfl ?_
            refine x_iinc3 dX4_ways_56 (by decide) rfl (nrm_id (by omega) (by omega)) ?_
            refine x_goto (tgt := 28) dX4_ways_59 rfl ?_
            exact Ex.eq (by rw [ew]; push_cast; rfl) rfl rfl (ih (j + 1) _ _ (by omega) hO.1 hF4)
          · have ew : wys s (j + 1) = ior (wys s j) (isl 1 j) := by rw [wys, if_pos (by omega)]
            refine x_iconst dX4_ways_47 ⟨by decide, by decide⟩ ?_
            refine x_iload3 dX4_ways_48 ?_
            refine x_ishl dX4_ways_49 rfl ?_
            refine x_goto (tgt := 54) dX4_ways_50 rfl ?_
            refine x_ior dX4_ways_54 rfl ?_
            refine x_istore2 dX4_ways_55 (by decide) rfl ?_
            refine x_iinc3 dX4_ways_56 (by decide) rfl (nrm_id (by omega) (by omega)) ?_
            refine x_goto (tgt := 28) dX4_ways_59 rfl ?_
            exact Ex.eq (by rw [ew]; push_cast; rfl) rfl rfl (ih (j + 1) _ _ (by omega) hO.1 hF4)
    exact loop 6 0 m (s.1 0 6) rfl (by rw [ux_eq _ _ rfl]; exact hM) Fg.rf
  · refine x_aload0 dX4_ways_12 ?_
    refine x_bipush dX4_ways_13 ⟨by decide, by decide⟩ ?_
    refine x_callv1 dX4_ways_15 cv_X4_150 ci_X4_refuse rfl (T := TX4) rfl (by omega) (Nat.le_of_ble_eq_true rfl) (t_refuse hC (k := 3) (by decide) (by decide) (by decide)) (fun r m1 hq => ?_)
    obtain ⟨rfl, hC1, hF1⟩ := hq
    exact xe_i dX4_ways_18 (by rw [o_ways, if_pos c1]; exact ⟨rfl, hC1, hF1⟩)
end RM8
