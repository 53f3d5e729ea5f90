section RM9
variable {E : zz_E} {m : zz_M} {s : zz_S} {V W : zz_W} {D : Int}
theorem t_draw {n z : Int} (h39 : m 59 39 = z) (h0 : 0 < n) : Mt E 1 yX4_draw cX4_draw 2 (some .int) [zr 59, zi n] m (ans (some (zi (drw n (nsd z)))) (up m 59 39 (nsd z))) := by
  refine Mt.of 0 (by decide +kernel) (Nat.le_of_ble_eq_true rfl) (Or.inl rfl) ?_ ?_
  · rintro r m' ⟨rfl, rfl⟩; simp
  show Ex E cX4_draw 2 RX4 1 _ 0 [some (zr 59), some (zi n)] [] m
  refine x_aload0 dX4_draw_0 ?_
  refine x_aload0 dX4_draw_1 ?_
  refine x_getI dX4_draw_2 fd_X4_228 rfl (Or.inl rfl) (v := z) h39 ?_
  refine x_ldc (v := 1103515245) dX4_draw_5 ⟨by decide, by decide⟩ ct_X4_231 ?_
  refine x_imul dX4_draw_7 rfl ?_
  refine x_sipush dX4_draw_8 ⟨by decide, by decide⟩ ?_
  refine x_iadd dX4_draw_11 (v := nsd z) rfl ?_
  refine x_putI dX4_draw_12 fd_X4_228 rfl rfl ?_
  refine x_aload0 dX4_draw_15 ?_
  refine x_getI dX4_draw_16 fd_X4_228 rfl (Or.inl rfl) (v := nsd z) (up_same _ _ _ _) ?_
  refine x_ldc (v := 2147483647) dX4_draw_19 ⟨by decide, by decide⟩ ct_X4_232 ?_
  refine x_iand dX4_draw_21 rfl ?_
  refine x_ldc (v := 65536) dX4_draw_22 ⟨by decide, by decide⟩ ct_X4_233 ?_
  refine x_idiv dX4_draw_24 (by omega) rfl ?_
  refine x_iload1 dX4_draw_25 ?_
  refine x_irem dX4_draw_26 (by omega) rfl ?_
  exact xe_i dX4_draw_27 (⟨rfl, rfl⟩)
theorem t_drawnNest (hM : MP m V) (hI : Iv D V) (hg : m 59 17 = -1) (h0 : V 0 0 ≠ 0) {z : Int} (h39 : m 59 39 = z) : Mt E 4 yX4_drawnNest cX4_drawnNest 3 (some .int) [zr 59] m (fun r m' => r = some (zi (naw (wt V (mya V)) (V 0 0).toNat 0 (drw (wtot V (mya V)) (nsd z)))) ∧ MP m' V ∧ Fy m m' ∧ m' 59 39 = nsd z) := by
  have hn := hI.1
  have hwb := wtot_bd hI (mya_ok hI) (mya_has hI h0)
  have hd := drw_bd hwb.1 (by omega) (nsd z)
  have hin := naw_in hI h0 (nsd z)
  refine Mt.of 2 (by decide +kernel) (Nat.le_of_ble_eq_true rfl) (Or.inl rfl) ?_ ?_
  · rintro r m' ⟨rfl, -⟩; simp
  show Ex E cX4_drawnNest 3 RX4 4 _ 0 [some (zr 59), none, none] [] m
  refine x_aload0 dX4_drawnNest_0 ?_
  refine x_callv0 dX4_drawnNest_1 cv_X4_111 ci_X4_weigh rfl (T := TX4) rfl (by omega) (Nat.le_of_ble_eq_true rfl) (t_weigh hM hI hg (y := mya V) (by rw [gs_all]; rfl) (mya_ok hI)) (fun r m1 hq => ?_)
  obtain ⟨rfl, hW, h19, hF⟩ := hq
  have hM1 := hF.mp hM
  show Ex _ _ _ _ _ _ _ _ [] _
  refine x_aload0 dX4_drawnNest_4 ?_
  refine x_aload0 dX4_drawnNest_5 ?_
  refine x_getI dX4_drawnNest_6 fd_X4_105 rfl (Or.inl rfl) (v := wtot V (mya V)) h19 ?_
  refine x_callv1 dX4_drawnNest_9 cv_X4_234 ci_X4_draw rfl (T := TX4) rfl (by omega) (Nat.le_of_ble_eq_true rfl) (t_draw ((hF.2 39 (by decide)).trans h39) hwb.1) (fun r m2 hq => ?_)
  obtain ⟨rfl, rfl⟩ := hq
  show Ex _ _ _ _ _ _ _ _ [zi (drw (wtot V (mya V)) (nsd z))] _
  refine x_istore1 dX4_drawnNest_12 (by decide) rfl ?_
  refine x_iconst dX4_drawnNest_13 ⟨by decide, by decide⟩ ?_
  refine x_istore2 dX4_drawnNest_14 (by decide) rfl ?_
  have hW2 : WP (up m1 59 39 (nsd z)) 59 (wt V (mya V)) (V 0 0) := hW.u59
  have hM2 : MP (up m1 59 39 (nsd z)) V := hM1.keep (fun k hk => upn (by omega)) (fun q a b => up_cell (by omega))
  have hF2 : Fy m (up m1 59 39 (nsd z)) := (hF.fg (a := 67) (b := 67)).upf (by decide)
  have h39' : up m1 59 39 (nsd z) 59 39 = nsd z := up_same _ _ _ _
  generalize up m1 59 39 (nsd z) = m3 at hW2 hM2 hF2 h39'
  have loop : ∀ (k j : Nat) (q : Int), (j : Int) + k = V 0 0 → 0 ≤ q → q ≤ 1000000 → naw (wt V (mya V)) k j q = naw (wt V (mya V)) (V 0 0).toNat 0 (drw (wtot V (mya V)) (nsd z)) → Ex E cX4_drawnNest 3 RX4 4 (fun r m' => r = some (zi (naw (wt V (mya V)) (V 0 0).toNat 0 (drw (wtot V (mya V)) (nsd z)))) ∧ MP m' V ∧ Fy m m' ∧ m' 59 39 = nsd z) 15 [some (zr 59), some (zi q), some (zi j)] [] m3 := by
    intro k
    induction k with
    | zero =>
      intro j q hj hq0 hq1 he
      have : naw (wt V (mya V)) 0 j q = -1 := rfl
      omega
    | succ k ih =>
      intro j q hj hq0 hq1 he
      have hwn := wt_nn hI (mya_ok hI) (i := (j : Int)) (by omega) (by omega)
      refine x_iload1 dX4_drawnNest_15 ?_
      refine x_aload0 dX4_drawnNest_16 ?_
      refine x_getR (q := 66) dX4_drawnNest_17 fd_X4_41 rfl rfl rfl ?_
      refine x_iload2 dX4_drawnNest_20 ?_
      refine x_iald dX4_drawnNest_21 rfl (by omega) (by omega) (v := wt V (mya V) j) (hW2 j (by omega) (by omega)) ?_
      refine x_icmp_lt (tgt := 40) dX4_drawnNest_22 rfl (fun c1 => ?_) (fun c1 => ?_)
      · refine x_iload2 dX4_drawnNest_40 ?_
        exact xe_i dX4_drawnNest_41 (⟨by rw [← he, naw, if_pos c1], hM2, hF2, h39'⟩)
      · refine x_iload1 dX4_drawnNest_25 ?_
        refine x_aload0 dX4_drawnNest_26 ?_
        refine x_getR (q := 66) dX4_drawnNest_27 fd_X4_41 rfl rfl rfl ?_
        refine x_iload2 dX4_drawnNest_30 ?_
        refine x_iald dX4_drawnNest_31 rfl (by omega) (by omega) (v := wt V (mya V) j) (hW2 j (by omega) (by omega)) ?_
        refine x_isub dX4_drawnNest_32 (nrm_id (by omega) (by omega)) ?_
        refine x_istore1 dX4_drawnNest_33 (by decide) rfl ?_
        refine x_iinc2 dX4_drawnNest_34 (by decide) rfl (nrm_id (by omega) (by omega)) ?_
        refine x_goto (tgt := 15) dX4_drawnNest_37 rfl ?_
        exact Ex.eq (by push_cast; rfl) rfl rfl (ih (j + 1) (q - wt V (mya V) j) (by omega) (by omega) (by omega) (by rw [← he, naw, if_neg (by omega)]; push_cast; rfl))
  exact loop (V 0 0).toNat 0 _ (by omega) hd.1 (by omega) rfl
theorem t_seeds (hC : MPS m s) (hI : Is s) {n z : Int} : Mt E 6 yX4_seeds cX4_seeds 6 (some .int) [zr 59, zi n, zi z] m (RQ m (o_seeds s n z)) := by
  have hV := hI.1
  have hn := hV.1
  refine Mt.of 3 (by decide +kernel) (Nat.le_of_ble_eq_true rfl) (Or.inl rfl) ?_ ?_
  · exact RQ.rt
  show Ex E cX4_seeds 6 RX4 6 _ 0 [some (zr 59), some (zi n), some (zi z), none, none, none] [] m
  refine x_aload0 dX4_seeds_0 ?_
  refine x_iconst dX4_seeds_1 ⟨by decide, by decide⟩ ?_
  refine x_putI dX4_seeds_2 fd_X4_74 rfl rfl ?_
  refine th15 (fun m hC => ?_) hC
  have hM := hC.1
  have bad : ∀ k : Int, 1 ≤ k → k ≤ 6 → o_seeds s n z = rfo s k → Ex E cX4_seeds 6 RX4 6 (RQ m (o_seeds s n z)) 39 [some (zr 59), some (zi n), some (zi z), none, none, none] [zi (-k)] m := by
    intro k hk1 hk6 he
    refine x_istore3 dX4_seeds_39 (by decide) rfl ?_
    refine x_iload3 dX4_seeds_40 ?_
    refine x_if_ge (tgt := 50) dX4_seeds_41 rfl (fun c1 => ?_) (fun c1 => ?_)
    · omega
    · refine x_aload0 dX4_seeds_44 ?_
      refine x_iload3 dX4_seeds_45 ?_
      refine x_callv1 dX4_seeds_46 cv_X4_150 ci_X4_refuse rfl (T := TX4) rfl (by omega) (Nat.le_of_ble_eq_true rfl) (t_refuse hC hk1 hk6 rfl) (fun r m1 hq => ?_)
      obtain ⟨rfl, hC1, hF1⟩ := hq
      rw [he]
      exact xe_i dX4_seeds_49 (⟨rfl, hC1, hF1⟩)
  refine x_iload1 dX4_seeds_5 ?_
  refine x_iconst dX4_seeds_6 ⟨by decide, by decide⟩ ?_
  refine x_icmp_ge (tgt := 15) dX4_seeds_7 rfl (fun c1 => ?_) (fun c1 => ?_)
  · refine x_iload1 dX4_seeds_15 ?_
    refine x_bipush dX4_seeds_16 ⟨by decide, by decide⟩ ?_
    refine x_icmp_le (tgt := 26) dX4_seeds_18 rfl (fun c2 => ?_) (fun c2 => ?_)
    · refine x_aload0 dX4_seeds_26 ?_
      refine x_getI dX4_seeds_27 fd_X4_77 rfl (Or.inl rfl) (v := s.1 0 0) hM.nests ?_
      refine x_if_ne (tgt := 38) dX4_seeds_30 rfl (fun c3 => ?_) (fun c3 => ?_)
      · refine x_iconst dX4_seeds_38 ⟨by decide, by decide⟩ ?_
        refine x_istore3 dX4_seeds_39 (by decide) rfl ?_
        refine x_iload3 dX4_seeds_40 ?_
        refine x_if_ge (tgt := 50) dX4_seeds_41 rfl (fun c4 => ?_) (fun c4 => ?_)
        · have hok := sds_ok (z := z) hV c3
          refine x_aload0 dX4_seeds_50 ?_
          refine x_callv0 dX4_seeds_51 cv_X4_182 ci_X4_open rfl (T := TX4) rfl (by omega) (Nat.le_of_ble_eq_true rfl) (t_open hM) (fun r m1 hq => ?_)
          obtain ⟨rfl, hO⟩ := hq
          have hO : OM m m1 s.1 s.1 := hO
          show Ex _ _ _ _ _ _ _ _ [] _
          refine x_aload0 dX4_seeds_54 ?_
          refine x_iload2 dX4_seeds_55 ?_
          refine x_putI dX4_seeds_56 fd_X4_228 rfl rfl ?_
          refine x_iconst dX4_seeds_59 ⟨by decide, by decide⟩ ?_
          refine x_istore4 dX4_seeds_60 (by decide) rfl ?_
          refine x_iconst dX4_seeds_62 ⟨by decide, by decide⟩ ?_
          refine x_istore5 dX4_seeds_63 (by decide) rfl ?_
          have hO1 : OM m (up m1 59 39 z) s.1 s.1 := hO.st (Fg.rf.upf (by decide)) (hO.1.keep (fun k hk => upn (by omega)) (fun q a b => up_cell (by omega)))
          have loop : ∀ (k j : Nat) (m2 : zz_M), (j : Int) + k = n → OM m m2 s.1 (sds s.1 z j).2.1 → m2 59 39 = (sds s.1 z j).2.2 → Ex E cX4_seeds 6 RX4 6 (RQ m (o_seeds s n z)) 65 [some (zr 59), some (zi n), some (zi z), some (zi 0), some (zi (sds s.1 z j).1), some (zi j)] [] m2 := by
            intro k
            induction k with
            | zero =>
              intro j m2 hj hO2 h39
              refine x_iload5 dX4_seeds_65 ?_
              refine x_iload1 dX4_seeds_67 ?_
              refine x_icmp_ge (tgt := 104) dX4_seeds_68 rfl (fun d1 => ?_) (fun d1 => ?_)
              · have e1 : n.toNat = j := by omega
                refine x_aload0 dX4_seeds_104 ?_
                refine x_callv0 dX4_seeds_105 cv_X4_188 ci_X4_close rfl (T := TX4) rfl (by omega) (Nat.le_of_ble_eq_true rfl) (t_close hO2.2.1) (fun r m4 hq => ?_)
                obtain ⟨rfl, hM4, hS4, hF4⟩ := hq
                have hO4 : OM m m4 s.1 s.1 := ⟨hM4, hS4, hO2.2.2.tr hF4⟩
                have hfin := hO4.fin hC
                show Ex _ _ _ _ _ _ _ _ [] _
                refine x_iload4 dX4_seeds_108 ?_
                exact xe_i dX4_seeds_110 (by rw [o_seeds, if_neg (by omega), if_neg (by omega), if_neg c3, e1]; exact ⟨rfl, hfin⟩)
              · omega
            | succ k ih =>
              intro j m2 hj hO2 h39
              obtain ⟨g1, g2, g3⟩ := hok j (by omega)
              have esd : sds s.1 z (j + 1) = sda (sds s.1 z j).1 (sds s.1 z j).2.1 (sds s.1 z j).2.2 := rfl
              have hsc : (sds s.1 z j).2.1 0 0 = s.1 0 0 := sds_sc _ _ _
              generalize hWW : sds s.1 z j = w at *
              obtain ⟨f, U, zz⟩ := w
              have g1 : Iv (9999 + j) U := g1
              have h39 : m2 59 39 = zz := h39
              have hO2 : OM m m2 s.1 U := hO2
              have hsc : U 0 0 = s.1 0 0 := hsc
              have hn1 := g1.1
              have hb := drw_bd (show 0 < U 0 0 by omega) (by omega) (nsd zz)
              have hqb := bit_bd hb.1 (show drw (U 0 0) (nsd zz) < 6 by omega)
              have gt := tkn_bd (V := U) g1.2.2.2.2.2.2.2.2.2.1 (isl 1 (drw (U 0 0) (nsd zz))) (U 0 0).toNat (by omega)
              have gt2 : 0 ≤ tkn U (isl 1 (drw (U 0 0) (nsd zz))) ∧ tkn U (isl 1 (drw (U 0 0) (nsd zz))) ≤ 540 := gt
              have h4 := Iv_tak g1 hqb.1 hqb.2
              have hsc2 : tak U (isl 1 (drw (U 0 0) (nsd zz))) 0 0 = U 0 0 := tak_sc _ _ _ (by decide)
              have h5 := naw_in h4 (by rw [hsc2, hsc]; exact c3) (nsd (nsd zz))
              have g2 : 0 ≤ f := g2
              have g3 : f ≤ 540 * j := g3
              show Ex E cX4_seeds 6 RX4 6 (RQ m (o_seeds s n z)) 65 [some (zr 59), some (zi n), some (zi z), some (zi 0), some (zi f), some (zi j)] [] m2
              refine x_iload5 dX4_seeds_65 ?_
              refine x_iload1 dX4_seeds_67 ?_
              refine x_icmp_ge (tgt := 104) dX4_seeds_68 rfl (fun d1 => ?_) (fun d1 => ?_)
              · omega
              · refine x_iload4 dX4_seeds_71 ?_
                refine x_aload0 dX4_seeds_73 ?_
                refine x_iconst dX4_seeds_74 ⟨by decide, by decide⟩ ?_
                refine x_aload0 dX4_seeds_75 ?_
                refine x_aload0 dX4_seeds_76 ?_
                refine x_getI dX4_seeds_77 fd_X4_77 rfl (Or.inl rfl) (v := U 0 0) hO2.1.nests ?_
                refine x_callv1 dX4_seeds_80 cv_X4_234 ci_X4_draw rfl (T := TX4) rfl (by omega) (Nat.le_of_ble_eq_true rfl) (t_draw h39 (show 0 < U 0 0 by omega)) (fun r m3 hq => ?_)
                obtain ⟨rfl, rfl⟩ := hq
                have hO3 : OM m (up m2 59 39 (nsd zz)) s.1 U := hO2.st (Fg.rf.upf (by decide)) (hO2.1.keep (fun k hk => upn (by omega)) (fun q a b => up_cell (by omega)))
                have h393 : up m2 59 39 (nsd zz) 59 39 = nsd zz := up_same _ _ _ _
                generalize up m2 59 39 (nsd zz) = m3 at hO3 h393
                show Ex _ _ _ _ _ _ _ _ [zi (drw (U 0 0) (nsd zz)), zi 1, zr 59, zi f] _
                refine x_ishl dX4_seeds_83 rfl ?_
                refine x_callv1 dX4_seeds_84 cv_X4_199 ci_X4_take rfl (T := TX4) rfl (by omega) (Nat.le_of_ble_eq_true rfl) (t_take hO3.1 g1) (fun r m4 hq => ?_)
                obtain ⟨rfl, hM4, hF4⟩ := hq
                have hO4 := hO3.st hF4.y hM4
                show Ex _ _ _ _ _ _ _ _ [zi (tkn U (isl 1 (drw (U 0 0) (nsd zz)))), zi f] _
                refine x_iadd dX4_seeds_87 (nrm_id (by omega) (by omega)) ?_
                refine x_istore4 dX4_seeds_88 (by decide) rfl ?_
                refine x_aload0 dX4_seeds_90 ?_
                refine x_aload0 dX4_seeds_91 ?_
                refine x_callv0 dX4_seeds_92 cv_X4_237 ci_X4_drawnNest rfl (T := TX4) rfl (by omega) (Nat.le_of_ble_eq_true rfl) (t_drawnNest hO4.1 h4 (hO4.gone hC.gone) (by rw [hsc2, hsc]; exact c3) (z := nsd zz) (hF4.2.trans h393)) (fun r m5 hq => ?_)
                obtain ⟨rfl, hM5, hF5, h395⟩ := hq
                have hO5 := hO4.st hF5 hM5
                show Ex _ _ _ _ _ _ _ _ [zi _, zr 59] _
                refine x_callv1 dX4_seeds_95 cv_X4_123 ci_X4_nightAt rfl (T := TX4) rfl (by omega) (Nat.le_of_ble_eq_true rfl) (t_nightAt hO5.1 h4 (by omega) h5) (fun r m6 hq => ?_)
                obtain ⟨rfl, hM6, hF6⟩ := hq
                have hO6 := hO5.st hF6.y hM6
                show Ex _ _ _ _ _ _ _ _ [] _
                refine x_iinc5 dX4_seeds_98 (by decide) rfl (nrm_id (by omega) (by omega)) ?_
                refine x_goto (tgt := 65) dX4_seeds_101 rfl ?_
                refine Ex.eq ?_ rfl rfl (ih (j + 1) _ (by omega) (by rw [esd]; rw [hsc2] at hO6; exact hO6) (by rw [esd]; exact hF6.2.trans h395))
                rw [esd, show (((j + 1 : Nat) : Nat) : Int) = (j : Int) + 1 by omega]
                rfl
          exact loop n.toNat 0 _ (by omega) hO1 (up_same _ _ _ _)
        · omega
      · refine x_bipush dX4_seeds_33 ⟨by decide, by decide⟩ ?_
        refine x_goto (tgt := 39) dX4_seeds_35 rfl ?_
        exact bad 3 (by decide) (by decide) (by rw [o_seeds, if_neg (by omega), if_neg (by omega), if_pos c3])
    · refine x_bipush dX4_seeds_21 ⟨by decide, by decide⟩ ?_
      refine x_goto (tgt := 39) dX4_seeds_23 rfl ?_
      exact bad 6 (by decide) (by decide) (by rw [o_seeds, if_neg (by omega), if_pos c2])
  · refine x_bipush dX4_seeds_10 ⟨by decide, by decide⟩ ?_
    refine x_goto (tgt := 39) dX4_seeds_12 rfl ?_
    exact bad 4 (by decide) (by decide) (by rw [o_seeds, if_pos c1])
end RM9
