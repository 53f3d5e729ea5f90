section PL6
variable {E : zz_E} {m : zz_M} {s : zz_S} {V : zz_W} {D : Int}
theorem mf6 {n : Nat} (h1 : 1 ≤ n) (h3 : n ≤ 3) : MF E 6 n 0 := by
  have a1 : MF E 6 1 0 := s_mostFrom1 (by decide) (by decide)
  have a2 : MF E 6 2 0 := s_mostFromS (d := 5) (n := 1) (dp := 0) (by decide) (by decide) (by decide) (by decide) (s_mostFrom1 (by decide) (by decide))
  have a3 : MF E 6 3 0 := s_mostFromS (d := 5) (n := 2) (dp := 0) (by decide) (by decide) (by decide) (by decide) (s_mostFromS (d := 4) (n := 1) (dp := 1) (by decide) (by decide) (by decide) (by decide) (s_mostFrom1 (by decide) (by decide)))
  have : n = 1 ∨ n = 2 ∨ n = 3 := by omega
  rcases this with rfl | rfl | rfl <;> assumption
theorem CP.pl {m' : zz_M} (h : CP m s) (h4 : ∃ V', YP m' 24 V') (h5 : ∃ V', YP m' 32 V') (h6 : ∃ V', YP m' 40 V') (h52 : m' 52 0 = 0) (hf : Fr 24 53 m m') : CP m' s := by
  obtain ⟨⟨h1, h2, ⟨V3, h3⟩, -⟩, hR⟩ := h
  exact ⟨⟨h1.fr hf (by omega), h2.fr hf (by omega), ⟨V3, h3.fr hf (by omega)⟩, h4, h5, h6, h52⟩, hR.fr (hf _ (by omega)) (hf _ (by omega)) (hf _ (by omega)) (hf _ (by omega)) (hf _ (by omega))⟩
theorem s_mostFound (hC : CP m s) (hI : Is s) (h0 : s.1 0 0 ≠ 0) {n : Nat} (h1 : 1 ≤ n) (h3 : n ≤ 3) : Mt E 7 yX1_mostFound cX1_mostFound 4 (some .int) [zr 48, zr 0, zi n] m (fun r m' => r = some (zi (pfv n (ux s.1 0 2 0)).1) ∧ m' 48 5 = (pfv n (ux s.1 0 2 0)).2 ∧ CP m' s ∧ Fr 24 53 m m') := by
  have hV := hI.1
  have hY := hC.1.1
  obtain ⟨-, -, -, ⟨V4, g4⟩, ⟨V5, g5⟩, ⟨V6, g6⟩, g52⟩ := hC.1
  refine Mt.of 1 (by decide +kernel) (Nat.le_of_ble_eq_true rfl) (Or.inl rfl) ?_ ?_
  · rintro r m' ⟨rfl, -⟩; simp
  show Ex E cX1_mostFound 4 RX1 7 _ 0 [some (zr 48), some (zr 0), some (zi n), none] [] m
  refine x_aload0 dX1_mostFound_0 ?_
  refine x_aload1 dX1_mostFound_1 ?_
  refine x_callv1 dX1_mostFound_2 cv_X1_42 ci_X1_listAllowed rfl (T := TX1) rfl (by omega) (Nat.le_of_ble_eq_true rfl) (s_listAllowed hY hV) (fun r m1 hq => ?_)
  obtain ⟨rfl, hL, hF1, hF1b⟩ := hq
  have kk : ∀ {b : Nat} {W : zz_W}, b < 41 → YP m b W → YP m1 b W := fun hb h => h.kept (fun k c d => hF1 k (by omega) (by omega))
  have hY1 := kk (by decide) hY
  show Ex _ _ _ _ _ _ _ _ [] _
  refine x_iconst dX1_mostFound_5 ⟨by decide, by decide⟩ ?_
  refine x_istore3 dX1_mostFound_6 (by decide) rfl ?_
  refine x_iload3 dX1_mostFound_7 ?_
  refine x_aload0 dX1_mostFound_8 ?_
  refine x_getR (q := 49) dX1_mostFound_9 fd_X1_12 rfl rfl rfl ?_
  refine x_alen dX1_mostFound_12 (Or.inr rfl) (by decide) ?_
  refine x_icmp_ge (tgt := 32) dX1_mostFound_13 rfl (fun c1 => ?_) (fun c1 => ?_)
  · exact absurd c1 (by decide)
  · refine x_aload0 dX1_mostFound_16 ?_
    refine x_getR (q := 49) dX1_mostFound_17 fd_X1_12 rfl rfl rfl ?_
    refine x_iload3 dX1_mostFound_20 ?_
    refine x_aald dX1_mostFound_21 rfl (by omega) (by omega) (q := 24) rfl ?_
    refine x_aload1 dX1_mostFound_22 ?_
    refine x_callv1 dX1_mostFound_23 cv_X1_46 ci_X2_copyFrom (by first | rfl | exact yb_k (by assumption)) (T := TX2) rfl (by omega) (Nat.le_of_ble_eq_true rfl) (s_copyFrom yb_24 yb_0 (by omega) (kk (by decide) g4) hY1) (fun r m2 hq => ?_)
    obtain ⟨rfl, hA, hF2⟩ := hq
    have hF2 : Fr 24 32 m1 m2 := hF2
    show Ex _ _ _ _ _ _ _ _ [] _
    refine x_iinc3 dX1_mostFound_26 (by decide) rfl (nrm_id (by omega) (by omega)) ?_
    refine x_goto (tgt := 7) dX1_mostFound_29 rfl ?_
    refine x_iload3 dX1_mostFound_7 ?_
    refine x_aload0 dX1_mostFound_8 ?_
    refine x_getR (q := 49) dX1_mostFound_9 fd_X1_12 rfl rfl rfl ?_
    refine x_alen dX1_mostFound_12 (Or.inr rfl) (by decide) ?_
    refine x_icmp_ge (tgt := 32) dX1_mostFound_13 rfl (fun c2 => ?_) (fun c2 => ?_)
    · exact absurd c2 (by decide)
    · refine x_aload0 dX1_mostFound_16 ?_
      refine x_getR (q := 49) dX1_mostFound_17 fd_X1_12 rfl rfl rfl ?_
      refine x_iload3 dX1_mostFound_20 ?_
      refine x_aald dX1_mostFound_21 rfl (by omega) (by omega) (q := 32) rfl ?_
      refine x_aload1 dX1_mostFound_22 ?_
      refine x_callv1 dX1_mostFound_23 cv_X1_46 ci_X2_copyFrom (by first | rfl | exact yb_k (by assumption)) (T := TX2) rfl (by omega) (Nat.le_of_ble_eq_true rfl) (s_copyFrom yb_32 yb_0 (by omega) ((kk (by decide) g5).fr hF2 (by omega)) (hY1.fr hF2 (by omega))) (fun r m3 hq => ?_)
      obtain ⟨rfl, hB, hF3⟩ := hq
      have hF3 : Fr 32 40 m2 m3 := hF3
      show Ex _ _ _ _ _ _ _ _ [] _
      refine x_iinc3 dX1_mostFound_26 (by decide) rfl (nrm_id (by omega) (by omega)) ?_
      refine x_goto (tgt := 7) dX1_mostFound_29 rfl ?_
      refine x_iload3 dX1_mostFound_7 ?_
      refine x_aload0 dX1_mostFound_8 ?_
      refine x_getR (q := 49) dX1_mostFound_9 fd_X1_12 rfl rfl rfl ?_
      refine x_alen dX1_mostFound_12 (Or.inr rfl) (by decide) ?_
      refine x_icmp_ge (tgt := 32) dX1_mostFound_13 rfl (fun c3 => ?_) (fun c3 => ?_)
      · exact absurd c3 (by decide)
      · refine x_aload0 dX1_mostFound_16 ?_
        refine x_getR (q := 49) dX1_mostFound_17 fd_X1_12 rfl rfl rfl ?_
        refine x_iload3 dX1_mostFound_20 ?_
        refine x_aald dX1_mostFound_21 rfl (by omega) (by omega) (q := 40) rfl ?_
        refine x_aload1 dX1_mostFound_22 ?_
        refine x_callv1 dX1_mostFound_23 cv_X1_46 ci_X2_copyFrom (by first | rfl | exact yb_k (by assumption)) (T := TX2) rfl (by omega) (Nat.le_of_ble_eq_true rfl) (s_copyFrom yb_40 yb_0 (by omega) (((kk (by decide) g6).fr hF2 (by omega)).fr hF3 (by omega)) ((hY1.fr hF2 (by omega)).fr hF3 (by omega))) (fun r m4 hq => ?_)
        obtain ⟨rfl, hD, hF4⟩ := hq
        have hF4 : Fr 40 48 m3 m4 := hF4
        show Ex _ _ _ _ _ _ _ _ [] _
        refine x_iinc3 dX1_mostFound_26 (by decide) rfl (nrm_id (by omega) (by omega)) ?_
        refine x_goto (tgt := 7) dX1_mostFound_29 rfl ?_
        refine x_iload3 dX1_mostFound_7 ?_
        refine x_aload0 dX1_mostFound_8 ?_
        refine x_getR (q := 49) dX1_mostFound_9 fd_X1_12 rfl rfl rfl ?_
        refine x_alen dX1_mostFound_12 (Or.inr rfl) (by decide) ?_
        refine x_icmp_ge (tgt := 32) dX1_mostFound_13 rfl (fun c4 => ?_) (fun c4 => ?_)
        · refine x_aload0 dX1_mostFound_32 ?_
          refine x_getR (q := 49) dX1_mostFound_33 fd_X1_12 rfl rfl rfl ?_
          refine x_iconst dX1_mostFound_36 ⟨by decide, by decide⟩ ?_
          refine x_aald dX1_mostFound_37 rfl (by omega) (by omega) (q := 24) rfl ?_
          refine x_iconst dX1_mostFound_38 ⟨by decide, by decide⟩ ?_
          refine x_putI dX1_mostFound_39 fd_X1_49 rfl rfl ?_
          refine x_aload0 dX1_mostFound_42 ?_
          refine x_iconst dX1_mostFound_43 ⟨by decide, by decide⟩ ?_
          refine x_iload2 dX1_mostFound_44 ?_
          have hF14 : Fr 24 48 m1 m4 := ((hF2.wd (lo' := 24) (hi' := 48) (by omega) (by omega)).tr (hF3.wd (by omega) (by omega))).tr (hF4.wd (by omega) (by omega))
          have hA2 := YP.setLooked (b := 24) (x := 0) ((hA.fr hF3 (by omega)).fr hF4 (by omega))
          have hB2 := hB.fr hF4 (by omega)
          have hk : ∀ k, k ≠ 24 → up m4 24 9 0 k = m4 k := fun k e => up_cell e
          have hL2 : LA (up m4 24 9 0) (ux s.1 0 2 0) (ase (ux s.1 0 2 0)) := by
            have e : ast (ux s.1 0 2 0) (ase (ux s.1 0 2 0)) = ast s.1 (ase s.1) := rfl
            unfold LA at hL ⊢
            rw [e, hk 48 (by decide), hk 50 (by decide), hF14 48 (by omega), hF14 50 (by omega)]
            exact hL
          have hbb : bse s.1 (ux s.1 0 2 0) := ⟨fun z _ b _ _ _ => (if_neg (fun q => b q.2)).symm, fun a z b _ => (if_neg (fun q => b q.1)).symm⟩
          have hdep0 : dep (up m4 24 9 0) 24 (ux s.1 0 2 0) := by
            intro c hc hc40
            have hcc : c = 32 ∨ c = 40 := by omega
            rcases hcc with rfl | rfl
            · exact ⟨s.1, hB2.kept (fun k a b => hk k (by omega)), hbb⟩
            · exact ⟨s.1, hD.kept (fun k a b => hk k (by omega)), hbb⟩
          refine x_calls3 dX1_mostFound_45 cv_X1_52 cs_X1_mostFrom (by omega) (Nat.le_of_ble_eq_true rfl) (mf6 h1 h3 (up m4 24 9 0) (ux s.1 0 2 0) 9999 24 rfl yb_24 hA2 (Iv_l0 hV) (by omega) h0 hL2 (by rw [hk 52 (by decide), hF14 52 (by omega), hF1 52 (by decide) (by decide)]; exact g52) hdep0) (fun r m5 hq => ?_)
          obtain ⟨rfl, hY5, hdep, h525, hc4', hc5', hF5⟩ := hq
          have hd1 := hdep 32 (Or.inl rfl) (by decide)
          have hd2 := hdep 40 (Or.inr rfl) (by decide)
          obtain ⟨W1, w1, -⟩ := hd1
          obtain ⟨W2, w2, -⟩ := hd2
          rw [if_pos rfl] at hc5'
          have hFa : Fr 24 53 m m5 := by
            intro k hk2
            rw [hF5 k (by omega) (by omega) (by omega) (by omega), hk k (by omega), hF14 k (by omega), hF1 k (by omega) (by omega)]
          exact xe_i dX1_mostFound_48 (⟨rfl, hc5', hC.pl ⟨_, hY5⟩ ⟨_, w1⟩ ⟨_, w2⟩ h525 hFa, hFa⟩)
        · exact absurd c4 (by decide)
theorem s_plan (hC : CP m s) (hI : Is s) {n w : Int} : Mt E 8 yX3_plan cX3_plan 4 (some .int) [zr 55, zi n, zi w] m (CQ m (o_plan s n w)) := by
  have hY := hC.1.1
  refine Mt.of 1 (by decide +kernel) (Nat.le_of_ble_eq_true rfl) (Or.inl rfl) ?_ ?_
  · exact CQ.rt
  show Ex E cX3_plan 4 RX3 8 _ 0 [some (zr 55), some (zi n), some (zi w), none] [] m
  have ref2 : (w < 0 ∨ 1 < w) → Ex E cX3_plan 4 RX3 8 (CQ m (o_plan s n w)) 9 [some (zr 55), some (zi n), some (zi w), none] [] m := by
    intro h
    refine x_aload0 dX3_plan_9 ?_
    refine x_bipush dX3_plan_10 ⟨by decide, by decide⟩ ?_
    refine x_callv1 dX3_plan_12 cv_X3_46 ci_X3_refuse rfl (T := TX3) rfl (by omega) (Nat.le_of_ble_eq_true rfl) (s_refuse hC (k := 2) (by decide) (by decide) (by decide)) (fun r m1 hq => ?_)
    obtain ⟨rfl, hC1, hF1⟩ := hq
    exact xe_i dX3_plan_15 (by rw [o_plan, if_pos h]; exact ⟨rfl, hC1, hF1⟩)
  refine x_iload2 dX3_plan_0 ?_
  refine x_if_lt (tgt := 9) dX3_plan_1 rfl (fun h1 => ?_) (fun h1 => ?_)
  · exact ref2 (Or.inl h1)
  · refine x_iload2 dX3_plan_4 ?_
    refine x_iconst dX3_plan_5 ⟨by decide, by decide⟩ ?_
    refine x_icmp_le (tgt := 16) dX3_plan_6 rfl (fun h2 => ?_) (fun h2 => ?_)
    · refine x_iload1 dX3_plan_16 ?_
      refine x_iconst dX3_plan_17 ⟨by decide, by decide⟩ ?_
      refine x_icmp_ge (tgt := 28) dX3_plan_18 rfl (fun h3 => ?_) (fun h3 => ?_)
      · refine x_iload1 dX3_plan_28 ?_
        refine x_iconst dX3_plan_29 ⟨by decide, by decide⟩ ?_
        refine x_icmp_le (tgt := 40) dX3_plan_30 rfl (fun h4 => ?_) (fun h4 => ?_)
        · refine x_aload0 dX3_plan_40 ?_
          refine x_getR (q := 0) dX3_plan_41 fd_X3_10 rfl rfl rfl ?_
          refine x_getI dX3_plan_44 fd_X3_112 rfl (Or.inl rfl) (v := s.1 0 0) hY.nests ?_
          refine x_if_ne (tgt := 57) dX3_plan_47 rfl (fun h5 => ?_) (fun h5 => ?_)
          · have en : n = (n.toNat : Int) := by omega
            refine x_aload0 dX3_plan_57 ?_
            refine x_getR (q := 48) dX3_plan_58 fd_X3_25 rfl rfl rfl ?_
            refine x_aload0 dX3_plan_61 ?_
            refine x_getR (q := 0) dX3_plan_62 fd_X3_10 rfl rfl rfl ?_
            refine x_iload1 dX3_plan_65 ?_
            refine Ex.eq (S' := [zi (n.toNat : Int), zr 0, zr 48]) rfl (by rw [← en]) rfl ?_
            refine x_callv2 dX3_plan_66 cv_X3_143 ci_X1_mostFound rfl (T := TX1) rfl (by omega) (Nat.le_of_ble_eq_true rfl) (s_mostFound hC hI h5 (n := n.toNat) (by omega) (by omega)) (fun r m1 hq => ?_)
            obtain ⟨rfl, hfs, hC1, hF1⟩ := hq
            show Ex _ _ _ _ _ _ _ _ [zi _] _
            refine x_istore3 dX3_plan_69 (by decide) rfl ?_
            refine x_iload2 dX3_plan_70 ?_
            refine x_if_ne (tgt := 78) dX3_plan_71 rfl (fun h6 => ?_) (fun h6 => ?_)
            · refine x_aload0 dX3_plan_78 ?_
              refine x_getR (q := 48) dX3_plan_79 fd_X3_25 rfl rfl rfl ?_
              refine x_getI dX3_plan_82 fd_X3_147 rfl (Or.inl rfl) (v := (pfv n.toNat (ux s.1 0 2 0)).2) hfs ?_
              exact xe_i dX3_plan_85 (by rw [o_plan, if_neg (by omega), if_neg (by omega), if_neg (by omega), if_neg h5, if_neg h6]; exact ⟨rfl, hC1, hF1.wd (by omega) (by omega)⟩)
            · refine x_iload3 dX3_plan_74 ?_
              refine x_goto (tgt := 85) dX3_plan_75 rfl ?_
              exact xe_i dX3_plan_85 (by rw [o_plan, if_neg (by omega), if_neg (by omega), if_neg (by omega), if_neg h5, if_pos h6]; exact ⟨rfl, hC1, hF1.wd (by omega) (by omega)⟩)
          · refine x_aload0 dX3_plan_50 ?_
            refine x_bipush dX3_plan_51 ⟨by decide, by decide⟩ ?_
            refine x_callv1 dX3_plan_53 cv_X3_46 ci_X3_refuse rfl (T := TX3) rfl (by omega) (Nat.le_of_ble_eq_true rfl) (s_refuse hC (k := 3) (by decide) (by decide) (by decide)) (fun r m1 hq => ?_)
            obtain ⟨rfl, hC1, hF1⟩ := hq
            exact xe_i dX3_plan_56 (by rw [o_plan, if_neg (by omega), if_neg (by omega), if_neg (by omega), if_pos h5]; exact ⟨rfl, hC1, hF1⟩)
        · refine x_aload0 dX3_plan_33 ?_
          refine x_bipush dX3_plan_34 ⟨by decide, by decide⟩ ?_
          refine x_callv1 dX3_plan_36 cv_X3_46 ci_X3_refuse rfl (T := TX3) rfl (by omega) (Nat.le_of_ble_eq_true rfl) (s_refuse hC (k := 6) (by decide) (by decide) (by decide)) (fun r m1 hq => ?_)
          obtain ⟨rfl, hC1, hF1⟩ := hq
          exact xe_i dX3_plan_39 (by rw [o_plan, if_neg (by omega), if_neg (by omega), if_pos h4]; exact ⟨rfl, hC1, hF1⟩)
      · refine x_aload0 dX3_plan_21 ?_
        refine x_bipush dX3_plan_22 ⟨by decide, by decide⟩ ?_
        refine x_callv1 dX3_plan_24 cv_X3_46 ci_X3_refuse rfl (T := TX3) rfl (by omega) (Nat.le_of_ble_eq_true rfl) (s_refuse hC (k := 4) (by decide) (by decide) (by decide)) (fun r m1 hq => ?_)
        obtain ⟨rfl, hC1, hF1⟩ := hq
        exact xe_i dX3_plan_27 (by rw [o_plan, if_neg (by omega), if_pos h3]; exact ⟨rfl, hC1, hF1⟩)
    · exact ref2 (Or.inr h2)
end PL6
