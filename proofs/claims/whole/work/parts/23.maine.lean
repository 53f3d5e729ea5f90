section MC5
variable {E : zz_E} {m : zz_M} {s : zz_S}
theorem andn_sub {n p l : Int} (hn : 0 ≤ n) (hp : sub6 n p) (h0 : 0 ≤ l) (h1 : l < 64) : sub6 n (ian p (ixr l (-1))) := by
  have h := may_f ⟨p.toNat, by have := hp.1; have := hp.2.1; omega⟩ ⟨l.toNat, by omega⟩
  simp only [nat_of hp.1, nat_of h0] at h
  refine ⟨h.1.1, h.1.2, fun i h2 h3 => ?_⟩
  have h4 := h.2 ⟨i.toNat, by omega⟩
  simp only [nat_of (show 0 ≤ i by omega)] at h4
  exact h4 (hp.2.2 i h2 h3)
theorem Iv_addn {V : zz_W} {D : Int} (h : Iv D V) (h6 : V 0 0 < 6) {x y mi li : Int} (hx : 0 ≤ x ∧ x ≤ 9) (hy : 0 ≤ y ∧ y ≤ 9) (hm : 0 ≤ mi ∧ mi ≤ 9) (hl : 0 ≤ li ∧ li ≤ 9) : Iv D (addn V x y mi li) := by
  obtain ⟨hn, hl0, hk0, hd, hk, hfg, ht, hr, hxx, he, hz⟩ := h
  have e0 : addn V x y mi li 0 0 = V 0 0 + 1 := rfl
  have es : ∀ z, z ≠ 0 → addn V x y mi li 0 z = V 0 z := by
    intro z hz
    simp [addn, hz]
  have e5 : ∀ z, addn V x y mi li 5 z = V 5 z := fun z => rfl
  unfold Iv
  simp only [e5]
  rw [e0, es 1 (by decide), es 2 (by decide), es 4 (by decide), es 6 (by decide), es 7 (by decide), es 8 (by decide), es 9 (by decide)]
  refine ⟨by omega, by omega, hk0, hd, hk, hfg, ht, hr, fun z h0 h1 => ?_, he, fun z h0 h1 => hz z (by omega) h1⟩
  obtain ⟨g1, g2, g3, g4⟩ := hxx z h0 h1
  refine ⟨?_, ?_, ?_, ?_⟩
  · rw [show addn V x y mi li 1 z = if z = V 0 0 then x else V 1 z by simp [addn]]
    split <;> omega
  · rw [show addn V x y mi li 2 z = if z = V 0 0 then y else V 2 z by simp [addn]]
    split <;> omega
  · rw [show addn V x y mi li 3 z = if z = V 0 0 then mi else V 3 z by simp [addn]]
    split <;> omega
  · rw [show addn V x y mi li 4 z = if z = V 0 0 then li else V 4 z by simp [addn]]
    split <;> omega
theorem s_without (hC : CP m s) (hI : Is s) {n : Int} : Mt E 5 yX3_without cX3_without 2 (some .int) [zr 55, zi n] m (CQ m (o_without s n)) := by
  have hV := hI.1
  have hY := hC.1.1
  have hn := hV.1
  refine Mt.of 0 (by decide +kernel) (Nat.le_of_ble_eq_true rfl) (Or.inl rfl) ?_ ?_
  · exact CQ.rt
  show Ex E cX3_without 2 RX3 5 _ 0 [some (zr 55), some (zi n)] [] m
  refine x_aload0 dX3_without_0 ?_
  refine x_iload1 dX3_without_1 ?_
  refine x_callv1 dX3_without_2 cv_X3_65 ci_X3_isNoNest rfl (T := TX3) rfl (by decide) (Nat.le_of_ble_eq_true rfl) (s_isNoNest hC) (fun r m1 hq => ?_)
  obtain ⟨rfl, ⟨h1, rfl⟩ | ⟨h1, rfl⟩⟩ := hq
  · show Ex _ _ _ _ _ _ _ _ [zi 1] _
    refine x_if_eq (tgt := 14) dX3_without_5 rfl (fun h2 => ?_) (fun h2 => ?_)
    · omega
    · refine x_aload0 dX3_without_8 ?_
      refine x_iconst dX3_without_9 ⟨by decide, by decide⟩ ?_
      refine x_callv1 dX3_without_10 cv_X3_46 ci_X3_refuse rfl (T := TX3) rfl (by decide) (Nat.le_of_ble_eq_true rfl) (s_refuse hC (k := 1) (by decide) (by decide) (by decide)) (fun r m1 hq => ?_)
      obtain ⟨rfl, hC1, hF1⟩ := hq
      exact xe_i dX3_without_13 (by rw [o_without, if_pos h1]; exact ⟨rfl, hC1, hF1⟩)
  · show Ex _ _ _ _ _ _ _ _ [zi 0] _
    refine x_if_eq (tgt := 14) dX3_without_5 rfl (fun h2 => ?_) (fun h2 => ?_)
    · refine x_aload0 dX3_without_14 ?_
      refine x_getR (q := 0) dX3_without_15 fd_X3_10 rfl rfl rfl ?_
      refine x_aload0 dX3_without_18 ?_
      refine x_getR (q := 0) dX3_without_19 fd_X3_10 rfl rfl rfl ?_
      refine x_callv0 dX3_without_22 cv_X3_118 ci_X2_allNests (by first | rfl | exact yb_k (by assumption)) (T := TX2) rfl (by decide) (Nat.le_of_ble_eq_true rfl) (s_allNests yb_0 hY hV) (fun r m2 hq => ?_)
      obtain ⟨rfl, rfl⟩ := hq
      have hb := bit_bd h1.1 (show n < 6 by omega)
      show Ex _ _ _ _ _ _ _ _ [zi (alln (s.1 0 0)), zr 0] _
      refine x_iconst dX3_without_25 ⟨by decide, by decide⟩ ?_
      refine x_iload1 dX3_without_26 ?_
      refine x_ishl dX3_without_27 rfl ?_
      refine x_iconst dX3_without_28 ⟨by decide, by decide⟩ ?_
      refine x_ixor dX3_without_29 rfl ?_
      refine x_iand dX3_without_30 rfl ?_
      refine x_callv1 dX3_without_31 cv_X3_121 ci_X2_laysAmong (by first | rfl | exact yb_k (by assumption)) (T := TX2) rfl (by decide) (Nat.le_of_ble_eq_true rfl) (s_laysAmong yb_0 hY hV (by decide) (andn_sub hn.1 (all_sub hn.1 hn.2) hb.1 hb.2)) (fun r m3 hq => ?_)
      obtain ⟨rfl, hY3, hF3⟩ := hq
      exact xe_i dX3_without_34 (by rw [o_without, if_neg (by omega)]; exact ⟨rfl, hC.yard (hF3.wd (by omega) (by omega)) hY3, hF3.wd (by omega) (by omega)⟩)
    · omega
theorem s_put (hC : CP m s) (hI : Is s) {x y l : Int} : Mt E 5 yX3_put cX3_put 4 (some .int) [zr 55, zi x, zi y, zi l] m (CQ m (o_put s x y l)) := by
  have hV := hI.1
  have hY := hC.1.1
  have hn := hV.1
  refine Mt.of 0 (by decide +kernel) (Nat.le_of_ble_eq_true rfl) (Or.inl rfl) ?_ ?_
  · exact CQ.rt
  show Ex E cX3_put 4 RX3 5 _ 0 [some (zr 55), some (zi x), some (zi y), some (zi l)] [] m
  have low : (x < 0 ∨ y < 0 ∨ l < 0) → Ex E cX3_put 4 RX3 5 (CQ m (o_put s x y l)) 12 [some (zr 55), some (zi x), some (zi y), some (zi l)] [] m := by
    intro h
    refine x_aload0 dX3_put_12 ?_
    refine x_bipush dX3_put_13 ⟨by decide, by decide⟩ ?_
    refine x_callv1 dX3_put_15 cv_X3_46 ci_X3_refuse rfl (T := TX3) rfl (by decide) (Nat.le_of_ble_eq_true rfl) (s_refuse hC (k := 4) (by decide) (by decide) (by decide)) (fun r m1 hq => ?_)
    obtain ⟨rfl, hC1, hF1⟩ := hq
    exact xe_i dX3_put_18 (by rw [o_put, if_pos h]; exact ⟨rfl, hC1, hF1⟩)
  have high : ¬ (x < 0 ∨ y < 0 ∨ l < 0) → (9 < x ∨ 9 < y ∨ 9 < l) → Ex E cX3_put 4 RX3 5 (CQ m (o_put s x y l)) 37 [some (zr 55), some (zi x), some (zi y), some (zi l)] [] m := by
    intro h h'
    refine x_aload0 dX3_put_37 ?_
    refine x_bipush dX3_put_38 ⟨by decide, by decide⟩ ?_
    refine x_callv1 dX3_put_40 cv_X3_46 ci_X3_refuse rfl (T := TX3) rfl (by decide) (Nat.le_of_ble_eq_true rfl) (s_refuse hC (k := 6) (by decide) (by decide) (by decide)) (fun r m1 hq => ?_)
    obtain ⟨rfl, hC1, hF1⟩ := hq
    exact xe_i dX3_put_43 (by rw [o_put, if_neg h, if_pos (by omega)]; exact ⟨rfl, hC1, hF1⟩)
  refine x_iload1 dX3_put_0 ?_
  refine x_if_lt (tgt := 12) dX3_put_1 rfl (fun h1 => ?_) (fun h1 => ?_)
  · exact low (Or.inl h1)
  · refine x_iload2 dX3_put_4 ?_
    refine x_if_lt (tgt := 12) dX3_put_5 rfl (fun h2 => ?_) (fun h2 => ?_)
    · exact low (Or.inr (Or.inl h2))
    · refine x_iload3 dX3_put_8 ?_
      refine x_if_ge (tgt := 19) dX3_put_9 rfl (fun h3 => ?_) (fun h3 => ?_)
      · refine x_iload1 dX3_put_19 ?_
        refine x_bipush dX3_put_20 ⟨by decide, by decide⟩ ?_
        refine x_icmp_gt (tgt := 37) dX3_put_22 rfl (fun h4 => ?_) (fun h4 => ?_)
        · exact high (by omega) (by omega)
        · refine x_iload2 dX3_put_25 ?_
          refine x_bipush dX3_put_26 ⟨by decide, by decide⟩ ?_
          refine x_icmp_gt (tgt := 37) dX3_put_28 rfl (fun h5 => ?_) (fun h5 => ?_)
          · exact high (by omega) (by omega)
          · refine x_iload3 dX3_put_31 ?_
            refine x_bipush dX3_put_32 ⟨by decide, by decide⟩ ?_
            refine x_icmp_le (tgt := 44) dX3_put_34 rfl (fun h6 => ?_) (fun h6 => ?_)
            · obtain ⟨V1, hY1⟩ := hC.yp16
              refine x_aload0 dX3_put_44 ?_
              refine x_getR (q := 16) dX3_put_45 fd_X3_19 rfl rfl rfl ?_
              refine x_aload0 dX3_put_48 ?_
              refine x_getR (q := 0) dX3_put_49 fd_X3_10 rfl rfl rfl ?_
              refine x_callv1 dX3_put_52 cv_X3_57 ci_X2_copyFrom (by first | rfl | exact yb_k (by assumption)) (T := TX2) rfl (by decide) (Nat.le_of_ble_eq_true rfl) (s_copyFrom yb_16 yb_0 (by omega) hY1 hY) (fun r m1 hq => ?_)
              obtain ⟨rfl, hYm, hF1⟩ := hq
              have hC2 := hC.mind hF1 hYm
              show Ex _ _ _ _ _ _ _ _ [] _
              refine x_aload0 dX3_put_55 ?_
              refine x_getR (q := 16) dX3_put_56 fd_X3_19 rfl rfl rfl ?_
              refine x_iload1 dX3_put_59 ?_
              refine x_iload2 dX3_put_60 ?_
              refine x_iconst dX3_put_61 ⟨by decide, by decide⟩ ?_
              refine x_iload3 dX3_put_62 ?_
              refine x_callv4 dX3_put_63 cv_X3_176 ci_X2_addNest (by first | rfl | exact yb_k (by assumption)) (T := TX2) rfl (by decide) (Nat.le_of_ble_eq_true rfl) (s_addNest yb_16 hYm hn) (fun r m2 hq => ?_)
              rcases hq with ⟨h7, rfl, rfl⟩ | ⟨h7, rfl, hY2, hF2⟩
              · show Ex _ _ _ _ _ _ _ _ [zi 0] _
                refine x_if_ne (tgt := 76) dX3_put_66 rfl (fun h8 => ?_) (fun h8 => ?_)
                · omega
                · refine x_aload0 dX3_put_69 ?_
                  refine x_bipush dX3_put_70 ⟨by decide, by decide⟩ ?_
                  have hC := hC2
                  refine Ex.post (Q' := CQ m2 (o_put s x y l)) (fun r m' h => ⟨h.1, h.2.1, (hF1.wd (by omega) (by omega)).tr h.2.2⟩) ?_
                  refine x_callv1 dX3_put_72 cv_X3_46 ci_X3_refuse rfl (T := TX3) rfl (by decide) (Nat.le_of_ble_eq_true rfl) (s_refuse hC (k := 6) (by decide) (by decide) (by decide)) (fun r m1 hq => ?_)
                  obtain ⟨rfl, hC1, hF1⟩ := hq
                  exact xe_i dX3_put_75 (by rw [o_put, if_neg (by omega), if_pos (by omega)]; exact ⟨rfl, hC1, hF1⟩)
              · show Ex _ _ _ _ _ _ _ _ [zi 1] _
                refine x_if_ne (tgt := 76) dX3_put_66 rfl (fun h8 => ?_) (fun h8 => ?_)
                · have hIa := Iv_addn hV h7 (x := x) (y := y) (mi := 0) (li := l) (by omega) (by omega) (by omega) (by omega)
                  refine x_aload0 dX3_put_76 ?_
                  refine x_getR (q := 16) dX3_put_77 fd_X3_19 rfl rfl rfl ?_
                  refine x_aload0 dX3_put_80 ?_
                  refine x_getR (q := 16) dX3_put_81 fd_X3_19 rfl rfl rfl ?_
                  refine x_callv0 dX3_put_84 cv_X3_118 ci_X2_allNests (by first | rfl | exact yb_k (by assumption)) (T := TX2) rfl (by decide) (Nat.le_of_ble_eq_true rfl) (s_allNests yb_16 hY2 hIa) (fun r m4 hq => ?_)
                  obtain ⟨rfl, rfl⟩ := hq
                  refine x_callv1 dX3_put_87 cv_X3_121 ci_X2_laysAmong (by first | rfl | exact yb_k (by assumption)) (T := TX2) rfl (by decide) (Nat.le_of_ble_eq_true rfl) (s_laysAmong yb_16 hY2 hIa (by decide) (all_sub hIa.1.1 hIa.1.2)) (fun r m5 hq => ?_)
                  obtain ⟨rfl, hY5, hF5⟩ := hq
                  have hl := lay_in hIa (by decide) (show s.1 0 0 + 1 ≠ 0 by omega)
                  rw [lc_nn (show 0 ≤ lays _ (alln _) from hl.1)]
                  have hFt := (hF1.tr hF2).to hF5 (by omega) (by omega)
                  exact xe_i dX3_put_90 (by rw [o_put, if_neg (by omega), if_neg (by omega)]; exact ⟨rfl, hC.mind hFt hY5, hFt.wd (by omega) (by omega)⟩)
                · omega
            · exact high (by omega) (by omega)
      · exact low (Or.inr (Or.inr h3))
theorem s_been (hC : CP m s) (hI : Is s) {g : Int} : Mt E 2 yX3_been cX3_been 3 (some .int) [zr 55, zi g] m (CQ m (o_been s g)) := by
  have hV := hI.1
  have hY := hC.1.1
  have hn := hV.1
  refine Mt.of 1 (by decide +kernel) (Nat.le_of_ble_eq_true rfl) (Or.inl rfl) ?_ ?_
  · exact CQ.rt
  show Ex E cX3_been 3 RX3 2 _ 0 [some (zr 55), some (zi g), none] [] m
  refine x_iload1 dX3_been_0 ?_
  refine x_if_ge (tgt := 11) dX3_been_1 rfl (fun h1 => ?_) (fun h1 => ?_)
  · refine x_iload1 dX3_been_11 ?_
    refine x_bipush dX3_been_12 ⟨by decide, by decide⟩ ?_
    refine x_icmp_lt (tgt := 24) dX3_been_14 rfl (fun h2 => ?_) (fun h2 => ?_)
    · refine x_iconst dX3_been_24 ⟨by decide, by decide⟩ ?_
      refine x_istore2 dX3_been_25 (by decide) rfl ?_
      have loop : ∀ (k j : Nat), (j : Int) + k = s.1 0 0 → bee (fun n => s.1 5 (10 * n + g)) k j = bee (fun n => s.1 5 (10 * n + g)) (s.1 0 0).toNat 0 → Ex E cX3_been 3 RX3 2 (CQ m (o_been s g)) 26 [some (zr 55), some (zi g), some (zi j)] [] m := by
        intro k
        induction k with
        | zero =>
          intro j hj he
          refine x_iload2 dX3_been_26 ?_
          refine x_aload0 dX3_been_27 ?_
          refine x_getR (q := 0) dX3_been_28 fd_X3_10 rfl rfl rfl ?_
          refine x_getI dX3_been_31 fd_X3_112 rfl (Or.inl rfl) (v := s.1 0 0) hY.nests ?_
          refine x_icmp_ge (tgt := 62) dX3_been_34 rfl (fun h3 => ?_) (fun h3 => ?_)
          · refine x_bipush dX3_been_62 ⟨by decide, by decide⟩ ?_
            exact xe_i dX3_been_64 (by rw [o_been, if_neg (by omega), if_neg (by omega), ← he]; exact ⟨rfl, hC, Fr.rf⟩)
          · omega
        | succ k ih =>
          intro j hj he
          refine x_iload2 dX3_been_26 ?_
          refine x_aload0 dX3_been_27 ?_
          refine x_getR (q := 0) dX3_been_28 fd_X3_10 rfl rfl rfl ?_
          refine x_getI dX3_been_31 fd_X3_112 rfl (Or.inl rfl) (v := s.1 0 0) hY.nests ?_
          refine x_icmp_ge (tgt := 62) dX3_been_34 rfl (fun h3 => ?_) (fun h3 => ?_)
          · omega
          · refine x_aload0 dX3_been_37 ?_
            refine x_getR (q := 0) dX3_been_38 fd_X3_10 rfl rfl rfl ?_
            refine x_getR (q := 5) dX3_been_41 fd_X3_180 rfl rfl rfl ?_
            refine x_iload2 dX3_been_44 ?_
            refine x_bipush dX3_been_45 ⟨by decide, by decide⟩ ?_
            refine x_imul dX3_been_47 (nrm_id (by omega) (by omega)) ?_
            refine x_iload1 dX3_been_48 ?_
            refine x_iadd dX3_been_49 (nrm_id (by omega) (by omega)) ?_
            refine x_iald dX3_been_50 rfl (by omega) (by omega) (v := s.1 5 (10 * j + g)) (by rw [show (j : Int) * 10 + g = 10 * j + g by omega]; exact hY.egg (by omega) (by omega)) ?_
            refine x_if_le (tgt := 56) dX3_been_51 rfl (fun h4 => ?_) (fun h4 => ?_)
            · refine x_iinc2 dX3_been_56 (by decide) rfl (nrm_id (by omega) (by omega)) ?_
              refine x_goto (tgt := 26) dX3_been_59 rfl ?_
              refine Ex.eq (by rw [show (((j + 1 : Nat) : Nat) : Int) = (j : Int) + 1 by omega]) rfl rfl (ih (j + 1) (by omega) ?_)
              rw [← he]
              show _ = if 0 < s.1 5 (10 * (j : Int) + g) then (j : Int) else _
              rw [if_neg (by omega)]
            · refine x_iload2 dX3_been_54 ?_
              exact xe_i dX3_been_55 (by rw [o_been, if_neg (by omega), if_neg (by omega), ← he]; exact ⟨by show some (zi _) = some (zi (if 0 < s.1 5 (10 * (j : Int) + g) then (j : Int) else _)); rw [if_pos h4], hC, Fr.rf⟩)
      exact loop (s.1 0 0).toNat 0 (by omega) rfl
    · refine x_aload0 dX3_been_17 ?_
      refine x_bipush dX3_been_18 ⟨by decide, by decide⟩ ?_
      refine x_callv1 dX3_been_20 cv_X3_46 ci_X3_refuse rfl (T := TX3) rfl (by decide) (Nat.le_of_ble_eq_true rfl) (s_refuse hC (k := 6) (by decide) (by decide) (by decide)) (fun r m1 hq => ?_)
      obtain ⟨rfl, hC1, hF1⟩ := hq
      exact xe_i dX3_been_23 (by rw [o_been, if_neg (by omega), if_pos (by omega)]; exact ⟨rfl, hC1, hF1⟩)
  · refine x_aload0 dX3_been_4 ?_
    refine x_bipush dX3_been_5 ⟨by decide, by decide⟩ ?_
    refine x_callv1 dX3_been_7 cv_X3_46 ci_X3_refuse rfl (T := TX3) rfl (by decide) (Nat.le_of_ble_eq_true rfl) (s_refuse hC (k := 4) (by decide) (by decide) (by decide)) (fun r m1 hq => ?_)
    obtain ⟨rfl, hC1, hF1⟩ := hq
    exact xe_i dX3_been_10 (by rw [o_been, if_pos h1]; exact ⟨rfl, hC1, hF1⟩)
theorem CR.row0 {T : zz_W} (h : CR m T) : CR (up m 55 8 0) (ux T 0 1 0) := by
  obtain ⟨g1, g2, g3, g4, g5, g6⟩ := h
  refine ⟨?_, fun z a b => ?_, ?_, ?_, fun z a b => ?_, fun z a b => ?_⟩
  · rw [up_cell (by decide), g1]; rfl
  · rw [up_cell (by decide), g2 z a b]; rfl
  · rw [up_same]; rfl
  · rw [upn (by decide), g4]; rfl
  · rw [up_cell (by decide), g5 z a b]; rfl
  · rw [up_cell (by decide), g6 z a b]; rfl
theorem s_clear (hC : CP m s) : Mt E 1 yX3_clear cX3_clear 2 (some .int) [zr 55] m (CQ m (o_clear s)) := by
  refine Mt.of 1 (by decide +kernel) (Nat.le_of_ble_eq_true rfl) (Or.inl rfl) ?_ ?_
  · exact CQ.rt
  show Ex E cX3_clear 2 RX3 1 _ 0 [some (zr 55), none] [] m
  refine x_aload0 dX3_clear_0 ?_
  refine x_getI dX3_clear_1 fd_X3_156 rfl (Or.inl rfl) (v := s.2.2 0 1) hC.2.2.2.1 ?_
  refine x_istore1 dX3_clear_4 (by decide) rfl ?_
  refine x_aload0 dX3_clear_5 ?_
  refine x_iconst dX3_clear_6 ⟨by decide, by decide⟩ ?_
  refine x_putI dX3_clear_7 fd_X3_156 rfl rfl ?_
  refine x_iload1 dX3_clear_10 ?_
  exact xe_i dX3_clear_11 (⟨rfl, hC.rest (lo := 55) (hi := 56) (Fr.rf.up (by omega) (by omega)) (by omega) hC.2.row0, Fr.rf.up (by omega) (by omega)⟩)
theorem s_image (hC : CP m s) : Mt E 3 yX3_image cX3_image 1 (some .int) [zr 55] m (CQ m (o_image s)) := by
  have hY := hC.1.1
  refine Mt.of 0 (by decide +kernel) (Nat.le_of_ble_eq_true rfl) (Or.inl rfl) ?_ ?_
  · exact CQ.rt
  show Ex E cX3_image 1 RX3 3 _ 0 [some (zr 55)] [] m
  refine x_aload0 dX3_image_0 ?_
  refine x_getR (q := 8) dX3_image_1 fd_X3_16 rfl rfl rfl ?_
  refine x_aload0 dX3_image_4 ?_
  refine x_getR (q := 0) dX3_image_5 fd_X3_10 rfl rfl rfl ?_
  refine x_callv1 dX3_image_8 cv_X3_57 ci_X2_copyFrom (by first | rfl | exact yb_k (by assumption)) (T := TX2) rfl (by decide) (Nat.le_of_ble_eq_true rfl) (s_copyFrom yb_8 yb_0 (by omega) hC.1.2.1 hY) (fun r m1 hq => ?_)
  obtain ⟨rfl, hYm, hF1⟩ := hq
  show Ex _ _ _ _ _ _ _ _ [] _
  have hF1 : Fr 8 16 m m1 := hF1
  have hY1 := hY.fr hF1 (by omega)
  have e1 : up m1 55 9 1 0 11 = s.1 0 4 := by rw [up_cell (by decide)]; exact hY1.day
  refine x_aload0 dX3_image_11 ?_
  refine x_iconst dX3_image_12 ⟨by decide, by decide⟩ ?_
  refine x_putZ dX3_image_13 fd_X3_192 rfl rfl (by omega) ?_
  refine x_aload0 dX3_image_16 ?_
  refine x_getR (q := 0) dX3_image_17 fd_X3_10 rfl rfl rfl ?_
  refine x_getI dX3_image_20 fd_X3_115 rfl (Or.inl rfl) e1 ?_
  refine xe_i dX3_image_23 ?_
  have hR := hC.2.f53 hF1 (by omega)
  refine ⟨rfl, ⟨(hC.1.kept hF1 hYm).f53 (lo := 55) (hi := 56) (Fr.rf.up (by omega) (by omega)) (by omega), ?_⟩, (hF1.wd (by omega) (by omega)).up (by omega) (by omega)⟩
  obtain ⟨g1, g2, g3, g4, g5, g6⟩ := hR
  refine ⟨?_, fun z a b => ?_, ?_, ?_, fun z a b => ?_, fun z a b => ?_⟩
  · rw [up_cell (by decide), g1]; rfl
  · rw [up_cell (by decide), g2 z a b]; rfl
  · rw [upn (by decide), g3]; rfl
  · rw [up_same]; rfl
  · rw [up_cell (by decide), g5 z a b]; rfl
  · rw [up_cell (by decide), g6 z a b]; rfl
theorem s_restore (hC : CP m s) (hI : Is s) : Mt E 3 yX3_restore cX3_restore 1 (some .int) [zr 55] m (CQ m (o_restore s)) := by
  have hY := hC.1.1
  refine Mt.of 0 (by decide +kernel) (Nat.le_of_ble_eq_true rfl) (Or.inl rfl) ?_ ?_
  · exact CQ.rt
  show Ex E cX3_restore 1 RX3 3 _ 0 [some (zr 55)] [] m
  refine x_aload0 dX3_restore_0 ?_
  refine x_getI dX3_restore_1 fd_X3_192 rfl (Or.inr rfl) (v := s.2.2 0 2) hC.2.2.2.2.1 ?_
  refine x_if_ne (tgt := 14) dX3_restore_4 rfl (fun h1 => ?_) (fun h1 => ?_)
  · refine x_aload0 dX3_restore_14 ?_
    refine x_getR (q := 0) dX3_restore_15 fd_X3_10 rfl rfl rfl ?_
    refine x_aload0 dX3_restore_18 ?_
    refine x_getR (q := 8) dX3_restore_19 fd_X3_16 rfl rfl rfl ?_
    refine x_callv1 dX3_restore_22 cv_X3_57 ci_X2_copyFrom (by first | rfl | exact yb_k (by assumption)) (T := TX2) rfl (by decide) (Nat.le_of_ble_eq_true rfl) (s_copyFrom yb_0 yb_8 (by omega) hY hC.1.2.1) (fun r m1 hq => ?_)
    obtain ⟨rfl, hYm, hF1⟩ := hq
    show Ex _ _ _ _ _ _ _ _ [] _
    have hF1 : Fr 0 8 m m1 := hF1
    refine x_aload0 dX3_restore_25 ?_
    refine x_getR (q := 0) dX3_restore_26 fd_X3_10 rfl rfl rfl ?_
    refine x_getI dX3_restore_29 fd_X3_115 rfl (Or.inl rfl) (v := s.2.1 0 4) hYm.day ?_
    exact xe_i dX3_restore_32 (by rw [o_restore, if_neg h1]; exact ⟨rfl, hC.yard hF1 hYm, hF1.wd (by omega) (by omega)⟩)
  · refine x_aload0 dX3_restore_7 ?_
    refine x_bipush dX3_restore_8 ⟨by decide, by decide⟩ ?_
    refine x_callv1 dX3_restore_10 cv_X3_46 ci_X3_refuse rfl (T := TX3) rfl (by decide) (Nat.le_of_ble_eq_true rfl) (s_refuse hC (k := 3) (by decide) (by decide) (by decide)) (fun r m1 hq => ?_)
    obtain ⟨rfl, hC1, hF1⟩ := hq
    exact xe_i dX3_restore_13 (by rw [o_restore, if_pos h1]; exact ⟨rfl, hC1, hF1⟩)
theorem s_count (hC : CP m s) (hI : Is s) {w : Int} : Mt E 3 yX3_count cX3_count 2 (some .int) [zr 55, zi w] m (CQ m (o_count s w, s)) := by
  have hV := hI.1
  have hY := hC.1.1
  have hR := hC.2
  refine Mt.of 0 (by decide +kernel) (Nat.le_of_ble_eq_true rfl) (Or.inl rfl) ?_ ?_
  · exact CQ.rt
  show Ex E cX3_count 2 RX3 3 _ 0 [some (zr 55), some (zi w)] [] m
  refine x_iload1 dX3_count_0 ?_
  by_cases hw : w < 0 ∨ 9 < w
  · refine x_tout (tgt := 133) dX3_count_1 (by omega) rfl ?_
    have e : o_count s w = if 11 ≤ w ∧ w ≤ 16 then s.2.2 3 (w - 10) else -9 := by
      rw [o_count, if_neg (by omega), if_neg (by omega), if_neg (by omega), if_neg (by omega), if_neg (by omega), if_neg (by omega), if_neg (by omega), if_neg (by omega), if_neg (by omega), if_neg (by omega)]
    refine x_iload1 dX3_count_133 ?_
    refine x_bipush dX3_count_134 ⟨by decide, by decide⟩ ?_
    refine x_icmp_lt (tgt := 157) dX3_count_136 rfl (fun h1 => ?_) (fun h1 => ?_)
    · refine x_bipush dX3_count_157 ⟨by decide, by decide⟩ ?_
      exact xe_i dX3_count_159 (by rw [e, if_neg (by omega)]; exact ⟨rfl, hC, Fr.rf⟩)
    · refine x_iload1 dX3_count_139 ?_
      refine x_bipush dX3_count_140 ⟨by decide, by decide⟩ ?_
      refine x_icmp_gt (tgt := 157) dX3_count_142 rfl (fun h2 => ?_) (fun h2 => ?_)
      · refine x_bipush dX3_count_157 ⟨by decide, by decide⟩ ?_
        exact xe_i dX3_count_159 (by rw [e, if_neg (by omega)]; exact ⟨rfl, hC, Fr.rf⟩)
      · refine x_aload0 dX3_count_145 ?_
        refine x_getR (q := 58) dX3_count_146 fd_X3_43 rfl rfl rfl ?_
        refine x_iload1 dX3_count_149 ?_
        refine x_bipush dX3_count_150 ⟨by decide, by decide⟩ ?_
        refine x_isub dX3_count_152 (nrm_id (by omega) (by omega)) ?_
        refine x_iald dX3_count_153 rfl (by omega) (by omega) (hR.2.2.2.2.2 (w - 10) (by omega) (by omega)) ?_
        refine x_goto (tgt := 159) dX3_count_154 rfl ?_
        exact xe_i dX3_count_159 (by rw [e, if_pos (by omega)]; exact ⟨rfl, hC, Fr.rf⟩)
  · have hw : w = 0 ∨ w = 1 ∨ w = 2 ∨ w = 3 ∨ w = 4 ∨ w = 5 ∨ w = 6 ∨ w = 7 ∨ w = 8 ∨ w = 9 := by omega
    rcases hw with rfl | rfl | rfl | rfl | rfl | rfl | rfl | rfl | rfl | rfl
    · refine x_tin (tgt := 56) (off := 55) dX3_count_1 (by decide) (by decide) rfl rfl ?_
      refine x_aload0 dX3_count_56 ?_
      refine x_getR (q := 0) dX3_count_57 fd_X3_10 rfl rfl rfl ?_
      refine x_getI dX3_count_60 fd_X3_112 rfl (Or.inl rfl) (v := s.1 0 0) hY.nests ?_
      exact xe_i dX3_count_63 (⟨rfl, hC, Fr.rf⟩)
    · refine x_tin (tgt := 64) (off := 63) dX3_count_1 (by decide) (by decide) rfl rfl ?_
      refine x_aload0 dX3_count_64 ?_
      refine x_getR (q := 0) dX3_count_65 fd_X3_10 rfl rfl rfl ?_
      refine x_getI dX3_count_68 fd_X3_115 rfl (Or.inl rfl) (v := s.1 0 4) hY.day ?_
      exact xe_i dX3_count_71 (⟨rfl, hC, Fr.rf⟩)
    · refine x_tin (tgt := 72) (off := 71) dX3_count_1 (by decide) (by decide) rfl rfl ?_
      refine x_aload0 dX3_count_72 ?_
      refine x_getR (q := 0) dX3_count_73 fd_X3_10 rfl rfl rfl ?_
      refine x_callv0 dX3_count_76 cv_X3_173 ci_X2_allEggs (by first | rfl | exact yb_k (by assumption)) (T := TX2) rfl (by decide) (Nat.le_of_ble_eq_true rfl) (s_allEggs yb_0 hY hV) (fun r m2 hq => ?_)
      obtain ⟨rfl, rfl⟩ := hq
      exact xe_i dX3_count_79 (⟨rfl, hC, Fr.rf⟩)
    · refine x_tin (tgt := 80) (off := 79) dX3_count_1 (by decide) (by decide) rfl rfl ?_
      refine x_aload0 dX3_count_80 ?_
      refine x_getR (q := 0) dX3_count_81 fd_X3_10 rfl rfl rfl ?_
      refine x_getI dX3_count_84 fd_X3_196 rfl (Or.inl rfl) (v := lc (s.1 0 1)) hY.last ?_
      exact xe_i dX3_count_87 (⟨rfl, hC, Fr.rf⟩)
    · refine x_tin (tgt := 88) (off := 87) dX3_count_1 (by decide) (by decide) rfl rfl ?_
      refine x_aload0 dX3_count_88 ?_
      refine x_getR (q := 0) dX3_count_89 fd_X3_10 rfl rfl rfl ?_
      refine x_getI dX3_count_92 fd_X3_90 rfl (Or.inl rfl) (v := s.1 0 2) hY.looked ?_
      exact xe_i dX3_count_95 (⟨rfl, hC, Fr.rf⟩)
    · refine x_tin (tgt := 96) (off := 95) dX3_count_1 (by decide) (by decide) rfl rfl ?_
      refine x_aload0 dX3_count_96 ?_
      refine x_getR (q := 0) dX3_count_97 fd_X3_10 rfl rfl rfl ?_
      refine x_getI dX3_count_100 fd_X3_199 rfl (Or.inl rfl) (v := s.1 0 3) hY.before ?_
      exact xe_i dX3_count_103 (⟨rfl, hC, Fr.rf⟩)
    · refine x_tin (tgt := 104) (off := 103) dX3_count_1 (by decide) (by decide) rfl rfl ?_
      refine x_aload0 dX3_count_104 ?_
      refine x_getR (q := 0) dX3_count_105 fd_X3_10 rfl rfl rfl ?_
      refine x_callv0 dX3_count_108 cv_X3_102 ci_X2_timeLeft (by first | rfl | exact yb_k (by assumption)) (T := TX2) rfl (by decide) (Nat.le_of_ble_eq_true rfl) (s_timeLeft yb_0 hY hV) (fun r m2 hq => ?_)
      obtain ⟨rfl, rfl⟩ := hq
      exact xe_i dX3_count_111 (⟨rfl, hC, Fr.rf⟩)
    · refine x_tin (tgt := 112) (off := 111) dX3_count_1 (by decide) (by decide) rfl rfl ?_
      refine x_aload0 dX3_count_112 ?_
      refine x_getR (q := 53) dX3_count_113 fd_X3_32 rfl rfl rfl ?_
      refine x_getI dX3_count_116 fd_X3_50 rfl (Or.inl rfl) (v := s.2.2 0 0) hR.1 ?_
      exact xe_i dX3_count_119 (⟨rfl, hC, Fr.rf⟩)
    · refine x_tin (tgt := 120) (off := 119) dX3_count_1 (by decide) (by decide) rfl rfl ?_
      refine x_aload0 dX3_count_120 ?_
      refine x_getI dX3_count_121 fd_X3_156 rfl (Or.inl rfl) (v := s.2.2 0 1) hR.2.2.1 ?_
      exact xe_i dX3_count_124 (⟨rfl, hC, Fr.rf⟩)
    · refine x_tin (tgt := 125) (off := 124) dX3_count_1 (by decide) (by decide) rfl rfl ?_
      refine x_aload0 dX3_count_125 ?_
      refine x_getR (q := 0) dX3_count_126 fd_X3_10 rfl rfl rfl ?_
      refine x_getI dX3_count_129 fd_X3_109 rfl (Or.inl rfl) (v := s.1 0 5) hY.found ?_
      exact xe_i dX3_count_132 (⟨rfl, hC, Fr.rf⟩)
end MC5
