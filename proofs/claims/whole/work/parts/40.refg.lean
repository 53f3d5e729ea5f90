section RM7
variable {E : zz_E} {m : zz_M} {s : zz_S} {V : zz_W} {D : Int}
theorem t_likely (hC : MPS m s) (hI : Is s) {n p : Int} : Mt E 4 yX4_likely cX4_likely 6 (some .long) [zr 59, zi n, zi p] m (RQl m (o_likely s n p)) := by
  have hV := hI.1
  have hn := hV.1
  refine Mt.of 3 (by decide +kernel) (Nat.le_of_ble_eq_true rfl) (Or.inr (Or.inr (Or.inl rfl))) ?_ ?_
  · exact RQl.rt
  show Ex E cX4_likely 6 RX4 4 _ 0 [some (zr 59), some (zi n), some (zi p), none, none, none] [] m
  refine x_aload0 dX4_likely_0 ?_
  refine x_iconst dX4_likely_1 ⟨by decide, by decide⟩ ?_
  refine x_putI dX4_likely_2 fd_X4_74 rfl rfl ?_
  refine th15l (fun m hC => ?_) hC
  have hM := hC.1
  refine x_aload0 dX4_likely_5 ?_
  refine x_iload1 dX4_likely_6 ?_
  refine x_callv1 dX4_likely_7 cv_X4_175 ci_X4_isNest rfl (T := TX4) rfl (by omega) (Nat.le_of_ble_eq_true rfl) (t_isNest hM hn) (fun r m1 hq => ?_)
  obtain ⟨rfl, rfl⟩ := hq
  by_cases h1 : 0 ≤ n ∧ n < s.1 0 0
  · rw [if_pos h1]
    show Ex _ _ _ _ _ _ _ _ [zi 1] _
    refine x_if_eq (tgt := 23) dX4_likely_10 rfl (fun c1 => ?_) (fun c1 => ?_)
    · omega
    · refine x_iload2 dX4_likely_13 ?_
      refine x_i2l dX4_likely_14 ?_
      refine x_lconst dX4_likely_15 rfl ?_
      refine x_lconst dX4_likely_16 rfl ?_
      refine x_calls3 dX4_likely_17 cv_X4_80 cs_X4_in (by omega) (Nat.le_of_ble_eq_true rfl) (t_in) (fun r m1 hq => ?_)
      obtain ⟨rfl, rfl⟩ := hq
      show Ex _ _ _ _ _ _ _ _ [zi (if (0 : Int) ≤ p ∧ p ≤ 1 then 1 else 0)] _
      by_cases h2 : 0 ≤ p ∧ p ≤ 1
      · rw [if_pos h2]
        refine x_if_ne (tgt := 47) dX4_likely_20 rfl (fun c2 => ?_) (fun c2 => ?_)
        · have h0 : s.1 0 0 ≠ 0 := by omega
          have hwb := wtot_bd hV (mya_ok hV) (mya_has hV h0)
          have hwn := wt_nn hV (mya_ok hV) h1.1 (show n < 6 by omega)
          refine x_aload0 dX4_likely_47 ?_
          refine x_callv0 dX4_likely_48 cv_X4_111 ci_X4_weigh rfl (T := TX4) rfl (by omega) (Nat.le_of_ble_eq_true rfl) (t_weigh hM hV hC.gone (y := mya s.1) (by rw [gs_all]; rfl) (mya_ok hV)) (fun r m2 hq => ?_)
          obtain ⟨rfl, hW, h19, hF⟩ := hq
          have hCr : MPS m2 s := hC.fg (hF.fg (a := 67) (b := 67)) (by decide) (hF.mp hM)
          have hFr : Fr 59 77 m1 m2 := (hF.fg (a := 67) (b := 67)).fr (by decide)
          have hWn := hW n h1.1 h1.2
          have e1 : wt s.1 (mya s.1) n = ((wt s.1 (mya s.1) n).toNat : Int) := by omega
          have e2 : wtot s.1 (mya s.1) = ((wtot s.1 (mya s.1)).toNat : Int) := by omega
          have hg := gcI_nat e1 e2
          have hgp := gcI_pos (a := wt s.1 (mya s.1) n) hwb.1
          show Ex _ _ _ _ _ _ _ _ [] _
          refine x_aload0 dX4_likely_51 ?_
          refine x_getR (q := 66) dX4_likely_52 fd_X4_41 rfl rfl rfl ?_
          refine x_iload1 dX4_likely_55 ?_
          refine x_iald dX4_likely_56 rfl (by omega) (by omega) (v := wt s.1 (mya s.1) n) hWn ?_
          refine x_istore3 dX4_likely_57 (by decide) rfl ?_
          refine x_aload0 dX4_likely_58 ?_
          refine x_getI dX4_likely_59 fd_X4_105 rfl (Or.inl rfl) (v := wtot s.1 (mya s.1)) h19 ?_
          refine x_istore4 dX4_likely_62 (by decide) rfl ?_
          have fin : ∀ (x y : Int), x = gcI (wt s.1 (mya s.1) n) (wtot s.1 (mya s.1)) → Ex E cX4_likely 6 RX4 4 (RQl m1 (o_likely s n p)) 85 [some (zr 59), some (zi n), some (zi p), some (zi x), some (zi y), none] [] m2 := by
            intro x y hx
            subst hx
            refine x_iload2 dX4_likely_85 ?_
            refine x_if_ne (tgt := 101) dX4_likely_86 rfl (fun h6 => ?_) (fun h6 => ?_)
            · refine x_aload0 dX4_likely_101 ?_
              refine x_getI dX4_likely_102 fd_X4_105 rfl (Or.inl rfl) (v := wtot s.1 (mya s.1)) h19 ?_
              refine x_iload3 dX4_likely_105 ?_
              refine x_idiv dX4_likely_106 (by omega) (idv_pos (by omega) (by omega) (by omega) (by omega)) ?_
              refine x_i2l dX4_likely_107 ?_
              exact xe_l dX4_likely_108 (by rw [o_likely, if_neg (by omega), if_neg (by omega), if_neg h6]; exact ⟨rfl, hCr, hFr⟩)
            · refine x_aload0 dX4_likely_89 ?_
              refine x_getR (q := 66) dX4_likely_90 fd_X4_41 rfl rfl rfl ?_
              refine x_iload1 dX4_likely_93 ?_
              refine x_iald dX4_likely_94 rfl (by omega) (by omega) (v := wt s.1 (mya s.1) n) hWn ?_
              refine x_iload3 dX4_likely_95 ?_
              refine x_idiv dX4_likely_96 (by omega) (idv_pos (by omega) (by omega) (by omega) (by omega)) ?_
              refine x_i2l dX4_likely_97 ?_
              refine x_goto (tgt := 108) dX4_likely_98 rfl ?_
              exact xe_l dX4_likely_108 (by rw [o_likely, if_neg (by omega), if_neg (by omega), if_pos h6]; exact ⟨rfl, hCr, hFr⟩)
          have loop : ∀ (k x y : Nat) (o : Option zz_V), y ≤ k → x < 1000 → y < 1000 → (Nat.gcd x y : Int) = gcI (wt s.1 (mya s.1) n) (wtot s.1 (mya s.1)) → Ex E cX4_likely 6 RX4 4 (RQl m1 (o_likely s n p)) 64 [some (zr 59), some (zi n), some (zi p), some (zi x), some (zi y), o] [] m2 := by
            intro k
            induction k with
            | zero =>
              intro x y o hk hx hy hgc
              obtain rfl : y = 0 := by omega
              refine Ex.wk (L' := [some (zr 59), some (zi n), some (zi p), some (zi x), some (zi ((0 : Nat) : Int)), none]) ⟨rfl, rfl, rfl, rfl, rfl, trivial⟩ ?_
              refine x_iload4 dX4_likely_64 ?_
              refine x_if_eq (tgt := 85) dX4_likely_66 rfl (fun c5 => ?_) (fun c5 => ?_)
              · exact fin _ _ (by rw [← hgc, Nat.gcd_zero_right])
              · omega
            | succ k ih =>
              intro x y o hk hx hy hgc
              refine Ex.wk (L' := [some (zr 59), some (zi n), some (zi p), some (zi x), some (zi y), none]) ⟨rfl, rfl, rfl, rfl, rfl, trivial⟩ ?_
              refine x_iload4 dX4_likely_64 ?_
              refine x_if_eq (tgt := 85) dX4_likely_66 rfl (fun c5 => ?_) (fun c5 => ?_)
              · obtain rfl : y = 0 := by omega
                exact fin _ _ (by rw [← hgc, Nat.gcd_zero_right])
              · have hlt := Nat.mod_lt x (show 0 < y by omega)
                refine x_iload3 dX4_likely_69 ?_
                refine x_iload4 dX4_likely_70 ?_
                refine x_irem dX4_likely_72 (by omega) (v := ((x % y : Nat) : Int)) (irm_nat (by omega) (by omega) (by omega)) ?_
                refine x_istore5 dX4_likely_73 (by decide) rfl ?_
                refine x_iload4 dX4_likely_75 ?_
                refine x_istore3 dX4_likely_77 (by decide) rfl ?_
                refine x_iload5 dX4_likely_78 ?_
                refine x_istore4 dX4_likely_80 (by decide) rfl ?_
                refine x_goto (tgt := 64) dX4_likely_82 rfl ?_
                exact ih y (x % y) _ (by omega) hy (by omega) (by rw [← hgc, Nat.gcd_comm y, ← Nat.gcd_rec, Nat.gcd_comm])
          refine Ex.eq ?_ rfl rfl (loop 1000 (wt s.1 (mya s.1) n).toNat (wtot s.1 (mya s.1)).toNat none (by omega) (by omega) (by omega) hg.symm)
          rw [← e1, ← e2]
        · omega
      · rw [if_neg h2]
        refine x_if_ne (tgt := 47) dX4_likely_20 rfl (fun c2 => ?_) (fun c2 => ?_)
        · omega
        · refine x_ldc2 (v := 4000000000000000000) dX4_likely_23 ⟨by decide, by decide⟩ ctl_X4_205 ?_
          refine x_aload0 dX4_likely_26 ?_
          refine x_aload0 dX4_likely_27 ?_
          refine x_iload1 dX4_likely_28 ?_
          refine x_callv1 dX4_likely_29 cv_X4_175 ci_X4_isNest rfl (T := TX4) rfl (by omega) (Nat.le_of_ble_eq_true rfl) (t_isNest hM hn) (fun r m1 hq => ?_)
          obtain ⟨rfl, rfl⟩ := hq
          rw [if_pos h1]
          show Ex _ _ _ _ _ _ _ _ [zi 1, zr 59, zj 4000000000000000000] _
          refine x_if_eq (tgt := 40) dX4_likely_32 rfl (fun c3 => ?_) (fun c3 => ?_)
          · omega
          · refine x_bipush dX4_likely_35 ⟨by decide, by decide⟩ ?_
            refine x_goto (tgt := 41) dX4_likely_37 rfl ?_
            refine x_callv1 dX4_likely_41 cv_X4_150 ci_X4_refuse rfl (T := TX4) rfl (by omega) (Nat.le_of_ble_eq_true rfl) (t_refuse hC (k := 2) (by decide) (by decide) (by decide)) (fun r m2 hq => ?_)
            obtain ⟨rfl, hC1, hF1⟩ := hq
            show Ex _ _ _ _ _ _ _ _ [zi (-2), zj 4000000000000000000] _
            refine x_i2l dX4_likely_44 ?_
            refine x_lsub dX4_likely_45 (nrml_id (by omega) (by omega)) ?_
            exact xe_l dX4_likely_46 (by rw [o_likely, if_neg (by omega), if_pos (by omega)]; exact ⟨rfl, hC1, hF1⟩)
  · rw [if_neg h1]
    show Ex _ _ _ _ _ _ _ _ [zi 0] _
    refine x_if_eq (tgt := 23) dX4_likely_10 rfl (fun c1 => ?_) (fun c1 => ?_)
    · refine x_ldc2 (v := 4000000000000000000) dX4_likely_23 ⟨by decide, by decide⟩ ctl_X4_205 ?_
      refine x_aload0 dX4_likely_26 ?_
      refine x_aload0 dX4_likely_27 ?_
      refine x_iload1 dX4_likely_28 ?_
      refine x_callv1 dX4_likely_29 cv_X4_175 ci_X4_isNest rfl (T := TX4) rfl (by omega) (Nat.le_of_ble_eq_true rfl) (t_isNest hM hn) (fun r m1 hq => ?_)
      obtain ⟨rfl, rfl⟩ := hq
      rw [if_neg h1]
      show Ex _ _ _ _ _ _ _ _ [zi 0, zr 59, zj 4000000000000000000] _
      refine x_if_eq (tgt := 40) dX4_likely_32 rfl (fun c3 => ?_) (fun c3 => ?_)
      · refine x_iconst dX4_likely_40 ⟨by decide, by decide⟩ ?_
        refine x_callv1 dX4_likely_41 cv_X4_150 ci_X4_refuse rfl (T := TX4) rfl (by omega) (Nat.le_of_ble_eq_true rfl) (t_refuse hC (k := 1) (by decide) (by decide) (by decide)) (fun r m2 hq => ?_)
        obtain ⟨rfl, hC1, hF1⟩ := hq
        show Ex _ _ _ _ _ _ _ _ [zi (-1), zj 4000000000000000000] _
        refine x_i2l dX4_likely_44 ?_
        refine x_lsub dX4_likely_45 (nrml_id (by omega) (by omega)) ?_
        exact xe_l dX4_likely_46 (by rw [o_likely, if_pos (by omega)]; exact ⟨rfl, hC1, hF1⟩)
      · omega
    · omega
theorem wo_f : ∀ (N : Fin 7) (n : Fin 6), 2 ≤ N.val → n.val < N.val → ian (alln (N.val : Int)) (ixr (isl 1 (n.val : Int)) (-1)) ≠ 0 := by decide +kernel
theorem wo_has {N n : Int} (h0 : 2 ≤ N) (h1 : N ≤ 6) (h2 : 0 ≤ n) (h3 : n < N) : has (ian (alln N) (ixr (isl 1 n) (-1))) := by
  have hb := bit_bd h2 (show n < 6 by omega)
  have hs := andn_sub (show 0 ≤ N by omega) (all_sub (by omega) h1) hb.1 hb.2
  have h := wo_f ⟨N.toNat, by omega⟩ ⟨n.toNat, by omega⟩ (by show 2 ≤ N.toNat; omega) (by show n.toNat < N.toNat; omega)
  simp only [nat_of (show 0 ≤ N by omega), nat_of h2] at h
  exact has_of hs.1 hs.2.1 h
theorem ian0_f : ∀ l : Fin 64, ian 0 (ixr (l.val : Int) (-1)) = 0 := by decide +kernel
theorem wo_one (hI : Iv D V) (h1 : V 0 0 = 1) : lc (lays V 0) = -9 := by
  have hl := hI.2.2.1
  have hm : may V 0 = 0 := by
    have h := ian0_f ⟨(V 0 2).toNat, by omega⟩
    simp only [nat_of hl.1] at h
    rw [may, if_pos h]
  have hb : bt 0 0 = 0 := by decide
  have hw : wt V 0 0 = 0 := by
    unfold wt
    rw [hb]
    split
    · rfl
    · exact if_neg (by decide)
  have e : lays V 0 = -1 := by
    unfold lays
    rw [hm, h1]
    split
    · rw [if_pos]
      show 0 + bt 0 ((0 : Nat) : Int) = 0
      rw [show ((0 : Nat) : Int) = 0 from rfl, hb]
      rfl
    · show (if (0 : Int) < wt V 0 ((0 : Nat) : Int) then (((0 : Nat) : Int), wt V 0 ((0 : Nat) : Int)) else ((-1 : Int), (0 : Int))).1 = -1
      rw [show ((0 : Nat) : Int) = 0 from rfl, hw]
      rfl
  rw [e]
  rfl
theorem t_without (hC : MPS m s) (hI : Is s) {n : Int} : Mt E 5 yX4_without cX4_without 3 (some .int) [zr 59, zi n] m (RQ m (o_without s n)) := by
  have hV := hI.1
  have hn := hV.1
  refine Mt.of 1 (by decide +kernel) (Nat.le_of_ble_eq_true rfl) (Or.inl rfl) ?_ ?_
  · exact RQ.rt
  show Ex E cX4_without 3 RX4 5 _ 0 [some (zr 59), some (zi n), none] [] m
  refine x_aload0 dX4_without_0 ?_
  refine x_iconst dX4_without_1 ⟨by decide, by decide⟩ ?_
  refine x_putI dX4_without_2 fd_X4_74 rfl rfl ?_
  refine th15 (fun m hC => ?_) hC
  have hM := hC.1
  refine x_aload0 dX4_without_5 ?_
  refine x_iload1 dX4_without_6 ?_
  refine x_callv1 dX4_without_7 cv_X4_175 ci_X4_isNest rfl (T := TX4) rfl (by omega) (Nat.le_of_ble_eq_true rfl) (t_isNest hM hn) (fun r m1 hq => ?_)
  obtain ⟨rfl, rfl⟩ := hq
  by_cases h1 : 0 ≤ n ∧ n < s.1 0 0
  · rw [if_pos h1]
    show Ex _ _ _ _ _ _ _ _ [zi 1] _
    have hb := bit_bd h1.1 (show n < 6 by omega)
    refine x_if_ne (tgt := 19) dX4_without_10 rfl (fun c1 => ?_) (fun c1 => ?_)
    · refine x_aload0 dX4_without_19 ?_
      refine x_getI dX4_without_20 fd_X4_77 rfl (Or.inl rfl) (v := s.1 0 0) hM.nests ?_
      refine x_iconst dX4_without_23 ⟨by decide, by decide⟩ ?_
      refine x_icmp_ne (tgt := 30) dX4_without_24 rfl (fun c2 => ?_) (fun c2 => ?_)
      · refine x_aload0 dX4_without_30 ?_
        refine x_iload1 dX4_without_31 ?_
        refine x_putI dX4_without_32 fd_X4_38 rfl rfl ?_
        refine x_aload0 dX4_without_35 ?_
        have hM1 : MP (up m1 59 17 n) s.1 := hM.keep (fun k hk => upn (by omega)) (fun q a b => up_cell (by omega))
        have eg : gs s.1 n = ian (alln (s.1 0 0)) (ixr (isl 1 n) (-1)) := if_neg (by omega)
        have hh := wo_has (show 2 ≤ s.1 0 0 by omega) hn.2 h1.1 h1.2
        have hsub := andn_sub hn.1 (all_sub hn.1 hn.2) hb.1 hb.2
        refine x_callv0 dX4_without_36 cv_X4_120 ci_X4_laysAt rfl (T := TX4) rfl (by omega) (Nat.le_of_ble_eq_true rfl) (t_laysAt hM1 hV (by decide) (up_same _ _ _ _) (by rw [eg]; exact hsub) (by rw [eg]; exact hh)) (fun r m2 hq => ?_)
        obtain ⟨rfl, hM2, hF⟩ := hq
        show Ex _ _ _ _ _ _ _ _ [zi (lays s.1 (gs s.1 n))] _
        have hl := lays_in hV (by decide) hsub hh
        refine x_istore2 dX4_without_39 (by decide) rfl ?_
        refine x_aload0 dX4_without_40 ?_
        refine x_iconst dX4_without_41 ⟨by decide, by decide⟩ ?_
        refine x_putI dX4_without_42 fd_X4_38 rfl rfl ?_
        refine x_iload2 dX4_without_45 ?_
        have hF2 : Fw m1 (up m2 59 17 (-1)) := by
          refine ⟨fun q a b => by rw [up_cell a, hF.1 q a b, up_cell a], fun k a => ?_⟩
          by_cases hk : k = 17
          · subst hk
            rw [up_same, hC.gone]
          · rw [upn hk, hF.2 k a, upn hk]
        refine xe_i dX4_without_46 ?_
        rw [o_without, if_neg (by omega)]
        exact ⟨by rw [eg]; show _ = some (zi (lc _)); rw [lc_nn hl.1], hC.fg (hF2.fg (a := 67) (b := 67)) (by decide) (hF2.mp hM), (hF2.fg (a := 67) (b := 67)).fr (by decide)⟩
      · refine x_bipush dX4_without_27 ⟨by decide, by decide⟩ ?_
        have hn0 : n = 0 := by omega
        refine xe_i dX4_without_29 ?_
        rw [o_without, if_neg (by omega)]
        refine ⟨?_, hC, Fr.rf⟩
        show some (zi (-9)) = some (zi (lc _))
        rw [hn0, c2, show ian (alln 1) (ixr (isl 1 0) (-1)) = 0 by decide, wo_one hV c2]
    · omega
  · rw [if_neg h1]
    show Ex _ _ _ _ _ _ _ _ [zi 0] _
    refine x_if_ne (tgt := 19) dX4_without_10 rfl (fun c1 => ?_) (fun c1 => ?_)
    · omega
    · refine x_aload0 dX4_without_13 ?_
      refine x_iconst dX4_without_14 ⟨by decide, by decide⟩ ?_
      refine x_callv1 dX4_without_15 cv_X4_150 ci_X4_refuse rfl (T := TX4) rfl (by omega) (Nat.le_of_ble_eq_true rfl) (t_refuse hC (k := 1) (by decide) (by decide) (by decide)) (fun r m1 hq => ?_)
      obtain ⟨rfl, hC1, hF1⟩ := hq
      exact xe_i dX4_without_18 (by rw [o_without, if_pos (by omega)]; exact ⟨rfl, hC1, hF1⟩)
/-- minutes do not matter for where she lays -/
theorem lays_mi (W : zz_W) (f : Int → Int) (p : Int) : lays (fun a z => if a = 3 then f z else W a z) p = lays W p := rfl
theorem lay_put (V : zz_W) (x y mi l : Int) : lay (addn V x y mi l) = lay (addn V x y 0 l) := by
  have e : addn V x y mi l = fun a z => if a = 3 then addn V x y mi l 3 z else addn V x y 0 l a z := by
    funext a z
    by_cases ha : a = 3
    · subst ha
      rw [if_pos rfl]
    · rw [if_neg ha]
      simp [addn, ha]
  rw [e]
  rfl
theorem t_put (hC : MPS m s) (hI : Is s) {x y l : Int} : Mt E 5 yX4_put cX4_put 6 (some .int) [zr 59, zi x, zi y, zi l] m (RQ m (o_put s x y l)) := by
  have hV := hI.1
  have hn := hV.1
  refine Mt.of 2 (by decide +kernel) (Nat.le_of_ble_eq_true rfl) (Or.inl rfl) ?_ ?_
  · exact RQ.rt
  show Ex E cX4_put 6 RX4 5 _ 0 [some (zr 59), some (zi x), some (zi y), some (zi l), none, none] [] m
  refine x_aload0 dX4_put_0 ?_
  refine x_iconst dX4_put_1 ⟨by decide, by decide⟩ ?_
  refine x_putI dX4_put_2 fd_X4_74 rfl rfl ?_
  refine th15 (fun m hC => ?_) hC
  have hM := hC.1
  have bad : ∀ k : Int, 1 ≤ k → k ≤ 6 → o_put s x y l = rfo s k → Ex E cX4_put 6 RX4 5 (RQ m (o_put s x y l)) 55 [some (zr 59), some (zi x), some (zi y), some (zi l), none, none] [zi (-k)] m := by
    intro k hk1 hk6 he
    refine x_istore4 dX4_put_55 (by decide) rfl ?_
    refine x_iload4 dX4_put_57 ?_
    refine x_if_ge (tgt := 69) dX4_put_59 rfl (fun c1 => ?_) (fun c1 => ?_)
    · omega
    · refine x_aload0 dX4_put_62 ?_
      refine x_iload4 dX4_put_63 ?_
      refine x_callv1 dX4_put_65 cv_X4_150 ci_X4_refuse rfl (T := TX4) rfl (by omega) (Nat.le_of_ble_eq_true rfl) (t_refuse hC hk1 hk6 rfl) (fun r m1 hq => ?_)
      obtain ⟨rfl, hC1, hF1⟩ := hq
      rw [he]
      exact xe_i dX4_put_68 (⟨rfl, hC1, hF1⟩)
  have low : (x < 0 ∨ y < 0 ∨ l < 0) → Ex E cX4_put 6 RX4 5 (RQ m (o_put s x y l)) 17 [some (zr 59), some (zi x), some (zi y), some (zi l), none, none] [] m := by
    intro h
    refine x_bipush dX4_put_17 ⟨by decide, by decide⟩ ?_
    refine x_goto (tgt := 55) dX4_put_19 rfl ?_
    exact bad 4 (by decide) (by decide) (by rw [o_put, if_pos h])
  have high : ¬ (x < 0 ∨ y < 0 ∨ l < 0) → (9 < x ∨ 9 < y ∨ 9 < l ∨ s.1 0 0 = 6) → Ex E cX4_put 6 RX4 5 (RQ m (o_put s x y l)) 49 [some (zr 59), some (zi x), some (zi y), some (zi l), none, none] [] m := by
    intro h h'
    refine x_bipush dX4_put_49 ⟨by decide, by decide⟩ ?_
    refine x_goto (tgt := 55) dX4_put_51 rfl ?_
    exact bad 6 (by decide) (by decide) (by rw [o_put, if_neg h, if_pos h'])
  refine x_iload1 dX4_put_5 ?_
  refine x_if_lt (tgt := 17) dX4_put_6 rfl (fun c1 => ?_) (fun c1 => ?_)
  · exact low (Or.inl c1)
  · refine x_iload2 dX4_put_9 ?_
    refine x_if_lt (tgt := 17) dX4_put_10 rfl (fun c2 => ?_) (fun c2 => ?_)
    · exact low (Or.inr (Or.inl c2))
    · refine x_iload3 dX4_put_13 ?_
      refine x_if_ge (tgt := 22) dX4_put_14 rfl (fun c3 => ?_) (fun c3 => ?_)
      · refine x_iload1 dX4_put_22 ?_
        refine x_bipush dX4_put_23 ⟨by decide, by decide⟩ ?_
        refine x_icmp_gt (tgt := 49) dX4_put_25 rfl (fun c4 => ?_) (fun c4 => ?_)
        · exact high (by omega) (Or.inl c4)
        · refine x_iload2 dX4_put_28 ?_
          refine x_bipush dX4_put_29 ⟨by decide, by decide⟩ ?_
          refine x_icmp_gt (tgt := 49) dX4_put_31 rfl (fun c5 => ?_) (fun c5 => ?_)
          · exact high (by omega) (Or.inr (Or.inl c5))
          · refine x_iload3 dX4_put_34 ?_
            refine x_bipush dX4_put_35 ⟨by decide, by decide⟩ ?_
            refine x_icmp_gt (tgt := 49) dX4_put_37 rfl (fun c6 => ?_) (fun c6 => ?_)
            · exact high (by omega) (Or.inr (Or.inr (Or.inl c6)))
            · refine x_aload0 dX4_put_40 ?_
              refine x_getI dX4_put_41 fd_X4_77 rfl (Or.inl rfl) (v := s.1 0 0) hM.nests ?_
              refine x_bipush dX4_put_44 ⟨by decide, by decide⟩ ?_
              refine x_icmp_ne (tgt := 54) dX4_put_46 rfl (fun c7 => ?_) (fun c7 => ?_)
              · refine x_iconst dX4_put_54 ⟨by decide, by decide⟩ ?_
                refine x_istore4 dX4_put_55 (by decide) rfl ?_
                refine x_iload4 dX4_put_57 ?_
                refine x_if_ge (tgt := 69) dX4_put_59 rfl (fun c8 => ?_) (fun c8 => ?_)
                · refine x_aload0 dX4_put_69 ?_
                  refine x_callv0 dX4_put_70 cv_X4_182 ci_X4_open rfl (T := TX4) rfl (by omega) (Nat.le_of_ble_eq_true rfl) (t_open hM) (fun r m1 hq => ?_)
                  obtain ⟨rfl, hM1, hS1, hF1⟩ := hq
                  show Ex _ _ _ _ _ _ _ _ [] _
                  refine x_aload0 dX4_put_73 ?_
                  refine x_getR (q := 60) dX4_put_74 fd_X4_19 rfl rfl rfl ?_
                  refine x_aload0 dX4_put_77 ?_
                  refine x_getI dX4_put_78 fd_X4_77 rfl (Or.inl rfl) (v := s.1 0 0) hM1.nests ?_
                  refine x_iload1 dX4_put_81 ?_
                  refine x_iast dX4_put_82 rfl (by omega) (by omega) ?_
                  have hM2 : MP _ (ux _ 1 (s.1 0 0) x) := hM1.arrup (a := 0) (by decide) hn.1 (by omega)
                  refine x_aload0 dX4_put_83 ?_
                  refine x_getR (q := 61) dX4_put_84 fd_X4_23 rfl rfl rfl ?_
                  refine x_aload0 dX4_put_87 ?_
                  refine x_getI dX4_put_88 fd_X4_77 rfl (Or.inl rfl) (v := s.1 0 0) hM2.nests ?_
                  refine x_iload2 dX4_put_91 ?_
                  refine x_iast dX4_put_92 rfl (by omega) (by omega) ?_
                  have hM3 : MP _ (ux _ 2 (s.1 0 0) y) := hM2.arrup (a := 1) (by decide) hn.1 (by omega)
                  refine x_aload0 dX4_put_93 ?_
                  refine x_getR (q := 63) dX4_put_94 fd_X4_29 rfl rfl rfl ?_
                  refine x_aload0 dX4_put_97 ?_
                  refine x_getI dX4_put_98 fd_X4_77 rfl (Or.inl rfl) (v := s.1 0 0) hM3.nests ?_
                  refine x_iload3 dX4_put_101 ?_
                  refine x_iast dX4_put_102 rfl (by omega) (by omega) ?_
                  have hM4 : MP _ (ux _ 4 (s.1 0 0) l) := hM3.arrup (a := 3) (by decide) hn.1 (by omega)
                  have hF4 : Fg 67 68 m (up (up (up m1 60 (s.1 0 0).toNat x) 61 (s.1 0 0).toNat y) 63 (s.1 0 0).toNat l) := ((hF1.upc (by omega)).upc (by omega)).upc (by omega)
                  have hS4 : SP (up (up (up m1 60 (s.1 0 0).toNat x) 61 (s.1 0 0).toNat y) 63 (s.1 0 0).toNat l) 67 s.1 := fun j hj => by rw [up_cell (by decide), up_cell (by decide), up_cell (by decide)]; exact hS1 j hj
                  generalize up (up (up m1 60 (s.1 0 0).toNat x) 61 (s.1 0 0).toNat y) 63 (s.1 0 0).toNat l = m4 at hM4 hF4 hS4
                  refine x_iconst dX4_put_103 ⟨by decide, by decide⟩ ?_
                  refine x_istore5 dX4_put_104 (by decide) rfl ?_
                  have loop : ∀ (k j : Nat) (m2 : zz_M), j + k = 10 → MP m2 (ux (ux (ux s.1 1 (s.1 0 0) x) 2 (s.1 0 0) y) 4 (s.1 0 0) l) → Fg 67 68 m m2 → SP m2 67 s.1 → Ex E cX4_put 6 RX4 5 (RQ m (o_put s x y l)) 106 [some (zr 59), some (zi x), some (zi y), some (zi l), some (zi 0), some (zi j)] [] m2 := by
                    intro k
                    induction k with
                    | zero =>
                      intro j m2 hj hM2 hF2 hS2
                      refine x_iload5 dX4_put_106 ?_
                      refine x_bipush dX4_put_108 ⟨by decide, by decide⟩ ?_
                      refine x_icmp_ge (tgt := 135) dX4_put_110 rfl (fun d1 => ?_) (fun d1 => ?_)
                      · have hg2 : m2 59 17 = -1 := (hF2.2 17 (by decide) (by decide) (by decide) (by decide)).trans hC.gone
                        refine x_aload0 dX4_put_135 ?_
                        refine x_dupr dX4_put_136 ?_
                        refine x_getI dX4_put_137 fd_X4_77 rfl (Or.inl rfl) (v := s.1 0 0) hM2.nests ?_
                        refine x_iconst dX4_put_140 ⟨by decide, by decide⟩ ?_
                        refine x_iadd dX4_put_141 (nrm_id (by omega) (by omega)) ?_
                        refine x_putI dX4_put_142 fd_X4_77 rfl rfl ?_
                        have hM3 : MP _ (ux _ 0 0 (s.1 0 0 + 1)) := hM2.f (j := 0) (by decide)
                        have hM5 : MP (up m2 59 0 (s.1 0 0 + 1)) (addn s.1 x y (s.1 3 (s.1 0 0)) l) := hM3.cg (fun a z => by
                          unfold ux addn
                          by_cases h0 : a = 0
                          · subst h0; simp
                          · by_cases h1 : a = 1
                            · subst h1; simp
                            · by_cases h2 : a = 2
                              · subst h2; simp
                              · by_cases h3 : a = 3
                                · subst h3
                                  by_cases hz : z = s.1 0 0
                                  · subst hz; simp
                                  · simp [hz]
                                · by_cases h4 : a = 4
                                  · subst h4; simp
                                  · simp [h0, h1, h2, h3, h4])
                        have hx3 := (hV.2.2.2.2.2.2.2.2.1 (s.1 0 0) hn.1 (by omega)).2.2.1
                        have hI5 : Iv 9999 (addn s.1 x y (s.1 3 (s.1 0 0)) l) := Iv_addn hV (by omega) (by omega) (by omega) hx3 (by omega)
                        have hF3 : Fg 67 68 m (up m2 59 0 (s.1 0 0 + 1)) := hF2.upf (by decide)
                        have hg3 : up m2 59 0 (s.1 0 0 + 1) 59 17 = -1 := by rw [upn (by decide)]; exact hg2
                        refine x_aload0 dX4_put_145 ?_
                        refine x_callv0 dX4_put_146 cv_X4_120 ci_X4_laysAt rfl (T := TX4) rfl (by omega) (Nat.le_of_ble_eq_true rfl) (t_laysAt hM5 hI5 (by decide) hg3 (by rw [gs_all]; exact all_sub hI5.1.1 hI5.1.2) (by rw [gs_all]; exact has_all (show 0 < s.1 0 0 + 1 by omega) hI5.1.2)) (fun r m3 hq => ?_)
                        obtain ⟨rfl, hM6, hF6⟩ := hq
                        rw [gs_all]
                        show Ex _ _ _ _ _ _ _ _ [zi (lay (addn s.1 x y (s.1 3 (s.1 0 0)) l))] _
                        rw [lay_put]
                        have hS6 : SP m3 67 s.1 := fun j hj => by rw [hF6.1 67 (by decide) (by decide), up_cell (by decide)]; exact hS2 j hj
                        refine x_istore5 dX4_put_149 (by decide) rfl ?_
                        refine x_aload0 dX4_put_151 ?_
                        refine x_callv0 dX4_put_152 cv_X4_188 ci_X4_close rfl (T := TX4) rfl (by omega) (Nat.le_of_ble_eq_true rfl) (t_close hS6) (fun r m4 hq => ?_)
                        obtain ⟨rfl, hM7, -, hF7⟩ := hq
                        show Ex _ _ _ _ _ _ _ _ [] _
                        refine x_iload5 dX4_put_155 ?_
                        have hFt : Fg 67 68 m m4 := (hF3.tr hF6.fg).tr hF7
                        exact xe_i dX4_put_157 (by rw [o_put, if_neg (by omega), if_neg (by omega)]; exact ⟨rfl, hC.fg hFt (by decide) hM7, hFt.fr (by decide)⟩)
                      · omega
                    | succ k ih =>
                      intro j m2 hj hM2 hF2 hS2
                      refine x_iload5 dX4_put_106 ?_
                      refine x_bipush dX4_put_108 ⟨by decide, by decide⟩ ?_
                      refine x_icmp_ge (tgt := 135) dX4_put_110 rfl (fun d1 => ?_) (fun d1 => ?_)
                      · omega
                      · refine x_aload0 dX4_put_113 ?_
                        refine x_getR (q := 64) dX4_put_114 fd_X4_32 rfl rfl rfl ?_
                        refine x_bipush dX4_put_117 ⟨by decide, by decide⟩ ?_
                        refine x_aload0 dX4_put_119 ?_
                        refine x_getI dX4_put_120 fd_X4_77 rfl (Or.inl rfl) (v := s.1 0 0) hM2.nests ?_
                        refine x_imul dX4_put_123 (nrm_id (by omega) (by omega)) ?_
                        refine x_iload5 dX4_put_124 ?_
                        refine x_iadd dX4_put_126 (nrm_id (by omega) (by omega)) ?_
                        refine x_iconst dX4_put_127 ⟨by decide, by decide⟩ ?_
                        refine x_iast dX4_put_128 rfl (by omega) (by omega) ?_
                        refine x_iinc5 dX4_put_129 (by decide) rfl (nrm_id (by omega) (by omega)) ?_
                        refine x_goto (tgt := 106) dX4_put_132 rfl ?_
                        have hz := hV.2.2.2.2.2.2.2.2.2.2 (10 * s.1 0 0 + j) (by omega) (by omega)
                        refine Ex.eq (by push_cast; rfl) rfl rfl (ih (j + 1) _ (by omega) ?_ (hF2.upc (by omega)) (fun i hi => by rw [up_cell (by decide)]; exact hS2 i hi))
                        refine (hM2.eggup (z := 10 * s.1 0 0 + j) (x := 0) (by omega)).cg (fun a z => ?_)
                        by_cases hw : a = 5 ∧ z = 10 * s.1 0 0 + j
                        · rw [ux, if_pos hw, hw.1, hw.2]
                          show 0 = s.1 5 (10 * s.1 0 0 + j)
                          exact hz.symm
                        · exact if_neg hw
                  exact loop 10 0 m4 rfl hM4 hF4 hS4
                · omega
              · exact high (by omega) (Or.inr (Or.inr (Or.inr (by omega))))
      · exact low (Or.inr (Or.inr c3))
end RM7
