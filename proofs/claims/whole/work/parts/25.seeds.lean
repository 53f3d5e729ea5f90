section MC7
variable {E : zz_E} {m : zz_M} {s : zz_S}
theorem mask_bd (z : Int) : 0 ≤ ian z 2147483647 ∧ ian z 2147483647 ≤ 2147483647 := by
  refine ⟨?_, (i32_in _).2⟩
  show 0 ≤ ((Int32.ofInt z).toBitVec &&& (Int32.ofInt 2147483647).toBitVec).toInt
  apply BitVec.toInt_nonneg_of_msb_false
  rw [BitVec.msb_and, show (Int32.ofInt 2147483647).toBitVec.msb = false by decide, Bool.and_false]
theorem drw_bd {n : Int} (h0 : 0 < n) (h1 : n ≤ 2147483647) (z : Int) : 0 ≤ drw n z ∧ drw n z < n := by
  have h := mask_bd z
  have h2 : 0 ≤ ian z 2147483647 / 65536 := Int.ediv_nonneg h.1 (by decide)
  have h3 : ian z 2147483647 / 65536 ≤ ian z 2147483647 := Int.ediv_le_self _ h.1
  unfold drw
  rw [idv_pos h.1 h.2 (by decide) (by decide), irm_pos h2 (by omega) h0 h1]
  exact ⟨Int.emod_nonneg _ (by omega), Int.emod_lt_of_pos _ h0⟩
theorem s_nextSeed {z : Int} : Mt E 1 yX3_nextSeed cX3_nextSeed 1 (some .int) [zi z] m (ans (some (zi (nsd z))) m) := by
  refine Mt.of 0 (by decide +kernel) (Nat.le_of_ble_eq_true rfl) (Or.inl rfl) ?_ ?_
  · rintro r m' ⟨rfl, rfl⟩; simp
  show Ex E cX3_nextSeed 1 RX3 1 _ 0 [some (zi z)] [] m
  refine x_iload0 dX3_nextSeed_0 ?_
  refine x_ldc (v := 1103515245) dX3_nextSeed_1 ⟨by decide, by decide⟩ ct_X3_202 ?_
  refine x_imul dX3_nextSeed_3 rfl ?_
  refine x_sipush dX3_nextSeed_4 ⟨by decide, by decide⟩ ?_
  refine x_iadd dX3_nextSeed_7 rfl ?_
  exact xe_i dX3_nextSeed_8 (⟨rfl, rfl⟩)
theorem s_drawBelow {n z : Int} (h0 : 0 < n) : Mt E 1 yX3_drawBelow cX3_drawBelow 2 (some .int) [zi n, zi z] m (ans (some (zi (drw n z))) m) := by
  refine Mt.of 0 (by decide +kernel) (Nat.le_of_ble_eq_true rfl) (Or.inl rfl) ?_ ?_
  · rintro r m' ⟨rfl, rfl⟩; simp
  show Ex E cX3_drawBelow 2 RX3 1 _ 0 [some (zi n), some (zi z)] [] m
  refine x_iload0 dX3_drawBelow_0 ?_
  refine x_iconst dX3_drawBelow_1 ⟨by decide, by decide⟩ ?_
  refine x_icmp_ge (tgt := 9) dX3_drawBelow_2 rfl (fun h1 => ?_) (fun h1 => ?_)
  · refine x_iload1 dX3_drawBelow_9 ?_
    refine x_ldc (v := 2147483647) dX3_drawBelow_10 ⟨by decide, by decide⟩ ct_X3_203 ?_
    refine x_iand dX3_drawBelow_12 rfl ?_
    refine x_ldc (v := 65536) dX3_drawBelow_13 ⟨by decide, by decide⟩ ct_X3_204 ?_
    refine x_idiv dX3_drawBelow_15 (by omega) rfl ?_
    refine x_iload0 dX3_drawBelow_16 ?_
    refine x_irem dX3_drawBelow_17 (by omega) rfl ?_
    exact xe_i dX3_drawBelow_18 (⟨rfl, rfl⟩)
  · omega
theorem naw_ok {f : Int → Int} : ∀ (n : Nat) (i x : Int), 0 ≤ i → (∀ j, i ≤ j → j < i + n → 0 ≤ f j) → 0 ≤ x → x < smI (fun j => f (i + j)) n → i ≤ naw f n i x ∧ naw f n i x < i + n
  | 0, i, x, _, _, h0, h1 => by simp [smI] at h1; omega
  | n + 1, i, x, hi, hf, h0, h1 => by
    rw [smI_shift] at h1
    have e : smI (fun j => f (i + (j + 1))) n = smI (fun j => f ((i + 1) + j)) n := smI_congr n (fun j _ _ => by rw [show i + (j + 1) = i + 1 + j by omega])
    rw [e] at h1
    simp only [Int.add_zero] at h1
    unfold naw
    by_cases h : x < f i
    · rw [if_pos h]; omega
    · rw [if_neg h]
      have := naw_ok n (i + 1) (x - f i) (by omega) (fun j a b => hf j (by omega) (by omega)) (by omega) (by omega)
      omega
theorem wtot_sum (V : zz_W) (y : Int) : wtot V y = smI (wt V y) (V 0 0).toNat := by
  unfold wtot
  by_cases h : wsum V y = 0
  · rw [if_pos h]
    exact smI_congr _ (fun i _ _ => by unfold wt; rw [if_pos h])
  · rw [if_neg h]
    exact smI_congr _ (fun i _ _ => by unfold wt; rw [if_neg h])
/-- a nest by lot with the weights -/
theorem naw_in {V : zz_W} {D : Int} (hI : Iv D V) (h0 : V 0 0 ≠ 0) (z : Int) : 0 ≤ naw (wt V (mya V)) (V 0 0).toNat 0 (drw (wtot V (mya V)) z) ∧ naw (wt V (mya V)) (V 0 0).toNat 0 (drw (wtot V (mya V)) z) < V 0 0 := by
  have hn := hI.1
  have hw := wtot_bd hI (mya_ok hI) (mya_has hI h0)
  have hd := drw_bd hw.1 (by omega) z
  have e : smI (fun j => wt V (mya V) (0 + j)) (V 0 0).toNat = wtot V (mya V) := by
    rw [wtot_sum]
    exact smI_congr _ (fun i _ _ => by rw [Int.zero_add])
  have := naw_ok (f := wt V (mya V)) (V 0 0).toNat 0 (drw (wtot V (mya V)) z) (by omega) (fun j a b => (wt_nn hI (mya_ok hI) a (by omega)).1) hd.1 (by rw [e]; exact hd.2)
  omega
theorem sds_sc (V : zz_W) (z : Int) : ∀ n, (sds V z n).2.1 0 0 = V 0 0
  | 0 => rfl
  | n + 1 => (tak_sc (sds V z n).2.1 (isl 1 (drw ((sds V z n).2.1 0 0) (nsd (sds V z n).2.2))) 0 (by decide)).trans (sds_sc V z n)
theorem sds_ok {V : zz_W} {D z : Int} (hI : Iv D V) (h0 : V 0 0 ≠ 0) : ∀ n : Nat, D + n ≤ 20000 → Iv (D + n) (sds V z n).2.1 ∧ 0 ≤ (sds V z n).1 ∧ (sds V z n).1 ≤ 540 * n
  | 0, _ => ⟨hI.wd (by omega), Int.le_refl _, by show (0 : Int) ≤ _; omega⟩
  | n + 1, h => by
    obtain ⟨h1, h2, h3⟩ := sds_ok (z := z) hI h0 n (by omega)
    have hsc : (sds V z n).2.1 0 0 ≠ 0 := by rw [sds_sc]; exact h0
    have hn1 := h1.1
    have hb := drw_bd (show 0 < (sds V z n).2.1 0 0 by omega) (by omega) (nsd (sds V z n).2.2)
    have hq := bit_bd hb.1 (show _ < 6 by omega)
    have h4 := Iv_tak h1 hq.1 hq.2
    have hsc2 : tak (sds V z n).2.1 (isl 1 (drw ((sds V z n).2.1 0 0) (nsd (sds V z n).2.2))) 0 0 = (sds V z n).2.1 0 0 := tak_sc _ _ _ (by decide)
    have h5 := naw_in h4 (by rw [hsc2]; exact hsc) (nsd (nsd (sds V z n).2.2))
    have h6 := Iv_pass h4 h5.1 h5.2
    have h7 := tkn_bd (V := (sds V z n).2.1) h1.2.2.2.2.2.2.2.2.2.1 (isl 1 (drw ((sds V z n).2.1 0 0) (nsd (sds V z n).2.2))) ((sds V z n).2.1 0 0).toNat (by omega)
    refine ⟨?_, ?_, ?_⟩
    · have : (D + ((n + 1 : Nat) : Int)) = D + n + 1 := by omega
      rw [this]
      rw [hsc2] at h6
      exact h6
    · show 0 ≤ (sds V z n).1 + tkn _ _
      unfold tkn
      omega
    · show (sds V z n).1 + tkn _ _ ≤ _
      unfold tkn
      push_cast
      omega
theorem s_seeds (hC : CP m s) (hI : Is s) {n z : Int} : Mt E 5 yX3_seeds cX3_seeds 7 (some .int) [zr 55, zi n, zi z] m (CQ m (o_seeds s n z)) := by
  have hV := hI.1
  have hY := hC.1.1
  refine Mt.of 4 (by decide +kernel) (Nat.le_of_ble_eq_true rfl) (Or.inl rfl) ?_ ?_
  · exact CQ.rt
  show Ex E cX3_seeds 7 RX3 5 _ 0 [some (zr 55), some (zi n), some (zi z), none, none, none, none] [] m
  refine x_iload1 dX3_seeds_0 ?_
  refine x_iconst dX3_seeds_1 ⟨by decide, by decide⟩ ?_
  refine x_icmp_ge (tgt := 12) dX3_seeds_2 rfl (fun h1 => ?_) (fun h1 => ?_)
  · refine x_iload1 dX3_seeds_12 ?_
    refine x_bipush dX3_seeds_13 ⟨by decide, by decide⟩ ?_
    refine x_icmp_le (tgt := 25) dX3_seeds_15 rfl (fun h2 => ?_) (fun h2 => ?_)
    · refine x_aload0 dX3_seeds_25 ?_
      refine x_getR (q := 0) dX3_seeds_26 fd_X3_10 rfl rfl rfl ?_
      refine x_getI dX3_seeds_29 fd_X3_112 rfl (Or.inl rfl) (v := s.1 0 0) hY.nests ?_
      refine x_if_ne (tgt := 42) dX3_seeds_32 rfl (fun h3 => ?_) (fun h3 => ?_)
      · obtain ⟨V1, hY1⟩ := hC.yp16
        have hok := sds_ok (z := z) hV h3
        refine x_aload0 dX3_seeds_42 ?_
        refine x_getR (q := 16) dX3_seeds_43 fd_X3_19 rfl rfl rfl ?_
        refine x_aload0 dX3_seeds_46 ?_
        refine x_getR (q := 0) dX3_seeds_47 fd_X3_10 rfl rfl rfl ?_
        refine x_callv1 dX3_seeds_50 cv_X3_57 ci_X2_copyFrom (by first | rfl | exact yb_k (by assumption)) (T := TX2) rfl (by decide) (Nat.le_of_ble_eq_true rfl) (s_copyFrom yb_16 yb_0 (by omega) hY1 hY) (fun r m1 hq => ?_)
        obtain ⟨rfl, hYm, hF1⟩ := hq
        show Ex _ _ _ _ _ _ _ _ [] _
        refine x_iload2 dX3_seeds_53 ?_
        refine x_istore3 dX3_seeds_54 (by decide) rfl ?_
        refine x_iconst dX3_seeds_55 ⟨by decide, by decide⟩ ?_
        refine x_istore4 dX3_seeds_56 (by decide) rfl ?_
        refine x_iconst dX3_seeds_58 ⟨by decide, by decide⟩ ?_
        refine x_istore5 dX3_seeds_59 (by decide) rfl ?_
        have loop : ∀ (q j : Nat) (m2 : zz_M) (o : Option zz_V), (j : Int) + q = n → YP m2 16 (sds s.1 z j).2.1 → Fr 16 24 m m2 → Ex E cX3_seeds 7 RX3 5 (CQ m (o_seeds s n z)) 61 [some (zr 55), some (zi n), some (zi z), some (zi (sds s.1 z j).2.2), some (zi (sds s.1 z j).1), some (zi j), o] [] m2 := by
          intro q
          induction q with
          | zero =>
            intro j m2 o hj hY2 hF2
            refine x_iload5 dX3_seeds_61 ?_
            refine x_iload1 dX3_seeds_63 ?_
            refine x_icmp_ge (tgt := 151) dX3_seeds_64 rfl (fun h4 => ?_) (fun h4 => ?_)
            · refine x_iload4 dX3_seeds_151 ?_
              have e1 : n.toNat = j := by omega
              exact xe_i dX3_seeds_153 (by rw [o_seeds, if_neg (by omega), if_neg (by omega), if_neg h3, e1]; exact ⟨rfl, hC.mind hF2 hY2, hF2.wd (by omega) (by omega)⟩)
            · omega
          | succ q ih =>
            intro j m2 o hj hY2 hF2
            refine Ex.wk (L' := [some (zr 55), some (zi n), some (zi z), some (zi (sds s.1 z j).2.2), some (zi (sds s.1 z j).1), some (zi j), none]) ⟨rfl, rfl, rfl, rfl, rfl, rfl, trivial⟩ ?_
            obtain ⟨g1, g2, g3⟩ := hok j (by omega)
            have hsc := sds_sc s.1 z j
            have hn1 := g1.1
            have e1 : sds s.1 z (j + 1) = sda (sds s.1 z j).1 (sds s.1 z j).2.1 (sds s.1 z j).2.2 := rfl
            generalize hW : (sds s.1 z j).2.1 = W at hY2 g1 hsc hn1 e1
            generalize hf : (sds s.1 z j).1 = f at g2 g3 e1
            generalize hz : (sds s.1 z j).2.2 = z1 at e1
            have hb := drw_bd (show 0 < W 0 0 by omega) (by omega) (nsd z1)
            have hq := bit_bd hb.1 (show _ < 6 by omega)
            have g4 := Iv_tak g1 hq.1 hq.2
            have hsc2 : tak W (isl 1 (drw (W 0 0) (nsd z1))) 0 0 = W 0 0 := tak_sc _ _ _ (by decide)
            have g5 := naw_in g4 (by rw [hsc2]; omega) (nsd (nsd z1))
            have gt := tkn_bd (V := W) g1.2.2.2.2.2.2.2.2.2.1 (isl 1 (drw (W 0 0) (nsd z1))) (W 0 0).toNat (by omega)
            have gt2 : 0 ≤ tkn W (isl 1 (drw (W 0 0) (nsd z1))) ∧ tkn W (isl 1 (drw (W 0 0) (nsd z1))) ≤ 540 := gt
            refine x_iload5 dX3_seeds_61 ?_
            refine x_iload1 dX3_seeds_63 ?_
            refine x_icmp_ge (tgt := 151) dX3_seeds_64 rfl (fun h4 => ?_) (fun h4 => ?_)
            · omega
            · refine x_iload3 dX3_seeds_67 ?_
              refine x_calls1 dX3_seeds_68 cv_X3_183 cs_X3_nextSeed (by decide) (Nat.le_of_ble_eq_true rfl) (s_nextSeed) (fun r m3 hq => ?_)
              obtain ⟨rfl, rfl⟩ := hq
              show Ex _ _ _ _ _ _ _ _ [zi (nsd z1)] _
              refine x_istore3 dX3_seeds_71 (by decide) rfl ?_
              refine x_iload4 dX3_seeds_72 ?_
              refine x_aload0 dX3_seeds_74 ?_
              refine x_getR (q := 16) dX3_seeds_75 fd_X3_19 rfl rfl rfl ?_
              refine x_iconst dX3_seeds_78 ⟨by decide, by decide⟩ ?_
              refine x_aload0 dX3_seeds_79 ?_
              refine x_getR (q := 16) dX3_seeds_80 fd_X3_19 rfl rfl rfl ?_
              refine x_getI dX3_seeds_83 fd_X3_112 rfl (Or.inl rfl) (v := W 0 0) hY2.nests ?_
              refine x_iload3 dX3_seeds_86 ?_
              refine x_calls2 dX3_seeds_87 cv_X3_186 cs_X3_drawBelow (by decide) (Nat.le_of_ble_eq_true rfl) (s_drawBelow (show 0 < W 0 0 by omega)) (fun r m4 hq => ?_)
              obtain ⟨rfl, rfl⟩ := hq
              show Ex _ _ _ _ _ _ _ _ [zi (drw (W 0 0) (nsd z1)), zi 1, zr 16, zi f] _
              refine x_ishl dX3_seeds_90 rfl ?_
              refine x_callv1 dX3_seeds_91 cv_X3_106 ci_X2_takeEggs (by first | rfl | exact yb_k (by assumption)) (T := TX2) rfl (by decide) (Nat.le_of_ble_eq_true rfl) (s_takeEggs yb_16 hY2 g1) (fun r m5 hq => ?_)
              obtain ⟨rfl, hY5, hF5⟩ := hq
              show Ex _ _ _ _ _ _ _ _ [zi (tkn W (isl 1 (drw (W 0 0) (nsd z1)))), zi f] _
              refine x_iadd dX3_seeds_94 (nrm_id (by omega) (by omega)) ?_
              refine x_istore4 dX3_seeds_95 (by decide) rfl ?_
              refine x_iload3 dX3_seeds_97 ?_
              refine x_calls1 dX3_seeds_98 cv_X3_183 cs_X3_nextSeed (by decide) (Nat.le_of_ble_eq_true rfl) (s_nextSeed) (fun r m6 hq => ?_)
              obtain ⟨rfl, rfl⟩ := hq
              show Ex _ _ _ _ _ _ _ _ [zi (nsd (nsd z1))] _
              refine x_istore3 dX3_seeds_101 (by decide) rfl ?_
              refine x_aload0 dX3_seeds_102 ?_
              refine x_getR (q := 16) dX3_seeds_103 fd_X3_19 rfl rfl rfl ?_
              refine x_aload0 dX3_seeds_106 ?_
              refine x_getR (q := 16) dX3_seeds_107 fd_X3_19 rfl rfl rfl ?_
              refine x_aload0 dX3_seeds_110 ?_
              refine x_getR (q := 16) dX3_seeds_111 fd_X3_19 rfl rfl rfl ?_
              refine x_callv0 dX3_seeds_114 cv_X3_118 ci_X2_allNests (by first | rfl | exact yb_k (by assumption)) (T := TX2) rfl (by decide) (Nat.le_of_ble_eq_true rfl) (s_allNests yb_16 hY5 g4) (fun r m7 hq => ?_)
              obtain ⟨rfl, rfl⟩ := hq
              refine x_callv1 dX3_seeds_117 cv_X3_128 ci_X2_mayAmong (by first | rfl | exact yb_k (by assumption)) (T := TX2) rfl (by decide) (Nat.le_of_ble_eq_true rfl) (s_mayAmong yb_16 hY5) (fun r m8 hq => ?_)
              obtain ⟨rfl, rfl⟩ := hq
              refine x_callv1 dX3_seeds_120 cv_X3_133 ci_X2_weigh (by first | rfl | exact yb_k (by assumption)) (T := TX2) rfl (by decide) (Nat.le_of_ble_eq_true rfl) (s_weigh yb_16 hY5 g4 (mya_ok g4)) (fun r m9 hq => ?_)
              obtain ⟨rfl, hWp, hY9, hF9⟩ := hq
              have hwb := wtot_bd g4 (mya_ok g4) (mya_has g4 (by rw [hsc2]; omega))
              have hdb := drw_bd hwb.1 (by omega) (nsd (nsd z1))
              generalize hU : tak W (isl 1 (drw (W 0 0) (nsd z1))) = U at hY5 g4 hsc2 g5 hY9 hWp hwb hdb
              have hWp : WP m9 16 (wt U (mya U)) (U 0 0) := hWp
              show Ex _ _ _ _ _ _ _ _ [zi (wtot U (mya U))] _
              refine x_istore6 dX3_seeds_123 (by decide) rfl ?_
              refine x_aload0 dX3_seeds_125 ?_
              refine x_getR (q := 16) dX3_seeds_126 fd_X3_19 rfl rfl rfl ?_
              refine x_aload0 dX3_seeds_129 ?_
              refine x_getR (q := 16) dX3_seeds_130 fd_X3_19 rfl rfl rfl ?_
              refine x_iload6 dX3_seeds_133 ?_
              refine x_iload3 dX3_seeds_135 ?_
              refine x_calls2 dX3_seeds_136 cv_X3_186 cs_X3_drawBelow (by decide) (Nat.le_of_ble_eq_true rfl) (s_drawBelow hwb.1) (fun r m10 hq => ?_)
              obtain ⟨rfl, rfl⟩ := hq
              refine x_callv1 dX3_seeds_139 cv_X3_189 ci_X2_nestAtWeight (by first | rfl | exact yb_k (by assumption)) (T := TX2) rfl (by decide) (Nat.le_of_ble_eq_true rfl) (s_nestAtWeight yb_16 hY9 g4.1 hWp (fun i a b => wt_nn g4 (mya_ok g4) a (by have := g4.1; omega)) hdb.1 (by omega)) (fun r m11 hq => ?_)
              obtain ⟨rfl, rfl⟩ := hq
              rw [lc_nn g5.1]
              refine x_callv1 dX3_seeds_142 cv_X3_124 ci_X2_passNight (by first | rfl | exact yb_k (by assumption)) (T := TX2) rfl (by decide) (Nat.le_of_ble_eq_true rfl) (s_passNight yb_16 hY9 g4 (by omega) g5) (fun r m12 hq => ?_)
              obtain ⟨rfl, hY12, hF12⟩ := hq
              show Ex _ _ _ _ _ _ _ _ [] _
              refine x_iinc5 dX3_seeds_145 (by decide) rfl (nrm_id (by omega) (by omega)) ?_
              refine x_goto (tgt := 61) dX3_seeds_148 rfl ?_
              refine Ex.eq ?_ rfl rfl (ih (j + 1) m12 (some (zi (wtot U (mya U)))) (by omega) ?_ ((((hF2.tr hF5).to hF9 (by omega) (by omega))).tr hF12))
              · rw [e1, show (j : Int) + 1 = ((j + 1 : Nat) : Int) by omega]
                rfl
              · rw [e1]
                unfold sda
                simp only [hU]
                rw [hsc2] at hY12
                exact hY12
        exact loop n.toNat 0 m1 none (by omega) hYm hF1
      · refine x_aload0 dX3_seeds_35 ?_
        refine x_bipush dX3_seeds_36 ⟨by decide, by decide⟩ ?_
        refine x_callv1 dX3_seeds_38 cv_X3_46 ci_X3_refuse rfl (T := TX3) rfl (by decide) (Nat.le_of_ble_eq_true rfl) (s_refuse hC (k := 3) (by decide) (by decide) (by decide)) (fun r m1 hq => ?_)
        obtain ⟨rfl, hC1, hF1⟩ := hq
        exact xe_i dX3_seeds_41 (by rw [o_seeds, if_neg (by omega), if_neg (by omega), if_pos h3]; exact ⟨rfl, hC1, hF1⟩)
    · refine x_aload0 dX3_seeds_18 ?_
      refine x_bipush dX3_seeds_19 ⟨by decide, by decide⟩ ?_
      refine x_callv1 dX3_seeds_21 cv_X3_46 ci_X3_refuse rfl (T := TX3) rfl (by decide) (Nat.le_of_ble_eq_true rfl) (s_refuse hC (k := 6) (by decide) (by decide) (by decide)) (fun r m1 hq => ?_)
      obtain ⟨rfl, hC1, hF1⟩ := hq
      exact xe_i dX3_seeds_24 (by rw [o_seeds, if_neg (by omega), if_pos h2]; exact ⟨rfl, hC1, hF1⟩)
  · refine x_aload0 dX3_seeds_5 ?_
    refine x_bipush dX3_seeds_6 ⟨by decide, by decide⟩ ?_
    refine x_callv1 dX3_seeds_8 cv_X3_46 ci_X3_refuse rfl (T := TX3) rfl (by decide) (Nat.le_of_ble_eq_true rfl) (s_refuse hC (k := 4) (by decide) (by decide) (by decide)) (fun r m1 hq => ?_)
    obtain ⟨rfl, hC1, hF1⟩ := hq
    exact xe_i dX3_seeds_11 (by rw [o_seeds, if_pos h1]; exact ⟨rfl, hC1, hF1⟩)
end MC7
