section MC6
variable {E : zz_E} {m : zz_M} {s : zz_S}
/-- the laid row of a kind -/
def LR (m : zz_M) (V : zz_W) (k : Nat) : Prop := ∀ i : Nat, i < 8 → m 57 (8 * k + i) = ldn V k i
def FL (m m' : zz_M) : Prop := ∀ q, q ≠ 57 → (q < 16 ∨ 24 ≤ q) → m' q = m q
theorem FL.fr {m m' : zz_M} (h : FL m m') : Fr 0 59 m m' := fun q hq => h q (by omega) (by omega)
theorem FL.rf {m : zz_M} : FL m m := fun _ _ _ => rfl
theorem FL.tr {m m' m'' : zz_M} (h : FL m m') (h' : FL m' m'') : FL m m'' := fun q a b => (h' q a b).trans (h q a b)
theorem FL.of {m m' : zz_M} (h : Fr 16 24 m m') : FL m m' := fun q _ b => h q b
theorem FL.up {m m' : zz_M} (h : FL m m') {j : Nat} {v : Int} : FL m (up m' 57 j v) := fun q a b => by rw [up_cell a]; exact h q a b
theorem CP.fl {m' : zz_M} {V' : zz_W} (h : CP m s) (hf : FL m m') (h' : YP m' 16 V') : CP m' s := by
  obtain ⟨⟨h1, h2, -, ⟨V4, h4⟩, ⟨V5, h5⟩, ⟨V6, h6⟩, h7⟩, hR⟩ := h
  refine ⟨⟨h1.kept (fun k a b => hf k (by omega) (by omega)), h2.kept (fun k a b => hf k (by omega) (by omega)), ⟨V', h'⟩, ⟨V4, h4.kept (fun k a b => hf k (by omega) (by omega))⟩, ⟨V5, h5.kept (fun k a b => hf k (by omega) (by omega))⟩, ⟨V6, h6.kept (fun k a b => hf k (by omega) (by omega))⟩, by rw [hf 52 (by decide) (by decide)]; exact h7⟩, ?_⟩
  exact hR.fr (hf _ (by decide) (by decide)) (hf _ (by decide) (by decide)) (hf _ (by decide) (by decide)) (hf _ (by decide) (by decide)) (hf _ (by decide) (by decide))
theorem kind_ok {V : zz_W} {D : Int} (hI : Iv D V) {k : Nat} (hk : k ≤ 5) : Iv D (ux V 0 6 k) := Iv_ux0 hI (Or.inr (Or.inr (Or.inr (Or.inl ⟨rfl, by omega, by omega⟩))))
theorem s_layRow (hC : CP m s) (hI : Is s) (h0 : s.1 0 0 ≠ 0) {k : Nat} (hk : k ≤ 5) : Mt E 5 yX3_layRow cX3_layRow 4 none [zr 55, zi k] m (fun r m' => r = none ∧ CP m' s ∧ LR m' s.1 k ∧ (∀ j, (j < 8 * k ∨ 8 * k + 8 ≤ j) → m' 57 j = m 57 j) ∧ FL m m') := by
  have hV := hI.1
  have hY := hC.1.1
  have hn := hV.1
  have hVk := kind_ok hV hk
  have hok := nts_ok hVk (show ux s.1 0 6 k 0 0 ≠ 0 from h0)
  refine Mt.of 2 (by decide +kernel) (Nat.le_of_ble_eq_true rfl) (Or.inr (Or.inr (Or.inr rfl))) ?_ ?_
  · rintro r m' ⟨rfl, -⟩; simp
  show Ex E cX3_layRow 4 RX3 5 _ 0 [some (zr 55), some (zi k), none, none] [] m
  obtain ⟨V1, hY1⟩ := hC.yp16
  refine x_aload0 dX3_layRow_0 ?_
  refine x_getR (q := 16) dX3_layRow_1 fd_X3_19 rfl rfl rfl ?_
  refine x_aload0 dX3_layRow_4 ?_
  refine x_getR (q := 0) dX3_layRow_5 fd_X3_10 rfl rfl rfl ?_
  refine x_callv1 dX3_layRow_8 cv_X3_57 ci_X2_copyFrom (by first | rfl | exact yb_k (by assumption)) (T := TX2) rfl (by decide) (Nat.le_of_ble_eq_true rfl) (s_copyFrom yb_16 yb_0 (by omega) hY1 hY) (fun r m1 hq => ?_)
  obtain ⟨rfl, hYm, hF1⟩ := hq
  show Ex _ _ _ _ _ _ _ _ [] _
  refine x_aload0 dX3_layRow_11 ?_
  refine x_getR (q := 16) dX3_layRow_12 fd_X3_19 rfl rfl rfl ?_
  refine x_getR (q := 22) dX3_layRow_15 fd_X3_99 rfl rfl rfl ?_
  refine x_iconst dX3_layRow_18 ⟨by decide, by decide⟩ ?_
  refine x_iload1 dX3_layRow_19 ?_
  refine x_iast dX3_layRow_20 rfl (by omega) (by omega) ?_
  refine x_iconst dX3_layRow_21 ⟨by decide, by decide⟩ ?_
  refine x_istore2 dX3_layRow_22 (by decide) rfl ?_
  have hYk : YP (up m1 22 (0 : Int).toNat k) 16 (ux s.1 0 6 k) := YP.setFig (b := 16) (z := 0) (x := k) hYm (by decide) (by decide)
  have loop : ∀ (q j : Nat) (m2 : zz_M) (o : Option zz_V), j + q = 8 → YP m2 16 (nts j (ux s.1 0 6 k)) → FL m m2 → (∀ i : Nat, i < j → m2 57 (8 * k + i) = ldn s.1 k i) → (∀ j, (j < 8 * k ∨ 8 * k + 8 ≤ j) → m2 57 j = m 57 j) → Ex E cX3_layRow 4 RX3 5 (fun r m' => r = none ∧ CP m' s ∧ LR m' s.1 k ∧ (∀ j, (j < 8 * k ∨ 8 * k + 8 ≤ j) → m' 57 j = m 57 j) ∧ FL m m') 23 [some (zr 55), some (zi k), some (zi j), o] [] m2 := by
    intro q
    induction q with
    | zero =>
      intro j m2 o hj hY2 hF2 hL hO
      refine Ex.wk (L' := [some (zr 55), some (zi k), some (zi j), none]) ⟨rfl, rfl, rfl, trivial⟩ ?_
      refine x_iload2 dX3_layRow_23 ?_
      refine x_bipush dX3_layRow_24 ⟨by decide, by decide⟩ ?_
      refine x_icmp_ge (tgt := 70) dX3_layRow_26 rfl (fun h5 => ?_) (fun h5 => ?_)
      · obtain rfl : j = 8 := by omega
        exact xe_v dX3_layRow_70 (⟨rfl, hC.fl hF2 hY2, fun i hi => hL i hi, hO, hF2⟩)
      · omega
    | succ q ih =>
      intro j m2 o hj hY2 hF2 hL hO
      refine Ex.wk (L' := [some (zr 55), some (zi k), some (zi j), none]) ⟨rfl, rfl, rfl, trivial⟩ ?_
      have g4 := hok j (by omega)
      have g5 : nts j (ux s.1 0 6 k) 0 0 ≠ 0 := by rw [nts_sc]; exact h0
      refine x_iload2 dX3_layRow_23 ?_
      refine x_bipush dX3_layRow_24 ⟨by decide, by decide⟩ ?_
      refine x_icmp_ge (tgt := 70) dX3_layRow_26 rfl (fun h5 => ?_) (fun h5 => ?_)
      · omega
      · refine x_aload0 dX3_layRow_29 ?_
        refine x_getR (q := 16) dX3_layRow_30 fd_X3_19 rfl rfl rfl ?_
        refine x_aload0 dX3_layRow_33 ?_
        refine x_getR (q := 16) dX3_layRow_34 fd_X3_19 rfl rfl rfl ?_
        refine x_callv0 dX3_layRow_37 cv_X3_118 ci_X2_allNests (by first | rfl | exact yb_k (by assumption)) (T := TX2) rfl (by decide) (Nat.le_of_ble_eq_true rfl) (s_allNests yb_16 hY2 g4) (fun r m4 hq => ?_)
        obtain ⟨rfl, rfl⟩ := hq
        refine x_callv1 dX3_layRow_40 cv_X3_121 ci_X2_laysAmong (by first | rfl | exact yb_k (by assumption)) (T := TX2) rfl (by decide) (Nat.le_of_ble_eq_true rfl) (s_laysAmong yb_16 hY2 g4 (by omega) (all_sub g4.1.1 g4.1.2)) (fun r m5 hq => ?_)
        obtain ⟨rfl, hY5, hF5⟩ := hq
        have hl := lay_in g4 (by omega) g5
        rw [lc_nn (show 0 ≤ lays _ (alln _) from hl.1)]
        show Ex _ _ _ _ _ _ _ _ [zi (ldn s.1 k j)] _
        have hl : 0 ≤ ldn s.1 k j ∧ ldn s.1 k j < nts j (ux s.1 0 6 k) 0 0 := hl
        have e1 : ((k : Int) * 8 + (j : Int)).toNat = 8 * k + j := by omega
        refine x_istore3 dX3_layRow_43 (by decide) rfl ?_
        refine x_aload0 dX3_layRow_44 ?_
        refine x_getR (q := 57) dX3_layRow_45 fd_X3_40 rfl rfl rfl ?_
        refine x_iload1 dX3_layRow_48 ?_
        refine x_bipush dX3_layRow_49 ⟨by decide, by decide⟩ ?_
        refine x_imul dX3_layRow_51 (nrm_id (by omega) (by omega)) ?_
        refine x_iload2 dX3_layRow_52 ?_
        refine x_iadd dX3_layRow_53 (nrm_id (by omega) (by omega)) ?_
        refine x_iload3 dX3_layRow_54 ?_
        refine x_iast dX3_layRow_55 rfl (by omega) (by omega) ?_
        refine x_aload0 dX3_layRow_56 ?_
        refine x_getR (q := 16) dX3_layRow_57 fd_X3_19 rfl rfl rfl ?_
        refine x_iload3 dX3_layRow_60 ?_
        rw [e1]
        have hY6 := hY5.fr (m' := up m5 57 (8 * k + j) (ldn s.1 k j)) (lo := 57) (hi := 58) (Fr.rf.up (by omega) (by omega)) (by omega)
        refine x_callv1 dX3_layRow_61 cv_X3_124 ci_X2_passNight (by first | rfl | exact yb_k (by assumption)) (T := TX2) rfl (by decide) (Nat.le_of_ble_eq_true rfl) (s_passNight yb_16 hY6 g4 (by omega) hl) (fun r m6 hq => ?_)
        obtain ⟨rfl, hY7, hF7⟩ := hq
        have e57 : m6 57 = up m5 57 (8 * k + j) (ldn s.1 k j) 57 := hF7 57 (by omega)
        have e58 : m5 57 = m4 57 := hF5 57 (by omega)
        show Ex _ _ _ _ _ _ _ _ [] _
        refine x_iinc2 dX3_layRow_64 (by decide) rfl (nrm_id (by omega) (by omega)) ?_
        refine x_goto (tgt := 23) dX3_layRow_67 rfl ?_
        refine Ex.eq (by rw [show (j : Int) + 1 = ((j + 1 : Nat) : Int) by omega]) rfl rfl (ih (j + 1) m6 _ (by omega) hY7 (((hF2.tr (FL.of (hF5.wd (by omega) (by omega)))).up).tr (FL.of hF7)) (fun i hi => ?_) (fun i hi => ?_))
        · rw [e57]
          by_cases hij : i = j
          · subst hij
            exact up_same _ _ _ _
          · rw [upn (by omega), e58]
            exact hL i (by omega)
        · rw [e57, upn (by omega), e58]
          exact hO i hi
  have e57 : m1 57 = m 57 := hF1 57 (by omega)
  refine loop 8 0 _ none rfl hYk ((FL.of (hF1.wd (by omega) (by omega))).tr (FL.of (Fr.rf.up (by omega) (by omega)))) (fun i hi => by omega) (fun i hi => ?_)
  rw [up_cell (by decide), e57]
theorem s_firstUntrue (hC : CP m s) (hI : Is s) {k : Nat} (hk : k ≤ 5) (hL : LR m s.1 k) : Mt E 1 yX3_firstUntrue cX3_firstUntrue 3 (some .int) [zr 55, zi k] m (ans (some (zi (fut s k))) m) := by
  have hR := hC.2
  have ht := hI.2.2.2.1
  refine Mt.of 1 (by decide +kernel) (Nat.le_of_ble_eq_true rfl) (Or.inl rfl) ?_ ?_
  · rintro r m' ⟨rfl, rfl⟩; simp
  show Ex E cX3_firstUntrue 3 RX3 1 _ 0 [some (zr 55), some (zi k), none] [] m
  have loop : ∀ (q j : Nat), (j : Int) + q = s.2.2 0 1 → fun_ s.2.2 s.1 k q j = fut s k → Ex E cX3_firstUntrue 3 RX3 1 (ans (some (zi (fut s k))) m) 2 [some (zr 55), some (zi k), some (zi j)] [] m := by
    intro q
    induction q with
    | zero =>
      intro j hj he
      refine x_iload2 dX3_firstUntrue_2 ?_
      refine x_aload0 dX3_firstUntrue_3 ?_
      refine x_getI dX3_firstUntrue_4 fd_X3_156 rfl (Or.inl rfl) (v := s.2.2 0 1) hR.2.2.1 ?_
      refine x_icmp_ge (tgt := 38) dX3_firstUntrue_7 rfl (fun h3 => ?_) (fun h3 => ?_)
      · refine x_bipush dX3_firstUntrue_38 ⟨by decide, by decide⟩ ?_
        exact xe_i dX3_firstUntrue_40 (⟨by rw [← he]; rfl, rfl⟩)
      · omega
    | succ q ih =>
      intro j hj he
      refine x_iload2 dX3_firstUntrue_2 ?_
      refine x_aload0 dX3_firstUntrue_3 ?_
      refine x_getI dX3_firstUntrue_4 fd_X3_156 rfl (Or.inl rfl) (v := s.2.2 0 1) hR.2.2.1 ?_
      refine x_icmp_ge (tgt := 38) dX3_firstUntrue_7 rfl (fun h3 => ?_) (fun h3 => ?_)
      · omega
      · refine x_aload0 dX3_firstUntrue_10 ?_
        refine x_getR (q := 56) dX3_firstUntrue_11 fd_X3_36 rfl rfl rfl ?_
        refine x_iload2 dX3_firstUntrue_14 ?_
        refine x_iald dX3_firstUntrue_15 rfl (by omega) (by omega) (v := s.2.2 2 j) (hR.2.2.2.2.1 j (by omega) (by omega)) ?_
        refine x_aload0 dX3_firstUntrue_16 ?_
        refine x_getR (q := 57) dX3_firstUntrue_17 fd_X3_40 rfl rfl rfl ?_
        refine x_iload1 dX3_firstUntrue_20 ?_
        refine x_bipush dX3_firstUntrue_21 ⟨by decide, by decide⟩ ?_
        refine x_imul dX3_firstUntrue_23 (nrm_id (by omega) (by omega)) ?_
        refine x_iload2 dX3_firstUntrue_24 ?_
        refine x_iadd dX3_firstUntrue_25 (nrm_id (by omega) (by omega)) ?_
        refine x_iald dX3_firstUntrue_26 rfl (by omega) (by omega) (v := ldn s.1 k j) (by rw [show ((k : Int) * 8 + (j : Int)).toNat = 8 * k + j by omega]; exact hL j (by omega)) ?_
        refine x_icmp_eq (tgt := 32) dX3_firstUntrue_27 rfl (fun h4 => ?_) (fun h4 => ?_)
        · refine x_iinc2 dX3_firstUntrue_32 (by decide) rfl (nrm_id (by omega) (by omega)) ?_
          refine x_goto (tgt := 2) dX3_firstUntrue_35 rfl ?_
          refine Ex.eq (by rw [show (j : Int) + 1 = ((j + 1 : Nat) : Int) by omega]) rfl rfl (ih (j + 1) (by omega) ?_)
          rw [← he, fun_, if_pos h4]
        · refine x_iload2 dX3_firstUntrue_30 ?_
          exact xe_i dX3_firstUntrue_31 (⟨by rw [← he, fun_, if_neg h4], rfl⟩)
  refine x_iconst dX3_firstUntrue_0 ⟨by decide, by decide⟩ ?_
  refine x_istore2 dX3_firstUntrue_1 (by decide) rfl ?_
  exact loop (s.2.2 0 1).toNat 0 (by omega) rfl
theorem s_nightsUntilUnlike (hC : CP m s) {a c : Nat} (ha : a ≤ 5) (hc : c ≤ 5) (hL : LR m s.1 a) (hL2 : LR m s.1 c) : Mt E 1 yX3_nightsUntilUnlike cX3_nightsUntilUnlike 4 (some .int) [zr 55, zi a, zi c] m (ans (some (zi (nun s.1 a c 8 0))) m) := by
  refine Mt.of 1 (by decide +kernel) (Nat.le_of_ble_eq_true rfl) (Or.inl rfl) ?_ ?_
  · rintro r m' ⟨rfl, rfl⟩; simp
  show Ex E cX3_nightsUntilUnlike 4 RX3 1 _ 0 [some (zr 55), some (zi a), some (zi c), none] [] m
  have loop : ∀ (q j : Nat), j + q = 8 → nun s.1 a c q j = nun s.1 a c 8 0 → Ex E cX3_nightsUntilUnlike 4 RX3 1 (ans (some (zi (nun s.1 a c 8 0))) m) 2 [some (zr 55), some (zi a), some (zi c), some (zi j)] [] m := by
    intro q
    induction q with
    | zero =>
      intro j hj he
      refine x_iload3 dX3_nightsUntilUnlike_2 ?_
      refine x_bipush dX3_nightsUntilUnlike_3 ⟨by decide, by decide⟩ ?_
      refine x_icmp_ge (tgt := 43) dX3_nightsUntilUnlike_5 rfl (fun h3 => ?_) (fun h3 => ?_)
      · refine x_iconst dX3_nightsUntilUnlike_43 ⟨by decide, by decide⟩ ?_
        exact xe_i dX3_nightsUntilUnlike_44 (⟨by rw [← he]; rfl, rfl⟩)
      · omega
    | succ q ih =>
      intro j hj he
      refine x_iload3 dX3_nightsUntilUnlike_2 ?_
      refine x_bipush dX3_nightsUntilUnlike_3 ⟨by decide, by decide⟩ ?_
      refine x_icmp_ge (tgt := 43) dX3_nightsUntilUnlike_5 rfl (fun h3 => ?_) (fun h3 => ?_)
      · omega
      · refine x_aload0 dX3_nightsUntilUnlike_8 ?_
        refine x_getR (q := 57) dX3_nightsUntilUnlike_9 fd_X3_40 rfl rfl rfl ?_
        refine x_iload1 dX3_nightsUntilUnlike_12 ?_
        refine x_bipush dX3_nightsUntilUnlike_13 ⟨by decide, by decide⟩ ?_
        refine x_imul dX3_nightsUntilUnlike_15 (nrm_id (by omega) (by omega)) ?_
        refine x_iload3 dX3_nightsUntilUnlike_16 ?_
        refine x_iadd dX3_nightsUntilUnlike_17 (nrm_id (by omega) (by omega)) ?_
        refine x_iald dX3_nightsUntilUnlike_18 rfl (by omega) (by omega) (v := ldn s.1 a j) (by rw [show ((a : Int) * 8 + (j : Int)).toNat = 8 * a + j by omega]; exact hL j (by omega)) ?_
        refine x_aload0 dX3_nightsUntilUnlike_19 ?_
        refine x_getR (q := 57) dX3_nightsUntilUnlike_20 fd_X3_40 rfl rfl rfl ?_
        refine x_iload2 dX3_nightsUntilUnlike_23 ?_
        refine x_bipush dX3_nightsUntilUnlike_24 ⟨by decide, by decide⟩ ?_
        refine x_imul dX3_nightsUntilUnlike_26 (nrm_id (by omega) (by omega)) ?_
        refine x_iload3 dX3_nightsUntilUnlike_27 ?_
        refine x_iadd dX3_nightsUntilUnlike_28 (nrm_id (by omega) (by omega)) ?_
        refine x_iald dX3_nightsUntilUnlike_29 rfl (by omega) (by omega) (v := ldn s.1 c j) (by rw [show ((c : Int) * 8 + (j : Int)).toNat = 8 * c + j by omega]; exact hL2 j (by omega)) ?_
        refine x_icmp_eq (tgt := 37) dX3_nightsUntilUnlike_30 rfl (fun h4 => ?_) (fun h4 => ?_)
        · refine x_iinc3 dX3_nightsUntilUnlike_37 (by decide) rfl (nrm_id (by omega) (by omega)) ?_
          refine x_goto (tgt := 2) dX3_nightsUntilUnlike_40 rfl ?_
          refine Ex.eq (by rw [show (j : Int) + 1 = ((j + 1 : Nat) : Int) by omega]) rfl rfl (ih (j + 1) (by omega) ?_)
          rw [← he, nun, if_pos h4]
        · refine x_iload3 dX3_nightsUntilUnlike_33 ?_
          refine x_iconst dX3_nightsUntilUnlike_34 ⟨by decide, by decide⟩ ?_
          refine x_iadd dX3_nightsUntilUnlike_35 (nrm_id (by omega) (by omega)) ?_
          exact xe_i dX3_nightsUntilUnlike_36 (⟨by rw [← he, nun, if_neg h4], rfl⟩)
  refine x_iconst dX3_nightsUntilUnlike_0 ⟨by decide, by decide⟩ ?_
  refine x_istore3 dX3_nightsUntilUnlike_1 (by decide) rfl ?_
  exact loop 8 0 rfl rfl
theorem s_ways (hC : CP m s) (hI : Is s) : Mt E 6 yX3_ways cX3_ways 3 (some .int) [zr 55] m (CQ m (o_ways s)) := by
  have hY := hC.1.1
  refine Mt.of 2 (by decide +kernel) (Nat.le_of_ble_eq_true rfl) (Or.inl rfl) ?_ ?_
  · exact CQ.rt
  show Ex E cX3_ways 3 RX3 6 _ 0 [some (zr 55), none, none] [] m
  refine x_aload0 dX3_ways_0 ?_
  refine x_getR (q := 0) dX3_ways_1 fd_X3_10 rfl rfl rfl ?_
  refine x_getI dX3_ways_4 fd_X3_112 rfl (Or.inl rfl) (v := s.1 0 0) hY.nests ?_
  refine x_if_ne (tgt := 17) dX3_ways_7 rfl (fun h1 => ?_) (fun h1 => ?_)
  · refine x_iconst dX3_ways_17 ⟨by decide, by decide⟩ ?_
    refine x_istore1 dX3_ways_18 (by decide) rfl ?_
    refine x_iconst dX3_ways_19 ⟨by decide, by decide⟩ ?_
    refine x_istore2 dX3_ways_20 (by decide) rfl ?_
    have loop : ∀ (q j : Nat) (m2 : zz_M), j + q = 6 → CP m2 s → Fr 0 59 m m2 → Ex E cX3_ways 3 RX3 6 (CQ m (o_ways s)) 21 [some (zr 55), some (zi (wys s j)), some (zi j)] [] m2 := by
      intro q
      induction q with
      | zero =>
        intro j m2 hj hC2 hF2
        refine x_iload2 dX3_ways_21 ?_
        refine x_bipush dX3_ways_22 ⟨by decide, by decide⟩ ?_
        refine x_icmp_ge (tgt := 54) dX3_ways_24 rfl (fun h3 => ?_) (fun h3 => ?_)
        · obtain rfl : j = 6 := by omega
          refine x_iload1 dX3_ways_54 ?_
          exact xe_i dX3_ways_55 (by rw [o_ways, if_neg h1]; exact ⟨rfl, hC2, hF2⟩)
        · omega
      | succ q ih =>
        intro j m2 hj hC2 hF2
        refine x_iload2 dX3_ways_21 ?_
        refine x_bipush dX3_ways_22 ⟨by decide, by decide⟩ ?_
        refine x_icmp_ge (tgt := 54) dX3_ways_24 rfl (fun h3 => ?_) (fun h3 => ?_)
        · omega
        · refine x_aload0 dX3_ways_27 ?_
          refine x_iload2 dX3_ways_28 ?_
          refine x_callv1 dX3_ways_29 cv_X3_159 ci_X3_layRow rfl (T := TX3) rfl (by decide) (Nat.le_of_ble_eq_true rfl) (s_layRow hC2 hI h1 (k := j) (by omega)) (fun r m3 hq => ?_)
          obtain ⟨rfl, hC3, hL3, -, hF3⟩ := hq
          show Ex _ _ _ _ _ _ _ _ [] _
          refine x_aload0 dX3_ways_32 ?_
          refine x_iload2 dX3_ways_33 ?_
          refine x_callv1 dX3_ways_34 cv_X3_162 ci_X3_firstUntrue rfl (T := TX3) rfl (by decide) (Nat.le_of_ble_eq_true rfl) (s_firstUntrue hC3 hI (k := j) (by omega) hL3) (fun r m4 hq => ?_)
          obtain ⟨rfl, rfl⟩ := hq
          show Ex _ _ _ _ _ _ _ _ [zi (fut s j)] _
          refine x_bipush dX3_ways_37 ⟨by decide, by decide⟩ ?_
          refine x_icmp_ne (tgt := 48) dX3_ways_39 rfl (fun h4 => ?_) (fun h4 => ?_)
          · refine x_iinc2 dX3_ways_48 (by decide) rfl (nrm_id (by omega) (by omega)) ?_
            refine x_goto (tgt := 21) dX3_ways_51 rfl ?_
            exact Ex.eq (by rw [show (j : Int) + 1 = ((j + 1 : Nat) : Int) by omega, wys, if_neg h4]) rfl rfl (ih (j + 1) m4 (by omega) hC3 (hF2.tr hF3.fr))
          · refine x_iload1 dX3_ways_42 ?_
            refine x_iconst dX3_ways_43 ⟨by decide, by decide⟩ ?_
            refine x_iload2 dX3_ways_44 ?_
            refine x_ishl dX3_ways_45 rfl ?_
            refine x_ior dX3_ways_46 rfl ?_
            refine x_istore1 dX3_ways_47 (by decide) rfl ?_
            refine x_iinc2 dX3_ways_48 (by decide) rfl (nrm_id (by omega) (by omega)) ?_
            refine x_goto (tgt := 21) dX3_ways_51 rfl ?_
            exact Ex.eq (by rw [show (j : Int) + 1 = ((j + 1 : Nat) : Int) by omega, wys, if_pos h4]) rfl rfl (ih (j + 1) m4 (by omega) hC3 (hF2.tr hF3.fr))
    exact loop 6 0 m rfl hC Fr.rf
  · refine x_aload0 dX3_ways_10 ?_
    refine x_bipush dX3_ways_11 ⟨by decide, by decide⟩ ?_
    refine x_callv1 dX3_ways_13 cv_X3_46 ci_X3_refuse rfl (T := TX3) rfl (by decide) (Nat.le_of_ble_eq_true rfl) (s_refuse hC (k := 3) (by decide) (by decide) (by decide)) (fun r m1 hq => ?_)
    obtain ⟨rfl, hC1, hF1⟩ := hq
    exact xe_i dX3_ways_16 (by rw [o_ways, if_pos h1]; exact ⟨rfl, hC1, hF1⟩)
theorem s_soon (hC : CP m s) (hI : Is s) : Mt E 6 yX3_soon cX3_soon 4 (some .int) [zr 55] m (CQ m (o_soon s)) := by
  have hY := hC.1.1
  refine Mt.of 3 (by decide +kernel) (Nat.le_of_ble_eq_true rfl) (Or.inl rfl) ?_ ?_
  · exact CQ.rt
  show Ex E cX3_soon 4 RX3 6 _ 0 [some (zr 55), none, none, none] [] m
  refine x_aload0 dX3_soon_0 ?_
  refine x_getR (q := 0) dX3_soon_1 fd_X3_10 rfl rfl rfl ?_
  refine x_getI dX3_soon_4 fd_X3_112 rfl (Or.inl rfl) (v := s.1 0 0) hY.nests ?_
  refine x_if_ne (tgt := 17) dX3_soon_7 rfl (fun h1 => ?_) (fun h1 => ?_)
  · refine x_iconst dX3_soon_17 ⟨by decide, by decide⟩ ?_
    refine x_istore1 dX3_soon_18 (by decide) rfl ?_
    refine x_iconst dX3_soon_19 ⟨by decide, by decide⟩ ?_
    refine x_istore2 dX3_soon_20 (by decide) rfl ?_
    have loop : ∀ (q j : Nat) (m2 : zz_M) (o : Option zz_V), j + q = 6 → CP m2 s → (∀ k, k < j → LR m2 s.1 k) → Fr 0 59 m m2 → Ex E cX3_soon 4 RX3 6 (CQ m (o_soon s)) 21 [some (zr 55), some (zi (so1 s.1 j)), some (zi j), o] [] m2 := by
      intro q
      induction q with
      | zero =>
        intro j m2 o hj hC2 hL2 hF2
        refine Ex.wk (L' := [some (zr 55), some (zi (so1 s.1 j)), some (zi j), none]) ⟨rfl, rfl, rfl, trivial⟩ ?_
        refine x_iload2 dX3_soon_21 ?_
        refine x_bipush dX3_soon_22 ⟨by decide, by decide⟩ ?_
        refine x_icmp_ge (tgt := 62) dX3_soon_24 rfl (fun h3 => ?_) (fun h3 => ?_)
        · obtain rfl : j = 6 := by omega
          refine x_iload1 dX3_soon_62 ?_
          exact xe_i dX3_soon_63 (by rw [o_soon, if_neg h1]; exact ⟨rfl, hC2, hF2⟩)
        · omega
      | succ q ih =>
        intro j m2 o hj hC2 hL2 hF2
        refine Ex.wk (L' := [some (zr 55), some (zi (so1 s.1 j)), some (zi j), none]) ⟨rfl, rfl, rfl, trivial⟩ ?_
        refine x_iload2 dX3_soon_21 ?_
        refine x_bipush dX3_soon_22 ⟨by decide, by decide⟩ ?_
        refine x_icmp_ge (tgt := 62) dX3_soon_24 rfl (fun h3 => ?_) (fun h3 => ?_)
        · omega
        · refine x_aload0 dX3_soon_27 ?_
          refine x_iload2 dX3_soon_28 ?_
          refine x_callv1 dX3_soon_29 cv_X3_159 ci_X3_layRow rfl (T := TX3) rfl (by decide) (Nat.le_of_ble_eq_true rfl) (s_layRow hC2 hI h1 (k := j) (by omega)) (fun r m3 hq => ?_)
          obtain ⟨rfl, hC3, hL3, hO3, hF3⟩ := hq
          show Ex _ _ _ _ _ _ _ _ [] _
          have hLa : ∀ k, k < j + 1 → LR m3 s.1 k := by
            intro k hk
            by_cases hkj : k = j
            · subst hkj; exact hL3
            · intro i hi
              rw [hO3 _ (by omega)]
              exact hL2 k (by omega) i hi
          refine x_iconst dX3_soon_32 ⟨by decide, by decide⟩ ?_
          refine x_istore3 dX3_soon_33 (by decide) rfl ?_
          have inner : ∀ (p i : Nat), i + p = j → Ex E cX3_soon 4 RX3 6 (CQ m (o_soon s)) 34 [some (zr 55), some (zi (so2 s.1 j (so1 s.1 j) i)), some (zi j), some (zi i)] [] m3 := by
            intro p
            induction p with
            | zero =>
              intro i hi
              refine x_iload3 dX3_soon_34 ?_
              refine x_iload2 dX3_soon_35 ?_
              refine x_icmp_ge (tgt := 56) dX3_soon_36 rfl (fun h4 => ?_) (fun h4 => ?_)
              · refine x_iinc2 dX3_soon_56 (by decide) rfl (nrm_id (by omega) (by omega)) ?_
                refine x_goto (tgt := 21) dX3_soon_59 rfl ?_
                obtain rfl : i = j := by omega
                exact Ex.eq (by rw [show (i : Int) + 1 = ((i + 1 : Nat) : Int) by omega, so1]) rfl rfl (ih (i + 1) m3 _ (by omega) hC3 hLa (hF2.tr hF3.fr))
              · omega
            | succ p ihp =>
              intro i hi
              refine x_iload3 dX3_soon_34 ?_
              refine x_iload2 dX3_soon_35 ?_
              refine x_icmp_ge (tgt := 56) dX3_soon_36 rfl (fun h4 => ?_) (fun h4 => ?_)
              · omega
              · refine x_iload1 dX3_soon_39 ?_
                refine x_aload0 dX3_soon_40 ?_
                refine x_iload2 dX3_soon_41 ?_
                refine x_iload3 dX3_soon_42 ?_
                refine x_callv2 dX3_soon_43 cv_X3_165 ci_X3_nightsUntilUnlike rfl (T := TX3) rfl (by decide) (Nat.le_of_ble_eq_true rfl) (s_nightsUntilUnlike hC3 (a := j) (c := i) (by omega) (by omega) hL3 (hLa i (by omega))) (fun r m4 hq => ?_)
                obtain ⟨rfl, rfl⟩ := hq
                show Ex _ _ _ _ _ _ _ _ [zi (nun s.1 j i 8 0), zi (so2 s.1 j (so1 s.1 j) i)] _
                refine x_max dX3_soon_46 mx_X3_168 (by decide) (Nat.le_of_ble_eq_true rfl) rfl ?_
                refine x_istore1 dX3_soon_49 (by decide) rfl ?_
                refine x_iinc3 dX3_soon_50 (by decide) rfl (nrm_id (by omega) (by omega)) ?_
                refine x_goto (tgt := 34) dX3_soon_53 rfl ?_
                exact Ex.eq (by rw [show (i : Int) + 1 = ((i + 1 : Nat) : Int) by omega]; rfl) rfl rfl (ihp (i + 1) (by omega))
          exact inner j 0 (by omega)
    exact loop 6 0 m none rfl hC (fun k hk => by omega) Fr.rf
  · refine x_aload0 dX3_soon_10 ?_
    refine x_bipush dX3_soon_11 ⟨by decide, by decide⟩ ?_
    refine x_callv1 dX3_soon_13 cv_X3_46 ci_X3_refuse rfl (T := TX3) rfl (by decide) (Nat.le_of_ble_eq_true rfl) (s_refuse hC (k := 3) (by decide) (by decide) (by decide)) (fun r m1 hq => ?_)
    obtain ⟨rfl, hC1, hF1⟩ := hq
    exact xe_i dX3_soon_16 (by rw [o_soon, if_pos h1]; exact ⟨rfl, hC1, hF1⟩)
theorem s_judge (hC : CP m s) (hI : Is s) : Mt E 6 yX3_judge cX3_judge 3 (some .int) [zr 55] m (CQ m (o_judge s)) := by
  have hV := hI.1
  have hY := hC.1.1
  have hk := hV.2.2.2.2.1
  refine Mt.of 2 (by decide +kernel) (Nat.le_of_ble_eq_true rfl) (Or.inl rfl) ?_ ?_
  · exact CQ.rt
  show Ex E cX3_judge 3 RX3 6 _ 0 [some (zr 55), none, none] [] m
  refine x_aload0 dX3_judge_0 ?_
  refine x_getR (q := 0) dX3_judge_1 fd_X3_10 rfl rfl rfl ?_
  refine x_getI dX3_judge_4 fd_X3_112 rfl (Or.inl rfl) (v := s.1 0 0) hY.nests ?_
  refine x_if_ne (tgt := 17) dX3_judge_7 rfl (fun h1 => ?_) (fun h1 => ?_)
  · have ek : s.1 0 6 = ((s.1 0 6).toNat : Int) := by omega
    refine x_aload0 dX3_judge_17 ?_
    refine x_getR (q := 0) dX3_judge_18 fd_X3_10 rfl rfl rfl ?_
    refine x_getR (q := 6) dX3_judge_21 fd_X3_99 rfl rfl rfl ?_
    refine x_iconst dX3_judge_24 ⟨by decide, by decide⟩ ?_
    refine x_iald dX3_judge_25 rfl (by omega) (by omega) (v := ((s.1 0 6).toNat : Int)) (hY.kind.trans ek) ?_
    refine x_istore1 dX3_judge_26 (by decide) rfl ?_
    refine x_aload0 dX3_judge_27 ?_
    refine x_iload1 dX3_judge_28 ?_
    refine x_callv1 dX3_judge_29 cv_X3_159 ci_X3_layRow rfl (T := TX3) rfl (by decide) (Nat.le_of_ble_eq_true rfl) (s_layRow hC hI h1 (k := (s.1 0 6).toNat) (by omega)) (fun r m3 hq => ?_)
    obtain ⟨rfl, hC3, hL3, -, hF3⟩ := hq
    show Ex _ _ _ _ _ _ _ _ [] _
    refine x_aload0 dX3_judge_32 ?_
    refine x_iload1 dX3_judge_33 ?_
    refine x_callv1 dX3_judge_34 cv_X3_162 ci_X3_firstUntrue rfl (T := TX3) rfl (by decide) (Nat.le_of_ble_eq_true rfl) (s_firstUntrue hC3 hI (k := (s.1 0 6).toNat) (by omega) hL3) (fun r m4 hq => ?_)
    obtain ⟨rfl, rfl⟩ := hq
    rw [← ek]
    show Ex _ _ _ _ _ _ _ _ [zi (fut s (s.1 0 6))] _
    refine x_istore2 dX3_judge_37 (by decide) rfl ?_
    refine x_aload0 dX3_judge_38 ?_
    refine x_iconst dX3_judge_39 ⟨by decide, by decide⟩ ?_
    refine x_putI dX3_judge_40 fd_X3_156 rfl rfl ?_
    refine x_iload2 dX3_judge_43 ?_
    refine xe_i dX3_judge_44 ?_
    rw [o_judge, if_neg h1]
    exact ⟨rfl, hC3.rest (lo := 55) (hi := 56) (Fr.rf.up (by omega) (by omega)) (by omega) hC3.2.row0, hF3.fr.up (by omega) (by omega)⟩
  · refine x_aload0 dX3_judge_10 ?_
    refine x_bipush dX3_judge_11 ⟨by decide, by decide⟩ ?_
    refine x_callv1 dX3_judge_13 cv_X3_46 ci_X3_refuse rfl (T := TX3) rfl (by decide) (Nat.le_of_ble_eq_true rfl) (s_refuse hC (k := 3) (by decide) (by decide) (by decide)) (fun r m1 hq => ?_)
    obtain ⟨rfl, hC1, hF1⟩ := hq
    exact xe_i dX3_judge_16 (by rw [o_judge, if_pos h1]; exact ⟨rfl, hC1, hF1⟩)
end MC6
