section YM4
variable {E : zz_E} {m : zz_M} {b : Nat} {V : zz_W} {D : Int}
theorem may_f : ∀ (p l : Fin 64), (0 ≤ ian (p.val : Int) (ixr (l.val : Int) (-1)) ∧ ian (p.val : Int) (ixr (l.val : Int) (-1)) < 64) ∧ ∀ i : Fin 6, bt (p.val : Int) (i.val : Int) = 0 → bt (ian (p.val : Int) (ixr (l.val : Int) (-1))) (i.val : Int) = 0 := by decide +kernel
theorem nat_of {y : Int} (h : 0 ≤ y) : ((y.toNat : Nat) : Int) = y := by omega
theorem may_sub {n p : Int} (hn : 0 ≤ n) (hl : 0 ≤ V 0 2 ∧ V 0 2 < 64) (hp : sub6 n p) : sub6 n (may V p) := by
  unfold may
  split
  · exact hp
  · have h := may_f ⟨p.toNat, by have := hp.1; have := hp.2.1; omega⟩ ⟨(V 0 2).toNat, by omega⟩
    simp only [nat_of hp.1, nat_of hl.1] at h
    refine ⟨h.1.1, h.1.2, fun i h0 h1 => ?_⟩
    have h2 := h.2 ⟨i.toNat, by omega⟩
    simp only [nat_of (show 0 ≤ i by omega)] at h2
    exact h2 (hp.2.2 i h0 h1)
theorem WP.cg {m : zz_M} {f g : Int → Int} {n : Int} (h : WP m b f n) (e : ∀ z, 0 ≤ z → z < n → f z = g z) : WP m b g n := fun z h0 h1 => (h z h0 h1).trans (e z h0 h1)
def wf (V : zz_W) (y : Int) (n : Int) : Int := if bt y n = 1 then raw V n else 0
theorem wf_bd (hI : Iv D V) (y : Int) {n : Int} (h0 : 0 ≤ n) (h1 : n < 6) : 0 ≤ wf V y n ∧ wf V y n ≤ 101 := by
  have := raw_bd hI h0 h1
  unfold wf
  split <;> omega
theorem wsum_eq (y : Int) : wsum V y = smI (wf V y) (V 0 0).toNat := rfl
theorem s_weigh (hb : YB b) (hY : YP m b V) (hI : Iv D V) {y : Int} (hy : sub6 (V 0 0) y) : Mt E 3 yX2_weigh cX2_weigh 4 (some .int) [zr b, zi y] m (fun r m' => r = some (zi (wtot V y)) ∧ WP m' b (wt V y) (V 0 0) ∧ YP m' b V ∧ Fr (b + 7) (b + 8) m m') := by
  have hI2 := hI
  obtain ⟨hn, hl, hk0, hd, hk, hfg, ht, hr, hx, he, hz⟩ := hI
  refine Mt.of 2 (by decide +kernel) (Nat.le_of_ble_eq_true rfl) (Or.inl rfl) ?_ ?_
  · rintro r m' ⟨rfl, -⟩; simp
  show Ex E cX2_weigh 4 RX2 3 _ 0 [some (zr b), some (zi y), none, none] [] m
  have loop : ∀ (k j : Nat) (m1 : zz_M), (j : Int) + k = V 0 0 → WP m1 b (wf V y) j → YP m1 b V → Fr (b + 7) (b + 8) m m1 → Ex E cX2_weigh 4 RX2 3 (fun r m' => r = some (zi (wtot V y)) ∧ WP m' b (wt V y) (V 0 0) ∧ YP m' b V ∧ Fr (b + 7) (b + 8) m m') 4 [some (zr b), some (zi y), some (zi (smI (wf V y) j)), some (zi j)] [] m1 := by
    intro k
    induction k with
    | zero =>
      intro j m1 hj hW hY hF
      have hj2 : (V 0 0).toNat = j := by omega
      have hws : wsum V y = smI (wf V y) j := by rw [wsum_eq, hj2]
      refine x_iload3 dX2_weigh_4 ?_
      refine x_aload0 dX2_weigh_5 ?_
      refine x_getI dX2_weigh_6 fd_X2_43 (by first | rfl | exact yb_k (by assumption)) (Or.inl rfl) (v := V 0 0) hY.nests ?_
      refine x_icmp_ge (tgt := 51) dX2_weigh_9 rfl (fun hc => ?_) (fun hc => ?_)
      · refine x_iload2 dX2_weigh_51 ?_
        have hb0 := smI_bd (f := wf V y) (c := 101) j (fun i h0 h1 => wf_bd hI2 y h0 (by omega))
        refine x_if_le (tgt := 59) dX2_weigh_52 rfl (fun hc2 => ?_) (fun hc2 => ?_)
        · refine x_aload0 dX2_weigh_59 ?_
          refine x_iload1 dX2_weigh_60 ?_
          refine x_callv1 dX2_weigh_61 cv_X2_81 ci_X2_weighAlike (by first | rfl | exact yb_k (by assumption)) (T := TX2) rfl (by decide) (Nat.le_of_ble_eq_true rfl) (s_weighAlike hb hY hn hy) (fun r m2 hq => ?_)
          obtain ⟨rfl, hW2, hY2, hF2⟩ := hq
          exact xe_i dX2_weigh_64 (⟨by rw [wtot, if_pos (by omega)], hW2.cg (fun z _ _ => by rw [wt, if_pos (by omega)]), hY2, hF.tr hF2⟩)
        · refine x_iload2 dX2_weigh_55 ?_
          refine x_goto (tgt := 64) dX2_weigh_56 rfl ?_
          exact xe_i dX2_weigh_64 (⟨by rw [wtot, if_neg (by omega), hws], by rw [show V 0 0 = (j : Int) by omega]; exact hW.cg (fun z _ _ => by rw [wt, if_neg (by omega)]; rfl), hY, hF⟩)
      · omega
    | succ k ih =>
      intro j m1 hj hW hY hF
      have hb1 := smI_bd (f := wf V y) (c := 101) j (fun i h0 h1 => wf_bd hI2 y h0 (by omega))
      have hb2 := wf_bd hI2 y (n := j) (by omega) (by omega)
      have rest : ∀ (m2 : zz_M) (x : Int), x = wf V y j → WP m2 b (wf V y) j → YP m2 b V → Fr (b + 7) (b + 8) m m2 → Ex E cX2_weigh 4 RX2 3 (fun r m' => r = some (zi (wtot V y)) ∧ WP m' b (wt V y) (V 0 0) ∧ YP m' b V ∧ Fr (b + 7) (b + 8) m m') 35 [some (zr b), some (zi y), some (zi (smI (wf V y) j)), some (zi j)] [zi x, zi j, zr (b + 7)] m2 := by
        intro m2 x hx hW hY hF
        have hW3 := hW.put (by omega) hx
        have e1 : up m2 (b + 7) (j : Int).toNat x (b + 7) (j : Int).toNat = wf V y j := by rw [up_same, hx]
        refine x_iast dX2_weigh_35 (yb_a6 (by assumption)) (by omega) (by omega) ?_
        refine x_iload2 dX2_weigh_36 ?_
        refine x_aload0 dX2_weigh_37 ?_
        refine x_getR (q := b + 7) dX2_weigh_38 fd_X2_30 (by first | rfl | exact yb_k (by assumption)) rfl (yb_p6 (by assumption)) ?_
        refine x_iload3 dX2_weigh_41 ?_
        refine x_iald dX2_weigh_42 (yb_a6 (by assumption)) (by omega) (by omega) (v := wf V y j) e1 ?_
        refine x_iadd dX2_weigh_43 (nrm_id (by omega) (by omega)) ?_
        refine x_istore2 dX2_weigh_44 (by decide) rfl ?_
        refine x_iinc3 dX2_weigh_45 (by decide) rfl (nrm_id (by omega) (by omega)) ?_
        refine x_goto (tgt := 4) dX2_weigh_48 rfl ?_
        refine Ex.eq ?_ rfl rfl (ih (j + 1) _ (by omega) (by push_cast; exact hW3) hY.w (hF.up (by omega) (by omega)))
        simp only [List.cons.injEq, Option.some.injEq, Sum.inl.injEq, and_true, true_and, smI_succ]
        push_cast
        omega
      refine x_iload3 dX2_weigh_4 ?_
      refine x_aload0 dX2_weigh_5 ?_
      refine x_getI dX2_weigh_6 fd_X2_43 (by first | rfl | exact yb_k (by assumption)) (Or.inl rfl) (v := V 0 0) hY.nests ?_
      refine x_icmp_ge (tgt := 51) dX2_weigh_9 rfl (fun hc => ?_) (fun hc => ?_)
      · omega
      · refine x_aload0 dX2_weigh_12 ?_
        refine x_getR (q := b + 7) dX2_weigh_13 fd_X2_30 (by first | rfl | exact yb_k (by assumption)) rfl (yb_p6 (by assumption)) ?_
        refine x_iload3 dX2_weigh_16 ?_
        refine x_iload1 dX2_weigh_17 ?_
        refine x_iload3 dX2_weigh_18 ?_
        refine x_ishr dX2_weigh_19 rfl ?_
        refine x_iconst dX2_weigh_20 ⟨by decide, by decide⟩ ?_
        refine x_iand dX2_weigh_21 rfl ?_
        refine x_iconst dX2_weigh_22 ⟨by decide, by decide⟩ ?_
        refine x_icmp_ne (tgt := 34) dX2_weigh_23 rfl (fun hc2 => ?_) (fun hc2 => ?_)
        · have hc2 : bt y j ≠ 1 := hc2
          refine x_iconst dX2_weigh_34 ⟨by decide, by decide⟩ ?_
          exact rest m1 _ (by unfold wf; rw [if_neg hc2]) hW hY hF
        · refine x_aload0 dX2_weigh_26 ?_
          refine x_iload3 dX2_weigh_27 ?_
          refine x_callv1 dX2_weigh_28 cv_X2_78 ci_X2_weightOf (by first | rfl | exact yb_k (by assumption)) (T := TX2) rfl (by decide) (Nat.le_of_ble_eq_true rfl) (s_weightOf hb hY hI2 (n := j) (by omega) (by omega)) (fun r m2 hq => ?_)
          obtain ⟨rfl, rfl⟩ := hq
          show Ex _ _ _ _ _ _ _ _ [zi (raw V j), zi j, zr (b + 7)] _
          refine x_goto (tgt := 35) dX2_weigh_31 rfl ?_
          exact rest m2 _ (by unfold wf; exact (if_pos hc2).symm) hW hY hF
  refine x_iconst dX2_weigh_0 ⟨by decide, by decide⟩ ?_
  refine x_istore2 dX2_weigh_1 (by decide) rfl ?_
  refine x_iconst dX2_weigh_2 ⟨by decide, by decide⟩ ?_
  refine x_istore3 dX2_weigh_3 (by decide) rfl ?_
  exact loop (V 0 0).toNat 0 m (by omega) (fun z h0 h1 => by omega) hY Fr.rf
theorem irm_pos {a c : Int} (h0 : 0 ≤ a) (h1 : a ≤ 2147483647) (h2 : 0 < c) (h3 : c ≤ 2147483647) : irm a c = a % c := by
  unfold irm
  rw [rem_toInt, i32_of ⟨by omega, h1⟩, i32_of ⟨by omega, h3⟩, Int.tmod_eq_emod_of_nonneg h0]
theorem cnt_bd (y : Int) (n : Nat) (hy : 0 ≤ y ∧ y < 64) (hn : n ≤ 6) : 0 ≤ smI (bt y) n ∧ smI (bt y) n ≤ n := by
  have := smI_bd (f := bt y) (c := 1) n (fun i h0 h1 => by
    have := bt_01 hy.1 hy.2 h0 (show i < 6 by omega)
    omega)
  omega
theorem s_nestByLot (hb : YB b) (hY : YP m b V) (hI : Iv D V) (hD : D ≤ 20000) {y : Int} (hy : sub6 (V 0 0) y) : Mt E 2 yX2_nestByLot cX2_nestByLot 5 (some .int) [zr b, zi y] m (ans (some (zi (lc (if smI (bt y) (V 0 0).toNat = 0 then -1 else nth y (V 0 0).toNat 0 (irm (V 0 4 * (V 0 7 + 1)) (smI (bt y) (V 0 0).toNat)))))) m) := by
  obtain ⟨hn, hl, hk0, hd, hk, hfg, ht, hr, hx, he, hz⟩ := hI
  refine Mt.of 3 (by decide +kernel) (Nat.le_of_ble_eq_true rfl) (Or.inl rfl) ?_ ?_
  · rintro r m' ⟨rfl, rfl⟩; simp
  show Ex E cX2_nestByLot 5 RX2 2 _ 0 [some (zr b), some (zi y), none, none, none] [] m
  have hcb := cnt_bd y (V 0 0).toNat ⟨hy.1, hy.2.1⟩ (by omega)
  refine x_iload1 dX2_nestByLot_0 ?_
  refine x_calls1 dX2_nestByLot_1 cv_X2_84 cs_J6_bitCount_0f7a4 (by decide) (Nat.le_of_ble_eq_true rfl) (s_bitCount hy.1 hy.2.1) (fun r m1 hq => ?_)
  obtain ⟨rfl, rfl⟩ := hq
  rw [sub6_sum hn hy]
  show Ex _ _ _ _ _ _ _ _ [zi (smI (bt y) (V 0 0).toNat)] _
  refine x_istore2 dX2_nestByLot_4 (by decide) rfl ?_
  refine x_iload2 dX2_nestByLot_5 ?_
  refine x_if_ne (tgt := 12) dX2_nestByLot_6 rfl (fun hc => ?_) (fun hc => ?_)
  · have hab : 0 ≤ V 0 4 * (V 0 7 + 1) ∧ V 0 4 * (V 0 7 + 1) ≤ 200000 := by
      refine ⟨Int.mul_nonneg hd.1 (by omega), ?_⟩
      have := Int.mul_le_mul (show V 0 4 ≤ 20000 by omega) (show V 0 7 + 1 ≤ 10 by omega) (by omega) (by decide)
      omega
    refine x_aload0 dX2_nestByLot_12 ?_
    refine x_getI dX2_nestByLot_13 fd_X2_59 (by first | rfl | exact yb_k (by assumption)) (Or.inl rfl) (v := V 0 4) hY.day ?_
    refine x_aload0 dX2_nestByLot_16 ?_
    refine x_getR (q := b + 6) dX2_nestByLot_17 fd_X2_27 (by first | rfl | exact yb_k (by assumption)) rfl (yb_p5 (by assumption)) ?_
    refine x_iconst dX2_nestByLot_20 ⟨by decide, by decide⟩ ?_
    refine x_iald dX2_nestByLot_21 (yb_a5 (by assumption)) (by omega) (by omega) (v := V 0 7) hY.figure ?_
    refine x_iconst dX2_nestByLot_22 ⟨by decide, by decide⟩ ?_
    refine x_iadd dX2_nestByLot_23 (nrm_id (by omega) (by omega)) ?_
    refine x_imul dX2_nestByLot_24 (nrm_id (by omega) (by omega)) ?_
    refine x_iload2 dX2_nestByLot_25 ?_
    refine x_irem dX2_nestByLot_26 (by omega) rfl ?_
    refine x_istore3 dX2_nestByLot_27 (by decide) rfl ?_
    refine x_iconst dX2_nestByLot_28 ⟨by decide, by decide⟩ ?_
    refine x_istore4 dX2_nestByLot_29 (by decide) rfl ?_
    rw [if_neg hc]
    have hk9 : 0 ≤ irm (V 0 4 * (V 0 7 + 1)) (smI (bt y) (V 0 0).toNat) ∧ irm (V 0 4 * (V 0 7 + 1)) (smI (bt y) (V 0 0).toNat) < 6 := by
      rw [irm_pos (by omega) (by omega) (by omega) (by omega)]
      have := Int.emod_nonneg (V 0 4 * (V 0 7 + 1)) hc
      have := Int.emod_lt_of_pos (V 0 4 * (V 0 7 + 1)) (show 0 < smI (bt y) (V 0 0).toNat by omega)
      omega
    generalize irm (V 0 4 * (V 0 7 + 1)) (smI (bt y) (V 0 0).toNat) = q at hk9
    have loop : ∀ (k j : Nat) (q : Int), (j : Int) + k = V 0 0 → 0 ≤ q → q < 6 → Ex E cX2_nestByLot 5 RX2 2 (ans (some (zi (lc (nth y k j q)))) m1) 31 [some (zr b), some (zi y), some (zi (smI (bt y) (V 0 0).toNat)), some (zi q), some (zi j)] [] m1 := by
      intro k
      induction k with
      | zero =>
        intro j q hj hq0 hq1
        refine x_iload4 dX2_nestByLot_31 ?_
        refine x_aload0 dX2_nestByLot_33 ?_
        refine x_getI dX2_nestByLot_34 fd_X2_43 (by first | rfl | exact yb_k (by assumption)) (Or.inl rfl) (v := V 0 0) hY.nests ?_
        refine x_icmp_ge (tgt := 66) dX2_nestByLot_37 rfl (fun h3 => ?_) (fun h3 => ?_)
        · refine x_bipush dX2_nestByLot_66 ⟨by decide, by decide⟩ ?_
          exact xe_i dX2_nestByLot_68 (⟨rfl, rfl⟩)
        · omega
      | succ k ih =>
        intro j q hj hq0 hq1
        refine x_iload4 dX2_nestByLot_31 ?_
        refine x_aload0 dX2_nestByLot_33 ?_
        refine x_getI dX2_nestByLot_34 fd_X2_43 (by first | rfl | exact yb_k (by assumption)) (Or.inl rfl) (v := V 0 0) hY.nests ?_
        refine x_icmp_ge (tgt := 66) dX2_nestByLot_37 rfl (fun h3 => ?_) (fun h3 => ?_)
        · omega
        · refine x_iload1 dX2_nestByLot_40 ?_
          refine x_iload4 dX2_nestByLot_41 ?_
          refine x_ishr dX2_nestByLot_43 rfl ?_
          refine x_iconst dX2_nestByLot_44 ⟨by decide, by decide⟩ ?_
          refine x_iand dX2_nestByLot_45 rfl ?_
          refine x_iconst dX2_nestByLot_46 ⟨by decide, by decide⟩ ?_
          refine x_icmp_ne (tgt := 60) dX2_nestByLot_47 rfl (fun h4 => ?_) (fun h4 => ?_)
          · have h4 : bt y j ≠ 1 := h4
            refine x_iinc4 dX2_nestByLot_60 (by decide) rfl (nrm_id (by omega) (by omega)) ?_
            refine x_goto (tgt := 31) dX2_nestByLot_63 rfl ?_
            have e2 : nth y (k + 1) j q = nth y k ((j + 1 : Nat) : Int) q := by rw [nth, if_neg h4]; push_cast; rfl
            rw [e2]
            exact Ex.eq (by push_cast; rfl) rfl rfl (ih (j + 1) q (by omega) hq0 hq1)
          · have h4 : bt y j = 1 := h4
            refine x_iload3 dX2_nestByLot_50 ?_
            refine x_if_ne (tgt := 57) dX2_nestByLot_51 rfl (fun h5 => ?_) (fun h5 => ?_)
            · refine x_iinc3 dX2_nestByLot_57 (by decide) rfl (nrm_id (by omega) (by omega)) ?_
              refine x_iinc4 dX2_nestByLot_60 (by decide) rfl (nrm_id (by omega) (by omega)) ?_
              refine x_goto (tgt := 31) dX2_nestByLot_63 rfl ?_
              have e2 : nth y (k + 1) j q = nth y k ((j + 1 : Nat) : Int) (q - 1) := by rw [nth, if_pos h4, if_neg h5]; push_cast; rfl
              rw [e2]
              exact Ex.eq (by push_cast; rfl) rfl rfl (ih (j + 1) (q - 1) (by omega) (by omega) (by omega))
            · refine x_iload4 dX2_nestByLot_54 ?_
              exact xe_i dX2_nestByLot_56 (⟨by rw [nth, if_pos h4, if_pos h5, lc_nn (by omega)], rfl⟩)
    exact loop (V 0 0).toNat 0 q (by omega) hk9.1 hk9.2
  · refine x_bipush dX2_nestByLot_9 ⟨by decide, by decide⟩ ?_
    exact xe_i dX2_nestByLot_11 (⟨by rw [if_pos hc]; rfl, rfl⟩)
theorem amx_bd (f : Int → Int) : ∀ n : Nat, -1 ≤ (amx f n).1 ∧ (amx f n).1 < n ∧ 0 ≤ (amx f n).2
  | 0 => by simp [amx]
  | n + 1 => by
    have h := amx_bd f n
    unfold amx
    split
    · refine ⟨by show (-1 : Int) ≤ (n : Int); omega, by show (n : Int) < ((n + 1 : Nat) : Int); omega, by show 0 ≤ f n; omega⟩
    · refine ⟨h.1, by have := h.2.1; push_cast; omega, h.2.2⟩
theorem s_laysAmong (hb : YB b) (hY : YP m b V) (hI : Iv D V) (hD : D ≤ 20000) {p : Int} (hp : sub6 (V 0 0) p) : Mt E 4 yX2_laysAmong cX2_laysAmong 6 (some .int) [zr b, zi p] m (fun r m' => r = some (zi (lc (lays V p))) ∧ YP m' b V ∧ Fr (b + 7) (b + 8) m m') := by
  have hI2 := hI
  obtain ⟨hn, hl, hk0, hd, hk, hfg, ht, hr, hx, he, hz⟩ := hI
  have hy := may_sub hn.1 hk0 hp
  refine Mt.of 4 (by decide +kernel) (Nat.le_of_ble_eq_true rfl) (Or.inl rfl) ?_ ?_
  · rintro r m' ⟨rfl, -⟩; simp
  show Ex E cX2_laysAmong 6 RX2 4 _ 0 [some (zr b), some (zi p), none, none, none, none] [] m
  refine x_aload0 dX2_laysAmong_0 ?_
  refine x_iload1 dX2_laysAmong_1 ?_
  refine x_callv1 dX2_laysAmong_2 cv_X2_98 ci_X2_mayAmong (by first | rfl | exact yb_k (by assumption)) (T := TX2) rfl (by decide) (Nat.le_of_ble_eq_true rfl) (s_mayAmong hb hY) (fun r m1 hq => ?_)
  obtain ⟨rfl, rfl⟩ := hq
  show Ex _ _ _ _ _ _ _ _ [zi (may V p)] _
  refine x_istore2 dX2_laysAmong_5 (by decide) rfl ?_
  refine x_aload0 dX2_laysAmong_6 ?_
  refine x_getR (q := b + 6) dX2_laysAmong_7 fd_X2_27 (by first | rfl | exact yb_k (by assumption)) rfl (yb_p5 (by assumption)) ?_
  refine x_iconst dX2_laysAmong_10 ⟨by decide, by decide⟩ ?_
  refine x_iald dX2_laysAmong_11 (yb_a5 (by assumption)) (by omega) (by omega) (v := V 0 6) hY.kind ?_
  refine x_iconst dX2_laysAmong_12 ⟨by decide, by decide⟩ ?_
  refine x_icmp_ne (tgt := 22) dX2_laysAmong_13 rfl (fun hc => ?_) (fun hc => ?_)
  · refine x_aload0 dX2_laysAmong_22 ?_
    refine x_iload2 dX2_laysAmong_23 ?_
    refine x_callv1 dX2_laysAmong_24 cv_X2_104 ci_X2_weigh (by first | rfl | exact yb_k (by assumption)) (T := TX2) rfl (by decide) (Nat.le_of_ble_eq_true rfl) (s_weigh hb hY hI2 hy) (fun r m2 hq => ?_)
    obtain ⟨rfl, hW, hY2, hF2⟩ := hq
    show Ex _ _ _ _ _ _ _ _ [zi (wtot V (may V p))] _
    refine x_pop dX2_laysAmong_27 ?_
    refine x_bipush dX2_laysAmong_28 ⟨by decide, by decide⟩ ?_
    refine x_istore3 dX2_laysAmong_30 (by decide) rfl ?_
    refine x_iconst dX2_laysAmong_31 ⟨by decide, by decide⟩ ?_
    refine x_istore4 dX2_laysAmong_32 (by decide) rfl ?_
    refine x_iconst dX2_laysAmong_34 ⟨by decide, by decide⟩ ?_
    refine x_istore5 dX2_laysAmong_35 (by decide) rfl ?_
    have loop : ∀ (k j : Nat), (j : Int) + k = V 0 0 → Ex E cX2_laysAmong 6 RX2 4 (fun r m' => r = some (zi (lc (lays V p))) ∧ YP m' b V ∧ Fr (b + 7) (b + 8) m1 m') 37 [some (zr b), some (zi p), some (zi (may V p)), some (zi (lc (amx (wt V (may V p)) j).1)), some (zi (amx (wt V (may V p)) j).2), some (zi j)] [] m2 := by
      intro k
      induction k with
      | zero =>
        intro j hj
        refine x_iload5 dX2_laysAmong_37 ?_
        refine x_aload0 dX2_laysAmong_39 ?_
        refine x_getI dX2_laysAmong_40 fd_X2_43 (by first | rfl | exact yb_k (by assumption)) (Or.inl rfl) (v := V 0 0) hY2.nests ?_
        refine x_icmp_ge (tgt := 76) dX2_laysAmong_43 rfl (fun h3 => ?_) (fun h3 => ?_)
        · refine x_iload3 dX2_laysAmong_76 ?_
          have e1 : (V 0 0).toNat = j := by omega
          exact xe_i dX2_laysAmong_77 (⟨by rw [lays, if_neg hc, e1], hY2, hF2⟩)
        · omega
      | succ k ih =>
        intro j hj
        refine x_iload5 dX2_laysAmong_37 ?_
        refine x_aload0 dX2_laysAmong_39 ?_
        refine x_getI dX2_laysAmong_40 fd_X2_43 (by first | rfl | exact yb_k (by assumption)) (Or.inl rfl) (v := V 0 0) hY2.nests ?_
        refine x_icmp_ge (tgt := 76) dX2_laysAmong_43 rfl (fun h3 => ?_) (fun h3 => ?_)
        · omega
        · refine x_aload0 dX2_laysAmong_46 ?_
          refine x_getR (q := b + 7) dX2_laysAmong_47 fd_X2_30 (by first | rfl | exact yb_k (by assumption)) rfl (yb_p6 (by assumption)) ?_
          refine x_iload5 dX2_laysAmong_50 ?_
          refine x_iald dX2_laysAmong_52 (yb_a6 (by assumption)) (by omega) (by omega) (v := wt V (may V p) j) (hW j (by omega) (by omega)) ?_
          refine x_iload4 dX2_laysAmong_53 ?_
          refine x_icmp_le (tgt := 70) dX2_laysAmong_55 rfl (fun h4 => ?_) (fun h4 => ?_)
          · refine x_iinc5 dX2_laysAmong_70 (by decide) rfl (nrm_id (by omega) (by omega)) ?_
            refine x_goto (tgt := 37) dX2_laysAmong_73 rfl ?_
            have e2 : amx (wt V (may V p)) (j + 1) = amx (wt V (may V p)) j := by rw [amx, if_neg (by omega)]
            have := ih (j + 1) (by omega)
            rw [e2] at this
            exact Ex.eq (by push_cast; rfl) rfl rfl this
          · refine x_aload0 dX2_laysAmong_58 ?_
            refine x_getR (q := b + 7) dX2_laysAmong_59 fd_X2_30 (by first | rfl | exact yb_k (by assumption)) rfl (yb_p6 (by assumption)) ?_
            refine x_iload5 dX2_laysAmong_62 ?_
            refine x_iald dX2_laysAmong_64 (yb_a6 (by assumption)) (by omega) (by omega) (v := wt V (may V p) j) (hW j (by omega) (by omega)) ?_
            refine x_istore4 dX2_laysAmong_65 (by decide) rfl ?_
            refine x_iload5 dX2_laysAmong_67 ?_
            refine x_istore3 dX2_laysAmong_69 (by decide) rfl ?_
            refine x_iinc5 dX2_laysAmong_70 (by decide) rfl (nrm_id (by omega) (by omega)) ?_
            refine x_goto (tgt := 37) dX2_laysAmong_73 rfl ?_
            have e2 : amx (wt V (may V p)) (j + 1) = ((j : Int), wt V (may V p) j) := by rw [amx, if_pos (by omega)]
            have := ih (j + 1) (by omega)
            rw [e2] at this
            exact Ex.eq (by rw [lc_nn (by show (0 : Int) ≤ (j : Int); omega)]; push_cast; rfl) rfl rfl this
    exact Ex.eq rfl rfl rfl (loop (V 0 0).toNat 0 (by omega))
  · refine x_aload0 dX2_laysAmong_16 ?_
    refine x_iload2 dX2_laysAmong_17 ?_
    refine x_callv1 dX2_laysAmong_18 cv_X2_101 ci_X2_nestByLot (by first | rfl | exact yb_k (by assumption)) (T := TX2) rfl (by decide) (Nat.le_of_ble_eq_true rfl) (s_nestByLot hb hY hI2 hD hy) (fun r m2 hq => ?_)
    obtain ⟨rfl, rfl⟩ := hq
    exact xe_i dX2_laysAmong_21 (⟨by rw [lays, if_pos hc], hY, Fr.rf⟩)
/-- where a number below all weights together falls -/
def naw (f : Int → Int) : Nat → Int → Int → Int
  | 0, _, _ => -1
  | n + 1, i, r => if r < f i then i else naw f n (i + 1) (r - f i)
theorem s_nestAtWeight (hb : YB b) (hY : YP m b V) (hn : 0 ≤ V 0 0 ∧ V 0 0 ≤ 6) {f : Int → Int} (hW : WP m b f (V 0 0)) (hf : ∀ i, 0 ≤ i → i < V 0 0 → 0 ≤ f i ∧ f i ≤ 101) {x : Int} (h0 : 0 ≤ x) (h1 : x ≤ 1000000) : Mt E 1 yX2_nestAtWeight cX2_nestAtWeight 4 (some .int) [zr b, zi x] m (ans (some (zi (lc (naw f (V 0 0).toNat 0 x)))) m) := by
  refine Mt.of 2 (by decide +kernel) (Nat.le_of_ble_eq_true rfl) (Or.inl rfl) ?_ ?_
  · rintro r m' ⟨rfl, rfl⟩; simp
  show Ex E cX2_nestAtWeight 4 RX2 1 _ 0 [some (zr b), some (zi x), none, none] [] m
  have loop : ∀ (k j : Nat) (q : Int), (j : Int) + k = V 0 0 → 0 ≤ q → q ≤ 1000000 → Ex E cX2_nestAtWeight 4 RX2 1 (ans (some (zi (lc (naw f k j q)))) m) 4 [some (zr b), some (zi x), some (zi q), some (zi j)] [] m := by
    intro k
    induction k with
    | zero =>
      intro j q hj hq0 hq1
      refine x_iload3 dX2_nestAtWeight_4 ?_
      refine x_aload0 dX2_nestAtWeight_5 ?_
      refine x_getI dX2_nestAtWeight_6 fd_X2_43 (by first | rfl | exact yb_k (by assumption)) (Or.inl rfl) (v := V 0 0) hY.nests ?_
      refine x_icmp_ge (tgt := 39) dX2_nestAtWeight_9 rfl (fun h3 => ?_) (fun h3 => ?_)
      · refine x_bipush dX2_nestAtWeight_39 ⟨by decide, by decide⟩ ?_
        exact xe_i dX2_nestAtWeight_41 (⟨rfl, rfl⟩)
      · omega
    | succ k ih =>
      intro j q hj hq0 hq1
      have hfj := hf j (by omega) (by omega)
      refine x_iload3 dX2_nestAtWeight_4 ?_
      refine x_aload0 dX2_nestAtWeight_5 ?_
      refine x_getI dX2_nestAtWeight_6 fd_X2_43 (by first | rfl | exact yb_k (by assumption)) (Or.inl rfl) (v := V 0 0) hY.nests ?_
      refine x_icmp_ge (tgt := 39) dX2_nestAtWeight_9 rfl (fun h3 => ?_) (fun h3 => ?_)
      · omega
      · refine x_iload2 dX2_nestAtWeight_12 ?_
        refine x_aload0 dX2_nestAtWeight_13 ?_
        refine x_getR (q := b + 7) dX2_nestAtWeight_14 fd_X2_30 (by first | rfl | exact yb_k (by assumption)) rfl (yb_p6 (by assumption)) ?_
        refine x_iload3 dX2_nestAtWeight_17 ?_
        refine x_iald dX2_nestAtWeight_18 (yb_a6 (by assumption)) (by omega) (by omega) (v := f j) (hW j (by omega) (by omega)) ?_
        refine x_icmp_ge (tgt := 24) dX2_nestAtWeight_19 rfl (fun h4 => ?_) (fun h4 => ?_)
        · refine x_iload2 dX2_nestAtWeight_24 ?_
          refine x_aload0 dX2_nestAtWeight_25 ?_
          refine x_getR (q := b + 7) dX2_nestAtWeight_26 fd_X2_30 (by first | rfl | exact yb_k (by assumption)) rfl (yb_p6 (by assumption)) ?_
          refine x_iload3 dX2_nestAtWeight_29 ?_
          refine x_iald dX2_nestAtWeight_30 (yb_a6 (by assumption)) (by omega) (by omega) (v := f j) (hW j (by omega) (by omega)) ?_
          refine x_isub dX2_nestAtWeight_31 (nrm_id (by omega) (by omega)) ?_
          refine x_istore2 dX2_nestAtWeight_32 (by decide) rfl ?_
          refine x_iinc3 dX2_nestAtWeight_33 (by decide) rfl (nrm_id (by omega) (by omega)) ?_
          refine x_goto (tgt := 4) dX2_nestAtWeight_36 rfl ?_
          have e2 : naw f (k + 1) j q = naw f k ((j + 1 : Nat) : Int) (q - f j) := by rw [naw, if_neg (by omega)]; push_cast; rfl
          rw [e2]
          exact Ex.eq (by push_cast; rfl) rfl rfl (ih (j + 1) (q - f j) (by omega) (by omega) (by omega))
        · refine x_iload3 dX2_nestAtWeight_22 ?_
          exact xe_i dX2_nestAtWeight_23 (⟨by rw [naw, if_pos h4, lc_nn (by omega)], rfl⟩)
  refine x_iload1 dX2_nestAtWeight_0 ?_
  refine x_istore2 dX2_nestAtWeight_1 (by decide) rfl ?_
  refine x_iconst dX2_nestAtWeight_2 ⟨by decide, by decide⟩ ?_
  refine x_istore3 dX2_nestAtWeight_3 (by decide) rfl ?_
  exact loop (V 0 0).toNat 0 x (by omega) h0 h1
end YM4
