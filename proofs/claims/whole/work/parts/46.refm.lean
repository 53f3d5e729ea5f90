section RM13
variable {E : zz_E} {m : zz_M} {s : zz_S} {V W : zz_W} {D : Int}
/-- a plan's worth of one set first -/
def pgv (n : Nat) (V : zz_W) (q : Nat) : Int := tkn V (q : Int) + (pfv n (nit (tak V (q : Int)))).1
theorem pfv_s (n : Nat) (V : zz_W) : pfv (n + 1) V = bsf (pgv n V) (ast V (ase V)) (-1, 0) := rfl
theorem nt_ok (hI : Iv D V) (hD : D ≤ 20000) (h0 : V 0 0 ≠ 0) {q : Nat} (hq : q < 64) : Iv (D + 1) (nit (tak V (q : Int))) ∧ nit (tak V (q : Int)) 0 0 = V 0 0 := by
  have h := Iv_tak hI (show 0 ≤ (q : Int) by omega) (by omega)
  have e : tak V (q : Int) 0 0 = V 0 0 := tak_sc _ _ _ (by decide)
  exact ⟨nit_ok h hD (by rw [e]; exact h0), e⟩
theorem pgv_bd {n : Nat} (hI : Iv D V) (hD : D + n ≤ 20000) (h0 : V 0 0 ≠ 0) {q : Nat} (hq : q ∈ ast V (ase V)) (hq2 : q < 64) : 0 ≤ pgv n V q ∧ pgv n V q ≤ 1000 + n := by
  have h1 := pfv_bd n hI hD h0
  have h2 := alle_540 hI
  have h3 := h1.2.2 q hq
  have h4 := tkn_540 hI (q : Int)
  unfold pgv
  refine ⟨?_, by omega⟩
  match n with
  | 0 => show 0 ≤ tkn V (q : Int) + 0; omega
  | k + 1 =>
    have h5 := nt_ok hI (by omega) h0 hq2
    have h6 := pfv_bd k h5.1 (by omega) (by rw [h5.2]; exact h0)
    omega
theorem bst_bd {n : Nat} (hI : Iv D V) (hD : D + n ≤ 20000) (h0 : V 0 0 ≠ 0) (a : Int) (ha : a = -1 ∨ a = 0) (e : Nat) (he : e ≤ ase V) : a ≤ (bsf (pgv n V) (ast V e) (a, 0)).1 ∧ (bsf (pgv n V) (ast V e) (a, 0)).1 ≤ 1000 + n := by
  have h4 := (ase_pow hI.1).2.2.2
  refine ⟨bsf_ge _ _ _, bsf_le _ _ _ (by show a ≤ _; omega) (fun q hq => ?_)⟩
  have hm := ast_mem.mp hq
  exact (pgv_bd hI hD h0 (ast_mem.mpr ⟨by omega, hm.2⟩) (by omega)).2
theorem t_bestOfTwo (hM : MP m V) (hI : Iv D V) (hD : D ≤ 10000) (h0 : V 0 0 ≠ 0) (hg : m 59 17 = -1) : Mt E 6 yX4_bestOfTwo cX4_bestOfTwo 4 (some .int) [zr 59] m (fun r m' => r = some (zi (pfv 2 V).1) ∧ MP m' V ∧ Fg 69 70 m m') := by
  have hn := hI.1
  obtain ⟨e1, e2, e3, e4⟩ := ase_pow hn
  have ht := hI.2.2.2.2.2.2.1
  have ef : (pfv 2 V).1 = (bsf (pgv 1 V) (ast V (ase V)) (0, 0)).1 := by
    obtain ⟨l, hl⟩ := ast_hd hn ht.1 (ase V - 1)
    rw [show ase V - 1 + 1 = ase V by omega] at hl
    have hm0 : 0 ∈ ast V (ase V) := by rw [hl]; exact List.mem_cons_self
    have h2 := bsf_zero (pgv 1 V) 0 l 0 (pgv_bd hI (by omega) h0 hm0 (by decide)).1
    rw [← hl] at h2
    rw [← h2]
    rfl
  have bd := fun (e : Nat) (he : e ≤ ase V) => bst_bd (n := 1) hI (by omega) h0 0 (Or.inr rfl) e he
  refine Mt.of 3 (by decide +kernel) (Nat.le_of_ble_eq_true rfl) (Or.inl rfl) ?_ ?_
  · rintro r m' ⟨rfl, -⟩; simp
  show Ex E cX4_bestOfTwo 4 RX4 6 _ 0 [some (zr 59), none, none, none] [] m
  rw [ef]
  refine x_aload0 dX4_bestOfTwo_0 ?_
  refine x_aload0 dX4_bestOfTwo_1 ?_
  refine x_getR (q := 69) dX4_bestOfTwo_2 fd_X4_50 rfl rfl rfl ?_
  refine x_iconst dX4_bestOfTwo_5 ⟨by decide, by decide⟩ ?_
  refine x_callv2 dX4_bestOfTwo_6 cv_X4_143 ci_X4_carryAll rfl (T := TX4) rfl (by omega) (Nat.le_of_ble_eq_true rfl) (t_carryAll (k := 69) (t := 1) rfl (by decide) (Or.inr rfl)) (fun r m1 hq => ?_)
  obtain ⟨rfl, h⟩ := hq
  have g := h.in_ (by decide) hM
  have hF := h.fg (Or.inr rfl) (by decide)
  show Ex _ _ _ _ _ _ _ _ [] _
  refine x_iconst dX4_bestOfTwo_9 ⟨by decide, by decide⟩ ?_
  refine x_istore1 dX4_bestOfTwo_10 (by decide) rfl ?_
  refine x_iconst dX4_bestOfTwo_11 ⟨by decide, by decide⟩ ?_
  refine x_istore2 dX4_bestOfTwo_12 (by decide) rfl ?_
  have loop : ∀ (k e : Nat) (m2 : zz_M) (o : Option zz_V), e + k = ase V → MP m2 V → SP m2 69 V → Fg 69 70 m m2 → Ex E cX4_bestOfTwo 4 RX4 6 (fun r m' => r = some (zi (bsf (pgv 1 V) (ast V (ase V)) (0, 0)).1) ∧ MP m' V ∧ Fg 69 70 m m') 13 [some (zr 59), some (zi (bsf (pgv 1 V) (ast V e) (0, 0)).1), some (zi e), o] [] m2 := by
    intro k
    induction k with
    | zero =>
      intro e m2 o he hM2 hS2 hF2
      obtain rfl : e = ase V := by omega
      refine x_iload2 dX4_bestOfTwo_13 ?_
      refine x_iconst dX4_bestOfTwo_14 ⟨by decide, by decide⟩ ?_
      refine x_aload0 dX4_bestOfTwo_15 ?_
      refine x_getI dX4_bestOfTwo_16 fd_X4_77 rfl (Or.inl rfl) (v := V 0 0) hM2.nests ?_
      refine x_ishl dX4_bestOfTwo_19 e1 ?_
      refine x_icmp_ge (tgt := 75) dX4_bestOfTwo_20 rfl (fun d1 => ?_) (fun d1 => ?_)
      · refine x_iload1 dX4_bestOfTwo_75 ?_
        exact xe_i dX4_bestOfTwo_76 (⟨rfl, hM2, hF2⟩)
      · omega
    | succ k ih =>
      intro e m2 o he hM2 hS2 hF2
      refine Ex.wk (L' := [some (zr 59), some (zi (bsf (pgv 1 V) (ast V e) (0, 0)).1), some (zi e), none]) ⟨rfl, rfl, rfl, trivial⟩ ?_
      have hb := bd e (by omega)
      have hst := bsf_ast (pgv 1 V) V e (0, 0)
      refine x_iload2 dX4_bestOfTwo_13 ?_
      refine x_iconst dX4_bestOfTwo_14 ⟨by decide, by decide⟩ ?_
      refine x_aload0 dX4_bestOfTwo_15 ?_
      refine x_getI dX4_bestOfTwo_16 fd_X4_77 rfl (Or.inl rfl) (v := V 0 0) hM2.nests ?_
      refine x_ishl dX4_bestOfTwo_19 e1 ?_
      refine x_icmp_ge (tgt := 75) dX4_bestOfTwo_20 rfl (fun d1 => ?_) (fun d1 => ?_)
      · omega
      · refine x_aload0 dX4_bestOfTwo_23 ?_
        refine x_iload2 dX4_bestOfTwo_24 ?_
        refine x_callv1 dX4_bestOfTwo_25 cv_X4_207 ci_X4_allows rfl (T := TX4) rfl (by omega) (Nat.le_of_ble_eq_true rfl) (t_allows hM2 hI (q := (e : Int))) (fun r m3 hq => ?_)
        obtain ⟨rfl, rfl⟩ := hq
        show Ex _ _ _ _ _ _ _ _ [zi _] _
        by_cases ha : alw V e
        · rw [if_pos ha] at hst ⊢
          have hme : e ∈ ast V (ase V) := ast_mem.mpr ⟨by omega, ha⟩
          have hg2 := pgv_bd (n := 1) hI (by omega) h0 hme (by omega)
          have h5 := nt_ok hI (by omega) h0 (q := e) (by omega)
          have h6 := pfv_bd 0 h5.1 (by omega) (by rw [h5.2]; exact h0)
          have h7 := alle_540 h5.1
          have h8 : 0 ≤ (pfv 1 (nit (tak V (e : Int)))).1 ∧ (pfv 1 (nit (tak V (e : Int)))).1 ≤ alle (nit (tak V (e : Int))) + ((0 : Nat) : Int) := ⟨h6.1, h6.2.1⟩
          have ht5 := tkn_540 hI (e : Int)
          have hti := Iv_tak hI (show 0 ≤ (e : Int) by omega) (by omega)
          have hts : tak V (e : Int) 0 0 = V 0 0 := tak_sc _ _ _ (by decide)
          refine x_if_eq (tgt := 69) dX4_bestOfTwo_28 rfl (fun d3 => ?_) (fun d3 => ?_)
          · omega
          · refine x_aload0 dX4_bestOfTwo_31 ?_
            refine x_iload2 dX4_bestOfTwo_32 ?_
            refine x_callv1 dX4_bestOfTwo_33 cv_X4_199 ci_X4_take rfl (T := TX4) rfl (by omega) (Nat.le_of_ble_eq_true rfl) (t_take hM2 hI (q := (e : Int))) (fun r m4 hq => ?_)
            obtain ⟨rfl, hM4, hF4⟩ := hq
            show Ex _ _ _ _ _ _ _ _ [zi (tkn V (e : Int))] _
            have hF4' := hF2.tr (hF4.y.y (a := 69) (b := 70))
            refine x_istore3 dX4_bestOfTwo_36 (by decide) rfl ?_
            refine x_aload0 dX4_bestOfTwo_37 ?_
            refine x_callv0 dX4_bestOfTwo_38 cv_X4_202 ci_X4_nightOn rfl (T := TX4) rfl (by omega) (Nat.le_of_ble_eq_true rfl) (t_nightOn hM4 hti (by omega) ((hF4'.2 17 (by decide) (by decide) (by decide) (by decide)).trans hg) (by rw [hts]; exact h0)) (fun r m5 hq => ?_)
            obtain ⟨rfl, hM5, hF5⟩ := hq
            show Ex _ _ _ _ _ _ _ _ [zi _] _
            refine x_pop dX4_bestOfTwo_41 ?_
            refine x_iload3 dX4_bestOfTwo_42 ?_
            refine x_aload0 dX4_bestOfTwo_43 ?_
            refine x_callv0 dX4_bestOfTwo_44 cv_X4_213 ci_X4_bestOfDay rfl (T := TX4) rfl (by omega) (Nat.le_of_ble_eq_true rfl) (t_bestOfDay hM5 h5.1) (fun r m6 hq => ?_)
            obtain ⟨rfl, rfl⟩ := hq
            show Ex _ _ _ _ _ _ _ _ [zi (pfv 1 (nit (tak V (e : Int)))).1, zi (tkn V (e : Int))] _
            refine x_iadd dX4_bestOfTwo_47 (nrm_id (by omega) (by omega)) ?_
            refine x_istore3 dX4_bestOfTwo_48 (by decide) rfl ?_
            have ep : tkn V (e : Int) + (pfv 1 (nit (tak V (e : Int)))).1 = pgv 1 V e := rfl
            rw [ep]
            have hS6 : SP m6 69 V := hF5.sp (hF4.y.sp hS2 (by decide) (by decide)) (by decide) (by decide)
            have hF6 := hF4'.tr (hF5.y (a := 69) (b := 70))
            have fin : ∀ x : Int, x = (bsf (pgv 1 V) (ast V (e + 1)) (0, 0)).1 → Ex E cX4_bestOfTwo 4 RX4 6 (fun r m' => r = some (zi (bsf (pgv 1 V) (ast V (ase V)) (0, 0)).1) ∧ MP m' V ∧ Fg 69 70 m m') 59 [some (zr 59), some (zi (bsf (pgv 1 V) (ast V e) (0, 0)).1), some (zi e), some (zi (pgv 1 V e))] [zi x] m6 := by
              intro x hx
              refine x_istore1 dX4_bestOfTwo_59 (by decide) rfl ?_
              refine x_aload0 dX4_bestOfTwo_60 ?_
              refine x_aload0 dX4_bestOfTwo_61 ?_
              refine x_getR (q := 69) dX4_bestOfTwo_62 fd_X4_50 rfl rfl rfl ?_
              refine x_iconst dX4_bestOfTwo_65 ⟨by decide, by decide⟩ ?_
              refine x_callv2 dX4_bestOfTwo_66 cv_X4_143 ci_X4_carryAll rfl (T := TX4) rfl (by omega) (Nat.le_of_ble_eq_true rfl) (t_carryAll (k := 69) (t := 0) rfl (by decide) (Or.inl rfl)) (fun r m7 hq => ?_)
              obtain ⟨rfl, h⟩ := hq
              have g := h.out (by decide) hS6
              have hF := h.fg (Or.inl rfl) (by decide)
              show Ex _ _ _ _ _ _ _ _ [] _
              refine x_iinc2 dX4_bestOfTwo_69 (by decide) rfl (nrm_id (by omega) (by omega)) ?_
              refine x_goto (tgt := 13) dX4_bestOfTwo_72 rfl ?_
              exact Ex.eq (by rw [hx]; push_cast; rfl) rfl rfl (ih (e + 1) m7 _ (by omega) g.1 g.2 (hF6.tr hF))
            refine x_iload3 dX4_bestOfTwo_49 ?_
            refine x_iload1 dX4_bestOfTwo_50 ?_
            refine x_icmp_le (tgt := 58) dX4_bestOfTwo_51 rfl (fun d4 => ?_) (fun d4 => ?_)
            · refine x_iload1 dX4_bestOfTwo_58 ?_
              exact fin _ (by rw [hst, if_neg (by omega)])
            · refine x_iload3 dX4_bestOfTwo_54 ?_
              refine x_goto (tgt := 59) dX4_bestOfTwo_55 rfl ?_
              exact fin _ (by rw [hst, if_pos d4])
        · rw [if_neg ha] at hst ⊢
          refine x_if_eq (tgt := 69) dX4_bestOfTwo_28 rfl (fun d3 => ?_) (fun d3 => ?_)
          · refine x_iinc2 dX4_bestOfTwo_69 (by decide) rfl (nrm_id (by omega) (by omega)) ?_
            refine x_goto (tgt := 13) dX4_bestOfTwo_72 rfl ?_
            exact Ex.eq (by rw [hst]; push_cast; rfl) rfl rfl (ih (e + 1) m3 _ (by omega) hM2 hS2 hF2)
          · omega
  exact loop (ase V) 0 m1 none (by omega) g.1 g.2 hF
theorem t_plan (hC : MPS m s) (hI : Is s) {n w : Int} : Mt E 7 yX4_plan cX4_plan 8 (some .int) [zr 59, zi n, zi w] m (RQ m (o_plan s n w)) := by
  have hV := hI.1
  have hn := hV.1
  refine Mt.of 5 (by decide +kernel) (Nat.le_of_ble_eq_true rfl) (Or.inl rfl) ?_ ?_
  · exact RQ.rt
  show Ex E cX4_plan 8 RX4 7 _ 0 [some (zr 59), some (zi n), some (zi w), none, none, none, none, none] [] m
  refine x_aload0 dX4_plan_0 ?_
  refine x_iconst dX4_plan_1 ⟨by decide, by decide⟩ ?_
  refine x_putI dX4_plan_2 fd_X4_74 rfl rfl ?_
  refine th15 (fun m hC => ?_) hC
  have hM := hC.1
  have bad : ∀ k : Int, 1 ≤ k → k ≤ 6 → o_plan s n w = rfo s k → Ex E cX4_plan 8 RX4 7 (RQ m (o_plan s n w)) 53 [some (zr 59), some (zi n), some (zi w), none, none, none, none, none] [zi (-k)] m := by
    intro k hk1 hk6 he
    refine x_istore3 dX4_plan_53 (by decide) rfl ?_
    refine x_iload3 dX4_plan_54 ?_
    refine x_if_ge (tgt := 64) dX4_plan_55 rfl (fun c1 => ?_) (fun c1 => ?_)
    · omega
    · refine x_aload0 dX4_plan_58 ?_
      refine x_iload3 dX4_plan_59 ?_
      refine x_callv1 dX4_plan_60 cv_X4_150 ci_X4_refuse rfl (T := TX4) rfl (by omega) (Nat.le_of_ble_eq_true rfl) (t_refuse hC hk1 hk6 rfl) (fun r m1 hq => ?_)
      obtain ⟨rfl, hC1, hF1⟩ := hq
      rw [he]
      exact xe_i dX4_plan_63 (⟨rfl, hC1, hF1⟩)
  refine x_iload2 dX4_plan_5 ?_
  refine x_i2l dX4_plan_6 ?_
  refine x_lconst dX4_plan_7 rfl ?_
  refine x_lconst dX4_plan_8 rfl ?_
  refine x_calls3 dX4_plan_9 cv_X4_80 cs_X4_in (by omega) (Nat.le_of_ble_eq_true rfl) (t_in) (fun r m1 hq => ?_)
  obtain ⟨rfl, rfl⟩ := hq
  show Ex _ _ _ _ _ _ _ _ [zi (if (0 : Int) ≤ w ∧ w ≤ 1 then 1 else 0)] _
  by_cases hw : 0 ≤ w ∧ w ≤ 1
  · rw [if_pos hw]
    refine x_if_ne (tgt := 20) dX4_plan_12 rfl (fun c0 => ?_) (fun c0 => ?_)
    rotate_left
    · omega
    refine x_iload1 dX4_plan_20 ?_
    refine x_iconst dX4_plan_21 ⟨by decide, by decide⟩ ?_
    refine x_icmp_ge (tgt := 30) dX4_plan_22 rfl (fun c1 => ?_) (fun c1 => ?_)
    rotate_left
    · refine x_bipush dX4_plan_25 ⟨by decide, by decide⟩ ?_
      refine x_goto (tgt := 53) dX4_plan_27 rfl ?_
      exact bad 4 (by decide) (by decide) (by rw [o_plan, if_neg (by omega), if_pos c1])
    refine x_iload1 dX4_plan_30 ?_
    refine x_iconst dX4_plan_31 ⟨by decide, by decide⟩ ?_
    refine x_icmp_le (tgt := 40) dX4_plan_32 rfl (fun c2 => ?_) (fun c2 => ?_)
    rotate_left
    · refine x_bipush dX4_plan_35 ⟨by decide, by decide⟩ ?_
      refine x_goto (tgt := 53) dX4_plan_37 rfl ?_
      exact bad 6 (by decide) (by decide) (by rw [o_plan, if_neg (by omega), if_neg (by omega), if_pos c2])
    refine x_aload0 dX4_plan_40 ?_
    refine x_getI dX4_plan_41 fd_X4_77 rfl (Or.inl rfl) (v := s.1 0 0) hM.nests ?_
    refine x_if_ne (tgt := 52) dX4_plan_44 rfl (fun c3 => ?_) (fun c3 => ?_)
    rotate_left
    · refine x_bipush dX4_plan_47 ⟨by decide, by decide⟩ ?_
      refine x_goto (tgt := 53) dX4_plan_49 rfl ?_
      exact bad 3 (by decide) (by decide) (by rw [o_plan, if_neg (by omega), if_neg (by omega), if_neg (by omega), if_pos c3])
    refine x_iconst dX4_plan_52 ⟨by decide, by decide⟩ ?_
    refine x_istore3 dX4_plan_53 (by decide) rfl ?_
    refine x_iload3 dX4_plan_54 ?_
    refine x_if_ge (tgt := 64) dX4_plan_55 rfl (fun c4 => ?_) (fun c4 => ?_)
    rotate_left
    · omega
    have eo : o_plan s n w = (if w = 0 then (pfv n.toNat (ux s.1 0 2 0)).1 else (pfv n.toNat (ux s.1 0 2 0)).2, s) := by rw [o_plan, if_neg (by omega), if_neg (by omega), if_neg (by omega), if_neg c3]
    rw [eo]
    have hU := Iv_l0 hV
    have hU0 : ux s.1 0 2 0 0 0 = s.1 0 0 := rfl
    generalize hUe : ux s.1 0 2 0 = U at *
    obtain ⟨N, hN⟩ : ∃ N : Nat, n = ((N + 1 : Nat) : Int) := ⟨n.toNat - 1, by omega⟩
    have hN2 : N ≤ 2 := by omega
    rw [show n.toNat = N + 1 by omega, pfv_s]
    have hu0 : U 0 0 ≠ 0 := by omega
    obtain ⟨e1, e2, e3, e4⟩ := ase_pow hU.1
    have bd := fun (e : Nat) (he : e ≤ ase U) => bst_bd (n := N) hU (by omega) hu0 (-1) (Or.inl rfl) e he
    have hg := hC.gone
    refine x_aload0 dX4_plan_64 ?_
    refine x_callv0 dX4_plan_65 cv_X4_182 ci_X4_open rfl (T := TX4) rfl (by omega) (Nat.le_of_ble_eq_true rfl) (t_open hM) (fun r m2 hq => ?_)
    obtain ⟨rfl, hM2, hS2, hF2⟩ := hq
    show Ex _ _ _ _ _ _ _ _ [] _
    refine x_aload0 dX4_plan_68 ?_
    refine x_iconst dX4_plan_69 ⟨by decide, by decide⟩ ?_
    refine x_putI dX4_plan_70 fd_X4_84 rfl rfl ?_
    refine x_aload0 dX4_plan_73 ?_
    refine x_aload0 dX4_plan_74 ?_
    refine x_getR (q := 68) dX4_plan_75 fd_X4_47 rfl rfl rfl ?_
    refine x_iconst dX4_plan_78 ⟨by decide, by decide⟩ ?_
    have hM3 : MP (up m2 59 6 0) U := by
      rw [← hUe]
      exact hM2.f (j := 6) (by decide)
    refine x_callv2 dX4_plan_79 cv_X4_143 ci_X4_carryAll rfl (T := TX4) rfl (by omega) (Nat.le_of_ble_eq_true rfl) (t_carryAll (k := 68) (t := 1) rfl (by decide) (Or.inr rfl)) (fun r m3 hq => ?_)
    obtain ⟨rfl, h⟩ := hq
    have g := h.in_ (by decide) hM3
    have hF3 := h.fg (Or.inr rfl) (by decide)
    have hS3 : SP m3 67 s.1 := hF3.sp (fun j hj => by rw [up_cell (by decide)]; exact hS2 j hj) (by decide) (by decide)
    have hFt : Fg 67 70 m1 m3 := ((hF2.upf (by decide)).wd (by decide) (by decide)).tr (hF3.wd (by decide) (by decide))
    show Ex _ _ _ _ _ _ _ _ [] _
    refine x_iconst dX4_plan_82 ⟨by decide, by decide⟩ ?_
    refine x_istore4 dX4_plan_83 (by decide) rfl ?_
    refine x_iconst dX4_plan_85 ⟨by decide, by decide⟩ ?_
    refine x_istore5 dX4_plan_86 (by decide) rfl ?_
    refine x_iconst dX4_plan_88 ⟨by decide, by decide⟩ ?_
    refine x_istore6 dX4_plan_89 (by decide) rfl ?_
    have loop : ∀ (k e : Nat) (m2 : zz_M) (o : Option zz_V), e + k = ase U → MP m2 U → SP m2 68 U → SP m2 67 s.1 → Fg 67 70 m1 m2 → Ex E cX4_plan 8 RX4 7 (RQ m1 (if w = 0 then (bsf (pgv N U) (ast U (ase U)) (-1, 0)).1 else (bsf (pgv N U) (ast U (ase U)) (-1, 0)).2, s)) 91 [some (zr 59), some (zi n), some (zi w), some (zi 0), some (zi (bsf (pgv N U) (ast U e) (-1, 0)).1), some (zi (bsf (pgv N U) (ast U e) (-1, 0)).2), some (zi e), o] [] m2 := by
      intro k
      induction k with
      | zero =>
        intro e m2 o he hM2 hA2 hS2 hF2
        obtain rfl : e = ase U := by omega
        refine Ex.wk (L' := [some (zr 59), some (zi n), some (zi w), some (zi 0), some (zi (bsf (pgv N U) (ast U (ase U)) (-1, 0)).1), some (zi (bsf (pgv N U) (ast U (ase U)) (-1, 0)).2), some (zi (ase U)), none]) ⟨rfl, rfl, rfl, rfl, rfl, rfl, rfl, trivial⟩ ?_
        refine x_iload6 dX4_plan_91 ?_
        refine x_iconst dX4_plan_93 ⟨by decide, by decide⟩ ?_
        refine x_aload0 dX4_plan_94 ?_
        refine x_getI dX4_plan_95 fd_X4_77 rfl (Or.inl rfl) (v := U 0 0) hM2.nests ?_
        refine x_ishl dX4_plan_98 e1 ?_
        refine x_icmp_ge (tgt := 197) dX4_plan_99 rfl (fun d1 => ?_) (fun d1 => ?_)
        · refine x_aload0 dX4_plan_197 ?_
          refine x_callv0 dX4_plan_198 cv_X4_188 ci_X4_close rfl (T := TX4) rfl (by omega) (Nat.le_of_ble_eq_true rfl) (t_close hS2) (fun r m4 hq => ?_)
          obtain ⟨rfl, hM4, hS4, hF4⟩ := hq
          have hF5 := hF2.tr (hF4.wd (by decide) (by decide))
          show Ex _ _ _ _ _ _ _ _ [] _
          refine x_iload2 dX4_plan_201 ?_
          refine x_if_ne (tgt := 210) dX4_plan_202 rfl (fun d2 => ?_) (fun d2 => ?_)
          · refine x_iload5 dX4_plan_210 ?_
            exact xe_i dX4_plan_212 (⟨by rw [if_neg d2], hC.fg hF5 (by decide) hM4, hF5.fr (by decide)⟩)
          · refine x_iload4 dX4_plan_205 ?_
            refine x_goto (tgt := 212) dX4_plan_207 rfl ?_
            exact xe_i dX4_plan_212 (⟨by rw [if_pos d2], hC.fg hF5 (by decide) hM4, hF5.fr (by decide)⟩)
        · omega
      | succ k ih =>
        intro e m2 o he hM2 hA2 hS2 hF2
        refine Ex.wk (L' := [some (zr 59), some (zi n), some (zi w), some (zi 0), some (zi (bsf (pgv N U) (ast U e) (-1, 0)).1), some (zi (bsf (pgv N U) (ast U e) (-1, 0)).2), some (zi e), none]) ⟨rfl, rfl, rfl, rfl, rfl, rfl, rfl, trivial⟩ ?_
        have hb := bd e (by omega)
        have hst := bsf_ast (pgv N U) U e (-1, 0)
        refine x_iload6 dX4_plan_91 ?_
        refine x_iconst dX4_plan_93 ⟨by decide, by decide⟩ ?_
        refine x_aload0 dX4_plan_94 ?_
        refine x_getI dX4_plan_95 fd_X4_77 rfl (Or.inl rfl) (v := U 0 0) hM2.nests ?_
        refine x_ishl dX4_plan_98 e1 ?_
        refine x_icmp_ge (tgt := 197) dX4_plan_99 rfl (fun d1 => ?_) (fun d1 => ?_)
        · omega
        · refine x_aload0 dX4_plan_102 ?_
          refine x_iload6 dX4_plan_103 ?_
          refine x_callv1 dX4_plan_105 cv_X4_207 ci_X4_allows rfl (T := TX4) rfl (by omega) (Nat.le_of_ble_eq_true rfl) (t_allows hM2 hU (q := (e : Int))) (fun r m3 hq => ?_)
          obtain ⟨rfl, rfl⟩ := hq
          show Ex _ _ _ _ _ _ _ _ [zi _] _
          by_cases ha : alw U e
          · rw [if_pos ha] at hst ⊢
            have hme : e ∈ ast U (ase U) := ast_mem.mpr ⟨by omega, ha⟩
            have hg2 := pgv_bd (n := N) hU (by omega) hu0 hme (by omega)
            have h5 := nt_ok hU (by omega) hu0 (q := e) (by omega)
            have h50 : nit (tak U (e : Int)) 0 0 ≠ 0 := by rw [h5.2]; exact hu0
            have ht5 := tkn_540 hU (e : Int)
            have hti := Iv_tak hU (show 0 ≤ (e : Int) by omega) (by omega)
            have hts : tak U (e : Int) 0 0 = U 0 0 := tak_sc _ _ _ (by decide)
            have h7 := alle_540 h5.1
            refine x_if_eq (tgt := 191) dX4_plan_108 rfl (fun d3 => ?_) (fun d3 => ?_)
            · omega
            · refine x_aload0 dX4_plan_111 ?_
              refine x_iload6 dX4_plan_112 ?_
              refine x_callv1 dX4_plan_114 cv_X4_199 ci_X4_take rfl (T := TX4) rfl (by omega) (Nat.le_of_ble_eq_true rfl) (t_take hM2 hU (q := (e : Int))) (fun r m4 hq => ?_)
              obtain ⟨rfl, hM4, hF4⟩ := hq
              show Ex _ _ _ _ _ _ _ _ [zi (tkn U (e : Int))] _
              have hF4' := hF2.tr (hF4.y.y (a := 67) (b := 70))
              have hA4 := hF4.y.sp hA2 (by decide) (by decide)
              have hS4 := hF4.y.sp hS2 (by decide) (by decide)
              have after : ∀ (x : Int) (m6 : zz_M), x = pgv N U e → SP m6 68 U → SP m6 67 s.1 → Fg 67 70 m1 m6 → Ex E cX4_plan 8 RX4 7 (RQ m1 (if w = 0 then (bsf (pgv N U) (ast U (ase U)) (-1, 0)).1 else (bsf (pgv N U) (ast U (ase U)) (-1, 0)).2, s)) 150 [some (zr 59), some (zi n), some (zi w), some (zi 0), some (zi (bsf (pgv N U) (ast U e) (-1, 0)).1), some (zi (bsf (pgv N U) (ast U e) (-1, 0)).2), some (zi e), some (zi x)] [] m6 := by
                intro x m6 hx hA6 hS6 hF6
                subst hx
                refine x_aload0 dX4_plan_150 ?_
                refine x_aload0 dX4_plan_151 ?_
                refine x_getR (q := 68) dX4_plan_152 fd_X4_47 rfl rfl rfl ?_
                refine x_iconst dX4_plan_155 ⟨by decide, by decide⟩ ?_
                refine x_callv2 dX4_plan_156 cv_X4_143 ci_X4_carryAll rfl (T := TX4) rfl (by omega) (Nat.le_of_ble_eq_true rfl) (t_carryAll (k := 68) (t := 0) rfl (by decide) (Or.inl rfl)) (fun r m7 hq => ?_)
                obtain ⟨rfl, h⟩ := hq
                have g := h.out (by decide) hA6
                have hF7 := h.fg (Or.inl rfl) (by decide)
                have hS7 : SP m7 67 s.1 := hF7.sp hS6 (by decide) (by decide)
                have hF8 := hF6.tr (hF7.wd (a' := 67) (b' := 70) (by decide) (by decide))
                show Ex _ _ _ _ _ _ _ _ [] _
                refine x_iload7 dX4_plan_159 ?_
                refine x_iload4 dX4_plan_161 ?_
                refine x_icmp_le (tgt := 171) dX4_plan_163 rfl (fun d4 => ?_) (fun d4 => ?_)
                · refine x_iload5 dX4_plan_171 ?_
                  refine x_istore5 dX4_plan_173 (by decide) rfl ?_
                  refine x_iload7 dX4_plan_175 ?_
                  refine x_iload4 dX4_plan_177 ?_
                  refine x_icmp_le (tgt := 187) dX4_plan_179 rfl (fun d5 => ?_) (fun d5 => ?_)
                  · refine x_iload4 dX4_plan_187 ?_
                    refine x_istore4 dX4_plan_189 (by decide) rfl ?_
                    refine x_iinc6 dX4_plan_191 (by decide) rfl (nrm_id (by omega) (by omega)) ?_
                    refine x_goto (tgt := 91) dX4_plan_194 rfl ?_
                    exact Ex.eq (by rw [hst, if_neg (by omega)]; push_cast; rfl) rfl rfl (ih (e + 1) m7 _ (by omega) g.1 g.2 hS7 hF8)
                  · omega
                · refine x_iload6 dX4_plan_166 ?_
                  refine x_goto (tgt := 173) dX4_plan_168 rfl ?_
                  refine x_istore5 dX4_plan_173 (by decide) rfl ?_
                  refine x_iload7 dX4_plan_175 ?_
                  refine x_iload4 dX4_plan_177 ?_
                  refine x_icmp_le (tgt := 187) dX4_plan_179 rfl (fun d5 => ?_) (fun d5 => ?_)
                  · omega
                  · refine x_iload7 dX4_plan_182 ?_
                    refine x_goto (tgt := 189) dX4_plan_184 rfl ?_
                    refine x_istore4 dX4_plan_189 (by decide) rfl ?_
                    refine x_iinc6 dX4_plan_191 (by decide) rfl (nrm_id (by omega) (by omega)) ?_
                    refine x_goto (tgt := 91) dX4_plan_194 rfl ?_
                    exact Ex.eq (by rw [hst, if_pos d4]; push_cast; rfl) rfl rfl (ih (e + 1) m7 _ (by omega) g.1 g.2 hS7 hF8)
              refine x_istore7 dX4_plan_117 (by decide) rfl ?_
              refine x_iload1 dX4_plan_119 ?_
              refine x_iconst dX4_plan_120 ⟨by decide, by decide⟩ ?_
              refine x_icmp_le (tgt := 150) dX4_plan_121 rfl (fun d4 => ?_) (fun d4 => ?_)
              · obtain rfl : N = 0 := by omega
                exact after _ m4 (by show tkn U (e : Int) = tkn U (e : Int) + 0; omega) hA4 hS4 hF4'
              · refine x_aload0 dX4_plan_124 ?_
                refine x_callv0 dX4_plan_125 cv_X4_202 ci_X4_nightOn rfl (T := TX4) rfl (by omega) (Nat.le_of_ble_eq_true rfl) (t_nightOn hM4 hti (by omega) ((hF4'.2 17 (by decide) (by decide) (by decide) (by decide)).trans hg) (by rw [hts]; exact hu0)) (fun r m5 hq => ?_)
                obtain ⟨rfl, hM5, hF5⟩ := hq
                have hA5 := hF5.sp hA4 (by decide) (by decide)
                have hS5 := hF5.sp hS4 (by decide) (by decide)
                have hF5' := hF4'.tr (hF5.y (a := 67) (b := 70))
                show Ex _ _ _ _ _ _ _ _ [zi _] _
                refine x_pop dX4_plan_128 ?_
                refine x_iload7 dX4_plan_129 ?_
                refine x_iload1 dX4_plan_131 ?_
                refine x_iconst dX4_plan_132 ⟨by decide, by decide⟩ ?_
                refine x_icmp_ne (tgt := 143) dX4_plan_133 rfl (fun d5 => ?_) (fun d5 => ?_)
                · obtain rfl : N = 2 := by omega
                  refine x_aload0 dX4_plan_143 ?_
                  refine x_callv0 dX4_plan_144 cv_X4_216 ci_X4_bestOfTwo rfl (T := TX4) rfl (by omega) (Nat.le_of_ble_eq_true rfl) (t_bestOfTwo hM5 h5.1 (by omega) h50 ((hF5'.2 17 (by decide) (by decide) (by decide) (by decide)).trans hg)) (fun r m6 hq => ?_)
                  obtain ⟨rfl, hM6, hF6⟩ := hq
                  have h6 := pfv_bd 1 h5.1 (by omega) h50
                  have h8 : 0 ≤ (pfv 2 (nit (tak U (e : Int)))).1 ∧ (pfv 2 (nit (tak U (e : Int)))).1 ≤ alle (nit (tak U (e : Int))) + ((1 : Nat) : Int) := ⟨h6.1, h6.2.1⟩
                  show Ex _ _ _ _ _ _ _ _ [zi (pfv 2 (nit (tak U (e : Int)))).1, zi (tkn U (e : Int))] _
                  refine x_iadd dX4_plan_147 (nrm_id (by omega) (by omega)) ?_
                  refine x_istore7 dX4_plan_148 (by decide) rfl ?_
                  exact after _ m6 rfl (hF6.sp hA5 (by decide) (by decide)) (hF6.sp hS5 (by decide) (by decide)) (hF5'.tr (hF6.wd (by decide) (by decide)))
                · obtain rfl : N = 1 := by omega
                  refine x_aload0 dX4_plan_136 ?_
                  refine x_callv0 dX4_plan_137 cv_X4_213 ci_X4_bestOfDay rfl (T := TX4) rfl (by omega) (Nat.le_of_ble_eq_true rfl) (t_bestOfDay hM5 h5.1) (fun r m6 hq => ?_)
                  obtain ⟨rfl, rfl⟩ := hq
                  have h6 := pfv_bd 0 h5.1 (by omega) h50
                  have h8 : 0 ≤ (pfv 1 (nit (tak U (e : Int)))).1 ∧ (pfv 1 (nit (tak U (e : Int)))).1 ≤ alle (nit (tak U (e : Int))) + ((0 : Nat) : Int) := ⟨h6.1, h6.2.1⟩
                  show Ex _ _ _ _ _ _ _ _ [zi (pfv 1 (nit (tak U (e : Int)))).1, zi (tkn U (e : Int))] _
                  refine x_goto (tgt := 147) dX4_plan_140 rfl ?_
                  refine x_iadd dX4_plan_147 (nrm_id (by omega) (by omega)) ?_
                  refine x_istore7 dX4_plan_148 (by decide) rfl ?_
                  exact after _ m6 rfl hA5 hS5 hF5'
          · rw [if_neg ha] at hst ⊢
            refine x_if_eq (tgt := 191) dX4_plan_108 rfl (fun d3 => ?_) (fun d3 => ?_)
            · refine x_iinc6 dX4_plan_191 (by decide) rfl (nrm_id (by omega) (by omega)) ?_
              refine x_goto (tgt := 91) dX4_plan_194 rfl ?_
              exact Ex.eq (by rw [hst]; push_cast; rfl) rfl rfl (ih (e + 1) m3 _ (by omega) hM2 hA2 hS2 hF2)
            · omega
    exact loop (ase U) 0 m3 none (by omega) g.1 g.2 hS3 hFt
  · rw [if_neg hw]
    refine x_if_ne (tgt := 20) dX4_plan_12 rfl (fun c0 => ?_) (fun c0 => ?_)
    · omega
    · refine x_bipush dX4_plan_15 ⟨by decide, by decide⟩ ?_
      refine x_goto (tgt := 53) dX4_plan_17 rfl ?_
      exact bad 2 (by decide) (by decide) (by rw [o_plan, if_pos (by omega)])
end RM13
