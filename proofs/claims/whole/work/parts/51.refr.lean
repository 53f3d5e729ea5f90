section RM18
variable {E : zz_E} {m : zz_M} {s : zz_S} {T V W : zz_W} {D : Int}
def sts (T : zz_W) : Nat → Int
  | 0 => 0
  | k + 1 => sts T k + (dbh T (sts T k) : Int) + 2
/-- what reading changes -/
def Fq (m m' : zz_M) : Prop := (∀ q, q ≠ 59 → q ≠ 72 → q ≠ 73 → q ≠ 74 → m' q = m q) ∧ ∀ j, j ≠ 30 → j ≠ 31 → j ≠ 32 → m' 59 j = m 59 j
theorem Fsr.q {k : Nat} {m' : zz_M} (h : Fsr k m m') : Fq m m' := ⟨h.1, h.2.1⟩
theorem Fq.tr {m' m'' : zz_M} (h : Fq m m') (h' : Fq m' m'') : Fq m m'' := ⟨fun q a b c d => (h'.1 q a b c d).trans (h.1 q a b c d), fun j a b c => (h'.2 j a b c).trans (h.2 j a b c)⟩
theorem Fq.fr {m' : zz_M} (h : Fq m m') : Fr 59 77 m m' := fun q hq => h.1 q (by omega) (by omega) (by omega) (by omega)
theorem MPS.fq {m' : zz_M} (hC : MPS m s) (h : Fq m m') : MPS m' s := by
  obtain ⟨h1, h2, g1, g2, g3, g4, g5, g6, g7⟩ := hC
  refine ⟨h1.keep (fun k hk => h.2 k (by omega) (by omega) (by omega)) (fun q a b => h.1 q (by omega) (by omega) (by omega) (by omega)), fun q j hj => by rw [h.1 70 (by decide) (by decide) (by decide) (by decide)]; exact h2 q j hj, ?_⟩
  unfold MR
  rw [h.1 71 (by decide) (by decide) (by decide) (by decide), h.1 75 (by decide) (by decide) (by decide) (by decide), h.1 65 (by decide) (by decide) (by decide) (by decide), h.2 29 (by decide) (by decide) (by decide), h.2 37 (by decide) (by decide) (by decide), h.2 24 (by decide) (by decide) (by decide), h.2 17 (by decide) (by decide) (by decide)]
  exact ⟨g1, g2, g3, g4, g5, g6, g7⟩
/-- the letters are forgotten -/
theorem MPS.let0 (h : MPS m s) : MPS (up m 59 29 0) (s.1, s.2.1, ux s.2.2 0 0 0) := by
  obtain ⟨h1, h2, g1, g2, g3, g4, g5, g6, g7⟩ := h
  have e : ∀ q, q ≠ 59 → up m 59 29 0 q = m q := fun q hq => up_cell hq
  refine ⟨h1.keep (fun k hk => upn (by omega)) (fun q a b => e q (by omega)), fun q j hj => by rw [e 70 (by decide)]; exact h2 q j hj, ?_⟩
  unfold MR
  rw [e 71 (by decide), e 75 (by decide), e 65 (by decide), upn (show 37 ≠ 29 by decide), upn (show 24 ≠ 29 by decide), upn (show 17 ≠ 29 by decide)]
  exact ⟨up_same _ _ _ _, g2, g3, g4, g5, g6, g7⟩
theorem unf_bad {n : Nat} {p : Int} (hlt : p < T 0 0) (hb : BAD T p) : unf T (n + 1) p = PB T p := by
  rw [unf, if_neg (by omega)]
  unfold PB
  by_cases h : ldg (lat T p) = 0
  · rw [if_pos h, if_pos h]
  · rw [if_neg h, if_neg h, if_pos]
    rcases hb with a | a | a
    · exact absurd a h
    · exact Or.inl a
    · exact Or.inr a
theorem unf_ok {n : Nat} {p : Int} (hlt : p < T 0 0) (hw : wfs T p) (h59 : lat T (p + (dbh T p : Int) + 1) = 59) : unf T (n + 1) p = unf T n (p + (dbh T p : Int) + 2) := by
  rw [unf, if_neg (by omega), if_neg hw.1, if_neg]
  rintro (a | a)
  · have := hw.2; omega
  · exact a h59
theorem t_farm (hC : MPS m s) (hI : Is s) : Mt E 4 yX4_farm cX4_farm 2 (some .int) [zr 59] m (RQ m (o_farm s)) := by
  have hV := hI.1
  have hT := hI.2.2.1
  refine Mt.of 1 (by decide +kernel) (Nat.le_of_ble_eq_true rfl) (Or.inl rfl) ?_ ?_
  · exact RQ.rt
  show Ex E cX4_farm 2 RX4 4 _ 0 [some (zr 59), none] [] m
  refine x_aload0 dX4_farm_0 ?_
  refine x_iconst dX4_farm_1 ⟨by decide, by decide⟩ ?_
  refine x_putI dX4_farm_2 fd_X4_74 rfl rfl ?_
  refine th15 (fun m hC => ?_) hC
  have xbad : ∀ (m2 : zz_M) (p k : Int), 0 ≤ p → p ≤ 90 → ufi s.2.2 = p → FM m2 s.2.2 p 1 k → Fq m m2 → Ex E cX4_farm 2 RX4 4 (RQ m (o_farm s)) 52 [some (zr 59), none] [] m2 := by
    intro m2 p k hp0 hp1 hu hF hq
    have er : (rdi s.2.2 s.1).1 = -1000 - p := by rw [rdi, if_pos (by omega), hu]
    have eo : o_farm s = (-1000 - p, (s.1, s.2.1, ux s.2.2 0 0 0)) := by unfold o_farm; rw [if_neg (by omega), er]
    have hC2 := (hC.fq hq).let0
    refine x_aload0 dX4_farm_52 ?_
    refine x_iconst dX4_farm_53 ⟨by decide, by decide⟩ ?_
    refine x_putI dX4_farm_54 fd_X4_153 rfl rfl ?_
    refine x_aload0 dX4_farm_57 ?_
    refine x_getI dX4_farm_58 fd_X4_159 rfl (Or.inr rfl) (v := 1) (by rw [upn (by decide)]; exact hF.2.2.2.1) ?_
    refine x_if_eq (tgt := 73) dX4_farm_61 rfl (fun c1 => ?_) (fun c1 => ?_)
    · omega
    · refine x_sipush dX4_farm_64 ⟨by decide, by decide⟩ ?_
      refine x_aload0 dX4_farm_67 ?_
      refine x_getI dX4_farm_68 fd_X4_156 rfl (Or.inl rfl) (v := p) (by rw [upn (by decide)]; exact hF.2.2.1) ?_
      refine x_isub dX4_farm_71 (nrm_id (by omega) (by omega)) ?_
      rw [eo]
      exact xe_i dX4_farm_72 (⟨rfl, hC2, hq.fr.up (by decide) (by decide)⟩)
  have xgood : ∀ (k : Nat) (m2 : zz_M), 1 ≤ k → k ≤ 40 → s.2.2 0 0 ≤ sts s.2.2 k → ufi s.2.2 = -9 → FM m2 s.2.2 (sts s.2.2 k) 0 (k : Int) → (∀ i, i < k → wfs s.2.2 (sts s.2.2 i) ∧ SR m2 s.2.2 (sts s.2.2 i) i) → Fq m m2 → Ex E cX4_farm 2 RX4 4 (RQ m (o_farm s)) 52 [some (zr 59), none] [] m2 := by
    intro k m2 hk1 hk40 hge hu hF hR hq
    have er : rdi s.2.2 s.1 = rdl s.2.2 81 0 0 s.1 := by rw [rdi, if_neg (fun q => q hu)]
    have hC2 := (hC.fq hq).let0
    have h31 : up m2 59 29 0 59 31 = 0 := by rw [upn (by decide)]; exact hF.2.2.2.1
    have h32 : up m2 59 29 0 59 32 = (k : Int) := by rw [upn (by decide)]; exact hF.2.2.2.2
    have hR2 : ∀ i, i < k → wfs s.2.2 (sts s.2.2 i) ∧ SR (up m2 59 29 0) s.2.2 (sts s.2.2 i) i := fun i hi => ⟨(hR i hi).1, (hR i hi).2.c (up_cell (by decide)) (up_cell (by decide)) (up_cell (by decide))⟩
    have hF0 : Fr 59 77 m (up m2 59 29 0) := hq.fr.up (by decide) (by decide)
    refine x_aload0 dX4_farm_52 ?_
    refine x_iconst dX4_farm_53 ⟨by decide, by decide⟩ ?_
    refine x_putI dX4_farm_54 fd_X4_153 rfl rfl ?_
    refine x_aload0 dX4_farm_57 ?_
    refine x_getI dX4_farm_58 fd_X4_159 rfl (Or.inr rfl) (v := 0) h31 ?_
    generalize up m2 59 29 0 = m3 at hC2 h32 hR2 hF0
    refine x_if_eq (tgt := 73) dX4_farm_61 rfl (fun c1 => ?_) (fun c1 => ?_)
    · refine x_aload0 dX4_farm_73 ?_
      refine x_callv0 dX4_farm_74 cv_X4_182 ci_X4_open rfl (T := TX4) rfl (by omega) (Nat.le_of_ble_eq_true rfl) (t_open hC2.1) (fun r m4 hq2 => ?_)
      obtain ⟨rfl, hO⟩ := hq2
      have hO : OM m3 m4 s.1 s.1 := hO
      show Ex _ _ _ _ _ _ _ _ [] _
      refine x_iconst dX4_farm_77 ⟨by decide, by decide⟩ ?_
      refine x_istore1 dX4_farm_78 (by decide) rfl ?_
      have loop : ∀ (n i : Nat) (W : zz_W) (m5 : zz_M), n + i = 81 → i ≤ k → rdi s.2.2 s.1 = rdl s.2.2 n (sts s.2.2 i) (i : Int) W → Iv 9999 W → OM m3 m5 s.1 W → Ex E cX4_farm 2 RX4 4 (RQ m (o_farm s)) 79 [some (zr 59), some (zi (i : Int))] [] m5 := by
        intro n
        induction n with
        | zero => intro i W m5 hn hi; omega
        | succ n ih =>
          intro i W m5 hn hi hr hW hO5
          have g32 : m5 59 32 = (k : Int) := (hO5.2.2.2 32 (by decide) (by decide) (by decide) (by decide)).trans h32
          refine x_iload1 dX4_farm_79 ?_
          refine x_aload0 dX4_farm_80 ?_
          refine x_getI dX4_farm_81 fd_X4_169 rfl (Or.inl rfl) (v := (k : Int)) g32 ?_
          refine x_icmp_ge (tgt := 116) dX4_farm_84 rfl (fun d1 => ?_) (fun d1 => ?_)
          · obtain rfl : i = k := by omega
            have e : rdi s.2.2 s.1 = ((i : Int), W) := by rw [hr, rdl, if_pos hge]
            have eo : o_farm s = ((i : Int), (W, s.2.1, ux s.2.2 0 0 0)) := by unfold o_farm; rw [e, if_pos (show (0 : Int) < (i : Int) by omega)]
            refine x_aload0 dX4_farm_116 ?_
            refine x_getI dX4_farm_117 fd_X4_169 rfl (Or.inl rfl) (v := (i : Int)) g32 ?_
            rw [eo]
            exact xe_i dX4_farm_120 (⟨rfl, hC2.fg hO5.2.2 (by decide) hO5.1, hF0.tr (hO5.2.2.fr (by decide))⟩)
          · have hRi := hR2 i (by omega)
            have hSi : SR m5 s.2.2 (sts s.2.2 i) i := hRi.2.c (hO5.2.2.1 72 (by decide)) (hO5.2.2.1 73 (by decide)) (hO5.2.2.1 74 (by decide))
            have hin := lat_in hRi.1.1
            refine x_aload0 dX4_farm_87 ?_
            refine x_iload1 dX4_farm_88 ?_
            refine x_callv1 dX4_farm_89 cv_X4_185 ci_X4_comes rfl (T := TX4) rfl (by omega) (Nat.le_of_ble_eq_true rfl) (t_comes hO5.1 hW hRi.1 hSi (by omega)) (fun r m6 hq2 => ?_)
            obtain ⟨⟨W', hs, rfl, hM6⟩ | ⟨hs, rfl⟩, hF6⟩ := hq2
            · show Ex _ _ _ _ _ _ _ _ [zi 1] _
              refine x_if_ne (tgt := 110) dX4_farm_92 rfl (fun d2 => ?_) (fun d2 => ?_)
              · refine x_iinc1 dX4_farm_110 (by decide) rfl (nrm_id (by omega) (by omega)) ?_
                refine x_goto (tgt := 79) dX4_farm_113 rfl ?_
                refine Ex.eq (by push_cast; rfl) rfl rfl (ih (i + 1) W' m6 (by omega) (by omega) ?_ (stp_ok hRi.1 hW hs) (hO5.st hF6 hM6))
                rw [hr, rdl, if_neg (by omega), hs]
                rfl
              · omega
            · have e : rdi s.2.2 s.1 = (-2000 - sts s.2.2 i, W) := by rw [hr, rdl, if_neg (by omega), hs]
              have eo : o_farm s = (-2000 - sts s.2.2 i, (s.1, s.2.1, ux s.2.2 0 0 0)) := by unfold o_farm; rw [e, if_neg (show ¬ (0 : Int) < -2000 - sts s.2.2 i by omega)]
              show Ex _ _ _ _ _ _ _ _ [zi 0] _
              refine x_if_ne (tgt := 110) dX4_farm_92 rfl (fun d2 => ?_) (fun d2 => ?_)
              · omega
              · refine x_aload0 dX4_farm_95 ?_
                refine x_callv0 dX4_farm_96 cv_X4_188 ci_X4_close rfl (T := TX4) rfl (by omega) (Nat.le_of_ble_eq_true rfl) (t_close (hF6.sp hO5.2.1 (by decide) (by decide))) (fun r m7 hq2 => ?_)
                obtain ⟨rfl, hM7, -, hF7⟩ := hq2
                have hF8 : Fg 67 68 m3 m7 := (hO5.2.2.tr hF6.y).tr hF7
                have h72 : m7 72 (i : Int).toNat = sts s.2.2 i := by rw [hF8.1 72 (by decide)]; exact hRi.2.1
                show Ex _ _ _ _ _ _ _ _ [] _
                refine x_sipush dX4_farm_99 ⟨by decide, by decide⟩ ?_
                refine x_aload0 dX4_farm_102 ?_
                refine x_getR (q := 72) dX4_farm_103 fd_X4_59 rfl rfl rfl ?_
                refine x_iload1 dX4_farm_106 ?_
                refine x_iald dX4_farm_107 rfl (by omega) (by omega) (v := sts s.2.2 i) h72 ?_
                refine x_isub dX4_farm_108 (nrm_id (by omega) (by omega)) ?_
                rw [eo]
                exact xe_i dX4_farm_109 (⟨rfl, hC2.fg hF8 (by decide) hM7, hF0.tr (hF8.fr (by decide))⟩)
      exact loop 81 0 s.1 m4 (by decide) (by omega) er hV hO
    · omega
  refine x_aload0 dX4_farm_5 ?_
  refine x_iconst dX4_farm_6 ⟨by decide, by decide⟩ ?_
  refine x_putI dX4_farm_7 fd_X4_156 rfl rfl ?_
  refine x_aload0 dX4_farm_10 ?_
  refine x_iconst dX4_farm_11 ⟨by decide, by decide⟩ ?_
  refine x_putZ dX4_farm_12 fd_X4_159 rfl rfl (by omega) ?_
  refine x_aload0 dX4_farm_15 ?_
  refine x_iconst dX4_farm_16 ⟨by decide, by decide⟩ ?_
  refine x_putI dX4_farm_17 fd_X4_169 rfl rfl ?_
  have hF0 : FM (up (up (up m 59 30 0) 59 31 0) 59 32 0) s.2.2 0 0 0 := by
    have h := hC.2.2
    refine ⟨?_, fun z a b => ?_, ?_, ?_, up_same _ _ _ _⟩
    · rw [upn (by decide), upn (by decide), upn (by decide)]; exact h.1
    · rw [up_cell (by decide), up_cell (by decide), up_cell (by decide)]; exact h.2.1 z a b
    · rw [upn (by decide), upn (by decide), up_same]
    · rw [upn (by decide), up_same]
  have hq0 : Fq m (up (up (up m 59 30 0) 59 31 0) 59 32 0) := ⟨fun q a b c d => by rw [up_cell a, up_cell a, up_cell a], fun j a b c => by rw [upn c, upn b, upn a]⟩
  generalize up (up (up m 59 30 0) 59 31 0) 59 32 0 = m0 at hF0 hq0
  have loop : ∀ (n k : Nat) (m2 : zz_M), n + k = 81 → 3 * (k : Int) ≤ sts s.2.2 k → sts s.2.2 k ≤ s.2.2 0 0 → (s.2.2 0 0 ≠ 0 → ufi s.2.2 = unf s.2.2 n (sts s.2.2 k)) → FM m2 s.2.2 (sts s.2.2 k) 0 (k : Int) → (∀ i, i < k → wfs s.2.2 (sts s.2.2 i) ∧ SR m2 s.2.2 (sts s.2.2 i) i) → Fq m m2 → Ex E cX4_farm 2 RX4 4 (RQ m (o_farm s)) 20 [some (zr 59), none] [] m2 := by
    intro n
    induction n with
    | zero => intro k m2 hn h3 hle; omega
    | succ n ih =>
      intro k m2 hn h3 hle hu hF hR hq
      have rd : (k = 0 ∨ sts s.2.2 k < s.2.2 0 0) → Ex E cX4_farm 2 RX4 4 (RQ m (o_farm s)) 45 [some (zr 59), none] [] m2 := by
        intro hc
        refine x_aload0 dX4_farm_45 ?_
        refine x_callv0 dX4_farm_46 cv_X4_179 ci_X4_readStatement rfl (T := TX4) rfl (by omega) (Nat.le_of_ble_eq_true rfl) (t_readStatement hF (by omega) (by omega) hT h3) (fun r m3 hq2 => ?_)
        obtain ⟨rfl, hS, ⟨hw, h59, hF3, hR3⟩ | ⟨hb, hF3⟩⟩ := hq2
        · have hlt := (lat_in hw.1).2
          have h59lt : sts s.2.2 k + (dbh s.2.2 (sts s.2.2 k) : Int) + 1 < s.2.2 0 0 := (lat_rng (by rw [h59]; decide)).2
          show Ex _ _ _ _ _ _ _ _ [] _
          refine x_goto (tgt := 20) dX4_farm_49 rfl ?_
          have hw2 := hw.2
          have hw1 := hw.1
          have es : sts s.2.2 (k + 1) = sts s.2.2 k + (dbh s.2.2 (sts s.2.2 k) : Int) + 2 := rfl
          refine ih (k + 1) m3 (by omega) (by omega) (by omega) (fun h => ?_) ?_ (fun i hi => ?_) (hq.tr hS.q)
          · rw [hu h, es]
            exact unf_ok hlt hw h59
          · rw [es, show ((k + 1 : Nat) : Int) = (k : Int) + 1 by omega]
            exact hF3
          · by_cases hik : i = k
            · subst hik
              exact ⟨hw, hR3⟩
            · have := hR i (by omega)
              exact ⟨this.1, this.2.i hS (by omega)⟩
        · have hd4 := dbh_le (T := s.2.2) (sts s.2.2 k)
          have hPB : 0 ≤ PB s.2.2 (sts s.2.2 k) ∧ PB s.2.2 (sts s.2.2 k) ≤ 90 := by
            unfold PB
            split <;> omega
          have huf : ufi s.2.2 = PB s.2.2 (sts s.2.2 k) := by
            by_cases h0 : s.2.2 0 0 = 0
            · have hk0 : k = 0 := by omega
              subst hk0
              have hl : lat s.2.2 (sts s.2.2 0) = -9 := if_neg (by show ¬ ((0 : Int) ≤ 0 ∧ (0 : Int) < s.2.2 0 0); omega)
              have e0 : ldg (lat s.2.2 (sts s.2.2 0)) = 0 := by rw [hl]; rfl
              rw [ufi, if_pos h0]
              unfold PB
              rw [if_pos e0]
              rfl
            · rw [hu h0]
              refine unf_bad ?_ hb
              rcases hc with h | h
              · subst h
                show (0 : Int) < s.2.2 0 0
                omega
              · exact h
          show Ex _ _ _ _ _ _ _ _ [] _
          refine x_goto (tgt := 20) dX4_farm_49 rfl ?_
          refine x_aload0 dX4_farm_20 ?_
          refine x_getI dX4_farm_21 fd_X4_159 rfl (Or.inr rfl) (v := 1) hF3.2.2.2.1 ?_
          refine x_if_ne (tgt := 52) dX4_farm_24 rfl (fun c0 => ?_) (fun c0 => ?_)
          · exact xbad m3 _ _ hPB.1 hPB.2 huf hF3 (hq.tr hS.q)
          · omega
      refine x_aload0 dX4_farm_20 ?_
      refine x_getI dX4_farm_21 fd_X4_159 rfl (Or.inr rfl) (v := 0) hF.2.2.2.1 ?_
      refine x_if_ne (tgt := 52) dX4_farm_24 rfl (fun c0 => ?_) (fun c0 => ?_)
      · omega
      · refine x_aload0 dX4_farm_27 ?_
        refine x_getI dX4_farm_28 fd_X4_169 rfl (Or.inl rfl) (v := (k : Int)) hF.2.2.2.2 ?_
        refine x_if_eq (tgt := 45) dX4_farm_31 rfl (fun c1 => ?_) (fun c1 => ?_)
        · exact rd (Or.inl (by omega))
        · refine x_aload0 dX4_farm_34 ?_
          refine x_getI dX4_farm_35 fd_X4_156 rfl (Or.inl rfl) (v := sts s.2.2 k) hF.2.2.1 ?_
          refine x_aload0 dX4_farm_38 ?_
          refine x_getI dX4_farm_39 fd_X4_153 rfl (Or.inl rfl) (v := s.2.2 0 0) hF.1 ?_
          refine x_icmp_ge (tgt := 52) dX4_farm_42 rfl (fun c2 => ?_) (fun c2 => ?_)
          · refine xgood k m2 (by omega) (by omega) c2 ?_ hF hR hq
            rw [hu (by omega), unf, if_pos c2]
          · exact rd (Or.inr (by omega))
  exact loop 81 0 m0 (by decide) (by show (3 : Int) * 0 ≤ 0; omega) (by show (0 : Int) ≤ s.2.2 0 0; omega) (fun h => (if_neg h : ufi s.2.2 = unf s.2.2 81 0)) hF0 (fun i hi => by omega) hq0
end RM18
