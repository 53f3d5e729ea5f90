section TX2
variable {E : zz_E} {m : zz_M} {s : zz_S} {T V : zz_W} {D : Int}
/-- a statement that stands whole at p -/
def wfs (T : zz_W) (p : Int) : Prop := ldg (lat T p) ≠ 0 ∧ ldg (lat T p) ≤ dbh T p
theorem wfs_dat {p : Int} (h : wfs T p) {i : Nat} (hi : i < dbh T p) : 0 ≤ dat T (p + 1 + i) ∧ dat T (p + 1 + i) ≤ 9 := by
  have h1 := dgs_dig (T := T) _ (p + 1) i hi
  have h2 := dat_bd (T := T) (p + 1 + i)
  omega
theorem wfs_cases {p : Int} (h : wfs T p) : lat T p = 110 ∧ 4 ≤ dbh T p ∨ lat T p = 104 ∧ 2 ≤ dbh T p ∨ lat T p = 101 ∧ 2 ≤ dbh T p ∨ lat T p = 116 ∧ 1 ≤ dbh T p ∧ dbh T p ≤ 2 ∨ lat T p = 114 ∧ 1 ≤ dbh T p := by
  obtain ⟨h1, h2⟩ := h
  by_cases a : lat T p = 110
  · rw [a] at h2; exact Or.inl ⟨a, h2⟩
  · by_cases b : lat T p = 104
    · rw [b] at h2; exact Or.inr (Or.inl ⟨b, h2⟩)
    · by_cases c : lat T p = 101
      · rw [c] at h2; exact Or.inr (Or.inr (Or.inl ⟨c, h2⟩))
      · by_cases d : lat T p = 116
        · have h3 := dgs_le (T := T) 2 (p + 1)
          have h4 : dbh T p = dgs T 2 (p + 1) := by rw [dbh, if_pos d]
          rw [d] at h2
          exact Or.inr (Or.inr (Or.inr (Or.inl ⟨d, h2, by omega⟩)))
        · by_cases e : lat T p = 114
          · rw [e] at h2; exact Or.inr (Or.inr (Or.inr (Or.inr ⟨e, h2⟩)))
          · exact absurd (by rw [ldg, if_neg a, if_neg b, if_neg c, if_neg d, if_neg e]) h1
theorem Iv_egg {z x : Int} (h : Iv D V) (hz : 0 ≤ z ∧ z < 10 * V 0 0) (hx : 0 ≤ x ∧ x ≤ 9) : Iv D (ux V 5 z x) := by
  obtain ⟨hn, hl, hk0, hd, hk, hfg, ht, hr, hxx, he, hzz⟩ := h
  refine ⟨hn, hl, hk0, hd, hk, hfg, ht, hr, hxx, fun w a b => ?_, fun w a b => ?_⟩
  · unfold ux
    split
    · exact hx
    · exact he w a b
  · have : ux V 5 z x 5 w = V 5 w := if_neg (fun q => by have := q.2; have : 10 * V 0 0 ≤ w := a; omega)
    rw [this]
    exact hzz w a b
theorem stp_ok {p : Int} {V' : zz_W} (h : wfs T p) (hI : Iv D V) (hs : stp T V p = some V') : Iv D V' := by
  have d0 : 0 < dbh T p → 0 ≤ dat T (p + 1) ∧ dat T (p + 1) ≤ 9 := fun g => by have := wfs_dat h (i := 0) g; rwa [show p + 1 + ((0 : Nat) : Int) = p + 1 by omega] at this
  have d1 : 1 < dbh T p → 0 ≤ dat T (p + 2) ∧ dat T (p + 2) ≤ 9 := fun g => by have := wfs_dat h (i := 1) g; rwa [show p + 1 + ((1 : Nat) : Int) = p + 2 by omega] at this
  have d2 : 2 < dbh T p → 0 ≤ dat T (p + 3) ∧ dat T (p + 3) ≤ 9 := fun g => by have := wfs_dat h (i := 2) g; rwa [show p + 1 + ((2 : Nat) : Int) = p + 3 by omega] at this
  have d3 : 3 < dbh T p → 0 ≤ dat T (p + 4) ∧ dat T (p + 4) ≤ 9 := fun g => by have := wfs_dat h (i := 3) g; rwa [show p + 1 + ((3 : Nat) : Int) = p + 4 by omega] at this
  have hn := hI.1
  rcases wfs_cases h with ⟨a, g⟩ | ⟨a, g⟩ | ⟨a, g⟩ | ⟨a, g, g2⟩ | ⟨a, g⟩
  · rw [stp, if_pos a] at hs
    split at hs
    · cases hs
    · cases hs
      exact Iv_addn hI (by omega) (d0 (by omega)) (d1 (by omega)) (d2 (by omega)) (d3 (by omega))
  · rw [stp, if_neg (by omega), if_pos a] at hs
    split at hs
    · cases hs
    · cases hs
      have := d0 (by omega)
      exact Iv_ux0 (Iv_ux0 hI (Or.inr (Or.inr (Or.inr (Or.inl ⟨rfl, by omega, by omega⟩))))) (Or.inr (Or.inr (Or.inr (Or.inr (Or.inl ⟨rfl, d1 (by omega)⟩)))))
  · rw [stp, if_neg (by omega), if_neg (by omega), if_neg (by omega), if_neg (by omega)] at hs
    split at hs
    · cases hs
    · cases hs
      have := d0 (by omega)
      have := d1 (by omega)
      have he := hI.2.2.2.2.2.2.2.2.2.1 (10 * dat T (p + 1) + dat T (p + 2)) (by omega) (by omega)
      exact Iv_egg hI (by omega) (by omega)
  · rw [stp, if_neg (by omega), if_neg (by omega), if_pos a] at hs
    by_cases h1 : dbh T p = 1
    · rw [if_pos h1] at hs
      split at hs
      · cases hs
      · cases hs
        have := d0 (by omega)
        exact Iv_ux0 hI (Or.inr (Or.inr (Or.inr (Or.inr (Or.inr (Or.inl ⟨rfl, by omega, by omega⟩))))))
    · rw [if_neg h1] at hs
      split at hs
      · cases hs
      · cases hs
        have := d0 (by omega)
        have := d1 (by omega)
        exact Iv_ux0 hI (Or.inr (Or.inr (Or.inr (Or.inr (Or.inr (Or.inl ⟨rfl, by omega, by omega⟩))))))
  · rw [stp, if_neg (by omega), if_neg (by omega), if_neg (by omega), if_pos a] at hs
    split at hs
    · cases hs
    · cases hs
      have := d0 (by omega)
      exact Iv_ux0 hI (Or.inr (Or.inr (Or.inr (Or.inr (Or.inr (Or.inr ⟨rfl, by omega, by omega⟩))))))
abbrev APq (m : zz_M) (T V : zz_W) (p : Int) : Option zz_V → zz_M → Prop := fun r m' => ((∃ V', stp T V p = some V' ∧ r = some (zi 1) ∧ YP m' 16 V') ∨ (stp T V p = none ∧ r = some (zi 0) ∧ ∃ V', YP m' 16 V')) ∧ Fr 16 24 m m'
theorem s_applyStatement (hR : CR m T) (hl : 0 ≤ T 0 0 ∧ T 0 0 ≤ 80) (hY : YP m 16 V) (hI : Iv D V) {p : Int} (hp : 0 ≤ p ∧ p < T 0 0) (hw : wfs T p) : Mt E 3 yX0_applyStatement cX0_applyStatement 6 (some .boolean) [zr 53, zr 16, zi p, zi (dbh T p : Int)] m (APq m T V p) := by
  have hn := hI.1
  have d0 : 0 < dbh T p → 0 ≤ dat T (p + 1) ∧ dat T (p + 1) ≤ 9 := fun g => by have := wfs_dat hw (i := 0) g; rwa [show p + 1 + ((0 : Nat) : Int) = p + 1 by omega] at this
  have d1 : 1 < dbh T p → 0 ≤ dat T (p + 2) ∧ dat T (p + 2) ≤ 9 := fun g => by have := wfs_dat hw (i := 1) g; rwa [show p + 1 + ((1 : Nat) : Int) = p + 2 by omega] at this
  refine Mt.of 2 (by decide +kernel) (Nat.le_of_ble_eq_true rfl) (Or.inr (Or.inl ⟨rfl, by rintro z m' ⟨⟨V', -, g, -⟩ | ⟨-, g, -⟩, -⟩ <;> cases g <;> simp⟩)) ?_ ?_
  · rintro r m' ⟨⟨V', -, rfl, -⟩ | ⟨-, rfl, -⟩, -⟩ <;> simp
  show Ex E cX0_applyStatement 6 RX0 3 _ 0 [some (zr 53), some (zr 16), some (zi p), some (zi (dbh T p : Int)), none, none] [] m
  refine x_aload0 dX0_applyStatement_0 ?_
  refine x_iload2 dX0_applyStatement_1 ?_
  refine x_iconst dX0_applyStatement_2 ⟨by decide, by decide⟩ ?_
  refine x_iadd dX0_applyStatement_3 (nrm_id (by omega) (by omega)) ?_
  refine x_callv1 dX0_applyStatement_4 cv_X0_37 ci_X0_digitAt rfl (T := TX0) rfl (by omega) (Nat.le_of_ble_eq_true rfl) (s_digitAt hR hl) (fun r m1 hq => ?_)
  obtain ⟨rfl, rfl⟩ := hq
  show Ex _ _ _ _ _ _ _ _ [zi (dat T (p + 1))] _
  refine x_istore4 dX0_applyStatement_7 (by decide) rfl ?_
  refine x_aload0 dX0_applyStatement_9 ?_
  refine x_iload2 dX0_applyStatement_10 ?_
  refine x_iconst dX0_applyStatement_11 ⟨by decide, by decide⟩ ?_
  refine x_iadd dX0_applyStatement_12 (nrm_id (by omega) (by omega)) ?_
  refine x_callv1 dX0_applyStatement_13 cv_X0_37 ci_X0_digitAt rfl (T := TX0) rfl (by omega) (Nat.le_of_ble_eq_true rfl) (s_digitAt hR hl) (fun r m2 hq => ?_)
  obtain ⟨rfl, rfl⟩ := hq
  show Ex _ _ _ _ _ _ _ _ [zi (dat T (p + 2))] _
  refine x_istore5 dX0_applyStatement_16 (by decide) rfl ?_
  refine x_aload0 dX0_applyStatement_18 ?_
  refine x_iload2 dX0_applyStatement_19 ?_
  refine x_callv1 dX0_applyStatement_20 cv_X0_34 ci_X0_letterAt rfl (T := TX0) rfl (by omega) (Nat.le_of_ble_eq_true rfl) (s_letterAt hR hl) (fun r m3 hq => ?_)
  obtain ⟨rfl, rfl⟩ := hq
  show Ex _ _ _ _ _ _ _ _ [zi (lat T p)] _
  have e7 : ∀ E : zz_E, ro E 77 (0 : Int).toNat = 0 ∧ ro E 78 (0 : Int).toNat = 5 ∧ ro E 77 (1 : Int).toNat = 0 ∧ ro E 78 (1 : Int).toNat = 9 ∧ ro E 77 (2 : Int).toNat = 0 ∧ ro E 78 (2 : Int).toNat = 40 ∧ ro E 77 (3 : Int).toNat = 1 ∧ ro E 78 (3 : Int).toNat = 9 := fun E => ⟨rfl, rfl, rfl, rfl, rfl, rfl, rfl, rfl⟩
  obtain ⟨r0, r1, r2, r3, r4, r5, r6, r7⟩ := e7 E
  rcases wfs_cases hw with ⟨a, g⟩ | ⟨a, g⟩ | ⟨a, g⟩ | ⟨a, g, g2⟩ | ⟨a, g⟩
  · rw [a]
    have es : stp T V p = if V 0 0 = 6 then none else some (addn V (dat T (p + 1)) (dat T (p + 2)) (dat T (p + 3)) (dat T (p + 4))) := by rw [stp, if_pos a]
    refine x_look (tgt := 72) (off := 49) dX0_applyStatement_23 rfl rfl rfl ?_
    refine x_aload1 dX0_applyStatement_72 ?_
    refine x_iload4 dX0_applyStatement_73 ?_
    refine x_iload5 dX0_applyStatement_75 ?_
    refine x_aload0 dX0_applyStatement_77 ?_
    refine x_iload2 dX0_applyStatement_78 ?_
    refine x_iconst dX0_applyStatement_79 ⟨by decide, by decide⟩ ?_
    refine x_iadd dX0_applyStatement_80 (nrm_id (by omega) (by omega)) ?_
    refine x_callv1 dX0_applyStatement_81 cv_X0_37 ci_X0_digitAt rfl (T := TX0) rfl (by omega) (Nat.le_of_ble_eq_true rfl) (s_digitAt hR hl) (fun r m4 hq => ?_)
    obtain ⟨rfl, rfl⟩ := hq
    show Ex _ _ _ _ _ _ _ _ [zi (dat T (p + 3)), zi (dat T (p + 2)), zi (dat T (p + 1)), zr 16] _
    refine x_aload0 dX0_applyStatement_84 ?_
    refine x_iload2 dX0_applyStatement_85 ?_
    refine x_iconst dX0_applyStatement_86 ⟨by decide, by decide⟩ ?_
    refine x_iadd dX0_applyStatement_87 (nrm_id (by omega) (by omega)) ?_
    refine x_callv1 dX0_applyStatement_88 cv_X0_37 ci_X0_digitAt rfl (T := TX0) rfl (by omega) (Nat.le_of_ble_eq_true rfl) (s_digitAt hR hl) (fun r m5 hq => ?_)
    obtain ⟨rfl, rfl⟩ := hq
    show Ex _ _ _ _ _ _ _ _ [zi (dat T (p + 4)), zi (dat T (p + 3)), zi (dat T (p + 2)), zi (dat T (p + 1)), zr 16] _
    refine x_callv4 dX0_applyStatement_91 cv_X0_40 ci_X2_addNest (by first | rfl | exact yb_k (by assumption)) (T := TX2) rfl (by omega) (Nat.le_of_ble_eq_true rfl) (s_addNest yb_16 hY hn) (fun r m6 hq => ?_)
    rcases hq with ⟨h6, rfl, rfl⟩ | ⟨h6, rfl, hY6, hF6⟩
    · exact xe_i dX0_applyStatement_94 (⟨Or.inr ⟨by rw [es, if_pos h6], rfl, _, hY⟩, Fr.rf⟩)
    · exact xe_i dX0_applyStatement_94 (⟨Or.inl ⟨_, by rw [es, if_neg (by omega)], rfl, hY6⟩, hF6⟩)
  · rw [a]
    have := d0 (by omega)
    have := d1 (by omega)
    have es : stp T V p = if 5 < dat T (p + 1) then none else some (ux (ux V 0 6 (dat T (p + 1))) 0 7 (dat T (p + 2))) := by rw [stp, if_neg (by omega), if_pos a]
    refine x_look (tgt := 95) (off := 72) dX0_applyStatement_23 rfl rfl rfl ?_
    refine x_aload1 dX0_applyStatement_95 ?_
    refine x_iconst dX0_applyStatement_96 ⟨by decide, by decide⟩ ?_
    refine x_iload4 dX0_applyStatement_97 ?_
    refine x_callv2 dX0_applyStatement_99 cv_X0_46 ci_X2_change (by first | rfl | exact yb_k (by assumption)) (T := TX2) rfl (by omega) (Nat.le_of_ble_eq_true rfl) (s_change yb_16 hY (q := 0) (by decide) (by decide)) (fun r m4 hq => ?_)
    rcases hq with ⟨h6, rfl, rfl⟩ | ⟨h6, h7, rfl, hY6, hF6⟩
    · rw [r0, r1] at h6
      show Ex _ _ _ _ _ _ _ _ [zi 0] _
      refine x_if_eq (tgt := 119) dX0_applyStatement_102 rfl (fun c1 => ?_) (fun c1 => ?_)
      · refine x_iconst dX0_applyStatement_119 ⟨by decide, by decide⟩ ?_
        exact xe_i dX0_applyStatement_120 (⟨Or.inr ⟨by rw [es, if_pos (by omega)], rfl, _, hY⟩, Fr.rf⟩)
      · omega
    · rw [r0] at h6
      rw [r1] at h7
      show Ex _ _ _ _ _ _ _ _ [zi 1] _
      refine x_if_eq (tgt := 119) dX0_applyStatement_102 rfl (fun c1 => ?_) (fun c1 => ?_)
      · omega
      · refine x_aload1 dX0_applyStatement_105 ?_
        refine x_iconst dX0_applyStatement_106 ⟨by decide, by decide⟩ ?_
        refine x_iload5 dX0_applyStatement_107 ?_
        refine x_callv2 dX0_applyStatement_109 cv_X0_46 ci_X2_change (by first | rfl | exact yb_k (by assumption)) (T := TX2) rfl (by omega) (Nat.le_of_ble_eq_true rfl) (s_change yb_16 hY6 (q := 1) (by decide) (by decide)) (fun r m5 hq => ?_)
        rcases hq with ⟨h8, rfl, rfl⟩ | ⟨h8, h9, rfl, hY7, hF7⟩
        · rw [r2, r3] at h8
          omega
        · show Ex _ _ _ _ _ _ _ _ [zi 1] _
          refine x_if_eq (tgt := 119) dX0_applyStatement_112 rfl (fun c2 => ?_) (fun c2 => ?_)
          · omega
          · refine x_iconst dX0_applyStatement_115 ⟨by decide, by decide⟩ ?_
            refine x_goto (tgt := 120) dX0_applyStatement_116 rfl ?_
            exact xe_i dX0_applyStatement_120 (⟨Or.inl ⟨_, by rw [es, if_neg (by omega)]; rfl, rfl, hY7⟩, hF6.tr hF7⟩)
  · rw [a]
    have := d0 (by omega)
    have := d1 (by omega)
    have es : stp T V p = if V 0 0 ≤ dat T (p + 1) ∨ 9 ≤ V 5 (10 * dat T (p + 1) + dat T (p + 2)) then none else some (ux V 5 (10 * dat T (p + 1) + dat T (p + 2)) (V 5 (10 * dat T (p + 1) + dat T (p + 2)) + 1)) := by rw [stp, if_neg (by omega), if_neg (by omega), if_neg (by omega), if_neg (by omega)]
    refine x_look (tgt := 153) (off := 130) dX0_applyStatement_23 rfl rfl rfl ?_
    refine x_aload1 dX0_applyStatement_153 ?_
    refine x_iload4 dX0_applyStatement_154 ?_
    refine x_iload5 dX0_applyStatement_156 ?_
    refine x_callv2 dX0_applyStatement_158 cv_X0_50 ci_X2_addEgg (by first | rfl | exact yb_k (by assumption)) (T := TX2) rfl (by omega) (Nat.le_of_ble_eq_true rfl) (s_addEgg yb_16 hY hn (n := dat T (p + 1)) (g := dat T (p + 2)) (by omega) (by omega) (by omega)) (fun r m4 hq => ?_)
    rcases hq with ⟨h6, rfl, rfl⟩ | ⟨h6, h7, rfl, hY6, hF6⟩
    · exact xe_i dX0_applyStatement_161 (⟨Or.inr ⟨by rw [es, if_pos h6], rfl, _, hY⟩, Fr.rf⟩)
    · have he := hI.2.2.2.2.2.2.2.2.2.1 (10 * dat T (p + 1) + dat T (p + 2)) (by omega) (by omega)
      rw [nrm_id (by omega) (by omega)] at hY6
      exact xe_i dX0_applyStatement_161 (⟨Or.inl ⟨_, by rw [es, if_neg (by omega)], rfl, hY6⟩, hF6⟩)
  · rw [a]
    have := d0 (by omega)
    have es : stp T V p = if 40 < (if dbh T p = 1 then dat T (p + 1) else 10 * dat T (p + 1) + dat T (p + 2)) then none else some (ux V 0 8 (if dbh T p = 1 then dat T (p + 1) else 10 * dat T (p + 1) + dat T (p + 2))) := by rw [stp, if_neg (by omega), if_neg (by omega), if_pos a]
    have fin : ∀ v : Int, 0 ≤ v → v = (if dbh T p = 1 then dat T (p + 1) else 10 * dat T (p + 1) + dat T (p + 2)) → Ex E cX0_applyStatement 6 RX0 3 (APq m3 T V p) 141 [some (zr 53), some (zr 16), some (zi p), some (zi (dbh T p : Int)), some (zi (dat T (p + 1))), some (zi (dat T (p + 2)))] [zi v, zi 2, zr 16] m3 := by
      intro v hv0 hv
      rw [← hv] at es
      refine x_callv2 dX0_applyStatement_141 cv_X0_46 ci_X2_change (by first | rfl | exact yb_k (by assumption)) (T := TX2) rfl (by omega) (Nat.le_of_ble_eq_true rfl) (s_change yb_16 hY (q := 2) (by decide) (by decide)) (fun r m4 hq => ?_)
      rcases hq with ⟨h6, rfl, rfl⟩ | ⟨h6, h7, rfl, hY6, hF6⟩
      · rw [r4, r5] at h6
        exact xe_i dX0_applyStatement_144 (⟨Or.inr ⟨by rw [es, if_pos (by omega)], rfl, _, hY⟩, Fr.rf⟩)
      · rw [r5] at h7
        exact xe_i dX0_applyStatement_144 (⟨Or.inl ⟨_, by rw [es, if_neg (by omega)]; rfl, rfl, hY6⟩, hF6⟩)
    refine x_look (tgt := 121) (off := 98) dX0_applyStatement_23 rfl rfl rfl ?_
    refine x_aload1 dX0_applyStatement_121 ?_
    refine x_iconst dX0_applyStatement_122 ⟨by decide, by decide⟩ ?_
    refine x_iload3 dX0_applyStatement_123 ?_
    refine x_iconst dX0_applyStatement_124 ⟨by decide, by decide⟩ ?_
    refine x_icmp_ne (tgt := 133) dX0_applyStatement_125 rfl (fun c1 => ?_) (fun c1 => ?_)
    · have := d1 (by omega)
      refine x_iload4 dX0_applyStatement_133 ?_
      refine x_bipush dX0_applyStatement_135 ⟨by decide, by decide⟩ ?_
      refine x_imul dX0_applyStatement_137 (nrm_id (by omega) (by omega)) ?_
      refine x_iload5 dX0_applyStatement_138 ?_
      refine x_iadd dX0_applyStatement_140 (v := 10 * dat T (p + 1) + dat T (p + 2)) (by rw [show dat T (p + 1) * 10 + dat T (p + 2) = 10 * dat T (p + 1) + dat T (p + 2) by omega]; exact nrm_id (by omega) (by omega)) ?_
      exact fin _ (by omega) (by rw [if_neg (by omega)])
    · refine x_iload4 dX0_applyStatement_128 ?_
      refine x_goto (tgt := 141) dX0_applyStatement_130 rfl ?_
      exact fin _ (by omega) (by rw [if_pos (by omega)])
  · rw [a]
    have := d0 (by omega)
    have es : stp T V p = if dat T (p + 1) < 1 then none else some (ux V 0 9 (dat T (p + 1))) := by rw [stp, if_neg (by omega), if_neg (by omega), if_neg (by omega), if_pos a]
    refine x_look (tgt := 145) (off := 122) dX0_applyStatement_23 rfl rfl rfl ?_
    refine x_aload1 dX0_applyStatement_145 ?_
    refine x_iconst dX0_applyStatement_146 ⟨by decide, by decide⟩ ?_
    refine x_iload4 dX0_applyStatement_147 ?_
    refine x_callv2 dX0_applyStatement_149 cv_X0_46 ci_X2_change (by first | rfl | exact yb_k (by assumption)) (T := TX2) rfl (by omega) (Nat.le_of_ble_eq_true rfl) (s_change yb_16 hY (q := 3) (by decide) (by decide)) (fun r m4 hq => ?_)
    rcases hq with ⟨h6, rfl, rfl⟩ | ⟨h6, h7, rfl, hY6, hF6⟩
    · rw [r6, r7] at h6
      exact xe_i dX0_applyStatement_152 (⟨Or.inr ⟨by rw [es, if_pos (by omega)], rfl, _, hY⟩, Fr.rf⟩)
    · rw [r6] at h6
      exact xe_i dX0_applyStatement_152 (⟨Or.inl ⟨_, by rw [es, if_neg (by omega)]; rfl, rfl, hY6⟩, hF6⟩)
theorem unf_step {k : Nat} {p : Int} (hp : 0 ≤ p) (hlt : p < T 0 0) (h : unf T (k + 1) p = -9) : wfs T p ∧ lat T (p + (dbh T p : Int) + 1) = 59 ∧ unf T k (p + (dbh T p : Int) + 2) = -9 := by
  rw [unf, if_neg (by omega)] at h
  by_cases h1 : ldg (lat T p) = 0
  · rw [if_pos h1] at h; omega
  · rw [if_neg h1] at h
    by_cases h2 : dbh T p < ldg (lat T p) ∨ lat T (p + (dbh T p : Int) + 1) ≠ 59
    · rw [if_pos h2] at h; omega
    · rw [if_neg h2] at h
      exact ⟨⟨h1, by omega⟩, by omega, h⟩
theorem s_readInto (hR : CR m T) (hl : 0 ≤ T 0 0 ∧ T 0 0 ≤ 80) (hY : YP m 16 V) (hI : Iv D V) : Mt E 5 yX0_readInto cX0_readInto 6 (some .int) [zr 53, zr 16] m (fun r m' => r = some (zi (rdi T V).1) ∧ (∃ V', YP m' 16 V' ∧ (0 < (rdi T V).1 → V' = (rdi T V).2)) ∧ Fr 16 24 m m') := by
  refine Mt.of 4 (by decide +kernel) (Nat.le_of_ble_eq_true rfl) (Or.inl rfl) ?_ ?_
  · rintro r m' ⟨rfl, -⟩; simp
  show Ex E cX0_readInto 6 RX0 5 _ 0 [some (zr 53), some (zr 16), none, none, none, none] [] m
  refine x_aload0 dX0_readInto_0 ?_
  refine x_callv0 dX0_readInto_1 cv_X0_19 ci_X0_firstUnfit rfl (T := TX0) rfl (by omega) (Nat.le_of_ble_eq_true rfl) (s_firstUnfit hR hl) (fun r m1 hq => ?_)
  obtain ⟨rfl, rfl⟩ := hq
  show Ex _ _ _ _ _ _ _ _ [zi (ufi T)] _
  refine x_istore2 dX0_readInto_4 (by decide) rfl ?_
  refine x_iload2 dX0_readInto_5 ?_
  refine x_bipush dX0_readInto_6 ⟨by decide, by decide⟩ ?_
  have hub : -9 ≤ ufi T ∧ ufi T ≤ 1000 := by
    have key : ∀ (k : Nat) (p : Int), 0 ≤ p → p ≤ 80 → -9 ≤ unf T k p ∧ unf T k p ≤ 1000 := by
      intro k
      induction k with
      | zero => intro p _ _; exact ⟨by show (-9 : Int) ≤ -9; omega, by show (-9 : Int) ≤ 1000; omega⟩
      | succ k ih =>
        intro p h0 h1
        have hd4 := dbh_le (T := T) p
        rw [unf]
        split
        · decide
        · rename_i hlt
          split
          · omega
          · split
            · omega
            · rename_i h2
              have hdi := dbh_in hl.1 h0 (show p < T 0 0 by omega)
              refine ih _ (by omega) ?_
              have h59 : lat T (p + (dbh T p : Int) + 1) = 59 := by omega
              unfold lat at h59
              split at h59 <;> omega
    unfold ufi
    split
    · decide
    · exact key 81 0 (by decide) (by decide)
  refine x_icmp_eq (tgt := 17) dX0_readInto_8 rfl (fun h1 => ?_) (fun h1 => ?_)
  · have hu : unf T 81 0 = -9 ∧ T 0 0 ≠ 0 := by
      unfold ufi at h1
      split at h1
      · omega
      · rename_i h2; exact ⟨h1, h2⟩
    have er : rdi T V = rdl T 81 0 0 V := by rw [rdi, if_neg (fun q => q h1)]
    rw [er]
    refine x_iconst dX0_readInto_17 ⟨by decide, by decide⟩ ?_
    refine x_istore3 dX0_readInto_18 (by decide) rfl ?_
    refine x_iconst dX0_readInto_19 ⟨by decide, by decide⟩ ?_
    refine x_istore4 dX0_readInto_20 (by decide) rfl ?_
    have loop : ∀ (k : Nat) (p n : Int) (W : zz_W) (m2 : zz_M) (o : Option zz_V), 0 ≤ p → p ≤ 80 → T 0 0 < p + k → (0 ≤ n ∧ n ≤ p) → (p ≠ 0 → 0 < n) → unf T k p = -9 → YP m2 16 W → Iv D W → Fr 16 24 m1 m2 →
        Ex E cX0_readInto 6 RX0 5 (fun r m' => r = some (zi (rdl T k p n W).1) ∧ (∃ V', YP m' 16 V' ∧ (0 < (rdl T k p n W).1 → V' = (rdl T k p n W).2)) ∧ Fr 16 24 m1 m') 22 [some (zr 53), some (zr 16), some (zi (ufi T)), some (zi n), some (zi p), o] [] m2 := by
      intro k
      induction k with
      | zero =>
        intro p n W m2 o hp hp8 hk hn hn0 hu hY2 hI2 hF2
        have hR2 := hR.f53 hF2 (by omega)
        refine x_iload4 dX0_readInto_22 ?_
        refine x_aload0 dX0_readInto_24 ?_
        refine x_getI dX0_readInto_25 fd_X0_15 rfl (Or.inl rfl) (v := T 0 0) hR2.1 ?_
        refine x_icmp_ge (tgt := 73) dX0_readInto_28 rfl (fun c1 => ?_) (fun c1 => ?_)
        · refine x_iload3 dX0_readInto_73 ?_
          exact xe_i dX0_readInto_74 (⟨rfl, ⟨W, hY2, fun _ => rfl⟩, hF2⟩)
        · omega
      | succ k ih =>
        intro p n W m2 o hp hp8 hk hn hn0 hu hY2 hI2 hF2
        refine Ex.wk (L' := [some (zr 53), some (zr 16), some (zi (ufi T)), some (zi n), some (zi p), none]) ⟨rfl, rfl, rfl, rfl, rfl, trivial⟩ ?_
        have hR2 := hR.f53 hF2 (by omega)
        refine x_iload4 dX0_readInto_22 ?_
        refine x_aload0 dX0_readInto_24 ?_
        refine x_getI dX0_readInto_25 fd_X0_15 rfl (Or.inl rfl) (v := T 0 0) hR2.1 ?_
        refine x_icmp_ge (tgt := 73) dX0_readInto_28 rfl (fun c1 => ?_) (fun c1 => ?_)
        · have e : rdl T (k + 1) p n W = (n, W) := by rw [rdl, if_pos c1]
          refine x_iload3 dX0_readInto_73 ?_
          exact xe_i dX0_readInto_74 (⟨by rw [e], ⟨W, hY2, fun _ => by rw [e]⟩, hF2⟩)
        · obtain ⟨hw, h59, hu2⟩ := unf_step hp c1 hu
          have hd4 := dbh_le (T := T) p
          have hq80 : p + (dbh T p : Int) + 1 < T 0 0 := by
            unfold lat at h59
            split at h59 <;> omega
          refine x_aload0 dX0_readInto_31 ?_
          refine x_iload4 dX0_readInto_32 ?_
          refine x_callv1 dX0_readInto_34 cv_X0_23 ci_X0_digitsBehind rfl (T := TX0) rfl (by omega) (Nat.le_of_ble_eq_true rfl) (s_digitsBehind hR2 hl hp (by omega)) (fun r m3 hq => ?_)
          obtain ⟨rfl, rfl⟩ := hq
          show Ex _ _ _ _ _ _ _ _ [zi (dbh T p : Int)] _
          refine x_istore5 dX0_readInto_37 (by decide) rfl ?_
          refine x_aload0 dX0_readInto_39 ?_
          refine x_aload1 dX0_readInto_40 ?_
          refine x_iload4 dX0_readInto_41 ?_
          refine x_iload5 dX0_readInto_43 ?_
          refine x_callv3 dX0_readInto_45 cv_X0_27 ci_X0_applyStatement rfl (T := TX0) rfl (by omega) (Nat.le_of_ble_eq_true rfl) (s_applyStatement hR2 hl hY2 hI2 ⟨hp, c1⟩ hw) (fun r m4 hq => ?_)
          obtain ⟨⟨W', hs, rfl, hY4⟩ | ⟨hs, rfl, W', hY4⟩, hF4⟩ := hq
          · show Ex _ _ _ _ _ _ _ _ [zi 1] _
            refine x_if_ne (tgt := 58) dX0_readInto_48 rfl (fun c2 => ?_) (fun c2 => ?_)
            · have e : rdl T (k + 1) p n W = rdl T k (p + (dbh T p : Int) + 2) (n + 1) W' := by rw [rdl, if_neg (by omega), hs]
              rw [e]
              refine x_iinc3 dX0_readInto_58 (by decide) rfl (nrm_id (by omega) (by omega)) ?_
              refine x_iload4 dX0_readInto_61 ?_
              refine x_iload5 dX0_readInto_63 ?_
              refine x_iconst dX0_readInto_65 ⟨by decide, by decide⟩ ?_
              refine x_iadd dX0_readInto_66 (nrm_id (by omega) (by omega)) ?_
              refine x_iadd dX0_readInto_67 (nrm_id (by omega) (by omega)) ?_
              refine x_istore4 dX0_readInto_68 (by decide) rfl ?_
              refine x_goto (tgt := 22) dX0_readInto_70 rfl ?_
              exact Ex.eq (by rw [show p + ((dbh T p : Int) + 2) = p + (dbh T p : Int) + 2 by omega]) rfl rfl (ih (p + (dbh T p : Int) + 2) (n + 1) W' m4 _ (by omega) (by omega) (by omega) (by omega) (fun _ => by omega) hu2 hY4 (stp_ok hw hI2 hs) (hF2.tr hF4))
            · omega
          · show Ex _ _ _ _ _ _ _ _ [zi 0] _
            refine x_if_ne (tgt := 58) dX0_readInto_48 rfl (fun c2 => ?_) (fun c2 => ?_)
            · omega
            · have e : rdl T (k + 1) p n W = (-2000 - p, W) := by rw [rdl, if_neg (by omega), hs]
              refine x_sipush dX0_readInto_51 ⟨by decide, by decide⟩ ?_
              refine x_iload4 dX0_readInto_54 ?_
              refine x_isub dX0_readInto_56 (nrm_id (by omega) (by omega)) ?_
              exact xe_i dX0_readInto_57 (⟨by rw [e], ⟨W', hY4, fun h => by rw [e] at h; have h : 0 < -2000 - p := h; omega⟩, hF2.tr hF4⟩)
    exact loop 81 0 0 V m1 none (by decide) (by decide) (by omega) (by decide) (fun h => absurd rfl h) hu.1 hY hI Fr.rf
  · have er : rdi T V = (-1000 - ufi T, V) := by rw [rdi, if_pos h1]
    refine x_sipush dX0_readInto_11 ⟨by decide, by decide⟩ ?_
    refine x_iload2 dX0_readInto_14 ?_
    refine x_isub dX0_readInto_15 (nrm_id (by omega) (by omega)) ?_
    exact xe_i dX0_readInto_16 (⟨by rw [er], ⟨V, hY, fun _ => by rw [er]⟩, Fr.rf⟩)
theorem CR.len0 {T : zz_W} (h : CR m T) : CR (up m 53 1 0) (ux T 0 0 0) := by
  obtain ⟨g1, g2, g3, g4, g5, g6⟩ := h
  refine ⟨?_, fun z a b => ?_, ?_, ?_, fun z a b => ?_, fun z a b => ?_⟩
  · rw [up_same]; rfl
  · rw [up_cell (by decide), g2 z a b]; rfl
  · rw [up_cell (by decide), g3]; rfl
  · rw [up_cell (by decide), g4]; rfl
  · rw [up_cell (by decide), g5 z a b]; rfl
  · rw [up_cell (by decide), g6 z a b]; rfl
theorem s_farm (hC : CP m s) (hI : Is s) : Mt E 6 yX3_farm cX3_farm 2 (some .int) [zr 55] m (CQ m (o_farm s)) := by
  have hV := hI.1
  have hY := hC.1.1
  have hl := hI.2.2.1
  refine Mt.of 1 (by decide +kernel) (Nat.le_of_ble_eq_true rfl) (Or.inl rfl) ?_ ?_
  · exact CQ.rt
  show Ex E cX3_farm 2 RX3 6 _ 0 [some (zr 55), none] [] m
  obtain ⟨V1, hY1⟩ := hC.yp16
  refine x_aload0 dX3_farm_0 ?_
  refine x_getR (q := 16) dX3_farm_1 fd_X3_19 rfl rfl rfl ?_
  refine x_aload0 dX3_farm_4 ?_
  refine x_getR (q := 0) dX3_farm_5 fd_X3_10 rfl rfl rfl ?_
  refine x_callv1 dX3_farm_8 cv_X3_57 ci_X2_copyFrom (by first | rfl | exact yb_k (by assumption)) (T := TX2) rfl (by omega) (Nat.le_of_ble_eq_true rfl) (s_copyFrom yb_16 yb_0 (by omega) hY1 hY) (fun r m1 hq => ?_)
  obtain ⟨rfl, hYm, hF1⟩ := hq
  have hF1 : Fr 16 24 m m1 := hF1
  show Ex _ _ _ _ _ _ _ _ [] _
  refine x_aload0 dX3_farm_11 ?_
  refine x_getR (q := 53) dX3_farm_12 fd_X3_32 rfl rfl rfl ?_
  refine x_aload0 dX3_farm_15 ?_
  refine x_getR (q := 16) dX3_farm_16 fd_X3_19 rfl rfl rfl ?_
  refine x_callv1 dX3_farm_19 cv_X3_61 ci_X0_readInto rfl (T := TX0) rfl (by omega) (Nat.le_of_ble_eq_true rfl) (s_readInto (hC.2.f53 hF1 (by omega)) hl hYm hV) (fun r m2 hq => ?_)
  obtain ⟨rfl, ⟨W, hYW, hW⟩, hF2⟩ := hq
  have hC2 := hC.mind (hF1.tr hF2) hYW
  show Ex _ _ _ _ _ _ _ _ [zi (rdi s.2.2 s.1).1] _
  refine x_istore1 dX3_farm_22 (by decide) rfl ?_
  refine x_aload0 dX3_farm_23 ?_
  refine x_getR (q := 53) dX3_farm_24 fd_X3_32 rfl rfl rfl ?_
  refine x_iconst dX3_farm_27 ⟨by decide, by decide⟩ ?_
  refine x_putI dX3_farm_28 fd_X3_50 rfl rfl ?_
  refine x_iload1 dX3_farm_31 ?_
  have hC3 : CP (up m2 53 1 0) (s.1, s.2.1, ux s.2.2 0 0 0) := hC2.rest (lo := 53) (hi := 54) (Fr.rf.up (by omega) (by omega)) (by omega) hC2.2.len0
  have hF3 : Fr 0 59 m (up m2 53 1 0) := ((hF1.tr hF2).wd (by omega) (by omega)).up (by omega) (by omega)
  refine x_if_le (tgt := 46) dX3_farm_32 rfl (fun c1 => ?_) (fun c1 => ?_)
  · have eo : o_farm s = ((rdi s.2.2 s.1).1, (s.1, s.2.1, ux s.2.2 0 0 0)) := by unfold o_farm; rw [if_neg (by omega)]
    rw [eo]
    refine x_iload1 dX3_farm_46 ?_
    exact xe_i dX3_farm_47 (⟨rfl, hC3, hF3⟩)
  · rw [hW c1] at hYW
    have hYW3 : YP (up m2 53 1 0) 16 (rdi s.2.2 s.1).2 := hYW.fr (lo := 53) (hi := 54) (Fr.rf.up (by omega) (by omega)) (by omega)
    refine x_aload0 dX3_farm_35 ?_
    refine x_getR (q := 0) dX3_farm_36 fd_X3_10 rfl rfl rfl ?_
    refine x_aload0 dX3_farm_39 ?_
    refine x_getR (q := 16) dX3_farm_40 fd_X3_19 rfl rfl rfl ?_
    refine x_callv1 dX3_farm_43 cv_X3_57 ci_X2_copyFrom (by first | rfl | exact yb_k (by assumption)) (T := TX2) rfl (by omega) (Nat.le_of_ble_eq_true rfl) (s_copyFrom yb_0 yb_16 (by omega) hC3.1.1 hYW3) (fun r m4 hq => ?_)
    obtain ⟨rfl, hY4, hF4⟩ := hq
    have hF4 : Fr 0 8 (up m2 53 1 0) m4 := hF4
    show Ex _ _ _ _ _ _ _ _ [] _
    refine x_iload1 dX3_farm_46 ?_
    have eo : o_farm s = ((rdi s.2.2 s.1).1, ((rdi s.2.2 s.1).2, s.2.1, ux s.2.2 0 0 0)) := by unfold o_farm; rw [if_pos c1]
    rw [eo]
    exact xe_i dX3_farm_47 (⟨rfl, hC3.yard hF4 hY4, hF3.tr (hF4.wd (by omega) (by omega))⟩)
end TX2
