section RM17
variable {E : zz_E} {m : zz_M} {s : zz_S} {T V W : zz_W} {D : Int}
theorem lat_in {p : Int} (h : ldg (lat T p) ≠ 0) : 0 ≤ p ∧ p < T 0 0 := by
  by_cases hp : 0 ≤ p ∧ p < T 0 0
  · exact hp
  · have e : lat T p = -9 := if_neg hp
    rw [e] at h
    exact absurd rfl h
theorem lat_rng {p : Int} (h : lat T p ≠ -9) : 0 ≤ p ∧ p < T 0 0 := by
  by_cases hp : 0 ≤ p ∧ p < T 0 0
  · exact hp
  · exact absurd (if_neg hp) h
abbrev CMq (m : zz_M) (T V : zz_W) (p : Int) : Option zz_V → zz_M → Prop := fun r m' => ((∃ V', stp T V p = some V' ∧ r = some (zi 1) ∧ MP m' V') ∨ (stp T V p = none ∧ r = some (zi 0))) ∧ Fy m m'
theorem t_comes (hM : MP m V) (hI : Iv D V) {p : Int} {k : Nat} (hw : wfs T p) (hR : SR m T p k) (hk : k ≤ 40) : Mt E 3 yX4_comes cX4_comes 5 (some .boolean) [zr 59, zi (k : Int)] m (CMq m T V p) := by
  have hn := hI.1
  have d0 : 0 < dbh T p → 0 ≤ dat T (p + 1) ∧ dat T (p + 1) ≤ 9 := fun g => by have := wfs_dat hw (i := 0) g; rwa [show p + 1 + ((0 : Nat) : Int) = p + 1 by omega] at this
  have d1 : 1 < dbh T p → 0 ≤ dat T (p + 2) ∧ dat T (p + 2) ≤ 9 := fun g => by have := wfs_dat hw (i := 1) g; rwa [show p + 1 + ((1 : Nat) : Int) = p + 2 by omega] at this
  refine Mt.of 3 (by decide +kernel) (Nat.le_of_ble_eq_true rfl) (Or.inr (Or.inl ⟨rfl, by rintro z m' ⟨⟨V', -, g, -⟩ | ⟨-, g⟩, -⟩ <;> cases g <;> simp⟩)) ?_ ?_
  · rintro r m' ⟨⟨V', -, rfl, -⟩ | ⟨-, rfl⟩, -⟩ <;> simp
  show Ex E cX4_comes 5 RX4 3 _ 0 [some (zr 59), some (zi (k : Int)), none, none, none] [] m
  obtain ⟨-, r73, r74, r116⟩ := hR
  have b0 : lat T p ≠ 116 → 0 < dbh T p → m 74 (4 * k) = dat T (p + 1) := fun h g => by have := r74 h 0 g; rwa [show p + 1 + ((0 : Nat) : Int) = p + 1 by omega, Nat.add_zero] at this
  have b1 : lat T p ≠ 116 → 1 < dbh T p → m 74 (4 * k + 1) = dat T (p + 2) := fun h g => by have := r74 h 1 g; rwa [show p + 1 + ((1 : Nat) : Int) = p + 2 by omega] at this
  have b2 : lat T p ≠ 116 → 2 < dbh T p → m 74 (4 * k + 2) = dat T (p + 3) := fun h g => by have := r74 h 2 g; rwa [show p + 1 + ((2 : Nat) : Int) = p + 3 by omega] at this
  have b3 : lat T p ≠ 116 → 3 < dbh T p → m 74 (4 * k + 3) = dat T (p + 4) := fun h g => by have := r74 h 3 g; rwa [show p + 1 + ((3 : Nat) : Int) = p + 4 by omega] at this
  refine x_aload0 dX4_comes_0 ?_
  refine x_getR (q := 74) dX4_comes_1 fd_X4_65 rfl rfl rfl ?_
  refine x_iconst dX4_comes_4 ⟨by decide, by decide⟩ ?_
  refine x_iload1 dX4_comes_5 ?_
  refine x_imul dX4_comes_6 (v := ((4 * k : Nat) : Int)) ((nrm_id (by omega) (by omega)).trans (by omega)) ?_
  refine x_iald dX4_comes_7 rfl (by omega) (by omega) (v := m 74 (4 * k)) rfl ?_
  refine x_istore2 dX4_comes_8 (by decide) rfl ?_
  refine x_aload0 dX4_comes_9 ?_
  refine x_getR (q := 74) dX4_comes_10 fd_X4_65 rfl rfl rfl ?_
  refine x_iconst dX4_comes_13 ⟨by decide, by decide⟩ ?_
  refine x_iload1 dX4_comes_14 ?_
  refine x_imul dX4_comes_15 (v := ((4 * k : Nat) : Int)) ((nrm_id (by omega) (by omega)).trans (by omega)) ?_
  refine x_iconst dX4_comes_16 ⟨by decide, by decide⟩ ?_
  refine x_iadd dX4_comes_17 (v := ((4 * k + 1 : Nat) : Int)) ((nrm_id (by omega) (by omega)).trans (by omega)) ?_
  refine x_iald dX4_comes_18 rfl (by omega) (by omega) (v := m 74 (4 * k + 1)) rfl ?_
  refine x_istore3 dX4_comes_19 (by decide) rfl ?_
  refine x_aload0 dX4_comes_20 ?_
  refine x_getR (q := 73) dX4_comes_21 fd_X4_62 rfl rfl rfl ?_
  refine x_iload1 dX4_comes_24 ?_
  refine x_iald dX4_comes_25 rfl (by omega) (by omega) (v := lat T p) r73 ?_
  rcases wfs_cases hw with ⟨a, g⟩ | ⟨a, g⟩ | ⟨a, g⟩ | ⟨a, g, g2⟩ | ⟨a, g⟩
  · have es : stp T V p = if V 0 0 = 6 then none else some (addn V (dat T (p + 1)) (dat T (p + 2)) (dat T (p + 3)) (dat T (p + 4))) := by rw [stp, if_pos a]
    rw [a, b0 (by omega) (by omega), b1 (by omega) (by omega)]
    have b2 := b2 (by omega) (by omega)
    have b3 := b3 (by omega) (by omega)
    refine x_look (tgt := 68) (off := 42) dX4_comes_26 rfl rfl rfl ?_
    refine x_aload0 dX4_comes_68 ?_
    refine x_getI dX4_comes_69 fd_X4_77 rfl (Or.inl rfl) (v := V 0 0) hM.nests ?_
    refine x_bipush dX4_comes_72 ⟨by decide, by decide⟩ ?_
    refine x_icmp_ne (tgt := 79) dX4_comes_74 rfl (fun c1 => ?_) (fun c1 => ?_)
    · refine x_aload0 dX4_comes_79 ?_
      refine x_getR (q := 60) dX4_comes_80 fd_X4_19 rfl rfl rfl ?_
      refine x_aload0 dX4_comes_83 ?_
      refine x_getI dX4_comes_84 fd_X4_77 rfl (Or.inl rfl) (v := V 0 0) hM.nests ?_
      refine x_iload2 dX4_comes_87 ?_
      refine x_iast dX4_comes_88 rfl (by omega) (by omega) ?_
      have hM2 : MP _ (ux _ 1 (V 0 0) (dat T (p + 1))) := hM.arrup (a := 0) (by decide) hn.1 (by omega)
      refine x_aload0 dX4_comes_89 ?_
      refine x_getR (q := 61) dX4_comes_90 fd_X4_23 rfl rfl rfl ?_
      refine x_aload0 dX4_comes_93 ?_
      refine x_getI dX4_comes_94 fd_X4_77 rfl (Or.inl rfl) (v := V 0 0) hM2.nests ?_
      refine x_iload3 dX4_comes_97 ?_
      refine x_iast dX4_comes_98 rfl (by omega) (by omega) ?_
      have hM3 : MP _ (ux _ 2 (V 0 0) (dat T (p + 2))) := hM2.arrup (a := 1) (by decide) hn.1 (by omega)
      refine x_aload0 dX4_comes_99 ?_
      refine x_getR (q := 62) dX4_comes_100 fd_X4_26 rfl rfl rfl ?_
      refine x_aload0 dX4_comes_103 ?_
      refine x_getI dX4_comes_104 fd_X4_77 rfl (Or.inl rfl) (v := V 0 0) hM3.nests ?_
      refine x_aload0 dX4_comes_107 ?_
      refine x_getR (q := 74) dX4_comes_108 fd_X4_65 rfl rfl rfl ?_
      refine x_iconst dX4_comes_111 ⟨by decide, by decide⟩ ?_
      refine x_iload1 dX4_comes_112 ?_
      refine x_imul dX4_comes_113 (v := ((4 * k : Nat) : Int)) ((nrm_id (by omega) (by omega)).trans (by omega)) ?_
      refine x_iconst dX4_comes_114 ⟨by decide, by decide⟩ ?_
      refine x_iadd dX4_comes_115 (v := ((4 * k + 2 : Nat) : Int)) ((nrm_id (by omega) (by omega)).trans (by omega)) ?_
      refine x_iald dX4_comes_116 rfl (by omega) (by omega) (v := dat T (p + 3)) (by rw [up_cell (by decide), up_cell (by decide)]; exact b2) ?_
      refine x_iast dX4_comes_117 rfl (by omega) (by omega) ?_
      have hM4 : MP _ (ux _ 3 (V 0 0) (dat T (p + 3))) := hM3.arrup (a := 2) (by decide) hn.1 (by omega)
      refine x_aload0 dX4_comes_118 ?_
      refine x_getR (q := 63) dX4_comes_119 fd_X4_29 rfl rfl rfl ?_
      refine x_aload0 dX4_comes_122 ?_
      refine x_getI dX4_comes_123 fd_X4_77 rfl (Or.inl rfl) (v := V 0 0) hM4.nests ?_
      refine x_aload0 dX4_comes_126 ?_
      refine x_getR (q := 74) dX4_comes_127 fd_X4_65 rfl rfl rfl ?_
      refine x_iconst dX4_comes_130 ⟨by decide, by decide⟩ ?_
      refine x_iload1 dX4_comes_131 ?_
      refine x_imul dX4_comes_132 (v := ((4 * k : Nat) : Int)) ((nrm_id (by omega) (by omega)).trans (by omega)) ?_
      refine x_iconst dX4_comes_133 ⟨by decide, by decide⟩ ?_
      refine x_iadd dX4_comes_134 (v := ((4 * k + 3 : Nat) : Int)) ((nrm_id (by omega) (by omega)).trans (by omega)) ?_
      refine x_iald dX4_comes_135 rfl (by omega) (by omega) (v := dat T (p + 4)) (by rw [up_cell (by decide), up_cell (by decide), up_cell (by decide)]; exact b3) ?_
      refine x_iast dX4_comes_136 rfl (by omega) (by omega) ?_
      have hM5 : MP _ (ux _ 4 (V 0 0) (dat T (p + 4))) := hM4.arrup (a := 3) (by decide) hn.1 (by omega)
      have hF5 : Fy m (up (up (up (up m 60 (V 0 0).toNat (dat T (p + 1))) 61 (V 0 0).toNat (dat T (p + 2))) 62 (V 0 0).toNat (dat T (p + 3))) 63 (V 0 0).toNat (dat T (p + 4))) := (((Fg.rf.upc (by omega)).upc (by omega)).upc (by omega)).upc (by omega)
      generalize up (up (up (up m 60 (V 0 0).toNat (dat T (p + 1))) 61 (V 0 0).toNat (dat T (p + 2))) 62 (V 0 0).toNat (dat T (p + 3))) 63 (V 0 0).toNat (dat T (p + 4)) = m5 at hM5 hF5
      generalize dat T (p + 1) = x at *
      generalize dat T (p + 2) = y at *
      generalize dat T (p + 3) = mi at *
      generalize dat T (p + 4) = li at *
      refine x_iconst dX4_comes_137 ⟨by decide, by decide⟩ ?_
      refine x_istore4 dX4_comes_138 (by decide) rfl ?_
      have loop : ∀ (q j : Nat) (m2 : zz_M), j + q = 10 → MP m2 (ux (ux (ux (ux V 1 (V 0 0) x) 2 (V 0 0) y) 3 (V 0 0) mi) 4 (V 0 0) li) → Fy m m2 → Ex E cX4_comes 5 RX4 3 (CMq m T V p) 140 [some (zr 59), some (zi (k : Int)), some (zi x), some (zi y), some (zi (j : Int))] [] m2 := by
        intro q
        induction q with
        | zero =>
          intro j m2 hj hM2 hF2
          refine x_iload4 dX4_comes_140 ?_
          refine x_bipush dX4_comes_142 ⟨by decide, by decide⟩ ?_
          refine x_icmp_ge (tgt := 169) dX4_comes_144 rfl (fun e1 => ?_) (fun e1 => ?_)
          · refine x_aload0 dX4_comes_169 ?_
            refine x_dupr dX4_comes_170 ?_
            refine x_getI dX4_comes_171 fd_X4_77 rfl (Or.inl rfl) (v := V 0 0) hM2.nests ?_
            refine x_iconst dX4_comes_174 ⟨by decide, by decide⟩ ?_
            refine x_iadd dX4_comes_175 (nrm_id (by omega) (by omega)) ?_
            refine x_putI dX4_comes_176 fd_X4_77 rfl rfl ?_
            refine x_iconst dX4_comes_179 ⟨by decide, by decide⟩ ?_
            have hM3 : MP _ (ux _ 0 0 (V 0 0 + 1)) := hM2.f (j := 0) (by decide)
            have hM6 : MP (up m2 59 0 (V 0 0 + 1)) (addn V x y mi li) := hM3.cg (fun a z => by
              unfold ux addn
              by_cases h0 : a = 0
              · subst h0; simp
              · by_cases h1 : a = 1
                · subst h1; simp
                · by_cases h2 : a = 2
                  · subst h2; simp
                  · by_cases h3 : a = 3
                    · subst h3; simp
                    · by_cases h4 : a = 4
                      · subst h4; simp
                      · simp [h0, h1, h2, h3, h4])
            exact xe_i dX4_comes_180 (⟨Or.inl ⟨_, by rw [es, if_neg c1], rfl, hM6⟩, hF2.upf (by decide)⟩)
          · omega
        | succ q ih =>
          intro j m2 hj hM2 hF2
          refine x_iload4 dX4_comes_140 ?_
          refine x_bipush dX4_comes_142 ⟨by decide, by decide⟩ ?_
          refine x_icmp_ge (tgt := 169) dX4_comes_144 rfl (fun e1 => ?_) (fun e1 => ?_)
          · omega
          · refine x_aload0 dX4_comes_147 ?_
            refine x_getR (q := 64) dX4_comes_148 fd_X4_32 rfl rfl rfl ?_
            refine x_bipush dX4_comes_151 ⟨by decide, by decide⟩ ?_
            refine x_aload0 dX4_comes_153 ?_
            refine x_getI dX4_comes_154 fd_X4_77 rfl (Or.inl rfl) (v := V 0 0) hM2.nests ?_
            refine x_imul dX4_comes_157 (nrm_id (by omega) (by omega)) ?_
            refine x_iload4 dX4_comes_158 ?_
            refine x_iadd dX4_comes_160 (nrm_id (by omega) (by omega)) ?_
            refine x_iconst dX4_comes_161 ⟨by decide, by decide⟩ ?_
            refine x_iast dX4_comes_162 rfl (by omega) (by omega) ?_
            refine x_iinc4 dX4_comes_163 (by decide) rfl (nrm_id (by omega) (by omega)) ?_
            refine x_goto (tgt := 140) dX4_comes_166 rfl ?_
            have hz := hI.2.2.2.2.2.2.2.2.2.2 (10 * V 0 0 + j) (by omega) (by omega)
            refine Ex.eq (by push_cast; rfl) rfl rfl (ih (j + 1) _ (by omega) ?_ (hF2.upc (by omega)))
            refine (hM2.eggup (z := 10 * V 0 0 + j) (x := 0) (by omega)).cg (fun a z => ?_)
            by_cases hw : a = 5 ∧ z = 10 * V 0 0 + j
            · rw [ux, if_pos hw, hw.1, hw.2]
              show 0 = V 5 (10 * V 0 0 + j)
              exact hz.symm
            · exact if_neg hw
      exact loop 10 0 m5 rfl hM5 hF5
    · refine x_iconst dX4_comes_77 ⟨by decide, by decide⟩ ?_
      exact xe_i dX4_comes_78 (⟨Or.inr ⟨by rw [es, if_pos (by omega)], rfl⟩, Fg.rf⟩)
  · have es : stp T V p = if 5 < dat T (p + 1) then none else some (ux (ux V 0 6 (dat T (p + 1))) 0 7 (dat T (p + 2))) := by rw [stp, if_neg (by omega), if_pos a]
    rw [a, b0 (by omega) (by omega), b1 (by omega) (by omega)]
    have hM2 : MP (up m 59 1 (dat T (p + 1))) (ux V 0 6 (dat T (p + 1))) := hM.f (j := 1) (by decide)
    have hM3 : MP (up (up m 59 1 (dat T (p + 1))) 59 2 (dat T (p + 2))) (ux (ux V 0 6 (dat T (p + 1))) 0 7 (dat T (p + 2))) := hM2.f (j := 2) (by decide)
    have hF3 : Fy m (up (up m 59 1 (dat T (p + 1))) 59 2 (dat T (p + 2))) := (Fg.rf.upf (by omega)).upf (by omega)
    refine x_look (tgt := 181) (off := 155) dX4_comes_26 rfl rfl rfl ?_
    refine x_aload0 dX4_comes_181 ?_
    refine x_iload2 dX4_comes_182 ?_
    refine x_putI dX4_comes_183 fd_X4_95 rfl rfl ?_
    refine x_aload0 dX4_comes_186 ?_
    refine x_iload3 dX4_comes_187 ?_
    refine x_putI dX4_comes_188 fd_X4_98 rfl rfl ?_
    refine x_iload2 dX4_comes_191 ?_
    refine x_bipush dX4_comes_192 ⟨by decide, by decide⟩ ?_
    refine x_icmp_ge (tgt := 201) dX4_comes_194 rfl (fun c1 => ?_) (fun c1 => ?_)
    · refine x_iconst dX4_comes_201 ⟨by decide, by decide⟩ ?_
      exact xe_i dX4_comes_202 (⟨Or.inr ⟨by rw [es, if_pos (by omega)], rfl⟩, hF3⟩)
    · refine x_iconst dX4_comes_197 ⟨by decide, by decide⟩ ?_
      refine x_goto (tgt := 202) dX4_comes_198 rfl ?_
      exact xe_i dX4_comes_202 (⟨Or.inl ⟨_, by rw [es, if_neg (by omega)], rfl, hM3⟩, hF3⟩)
  · have hd0 := d0 (by omega)
    have hd1 := d1 (by omega)
    have es : stp T V p = if V 0 0 ≤ dat T (p + 1) ∨ 9 ≤ V 5 (10 * dat T (p + 1) + dat T (p + 2)) then none else some (ux V 5 (10 * dat T (p + 1) + dat T (p + 2)) (V 5 (10 * dat T (p + 1) + dat T (p + 2)) + 1)) := by rw [stp, if_neg (by omega), if_neg (by omega), if_neg (by omega), if_neg (by omega)]
    rw [a, b0 (by omega) (by omega), b1 (by omega) (by omega)]
    have no : (V 0 0 ≤ dat T (p + 1) ∨ 9 ≤ V 5 (10 * dat T (p + 1) + dat T (p + 2))) → Ex E cX4_comes 5 RX4 3 (CMq m T V p) 259 [some (zr 59), some (zi (k : Int)), some (zi (dat T (p + 1))), some (zi (dat T (p + 2))), none] [] m := by
      intro h
      refine x_iconst dX4_comes_259 ⟨by decide, by decide⟩ ?_
      exact xe_i dX4_comes_260 (⟨Or.inr ⟨by rw [es, if_pos h], rfl⟩, Fg.rf⟩)
    refine x_look (tgt := 235) (off := 209) dX4_comes_26 rfl rfl rfl ?_
    refine x_aload0 dX4_comes_235 ?_
    refine x_iload2 dX4_comes_236 ?_
    refine x_callv1 dX4_comes_237 cv_X4_175 ci_X4_isNest rfl (T := TX4) rfl (by omega) (Nat.le_of_ble_eq_true rfl) (t_isNest hM hn) (fun r m1 hq => ?_)
    obtain ⟨rfl, rfl⟩ := hq
    show Ex _ _ _ _ _ _ _ _ [zi (if 0 ≤ dat T (p + 1) ∧ dat T (p + 1) < V 0 0 then 1 else 0)] _
    by_cases h1 : 0 ≤ dat T (p + 1) ∧ dat T (p + 1) < V 0 0
    · have he := hI.2.2.2.2.2.2.2.2.2.1 (10 * dat T (p + 1) + dat T (p + 2)) (by omega) (by omega)
      have heg := hM.egg (z := 10 * dat T (p + 1) + dat T (p + 2)) (by omega) (by omega)
      rw [if_pos h1]
      refine x_if_eq (tgt := 259) dX4_comes_240 rfl (fun c1 => ?_) (fun c1 => ?_)
      · omega
      · refine x_aload0 dX4_comes_243 ?_
        refine x_getR (q := 64) dX4_comes_244 fd_X4_32 rfl rfl rfl ?_
        refine x_bipush dX4_comes_247 ⟨by decide, by decide⟩ ?_
        refine x_iload2 dX4_comes_249 ?_
        refine x_imul dX4_comes_250 (nrm_id (by omega) (by omega)) ?_
        refine x_iload3 dX4_comes_251 ?_
        refine x_iadd dX4_comes_252 (nrm_id (by omega) (by omega)) ?_
        refine x_iald dX4_comes_253 rfl (by omega) (by omega) (v := V 5 (10 * dat T (p + 1) + dat T (p + 2))) heg ?_
        refine x_bipush dX4_comes_254 ⟨by decide, by decide⟩ ?_
        refine x_icmp_ne (tgt := 261) dX4_comes_256 rfl (fun c2 => ?_) (fun c2 => ?_)
        · have hM2 := hM.eggup (z := 10 * dat T (p + 1) + dat T (p + 2)) (x := V 5 (10 * dat T (p + 1) + dat T (p + 2)) + 1) (by omega)
          refine x_aload0 dX4_comes_261 ?_
          refine x_getR (q := 64) dX4_comes_262 fd_X4_32 rfl rfl rfl ?_
          refine x_bipush dX4_comes_265 ⟨by decide, by decide⟩ ?_
          refine x_iload2 dX4_comes_267 ?_
          refine x_imul dX4_comes_268 (nrm_id (by omega) (by omega)) ?_
          refine x_iload3 dX4_comes_269 ?_
          refine x_iadd dX4_comes_270 (nrm_id (by omega) (by omega)) ?_
          refine x_dup2 dX4_comes_271 ?_
          refine x_iald dX4_comes_272 rfl (by omega) (by omega) (v := V 5 (10 * dat T (p + 1) + dat T (p + 2))) heg ?_
          refine x_iconst dX4_comes_273 ⟨by decide, by decide⟩ ?_
          refine x_iadd dX4_comes_274 (nrm_id (by omega) (by omega)) ?_
          refine x_iast dX4_comes_275 rfl (by omega) (by omega) ?_
          refine x_iconst dX4_comes_276 ⟨by decide, by decide⟩ ?_
          exact xe_i dX4_comes_277 (⟨Or.inl ⟨_, by rw [es, if_neg (by omega)], rfl, hM2⟩, Fg.rf.upc (by omega)⟩)
        · exact no (Or.inr (by omega))
    · rw [if_neg h1]
      refine x_if_eq (tgt := 259) dX4_comes_240 rfl (fun c1 => ?_) (fun c1 => ?_)
      · exact no (Or.inl (by omega))
      · omega
  · have es : stp T V p = if 40 < (if dbh T p = 1 then dat T (p + 1) else 10 * dat T (p + 1) + dat T (p + 2)) then none else some (ux V 0 8 (if dbh T p = 1 then dat T (p + 1) else 10 * dat T (p + 1) + dat T (p + 2))) := by rw [stp, if_neg (by omega), if_neg (by omega), if_pos a]
    rw [← r116 a] at es
    rw [a]
    generalize m 74 (4 * k) = x at es
    have hM2 : MP (up m 59 3 x) (ux V 0 8 x) := hM.f (j := 3) (by decide)
    have hF2 : Fy m (up m 59 3 x) := Fg.rf.upf (by omega)
    refine x_look (tgt := 203) (off := 177) dX4_comes_26 rfl rfl rfl ?_
    refine x_aload0 dX4_comes_203 ?_
    refine x_iload2 dX4_comes_204 ?_
    refine x_putI dX4_comes_205 fd_X4_7 rfl rfl ?_
    refine x_iload2 dX4_comes_208 ?_
    refine x_bipush dX4_comes_209 ⟨by decide, by decide⟩ ?_
    refine x_icmp_gt (tgt := 218) dX4_comes_211 rfl (fun c1 => ?_) (fun c1 => ?_)
    · refine x_iconst dX4_comes_218 ⟨by decide, by decide⟩ ?_
      exact xe_i dX4_comes_219 (⟨Or.inr ⟨by rw [es, if_pos (by omega)], rfl⟩, hF2⟩)
    · refine x_iconst dX4_comes_214 ⟨by decide, by decide⟩ ?_
      refine x_goto (tgt := 219) dX4_comes_215 rfl ?_
      exact xe_i dX4_comes_219 (⟨Or.inl ⟨_, by rw [es, if_neg (by omega)], rfl, hM2⟩, hF2⟩)
  · have es : stp T V p = if dat T (p + 1) < 1 then none else some (ux V 0 9 (dat T (p + 1))) := by rw [stp, if_neg (by omega), if_neg (by omega), if_neg (by omega), if_pos a]
    rw [a, b0 (by omega) (by omega)]
    have hM2 : MP (up m 59 4 (dat T (p + 1))) (ux V 0 9 (dat T (p + 1))) := hM.f (j := 4) (by decide)
    have hF2 : Fy m (up m 59 4 (dat T (p + 1))) := Fg.rf.upf (by omega)
    refine x_look (tgt := 220) (off := 194) dX4_comes_26 rfl rfl rfl ?_
    refine x_aload0 dX4_comes_220 ?_
    refine x_iload2 dX4_comes_221 ?_
    refine x_putI dX4_comes_222 fd_X4_13 rfl rfl ?_
    refine x_iload2 dX4_comes_225 ?_
    refine x_if_le (tgt := 233) dX4_comes_226 rfl (fun c1 => ?_) (fun c1 => ?_)
    · refine x_iconst dX4_comes_233 ⟨by decide, by decide⟩ ?_
      exact xe_i dX4_comes_234 (⟨Or.inr ⟨by rw [es, if_pos (by omega)], rfl⟩, hF2⟩)
    · refine x_iconst dX4_comes_229 ⟨by decide, by decide⟩ ?_
      refine x_goto (tgt := 234) dX4_comes_230 rfl ?_
      exact xe_i dX4_comes_234 (⟨Or.inl ⟨_, by rw [es, if_neg (by omega)], rfl, hM2⟩, hF2⟩)
end RM17
