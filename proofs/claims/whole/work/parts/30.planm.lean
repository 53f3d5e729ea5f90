section PL5
variable {E : zz_E} {m : zz_M} {s : zz_S} {V : zz_W} {D : Int}
/-- alike in what looks and nights leave -/
def bse (V' V : zz_W) : Prop := (∀ z, z ≠ 1 → z ≠ 2 → z ≠ 3 → z ≠ 4 → z ≠ 5 → V' 0 z = V 0 z) ∧ ∀ a z, a ≠ 0 → a ≠ 5 → V' a z = V a z
theorem bse.sym {V' V : zz_W} (h : bse V' V) : bse V V' := ⟨fun z a b c d e => (h.1 z a b c d e).symm, fun a z b c => (h.2 a z b c).symm⟩
theorem bse.tr {A B C : zz_W} (h : bse A B) (h' : bse B C) : bse A C := ⟨fun z a b c d e => (h.1 z a b c d e).trans (h'.1 z a b c d e), fun a z b c => (h.2 a z b c).trans (h'.2 a z b c)⟩
theorem bse_tak (V : zz_W) (q : Int) : bse (tak V q) V := ⟨fun z _ b _ _ _ => tak_sc V q z b, fun a z b c => by unfold tak; rw [if_neg c, if_neg (fun h => b h.1)]⟩
theorem bse_nit (V : zz_W) : bse (nit V) V := ⟨fun z a b c d _ => by unfold nit pass; rw [if_neg (by decide), if_pos rfl, if_neg a, if_neg b, if_neg c, if_neg d], fun a z b c => by unfold nit pass; rw [if_neg c, if_neg b]⟩
theorem crs_eqv {V' V : zz_W} (h : bse V' V) : eqv V (crs V' V) := by
  intro a z hz
  unfold crs
  by_cases h1 : a = 5 ∨ a = 0 ∧ (z = 1 ∨ z = 2 ∨ z = 4)
  · rw [if_pos h1]
  · rw [if_neg h1]
    by_cases ha : a = 0
    · subst ha
      exact h.1 z (by omega) (by omega) (by omega) (by omega) (by omega)
    · exact h.2 a z ha (by omega)
theorem eqv_bse {V W : zz_W} (h : eqv V W) : bse W V := ⟨fun z _ _ c _ e => h 0 z (by omega), fun a z b _ => h a z (by omega)⟩
theorem eqv_Iv {W : zz_W} (h : eqv V W) (hI : Iv D V) : Iv D W := by
  rw [eqv_ux h]
  exact Iv_ux0 (Iv_ux0 hI (Or.inr (Or.inl rfl))) (Or.inr (Or.inr (Or.inl rfl)))
def dep (m : zz_M) (b : Nat) (V : zz_W) : Prop := ∀ c, (c = b + 8 ∨ c = b + 16) → c ≤ 40 → ∃ V', YP m c V' ∧ bse V' V
def MFq (m : zz_M) (b dp n : Nat) (V : zz_W) : Option zz_V → zz_M → Prop := fun r m' => r = some (zi (pfv n V).1) ∧ YP m' b V ∧ dep m' b V ∧ PQ m m' (b + 8) dp (pfv n V).2
def MF (E : zz_E) (d n dp : Nat) : Prop := ∀ (m : zz_M) (V : zz_W) (D : Int) (b : Nat), b = 24 + 8 * dp → YB b → YP m b V → Iv D V → D + n ≤ 20000 → V 0 0 ≠ 0 → LA m V (ase V) → m 52 0 = 0 → dep m b V →
  Mt E d yX1_mostFrom cX1_mostFrom 9 (some .int) [zr 48, zi dp, zi n] m (MFq m b dp n V)
theorem s_mostFrom1 {d dp : Nat} (hd : 4 ≤ d) (hdp : dp ≤ 2) : MF E d 1 dp := by
  intro m V D b hb0 hb hY hI hD h0 hL h52 hdep
  refine Mt.of 6 (by decide +kernel) (Nat.le_of_ble_eq_true rfl) (Or.inl rfl) ?_ ?_
  · rintro r m' ⟨rfl, -⟩; simp
  show Ex E cX1_mostFrom 9 RX1 d _ 0 [some (zr 48), some (zi dp), some (zi ((1 : Nat) : Int)), none, none, none, none, none, none] [] m
  refine x_iload1 dX1_mostFrom_0 ?_
  refine x_if_lt (tgt := 13) dX1_mostFrom_1 rfl (fun c1 => ?_) (fun c1 => ?_)
  · omega
  · refine x_iload1 dX1_mostFrom_4 ?_
    refine x_aload0 dX1_mostFrom_5 ?_
    refine x_getR (q := 49) dX1_mostFrom_6 fd_X1_12 rfl rfl rfl ?_
    refine x_alen dX1_mostFrom_9 (Or.inr rfl) (by decide) ?_
    refine x_icmp_lt (tgt := 15) dX1_mostFrom_10 rfl (fun c2 => ?_) (fun c2 => ?_)
    · refine x_iload2 dX1_mostFrom_15 ?_
      refine x_iconst dX1_mostFrom_16 ⟨by decide, by decide⟩ ?_
      refine x_icmp_le (tgt := 31) dX1_mostFrom_17 rfl (fun c3 => ?_) (fun c3 => ?_)
      · refine x_aload0 dX1_mostFrom_31 ?_
        refine x_iload1 dX1_mostFrom_32 ?_
        refine x_callv1 dX1_mostFrom_33 cv_X1_56 ci_X1_mostToday rfl (T := TX1) rfl (by omega) (Nat.le_of_ble_eq_true rfl) (s_mostToday hdp hb0 hb hY hI hL h52) (fun r m1 hq => ?_)
        obtain ⟨rfl, hY1, hP, hF⟩ := hq
        exact xe_i dX1_mostFrom_36 (⟨rfl, hY1, fun c hc hc40 => by obtain ⟨V', h1, h2⟩ := hdep c hc hc40; exact ⟨V', h1.kept (fun k e f => hF k (by omega)), h2⟩, hP⟩)
      · omega
    · have c2 : ((3 : Nat) : Int) ≤ (dp : Int) := c2
      omega
theorem yb_c {b : Nat} (h : b = 24 ∨ b = 32 ∨ b = 40) : YB b := by
  rcases h with rfl | rfl | rfl
  · exact yb_24
  · exact yb_32
  · exact yb_40
theorem s_mostFromS {d n dp : Nat} (hd : 4 ≤ d) (hdp : dp ≤ 1) (hn2 : 1 ≤ n) (hn3 : n ≤ 2) (hrec : MF E d n (dp + 1)) : MF E (d + 1) (n + 1) dp := by
  intro m V D b hb0 hb hY hI hD h0 hL h52 hdep
  have hn := hI.1
  obtain ⟨e1, e2, e3, e4⟩ := ase_pow hn
  have hle := ast_len V (ase V)
  have hpb := pfv_bd n hI (by omega) h0
  have hal : 0 ≤ alle V ∧ alle V ≤ 540 := by
    have := smI_bd (f := eggs V) (c := 90) (V 0 0).toNat (fun i a b => eggs_bd hI.2.2.2.2.2.2.2.2.2.1 a (by omega) 10 (by decide))
    unfold alle
    omega
  refine Mt.of 6 (by decide +kernel) (Nat.le_of_ble_eq_true rfl) (Or.inl rfl) ?_ ?_
  · rintro r m' ⟨rfl, -⟩; simp
  show Ex E cX1_mostFrom 9 RX1 (d + 1) _ 0 [some (zr 48), some (zi dp), some (zi ((n + 1 : Nat) : Int)), none, none, none, none, none, none] [] m
  obtain ⟨c, hc⟩ : ∃ c, c = b + 8 := ⟨_, rfl⟩
  have hcb : YB c := yb_c (by omega)
  have hgen : ∃ c', c' = c := ⟨_, rfl⟩
  refine x_iload1 dX1_mostFrom_0 ?_
  refine x_if_lt (tgt := 13) dX1_mostFrom_1 rfl (fun c1 => ?_) (fun c1 => ?_)
  · omega
  · refine x_iload1 dX1_mostFrom_4 ?_
    refine x_aload0 dX1_mostFrom_5 ?_
    refine x_getR (q := 49) dX1_mostFrom_6 fd_X1_12 rfl rfl rfl ?_
    refine x_alen dX1_mostFrom_9 (Or.inr rfl) (by decide) ?_
    refine x_icmp_lt (tgt := 15) dX1_mostFrom_10 rfl (fun c2 => ?_) (fun c2 => ?_)
    · refine x_iload2 dX1_mostFrom_15 ?_
      refine x_iconst dX1_mostFrom_16 ⟨by decide, by decide⟩ ?_
      refine x_icmp_le (tgt := 31) dX1_mostFrom_17 rfl (fun c3 => ?_) (fun c3 => ?_)
      · omega
      · refine x_iload1 dX1_mostFrom_20 ?_
        refine x_iconst dX1_mostFrom_21 ⟨by decide, by decide⟩ ?_
        refine x_iadd dX1_mostFrom_22 (nrm_id (by omega) (by omega)) ?_
        refine x_aload0 dX1_mostFrom_23 ?_
        refine x_getR (q := 49) dX1_mostFrom_24 fd_X1_12 rfl rfl rfl ?_
        refine x_alen dX1_mostFrom_27 (Or.inr rfl) (by decide) ?_
        refine x_icmp_ne (tgt := 37) dX1_mostFrom_28 rfl (fun c4 => ?_) (fun c4 => ?_)
        · refine x_aload0 dX1_mostFrom_37 ?_
          refine x_getR (q := 49) dX1_mostFrom_38 fd_X1_12 rfl rfl rfl ?_
          refine x_iload1 dX1_mostFrom_41 ?_
          refine x_aald dX1_mostFrom_42 rfl (by omega) (by omega) (q := b) (by omega) ?_
          refine x_astore3 dX1_mostFrom_43 (by decide) rfl ?_
          refine x_aload0 dX1_mostFrom_44 ?_
          refine x_getR (q := 49) dX1_mostFrom_45 fd_X1_12 rfl rfl rfl ?_
          refine x_iload1 dX1_mostFrom_48 ?_
          refine x_iconst dX1_mostFrom_49 ⟨by decide, by decide⟩ ?_
          refine x_iadd dX1_mostFrom_50 (nrm_id (by omega) (by omega)) ?_
          refine x_aald dX1_mostFrom_51 rfl (by omega) (by omega) (q := c) (by omega) ?_
          refine x_astore4 dX1_mostFrom_52 (by decide) rfl ?_
          refine x_aload3 dX1_mostFrom_54 ?_
          refine x_callv0 dX1_mostFrom_55 cv_X1_59 ci_X2_allEggs (by first | rfl | exact yb_k (by assumption)) (T := TX2) rfl (by omega) (Nat.le_of_ble_eq_true rfl) (s_allEggs hb hY hI) (fun r m1 hq => ?_)
          obtain ⟨rfl, rfl⟩ := hq
          show Ex _ _ _ _ _ _ _ _ [zi (alle V)] _
          refine x_iload2 dX1_mostFrom_58 ?_
          refine x_iadd dX1_mostFrom_59 (nrm_id (by omega) (by omega)) ?_
          refine x_iconst dX1_mostFrom_60 ⟨by decide, by decide⟩ ?_
          refine x_isub dX1_mostFrom_61 (nrm_id (by omega) (by omega)) ?_
          refine x_istore5 dX1_mostFrom_62 (by decide) rfl ?_
          refine x_iconst dX1_mostFrom_64 ⟨by decide, by decide⟩ ?_
          refine x_istore6 dX1_mostFrom_65 (by decide) rfl ?_
          refine x_iconst dX1_mostFrom_67 ⟨by decide, by decide⟩ ?_
          refine x_istore7 dX1_mostFrom_68 (by decide) rfl ?_
          have hlist : ∀ (post pre : List Nat) (m2 : zz_M) (a : Int × Int) (o : Option zz_V), pre ++ post = ast V (ase V) → bsf (fun q => tkn V (q : Int) + (pfv n (nit (tak V (q : Int)))).1) post a = pfv (n + 1) V → (-1 ≤ a.1 ∧ a.1 ≤ 2000) → YP m2 b V → dep m2 b V → m2 52 0 = 0 → m2 48 4 = m1 48 4 → ((0 ≤ a.1 ∨ dp ≠ 0) → m2 48 5 = if dp = 0 then a.2 else m1 48 5) → (∀ k, k ≠ 48 → k ≠ 51 → k ≠ 52 → (k < c ∨ 49 ≤ k) → m2 k = m1 k) →
              Ex E cX1_mostFrom 9 RX1 (d + 1) (MFq m1 b dp (n + 1) V) 70 [some (zr 48), some (zi dp), some (zi ((n + 1 : Nat) : Int)), some (zr b), some (zr c), some (zi (alle V + ((n + 1 : Nat) : Int) - 1)), some (zi a.1), some (zi (pre.length : Int)), o] [] m2 := by
            intro post
            induction post with
            | nil =>
              intro pre m2 a o hp hbs ha hY2 hdep2 h522 hc4 hc5 hF2
              refine x_iload7 dX1_mostFrom_70 ?_
              refine x_aload0 dX1_mostFrom_72 ?_
              refine x_getI dX1_mostFrom_73 fd_X1_32 rfl (Or.inl rfl) (v := (pre.length : Int)) (by rw [hc4, hL.1, ← hp, List.append_nil]) ?_
              refine x_icmp_ge (tgt := 165) dX1_mostFrom_76 rfl (fun c5 => ?_) (fun c5 => ?_)
              · refine x_iload6 dX1_mostFrom_165 ?_
                have ea : a = pfv (n + 1) V := hbs
                exact xe_i dX1_mostFrom_167 (⟨by rw [ea], hY2, hdep2, h522, hc4, by rw [hc5 (Or.inl (by rw [ea]; exact hpb.1)), ea], fun k e f g h => hF2 k e f g (by omega)⟩)
              · omega
            | cons q post ih =>
              intro pre m2 a o hp hbs ha hY2 hdep2 h522 hc4 hc5 hF2
              refine Ex.wk (L' := [some (zr 48), some (zi dp), some (zi ((n + 1 : Nat) : Int)), some (zr b), some (zr c), some (zi (alle V + ((n + 1 : Nat) : Int) - 1)), some (zi a.1), some (zi (pre.length : Int)), none]) ⟨rfl, rfl, rfl, rfl, rfl, rfl, rfl, rfl, trivial⟩ ?_
              have hlen2 := congrArg List.length hp
              rw [List.length_append, List.length_cons] at hlen2
              have hget : (ast V (ase V))[pre.length]? = some q := by rw [← hp, List.getElem?_append_right (Nat.le_refl _), Nat.sub_self]; rfl
              have hqm := List.mem_of_getElem? hget
              have hm := hL.2 _ _ hget
              obtain ⟨h64, hsub⟩ := ast_64 hI hqm
              have e50 : m2 50 = m1 50 := hF2 50 (by decide) (by decide) (by decide) (by omega)
              refine x_iload7 dX1_mostFrom_70 ?_
              refine x_aload0 dX1_mostFrom_72 ?_
              refine x_getI dX1_mostFrom_73 fd_X1_32 rfl (Or.inl rfl) (v := ((ast V (ase V)).length : Int)) (by rw [hc4, hL.1]) ?_
              refine x_icmp_ge (tgt := 165) dX1_mostFrom_76 rfl (fun c5 => ?_) (fun c5 => ?_)
              · omega
              · refine x_iload6 dX1_mostFrom_79 ?_
                refine x_iload5 dX1_mostFrom_81 ?_
                refine x_icmp_ge (tgt := 165) dX1_mostFrom_83 rfl (fun c6 => ?_) (fun c6 => ?_)
                · -- no set finds more
                  refine x_iload6 dX1_mostFrom_165 ?_
                  have ea : a = pfv (n + 1) V := by
                    rw [← hbs]
                    refine (bsf_stop _ _ _ (fun p hpm => ?_)).symm
                    have := hpb.2.2 p (by rw [← hp]; exact List.mem_append_right _ hpm)
                    show tkn V (p : Int) + (pfv n (nit (tak V (p : Int)))).1 ≤ a.1
                    omega
                  exact xe_i dX1_mostFrom_167 (⟨by rw [ea], hY2, hdep2, h522, hc4, by rw [hc5 (Or.inl (by rw [ea]; exact hpb.1)), ea], fun k e f g h => hF2 k e f g (by omega)⟩)
                · obtain ⟨V', hV', hbse⟩ := hdep2 c (Or.inl hc) (by omega)
                  have hev := crs_eqv hbse
                  refine x_aload4 dX1_mostFrom_86 ?_
                  refine x_aload3 dX1_mostFrom_88 ?_
                  refine x_callv1 dX1_mostFrom_89 cv_X1_63 ci_X2_copyCourse (by first | rfl | exact yb_k (by assumption)) (T := TX2) rfl (by omega) (Nat.le_of_ble_eq_true rfl) (s_copyCourse hcb hb (by omega) hV' hY2) (fun r m3 hq2 => ?_)
                  obtain ⟨rfl, hY3, hF3⟩ := hq2
                  show Ex _ _ _ _ _ _ _ _ [] _
                  have hI3 := eqv_Iv hev hI
                  have e503 : m3 50 = m2 50 := hF3 50 (by omega)
                  refine x_aload4 dX1_mostFrom_92 ?_
                  refine x_aload0 dX1_mostFrom_94 ?_
                  refine x_getR (q := 50) dX1_mostFrom_95 fd_X1_18 rfl rfl rfl ?_
                  refine x_iload7 dX1_mostFrom_98 ?_
                  refine x_iald dX1_mostFrom_100 rfl (by omega) (by omega) (v := (q : Int)) (by rw [e503, e50]; exact hm) ?_
                  refine x_callv1 dX1_mostFrom_101 cv_X1_66 ci_X2_takeEggs (by first | rfl | exact yb_k (by assumption)) (T := TX2) rfl (by omega) (Nat.le_of_ble_eq_true rfl) (s_takeEggs hcb hY3 hI3 (s := (q : Int))) (fun r m4 hq2 => ?_)
                  obtain ⟨rfl, hY4, hF4⟩ := hq2
                  rw [eqv_tkn hev]
                  show Ex _ _ _ _ _ _ _ _ [zi (tkn V (q : Int))] _
                  have hI4 := Iv_tak hI3 (s := (q : Int)) (by omega) (by omega)
                  have hsc4 : tak (crs V' V) (q : Int) 0 0 ≠ 0 := by
                    rw [tak_sc _ _ _ (by decide), hev 0 0 (by decide)]
                    exact h0
                  refine x_istore8 dX1_mostFrom_104 (by decide) rfl ?_
                  refine x_aload4 dX1_mostFrom_106 ?_
                  refine x_aload4 dX1_mostFrom_108 ?_
                  refine x_aload4 dX1_mostFrom_110 ?_
                  refine x_callv0 dX1_mostFrom_112 cv_X1_69 ci_X2_allNests (by first | rfl | exact yb_k (by assumption)) (T := TX2) rfl (by omega) (Nat.le_of_ble_eq_true rfl) (s_allNests hcb hY4 hI4) (fun r m5 hq2 => ?_)
                  obtain ⟨rfl, rfl⟩ := hq2
                  refine x_callv1 dX1_mostFrom_115 cv_X1_72 ci_X2_laysAmong (by first | rfl | exact yb_k (by assumption)) (T := TX2) rfl (by omega) (Nat.le_of_ble_eq_true rfl) (s_laysAmong hcb hY4 hI4 (by omega) (all_sub hI4.1.1 hI4.1.2)) (fun r m6 hq2 => ?_)
                  obtain ⟨rfl, hY6, hF6⟩ := hq2
                  have hl := lay_in hI4 (by omega) hsc4
                  rw [lc_nn (show 0 ≤ lays _ (alln _) from hl.1)]
                  refine x_callv1 dX1_mostFrom_118 cv_X1_75 ci_X2_passNight (by first | rfl | exact yb_k (by assumption)) (T := TX2) rfl (by omega) (Nat.le_of_ble_eq_true rfl) (s_passNight hcb hY6 hI4 (by omega) hl) (fun r m7 hq2 => ?_)
                  obtain ⟨rfl, hY7, hF7⟩ := hq2
                  show Ex _ _ _ _ _ _ _ _ [] _
                  have hIn := nit_ok hI4 (by omega) hsc4
                  have hF27 : Fr c (c + 8) m2 m7 := ((hF3.tr hF4).to hF6 (by omega) (by omega)).tr hF7
                  have hev2 : eqv (nit (tak V (q : Int))) (nit (tak (crs V' V) (q : Int))) := eqv_nit (eqv_tak hev _)
                  have hbse2 : bse (nit (tak (crs V' V) (q : Int))) V := (bse_nit _).tr ((bse_tak _ _).tr (eqv_bse hev))
                  have hast : ast (nit (tak (crs V' V) (q : Int))) (ase (nit (tak (crs V' V) (q : Int)))) = ast V (ase V) := (eqv_ast hev2).trans (ast_nt V (q : Int))
                  have hY7 : YP m7 c (nit (tak (crs V' V) (q : Int))) := hY7
                  have hpe := eqv_pfv n hev2
                  generalize nit (tak (crs V' V) (q : Int)) = W at hIn hev2 hbse2 hast hY7 hpe
                  have hW0 : W 0 0 ≠ 0 := by rw [hbse2.1 0 (by decide) (by decide) (by decide) (by decide) (by decide)]; exact h0
                  have e48 : m7 48 = m2 48 := hF27 48 (by omega)
                  have hLW : LA m7 W (ase W) := by
                    unfold LA
                    rw [hast, e48, hc4]
                    refine ⟨hL.1, fun i p hip => ?_⟩
                    rw [hF27 50 (by omega), e50]
                    exact hL.2 i p hip
                  have hdep7 : dep m7 c W := by
                    intro c2 hc2 hc40
                    obtain ⟨V2, g1, g2⟩ := hdep2 c2 (by omega) hc40
                    exact ⟨V2, g1.fr hF27 (by omega), g2.tr hbse2.sym⟩
                  have hbs7 := hpb.2.2 q hqm
                  have hp7 : 0 ≤ (pfv n W).1 ∧ (pfv n W).1 ≤ 1000 := by
                    rw [hpe]
                    have hIq := Iv_tak hI (s := (q : Int)) (by omega) (by omega)
                    have hq0 : tak V (q : Int) 0 0 ≠ 0 := by rw [tak_sc _ _ _ (by decide)]; exact h0
                    have := pfv_bd (n - 1) (nit_ok hIq (by omega) hq0) (by omega) hq0
                    rw [show n - 1 + 1 = n by omega] at this
                    have h8 : 0 ≤ tkn V (q : Int) := (tkn_bd hI.2.2.2.2.2.2.2.2.2.1 (q : Int) (V 0 0).toNat (by omega)).1
                    omega
                  have htk : 0 ≤ tkn V (q : Int) ∧ tkn V (q : Int) ≤ 540 := tkn_bd hI.2.2.2.2.2.2.2.2.2.1 (q : Int) (V 0 0).toNat (by omega)
                  refine x_iload8 dX1_mostFrom_121 ?_
                  refine x_aload0 dX1_mostFrom_123 ?_
                  refine x_iload1 dX1_mostFrom_124 ?_
                  refine x_iconst dX1_mostFrom_125 ⟨by decide, by decide⟩ ?_
                  refine x_iadd dX1_mostFrom_126 (nrm_id (by omega) (by omega)) ?_
                  refine x_iload2 dX1_mostFrom_127 ?_
                  refine x_iconst dX1_mostFrom_128 ⟨by decide, by decide⟩ ?_
                  refine x_isub dX1_mostFrom_129 (nrm_id (by omega) (by omega)) ?_
                  refine Ex.eq (S' := [zi (n : Int), zi ((dp + 1 : Nat) : Int), zr 48, zi (tkn V (q : Int))]) rfl (by rw [show ((n + 1 : Nat) : Int) - 1 = n by omega, show ((dp + 1 : Nat) : Int) = dp + 1 by omega]) rfl ?_
                  refine x_calls3 dX1_mostFrom_130 cv_X1_52 cs_X1_mostFrom (by omega) (Nat.le_of_ble_eq_true rfl) (hrec m7 W (D + 1) c (by omega) hcb hY7 hIn (by omega) hW0 hLW (by rw [hF27 52 (by omega)]; exact h522) hdep7) (fun r m8 hq2 => ?_)
                  obtain ⟨rfl, hY8, hdep8, hP8⟩ := hq2
                  show Ex _ _ _ _ _ _ _ _ [zi (pfv n W).1, zi (tkn V (q : Int))] _
                  rw [hpe] at hp7 ⊢
                  obtain ⟨h528, hc48, hc58, hF8⟩ := hP8
                  rw [if_neg (by omega)] at hc58
                  have hY2b : YP m8 b V := hY2.kept (fun k e f => (hF8 k (by omega) (by omega) (by omega) (by omega)).trans (hF27 k (by omega)))
                  have hdepb : dep m8 b V := by
                    intro c2 hc2 hc40
                    rcases hc2 with g | g
                    · exact ⟨W, by rw [g, ← hc]; exact hY8, hbse2⟩
                    · obtain ⟨V2, g1, g2⟩ := hdep8 c2 (by omega) hc40
                      exact ⟨V2, g1, g2.tr hbse2⟩
                  have hFb : ∀ k, k ≠ 48 → k ≠ 51 → k ≠ 52 → (k < c ∨ 49 ≤ k) → m8 k = m1 k := fun k e f g h => ((hF8 k e f g (by omega)).trans (hF27 k (by omega))).trans (hF2 k e f g h)
                  have hc4b : m8 48 4 = m1 48 4 := by rw [hc48, e48, hc4]
                  have hc5b : (0 ≤ a.1 ∨ dp ≠ 0) → m8 48 5 = if dp = 0 then a.2 else m1 48 5 := fun hx => by rw [hc58, e48, hc5 hx]
                  have hp2 : (pre ++ [q]) ++ post = ast V (ase V) := by rw [List.append_assoc]; exact hp
                  have hl2 : ((pre ++ [q]).length : Int) = (pre.length : Int) + 1 := by rw [List.length_append]; rfl
                  refine x_iadd dX1_mostFrom_133 (nrm_id (by omega) (by omega)) ?_
                  refine x_istore8 dX1_mostFrom_134 (by decide) rfl ?_
                  refine x_iload8 dX1_mostFrom_136 ?_
                  refine x_iload6 dX1_mostFrom_138 ?_
                  refine x_icmp_le (tgt := 159) dX1_mostFrom_140 rfl (fun c7 => ?_) (fun c7 => ?_)
                  · refine x_iinc7 dX1_mostFrom_159 (by decide) rfl (nrm_id (by omega) (by omega)) ?_
                    refine x_goto (tgt := 70) dX1_mostFrom_162 rfl ?_
                    refine Ex.eq (by rw [hl2]) rfl rfl (ih (pre ++ [q]) _ a _ hp2 ?_ ha hY2b hdepb h528 hc4b hc5b hFb)
                    rw [← hbs, bsf]
                    rw [if_neg (by omega)]
                  · have hbs2 : bsf (fun q => tkn V (q : Int) + (pfv n (nit (tak V (q : Int)))).1) post (tkn V (q : Int) + (pfv n (nit (tak V (q : Int)))).1, (q : Int)) = pfv (n + 1) V := by
                      rw [← hbs, bsf]
                      rw [if_pos (by omega)]
                    have e508 : m8 50 = m1 50 := hFb 50 (by decide) (by decide) (by decide) (by omega)
                    refine x_iload8 dX1_mostFrom_143 ?_
                    refine x_istore6 dX1_mostFrom_145 (by decide) rfl ?_
                    refine x_aload0 dX1_mostFrom_147 ?_
                    refine x_iload1 dX1_mostFrom_148 ?_
                    refine x_aload0 dX1_mostFrom_149 ?_
                    refine x_getR (q := 50) dX1_mostFrom_150 fd_X1_18 rfl rfl rfl ?_
                    refine x_iload7 dX1_mostFrom_153 ?_
                    refine x_iald dX1_mostFrom_155 rfl (by omega) (by omega) (v := (q : Int)) (by rw [e508]; exact hm) ?_
                    refine x_callv2 dX1_mostFrom_156 cv_X1_79 ci_X1_noteFirst rfl (T := TX1) rfl (by omega) (Nat.le_of_ble_eq_true rfl) (s_noteFirst (dp := dp) (q := (q : Int))) (fun r m9 hq2 => ?_)
                    obtain ⟨rfl, rfl⟩ := hq2
                    show Ex _ _ _ _ _ _ _ _ [] _
                    refine x_iinc7 dX1_mostFrom_159 (by decide) rfl (nrm_id (by omega) (by omega)) ?_
                    refine x_goto (tgt := 70) dX1_mostFrom_162 rfl ?_
                    by_cases hd0 : (dp : Int) = 0
                    · have hd2 : dp = 0 := by omega
                      rw [if_pos hd0]
                      have hk : ∀ k, k ≠ 48 → up m8 48 5 (q : Int) k = m8 k := fun k e => up_cell e
                      refine Ex.eq (by rw [hl2]) rfl rfl (ih (pre ++ [q]) _ (tkn V (q : Int) + (pfv n (nit (tak V (q : Int)))).1, (q : Int)) _ hp2 hbs2 (by show -1 ≤ tkn V (q : Int) + _ ∧ tkn V (q : Int) + _ ≤ 2000; omega) (hY2b.kept (fun k e f => hk k (by omega))) (fun c2 hc2 hc40 => ?_) (by rw [hk 52 (by decide)]; exact h528) (by rw [upn (by decide)]; exact hc4b) (fun _ => by rw [up_same, if_pos hd2]) (fun k e f g h => (hk k e).trans (hFb k e f g h)))
                      obtain ⟨V2, g1, g2⟩ := hdepb c2 hc2 hc40
                      exact ⟨V2, g1.kept (fun k e f => hk k (by omega)), g2⟩
                    · have hd2 : ¬ dp = 0 := by omega
                      rw [if_neg hd0]
                      exact Ex.eq (by rw [hl2]) rfl rfl (ih (pre ++ [q]) _ (tkn V (q : Int) + (pfv n (nit (tak V (q : Int)))).1, (q : Int)) _ hp2 hbs2 (by show -1 ≤ tkn V (q : Int) + _ ∧ tkn V (q : Int) + _ ≤ 2000; omega) hY2b hdepb h528 hc4b (fun _ => by have := hc5b (Or.inr hd2); rw [if_neg hd2] at this ⊢; exact this) hFb)
          exact hlist (ast V (ase V)) [] m1 (-1, 0) none rfl rfl (by decide) hY hdep h52 rfl (fun hx => by
            rcases hx with hx | hx
            · exact absurd hx (by decide)
            · rw [if_neg hx]) (fun _ _ _ _ _ => rfl)
        · have c4 : (dp : Int) + 1 = ((3 : Nat) : Int) := c4
          omega
    · have c2 : ((3 : Nat) : Int) ≤ (dp : Int) := c2
      omega
end PL5
