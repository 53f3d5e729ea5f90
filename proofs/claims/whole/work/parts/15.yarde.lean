theorem cpm_ne {m : zz_M} {a b n k : Nat} (h : k ≠ b) : cpm m a b n k = m k := by
  funext j
  exact if_neg (fun q => h q.1)
theorem cpm_eq {m : zz_M} {a b n j : Nat} (h : j < n) : cpm m a b n b j = m a j := if_pos ⟨rfl, h⟩
section YM5
variable {E : zz_E} {m : zz_M} {b : Nat} {V : zz_W} {D : Int}
/-- ages above a of the nest n are moved up -/
def agj (V : zz_W) (n a : Int) : zz_W := fun A z => if A = 5 ∧ 10 * n + a < z ∧ z < 10 * n + 10 then (if z - 10 * n < V 0 9 then V 5 (z - 1) else 0) else V A z
def agd (V : zz_W) (n : Int) : zz_W := ux (agj V n 0) 5 (10 * n) 0
theorem s_ageEggs (hb : YB b) (hY : YP m b V) {n q : Int} (h0 : 0 ≤ n) (h1 : n < 6) (hq : 10 * n = q) : Mt E 1 yX2_ageEggs cX2_ageEggs 3 none [zr b, zi q] m (fun r m' => r = none ∧ YP m' b (agd V n) ∧ Fr b (b + 8) m m') := by
  subst hq
  refine Mt.of 1 (by decide +kernel) (Nat.le_of_ble_eq_true rfl) (Or.inr (Or.inr (Or.inr rfl))) ?_ ?_
  · rintro r m' ⟨rfl, -⟩; simp
  show Ex E cX2_ageEggs 3 RX2 1 _ 0 [some (zr b), some (zi (10 * n)), none] [] m
  have loop : ∀ (k : Nat) (m1 : zz_M), k ≤ 9 → YP m1 b (agj V n k) → Fr b (b + 8) m m1 → Ex E cX2_ageEggs 3 RX2 1 (fun r m' => r = none ∧ YP m' b (agd V n) ∧ Fr b (b + 8) m m') 3 [some (zr b), some (zi (10 * n)), some (zi k)] [] m1 := by
    intro k
    induction k with
    | zero =>
      intro m1 hk hY hF
      refine x_iload2 dX2_ageEggs_3 ?_
      refine x_if_le (tgt := 45) dX2_ageEggs_4 rfl (fun hc => ?_) (fun hc => ?_)
      · refine x_aload0 dX2_ageEggs_45 ?_
        refine x_getR (q := b + 5) dX2_ageEggs_46 fd_X2_24 (by first | rfl | exact yb_k (by assumption)) rfl (yb_p4 (by assumption)) ?_
        refine x_iload1 dX2_ageEggs_49 ?_
        refine x_iconst dX2_ageEggs_50 ⟨by decide, by decide⟩ ?_
        refine x_iast dX2_ageEggs_51 (yb_a4 (by assumption)) (by omega) (by omega) ?_
        exact xe_v dX2_ageEggs_52 (⟨rfl, hY.eggup (by omega), hF.up (by omega) (by omega)⟩)
      · omega
    | succ k ih =>
      intro m1 hk hY hF
      have er : agj V n ((k + 1 : Nat) : Int) 0 9 = V 0 9 := if_neg (by omega)
      have rest : ∀ (x : Int), x = (if ((k + 1 : Nat) : Int) < V 0 9 then V 5 (10 * n + (k + 1 : Nat) - 1) else 0) → Ex E cX2_ageEggs 3 RX2 1 (fun r m' => r = none ∧ YP m' b (agd V n) ∧ Fr b (b + 8) m m') 38 [some (zr b), some (zi (10 * n)), some (zi ((k + 1 : Nat) : Int))] [zi x, zi (10 * n + (k + 1 : Nat)), zr (b + 5)] m1 := by
        intro x hx
        refine x_iast dX2_ageEggs_38 (yb_a4 (by assumption)) (by omega) (by omega) ?_
        refine x_iinc2 dX2_ageEggs_39 (by decide) rfl (nrm_id (by omega) (by omega)) ?_
        refine x_goto (tgt := 3) dX2_ageEggs_42 rfl ?_
        refine Ex.eq ?_ rfl rfl (ih _ (by omega) ?_ (hF.up (by omega) (by omega)))
        · rw [show ((k + 1 : Nat) : Int) + -1 = k from by omega]
        · refine (hY.eggup (by omega)).cg (fun a z => ?_)
          unfold ux agj
          by_cases ha : a = 5 ∧ z = 10 * n + (k + 1 : Nat)
          · rw [if_pos ha, if_pos (by omega), hx, ha.2]
            rw [show 10 * n + ((k + 1 : Nat) : Int) - 10 * n = (k + 1 : Nat) from by omega]
          · rw [if_neg ha]
            by_cases hb3 : a = 5 ∧ 10 * n + ((k + 1 : Nat) : Int) < z ∧ z < 10 * n + 10
            · rw [if_pos hb3, if_pos (show a = 5 ∧ 10 * n + (k : Int) < z ∧ z < 10 * n + 10 by omega)]
            · rw [if_neg hb3, if_neg (show ¬ (a = 5 ∧ 10 * n + (k : Int) < z ∧ z < 10 * n + 10) by omega)]
      refine x_iload2 dX2_ageEggs_3 ?_
      refine x_if_le (tgt := 45) dX2_ageEggs_4 rfl (fun hc => ?_) (fun hc => ?_)
      · omega
      · refine x_aload0 dX2_ageEggs_7 ?_
        refine x_getR (q := b + 5) dX2_ageEggs_8 fd_X2_24 (by first | rfl | exact yb_k (by assumption)) rfl (yb_p4 (by assumption)) ?_
        refine x_iload1 dX2_ageEggs_11 ?_
        refine x_iload2 dX2_ageEggs_12 ?_
        refine x_iadd dX2_ageEggs_13 (nrm_id (by omega) (by omega)) ?_
        refine x_iload2 dX2_ageEggs_14 ?_
        refine x_aload0 dX2_ageEggs_15 ?_
        refine x_getR (q := b + 6) dX2_ageEggs_16 fd_X2_27 (by first | rfl | exact yb_k (by assumption)) rfl (yb_p5 (by assumption)) ?_
        refine x_iconst dX2_ageEggs_19 ⟨by decide, by decide⟩ ?_
        refine x_iald dX2_ageEggs_20 (yb_a5 (by assumption)) (by omega) (by omega) (v := V 0 9) (by rw [hY.rat, er]) ?_
        refine x_icmp_ge (tgt := 37) dX2_ageEggs_21 rfl (fun h2 => ?_) (fun h2 => ?_)
        · refine x_iconst dX2_ageEggs_37 ⟨by decide, by decide⟩ ?_
          exact rest 0 (by rw [if_neg (by omega)])
        · refine x_aload0 dX2_ageEggs_24 ?_
          refine x_getR (q := b + 5) dX2_ageEggs_25 fd_X2_24 (by first | rfl | exact yb_k (by assumption)) rfl (yb_p4 (by assumption)) ?_
          refine x_iload1 dX2_ageEggs_28 ?_
          refine x_iload2 dX2_ageEggs_29 ?_
          refine x_iadd dX2_ageEggs_30 (nrm_id (by omega) (by omega)) ?_
          refine x_iconst dX2_ageEggs_31 ⟨by decide, by decide⟩ ?_
          refine x_isub dX2_ageEggs_32 (nrm_id (by omega) (by omega)) ?_
          refine x_iald dX2_ageEggs_33 (yb_a4 (by assumption)) (by omega) (by omega) (v := V 5 (10 * n + (k + 1 : Nat) - 1)) (by rw [hY.egg (by omega) (by omega)]; exact if_neg (by omega)) ?_
          refine x_goto (tgt := 38) dX2_ageEggs_34 rfl ?_
          exact rest _ (by rw [if_pos h2])
  refine x_bipush dX2_ageEggs_0 ⟨by decide, by decide⟩ ?_
  refine x_istore2 dX2_ageEggs_2 (by decide) rfl ?_
  refine loop 9 m (by omega) (hY.cg (fun a z => ?_)) Fr.rf
  unfold agj
  rw [if_neg (by omega)]
/-- the nests below j are a day older -/
def psj (V : zz_W) (j : Int) : zz_W := fun a z => if a = 5 ∧ 0 ≤ z ∧ z < 10 * j then (if z % 10 = 0 then 0 else if z % 10 < V 0 9 then V 5 (z - 1) else 0) else V a z
theorem psj_next (V : zz_W) (j : Nat) (a : Nat) (z : Int) : agd (psj V j) j a z = psj V ((j + 1 : Nat) : Int) a z := by
  unfold agd ux agj psj
  by_cases ha : a = 5
  · subst ha
    simp only [true_and]
    by_cases h1 : z = 10 * (j : Int)
    · rw [if_pos h1, if_pos (by omega), if_pos (by omega)]
    · rw [if_neg h1]
      by_cases h2 : 10 * (j : Int) + 0 < z ∧ z < 10 * (j : Int) + 10
      · rw [if_pos h2, if_pos (show 0 ≤ z ∧ z < 10 * ((j + 1 : Nat) : Int) by omega), if_neg (show ¬ z % 10 = 0 by omega), if_neg (show ¬ (0 ≤ z - 1 ∧ z - 1 < 10 * (j : Int)) by omega)]
        rw [show z - 10 * (j : Int) = z % 10 by omega]
        rfl
      · rw [if_neg h2]
        by_cases h4 : 0 ≤ z ∧ z < 10 * (j : Int)
        · rw [if_pos h4, if_pos (show 0 ≤ z ∧ z < 10 * ((j + 1 : Nat) : Int) by omega)]
        · rw [if_neg h4, if_neg (show ¬ (0 ≤ z ∧ z < 10 * ((j + 1 : Nat) : Int)) by omega)]
  · rw [if_neg (fun q => ha q.1), if_neg (fun q => ha q.1), if_neg (fun q => ha q.1), if_neg (fun q => ha q.1)]
theorem s_passNight (hb : YB b) (hY : YP m b V) (hI : Iv D V) (hD : D ≤ 20000) {w : Int} (hw : 0 ≤ w ∧ w < V 0 0) : Mt E 2 yX2_passNight cX2_passNight 3 none [zr b, zi w] m (fun r m' => r = none ∧ YP m' b (pass V w) ∧ Fr b (b + 8) m m') := by
  obtain ⟨hn, hl, hk0, hd, hk, hf, ht, hr, hx, he, hz⟩ := hI
  refine Mt.of 1 (by decide +kernel) (Nat.le_of_ble_eq_true rfl) (Or.inr (Or.inr (Or.inr rfl))) ?_ ?_
  · rintro r m' ⟨rfl, -⟩; simp
  show Ex E cX2_passNight 3 RX2 2 _ 0 [some (zr b), some (zi w), none] [] m
  have loop : ∀ (k j : Nat) (m1 : zz_M), (j : Int) + k = V 0 0 → YP m1 b (psj V j) → Fr b (b + 8) m m1 → Ex E cX2_passNight 3 RX2 2 (fun r m' => r = none ∧ YP m' b (pass V w) ∧ Fr b (b + 8) m m') 2 [some (zr b), some (zi w), some (zi j)] [] m1 := by
    intro k
    induction k with
    | zero =>
      intro j m1 hj hY hF
      refine x_iload2 dX2_passNight_2 ?_
      refine x_aload0 dX2_passNight_3 ?_
      refine x_getI dX2_passNight_4 fd_X2_43 (by first | rfl | exact yb_k (by assumption)) (Or.inl rfl) (v := V 0 0) hY.nests ?_
      refine x_icmp_ge (tgt := 24) dX2_passNight_7 rfl (fun hc => ?_) (fun hc => ?_)
      · refine x_iload1 dX2_passNight_24 ?_
        refine x_if_lt (tgt := 51) dX2_passNight_25 rfl (fun h2 => ?_) (fun h2 => ?_)
        · omega
        · refine x_iload1 dX2_passNight_28 ?_
          refine x_aload0 dX2_passNight_29 ?_
          refine x_getI dX2_passNight_30 fd_X2_43 (by first | rfl | exact yb_k (by assumption)) (Or.inl rfl) (v := V 0 0) hY.nests ?_
          refine x_icmp_ge (tgt := 51) dX2_passNight_33 rfl (fun h3 => ?_) (fun h3 => ?_)
          · omega
          · refine x_aload0 dX2_passNight_36 ?_
            refine x_getR (q := b + 5) dX2_passNight_37 fd_X2_24 (by first | rfl | exact yb_k (by assumption)) rfl (yb_p4 (by assumption)) ?_
            refine x_iload1 dX2_passNight_40 ?_
            refine x_bipush dX2_passNight_41 ⟨by decide, by decide⟩ ?_
            refine x_imul dX2_passNight_43 (nrm_id (by omega) (by omega)) ?_
            refine x_iconst dX2_passNight_44 ⟨by decide, by decide⟩ ?_
            refine x_iast dX2_passNight_45 (yb_a4 (by assumption)) (by omega) (by omega) ?_
            have hY2 : YP _ b _ := hY.eggup (z := w * 10) (x := 1) (by omega)
            refine x_aload0 dX2_passNight_46 ?_
            refine x_iload1 dX2_passNight_47 ?_
            refine x_putI dX2_passNight_48 fd_X2_33 (by first | rfl | exact yb_k (by assumption)) rfl ?_
            have hY3 := hY2.setLast (x := w)
            rw [lc_nn hw.1] at hY3
            refine x_aload0 dX2_passNight_51 ?_
            refine x_aload0 dX2_passNight_52 ?_
            refine x_getI dX2_passNight_53 fd_X2_56 (by first | rfl | exact yb_k (by assumption)) (Or.inl rfl) (v := V 0 2) hY3.looked ?_
            refine x_putI dX2_passNight_56 fd_X2_46 (by first | rfl | exact yb_k (by assumption)) rfl ?_
            have hY4 := hY3.setBefore (x := V 0 2)
            refine x_aload0 dX2_passNight_59 ?_
            refine x_iconst dX2_passNight_60 ⟨by decide, by decide⟩ ?_
            refine x_putI dX2_passNight_61 fd_X2_56 (by first | rfl | exact yb_k (by assumption)) rfl ?_
            have hY5 := hY4.setLooked (x := 0)
            refine x_aload0 dX2_passNight_64 ?_
            refine x_dupr dX2_passNight_65 ?_
            refine x_getI dX2_passNight_66 fd_X2_59 (by first | rfl | exact yb_k (by assumption)) (Or.inl rfl) (v := V 0 4) hY5.day ?_
            refine x_iconst dX2_passNight_69 ⟨by decide, by decide⟩ ?_
            refine x_iadd dX2_passNight_70 (nrm_id (by omega) (by omega)) ?_
            refine x_putI dX2_passNight_71 fd_X2_59 (by first | rfl | exact yb_k (by assumption)) rfl ?_
            have hY6 := hY5.setDay (x := V 0 4 + 1)
            refine xe_v dX2_passNight_74 ?_
            refine ⟨rfl, hY6.cg (fun a z => ?_), ((((hF.up (by omega) (by omega)).up (by omega) (by omega)).up (by omega) (by omega)).up (by omega) (by omega)).up (by omega) (by omega)⟩
            unfold ux psj pass
            rw [show (j : Int) = V 0 0 by omega]
            by_cases ha : a = 5
            · subst ha
              simp only [show ¬ ((5 : Nat) = 0) by decide, false_and, if_false, true_and, if_true]
              by_cases h7 : z = w * 10
              · rw [if_pos h7, if_pos (by omega), if_pos (by omega), if_pos (by omega)]
              · rw [if_neg h7]
                by_cases h8 : 0 ≤ z ∧ z < 10 * V 0 0
                · rw [if_pos h8, if_pos h8]
                  by_cases h9 : z % 10 = 0
                  · rw [if_pos h9, if_pos h9, if_neg (by omega)]
                  · rw [if_neg h9, if_neg h9]
                · rw [if_neg h8, if_neg h8]
            · by_cases ha0 : a = 0
              · subst ha0
                simp only [true_and, show ¬ ((0 : Nat) = 5) by decide, false_and, if_false, if_true]
                by_cases z1 : z = 1
                · subst z1; simp
                · by_cases z2 : z = 2
                  · subst z2; simp
                  · by_cases z3 : z = 3
                    · subst z3; simp
                    · by_cases z4 : z = 4
                      · subst z4; simp
                      · simp [z1, z2, z3, z4]
              · simp [ha, ha0]
      · omega
    | succ k ih =>
      intro j m1 hj hY hF
      refine x_iload2 dX2_passNight_2 ?_
      refine x_aload0 dX2_passNight_3 ?_
      refine x_getI dX2_passNight_4 fd_X2_43 (by first | rfl | exact yb_k (by assumption)) (Or.inl rfl) (v := V 0 0) hY.nests ?_
      refine x_icmp_ge (tgt := 24) dX2_passNight_7 rfl (fun hc => ?_) (fun hc => ?_)
      · omega
      · refine x_aload0 dX2_passNight_10 ?_
        refine x_iload2 dX2_passNight_11 ?_
        refine x_bipush dX2_passNight_12 ⟨by decide, by decide⟩ ?_
        refine x_imul dX2_passNight_14 (nrm_id (by omega) (by omega)) ?_
        refine x_callv1 dX2_passNight_15 cv_X2_107 ci_X2_ageEggs (by first | rfl | exact yb_k (by assumption)) (T := TX2) rfl (by decide) (Nat.le_of_ble_eq_true rfl) (s_ageEggs hb hY (n := j) (by omega) (by omega) (by omega)) (fun r m2 hq => ?_)
        obtain ⟨rfl, hY2, hF2⟩ := hq
        show Ex _ _ _ _ _ _ _ _ [] _
        refine x_iinc2 dX2_passNight_18 (by decide) rfl (nrm_id (by omega) (by omega)) ?_
        refine x_goto (tgt := 2) dX2_passNight_21 rfl ?_
        exact Ex.eq (by push_cast; rfl) rfl rfl (ih (j + 1) _ (by omega) (hY2.cg (psj_next V j)) (hF.tr hF2))
  refine x_iconst dX2_passNight_0 ⟨by decide, by decide⟩ ?_
  refine x_istore2 dX2_passNight_1 (by decide) rfl ?_
  refine loop (V 0 0).toNat 0 m (by omega) (hY.cg (fun a z => ?_)) Fr.rf
  unfold psj
  rw [if_neg (by omega)]
/-- V0 with what looks and nights change of V -/
def crs (V0 V : zz_W) : zz_W := fun a z => if a = 5 ∨ (a = 0 ∧ (z = 1 ∨ z = 2 ∨ z = 4)) then V a z else V0 a z
theorem s_copyCourse {c : Nat} {V0 : zz_W} (hb : YB b) (hc : YB c) (hbc : b + 8 ≤ c ∨ c + 8 ≤ b) (hY0 : YP m b V0) (hY : YP m c V) : Mt E 1 yX2_copyCourse cX2_copyCourse 2 none [zr b, zr c] m (fun r m' => r = none ∧ YP m' b (crs V0 V) ∧ Fr b (b + 8) m m') := by
  refine Mt.of 0 (by decide +kernel) (Nat.le_of_ble_eq_true rfl) (Or.inr (Or.inr (Or.inr rfl))) ?_ ?_
  · rintro r m' ⟨rfl, -⟩; simp
  show Ex E cX2_copyCourse 2 RX2 1 _ 0 [some (zr b), some (zr c)] [] m
  refine x_aload1 dX2_copyCourse_0 ?_
  refine x_getR (q := c + 5) dX2_copyCourse_1 fd_X2_24 (by first | rfl | exact yb_k (by assumption)) rfl (yb_p4 (by assumption)) ?_
  refine x_iconst dX2_copyCourse_4 ⟨by decide, by decide⟩ ?_
  refine x_aload0 dX2_copyCourse_5 ?_
  refine x_getR (q := b + 5) dX2_copyCourse_6 fd_X2_24 (by first | rfl | exact yb_k (by assumption)) rfl (yb_p4 (by assumption)) ?_
  refine x_iconst dX2_copyCourse_9 ⟨by decide, by decide⟩ ?_
  refine x_bipush dX2_copyCourse_10 ⟨by decide, by decide⟩ ?_
  refine x_copy dX2_copyCourse_12 ac_X2_37 (by decide) (Nat.le_of_ble_eq_true rfl) (yb_a4 (by assumption)) (yb_a4 (by assumption)) (len := 60) rfl (by decide) (by decide) ?_
  refine x_aload0 dX2_copyCourse_15 ?_
  refine x_aload1 dX2_copyCourse_16 ?_
  refine x_getI dX2_copyCourse_17 fd_X2_33 (by first | rfl | exact yb_k (by assumption)) (Or.inl rfl) rfl ?_
  refine x_putI dX2_copyCourse_20 fd_X2_33 (by first | rfl | exact yb_k (by assumption)) rfl ?_
  refine x_aload0 dX2_copyCourse_23 ?_
  refine x_aload1 dX2_copyCourse_24 ?_
  refine x_getI dX2_copyCourse_25 fd_X2_56 (by first | rfl | exact yb_k (by assumption)) (Or.inl rfl) rfl ?_
  refine x_putI dX2_copyCourse_28 fd_X2_56 (by first | rfl | exact yb_k (by assumption)) rfl ?_
  refine x_aload0 dX2_copyCourse_31 ?_
  refine x_aload1 dX2_copyCourse_32 ?_
  refine x_getI dX2_copyCourse_33 fd_X2_59 (by first | rfl | exact yb_k (by assumption)) (Or.inl rfl) rfl ?_
  refine x_putI dX2_copyCourse_36 fd_X2_59 (by first | rfl | exact yb_k (by assumption)) rfl ?_
  have hF : Fr b (b + 8) m (cpm m (c + 5) (b + 5) 60) := fun k hk => by funext j; exact if_neg (by omega)
  refine xe_v dX2_copyCourse_39 ?_
  refine ⟨rfl, ?_, ((hF.up (by omega) (by omega)).up (by omega) (by omega)).up (by omega) (by omega)⟩
  have hy := hY
  unfold YP at hY hY0 ⊢
  obtain ⟨⟨g1, g2, g3, g4, g5, g6⟩, g7, g8, g9⟩ := hY
  obtain ⟨⟨k1, k2, k3, k4, k5, k6⟩, k7, k8, k9⟩ := hY0
  refine ⟨⟨?_, ?_, ?_, ?_, ?_, ?_⟩, fun z h0 h1 => ?_, fun z h0 h1 => ⟨?_, ?_, ?_, ?_⟩, fun z h0 h1 => ?_⟩
  all_goals simp (disch := omega) only [up_cell, upn, up_same, cpm_ne, cpm_eq, crs, if_neg, if_pos]
  all_goals first | assumption | skip
  · exact k7 z h0 h1
  · exact (k8 z h0 h1).1
  · exact (k8 z h0 h1).2.1
  · exact (k8 z h0 h1).2.2.1
  · exact (k8 z h0 h1).2.2.2
  · exact g9 z h0 h1
theorem s_copyFrom {c : Nat} {V1 : zz_W} (hb : YB b) (hc : YB c) (hbc : b + 8 ≤ c ∨ c + 8 ≤ b) (hY1 : YP m b V1) (hY : YP m c V) : Mt E 2 yX2_copyFrom cX2_copyFrom 2 none [zr b, zr c] m (fun r m' => r = none ∧ YP m' b V ∧ Fr b (b + 8) m m') := by
  refine Mt.of 0 (by decide +kernel) (Nat.le_of_ble_eq_true rfl) (Or.inr (Or.inr (Or.inr rfl))) ?_ ?_
  · rintro r m' ⟨rfl, -⟩; simp
  show Ex E cX2_copyFrom 2 RX2 2 _ 0 [some (zr b), some (zr c)] [] m
  refine x_aload1 dX2_copyFrom_0 ?_
  refine x_getR (q := c + 1) dX2_copyFrom_1 fd_X2_9 (by first | rfl | exact yb_k (by assumption)) rfl (yb_p0 (by assumption)) ?_
  refine x_iconst dX2_copyFrom_4 ⟨by decide, by decide⟩ ?_
  refine x_aload0 dX2_copyFrom_5 ?_
  refine x_getR (q := b + 1) dX2_copyFrom_6 fd_X2_9 (by first | rfl | exact yb_k (by assumption)) rfl (yb_p0 (by assumption)) ?_
  refine x_iconst dX2_copyFrom_9 ⟨by decide, by decide⟩ ?_
  refine x_bipush dX2_copyFrom_10 ⟨by decide, by decide⟩ ?_
  refine x_copy dX2_copyFrom_12 ac_X2_37 (by decide) (Nat.le_of_ble_eq_true rfl) (yb_a0 (by assumption)) (yb_a0 (by assumption)) (len := 6) rfl (by decide) (by decide) ?_
  refine x_aload1 dX2_copyFrom_15 ?_
  refine x_getR (q := c + 2) dX2_copyFrom_16 fd_X2_15 (by first | rfl | exact yb_k (by assumption)) rfl (yb_p1 (by assumption)) ?_
  refine x_iconst dX2_copyFrom_19 ⟨by decide, by decide⟩ ?_
  refine x_aload0 dX2_copyFrom_20 ?_
  refine x_getR (q := b + 2) dX2_copyFrom_21 fd_X2_15 (by first | rfl | exact yb_k (by assumption)) rfl (yb_p1 (by assumption)) ?_
  refine x_iconst dX2_copyFrom_24 ⟨by decide, by decide⟩ ?_
  refine x_bipush dX2_copyFrom_25 ⟨by decide, by decide⟩ ?_
  refine x_copy dX2_copyFrom_27 ac_X2_37 (by decide) (Nat.le_of_ble_eq_true rfl) (yb_a1 (by assumption)) (yb_a1 (by assumption)) (len := 6) rfl (by decide) (by decide) ?_
  refine x_aload1 dX2_copyFrom_30 ?_
  refine x_getR (q := c + 3) dX2_copyFrom_31 fd_X2_18 (by first | rfl | exact yb_k (by assumption)) rfl (yb_p2 (by assumption)) ?_
  refine x_iconst dX2_copyFrom_34 ⟨by decide, by decide⟩ ?_
  refine x_aload0 dX2_copyFrom_35 ?_
  refine x_getR (q := b + 3) dX2_copyFrom_36 fd_X2_18 (by first | rfl | exact yb_k (by assumption)) rfl (yb_p2 (by assumption)) ?_
  refine x_iconst dX2_copyFrom_39 ⟨by decide, by decide⟩ ?_
  refine x_bipush dX2_copyFrom_40 ⟨by decide, by decide⟩ ?_
  refine x_copy dX2_copyFrom_42 ac_X2_37 (by decide) (Nat.le_of_ble_eq_true rfl) (yb_a2 (by assumption)) (yb_a2 (by assumption)) (len := 6) rfl (by decide) (by decide) ?_
  refine x_aload1 dX2_copyFrom_45 ?_
  refine x_getR (q := c + 4) dX2_copyFrom_46 fd_X2_21 (by first | rfl | exact yb_k (by assumption)) rfl (yb_p3 (by assumption)) ?_
  refine x_iconst dX2_copyFrom_49 ⟨by decide, by decide⟩ ?_
  refine x_aload0 dX2_copyFrom_50 ?_
  refine x_getR (q := b + 4) dX2_copyFrom_51 fd_X2_21 (by first | rfl | exact yb_k (by assumption)) rfl (yb_p3 (by assumption)) ?_
  refine x_iconst dX2_copyFrom_54 ⟨by decide, by decide⟩ ?_
  refine x_bipush dX2_copyFrom_55 ⟨by decide, by decide⟩ ?_
  refine x_copy dX2_copyFrom_57 ac_X2_37 (by decide) (Nat.le_of_ble_eq_true rfl) (yb_a3 (by assumption)) (yb_a3 (by assumption)) (len := 6) rfl (by decide) (by decide) ?_
  refine x_aload1 dX2_copyFrom_60 ?_
  refine x_getR (q := c + 6) dX2_copyFrom_61 fd_X2_27 (by first | rfl | exact yb_k (by assumption)) rfl (yb_p5 (by assumption)) ?_
  refine x_iconst dX2_copyFrom_64 ⟨by decide, by decide⟩ ?_
  refine x_aload0 dX2_copyFrom_65 ?_
  refine x_getR (q := b + 6) dX2_copyFrom_66 fd_X2_27 (by first | rfl | exact yb_k (by assumption)) rfl (yb_p5 (by assumption)) ?_
  refine x_iconst dX2_copyFrom_69 ⟨by decide, by decide⟩ ?_
  refine x_iconst dX2_copyFrom_70 ⟨by decide, by decide⟩ ?_
  refine x_copy dX2_copyFrom_71 ac_X2_37 (by decide) (Nat.le_of_ble_eq_true rfl) (yb_a5 (by assumption)) (yb_a5 (by assumption)) (len := 4) rfl (by decide) (by decide) ?_
  refine x_aload0 dX2_copyFrom_74 ?_
  refine x_aload1 dX2_copyFrom_75 ?_
  refine x_getI dX2_copyFrom_76 fd_X2_43 (by first | rfl | exact yb_k (by assumption)) (Or.inl rfl) rfl ?_
  refine x_putI dX2_copyFrom_79 fd_X2_43 (by first | rfl | exact yb_k (by assumption)) rfl ?_
  refine x_aload0 dX2_copyFrom_82 ?_
  refine x_aload1 dX2_copyFrom_83 ?_
  refine x_getI dX2_copyFrom_84 fd_X2_46 (by first | rfl | exact yb_k (by assumption)) (Or.inl rfl) rfl ?_
  refine x_putI dX2_copyFrom_87 fd_X2_46 (by first | rfl | exact yb_k (by assumption)) rfl ?_
  refine x_aload0 dX2_copyFrom_90 ?_
  refine x_aload1 dX2_copyFrom_91 ?_
  refine x_getI dX2_copyFrom_92 fd_X2_49 (by first | rfl | exact yb_k (by assumption)) (Or.inl rfl) rfl ?_
  refine x_putI dX2_copyFrom_95 fd_X2_49 (by first | rfl | exact yb_k (by assumption)) rfl ?_
  refine x_aload0 dX2_copyFrom_98 ?_
  refine x_aload1 dX2_copyFrom_99 ?_
  have hF : ∀ (m : zz_M) (a q len : Nat), b ≤ q → q < b + 8 → Fr b (b + 8) m (cpm m a q len) := fun m a q len h1 h2 k hk => by funext j; exact if_neg (by omega)
  have hF1 := ((((((((hF m (c + 1) (b + 1) 6 (by omega) (by omega)).tr (hF _ (c + 2) (b + 2) 6 (by omega) (by omega))).tr (hF _ (c + 3) (b + 3) 6 (by omega) (by omega))).tr (hF _ (c + 4) (b + 4) 6 (by omega) (by omega))).tr (hF _ (c + 6) (b + 6) 4 (by omega) (by omega))).up (k := b) (j := 7) (v := V 0 0) (by omega) (by omega)).up (k := b) (j := 10) (v := V 0 3) (by omega) (by omega)).up (k := b) (j := 12) (v := V 0 5) (by omega) (by omega))
  have hYb : YP (up (up (up (cpm (cpm (cpm (cpm (cpm m (c + 1) (b + 1) 6) (c + 2) (b + 2) 6) (c + 3) (b + 3) 6) (c + 4) (b + 4) 6) (c + 6) (b + 6) 4) b 7 (V 0 0)) b 10 (V 0 3)) b 12 (V 0 5)) b (crs V V1) := by
    have hY0 := hY1
    have hYc := hY
    unfold YP at hYc hY0 ⊢
    obtain ⟨⟨g1, g2, g3, g4, g5, g6⟩, g7, g8, g9⟩ := hYc
    obtain ⟨⟨k1, k2, k3, k4, k5, k6⟩, k7, k8, k9⟩ := hY0
    refine ⟨⟨?_, ?_, ?_, ?_, ?_, ?_⟩, fun z h0 h1 => ?_, fun z h0 h1 => ⟨?_, ?_, ?_, ?_⟩, fun z h0 h1 => ?_⟩
    all_goals simp (disch := omega) only [up_cell, upn, up_same, cpm_ne, cpm_eq, crs, if_neg, if_pos]
    all_goals first | assumption | skip
    · exact g7 z h0 h1
    · exact (g8 z h0 h1).1
    · exact (g8 z h0 h1).2.1
    · exact (g8 z h0 h1).2.2.1
    · exact (g8 z h0 h1).2.2.2
    · exact k9 z h0 h1
  refine Ex.eq (m' := up (up (up (cpm (cpm (cpm (cpm (cpm m (c + 1) (b + 1) 6) (c + 2) (b + 2) 6) (c + 3) (b + 3) 6) (c + 4) (b + 4) 6) (c + 6) (b + 6) 4) b 7 (V 0 0)) b 10 (V 0 3)) b 12 (V 0 5)) rfl rfl ?_ ?_
  · have e : ∀ (m1 m2 : zz_M), (∀ k j, m1 k j = m2 k j) → m1 = m2 := fun m1 m2 h => by funext k j; exact h k j
    obtain ⟨⟨g1, g2, g3, g4, g5, g6⟩, -⟩ := hY
    congr 1
    · congr 1
      · congr 1
        simp (disch := omega) only [cpm_ne]
        exact g1
      · simp (disch := omega) only [up_cell, cpm_ne]
        exact g4
    · simp (disch := omega) only [up_cell, cpm_ne]
      exact g6
  have hYc := hY.fr hF1 (by omega)
  generalize up (up (up (cpm (cpm (cpm (cpm (cpm m (c + 1) (b + 1) 6) (c + 2) (b + 2) 6) (c + 3) (b + 3) 6) (c + 4) (b + 4) 6) (c + 6) (b + 6) 4) b 7 (V 0 0)) b 10 (V 0 3)) b 12 (V 0 5) = m1 at hF1 hYb hYc
  refine x_callv1 dX2_copyFrom_100 cv_X2_52 ci_X2_copyCourse (by first | rfl | exact yb_k (by assumption)) (T := TX2) rfl (by decide) (Nat.le_of_ble_eq_true rfl) (s_copyCourse hb hc hbc hYb hYc) (fun r m2 hq => ?_)
  obtain ⟨rfl, hY2, hF2⟩ := hq
  refine xe_v dX2_copyFrom_103 ?_
  refine ⟨rfl, hY2.cg (fun a z => ?_), hF1.tr hF2⟩
  unfold crs
  by_cases h : a = 5 ∨ a = 0 ∧ (z = 1 ∨ z = 2 ∨ z = 4)
  · rw [if_pos h]
  · rw [if_neg h, if_neg h]
end YM5
