section YM2
variable {E : zz_E} {m : zz_M} {b : Nat} {V : zz_W} {D : Int}
-- one field of a yard is written
theorem YP.fld {j : Nat} {x : Int} {V' : zz_W} (h : YP m b V) (h1 : up m b j x b 7 = V' 0 0 ∧ up m b j x b 8 = lc (V' 0 1) ∧ up m b j x b 9 = V' 0 2 ∧ up m b j x b 10 = V' 0 3 ∧ up m b j x b 11 = V' 0 4 ∧ up m b j x b 12 = V' 0 5)
    (h2 : ∀ z, 0 ≤ z → z < 4 → V' 0 (6 + z) = V 0 (6 + z)) (h3 : ∀ a z, a ≠ 0 → V' a z = V a z) : YP (up m b j x) b V' := by
  have hc : ∀ k, k ≠ b → up m b j x k = m k := fun k hk => up_cell hk
  unfold YP at h ⊢
  rw [hc (b + 1) (by omega), hc (b + 2) (by omega), hc (b + 3) (by omega), hc (b + 4) (by omega), hc (b + 5) (by omega), hc (b + 6) (by omega)]
  refine ⟨h1, fun z h0 h4 => by rw [h2 z h0 h4]; exact h.2.1 z h0 h4, fun z h0 h4 => ?_, fun z h0 h4 => ?_⟩
  · rw [h3 1 z (by decide), h3 2 z (by decide), h3 3 z (by decide), h3 4 z (by decide)]
    exact h.2.2.1 z h0 h4
  · rw [h3 5 z (by decide)]
    exact h.2.2.2 z h0 h4
theorem upn {m : zz_M} {k j j' : Nat} {v : Int} (h : j' ≠ j) : up m k j v k j' = m k j' := if_neg (fun q => h q.2)
theorem YP.setLooked {x : Int} (h : YP m b V) : YP (up m b 9 x) b (ux V 0 2 x) := by
  refine h.fld ⟨?_, ?_, ?_, ?_, ?_, ?_⟩ (fun z h0 h1 => if_neg (fun q => by have := q.2; omega)) (fun a z ha => if_neg (fun q => ha q.1))
  · rw [upn (by decide)]; exact h.nests
  · rw [upn (by decide)]; exact h.last
  · rw [up_same]; rfl
  · rw [upn (by decide)]; exact h.before
  · rw [upn (by decide)]; exact h.day
  · rw [upn (by decide)]; exact h.found
theorem YP.setBefore {x : Int} (h : YP m b V) : YP (up m b 10 x) b (ux V 0 3 x) := by
  refine h.fld ⟨?_, ?_, ?_, ?_, ?_, ?_⟩ (fun z h0 h1 => if_neg (fun q => by have := q.2; omega)) (fun a z ha => if_neg (fun q => ha q.1))
  · rw [upn (by decide)]; exact h.nests
  · rw [upn (by decide)]; exact h.last
  · rw [upn (by decide)]; exact h.looked
  · rw [up_same]; rfl
  · rw [upn (by decide)]; exact h.day
  · rw [upn (by decide)]; exact h.found
theorem YP.setDay {x : Int} (h : YP m b V) : YP (up m b 11 x) b (ux V 0 4 x) := by
  refine h.fld ⟨?_, ?_, ?_, ?_, ?_, ?_⟩ (fun z h0 h1 => if_neg (fun q => by have := q.2; omega)) (fun a z ha => if_neg (fun q => ha q.1))
  · rw [upn (by decide)]; exact h.nests
  · rw [upn (by decide)]; exact h.last
  · rw [upn (by decide)]; exact h.looked
  · rw [upn (by decide)]; exact h.before
  · rw [up_same]; rfl
  · rw [upn (by decide)]; exact h.found
theorem YP.setFound {x : Int} (h : YP m b V) : YP (up m b 12 x) b (ux V 0 5 x) := by
  refine h.fld ⟨?_, ?_, ?_, ?_, ?_, ?_⟩ (fun z h0 h1 => if_neg (fun q => by have := q.2; omega)) (fun a z ha => if_neg (fun q => ha q.1))
  · rw [upn (by decide)]; exact h.nests
  · rw [upn (by decide)]; exact h.last
  · rw [upn (by decide)]; exact h.looked
  · rw [upn (by decide)]; exact h.before
  · rw [upn (by decide)]; exact h.day
  · rw [up_same]; rfl
theorem YP.setLast {x : Int} (h : YP m b V) : YP (up m b 8 (lc x)) b (ux V 0 1 x) := by
  refine h.fld ⟨?_, ?_, ?_, ?_, ?_, ?_⟩ (fun z h0 h1 => if_neg (fun q => by have := q.2; omega)) (fun a z ha => if_neg (fun q => ha q.1))
  · rw [upn (by decide)]; exact h.nests
  · rw [up_same]; rfl
  · rw [upn (by decide)]; exact h.looked
  · rw [upn (by decide)]; exact h.before
  · rw [upn (by decide)]; exact h.day
  · rw [upn (by decide)]; exact h.found
theorem YP.setNests {x : Int} (h : YP m b V) : YP (up m b 7 x) b (ux V 0 0 x) := by
  refine h.fld ⟨?_, ?_, ?_, ?_, ?_, ?_⟩ (fun z h0 h1 => if_neg (fun q => by have := q.2; omega)) (fun a z ha => if_neg (fun q => ha q.1))
  · rw [up_same]; rfl
  · rw [upn (by decide)]; exact h.last
  · rw [upn (by decide)]; exact h.looked
  · rw [upn (by decide)]; exact h.before
  · rw [upn (by decide)]; exact h.day
  · rw [upn (by decide)]; exact h.found
theorem lc_nn {z : Int} (h : 0 ≤ z) : lc z = z := if_neg (by omega)
theorem Fr.to {lo hi : Nat} {m1 m2 : zz_M} (h : Fr lo hi m m1) {lo' hi' : Nat} (h2 : Fr lo' hi' m1 m2) (h3 : lo ≤ lo') (h4 : hi' ≤ hi) : Fr lo hi m m2 := h.tr (h2.wd h3 h4)
/-- the first j ages of a nest are emptied -/
def emj (V : zz_W) (n : Int) (j : Int) : zz_W := fun a z => if a = 5 ∧ 10 * n ≤ z ∧ z < 10 * n + j then 0 else V a z
theorem s_emptyNest (hb : YB b) (hY : YP m b V) (he : ∀ z, 0 ≤ z → z < 60 → 0 ≤ V 5 z ∧ V 5 z ≤ 9) {n : Int} (h0 : 0 ≤ n) (h1 : n < 6) : Mt E 1 yX2_emptyNest cX2_emptyNest 5 (some .int) [zr b, zi n] m (fun r m' => r = some (zi (eggs V n)) ∧ YP m' b (emj V n 10) ∧ Fr b (b + 8) m m') := by
  refine Mt.of 3 (by decide +kernel) (Nat.le_of_ble_eq_true rfl) (Or.inl rfl) ?_ ?_
  · rintro r m' ⟨rfl, -⟩; simp
  show Ex E cX2_emptyNest 5 RX2 1 _ 0 [some (zr b), some (zi n), none, none, none] [] m
  have loop : ∀ (k j : Nat) (m1 : zz_M), j + k = 10 → YP m1 b (emj V n j) → Fr b (b + 8) m m1 → Ex E cX2_emptyNest 5 RX2 1 (fun r m' => r = some (zi (eggs V n)) ∧ YP m' b (emj V n 10) ∧ Fr b (b + 8) m m') 15 [some (zr b), some (zi n), some (zi (smI (fun a => V 5 (10 * n + a)) j)), some (zi ((n + 1) * 10)), some (zi (n * 10 + j))] [] m1 := by
    intro k
    induction k with
    | zero =>
      intro j m1 hj hY hF
      refine x_iload4 dX2_emptyNest_15 ?_
      refine x_iload3 dX2_emptyNest_17 ?_
      refine x_icmp_ge (tgt := 45) dX2_emptyNest_18 rfl (fun hc => ?_) (fun hc => ?_)
      · refine x_iload2 dX2_emptyNest_45 ?_
        obtain rfl : j = 10 := by omega
        exact xe_i dX2_emptyNest_46 (⟨rfl, hY, hF⟩)
      · omega
    | succ k ih =>
      intro j m1 hj hY hF
      refine x_iload4 dX2_emptyNest_15 ?_
      refine x_iload3 dX2_emptyNest_17 ?_
      refine x_icmp_ge (tgt := 45) dX2_emptyNest_18 rfl (fun hc => ?_) (fun hc => ?_)
      · omega
      · have hb1 := eggs_bd he h0 h1 j (by omega)
        have hb2 := he (10 * n + j) (by omega) (by omega)
        have e1 : n * 10 + (j : Int) = 10 * n + j := by omega
        have e2 : emj V n j 5 (10 * n + j) = V 5 (10 * n + j) := if_neg (by omega)
        refine x_iload2 dX2_emptyNest_21 ?_
        refine x_aload0 dX2_emptyNest_22 ?_
        refine x_getR (q := b + 5) dX2_emptyNest_23 fd_X2_24 (by first | rfl | exact yb_k (by assumption)) rfl (yb_p4 (by assumption)) ?_
        refine x_iload4 dX2_emptyNest_26 ?_
        refine x_iald dX2_emptyNest_28 (yb_a4 (by assumption)) (by omega) (by omega) (v := V 5 (10 * n + j)) (by rw [e1, hY.egg (by omega) (by omega), e2]) ?_
        refine x_iadd dX2_emptyNest_29 (nrm_id (by omega) (by omega)) ?_
        refine x_istore2 dX2_emptyNest_30 (by decide) rfl ?_
        refine x_aload0 dX2_emptyNest_31 ?_
        refine x_getR (q := b + 5) dX2_emptyNest_32 fd_X2_24 (by first | rfl | exact yb_k (by assumption)) rfl (yb_p4 (by assumption)) ?_
        refine x_iload4 dX2_emptyNest_35 ?_
        refine x_iconst dX2_emptyNest_37 ⟨by decide, by decide⟩ ?_
        refine x_iast dX2_emptyNest_38 (yb_a4 (by assumption)) (by omega) (by omega) ?_
        refine x_iinc4 dX2_emptyNest_39 (by decide) rfl (nrm_id (by omega) (by omega)) ?_
        refine x_goto (tgt := 15) dX2_emptyNest_42 rfl ?_
        refine Ex.eq ?_ rfl rfl (ih (j + 1) _ (by omega) ?_ (hF.up (by omega) (by omega)))
        · simp only [List.cons.injEq, Option.some.injEq, Sum.inl.injEq, and_true, true_and, smI_succ]
          push_cast
          omega
        · rw [e1]
          refine (hY.eggup (by omega)).cg (fun a z => ?_)
          unfold ux emj
          push_cast
          by_cases ha : a = 5 ∧ z = 10 * n + j
          · rw [if_pos ha, if_pos (by omega)]
          · rw [if_neg ha]
            by_cases hb3 : a = 5 ∧ 10 * n ≤ z ∧ z < 10 * n + j
            · rw [if_pos hb3, if_pos (by omega)]
            · rw [if_neg hb3, if_neg (by omega)]
  refine x_iconst dX2_emptyNest_0 ⟨by decide, by decide⟩ ?_
  refine x_istore2 dX2_emptyNest_1 (by decide) rfl ?_
  refine x_iload1 dX2_emptyNest_2 ?_
  refine x_iconst dX2_emptyNest_3 ⟨by decide, by decide⟩ ?_
  refine x_iadd dX2_emptyNest_4 (nrm_id (by omega) (by omega)) ?_
  refine x_bipush dX2_emptyNest_5 ⟨by decide, by decide⟩ ?_
  refine x_imul dX2_emptyNest_7 (nrm_id (by omega) (by omega)) ?_
  refine x_istore3 dX2_emptyNest_8 (by decide) rfl ?_
  refine x_iload1 dX2_emptyNest_9 ?_
  refine x_bipush dX2_emptyNest_10 ⟨by decide, by decide⟩ ?_
  refine x_imul dX2_emptyNest_12 (nrm_id (by omega) (by omega)) ?_
  refine x_istore4 dX2_emptyNest_13 (by decide) rfl ?_
  refine Ex.eq (by simp [smI]) rfl rfl (loop 10 0 m rfl (hY.cg (fun a z => ?_)) Fr.rf)
  unfold emj
  rw [if_neg (by omega)]
/-- the nests of a set below j are emptied -/
def tkj (V : zz_W) (s : Int) (j : Int) : zz_W := fun a z => if a = 5 ∧ 0 ≤ z ∧ z < 10 * j ∧ bt s (z / 10) = 1 then 0 else V a z
theorem tkn_bd (he : ∀ z, 0 ≤ z → z < 60 → 0 ≤ V 5 z ∧ V 5 z ≤ 9) (s : Int) (j : Nat) (hj : j ≤ 6) : 0 ≤ smI (fun n => if bt s n = 1 then eggs V n else 0) j ∧ smI (fun n => if bt s n = 1 then eggs V n else 0) j ≤ 540 := by
  have := smI_bd (f := fun n => if bt s n = 1 then eggs V n else 0) (c := 90) j (fun i h0 h1 => by
    have := eggs_bd he h0 (show i < 6 by omega) 10 (by omega)
    unfold eggs
    split <;> omega)
  omega
theorem eggs_cg {V V' : zz_W} {n : Int} (h : ∀ z, 10 * n ≤ z → z < 10 * n + 10 → V 5 z = V' 5 z) : eggs V n = eggs V' n := smI_congr 10 (fun i h0 h1 => h _ (by omega) (by omega))
theorem s_takeEggs (hb : YB b) (hY : YP m b V) (hI : Iv D V) {s : Int} : Mt E 2 yX2_takeEggs cX2_takeEggs 4 (some .int) [zr b, zi s] m (fun r m' => r = some (zi (tkn V s)) ∧ YP m' b (tak V s) ∧ Fr b (b + 8) m m') := by
  obtain ⟨hn, hl, hk0, hd, hk, hf, ht, hr, hx, he, hz⟩ := hI
  refine Mt.of 2 (by decide +kernel) (Nat.le_of_ble_eq_true rfl) (Or.inl rfl) ?_ ?_
  · rintro r m' ⟨rfl, -⟩; simp
  show Ex E cX2_takeEggs 4 RX2 2 _ 0 [some (zr b), some (zi s), none, none] [] m
  have loop : ∀ (k j : Nat) (m1 : zz_M), (j : Int) + k = V 0 0 → YP m1 b (tkj V s j) → Fr b (b + 8) m m1 → Ex E cX2_takeEggs 4 RX2 2 (fun r m' => r = some (zi (tkn V s)) ∧ YP m' b (tak V s) ∧ Fr b (b + 8) m m') 4 [some (zr b), some (zi s), some (zi (smI (fun n => if bt s n = 1 then eggs V n else 0) j)), some (zi j)] [] m1 := by
    intro k
    induction k with
    | zero =>
      intro j m1 hj hY hF
      refine x_iload3 dX2_takeEggs_4 ?_
      refine x_aload0 dX2_takeEggs_5 ?_
      refine x_getI dX2_takeEggs_6 fd_X2_43 (by first | rfl | exact yb_k (by assumption)) (Or.inl rfl) (v := V 0 0) hY.nests ?_
      refine x_icmp_ge (tgt := 35) dX2_takeEggs_9 rfl (fun hc => ?_) (fun hc => ?_)
      · refine x_aload0 dX2_takeEggs_35 ?_
        refine x_dupr dX2_takeEggs_36 ?_
        refine x_getI dX2_takeEggs_37 fd_X2_56 (by first | rfl | exact yb_k (by assumption)) (Or.inl rfl) hY.looked ?_
        refine x_iload1 dX2_takeEggs_40 ?_
        refine x_ior dX2_takeEggs_41 (v := ior (V 0 2) s) rfl ?_
        refine x_putI dX2_takeEggs_42 fd_X2_56 (by first | rfl | exact yb_k (by assumption)) rfl ?_
        refine x_iload2 dX2_takeEggs_45 ?_
        have e1 : (V 0 0).toNat = j := by omega
        refine xe_i dX2_takeEggs_46 ?_
        refine ⟨by rw [tkn, e1], ?_, hF.up (by omega) (by omega)⟩
        refine (hY.setLooked).cg (fun a z => ?_)
        unfold ux tak tkj
        have hj2 : (j : Int) = V 0 0 := by omega
        rw [hj2]
        by_cases ha : a = 5
        · subst ha
          simp
        · by_cases ha0 : a = 0
          · subst ha0
            simp
          · simp [ha, ha0]
      · omega
    | succ k ih =>
      intro j m1 hj hY hF
      refine x_iload3 dX2_takeEggs_4 ?_
      refine x_aload0 dX2_takeEggs_5 ?_
      refine x_getI dX2_takeEggs_6 fd_X2_43 (by first | rfl | exact yb_k (by assumption)) (Or.inl rfl) (v := V 0 0) hY.nests ?_
      refine x_icmp_ge (tgt := 35) dX2_takeEggs_9 rfl (fun hc => ?_) (fun hc => ?_)
      · omega
      · have hb1 := tkn_bd he s j (by omega)
        have hb2 := eggs_bd he (n := j) (by omega) (by omega) 10 (by omega)
        refine x_iload1 dX2_takeEggs_12 ?_
        refine x_iload3 dX2_takeEggs_13 ?_
        refine x_ishr dX2_takeEggs_14 rfl ?_
        refine x_iconst dX2_takeEggs_15 ⟨by decide, by decide⟩ ?_
        refine x_iand dX2_takeEggs_16 rfl ?_
        refine x_iconst dX2_takeEggs_17 ⟨by decide, by decide⟩ ?_
        refine x_icmp_ne (tgt := 29) dX2_takeEggs_18 rfl (fun hc2 => ?_) (fun hc2 => ?_)
        · have e3 : (if bt s j = 1 then eggs V j else 0) = 0 := if_neg hc2
          refine x_iinc3 dX2_takeEggs_29 (by decide) rfl (nrm_id (by omega) (by omega)) ?_
          refine x_goto (tgt := 4) dX2_takeEggs_32 rfl ?_
          refine Ex.eq ?_ rfl rfl (ih (j + 1) _ (by omega) ?_ hF)
          · simp only [List.cons.injEq, Option.some.injEq, Sum.inl.injEq, and_true, true_and, smI_succ]
            push_cast
            omega
          · refine hY.cg (fun a z => ?_)
            unfold tkj
            push_cast
            by_cases h1 : a = 5 ∧ 0 ≤ z ∧ z < 10 * (j : Int) ∧ bt s (z / 10) = 1
            · rw [if_pos h1, if_pos ⟨h1.1, h1.2.1, by omega, h1.2.2.2⟩]
            · rw [if_neg h1, if_neg]
              rintro ⟨g1, g2, g3, g4⟩
              by_cases hz : z < 10 * (j : Int)
              · exact h1 ⟨g1, g2, hz, g4⟩
              · have : z / 10 = j := by omega
                rw [this] at g4
                exact hc2 g4
        · have e3 : (if bt s j = 1 then eggs V j else 0) = eggs V j := if_pos hc2
          have ee : eggs (tkj V s j) j = eggs V j := eggs_cg (fun z h1 h2 => if_neg (by omega))
          have he2 : ∀ z, 0 ≤ z → z < 60 → 0 ≤ tkj V s j 5 z ∧ tkj V s j 5 z ≤ 9 := by
            intro z h1 h2
            have := he z h1 h2
            unfold tkj
            split <;> omega
          refine x_iload2 dX2_takeEggs_21 ?_
          refine x_aload0 dX2_takeEggs_22 ?_
          refine x_iload3 dX2_takeEggs_23 ?_
          refine x_callv1 dX2_takeEggs_24 cv_X2_75 ci_X2_emptyNest (by first | rfl | exact yb_k (by assumption)) (T := TX2) rfl (by decide) (Nat.le_of_ble_eq_true rfl) (s_emptyNest hb hY he2 (n := j) (by omega) (by omega)) (fun r m2 hq => ?_)
          obtain ⟨rfl, hY2, hF2⟩ := hq
          rw [ee]
          show Ex _ _ _ _ _ _ _ _ [zi (eggs V j), zi (smI (fun n => if bt s n = 1 then eggs V n else 0) j)] _
          have e4 : eggs V j = smI (fun a => V 5 (10 * (j : Int) + a)) 10 := rfl
          refine x_iadd dX2_takeEggs_27 (nrm_id (by omega) (by omega)) ?_
          refine x_istore2 dX2_takeEggs_28 (by decide) rfl ?_
          refine x_iinc3 dX2_takeEggs_29 (by decide) rfl (nrm_id (by omega) (by omega)) ?_
          refine x_goto (tgt := 4) dX2_takeEggs_32 rfl ?_
          refine Ex.eq ?_ rfl rfl (ih (j + 1) _ (by omega) ?_ (hF.tr hF2))
          · simp only [List.cons.injEq, Option.some.injEq, Sum.inl.injEq, and_true, true_and, smI_succ]
            push_cast
            omega
          · refine hY2.cg (fun a z => ?_)
            unfold emj tkj
            push_cast
            by_cases h0 : a = 5 ∧ 10 * (j : Int) ≤ z ∧ z < 10 * (j : Int) + 10
            · have : z / 10 = j := by omega
              rw [if_pos h0, if_pos ⟨h0.1, by omega, by omega, by rw [this]; exact hc2⟩]
            · rw [if_neg h0]
              by_cases h1 : a = 5 ∧ 0 ≤ z ∧ z < 10 * (j : Int) ∧ bt s (z / 10) = 1
              · rw [if_pos h1, if_pos ⟨h1.1, h1.2.1, by omega, h1.2.2.2⟩]
              · rw [if_neg h1, if_neg]
                rintro ⟨g1, g2, g3, g4⟩
                exact h1 ⟨g1, g2, by omega, g4⟩
  refine x_iconst dX2_takeEggs_0 ⟨by decide, by decide⟩ ?_
  refine x_istore2 dX2_takeEggs_1 (by decide) rfl ?_
  refine x_iconst dX2_takeEggs_2 ⟨by decide, by decide⟩ ?_
  refine x_istore3 dX2_takeEggs_3 (by decide) rfl ?_
  refine loop (V 0 0).toNat 0 m (by omega) (hY.cg (fun a z => ?_)) Fr.rf
  unfold tkj
  rw [if_neg (by omega)]
theorem s_mayAmong (hb : YB b) (hY : YP m b V) {p : Int} : Mt E 1 yX2_mayAmong cX2_mayAmong 3 (some .int) [zr b, zi p] m (ans (some (zi (may V p))) m) := by
  refine Mt.of 1 (by decide +kernel) (Nat.le_of_ble_eq_true rfl) (Or.inl rfl) ?_ ?_
  · rintro r m' ⟨rfl, rfl⟩; simp
  show Ex E cX2_mayAmong 3 RX2 1 _ 0 [some (zr b), some (zi p), none] [] m
  refine x_iload1 dX2_mayAmong_0 ?_
  refine x_aload0 dX2_mayAmong_1 ?_
  refine x_getI dX2_mayAmong_2 fd_X2_56 (by first | rfl | exact yb_k (by assumption)) (Or.inl rfl) hY.looked ?_
  refine x_iconst dX2_mayAmong_5 ⟨by decide, by decide⟩ ?_
  refine x_ixor dX2_mayAmong_6 rfl ?_
  refine x_iand dX2_mayAmong_7 rfl ?_
  refine x_istore2 dX2_mayAmong_8 (by decide) rfl ?_
  refine x_iload2 dX2_mayAmong_9 ?_
  refine x_if_eq (tgt := 17) dX2_mayAmong_10 rfl (fun hc => ?_) (fun hc => ?_)
  · refine x_iload1 dX2_mayAmong_17 ?_
    exact xe_i dX2_mayAmong_18 (⟨by rw [may, if_pos hc], rfl⟩)
  · refine x_iload2 dX2_mayAmong_13 ?_
    refine x_goto (tgt := 18) dX2_mayAmong_14 rfl ?_
    exact xe_i dX2_mayAmong_18 (⟨by rw [may, if_neg hc], rfl⟩)
end YM2
