/-! ===== the reference's calls: the same answers as o_ names ===== -/
def MR (m : zz_M) (T : zz_W) : Prop :=
  m 59 29 = T 0 0 ∧ (∀ z : Int, 0 ≤ z → z < 80 → m 71 z.toNat = T 1 z) ∧ m 59 37 = T 0 1 ∧ m 59 24 = T 0 2 ∧ (∀ z : Int, 0 ≤ z → z < 8 → m 75 z.toNat = T 2 z) ∧ (∀ z : Int, 0 ≤ z → z < 7 → m 65 z.toNat = T 3 z) ∧ m 59 17 = -1
def MPS (m : zz_M) (s : zz_S) : Prop := MP m s.1 ∧ (s.2.2 0 2 = 1 → SP m 70 s.2.1) ∧ MR m s.2.2
section RM5
variable {E : zz_E} {m : zz_M} {s : zz_S}
theorem MPS.gone (h : MPS m s) : m 59 17 = -1 := h.2.2.2.2.2.2.2.2
theorem Fg.mr {a b : Nat} {m' : zz_M} {T : zz_W} (h : Fg a b m m') (hb : b ≤ 70) (hR : MR m T) : MR m' T := by
  obtain ⟨g1, g2, g3, g4, g5, g6, g7⟩ := hR
  refine ⟨?_, fun z a c => ?_, ?_, ?_, fun z a c => ?_, fun z a c => ?_, ?_⟩
  · rw [h.2 29 (by decide) (by decide) (by decide) (by decide)]; exact g1
  · rw [h.1 71 (by omega)]; exact g2 z a c
  · rw [h.2 37 (by decide) (by decide) (by decide) (by decide)]; exact g3
  · rw [h.2 24 (by decide) (by decide) (by decide) (by decide)]; exact g4
  · rw [h.1 75 (by omega)]; exact g5 z a c
  · rw [h.1 65 (by omega)]; exact g6 z a c
  · rw [h.2 17 (by decide) (by decide) (by decide) (by decide)]; exact g7
theorem MPS.fg {a b : Nat} {m' : zz_M} {V' : zz_W} (hC : MPS m s) (h : Fg a b m m') (hb : b ≤ 70) (hM : MP m' V') : MPS m' (V', s.2) :=
  ⟨hM, fun q => h.sp (hC.2.1 q) (by decide) (by omega), h.mr hb hC.2.2⟩
theorem Fg.fr {a b : Nat} {m' : zz_M} (h : Fg a b m m') (hb : b ≤ 77) : Fr 59 77 m m' := fun q hq => h.1 q (by omega)
/-- how a call of the reference ends -/
abbrev RQ (m : zz_M) (a : zz_A) : Option zz_V → zz_M → Prop := fun r m' => r = some (zi a.1) ∧ MPS m' a.2 ∧ Fr 59 77 m m'
abbrev RQl (m : zz_M) (a : zz_A) : Option zz_V → zz_M → Prop := fun r m' => r = some (zj a.1) ∧ MPS m' a.2 ∧ Fr 59 77 m m'
theorem RQ.rt {m : zz_M} {a : zz_A} : ∀ r m', RQ m a r m' → (some FieldType.int = none ↔ r = none) ∧ (some FieldType.int = some FieldType.long ↔ ∃ z, r = some (zj z)) := by
  rintro r m' ⟨rfl, -⟩; simp
theorem RQl.rt {m : zz_M} {a : zz_A} : ∀ r m', RQl m a r m' → (some FieldType.long = none ↔ r = none) ∧ (some FieldType.long = some FieldType.long ↔ ∃ z, r = some (zj z)) := by
  rintro r m' ⟨rfl, -⟩; simp
theorem MPS.t15 (h : MPS m s) : MPS (up m 59 15 0) s := by
  obtain ⟨h1, h2, g1, g2, g3, g4, g5, g6, g7⟩ := h
  have e : ∀ q, q ≠ 59 → up m 59 15 0 q = m q := fun q hq => up_cell hq
  refine ⟨h1.keep (fun k hk => upn (by omega)) (fun q a b => e q (by omega)), fun q j hj => by rw [e 70 (by decide)]; exact h2 q j hj, ?_⟩
  unfold MR
  rw [e 71 (by decide), e 75 (by decide), e 65 (by decide), upn (by decide), upn (by decide), upn (by decide), upn (by decide)]
  exact ⟨g1, g2, g3, g4, g5, g6, g7⟩
theorem th15 {cc : ByteArray} {nL : Nat} {own : String} {d pc : Nat} {L : List (Option zz_V)} {S : List zz_V} {a : zz_A} (kk : ∀ m1, MPS m1 s → Ex E cc nL own d (RQ m1 a) pc L S m1) (hC : MPS m s) : Ex E cc nL own d (RQ m a) pc L S (up m 59 15 0) :=
  Ex.post (fun r m' h => ⟨h.1, h.2.1, (Fr.rf.up (by decide) (by decide)).tr h.2.2⟩) (kk _ hC.t15)
theorem th15l {cc : ByteArray} {nL : Nat} {own : String} {d pc : Nat} {L : List (Option zz_V)} {S : List zz_V} {a : zz_A} (kk : ∀ m1, MPS m1 s → Ex E cc nL own d (RQl m1 a) pc L S m1) (hC : MPS m s) : Ex E cc nL own d (RQl m a) pc L S (up m 59 15 0) :=
  Ex.post (fun r m' h => ⟨h.1, h.2.1, (Fr.rf.up (by decide) (by decide)).tr h.2.2⟩) (kk _ hC.t15)
theorem t_refuse (hC : MPS m s) {k n : Int} (h1 : 1 ≤ k) (h6 : k ≤ 6) (hn : n = -k) : Mt E 1 yX4_refuse cX4_refuse 2 (some .int) [zr 59, zi n] m (RQ m (rfo s k)) := by
  subst hn
  refine Mt.of 0 (by decide +kernel) (Nat.le_of_ble_eq_true rfl) (Or.inl rfl) ?_ ?_
  · exact RQ.rt
  show Ex E cX4_refuse 2 RX4 1 _ 0 [some (zr 59), some (zi (-k))] [] m
  refine x_aload0 dX4_refuse_0 ?_
  refine x_getR (q := 65) dX4_refuse_1 fd_X4_35 rfl rfl rfl ?_
  refine x_iload1 dX4_refuse_4 ?_
  refine x_ineg dX4_refuse_5 (v := k) (by rw [Int.neg_neg]; exact nrm_id (by omega) (by omega)) ?_
  refine x_dup2 dX4_refuse_6 ?_
  refine x_iald dX4_refuse_7 rfl (by omega) (by omega) (v := s.2.2 3 k) (hC.2.2.2.2.2.2.2.1 k (by omega) (by omega)) ?_
  refine x_iconst dX4_refuse_8 ⟨by decide, by decide⟩ ?_
  refine x_iadd dX4_refuse_9 rfl ?_
  refine x_iast dX4_refuse_10 rfl (by omega) (by omega) ?_
  refine x_iload1 dX4_refuse_11 ?_
  refine xe_i dX4_refuse_12 ?_
  obtain ⟨h1, h2, g1, g2, g3, g4, g5, g6, g7⟩ := hC
  have e : ∀ q, q ≠ 65 → up m 65 k.toNat (nrm (s.2.2 3 k + 1)) q = m q := fun q hq => up_cell hq
  refine ⟨rfl, ⟨h1.keep (fun k hk => by rw [e 59 (by decide)]) (fun q a b => e q (by omega)), fun q j hj => by rw [e 70 (by decide)]; exact h2 q j hj, ?_⟩, Fr.rf.up (by omega) (by omega)⟩
  unfold MR
  rw [e 71 (by decide), e 75 (by decide), e 59 (by decide)]
  have hx : ∀ a z, a ≠ 3 → ux s.2.2 3 k (nrm (s.2.2 3 k + 1)) a z = s.2.2 a z := fun a z ha => if_neg (fun q => ha q.1)
  refine ⟨g1.trans (hx 0 0 (by decide)).symm, fun z a b => (g2 z a b).trans (hx 1 z (by decide)).symm, g3.trans (hx 0 1 (by decide)).symm, g4.trans (hx 0 2 (by decide)).symm, fun z a b => (g5 z a b).trans (hx 2 z (by decide)).symm, fun z a b => ?_, g7⟩
  show up m 65 k.toNat (nrm (s.2.2 3 k + 1)) 65 z.toNat = ux s.2.2 3 k (nrm (s.2.2 3 k + 1)) 3 z
  unfold up ux
  by_cases hz : z = k
  · subst hz
    rw [if_pos ⟨rfl, rfl⟩, if_pos ⟨rfl, rfl⟩]
  · rw [if_neg (by omega), if_neg (by omega)]
    exact g6 z a b
theorem t_feed (hC : MPS m s) (hI : Is s) {l : Int} : Mt E 2 yX4_feed cX4_feed 2 (some .int) [zr 59, zi l] m (RQ m (o_feed s l)) := by
  have hl := hI.2.2.1
  refine Mt.of 0 (by decide +kernel) (Nat.le_of_ble_eq_true rfl) (Or.inl rfl) ?_ ?_
  · exact RQ.rt
  show Ex E cX4_feed 2 RX4 2 _ 0 [some (zr 59), some (zi l)] [] m
  refine x_aload0 dX4_feed_0 ?_
  refine x_iconst dX4_feed_1 ⟨by decide, by decide⟩ ?_
  refine x_putI dX4_feed_2 fd_X4_74 rfl rfl ?_
  refine th15 (fun m hC => ?_) hC
  refine x_iload1 dX4_feed_5 ?_
  refine x_if_ge (tgt := 16) dX4_feed_6 rfl (fun c1 => ?_) (fun c1 => ?_)
  · have bad : (255 < l ∨ 80 ≤ s.2.2 0 0) → Ex E cX4_feed 2 RX4 2 (RQ m (o_feed s l)) 32 [some (zr 59), some (zi l)] [] m := by
      intro h
      refine x_aload0 dX4_feed_32 ?_
      refine x_bipush dX4_feed_33 ⟨by decide, by decide⟩ ?_
      refine x_callv1 dX4_feed_35 cv_X4_150 ci_X4_refuse rfl (T := TX4) rfl (by omega) (Nat.le_of_ble_eq_true rfl) (t_refuse hC (k := 6) (by decide) (by decide) (by decide)) (fun r m1 hq => ?_)
      obtain ⟨rfl, hC1, hF1⟩ := hq
      exact xe_i dX4_feed_38 (by rw [o_feed, if_neg (by omega), if_pos h]; exact ⟨rfl, hC1, hF1⟩)
    refine x_iload1 dX4_feed_16 ?_
    refine x_sipush dX4_feed_17 ⟨by decide, by decide⟩ ?_
    refine x_icmp_gt (tgt := 32) dX4_feed_20 rfl (fun c2 => ?_) (fun c2 => ?_)
    · exact bad (Or.inl c2)
    · refine x_aload0 dX4_feed_23 ?_
      refine x_getI dX4_feed_24 fd_X4_153 rfl (Or.inl rfl) (v := s.2.2 0 0) hC.2.2.1 ?_
      refine x_bipush dX4_feed_27 ⟨by decide, by decide⟩ ?_
      refine x_icmp_ne (tgt := 39) dX4_feed_29 rfl (fun c3 => ?_) (fun c3 => ?_)
      · refine x_aload0 dX4_feed_39 ?_
        refine x_getR (q := 71) dX4_feed_40 fd_X4_56 rfl rfl rfl ?_
        refine x_aload0 dX4_feed_43 ?_
        refine x_getI dX4_feed_44 fd_X4_153 rfl (Or.inl rfl) (v := s.2.2 0 0) hC.2.2.1 ?_
        refine x_iload1 dX4_feed_47 ?_
        refine x_iast dX4_feed_48 rfl (by omega) (by omega) ?_
        refine x_aload0 dX4_feed_49 ?_
        refine x_dupr dX4_feed_50 ?_
        refine x_getI dX4_feed_51 fd_X4_153 rfl (Or.inl rfl) (v := s.2.2 0 0) (by rw [up_cell (by decide)]; exact hC.2.2.1) ?_
        refine x_iconst dX4_feed_54 ⟨by decide, by decide⟩ ?_
        refine x_iadd dX4_feed_55 (nrm_id (by omega) (by omega)) ?_
        refine x_putI dX4_feed_56 fd_X4_153 rfl rfl ?_
        refine x_aload0 dX4_feed_59 ?_
        refine x_getI dX4_feed_60 fd_X4_153 rfl (Or.inl rfl) (v := s.2.2 0 0 + 1) (up_same _ _ _ _) ?_
        refine xe_i dX4_feed_63 ?_
        rw [o_feed, if_neg (by omega), if_neg (by omega)]
        obtain ⟨h1, h2, g1, g2, g3, g4, g5, g6, g7⟩ := hC
        have e : ∀ q, q ≠ 59 → q ≠ 71 → up (up m 71 (s.2.2 0 0).toNat l) 59 29 (s.2.2 0 0 + 1) q = m q := fun q a b => by rw [up_cell a, up_cell b]
        have e2 : ∀ k, k ≠ 29 → up (up m 71 (s.2.2 0 0).toNat l) 59 29 (s.2.2 0 0 + 1) 59 k = m 59 k := fun k a => by rw [upn a, up_cell (by decide)]
        refine ⟨rfl, ⟨h1.keep (fun k hk => e2 k (by omega)) (fun q a b => e q (by omega) (by omega)), fun q j hj => ?_, ?_⟩, (Fr.rf.up (by omega) (by omega)).up (by omega) (by omega)⟩
        · rw [e 70 (by decide) (by decide)]
          exact h2 q j hj
        · unfold MR
          rw [e 75 (by decide) (by decide), e 65 (by decide) (by decide), e2 37 (by decide), e2 24 (by decide), e2 17 (by decide)]
          refine ⟨up_same _ _ _ _, fun z a b => ?_, g3, g4, g5, g6, g7⟩
          rw [up_cell (by decide)]
          show up m 71 (s.2.2 0 0).toNat l 71 z.toNat = ux (ux s.2.2 1 (s.2.2 0 0) l) 0 0 (s.2.2 0 0 + 1) 1 z
          unfold up ux
          rw [if_neg (show ¬ ((1 : Nat) = 0 ∧ z = 0) by omega)]
          by_cases hz : z = s.2.2 0 0
          · subst hz
            rw [if_pos ⟨rfl, rfl⟩, if_pos ⟨rfl, rfl⟩]
          · rw [if_neg (by omega), if_neg (by omega)]
            exact g2 z a b
      · exact bad (Or.inr (by omega))
  · refine x_aload0 dX4_feed_9 ?_
    refine x_bipush dX4_feed_10 ⟨by decide, by decide⟩ ?_
    refine x_callv1 dX4_feed_12 cv_X4_150 ci_X4_refuse rfl (T := TX4) rfl (by omega) (Nat.le_of_ble_eq_true rfl) (t_refuse hC (k := 4) (by decide) (by decide) (by decide)) (fun r m1 hq => ?_)
    obtain ⟨rfl, hC1, hF1⟩ := hq
    exact xe_i dX4_feed_15 (by rw [o_feed, if_pos c1]; exact ⟨rfl, hC1, hF1⟩)
theorem t_row (hC : MPS m s) (hI : Is s) {n : Int} : Mt E 2 yX4_row cX4_row 2 (some .int) [zr 59, zi n] m (RQ m (o_row s n)) := by
  have hl := hI.2.2.2.1
  refine Mt.of 0 (by decide +kernel) (Nat.le_of_ble_eq_true rfl) (Or.inl rfl) ?_ ?_
  · exact RQ.rt
  show Ex E cX4_row 2 RX4 2 _ 0 [some (zr 59), some (zi n)] [] m
  refine x_aload0 dX4_row_0 ?_
  refine x_iconst dX4_row_1 ⟨by decide, by decide⟩ ?_
  refine x_putI dX4_row_2 fd_X4_74 rfl rfl ?_
  refine th15 (fun m hC => ?_) hC
  refine x_iload1 dX4_row_5 ?_
  refine x_if_ge (tgt := 16) dX4_row_6 rfl (fun c1 => ?_) (fun c1 => ?_)
  · have bad : (6 ≤ n ∨ 8 ≤ s.2.2 0 1) → Ex E cX4_row 2 RX4 2 (RQ m (o_row s n)) 30 [some (zr 59), some (zi n)] [] m := by
      intro h
      refine x_aload0 dX4_row_30 ?_
      refine x_bipush dX4_row_31 ⟨by decide, by decide⟩ ?_
      refine x_callv1 dX4_row_33 cv_X4_150 ci_X4_refuse rfl (T := TX4) rfl (by omega) (Nat.le_of_ble_eq_true rfl) (t_refuse hC (k := 6) (by decide) (by decide) (by decide)) (fun r m1 hq => ?_)
      obtain ⟨rfl, hC1, hF1⟩ := hq
      exact xe_i dX4_row_36 (by rw [o_row, if_neg (by omega), if_pos h]; exact ⟨rfl, hC1, hF1⟩)
    refine x_iload1 dX4_row_16 ?_
    refine x_iconst dX4_row_17 ⟨by decide, by decide⟩ ?_
    refine x_icmp_gt (tgt := 30) dX4_row_18 rfl (fun c2 => ?_) (fun c2 => ?_)
    · exact bad (Or.inl (by omega))
    · refine x_aload0 dX4_row_21 ?_
      refine x_getI dX4_row_22 fd_X4_219 rfl (Or.inl rfl) (v := s.2.2 0 1) hC.2.2.2.2.1 ?_
      refine x_bipush dX4_row_25 ⟨by decide, by decide⟩ ?_
      refine x_icmp_ne (tgt := 37) dX4_row_27 rfl (fun c3 => ?_) (fun c3 => ?_)
      · refine x_aload0 dX4_row_37 ?_
        refine x_getR (q := 75) dX4_row_38 fd_X4_68 rfl rfl rfl ?_
        refine x_aload0 dX4_row_41 ?_
        refine x_getI dX4_row_42 fd_X4_219 rfl (Or.inl rfl) (v := s.2.2 0 1) hC.2.2.2.2.1 ?_
        refine x_iload1 dX4_row_45 ?_
        refine x_iast dX4_row_46 rfl (by omega) (by omega) ?_
        refine x_aload0 dX4_row_47 ?_
        refine x_dupr dX4_row_48 ?_
        refine x_getI dX4_row_49 fd_X4_219 rfl (Or.inl rfl) (v := s.2.2 0 1) (by rw [up_cell (by decide)]; exact hC.2.2.2.2.1) ?_
        refine x_iconst dX4_row_52 ⟨by decide, by decide⟩ ?_
        refine x_iadd dX4_row_53 (nrm_id (by omega) (by omega)) ?_
        refine x_putI dX4_row_54 fd_X4_219 rfl rfl ?_
        refine x_aload0 dX4_row_57 ?_
        refine x_getI dX4_row_58 fd_X4_219 rfl (Or.inl rfl) (v := s.2.2 0 1 + 1) (up_same _ _ _ _) ?_
        refine xe_i dX4_row_61 ?_
        rw [o_row, if_neg (by omega), if_neg (by omega)]
        obtain ⟨h1, h2, g1, g2, g3, g4, g5, g6, g7⟩ := hC
        have e : ∀ q, q ≠ 59 → q ≠ 75 → up (up m 75 (s.2.2 0 1).toNat n) 59 37 (s.2.2 0 1 + 1) q = m q := fun q a b => by rw [up_cell a, up_cell b]
        have e2 : ∀ k, k ≠ 37 → up (up m 75 (s.2.2 0 1).toNat n) 59 37 (s.2.2 0 1 + 1) 59 k = m 59 k := fun k a => by rw [upn a, up_cell (by decide)]
        refine ⟨rfl, ⟨h1.keep (fun k hk => e2 k (by omega)) (fun q a b => e q (by omega) (by omega)), fun q j hj => ?_, ?_⟩, (Fr.rf.up (by omega) (by omega)).up (by omega) (by omega)⟩
        · rw [e 70 (by decide) (by decide)]
          exact h2 q j hj
        · unfold MR
          rw [e 71 (by decide) (by decide), e 65 (by decide) (by decide), e2 29 (by decide), e2 24 (by decide), e2 17 (by decide)]
          refine ⟨g1, g2, up_same _ _ _ _, g4, fun z a b => ?_, g6, g7⟩
          rw [up_cell (by decide)]
          show up m 75 (s.2.2 0 1).toNat n 75 z.toNat = ux (ux s.2.2 2 (s.2.2 0 1) n) 0 1 (s.2.2 0 1 + 1) 2 z
          unfold up ux
          rw [if_neg (show ¬ ((2 : Nat) = 0 ∧ z = 1) by omega)]
          by_cases hz : z = s.2.2 0 1
          · subst hz
            rw [if_pos ⟨rfl, rfl⟩, if_pos ⟨rfl, rfl⟩]
          · rw [if_neg (by omega), if_neg (by omega)]
            exact g5 z a b
      · exact bad (Or.inr (by omega))
  · refine x_aload0 dX4_row_9 ?_
    refine x_bipush dX4_row_10 ⟨by decide, by decide⟩ ?_
    refine x_callv1 dX4_row_12 cv_X4_150 ci_X4_refuse rfl (T := TX4) rfl (by omega) (Nat.le_of_ble_eq_true rfl) (t_refuse hC (k := 4) (by decide) (by decide) (by decide)) (fun r m1 hq => ?_)
    obtain ⟨rfl, hC1, hF1⟩ := hq
    exact xe_i dX4_row_15 (by rw [o_row, if_pos c1]; exact ⟨rfl, hC1, hF1⟩)
/-- the row is forgotten -/
theorem MPS.row0 (h : MPS m s) : MPS (up m 59 37 0) (s.1, s.2.1, ux s.2.2 0 1 0) := by
  obtain ⟨h1, h2, g1, g2, g3, g4, g5, g6, g7⟩ := h
  have e : ∀ q, q ≠ 59 → up m 59 37 0 q = m q := fun q hq => up_cell hq
  refine ⟨h1.keep (fun k hk => upn (by omega)) (fun q a b => e q (by omega)), fun q j hj => by rw [e 70 (by decide)]; exact h2 q j hj, ?_⟩
  unfold MR
  rw [e 71 (by decide), e 75 (by decide), e 65 (by decide), upn (show 29 ≠ 37 by decide), upn (show 24 ≠ 37 by decide), upn (show 17 ≠ 37 by decide)]
  exact ⟨g1, g2, up_same _ _ _ _, g4, g5, g6, g7⟩
theorem t_clear (hC : MPS m s) : Mt E 1 yX4_clear cX4_clear 2 (some .int) [zr 59] m (RQ m (o_clear s)) := by
  refine Mt.of 1 (by decide +kernel) (Nat.le_of_ble_eq_true rfl) (Or.inl rfl) ?_ ?_
  · exact RQ.rt
  show Ex E cX4_clear 2 RX4 1 _ 0 [some (zr 59), none] [] m
  refine x_aload0 dX4_clear_0 ?_
  refine x_iconst dX4_clear_1 ⟨by decide, by decide⟩ ?_
  refine x_putI dX4_clear_2 fd_X4_74 rfl rfl ?_
  refine th15 (fun m hC => ?_) hC
  refine x_aload0 dX4_clear_5 ?_
  refine x_getI dX4_clear_6 fd_X4_219 rfl (Or.inl rfl) (v := s.2.2 0 1) hC.2.2.2.2.1 ?_
  refine x_istore1 dX4_clear_9 (by decide) rfl ?_
  refine x_aload0 dX4_clear_10 ?_
  refine x_iconst dX4_clear_11 ⟨by decide, by decide⟩ ?_
  refine x_putI dX4_clear_12 fd_X4_219 rfl rfl ?_
  refine x_iload1 dX4_clear_15 ?_
  exact xe_i dX4_clear_16 (⟨rfl, hC.row0, Fr.rf.up (by decide) (by decide)⟩)
theorem t_image (hC : MPS m s) : Mt E 3 yX4_image cX4_image 1 (some .int) [zr 59] m (RQ m (o_image s)) := by
  refine Mt.of 0 (by decide +kernel) (Nat.le_of_ble_eq_true rfl) (Or.inl rfl) ?_ ?_
  · exact RQ.rt
  show Ex E cX4_image 1 RX4 3 _ 0 [some (zr 59)] [] m
  refine x_aload0 dX4_image_0 ?_
  refine x_iconst dX4_image_1 ⟨by decide, by decide⟩ ?_
  refine x_putI dX4_image_2 fd_X4_74 rfl rfl ?_
  refine th15 (fun m hC => ?_) hC
  refine x_aload0 dX4_image_5 ?_
  refine x_iconst dX4_image_6 ⟨by decide, by decide⟩ ?_
  refine x_putZ dX4_image_7 fd_X4_147 rfl rfl (by omega) ?_
  refine x_aload0 dX4_image_10 ?_
  refine x_aload0 dX4_image_11 ?_
  refine x_getR (q := 70) dX4_image_12 fd_X4_53 rfl rfl rfl ?_
  refine x_iconst dX4_image_15 ⟨by decide, by decide⟩ ?_
  obtain ⟨h1, h2, g1, g2, g3, g4, g5, g6, g7⟩ := hC
  have hM1 : MP (up m 59 24 1) s.1 := h1.keep (fun k hk => upn (by omega)) (fun q a b => up_cell (by omega))
  refine x_callv2 dX4_image_16 cv_X4_143 ci_X4_carryAll rfl (T := TX4) rfl (by omega) (Nat.le_of_ble_eq_true rfl) (t_carryAll (k := 70) (t := 1) rfl (by decide) (Or.inr rfl)) (fun r m1 hq => ?_)
  obtain ⟨rfl, h⟩ := hq
  have g := h.in_ (by decide) hM1
  have hF := h.fg (Or.inr rfl) (by decide)
  show Ex _ _ _ _ _ _ _ _ [] _
  refine x_aload0 dX4_image_19 ?_
  refine x_getI dX4_image_20 fd_X4_114 rfl (Or.inl rfl) (v := s.1 0 4) g.1.day ?_
  refine xe_i dX4_image_23 ?_
  refine ⟨rfl, ⟨g.1, fun _ => g.2, ?_⟩, (Fr.rf.up (by decide) (by decide)).tr (hF.fr (by decide))⟩
  have e : ∀ q, q ≠ 59 → up m 59 24 1 q = m q := fun q hq => up_cell hq
  unfold MR
  rw [hF.1 71 (by omega), hF.1 75 (by omega), hF.1 65 (by omega), hF.2 29 (by decide) (by decide) (by decide) (by decide), hF.2 37 (by decide) (by decide) (by decide) (by decide), hF.2 24 (by decide) (by decide) (by decide) (by decide), hF.2 17 (by decide) (by decide) (by decide) (by decide), e 71 (by decide), e 75 (by decide), e 65 (by decide), upn (show 29 ≠ 24 by decide), upn (show 37 ≠ 24 by decide), upn (show 17 ≠ 24 by decide)]
  exact ⟨g1, g2, g3, up_same _ _ _ _, g5, g6, g7⟩
theorem t_restore (hC : MPS m s) (hI : Is s) : Mt E 3 yX4_restore cX4_restore 1 (some .int) [zr 59] m (RQ m (o_restore s)) := by
  have h01 := hI.2.2.2.2
  refine Mt.of 0 (by decide +kernel) (Nat.le_of_ble_eq_true rfl) (Or.inl rfl) ?_ ?_
  · exact RQ.rt
  show Ex E cX4_restore 1 RX4 3 _ 0 [some (zr 59)] [] m
  refine x_aload0 dX4_restore_0 ?_
  refine x_iconst dX4_restore_1 ⟨by decide, by decide⟩ ?_
  refine x_putI dX4_restore_2 fd_X4_74 rfl rfl ?_
  refine th15 (fun m hC => ?_) hC
  refine x_aload0 dX4_restore_5 ?_
  refine x_getI dX4_restore_6 fd_X4_147 rfl (Or.inr rfl) (v := s.2.2 0 2) hC.2.2.2.2.2.1 ?_
  refine x_if_ne (tgt := 19) dX4_restore_9 rfl (fun c1 => ?_) (fun c1 => ?_)
  · refine x_aload0 dX4_restore_19 ?_
    refine x_aload0 dX4_restore_20 ?_
    refine x_getR (q := 70) dX4_restore_21 fd_X4_53 rfl rfl rfl ?_
    refine x_iconst dX4_restore_24 ⟨by decide, by decide⟩ ?_
    refine x_callv2 dX4_restore_25 cv_X4_143 ci_X4_carryAll rfl (T := TX4) rfl (by omega) (Nat.le_of_ble_eq_true rfl) (t_carryAll (k := 70) (t := 0) rfl (by decide) (Or.inl rfl)) (fun r m1 hq => ?_)
    obtain ⟨rfl, h⟩ := hq
    have g := h.out (by decide) (hC.2.1 (by omega))
    have hF := h.fg (Or.inl rfl) (by decide)
    show Ex _ _ _ _ _ _ _ _ [] _
    refine x_aload0 dX4_restore_28 ?_
    refine x_getI dX4_restore_29 fd_X4_114 rfl (Or.inl rfl) (v := s.2.1 0 4) g.1.day ?_
    refine xe_i dX4_restore_32 ?_
    rw [o_restore, if_neg c1]
    refine ⟨rfl, ⟨g.1, fun _ => g.2, ?_⟩, hF.fr (by decide)⟩
    have hR := hC.2.2
    unfold MR at hR ⊢
    rw [hF.1 71 (by omega), hF.1 75 (by omega), hF.1 65 (by omega), hF.2 29 (by decide) (by decide) (by decide) (by decide), hF.2 37 (by decide) (by decide) (by decide) (by decide), hF.2 24 (by decide) (by decide) (by decide) (by decide), hF.2 17 (by decide) (by decide) (by decide) (by decide)]
    exact hR
  · refine x_aload0 dX4_restore_12 ?_
    refine x_bipush dX4_restore_13 ⟨by decide, by decide⟩ ?_
    refine x_callv1 dX4_restore_15 cv_X4_150 ci_X4_refuse rfl (T := TX4) rfl (by omega) (Nat.le_of_ble_eq_true rfl) (t_refuse hC (k := 3) (by decide) (by decide) (by decide)) (fun r m1 hq => ?_)
    obtain ⟨rfl, hC1, hF1⟩ := hq
    exact xe_i dX4_restore_18 (by rw [o_restore, if_pos c1]; exact ⟨rfl, hC1, hF1⟩)
theorem t_night (hC : MPS m s) (hI : Is s) : Mt E 6 yX4_night cX4_night 1 (some .int) [zr 59] m (RQ m (o_night s)) := by
  have hV := hI.1
  refine Mt.of 0 (by decide +kernel) (Nat.le_of_ble_eq_true rfl) (Or.inl rfl) ?_ ?_
  · exact RQ.rt
  show Ex E cX4_night 1 RX4 6 _ 0 [some (zr 59)] [] m
  refine x_aload0 dX4_night_0 ?_
  refine x_iconst dX4_night_1 ⟨by decide, by decide⟩ ?_
  refine x_putI dX4_night_2 fd_X4_74 rfl rfl ?_
  refine th15 (fun m hC => ?_) hC
  have hM := hC.1
  refine x_aload0 dX4_night_5 ?_
  refine x_getI dX4_night_6 fd_X4_77 rfl (Or.inl rfl) (v := s.1 0 0) hM.nests ?_
  refine x_if_eq (tgt := 22) dX4_night_9 rfl (fun c1 => ?_) (fun c1 => ?_)
  · refine x_aload0 dX4_night_22 ?_
    refine x_aload0 dX4_night_23 ?_
    refine x_getI dX4_night_24 fd_X4_77 rfl (Or.inl rfl) (v := s.1 0 0) hM.nests ?_
    refine x_if_ne (tgt := 35) dX4_night_27 rfl (fun c2 => ?_) (fun c2 => ?_)
    · omega
    · refine x_bipush dX4_night_30 ⟨by decide, by decide⟩ ?_
      refine x_goto (tgt := 37) dX4_night_32 rfl ?_
      refine x_callv1 dX4_night_37 cv_X4_150 ci_X4_refuse rfl (T := TX4) rfl (by omega) (Nat.le_of_ble_eq_true rfl) (t_refuse hC (k := 3) (by decide) (by decide) (by decide)) (fun r m1 hq => ?_)
      obtain ⟨rfl, hC1, hF1⟩ := hq
      exact xe_i dX4_night_40 (by rw [o_night, if_pos c1]; exact ⟨rfl, hC1, hF1⟩)
  · refine x_aload0 dX4_night_12 ?_
    refine x_getI dX4_night_13 fd_X4_114 rfl (Or.inl rfl) (v := s.1 0 4) hM.day ?_
    refine x_sipush dX4_night_16 ⟨by decide, by decide⟩ ?_
    have hd := hV.2.2.2.1
    refine x_icmp_ne (tgt := 41) dX4_night_19 rfl (fun c2 => ?_) (fun c2 => ?_)
    · refine x_aload0 dX4_night_41 ?_
      refine x_callv0 dX4_night_42 cv_X4_202 ci_X4_nightOn rfl (T := TX4) rfl (by omega) (Nat.le_of_ble_eq_true rfl) (t_nightOn hM hV (by decide) hC.gone c1) (fun r m1 hq => ?_)
      obtain ⟨rfl, hM1, hF⟩ := hq
      exact xe_i dX4_night_45 (by rw [o_night, if_neg c1, if_neg (by omega)]; exact ⟨rfl, hC.fg hF (by decide) hM1, hF.fr (by decide)⟩)
    · refine x_aload0 dX4_night_22 ?_
      refine x_aload0 dX4_night_23 ?_
      refine x_getI dX4_night_24 fd_X4_77 rfl (Or.inl rfl) (v := s.1 0 0) hM.nests ?_
      refine x_if_ne (tgt := 35) dX4_night_27 rfl (fun c3 => ?_) (fun c3 => ?_)
      · refine x_bipush dX4_night_35 ⟨by decide, by decide⟩ ?_
        refine x_callv1 dX4_night_37 cv_X4_150 ci_X4_refuse rfl (T := TX4) rfl (by omega) (Nat.le_of_ble_eq_true rfl) (t_refuse hC (k := 6) (by decide) (by decide) (by decide)) (fun r m1 hq => ?_)
        obtain ⟨rfl, hC1, hF1⟩ := hq
        exact xe_i dX4_night_40 (by rw [o_night, if_neg c1, if_pos (by omega)]; exact ⟨rfl, hC1, hF1⟩)
      · omega
theorem t_tonight (hC : MPS m s) (hI : Is s) {w : Int} : Mt E 5 yX4_tonight cX4_tonight 2 (some .int) [zr 59, zi w] m (RQ m (o_tonight s w)) := by
  have hV := hI.1
  have hn := hV.1
  refine Mt.of 0 (by decide +kernel) (Nat.le_of_ble_eq_true rfl) (Or.inl rfl) ?_ ?_
  · exact RQ.rt
  show Ex E cX4_tonight 2 RX4 5 _ 0 [some (zr 59), some (zi w)] [] m
  refine x_aload0 dX4_tonight_0 ?_
  refine x_iconst dX4_tonight_1 ⟨by decide, by decide⟩ ?_
  refine x_putI dX4_tonight_2 fd_X4_74 rfl rfl ?_
  refine th15 (fun m hC => ?_) hC
  have hM := hC.1
  refine x_iload1 dX4_tonight_5 ?_
  refine x_i2l dX4_tonight_6 ?_
  refine x_lconst dX4_tonight_7 rfl ?_
  refine x_lconst dX4_tonight_8 rfl ?_
  refine x_calls3 dX4_tonight_9 cv_X4_80 cs_X4_in (by omega) (Nat.le_of_ble_eq_true rfl) (t_in) (fun r m1 hq => ?_)
  obtain ⟨rfl, rfl⟩ := hq
  show Ex _ _ _ _ _ _ _ _ [zi (if (0 : Int) ≤ w ∧ w ≤ 1 then 1 else 0)] _
  by_cases h1 : 0 ≤ w ∧ w ≤ 1
  · rw [if_pos h1]
    refine x_if_eq (tgt := 22) dX4_tonight_12 rfl (fun c1 => ?_) (fun c1 => ?_)
    · omega
    · refine x_aload0 dX4_tonight_15 ?_
      refine x_getI dX4_tonight_16 fd_X4_77 rfl (Or.inl rfl) (v := s.1 0 0) hM.nests ?_
      refine x_if_ne (tgt := 44) dX4_tonight_19 rfl (fun c2 => ?_) (fun c2 => ?_)
      · refine x_iload1 dX4_tonight_44 ?_
        refine x_if_ne (tgt := 55) dX4_tonight_45 rfl (fun c3 => ?_) (fun c3 => ?_)
        · refine x_aload0 dX4_tonight_55 ?_
          refine x_callv0 dX4_tonight_56 cv_X4_101 ci_X4_mayBits rfl (T := TX4) rfl (by omega) (Nat.le_of_ble_eq_true rfl) (t_mayBits hM hn hC.gone) (fun r m2 hq => ?_)
          obtain ⟨rfl, rfl⟩ := hq
          exact xe_i dX4_tonight_59 (by rw [o_tonight, if_neg (by omega), if_neg c2, if_neg c3]; exact ⟨by rw [gs_all], hC, Fr.rf⟩)
        · refine x_aload0 dX4_tonight_48 ?_
          refine x_callv0 dX4_tonight_49 cv_X4_120 ci_X4_laysAt rfl (T := TX4) rfl (by omega) (Nat.le_of_ble_eq_true rfl) (t_laysAt hM hV (by decide) hC.gone (by rw [gs_all]; exact all_sub hn.1 hn.2) (by rw [gs_all]; exact has_all (by omega) hn.2)) (fun r m2 hq => ?_)
          obtain ⟨rfl, hM2, hF⟩ := hq
          show Ex _ _ _ _ _ _ _ _ [zi (lays s.1 (gs s.1 (-1)))] _
          refine x_goto (tgt := 59) dX4_tonight_52 rfl ?_
          exact xe_i dX4_tonight_59 (by rw [o_tonight, if_neg (by omega), if_neg c2, if_pos c3]; exact ⟨by rw [gs_all]; rfl, hC.fg (hF.fg (a := 67) (b := 67)) (by decide) hM2, (hF.fg (a := 67) (b := 67)).fr (by decide)⟩)
      · refine x_aload0 dX4_tonight_22 ?_
        refine x_iload1 dX4_tonight_23 ?_
        refine x_i2l dX4_tonight_24 ?_
        refine x_lconst dX4_tonight_25 rfl ?_
        refine x_lconst dX4_tonight_26 rfl ?_
        refine x_calls3 dX4_tonight_27 cv_X4_80 cs_X4_in (by omega) (Nat.le_of_ble_eq_true rfl) (t_in) (fun r m1 hq => ?_)
        obtain ⟨rfl, rfl⟩ := hq
        show Ex _ _ _ _ _ _ _ _ [zi (if (0 : Int) ≤ w ∧ w ≤ 1 then 1 else 0), zr 59] _
        rw [if_pos h1]
        refine x_if_eq (tgt := 38) dX4_tonight_30 rfl (fun c3 => ?_) (fun c3 => ?_)
        · omega
        · refine x_bipush dX4_tonight_33 ⟨by decide, by decide⟩ ?_
          refine x_goto (tgt := 40) dX4_tonight_35 rfl ?_
          refine x_callv1 dX4_tonight_40 cv_X4_150 ci_X4_refuse rfl (T := TX4) rfl (by omega) (Nat.le_of_ble_eq_true rfl) (t_refuse hC (k := 3) (by decide) (by decide) (by decide)) (fun r m1 hq => ?_)
          obtain ⟨rfl, hC1, hF1⟩ := hq
          exact xe_i dX4_tonight_43 (by rw [o_tonight, if_neg (by omega), if_pos c2]; exact ⟨rfl, hC1, hF1⟩)
  · rw [if_neg h1]
    refine x_if_eq (tgt := 22) dX4_tonight_12 rfl (fun c1 => ?_) (fun c1 => ?_)
    · refine x_aload0 dX4_tonight_22 ?_
      refine x_iload1 dX4_tonight_23 ?_
      refine x_i2l dX4_tonight_24 ?_
      refine x_lconst dX4_tonight_25 rfl ?_
      refine x_lconst dX4_tonight_26 rfl ?_
      refine x_calls3 dX4_tonight_27 cv_X4_80 cs_X4_in (by omega) (Nat.le_of_ble_eq_true rfl) (t_in) (fun r m1 hq => ?_)
      obtain ⟨rfl, rfl⟩ := hq
      show Ex _ _ _ _ _ _ _ _ [zi (if (0 : Int) ≤ w ∧ w ≤ 1 then 1 else 0), zr 59] _
      rw [if_neg h1]
      refine x_if_eq (tgt := 38) dX4_tonight_30 rfl (fun c3 => ?_) (fun c3 => ?_)
      · refine x_bipush dX4_tonight_38 ⟨by decide, by decide⟩ ?_
        refine x_callv1 dX4_tonight_40 cv_X4_150 ci_X4_refuse rfl (T := TX4) rfl (by omega) (Nat.le_of_ble_eq_true rfl) (t_refuse hC (k := 2) (by decide) (by decide) (by decide)) (fun r m1 hq => ?_)
        obtain ⟨rfl, hC1, hF1⟩ := hq
        exact xe_i dX4_tonight_43 (by rw [o_tonight, if_pos (by omega)]; exact ⟨rfl, hC1, hF1⟩)
      · omega
    · omega
end RM5
