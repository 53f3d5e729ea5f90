/-! ===== the yard's methods ===== -/
section YM1
variable {E : zz_E} {m : zz_M} {b : Nat} {V : zz_W} {D : Int}
theorem s_allNests (hb : YB b) (hY : YP m b V) (hI : Iv D V) : Mt E 1 yX2_allNests cX2_allNests 1 (some .int) [zr b] m (ans (some (zi (alln (V 0 0)))) m) := by
  have hn := hI.1
  refine Mt.of 0 (by decide +kernel) (Nat.le_of_ble_eq_true rfl) (Or.inl rfl) ?_ ?_
  · rintro r m' ⟨rfl, rfl⟩; simp
  show Ex E cX2_allNests 1 RX2 1 _ 0 [some (zr b)] [] m
  have hq : ∀ n : Int, 0 ≤ n → n ≤ 6 → -2147483648 ≤ isl 1 n - 1 ∧ isl 1 n - 1 ≤ 2147483647 := by
    intro n h0 h1
    have : n = 0 ∨ n = 1 ∨ n = 2 ∨ n = 3 ∨ n = 4 ∨ n = 5 ∨ n = 6 := by omega
    rcases this with rfl | rfl | rfl | rfl | rfl | rfl | rfl <;> decide
  have := hq _ hn.1 hn.2
  refine x_iconst dX2_allNests_0 ⟨by decide, by decide⟩ ?_
  refine x_aload0 dX2_allNests_1 ?_
  refine x_getI dX2_allNests_2 fd_X2_43 (by first | rfl | exact yb_k (by assumption)) (Or.inl rfl) hY.nests ?_
  refine x_ishl dX2_allNests_5 rfl ?_
  refine x_iconst dX2_allNests_6 ⟨by decide, by decide⟩ ?_
  refine x_isub dX2_allNests_7 (nrm_id (by omega) (by omega)) ?_
  exact xe_i dX2_allNests_8 (⟨rfl, rfl⟩)
theorem s_eggsAt (hb : YB b) (hY : YP m b V) (hE : ∀ z, 0 ≤ z → z < 60 → 0 ≤ V 5 z ∧ V 5 z ≤ 9) {n : Int} (h0 : 0 ≤ n) (h1 : n < 6) : Mt E 1 yX2_eggsAt cX2_eggsAt 5 (some .int) [zr b, zi n] m (ans (some (zi (eggs V n))) m) := by
  refine Mt.of 3 (by decide +kernel) (Nat.le_of_ble_eq_true rfl) (Or.inl rfl) ?_ ?_
  · rintro r m' ⟨rfl, rfl⟩; simp
  show Ex E cX2_eggsAt 5 RX2 1 _ 0 [some (zr b), some (zi n), none, none, none] [] m
  have loop : ∀ (k j : Nat), j + k = 10 → Ex E cX2_eggsAt 5 RX2 1 (ans (some (zi (eggs V n))) m) 15 [some (zr b), some (zi n), some (zi (smI (fun a => V 5 (10 * n + a)) j)), some (zi ((n + 1) * 10)), some (zi (n * 10 + j))] [] m := by
    intro k
    induction k with
    | zero =>
      intro j hj
      refine x_iload4 dX2_eggsAt_15 ?_
      refine x_iload3 dX2_eggsAt_17 ?_
      refine x_icmp_ge (tgt := 37) dX2_eggsAt_18 rfl (fun hc => ?_) (fun hc => ?_)
      · refine x_iload2 dX2_eggsAt_37 ?_
        obtain rfl : j = 10 := by omega
        exact xe_i dX2_eggsAt_38 (⟨rfl, rfl⟩)
      · omega
    | succ k ih =>
      intro j hj
      refine x_iload4 dX2_eggsAt_15 ?_
      refine x_iload3 dX2_eggsAt_17 ?_
      refine x_icmp_ge (tgt := 37) dX2_eggsAt_18 rfl (fun hc => ?_) (fun hc => ?_)
      · omega
      · have hb1 := eggs_bd hE h0 h1 j (by omega)
        have hb2 := hE (10 * n + j) (by omega) (by omega)
        have e1 : n * 10 + (j : Int) = 10 * n + j := by omega
        refine x_iload2 dX2_eggsAt_21 ?_
        refine x_aload0 dX2_eggsAt_22 ?_
        refine x_getR (q := b + 5) dX2_eggsAt_23 fd_X2_24 (by first | rfl | exact yb_k (by assumption)) rfl (yb_p4 (by assumption)) ?_
        refine x_iload4 dX2_eggsAt_26 ?_
        refine x_iald dX2_eggsAt_28 (yb_a4 (by assumption)) (by omega) (by omega) (v := V 5 (10 * n + j)) (by rw [e1]; exact hY.egg (by omega) (by omega)) ?_
        refine x_iadd dX2_eggsAt_29 (nrm_id (by omega) (by omega)) ?_
        refine x_istore2 dX2_eggsAt_30 (by decide) rfl ?_
        refine x_iinc4 dX2_eggsAt_31 (by decide) rfl (nrm_id (by omega) (by omega)) ?_
        refine x_goto (tgt := 15) dX2_eggsAt_34 rfl ?_
        exact Ex.eq (by simp only [List.cons.injEq, Option.some.injEq, Sum.inl.injEq, and_true, true_and, smI_succ]; (try and_intros) <;> (try push_cast) <;> omega) rfl rfl (ih (j + 1) (by omega))
  refine x_iconst dX2_eggsAt_0 ⟨by decide, by decide⟩ ?_
  refine x_istore2 dX2_eggsAt_1 (by decide) rfl ?_
  refine x_iload1 dX2_eggsAt_2 ?_
  refine x_iconst dX2_eggsAt_3 ⟨by decide, by decide⟩ ?_
  refine x_iadd dX2_eggsAt_4 (nrm_id (by omega) (by omega)) ?_
  refine x_bipush dX2_eggsAt_5 ⟨by decide, by decide⟩ ?_
  refine x_imul dX2_eggsAt_7 (nrm_id (by omega) (by omega)) ?_
  refine x_istore3 dX2_eggsAt_8 (by decide) rfl ?_
  refine x_iload1 dX2_eggsAt_9 ?_
  refine x_bipush dX2_eggsAt_10 ⟨by decide, by decide⟩ ?_
  refine x_imul dX2_eggsAt_12 (nrm_id (by omega) (by omega)) ?_
  refine x_istore4 dX2_eggsAt_13 (by decide) rfl ?_
  exact Ex.eq (by simp [smI]) rfl rfl (loop 10 0 rfl)
theorem s_allEggs (hb : YB b) (hY : YP m b V) (hI : Iv D V) : Mt E 2 yX2_allEggs cX2_allEggs 3 (some .int) [zr b] m (ans (some (zi (alle V))) m) := by
  obtain ⟨hn, hl, hk0, hd, hk, hf, ht, hr, hx, he, hz⟩ := hI
  refine Mt.of 2 (by decide +kernel) (Nat.le_of_ble_eq_true rfl) (Or.inl rfl) ?_ ?_
  · rintro r m' ⟨rfl, rfl⟩; simp
  show Ex E cX2_allEggs 3 RX2 2 _ 0 [some (zr b), none, none] [] m
  have loop : ∀ (k j : Nat), (j : Int) + k = V 0 0 → Ex E cX2_allEggs 3 RX2 2 (ans (some (zi (alle V))) m) 4 [some (zr b), some (zi (smI (eggs V) j)), some (zi j)] [] m := by
    intro k
    induction k with
    | zero =>
      intro j hj
      refine x_iload2 dX2_allEggs_4 ?_
      refine x_aload0 dX2_allEggs_5 ?_
      refine x_getI dX2_allEggs_6 fd_X2_43 (by first | rfl | exact yb_k (by assumption)) (Or.inl rfl) hY.nests ?_
      refine x_icmp_ge (tgt := 26) dX2_allEggs_9 rfl (fun hc => ?_) (fun hc => ?_)
      · refine x_iload1 dX2_allEggs_26 ?_
        have e1 : (V 0 0).toNat = j := by omega
        exact xe_i dX2_allEggs_27 (⟨by rw [alle, e1], rfl⟩)
      · omega
    | succ k ih =>
      intro j hj
      refine x_iload2 dX2_allEggs_4 ?_
      refine x_aload0 dX2_allEggs_5 ?_
      refine x_getI dX2_allEggs_6 fd_X2_43 (by first | rfl | exact yb_k (by assumption)) (Or.inl rfl) hY.nests ?_
      refine x_icmp_ge (tgt := 26) dX2_allEggs_9 rfl (fun hc => ?_) (fun hc => ?_)
      · omega
      · have hb1 := smI_bd (f := eggs V) (c := 90) j (fun i h0 h1 => eggs_bd he h0 (by omega) 10 (by omega))
        have hb2 := eggs_bd he (n := j) (by omega) (by omega) 10 (by omega)
        refine x_iload1 dX2_allEggs_12 ?_
        refine x_aload0 dX2_allEggs_13 ?_
        refine x_iload2 dX2_allEggs_14 ?_
        refine x_callv1 dX2_allEggs_15 cv_X2_68 ci_X2_eggsAt (by first | rfl | exact yb_k (by assumption)) (T := TX2) rfl (by decide) (Nat.le_of_ble_eq_true rfl) (s_eggsAt hb hY he (n := j) (by omega) (by omega)) (fun r m1 hq => ?_)
        obtain ⟨rfl, rfl⟩ := hq
        have e2 : eggs V j = smI (fun a => V 5 (10 * (j : Int) + a)) 10 := rfl
        show Ex _ _ _ _ _ _ _ _ [zi (eggs V j), zi (smI (eggs V) j)] _
        refine x_iadd dX2_allEggs_18 (nrm_id (by omega) (by omega)) ?_
        refine x_istore1 dX2_allEggs_19 (by decide) rfl ?_
        refine x_iinc2 dX2_allEggs_20 (by decide) rfl (nrm_id (by omega) (by omega)) ?_
        refine x_goto (tgt := 4) dX2_allEggs_23 rfl ?_
        exact Ex.eq (by simp only [List.cons.injEq, Option.some.injEq, Sum.inl.injEq, and_true, true_and, smI_succ]; (try and_intros) <;> (try push_cast) <;> omega) rfl rfl (ih (j + 1) (by omega))
  refine x_iconst dX2_allEggs_0 ⟨by decide, by decide⟩ ?_
  refine x_istore1 dX2_allEggs_1 (by decide) rfl ?_
  refine x_iconst dX2_allEggs_2 ⟨by decide, by decide⟩ ?_
  refine x_istore2 dX2_allEggs_3 (by decide) rfl ?_
  exact loop (V 0 0).toNat 0 (by omega)
def gag (f : Int → Int) : Nat → Int
  | 0 => -9
  | k + 1 => if 0 < f (k : Int) then (k : Int) else gag f k
def gage (V : zz_W) (n : Int) : Int := gag (fun a => V 5 (10 * n + a)) 10
theorem s_greatestAge (hb : YB b) (hY : YP m b V) {n : Int} (h0 : 0 ≤ n) (h1 : n < 6) : Mt E 1 yX2_greatestAge cX2_greatestAge 3 (some .int) [zr b, zi n] m (ans (some (zi (gage V n))) m) := by
  refine Mt.of 1 (by decide +kernel) (Nat.le_of_ble_eq_true rfl) (Or.inl rfl) ?_ ?_
  · rintro r m' ⟨rfl, rfl⟩; simp
  show Ex E cX2_greatestAge 3 RX2 1 _ 0 [some (zr b), some (zi n), none] [] m
  have loop : ∀ (k : Nat), k ≤ 10 → gag (fun a => V 5 (10 * n + a)) k = gage V n → Ex E cX2_greatestAge 3 RX2 1 (ans (some (zi (gage V n))) m) 3 [some (zr b), some (zi n), some (zi ((k : Int) - 1))] [] m := by
    intro k
    induction k with
    | zero =>
      intro _ hg
      refine x_iload2 dX2_greatestAge_3 ?_
      refine x_if_lt (tgt := 29) dX2_greatestAge_4 rfl (fun hc => ?_) (fun hc => ?_)
      · refine x_bipush dX2_greatestAge_29 ⟨by decide, by decide⟩ ?_
        exact xe_i dX2_greatestAge_31 (⟨by rw [← hg]; rfl, rfl⟩)
      · omega
    | succ k ih =>
      intro hk hg
      have e0 : (((k + 1 : Nat) : Int) - 1) = k := by omega
      rw [e0]
      refine x_iload2 dX2_greatestAge_3 ?_
      refine x_if_lt (tgt := 29) dX2_greatestAge_4 rfl (fun hc => ?_) (fun hc => ?_)
      · omega
      · refine x_aload0 dX2_greatestAge_7 ?_
        refine x_getR (q := b + 5) dX2_greatestAge_8 fd_X2_24 (by first | rfl | exact yb_k (by assumption)) rfl (yb_p4 (by assumption)) ?_
        refine x_iload1 dX2_greatestAge_11 ?_
        refine x_bipush dX2_greatestAge_12 ⟨by decide, by decide⟩ ?_
        refine x_imul dX2_greatestAge_14 (nrm_id (by omega) (by omega)) ?_
        refine x_iload2 dX2_greatestAge_15 ?_
        refine x_iadd dX2_greatestAge_16 (nrm_id (by omega) (by omega)) ?_
        refine x_iald dX2_greatestAge_17 (yb_a4 (by assumption)) (by omega) (by omega) (v := V 5 (10 * n + k)) (by rw [show n * 10 + (k : Int) = 10 * n + k from by omega]; exact hY.egg (by omega) (by omega)) ?_
        refine x_if_le (tgt := 23) dX2_greatestAge_18 rfl (fun hc2 => ?_) (fun hc2 => ?_)
        · refine x_iinc2 dX2_greatestAge_23 (by decide) rfl (nrm_id (by omega) (by omega)) ?_
          refine x_goto (tgt := 3) dX2_greatestAge_26 rfl ?_
          refine Ex.eq (by rw [show (k : Int) + -1 = k - 1 from by omega]) rfl rfl (ih (by omega) ?_)
          rw [← hg, gag, if_neg (by omega)]
        · refine x_iload2 dX2_greatestAge_21 ?_
          exact xe_i dX2_greatestAge_22 (⟨by rw [← hg, gag, if_pos hc2], rfl⟩)
  refine x_bipush dX2_greatestAge_0 ⟨by decide, by decide⟩ ?_
  refine x_istore2 dX2_greatestAge_2 (by decide) rfl ?_
  exact Ex.eq (by simp) rfl rfl (loop 10 (by omega) rfl)
theorem s_minutesOf (hb : YB b) (hY : YP m b V) (hI : Iv D V) {s : Int} : Mt E 1 yX2_minutesOf cX2_minutesOf 4 (some .int) [zr b, zi s] m (ans (some (zi (mins V s))) m) := by
  obtain ⟨hn, hl, hk0, hd, hk, hf, ht, hr, hx, he, hz⟩ := hI
  refine Mt.of 2 (by decide +kernel) (Nat.le_of_ble_eq_true rfl) (Or.inl rfl) ?_ ?_
  · rintro r m' ⟨rfl, rfl⟩; simp
  show Ex E cX2_minutesOf 4 RX2 1 _ 0 [some (zr b), some (zi s), none, none] [] m
  have hfb : ∀ i : Int, 0 ≤ i → i < 6 → 0 ≤ (if bt s i = 1 then V 3 i else 0) ∧ (if bt s i = 1 then V 3 i else 0) ≤ 9 := by
    intro i h0 h1
    have := hx i h0 h1
    split <;> omega
  have loop : ∀ (k j : Nat), (j : Int) + k = V 0 0 → Ex E cX2_minutesOf 4 RX2 1 (ans (some (zi (mins V s))) m) 4 [some (zr b), some (zi s), some (zi (smI (fun n => if bt s n = 1 then V 3 n else 0) j)), some (zi j)] [] m := by
    intro k
    induction k with
    | zero =>
      intro j hj
      refine x_iload3 dX2_minutesOf_4 ?_
      refine x_aload0 dX2_minutesOf_5 ?_
      refine x_getI dX2_minutesOf_6 fd_X2_43 (by first | rfl | exact yb_k (by assumption)) (Or.inl rfl) hY.nests ?_
      refine x_icmp_ge (tgt := 36) dX2_minutesOf_9 rfl (fun hc => ?_) (fun hc => ?_)
      · refine x_iload2 dX2_minutesOf_36 ?_
        have e1 : (V 0 0).toNat = j := by omega
        exact xe_i dX2_minutesOf_37 (⟨by rw [mins, e1], rfl⟩)
      · omega
    | succ k ih =>
      intro j hj
      refine x_iload3 dX2_minutesOf_4 ?_
      refine x_aload0 dX2_minutesOf_5 ?_
      refine x_getI dX2_minutesOf_6 fd_X2_43 (by first | rfl | exact yb_k (by assumption)) (Or.inl rfl) hY.nests ?_
      refine x_icmp_ge (tgt := 36) dX2_minutesOf_9 rfl (fun hc => ?_) (fun hc => ?_)
      · omega
      · have hb1 := smI_bd (f := fun n => if bt s n = 1 then V 3 n else 0) (c := 9) j (fun i h0 h1 => hfb i h0 (by omega))
        have hb2 := hfb j (by omega) (by omega)
        refine x_iload1 dX2_minutesOf_12 ?_
        refine x_iload3 dX2_minutesOf_13 ?_
        refine x_ishr dX2_minutesOf_14 rfl ?_
        refine x_iconst dX2_minutesOf_15 ⟨by decide, by decide⟩ ?_
        refine x_iand dX2_minutesOf_16 rfl ?_
        refine x_iconst dX2_minutesOf_17 ⟨by decide, by decide⟩ ?_
        refine x_icmp_ne (tgt := 30) dX2_minutesOf_18 rfl (fun hc2 => ?_) (fun hc2 => ?_)
        · have e3 : (if bt s j = 1 then V 3 j else 0) = 0 := if_neg hc2
          refine x_iinc3 dX2_minutesOf_30 (by decide) rfl (nrm_id (by omega) (by omega)) ?_
          refine x_goto (tgt := 4) dX2_minutesOf_33 rfl ?_
          exact Ex.eq (by simp only [List.cons.injEq, Option.some.injEq, Sum.inl.injEq, and_true, true_and, smI_succ]; (try and_intros) <;> (try push_cast) <;> omega) rfl rfl (ih (j + 1) (by omega))
        · have e3 : (if bt s j = 1 then V 3 j else 0) = V 3 j := if_pos hc2
          refine x_iload2 dX2_minutesOf_21 ?_
          refine x_aload0 dX2_minutesOf_22 ?_
          refine x_getR (q := b + 3) dX2_minutesOf_23 fd_X2_18 (by first | rfl | exact yb_k (by assumption)) rfl (yb_p2 (by assumption)) ?_
          refine x_iload3 dX2_minutesOf_26 ?_
          refine x_iald dX2_minutesOf_27 (yb_a2 (by assumption)) (by omega) (by omega) (hY.min (by omega) (by omega)) ?_
          refine x_iadd dX2_minutesOf_28 (nrm_id (by omega) (by omega)) ?_
          refine x_istore2 dX2_minutesOf_29 (by decide) rfl ?_
          refine x_iinc3 dX2_minutesOf_30 (by decide) rfl (nrm_id (by omega) (by omega)) ?_
          refine x_goto (tgt := 4) dX2_minutesOf_33 rfl ?_
          exact Ex.eq (by simp only [List.cons.injEq, Option.some.injEq, Sum.inl.injEq, and_true, true_and, smI_succ]; (try and_intros) <;> (try push_cast) <;> omega) rfl rfl (ih (j + 1) (by omega))
  refine x_iconst dX2_minutesOf_0 ⟨by decide, by decide⟩ ?_
  refine x_istore2 dX2_minutesOf_1 (by decide) rfl ?_
  refine x_iconst dX2_minutesOf_2 ⟨by decide, by decide⟩ ?_
  refine x_istore3 dX2_minutesOf_3 (by decide) rfl ?_
  exact loop (V 0 0).toNat 0 (by omega)
theorem mins_bd (hI : Iv D V) (s : Int) : 0 ≤ mins V s ∧ mins V s ≤ 54 := by
  obtain ⟨hn, hl, hk0, hd, hk, hf, ht, hr, hx, he, hz⟩ := hI
  have := smI_bd (f := fun n => if bt s n = 1 then V 3 n else 0) (c := 9) (V 0 0).toNat (fun i h0 h1 => by
    have := hx i h0 (by omega)
    split <;> omega)
  unfold mins
  omega
def tml (V : zz_W) : Int := V 0 8 - mins V (V 0 2)
theorem s_timeLeft (hb : YB b) (hY : YP m b V) (hI : Iv D V) : Mt E 2 yX2_timeLeft cX2_timeLeft 1 (some .int) [zr b] m (ans (some (zi (tml V))) m) := by
  have hmb := mins_bd hI (V 0 2)
  have ht := hI.2.2.2.2.2.2.1
  refine Mt.of 0 (by decide +kernel) (Nat.le_of_ble_eq_true rfl) (Or.inl rfl) ?_ ?_
  · rintro r m' ⟨rfl, rfl⟩; simp
  show Ex E cX2_timeLeft 1 RX2 2 _ 0 [some (zr b)] [] m
  refine x_aload0 dX2_timeLeft_0 ?_
  refine x_getR (q := b + 6) dX2_timeLeft_1 fd_X2_27 (by first | rfl | exact yb_k (by assumption)) rfl (yb_p5 (by assumption)) ?_
  refine x_iconst dX2_timeLeft_4 ⟨by decide, by decide⟩ ?_
  refine x_iald dX2_timeLeft_5 (yb_a5 (by assumption)) (by omega) (by omega) hY.time ?_
  refine x_aload0 dX2_timeLeft_6 ?_
  refine x_aload0 dX2_timeLeft_7 ?_
  refine x_getI dX2_timeLeft_8 fd_X2_56 (by first | rfl | exact yb_k (by assumption)) (Or.inl rfl) hY.looked ?_
  refine x_callv1 dX2_timeLeft_11 cv_X2_72 ci_X2_minutesOf (by first | rfl | exact yb_k (by assumption)) (T := TX2) rfl (by decide) (Nat.le_of_ble_eq_true rfl) (s_minutesOf hb hY hI) (fun r m1 hq => ?_)
  obtain ⟨rfl, rfl⟩ := hq
  show Ex _ _ _ _ _ _ _ _ [zi (mins V (V 0 2)), zi (V 0 8)] _
  refine x_isub dX2_timeLeft_14 (nrm_id (by omega) (by omega)) ?_
  exact xe_i dX2_timeLeft_15 (⟨rfl, rfl⟩)
theorem YP.cg {V' : zz_W} (h : YP m b V) (e : ∀ a z, V a z = V' a z) : YP m b V' := by
  have : V = V' := by funext a z; exact e a z
  rw [← this]
  exact h
theorem YP.eggup {z x : Int} (h : YP m b V) (h0 : 0 ≤ z) : YP (up m (b + 5) z.toNat x) b (ux V 5 z x) := by
  have hc : ∀ k, k ≠ b + 5 → up m (b + 5) z.toNat x k = m k := fun k hk => up_cell hk
  unfold YP at h ⊢
  rw [hc b (by omega), hc (b + 1) (by omega), hc (b + 2) (by omega), hc (b + 3) (by omega), hc (b + 4) (by omega), hc (b + 6) (by omega)]
  refine ⟨h.1, h.2.1, h.2.2.1, fun w h1 h2 => ?_⟩
  unfold up ux
  by_cases hw : w = z
  · subst hw
    rw [if_pos ⟨rfl, rfl⟩, if_pos ⟨rfl, rfl⟩]
  · rw [if_neg (fun q => hw (by have := q.2; omega)), if_neg (fun q => hw q.2)]
    exact h.2.2.2 w h1 h2
end YM1
