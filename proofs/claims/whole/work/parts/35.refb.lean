section RM2
variable {E : zz_E} {m : zz_M} {V : zz_W} {D : Int}
theorem lcm_lt {a b : Int} : lcm_ a b < 0 ↔ a < b := by
  unfold lcm_
  split
  · omega
  · split <;> omega
theorem lcm_gt {a b : Int} : 0 < lcm_ a b ↔ b < a := by
  unfold lcm_
  split
  · omega
  · split <;> omega
theorem t_in {v lo hi : Int} : Mt E 1 yX4_in cX4_in 6 (some .boolean) [zj v, zj lo, zj hi] m (ans (some (zi (if lo ≤ v ∧ v ≤ hi then 1 else 0))) m) := by
  refine Mt.of 0 (by decide +kernel) (Nat.le_of_ble_eq_true rfl) (Or.inr (Or.inl ⟨rfl, by rintro z m' ⟨h, -⟩; cases h; split <;> simp⟩)) ?_ ?_
  · rintro r m' ⟨rfl, rfl⟩; simp
  show Ex E cX4_in 6 RX4 1 _ 0 [some (zj v), none, some (zj lo), none, some (zj hi), none] [] m
  refine x_lload0 dX4_in_0 ?_
  refine x_lload2 dX4_in_1 ?_
  refine x_lcmp dX4_in_2 ?_
  refine x_if_lt (tgt := 17) dX4_in_3 rfl (fun c1 => ?_) (fun c1 => ?_)
  · have := lcm_lt.mp c1
    refine x_iconst dX4_in_17 ⟨by decide, by decide⟩ ?_
    exact xe_i dX4_in_18 (⟨by rw [if_neg (by omega)], rfl⟩)
  · have g1 : ¬ v < lo := fun q => by have := lcm_lt.mpr q; omega
    refine x_lload0 dX4_in_6 ?_
    refine x_lload4 dX4_in_7 ?_
    refine x_lcmp dX4_in_9 ?_
    refine x_if_gt (tgt := 17) dX4_in_10 rfl (fun c2 => ?_) (fun c2 => ?_)
    · have := lcm_gt.mp c2
      refine x_iconst dX4_in_17 ⟨by decide, by decide⟩ ?_
      exact xe_i dX4_in_18 (⟨by rw [if_neg (by omega)], rfl⟩)
    · have g2 : ¬ hi < v := fun q => by have := lcm_gt.mpr q; omega
      refine x_iconst dX4_in_13 ⟨by decide, by decide⟩ ?_
      refine x_goto (tgt := 18) dX4_in_14 rfl ?_
      exact xe_i dX4_in_18 (⟨by rw [if_pos (by omega)], rfl⟩)
theorem t_isNest (hM : MP m V) (hn : 0 ≤ V 0 0 ∧ V 0 0 ≤ 6) {z : Int} : Mt E 2 yX4_isNest cX4_isNest 2 (some .boolean) [zr 59, zi z] m (ans (some (zi (if 0 ≤ z ∧ z < V 0 0 then 1 else 0))) m) := by
  refine Mt.of 0 (by decide +kernel) (Nat.le_of_ble_eq_true rfl) (Or.inr (Or.inl ⟨rfl, by rintro z m' ⟨h, -⟩; cases h; split <;> simp⟩)) ?_ ?_
  · rintro r m' ⟨rfl, rfl⟩; simp
  show Ex E cX4_isNest 2 RX4 2 _ 0 [some (zr 59), some (zi z)] [] m
  refine x_iload1 dX4_isNest_0 ?_
  refine x_i2l dX4_isNest_1 ?_
  refine x_lconst dX4_isNest_2 rfl ?_
  refine x_aload0 dX4_isNest_3 ?_
  refine x_getI dX4_isNest_4 fd_X4_77 rfl (Or.inl rfl) (v := V 0 0) hM.nests ?_
  refine x_iconst dX4_isNest_7 ⟨by decide, by decide⟩ ?_
  refine x_isub dX4_isNest_8 (nrm_id (by omega) (by omega)) ?_
  refine x_i2l dX4_isNest_9 ?_
  refine x_calls3 dX4_isNest_10 cv_X4_80 cs_X4_in (by omega) (Nat.le_of_ble_eq_true rfl) (t_in) (fun r m1 hq => ?_)
  obtain ⟨rfl, rfl⟩ := hq
  show Ex _ _ _ _ _ _ _ _ [zi (if (0 : Int) ≤ z ∧ z ≤ V 0 0 - 1 then 1 else 0)] _
  by_cases h : 0 ≤ z ∧ z < V 0 0
  · rw [if_pos h, if_pos (by omega)]
    exact xe_i dX4_isNest_13 (⟨rfl, rfl⟩)
  · rw [if_neg h, if_neg (by omega)]
    exact xe_i dX4_isNest_13 (⟨rfl, rfl⟩)
theorem t_eggsIn (hM : MP m V) (hE : ∀ z, 0 ≤ z → z < 60 → 0 ≤ V 5 z ∧ V 5 z ≤ 9) {n : Int} (h0 : 0 ≤ n) (h1 : n < 6) : Mt E 1 yX4_eggsIn cX4_eggsIn 4 (some .int) [zr 59, zi n] m (ans (some (zi (eggs V n))) m) := by
  refine Mt.of 2 (by decide +kernel) (Nat.le_of_ble_eq_true rfl) (Or.inl rfl) ?_ ?_
  · rintro r m' ⟨rfl, rfl⟩; simp
  show Ex E cX4_eggsIn 4 RX4 1 _ 0 [some (zr 59), some (zi n), none, none] [] m
  have loop : ∀ (k j : Nat), j + k = 10 → Ex E cX4_eggsIn 4 RX4 1 (ans (some (zi (eggs V n))) m) 4 [some (zr 59), some (zi n), some (zi (smI (fun a => V 5 (10 * n + a)) j)), some (zi j)] [] m := by
    intro k
    induction k with
    | zero =>
      intro j hj
      refine x_iload3 dX4_eggsIn_4 ?_
      refine x_bipush dX4_eggsIn_5 ⟨by decide, by decide⟩ ?_
      refine x_icmp_ge (tgt := 30) dX4_eggsIn_7 rfl (fun hc => ?_) (fun hc => ?_)
      · refine x_iload2 dX4_eggsIn_30 ?_
        obtain rfl : j = 10 := by omega
        exact xe_i dX4_eggsIn_31 (⟨rfl, rfl⟩)
      · omega
    | succ k ih =>
      intro j hj
      refine x_iload3 dX4_eggsIn_4 ?_
      refine x_bipush dX4_eggsIn_5 ⟨by decide, by decide⟩ ?_
      refine x_icmp_ge (tgt := 30) dX4_eggsIn_7 rfl (fun hc => ?_) (fun hc => ?_)
      · omega
      · have hb1 := eggs_bd hE h0 h1 j (by omega)
        have hb2 := hE (10 * n + j) (by omega) (by omega)
        refine x_iload2 dX4_eggsIn_10 ?_
        refine x_aload0 dX4_eggsIn_11 ?_
        refine x_getR (q := 64) dX4_eggsIn_12 fd_X4_32 rfl rfl rfl ?_
        refine x_bipush dX4_eggsIn_15 ⟨by decide, by decide⟩ ?_
        refine x_iload1 dX4_eggsIn_17 ?_
        refine x_imul dX4_eggsIn_18 (nrm_id (by omega) (by omega)) ?_
        refine x_iload3 dX4_eggsIn_19 ?_
        refine x_iadd dX4_eggsIn_20 (nrm_id (by omega) (by omega)) ?_
        refine x_iald dX4_eggsIn_21 rfl (by omega) (by omega) (v := V 5 (10 * n + j)) (hM.egg (by omega) (by omega)) ?_
        refine x_iadd dX4_eggsIn_22 (nrm_id (by omega) (by omega)) ?_
        refine x_istore2 dX4_eggsIn_23 (by decide) rfl ?_
        refine x_iinc3 dX4_eggsIn_24 (by decide) rfl (nrm_id (by omega) (by omega)) ?_
        refine x_goto (tgt := 4) dX4_eggsIn_27 rfl ?_
        exact Ex.eq (by simp only [List.cons.injEq, Option.some.injEq, Sum.inl.injEq, and_true, true_and, smI_succ]; (try and_intros) <;> (try push_cast) <;> omega) rfl rfl (ih (j + 1) (by omega))
  refine x_iconst dX4_eggsIn_0 ⟨by decide, by decide⟩ ?_
  refine x_istore2 dX4_eggsIn_1 (by decide) rfl ?_
  refine x_iconst dX4_eggsIn_2 ⟨by decide, by decide⟩ ?_
  refine x_istore3 dX4_eggsIn_3 (by decide) rfl ?_
  exact Ex.eq (by simp [smI]) rfl rfl (loop 10 0 rfl)
theorem t_oldest (hM : MP m V) {n : Int} (h0 : 0 ≤ n) (h1 : n < 6) : Mt E 1 yX4_oldest cX4_oldest 4 (some .int) [zr 59, zi n] m (ans (some (zi (gage V n))) m) := by
  refine Mt.of 2 (by decide +kernel) (Nat.le_of_ble_eq_true rfl) (Or.inl rfl) ?_ ?_
  · rintro r m' ⟨rfl, rfl⟩; simp
  show Ex E cX4_oldest 4 RX4 1 _ 0 [some (zr 59), some (zi n), none, none] [] m
  have loop : ∀ (k j : Nat), j + k = 10 → Ex E cX4_oldest 4 RX4 1 (ans (some (zi (gage V n))) m) 5 [some (zr 59), some (zi n), some (zi (gag (fun a => V 5 (10 * n + a)) j)), some (zi j)] [] m := by
    intro k
    induction k with
    | zero =>
      intro j hj
      refine x_iload3 dX4_oldest_5 ?_
      refine x_bipush dX4_oldest_6 ⟨by decide, by decide⟩ ?_
      refine x_icmp_ge (tgt := 37) dX4_oldest_8 rfl (fun hc => ?_) (fun hc => ?_)
      · refine x_iload2 dX4_oldest_37 ?_
        obtain rfl : j = 10 := by omega
        exact xe_i dX4_oldest_38 (⟨rfl, rfl⟩)
      · omega
    | succ k ih =>
      intro j hj
      refine x_iload3 dX4_oldest_5 ?_
      refine x_bipush dX4_oldest_6 ⟨by decide, by decide⟩ ?_
      refine x_icmp_ge (tgt := 37) dX4_oldest_8 rfl (fun hc => ?_) (fun hc => ?_)
      · omega
      · refine x_aload0 dX4_oldest_11 ?_
        refine x_getR (q := 64) dX4_oldest_12 fd_X4_32 rfl rfl rfl ?_
        refine x_bipush dX4_oldest_15 ⟨by decide, by decide⟩ ?_
        refine x_iload1 dX4_oldest_17 ?_
        refine x_imul dX4_oldest_18 (nrm_id (by omega) (by omega)) ?_
        refine x_iload3 dX4_oldest_19 ?_
        refine x_iadd dX4_oldest_20 (nrm_id (by omega) (by omega)) ?_
        refine x_iald dX4_oldest_21 rfl (by omega) (by omega) (v := V 5 (10 * n + j)) (hM.egg (by omega) (by omega)) ?_
        refine x_if_le (tgt := 29) dX4_oldest_22 rfl (fun c2 => ?_) (fun c2 => ?_)
        · refine x_iload2 dX4_oldest_29 ?_
          refine x_istore2 dX4_oldest_30 (by decide) rfl ?_
          refine x_iinc3 dX4_oldest_31 (by decide) rfl (nrm_id (by omega) (by omega)) ?_
          refine x_goto (tgt := 5) dX4_oldest_34 rfl ?_
          exact Ex.eq (by rw [gag, if_neg (by omega)]; push_cast; rfl) rfl rfl (ih (j + 1) (by omega))
        · refine x_iload3 dX4_oldest_25 ?_
          refine x_goto (tgt := 30) dX4_oldest_26 rfl ?_
          refine x_istore2 dX4_oldest_30 (by decide) rfl ?_
          refine x_iinc3 dX4_oldest_31 (by decide) rfl (nrm_id (by omega) (by omega)) ?_
          refine x_goto (tgt := 5) dX4_oldest_34 rfl ?_
          exact Ex.eq (by rw [gag, if_pos c2]; push_cast; rfl) rfl rfl (ih (j + 1) (by omega))
  refine x_bipush dX4_oldest_0 ⟨by decide, by decide⟩ ?_
  refine x_istore2 dX4_oldest_2 (by decide) rfl ?_
  refine x_iconst dX4_oldest_3 ⟨by decide, by decide⟩ ?_
  refine x_istore3 dX4_oldest_4 (by decide) rfl ?_
  exact loop 10 0 rfl
theorem t_minutesOf (hM : MP m V) (hI : Iv D V) {s : Int} : Mt E 1 yX4_minutesOf cX4_minutesOf 4 (some .int) [zr 59, zi s] m (ans (some (zi (mins V s))) m) := by
  obtain ⟨hn, hl, hk0, hd, hk, hf, ht, hr, hx, he, hz⟩ := hI
  refine Mt.of 2 (by decide +kernel) (Nat.le_of_ble_eq_true rfl) (Or.inl rfl) ?_ ?_
  · rintro r m' ⟨rfl, rfl⟩; simp
  show Ex E cX4_minutesOf 4 RX4 1 _ 0 [some (zr 59), some (zi s), none, none] [] m
  have hfb : ∀ i : Int, 0 ≤ i → i < 6 → 0 ≤ (if bt s i = 1 then V 3 i else 0) ∧ (if bt s i = 1 then V 3 i else 0) ≤ 9 := by
    intro i h0 h1
    have := hx i h0 h1
    split <;> omega
  have loop : ∀ (k j : Nat), (j : Int) + k = V 0 0 → Ex E cX4_minutesOf 4 RX4 1 (ans (some (zi (mins V s))) m) 4 [some (zr 59), some (zi s), some (zi (smI (fun n => if bt s n = 1 then V 3 n else 0) j)), some (zi j)] [] m := by
    intro k
    induction k with
    | zero =>
      intro j hj
      refine x_iload3 dX4_minutesOf_4 ?_
      refine x_aload0 dX4_minutesOf_5 ?_
      refine x_getI dX4_minutesOf_6 fd_X4_77 rfl (Or.inl rfl) hM.nests ?_
      refine x_icmp_ge (tgt := 40) dX4_minutesOf_9 rfl (fun hc => ?_) (fun hc => ?_)
      · refine x_iload2 dX4_minutesOf_40 ?_
        have e1 : (V 0 0).toNat = j := by omega
        exact xe_i dX4_minutesOf_41 (⟨by rw [mins, e1], rfl⟩)
      · omega
    | succ k ih =>
      intro j hj
      refine x_iload3 dX4_minutesOf_4 ?_
      refine x_aload0 dX4_minutesOf_5 ?_
      refine x_getI dX4_minutesOf_6 fd_X4_77 rfl (Or.inl rfl) hM.nests ?_
      refine x_icmp_ge (tgt := 40) dX4_minutesOf_9 rfl (fun hc => ?_) (fun hc => ?_)
      · omega
      · have hb1 := smI_bd (f := fun n => if bt s n = 1 then V 3 n else 0) (c := 9) j (fun i h0 h1 => hfb i h0 (by omega))
        have hb2 := hfb j (by omega) (by omega)
        refine x_iload2 dX4_minutesOf_12 ?_
        refine x_iload1 dX4_minutesOf_13 ?_
        refine x_iload3 dX4_minutesOf_14 ?_
        refine x_ishr dX4_minutesOf_15 rfl ?_
        refine x_iconst dX4_minutesOf_16 ⟨by decide, by decide⟩ ?_
        refine x_iand dX4_minutesOf_17 rfl ?_
        refine x_iconst dX4_minutesOf_18 ⟨by decide, by decide⟩ ?_
        refine x_icmp_ne (tgt := 31) dX4_minutesOf_19 rfl (fun hc2 => ?_) (fun hc2 => ?_)
        · have e3 : (if bt s j = 1 then V 3 j else 0) = 0 := if_neg hc2
          refine x_iconst dX4_minutesOf_31 ⟨by decide, by decide⟩ ?_
          refine x_iadd dX4_minutesOf_32 (nrm_id (by omega) (by omega)) ?_
          refine x_istore2 dX4_minutesOf_33 (by decide) rfl ?_
          refine x_iinc3 dX4_minutesOf_34 (by decide) rfl (nrm_id (by omega) (by omega)) ?_
          refine x_goto (tgt := 4) dX4_minutesOf_37 rfl ?_
          exact Ex.eq (by simp only [List.cons.injEq, Option.some.injEq, Sum.inl.injEq, and_true, true_and, smI_succ]; (try and_intros) <;> (try push_cast) <;> omega) rfl rfl (ih (j + 1) (by omega))
        · have e3 : (if bt s j = 1 then V 3 j else 0) = V 3 j := if_pos hc2
          refine x_aload0 dX4_minutesOf_22 ?_
          refine x_getR (q := 62) dX4_minutesOf_23 fd_X4_26 rfl rfl rfl ?_
          refine x_iload3 dX4_minutesOf_26 ?_
          refine x_iald dX4_minutesOf_27 rfl (by omega) (by omega) (hM.min (by omega) (by omega)) ?_
          refine x_goto (tgt := 32) dX4_minutesOf_28 rfl ?_
          refine x_iadd dX4_minutesOf_32 (nrm_id (by omega) (by omega)) ?_
          refine x_istore2 dX4_minutesOf_33 (by decide) rfl ?_
          refine x_iinc3 dX4_minutesOf_34 (by decide) rfl (nrm_id (by omega) (by omega)) ?_
          refine x_goto (tgt := 4) dX4_minutesOf_37 rfl ?_
          exact Ex.eq (by simp only [List.cons.injEq, Option.some.injEq, Sum.inl.injEq, and_true, true_and, smI_succ]; (try and_intros) <;> (try push_cast) <;> omega) rfl rfl (ih (j + 1) (by omega))
  refine x_iconst dX4_minutesOf_0 ⟨by decide, by decide⟩ ?_
  refine x_istore2 dX4_minutesOf_1 (by decide) rfl ?_
  refine x_iconst dX4_minutesOf_2 ⟨by decide, by decide⟩ ?_
  refine x_istore3 dX4_minutesOf_3 (by decide) rfl ?_
  exact loop (V 0 0).toNat 0 (by omega)
/-- a set that time allows -/
abbrev alw (V : zz_W) (q : Int) : Prop := mins V q ≤ V 0 8
theorem t_allows (hM : MP m V) (hI : Iv D V) {q : Int} : Mt E 2 yX4_allows cX4_allows 2 (some .boolean) [zr 59, zi q] m (ans (some (zi (if alw V q then 1 else 0))) m) := by
  refine Mt.of 0 (by decide +kernel) (Nat.le_of_ble_eq_true rfl) (Or.inr (Or.inl ⟨rfl, by rintro z m' ⟨h, -⟩; cases h; split <;> simp⟩)) ?_ ?_
  · rintro r m' ⟨rfl, rfl⟩; simp
  show Ex E cX4_allows 2 RX4 2 _ 0 [some (zr 59), some (zi q)] [] m
  refine x_aload0 dX4_allows_0 ?_
  refine x_iload1 dX4_allows_1 ?_
  refine x_callv1 dX4_allows_2 cv_X4_196 ci_X4_minutesOf rfl (T := TX4) rfl (by omega) (Nat.le_of_ble_eq_true rfl) (t_minutesOf hM hI) (fun r m1 hq => ?_)
  obtain ⟨rfl, rfl⟩ := hq
  show Ex _ _ _ _ _ _ _ _ [zi (mins V q)] _
  refine x_aload0 dX4_allows_5 ?_
  refine x_getI dX4_allows_6 fd_X4_7 rfl (Or.inl rfl) hM.time ?_
  refine x_icmp_gt (tgt := 16) dX4_allows_9 rfl (fun c1 => ?_) (fun c1 => ?_)
  · refine x_iconst dX4_allows_16 ⟨by decide, by decide⟩ ?_
    exact xe_i dX4_allows_17 (⟨by rw [if_neg (show ¬ mins V q ≤ V 0 8 by omega)], rfl⟩)
  · refine x_iconst dX4_allows_12 ⟨by decide, by decide⟩ ?_
    refine x_goto (tgt := 17) dX4_allows_13 rfl ?_
    exact xe_i dX4_allows_17 (⟨by rw [if_pos (show mins V q ≤ V 0 8 by omega)], rfl⟩)
theorem t_eggsOf (hM : MP m V) (hI : Iv D V) {s : Int} : Mt E 2 yX4_eggsOf cX4_eggsOf 4 (some .int) [zr 59, zi s] m (ans (some (zi (tkn V s))) m) := by
  obtain ⟨hn, hl, hk0, hd, hk, hf, ht, hr, hx, he, hz⟩ := hI
  refine Mt.of 2 (by decide +kernel) (Nat.le_of_ble_eq_true rfl) (Or.inl rfl) ?_ ?_
  · rintro r m' ⟨rfl, rfl⟩; simp
  show Ex E cX4_eggsOf 4 RX4 2 _ 0 [some (zr 59), some (zi s), none, none] [] m
  have loop : ∀ (k j : Nat), (j : Int) + k = V 0 0 → Ex E cX4_eggsOf 4 RX4 2 (ans (some (zi (tkn V s))) m) 4 [some (zr 59), some (zi s), some (zi (smI (fun n => if bt s n = 1 then eggs V n else 0) j)), some (zi j)] [] m := by
    intro k
    induction k with
    | zero =>
      intro j hj
      refine x_iload3 dX4_eggsOf_4 ?_
      refine x_aload0 dX4_eggsOf_5 ?_
      refine x_getI dX4_eggsOf_6 fd_X4_77 rfl (Or.inl rfl) hM.nests ?_
      refine x_icmp_ge (tgt := 39) dX4_eggsOf_9 rfl (fun hc => ?_) (fun hc => ?_)
      · refine x_iload2 dX4_eggsOf_39 ?_
        have e1 : (V 0 0).toNat = j := by omega
        exact xe_i dX4_eggsOf_40 (⟨by rw [tkn, e1], rfl⟩)
      · omega
    | succ k ih =>
      intro j hj
      refine x_iload3 dX4_eggsOf_4 ?_
      refine x_aload0 dX4_eggsOf_5 ?_
      refine x_getI dX4_eggsOf_6 fd_X4_77 rfl (Or.inl rfl) hM.nests ?_
      refine x_icmp_ge (tgt := 39) dX4_eggsOf_9 rfl (fun hc => ?_) (fun hc => ?_)
      · omega
      · have hb1 := tkn_bd he s j (by omega)
        have hb2 := eggs_bd he (n := j) (by omega) (by omega) 10 (by omega)
        refine x_iload2 dX4_eggsOf_12 ?_
        refine x_iload1 dX4_eggsOf_13 ?_
        refine x_iload3 dX4_eggsOf_14 ?_
        refine x_ishr dX4_eggsOf_15 rfl ?_
        refine x_iconst dX4_eggsOf_16 ⟨by decide, by decide⟩ ?_
        refine x_iand dX4_eggsOf_17 rfl ?_
        refine x_iconst dX4_eggsOf_18 ⟨by decide, by decide⟩ ?_
        refine x_icmp_ne (tgt := 30) dX4_eggsOf_19 rfl (fun hc2 => ?_) (fun hc2 => ?_)
        · have e3 : (if bt s j = 1 then eggs V j else 0) = 0 := if_neg hc2
          refine x_iconst dX4_eggsOf_30 ⟨by decide, by decide⟩ ?_
          refine x_iadd dX4_eggsOf_31 (nrm_id (by omega) (by omega)) ?_
          refine x_istore2 dX4_eggsOf_32 (by decide) rfl ?_
          refine x_iinc3 dX4_eggsOf_33 (by decide) rfl (nrm_id (by omega) (by omega)) ?_
          refine x_goto (tgt := 4) dX4_eggsOf_36 rfl ?_
          exact Ex.eq (by simp only [List.cons.injEq, Option.some.injEq, Sum.inl.injEq, and_true, true_and, smI_succ]; (try and_intros) <;> (try push_cast) <;> omega) rfl rfl (ih (j + 1) (by omega))
        · have e3 : (if bt s j = 1 then eggs V j else 0) = eggs V j := if_pos hc2
          refine x_aload0 dX4_eggsOf_22 ?_
          refine x_iload3 dX4_eggsOf_23 ?_
          refine x_callv1 dX4_eggsOf_24 cv_X4_91 ci_X4_eggsIn rfl (T := TX4) rfl (by omega) (Nat.le_of_ble_eq_true rfl) (t_eggsIn hM he (n := j) (by omega) (by omega)) (fun r m2 hq => ?_)
          obtain ⟨rfl, rfl⟩ := hq
          have e4 : eggs V j = smI (fun a => V 5 (10 * (j : Int) + a)) 10 := rfl
          show Ex _ _ _ _ _ _ _ _ [zi (eggs V j), zi (smI (fun n => if bt s n = 1 then eggs V n else 0) j)] _
          refine x_goto (tgt := 31) dX4_eggsOf_27 rfl ?_
          refine x_iadd dX4_eggsOf_31 (nrm_id (by omega) (by omega)) ?_
          refine x_istore2 dX4_eggsOf_32 (by decide) rfl ?_
          refine x_iinc3 dX4_eggsOf_33 (by decide) rfl (nrm_id (by omega) (by omega)) ?_
          refine x_goto (tgt := 4) dX4_eggsOf_36 rfl ?_
          exact Ex.eq (by simp only [List.cons.injEq, Option.some.injEq, Sum.inl.injEq, and_true, true_and, smI_succ]; (try and_intros) <;> (try push_cast) <;> omega) rfl rfl (ih (j + 1) (by omega))
  refine x_iconst dX4_eggsOf_0 ⟨by decide, by decide⟩ ?_
  refine x_istore2 dX4_eggsOf_1 (by decide) rfl ?_
  refine x_iconst dX4_eggsOf_2 ⟨by decide, by decide⟩ ?_
  refine x_istore3 dX4_eggsOf_3 (by decide) rfl ?_
  exact loop (V 0 0).toNat 0 (by omega)
theorem alln_bd {n : Int} (h0 : 0 ≤ n) (h1 : n ≤ 6) : 0 ≤ isl 1 n - 1 ∧ isl 1 n - 1 < 64 := by
  have : n = 0 ∨ n = 1 ∨ n = 2 ∨ n = 3 ∨ n = 4 ∨ n = 5 ∨ n = 6 := by omega
  rcases this with rfl | rfl | rfl | rfl | rfl | rfl | rfl <;> decide
theorem t_eggsOfAll (hM : MP m V) (hI : Iv D V) : Mt E 3 yX4_eggsOfAll cX4_eggsOfAll 1 (some .int) [zr 59] m (ans (some (zi (alle V))) m) := by
  have hn := hI.1
  refine Mt.of 0 (by decide +kernel) (Nat.le_of_ble_eq_true rfl) (Or.inl rfl) ?_ ?_
  · rintro r m' ⟨rfl, rfl⟩; simp
  show Ex E cX4_eggsOfAll 1 RX4 3 _ 0 [some (zr 59)] [] m
  have := alln_bd hn.1 hn.2
  refine x_aload0 dX4_eggsOfAll_0 ?_
  refine x_iconst dX4_eggsOfAll_1 ⟨by decide, by decide⟩ ?_
  refine x_aload0 dX4_eggsOfAll_2 ?_
  refine x_getI dX4_eggsOfAll_3 fd_X4_77 rfl (Or.inl rfl) hM.nests ?_
  refine x_ishl dX4_eggsOfAll_6 rfl ?_
  refine x_iconst dX4_eggsOfAll_7 ⟨by decide, by decide⟩ ?_
  refine x_isub dX4_eggsOfAll_8 (nrm_id (by omega) (by omega)) ?_
  refine x_callv1 dX4_eggsOfAll_9 cv_X4_210 ci_X4_eggsOf rfl (T := TX4) rfl (by omega) (Nat.le_of_ble_eq_true rfl) (t_eggsOf hM hI) (fun r m1 hq => ?_)
  obtain ⟨rfl, rfl⟩ := hq
  have e : tkn V (isl 1 (V 0 0) - 1) = alle V := smI_congr _ (fun i h0 h1 => if_pos (all_bt hn.2 h0 (by omega)))
  exact xe_i dX4_eggsOfAll_12 (⟨by rw [e], rfl⟩)
theorem t_apart {a b : Int} (ha : -1000 ≤ a ∧ a ≤ 1000) (hb : -1000 ≤ b ∧ b ≤ 1000) : Mt E 1 yX4_apart cX4_apart 2 (some .int) [zi a, zi b] m (ans (some (zi (zabs (a - b)))) m) := by
  refine Mt.of 0 (by decide +kernel) (Nat.le_of_ble_eq_true rfl) (Or.inl rfl) ?_ ?_
  · rintro r m' ⟨rfl, rfl⟩; simp
  show Ex E cX4_apart 2 RX4 1 _ 0 [some (zi a), some (zi b)] [] m
  refine x_iload0 dX4_apart_0 ?_
  refine x_iload1 dX4_apart_1 ?_
  refine x_icmp_ge (tgt := 11) dX4_apart_2 rfl (fun c1 => ?_) (fun c1 => ?_)
  · refine x_iload0 dX4_apart_11 ?_
    refine x_iload1 dX4_apart_12 ?_
    refine x_isub dX4_apart_13 (nrm_id (by omega) (by omega)) ?_
    exact xe_i dX4_apart_14 (⟨by rw [zabs, if_pos (by omega)], rfl⟩)
  · refine x_iload1 dX4_apart_5 ?_
    refine x_iload0 dX4_apart_6 ?_
    refine x_isub dX4_apart_7 (nrm_id (by omega) (by omega)) ?_
    refine x_goto (tgt := 14) dX4_apart_8 rfl ?_
    exact xe_i dX4_apart_14 (⟨by rw [zabs, if_neg (by omega), Int.neg_sub], rfl⟩)
/-- what is a set of nests here: all, or all but one -/
def gs (V : zz_W) (g : Int) : Int := if g < 0 then alln (V 0 0) else ian (alln (V 0 0)) (ixr (isl 1 g) (-1))
theorem ian_all : ∀ n : Fin 7, ian (alln (n.val : Int)) (alln (n.val : Int)) = alln (n.val : Int) := by decide +kernel
theorem t_mayBits (hM : MP m V) (hn : 0 ≤ V 0 0 ∧ V 0 0 ≤ 6) {g : Int} (hg : m 59 17 = g) : Mt E 1 yX4_mayBits cX4_mayBits 3 (some .int) [zr 59] m (ans (some (zi (may V (gs V g)))) m) := by
  refine Mt.of 2 (by decide +kernel) (Nat.le_of_ble_eq_true rfl) (Or.inl rfl) ?_ ?_
  · rintro r m' ⟨rfl, rfl⟩; simp
  show Ex E cX4_mayBits 3 RX4 1 _ 0 [some (zr 59), none, none] [] m
  have := alln_bd hn.1 hn.2
  have rest : Ex E cX4_mayBits 3 RX4 1 (ans (some (zi (may V (gs V g)))) m) 30 [some (zr 59), some (zi (alln (V 0 0))), none] [zi (gs V g)] m := by
    refine x_istore1 dX4_mayBits_30 (by decide) rfl ?_
    refine x_iload1 dX4_mayBits_31 ?_
    refine x_aload0 dX4_mayBits_32 ?_
    refine x_getI dX4_mayBits_33 fd_X4_84 rfl (Or.inl rfl) hM.looked ?_
    refine x_iconst dX4_mayBits_36 ⟨by decide, by decide⟩ ?_
    refine x_ixor dX4_mayBits_37 rfl ?_
    refine x_iand dX4_mayBits_38 rfl ?_
    refine x_istore2 dX4_mayBits_39 (by decide) rfl ?_
    refine x_iload2 dX4_mayBits_40 ?_
    refine x_if_ne (tgt := 48) dX4_mayBits_41 rfl (fun c1 => ?_) (fun c1 => ?_)
    · refine x_iload2 dX4_mayBits_48 ?_
      exact xe_i dX4_mayBits_49 (⟨by rw [may, if_neg c1], rfl⟩)
    · refine x_iload1 dX4_mayBits_44 ?_
      refine x_goto (tgt := 49) dX4_mayBits_45 rfl ?_
      exact xe_i dX4_mayBits_49 (⟨by rw [may, if_pos c1], rfl⟩)
  refine x_iconst dX4_mayBits_0 ⟨by decide, by decide⟩ ?_
  refine x_aload0 dX4_mayBits_1 ?_
  refine x_getI dX4_mayBits_2 fd_X4_77 rfl (Or.inl rfl) hM.nests ?_
  refine x_ishl dX4_mayBits_5 rfl ?_
  refine x_iconst dX4_mayBits_6 ⟨by decide, by decide⟩ ?_
  refine x_isub dX4_mayBits_7 (nrm_id (by omega) (by omega)) ?_
  refine x_istore1 dX4_mayBits_8 (by decide) rfl ?_
  refine x_iload1 dX4_mayBits_9 ?_
  refine x_aload0 dX4_mayBits_10 ?_
  refine x_getI dX4_mayBits_11 fd_X4_38 rfl (Or.inl rfl) hg ?_
  refine x_if_ge (tgt := 21) dX4_mayBits_14 rfl (fun c1 => ?_) (fun c1 => ?_)
  · refine x_iconst dX4_mayBits_21 ⟨by decide, by decide⟩ ?_
    refine x_aload0 dX4_mayBits_22 ?_
    refine x_getI dX4_mayBits_23 fd_X4_38 rfl (Or.inl rfl) hg ?_
    refine x_ishl dX4_mayBits_26 rfl ?_
    refine x_iconst dX4_mayBits_27 ⟨by decide, by decide⟩ ?_
    refine x_ixor dX4_mayBits_28 rfl ?_
    refine x_iand dX4_mayBits_29 (v := gs V g) (by rw [gs, if_neg (by omega)]; rfl) ?_
    exact rest
  · refine x_iload1 dX4_mayBits_17 ?_
    refine x_goto (tgt := 29) dX4_mayBits_18 rfl ?_
    refine x_iand dX4_mayBits_29 (v := gs V g) (by have h := ian_all ⟨(V 0 0).toNat, by omega⟩; simp only [nat_of hn.1] at h; rw [gs, if_pos c1]; exact h) ?_
    exact rest
theorem t_rawWeight (hM : MP m V) (hI : Iv D V) {n : Int} (h0 : 0 ≤ n) (h1 : n < V 0 0) : Mt E 2 yX4_rawWeight cX4_rawWeight 6 (some .int) [zr 59, zi n] m (ans (some (zi (raw V n))) m) := by
  have hlf := lfrom_ok hI
  have hI2 := hI
  obtain ⟨hn, hl, hk0, hd, hk, hfg, ht, hr, hx, he, hz⟩ := hI
  refine Mt.of 4 (by decide +kernel) (Nat.le_of_ble_eq_true rfl) (Or.inl rfl) ?_ ?_
  · rintro r m' ⟨rfl, rfl⟩; simp
  show Ex E cX4_rawWeight 6 RX4 2 _ 0 [some (zr 59), some (zi n), none, none, none, none] [] m
  have hnb := near_bd hI2 h0 (show n < 6 by omega)
  have hab := away_bd hI2 h0 (show n < 6 by omega)
  have g1 := hx n h0 (by omega)
  have g2 := hx _ hlf.1 hlf.2
  have g3 := eggs_bd he h0 (show n < 6 by omega) 10 (by omega)
  have g5 : eggs V n = smI (fun a => V 5 (10 * n + a)) 10 := rfl
  rw [← g5] at g3
  have kinds : Ex E cX4_rawWeight 6 RX4 2 (ans (some (zi (raw V n))) m) 64 [some (zr 59), some (zi n), some (zi (lfrom V)), some (zi (near V n)), none, none] [zi (away V n)] m := by
    refine x_istore4 dX4_rawWeight_64 (by decide) rfl ?_
    refine x_bipush dX4_rawWeight_66 ⟨by decide, by decide⟩ ?_
    refine x_aload0 dX4_rawWeight_68 ?_
    refine x_iload1 dX4_rawWeight_69 ?_
    refine x_callv1 dX4_rawWeight_70 cv_X4_91 ci_X4_eggsIn rfl (T := TX4) rfl (by omega) (Nat.le_of_ble_eq_true rfl) (t_eggsIn hM he (n := n) h0 (by omega)) (fun r m1 hq => ?_)
    obtain ⟨rfl, rfl⟩ := hq
    show Ex _ _ _ _ _ _ _ _ [zi (eggs V n), zi 9] _
    refine x_isub dX4_rawWeight_73 (nrm_id (by omega) (by omega)) ?_
    refine x_istore5 dX4_rawWeight_74 (by decide) rfl ?_
    refine x_aload0 dX4_rawWeight_76 ?_
    refine x_getI dX4_rawWeight_77 fd_X4_95 rfl (Or.inl rfl) (v := V 0 6) hM.kind ?_
    have hkk : V 0 6 = 0 ∨ V 0 6 = 1 ∨ V 0 6 = 2 ∨ V 0 6 = 3 ∨ V 0 6 = 4 ∨ V 0 6 = 5 := by omega
    rcases hkk with q | q | q | q | q | q
    · rw [q]
      refine x_tin (tgt := 116) (off := 36) dX4_rawWeight_80 (by decide) (by decide) rfl rfl ?_
      refine x_iload3 dX4_rawWeight_116 ?_
      exact xe_i dX4_rawWeight_117 (⟨by rw [raw, q]; rfl, rfl⟩)
    · rw [q]
      refine x_tin (tgt := 118) (off := 38) dX4_rawWeight_80 (by decide) (by decide) rfl rfl ?_
      refine x_aload0 dX4_rawWeight_118 ?_
      refine x_getR (q := 63) dX4_rawWeight_119 fd_X4_29 rfl rfl rfl ?_
      refine x_iload1 dX4_rawWeight_122 ?_
      refine x_iald dX4_rawWeight_123 rfl (by omega) (by omega) (v := V 4 n) (hM.lik h0 (by omega)) ?_
      exact xe_i dX4_rawWeight_124 (⟨by rw [raw, q]; rfl, rfl⟩)
    · rw [q]
      refine x_tin (tgt := 125) (off := 45) dX4_rawWeight_80 (by decide) (by decide) rfl rfl ?_
      refine x_iconst dX4_rawWeight_125 ⟨by decide, by decide⟩ ?_
      exact xe_i dX4_rawWeight_126 (⟨by rw [raw, q]; rfl, rfl⟩)
    · rw [q]
      refine x_tin (tgt := 127) (off := 47) dX4_rawWeight_80 (by decide) (by decide) rfl rfl ?_
      refine x_iload4 dX4_rawWeight_127 ?_
      exact xe_i dX4_rawWeight_129 (⟨by rw [raw, q]; rfl, rfl⟩)
    · rw [q]
      refine x_tin (tgt := 130) (off := 50) dX4_rawWeight_80 (by decide) (by decide) rfl rfl ?_
      refine x_iload5 dX4_rawWeight_130 ?_
      have er : raw V n = away V n + V 0 7 * (if 0 < 9 - eggs V n then 9 - eggs V n else 0) := by rw [raw, q]; rfl
      refine x_if_le (tgt := 148) dX4_rawWeight_132 rfl (fun c1 => ?_) (fun c1 => ?_)
      · refine x_iload4 dX4_rawWeight_148 ?_
        exact xe_i dX4_rawWeight_150 (⟨by rw [er, if_neg (by omega)]; simp, rfl⟩)
      · have g4 := mul99 hfg.1 hfg.2 (show 0 ≤ 9 - eggs V n by omega) (by omega)
        refine x_iload4 dX4_rawWeight_135 ?_
        refine x_aload0 dX4_rawWeight_137 ?_
        refine x_getI dX4_rawWeight_138 fd_X4_98 rfl (Or.inl rfl) (v := V 0 7) hM.figure ?_
        refine x_iload5 dX4_rawWeight_141 ?_
        refine x_imul dX4_rawWeight_143 (nrm_id (by omega) (by omega)) ?_
        refine x_iadd dX4_rawWeight_144 (nrm_id (by omega) (by omega)) ?_
        refine x_goto (tgt := 150) dX4_rawWeight_145 rfl ?_
        exact xe_i dX4_rawWeight_150 (⟨by rw [er, if_pos c1], rfl⟩)
    · rw [q]
      refine x_tout (tgt := 151) dX4_rawWeight_80 (by omega) rfl ?_
      have er : raw V n = V 4 n + (if n = V 0 7 then 10 else 0) := by rw [raw, q]; rfl
      refine x_iload1 dX4_rawWeight_151 ?_
      refine x_aload0 dX4_rawWeight_152 ?_
      refine x_getI dX4_rawWeight_153 fd_X4_98 rfl (Or.inl rfl) (v := V 0 7) hM.figure ?_
      refine x_icmp_ne (tgt := 171) dX4_rawWeight_156 rfl (fun c1 => ?_) (fun c1 => ?_)
      · refine x_aload0 dX4_rawWeight_171 ?_
        refine x_getR (q := 63) dX4_rawWeight_172 fd_X4_29 rfl rfl rfl ?_
        refine x_iload1 dX4_rawWeight_175 ?_
        refine x_iald dX4_rawWeight_176 rfl (by omega) (by omega) (v := V 4 n) (hM.lik h0 (by omega)) ?_
        exact xe_i dX4_rawWeight_177 (⟨by rw [er, if_neg c1]; simp, rfl⟩)
      · refine x_aload0 dX4_rawWeight_159 ?_
        refine x_getR (q := 63) dX4_rawWeight_160 fd_X4_29 rfl rfl rfl ?_
        refine x_iload1 dX4_rawWeight_163 ?_
        refine x_iald dX4_rawWeight_164 rfl (by omega) (by omega) (v := V 4 n) (hM.lik h0 (by omega)) ?_
        refine x_bipush dX4_rawWeight_165 ⟨by decide, by decide⟩ ?_
        refine x_iadd dX4_rawWeight_167 (nrm_id (by omega) (by omega)) ?_
        refine x_goto (tgt := 177) dX4_rawWeight_168 rfl ?_
        exact xe_i dX4_rawWeight_177 (⟨by rw [er, if_pos c1], rfl⟩)
  have way : Ex E cX4_rawWeight 6 RX4 2 (ans (some (zi (raw V n))) m) 15 [some (zr 59), some (zi n), none, none, none, none] [zi (lfrom V)] m := by
    refine x_istore2 dX4_rawWeight_15 (by decide) rfl ?_
    refine x_bipush dX4_rawWeight_16 ⟨by decide, by decide⟩ ?_
    refine x_aload0 dX4_rawWeight_18 ?_
    refine x_getR (q := 60) dX4_rawWeight_19 fd_X4_19 rfl rfl rfl ?_
    refine x_iload1 dX4_rawWeight_22 ?_
    refine x_iald dX4_rawWeight_23 rfl (by omega) (by omega) (v := V 1 n) (hM.x h0 (by omega)) ?_
    refine x_aload0 dX4_rawWeight_24 ?_
    refine x_getR (q := 60) dX4_rawWeight_25 fd_X4_19 rfl rfl rfl ?_
    refine x_iload2 dX4_rawWeight_28 ?_
    refine x_iald dX4_rawWeight_29 rfl (by omega) (by omega) (v := V 1 (lfrom V)) (hM.x hlf.1 (by omega)) ?_
    refine x_calls2 dX4_rawWeight_30 cv_X4_87 cs_X4_apart (by omega) (Nat.le_of_ble_eq_true rfl) (t_apart (by omega) (by omega)) (fun r m1 hq => ?_)
    obtain ⟨rfl, rfl⟩ := hq
    show Ex _ _ _ _ _ _ _ _ [zi (zabs (V 1 n - V 1 (lfrom V))), zi 20] _
    refine x_isub dX4_rawWeight_33 (v := 20 - zabs (V 1 n - V 1 (lfrom V))) (nrm_id (by unfold zabs; omega) (by unfold zabs; omega)) ?_
    refine x_aload0 dX4_rawWeight_34 ?_
    refine x_getR (q := 61) dX4_rawWeight_35 fd_X4_23 rfl rfl rfl ?_
    refine x_iload1 dX4_rawWeight_38 ?_
    refine x_iald dX4_rawWeight_39 rfl (by omega) (by omega) (v := V 2 n) (hM.y h0 (by omega)) ?_
    refine x_aload0 dX4_rawWeight_40 ?_
    refine x_getR (q := 61) dX4_rawWeight_41 fd_X4_23 rfl rfl rfl ?_
    refine x_iload2 dX4_rawWeight_44 ?_
    refine x_iald dX4_rawWeight_45 rfl (by omega) (by omega) (v := V 2 (lfrom V)) (hM.y hlf.1 (by omega)) ?_
    refine x_calls2 dX4_rawWeight_46 cv_X4_87 cs_X4_apart (by omega) (Nat.le_of_ble_eq_true rfl) (t_apart (by omega) (by omega)) (fun r m1 hq => ?_)
    obtain ⟨rfl, rfl⟩ := hq
    show Ex _ _ _ _ _ _ _ _ [zi (zabs (V 2 n - V 2 (lfrom V))), zi (20 - zabs (V 1 n - V 1 (lfrom V)))] _
    refine x_isub dX4_rawWeight_49 (v := near V n) (nrm_id (by unfold zabs; omega) (by unfold zabs; omega)) ?_
    refine x_istore3 dX4_rawWeight_50 (by decide) rfl ?_
    refine x_iload1 dX4_rawWeight_51 ?_
    refine x_aload0 dX4_rawWeight_52 ?_
    refine x_getI dX4_rawWeight_53 fd_X4_16 rfl (Or.inl rfl) (v := V 0 1) hM.last ?_
    refine x_icmp_ne (tgt := 63) dX4_rawWeight_56 rfl (fun hc => ?_) (fun hc => ?_)
    · refine x_iload3 dX4_rawWeight_63 ?_
      have e1 : away V n = near V n := if_neg hc
      exact Ex.eq rfl (by rw [e1]) rfl kinds
    · refine x_iconst dX4_rawWeight_59 ⟨by decide, by decide⟩ ?_
      refine x_goto (tgt := 64) dX4_rawWeight_60 rfl ?_
      have e1 : away V n = 0 := if_pos hc
      exact Ex.eq rfl (by rw [e1]) rfl kinds
  refine x_aload0 dX4_rawWeight_0 ?_
  refine x_getI dX4_rawWeight_1 fd_X4_16 rfl (Or.inl rfl) (v := V 0 1) hM.last ?_
  refine x_if_ge (tgt := 11) dX4_rawWeight_4 rfl (fun hc => ?_) (fun hc => ?_)
  · refine x_aload0 dX4_rawWeight_11 ?_
    refine x_getI dX4_rawWeight_12 fd_X4_16 rfl (Or.inl rfl) (v := V 0 1) hM.last ?_
    exact Ex.eq rfl (by rw [lfrom, if_neg (by omega)]) rfl way
  · refine x_iconst dX4_rawWeight_7 ⟨by decide, by decide⟩ ?_
    refine x_goto (tgt := 15) dX4_rawWeight_8 rfl ?_
    exact Ex.eq rfl (by rw [lfrom, if_pos hc]) rfl way
end RM2
