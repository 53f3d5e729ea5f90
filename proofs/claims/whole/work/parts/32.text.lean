/-! ===== a farm in letters ===== -/
section TX1
variable {E : zz_E} {m : zz_M} {T V : zz_W} {D : Int}
/-- the letter at a place, -9 if there is none -/
def lat (T : zz_W) (p : Int) : Int := if 0 ≤ p ∧ p < T 0 0 then T 1 p else -9
def dat (T : zz_W) (p : Int) : Int := if 48 ≤ lat T p ∧ lat T p ≤ 57 then lat T p - 48 else -9
def ldg (c : Int) : Nat := if c = 110 then 4 else if c = 104 then 2 else if c = 101 then 2 else if c = 116 then 1 else if c = 114 then 1 else 0
/-- how many digits stand from p on, at most k -/
def dgs (T : zz_W) : Nat → Int → Nat
  | 0, _ => 0
  | k + 1, p => if 0 ≤ dat T p then dgs T k (p + 1) + 1 else 0
def dbh (T : zz_W) (p : Int) : Nat := dgs T (if lat T p = 116 then 2 else ldg (lat T p)) (p + 1)
/-- the place of the first letter that doesn't fit, from p on; -9 -/
def unf (T : zz_W) : Nat → Int → Int
  | 0, _ => -9
  | k + 1, p => if T 0 0 ≤ p then -9 else if ldg (lat T p) = 0 then p else
    if dbh T p < ldg (lat T p) ∨ lat T (p + (dbh T p : Int) + 1) ≠ 59 then p + (dbh T p : Int) + 1 else unf T k (p + (dbh T p : Int) + 2)
def ufi (T : zz_W) : Int := if T 0 0 = 0 then 0 else unf T 81 0
/-- a statement's effect; none if it is not as it must be -/
def stp (T V : zz_W) (p : Int) : Option zz_W :=
  if lat T p = 110 then (if V 0 0 = 6 then none else some (addn V (dat T (p + 1)) (dat T (p + 2)) (dat T (p + 3)) (dat T (p + 4)))) else
  if lat T p = 104 then (if 5 < dat T (p + 1) then none else some (ux (ux V 0 6 (dat T (p + 1))) 0 7 (dat T (p + 2)))) else
  if lat T p = 116 then (if 40 < (if dbh T p = 1 then dat T (p + 1) else 10 * dat T (p + 1) + dat T (p + 2)) then none else some (ux V 0 8 (if dbh T p = 1 then dat T (p + 1) else 10 * dat T (p + 1) + dat T (p + 2)))) else
  if lat T p = 114 then (if dat T (p + 1) < 1 then none else some (ux V 0 9 (dat T (p + 1)))) else
  (if V 0 0 ≤ dat T (p + 1) ∨ 9 ≤ V 5 (10 * dat T (p + 1) + dat T (p + 2)) then none else some (ux V 5 (10 * dat T (p + 1) + dat T (p + 2)) (V 5 (10 * dat T (p + 1) + dat T (p + 2)) + 1)))
def rdl (T : zz_W) : Nat → Int → Int → zz_W → Int × zz_W
  | 0, _, n, V => (n, V)
  | k + 1, p, n, V => if T 0 0 ≤ p then (n, V) else match stp T V p with
    | none => (-2000 - p, V)
    | some V' => rdl T k (p + (dbh T p : Int) + 2) (n + 1) V'
def rdi (T V : zz_W) : Int × zz_W := if ufi T ≠ -9 then (-1000 - ufi T, V) else rdl T 81 0 0 V
def o_farm (s : zz_S) : zz_A := ((rdi s.2.2 s.1).1, ((if 0 < (rdi s.2.2 s.1).1 then (rdi s.2.2 s.1).2 else s.1), s.2.1, ux s.2.2 0 0 0))
theorem dat_bd (p : Int) : dat T p = -9 ∨ (0 ≤ dat T p ∧ dat T p ≤ 9) := by
  unfold dat
  split <;> omega
theorem dgs_le : ∀ (k : Nat) (p : Int), dgs T k p ≤ k
  | 0, _ => Nat.le_refl _
  | k + 1, p => by
    unfold dgs
    split
    · have := dgs_le k (p + 1); omega
    · omega
theorem dgs_dig : ∀ (k : Nat) (p : Int) (i : Nat), i < dgs T k p → 0 ≤ dat T (p + i)
  | 0, _, i, h => by simp [dgs] at h
  | k + 1, p, i, h => by
    unfold dgs at h
    split at h
    · rename_i h0
      match i with
      | 0 => simpa using h0
      | i + 1 =>
        have := dgs_dig k (p + 1) i (by omega)
        rw [show p + ((i + 1 : Nat) : Int) = p + 1 + i by omega]
        exact this
    · omega
theorem dgs_in (hl : 0 ≤ T 0 0) : ∀ (k : Nat) (p : Int), 0 ≤ p → p ≤ T 0 0 → p + (dgs T k p : Int) ≤ T 0 0
  | 0, p, _, h => by simpa [dgs] using h
  | k + 1, p, h0, h => by
    unfold dgs
    split
    · rename_i hd
      have hp : p < T 0 0 := by
        rcases Int.lt_or_le p (T 0 0) with hlt | hge
        · exact hlt
        · have e1 : lat T p = -9 := if_neg (by omega)
          have e2 : dat T p = -9 := by rw [dat, e1]; rfl
          omega
      have := dgs_in hl k (p + 1) (by omega) (by omega)
      push_cast
      omega
    · simpa using h
theorem ldg_le (c : Int) : ldg c ≤ 4 := by
  unfold ldg
  repeat' split
  all_goals omega
theorem dbh_le (p : Int) : dbh T p ≤ 4 := by
  have h1 := dgs_le (T := T) (if lat T p = 116 then 2 else ldg (lat T p)) (p + 1)
  have h2 := ldg_le (lat T p)
  unfold dbh
  split at h1
  · rename_i h; rw [if_pos h]; omega
  · rename_i h; rw [if_neg h]; omega
theorem dbh_in (hl : 0 ≤ T 0 0) {p : Int} (h0 : 0 ≤ p) (h : p < T 0 0) : p + 1 + (dbh T p : Int) ≤ T 0 0 := dgs_in hl _ _ (by omega) (by omega)
theorem s_letterAt (hR : CR m T) (hl : 0 ≤ T 0 0 ∧ T 0 0 ≤ 80) {p : Int} : Mt E 1 yX0_letterAt cX0_letterAt 2 (some .int) [zr 53, zi p] m (ans (some (zi (lat T p))) m) := by
  refine Mt.of 0 (by decide +kernel) (Nat.le_of_ble_eq_true rfl) (Or.inl rfl) ?_ ?_
  · rintro r m' ⟨rfl, rfl⟩; simp
  show Ex E cX0_letterAt 2 RX0 1 _ 0 [some (zr 53), some (zi p)] [] m
  refine x_iload1 dX0_letterAt_0 ?_
  refine x_if_lt (tgt := 21) dX0_letterAt_1 rfl (fun h1 => ?_) (fun h1 => ?_)
  · refine x_bipush dX0_letterAt_21 ⟨by decide, by decide⟩ ?_
    exact xe_i dX0_letterAt_23 (⟨by rw [lat, if_neg (by omega)], rfl⟩)
  · refine x_iload1 dX0_letterAt_4 ?_
    refine x_aload0 dX0_letterAt_5 ?_
    refine x_getI dX0_letterAt_6 fd_X0_15 rfl (Or.inl rfl) (v := T 0 0) hR.1 ?_
    refine x_icmp_ge (tgt := 21) dX0_letterAt_9 rfl (fun h2 => ?_) (fun h2 => ?_)
    · refine x_bipush dX0_letterAt_21 ⟨by decide, by decide⟩ ?_
      exact xe_i dX0_letterAt_23 (⟨by rw [lat, if_neg (by omega)], rfl⟩)
    · refine x_aload0 dX0_letterAt_12 ?_
      refine x_getR (q := 54) dX0_letterAt_13 fd_X0_9 rfl rfl rfl ?_
      refine x_iload1 dX0_letterAt_16 ?_
      refine x_iald dX0_letterAt_17 rfl (by omega) (by omega) (v := T 1 p) (hR.2.1 p h1 (by omega)) ?_
      refine x_goto (tgt := 23) dX0_letterAt_18 rfl ?_
      exact xe_i dX0_letterAt_23 (⟨by rw [lat, if_pos ⟨h1, h2⟩], rfl⟩)
theorem s_digitAt (hR : CR m T) (hl : 0 ≤ T 0 0 ∧ T 0 0 ≤ 80) {p : Int} : Mt E 2 yX0_digitAt cX0_digitAt 3 (some .int) [zr 53, zi p] m (ans (some (zi (dat T p))) m) := by
  refine Mt.of 1 (by decide +kernel) (Nat.le_of_ble_eq_true rfl) (Or.inl rfl) ?_ ?_
  · rintro r m' ⟨rfl, rfl⟩; simp
  show Ex E cX0_digitAt 3 RX0 2 _ 0 [some (zr 53), some (zi p), none] [] m
  refine x_aload0 dX0_digitAt_0 ?_
  refine x_iload1 dX0_digitAt_1 ?_
  refine x_callv1 dX0_digitAt_2 cv_X0_34 ci_X0_letterAt rfl (T := TX0) rfl (by omega) (Nat.le_of_ble_eq_true rfl) (s_letterAt hR hl) (fun r m1 hq => ?_)
  obtain ⟨rfl, rfl⟩ := hq
  show Ex _ _ _ _ _ _ _ _ [zi (lat T p)] _
  refine x_istore2 dX0_digitAt_5 (by decide) rfl ?_
  refine x_iload2 dX0_digitAt_6 ?_
  refine x_bipush dX0_digitAt_7 ⟨by decide, by decide⟩ ?_
  refine x_icmp_lt (tgt := 25) dX0_digitAt_9 rfl (fun h1 => ?_) (fun h1 => ?_)
  · refine x_bipush dX0_digitAt_25 ⟨by decide, by decide⟩ ?_
    exact xe_i dX0_digitAt_27 (⟨by rw [dat, if_neg (by omega)], rfl⟩)
  · refine x_iload2 dX0_digitAt_12 ?_
    refine x_bipush dX0_digitAt_13 ⟨by decide, by decide⟩ ?_
    refine x_icmp_gt (tgt := 25) dX0_digitAt_15 rfl (fun h2 => ?_) (fun h2 => ?_)
    · refine x_bipush dX0_digitAt_25 ⟨by decide, by decide⟩ ?_
      exact xe_i dX0_digitAt_27 (⟨by rw [dat, if_neg (by omega)], rfl⟩)
    · refine x_iload2 dX0_digitAt_18 ?_
      refine x_bipush dX0_digitAt_19 ⟨by decide, by decide⟩ ?_
      refine x_isub dX0_digitAt_21 (nrm_id (by omega) (by omega)) ?_
      refine x_goto (tgt := 27) dX0_digitAt_22 rfl ?_
      exact xe_i dX0_digitAt_27 (⟨by rw [dat, if_pos ⟨h1, h2⟩], rfl⟩)
theorem s_leastDigits {c : Int} : Mt E 1 yX0_leastDigits cX0_leastDigits 1 (some .int) [zi c] m (ans (some (zi (ldg c : Int))) m) := by
  refine Mt.of 0 (by decide +kernel) (Nat.le_of_ble_eq_true rfl) (Or.inl rfl) ?_ ?_
  · rintro r m' ⟨rfl, rfl⟩; simp
  show Ex E cX0_leastDigits 1 RX0 1 _ 0 [some (zi c)] [] m
  refine x_iload0 dX0_leastDigits_0 ?_
  by_cases h1 : c = 101
  · subst h1
    refine x_look (tgt := 56) (off := 55) dX0_leastDigits_1 rfl rfl rfl ?_
    refine x_iconst dX0_leastDigits_56 ⟨by decide, by decide⟩ ?_
    exact xe_i dX0_leastDigits_57 (⟨rfl, rfl⟩)
  · by_cases h2 : c = 104
    · subst h2
      refine x_look (tgt := 54) (off := 53) dX0_leastDigits_1 rfl rfl rfl ?_
      refine x_iconst dX0_leastDigits_54 ⟨by decide, by decide⟩ ?_
      exact xe_i dX0_leastDigits_55 (⟨rfl, rfl⟩)
    · by_cases h3 : c = 110
      · subst h3
        refine x_look (tgt := 52) (off := 51) dX0_leastDigits_1 rfl rfl rfl ?_
        refine x_iconst dX0_leastDigits_52 ⟨by decide, by decide⟩ ?_
        exact xe_i dX0_leastDigits_53 (⟨rfl, rfl⟩)
      · by_cases h4 : c = 114
        · subst h4
          refine x_look (tgt := 60) (off := 59) dX0_leastDigits_1 rfl rfl rfl ?_
          refine x_iconst dX0_leastDigits_60 ⟨by decide, by decide⟩ ?_
          exact xe_i dX0_leastDigits_61 (⟨rfl, rfl⟩)
        · by_cases h5 : c = 116
          · subst h5
            refine x_look (tgt := 58) (off := 57) dX0_leastDigits_1 rfl rfl rfl ?_
            refine x_iconst dX0_leastDigits_58 ⟨by decide, by decide⟩ ?_
            exact xe_i dX0_leastDigits_59 (⟨rfl, rfl⟩)
          · refine x_look (tgt := 62) (off := 61) dX0_leastDigits_1 rfl (by simp [Op.lookupswitch.offset, Ne.symm h1, Ne.symm h2, Ne.symm h3, Ne.symm h4, Ne.symm h5]) rfl ?_
            refine x_iconst dX0_leastDigits_62 ⟨by decide, by decide⟩ ?_
            exact xe_i dX0_leastDigits_63 (⟨by rw [ldg, if_neg h3, if_neg h2, if_neg h1, if_neg h5, if_neg h4]; rfl, rfl⟩)
theorem s_digitsBehind (hR : CR m T) (hl : 0 ≤ T 0 0 ∧ T 0 0 ≤ 80) {p : Int} (hp0 : 0 ≤ p) (hp1 : p ≤ 1000) : Mt E 3 yX0_digitsBehind cX0_digitsBehind 5 (some .int) [zr 53, zi p] m (ans (some (zi (dbh T p : Int))) m) := by
  refine Mt.of 3 (by decide +kernel) (Nat.le_of_ble_eq_true rfl) (Or.inl rfl) ?_ ?_
  · rintro r m' ⟨rfl, rfl⟩; simp
  show Ex E cX0_digitsBehind 5 RX0 3 _ 0 [some (zr 53), some (zi p), none, none, none] [] m
  refine x_aload0 dX0_digitsBehind_0 ?_
  refine x_iload1 dX0_digitsBehind_1 ?_
  refine x_callv1 dX0_digitsBehind_2 cv_X0_34 ci_X0_letterAt rfl (T := TX0) rfl (by omega) (Nat.le_of_ble_eq_true rfl) (s_letterAt hR hl) (fun r m1 hq => ?_)
  obtain ⟨rfl, rfl⟩ := hq
  show Ex _ _ _ _ _ _ _ _ [zi (lat T p)] _
  refine x_istore2 dX0_digitsBehind_5 (by decide) rfl ?_
  refine x_iload2 dX0_digitsBehind_6 ?_
  refine x_bipush dX0_digitsBehind_7 ⟨by decide, by decide⟩ ?_
  have tail : ∀ M : Nat, M ≤ 4 → dbh T p = dgs T M (p + 1) → Ex E cX0_digitsBehind 5 RX0 3 (ans (some (zi (dbh T p : Int))) m1) 20 [some (zr 53), some (zi p), some (zi (lat T p)), none, none] [zi (M : Int)] m1 := by
    intro M hM hdb
    rw [hdb]
    refine x_istore3 dX0_digitsBehind_20 (by decide) rfl ?_
    refine x_iconst dX0_digitsBehind_21 ⟨by decide, by decide⟩ ?_
    refine x_istore4 dX0_digitsBehind_22 (by decide) rfl ?_
    have loop : ∀ (k j : Nat), j + k = M → dgs T M (p + 1) = j + dgs T k (p + 1 + j) → Ex E cX0_digitsBehind 5 RX0 3 (ans (some (zi (dgs T M (p + 1) : Int))) m1) 24 [some (zr 53), some (zi p), some (zi (lat T p)), some (zi (M : Int)), some (zi (j : Int))] [] m1 := by
      intro k
      induction k with
      | zero =>
        intro j hj he
        refine x_iload4 dX0_digitsBehind_24 ?_
        refine x_iload3 dX0_digitsBehind_26 ?_
        refine x_icmp_ge (tgt := 49) dX0_digitsBehind_27 rfl (fun h1 => ?_) (fun h1 => ?_)
        · refine x_iload4 dX0_digitsBehind_49 ?_
          exact xe_i dX0_digitsBehind_51 (⟨by rw [he]; rfl, rfl⟩)
        · omega
      | succ k ih =>
        intro j hj he
        refine x_iload4 dX0_digitsBehind_24 ?_
        refine x_iload3 dX0_digitsBehind_26 ?_
        refine x_icmp_ge (tgt := 49) dX0_digitsBehind_27 rfl (fun h1 => ?_) (fun h1 => ?_)
        · omega
        · refine x_aload0 dX0_digitsBehind_30 ?_
          refine x_iload1 dX0_digitsBehind_31 ?_
          refine x_iconst dX0_digitsBehind_32 ⟨by decide, by decide⟩ ?_
          refine x_iadd dX0_digitsBehind_33 (nrm_id (by omega) (by omega)) ?_
          refine x_iload4 dX0_digitsBehind_34 ?_
          refine x_iadd dX0_digitsBehind_36 (nrm_id (by omega) (by omega)) ?_
          refine x_callv1 dX0_digitsBehind_37 cv_X0_37 ci_X0_digitAt rfl (T := TX0) rfl (by omega) (Nat.le_of_ble_eq_true rfl) (s_digitAt hR hl) (fun r m2 hq => ?_)
          obtain ⟨rfl, rfl⟩ := hq
          show Ex _ _ _ _ _ _ _ _ [zi (dat T (p + 1 + j))] _
          refine x_if_lt (tgt := 49) dX0_digitsBehind_40 rfl (fun h2 => ?_) (fun h2 => ?_)
          · refine x_iload4 dX0_digitsBehind_49 ?_
            exact xe_i dX0_digitsBehind_51 (⟨by rw [he, dgs, if_neg (by omega)]; rfl, rfl⟩)
          · refine x_iinc4 dX0_digitsBehind_43 (by decide) rfl (nrm_id (by omega) (by omega)) ?_
            refine x_goto (tgt := 24) dX0_digitsBehind_46 rfl ?_
            refine Ex.eq (by rw [show (j : Int) + 1 = ((j + 1 : Nat) : Int) by omega]) rfl rfl (ih (j + 1) (by omega) ?_)
            rw [he, dgs, if_pos h2, show p + 1 + ((j + 1 : Nat) : Int) = p + 1 + (j : Int) + 1 by omega]
            omega
    exact loop M 0 (by omega) (by rw [show p + 1 + ((0 : Nat) : Int) = p + 1 by omega]; omega)
  refine x_icmp_ne (tgt := 16) dX0_digitsBehind_9 rfl (fun h1 => ?_) (fun h1 => ?_)
  · refine x_iload2 dX0_digitsBehind_16 ?_
    refine x_calls1 dX0_digitsBehind_17 cv_X0_31 cs_X0_leastDigits (by omega) (Nat.le_of_ble_eq_true rfl) (s_leastDigits) (fun r m2 hq => ?_)
    obtain ⟨rfl, rfl⟩ := hq
    exact tail (ldg (lat T p)) (ldg_le _) (by rw [dbh, if_neg h1])
  · refine x_iconst dX0_digitsBehind_12 ⟨by decide, by decide⟩ ?_
    refine x_goto (tgt := 20) dX0_digitsBehind_13 rfl ?_
    exact tail 2 (by decide) (by rw [dbh, if_pos h1])
theorem s_firstUnfit (hR : CR m T) (hl : 0 ≤ T 0 0 ∧ T 0 0 ≤ 80) : Mt E 4 yX0_firstUnfit cX0_firstUnfit 4 (some .int) [zr 53] m (ans (some (zi (ufi T))) m) := by
  refine Mt.of 3 (by decide +kernel) (Nat.le_of_ble_eq_true rfl) (Or.inl rfl) ?_ ?_
  · rintro r m' ⟨rfl, rfl⟩; simp
  show Ex E cX0_firstUnfit 4 RX0 4 _ 0 [some (zr 53), none, none, none] [] m
  refine x_aload0 dX0_firstUnfit_0 ?_
  refine x_getI dX0_firstUnfit_1 fd_X0_15 rfl (Or.inl rfl) (v := T 0 0) hR.1 ?_
  refine x_if_ne (tgt := 9) dX0_firstUnfit_4 rfl (fun h1 => ?_) (fun h1 => ?_)
  · refine x_iconst dX0_firstUnfit_9 ⟨by decide, by decide⟩ ?_
    refine x_istore1 dX0_firstUnfit_10 (by decide) rfl ?_
    have loop : ∀ (k : Nat) (p : Int) (o2 o3 : Option zz_V), 0 ≤ p → T 0 0 < p + k → p ≤ 80 → Ex E cX0_firstUnfit 4 RX0 4 (ans (some (zi (unf T k p))) m) 11 [some (zr 53), some (zi p), o2, o3] [] m := by
      intro k
      induction k with
      | zero =>
        intro p o2 o3 hp hk hp8
        refine Ex.wk (L' := [some (zr 53), some (zi p), none, none]) ⟨rfl, rfl, trivial⟩ ?_
        refine x_iload1 dX0_firstUnfit_11 ?_
        refine x_aload0 dX0_firstUnfit_12 ?_
        refine x_getI dX0_firstUnfit_13 fd_X0_15 rfl (Or.inl rfl) (v := T 0 0) hR.1 ?_
        refine x_icmp_ge (tgt := 70) dX0_firstUnfit_16 rfl (fun h2 => ?_) (fun h2 => ?_)
        · refine x_bipush dX0_firstUnfit_70 ⟨by decide, by decide⟩ ?_
          exact xe_i dX0_firstUnfit_72 (⟨rfl, rfl⟩)
        · omega
      | succ k ih =>
        intro p o2 o3 hp hk hp8
        refine Ex.wk (L' := [some (zr 53), some (zi p), none, none]) ⟨rfl, rfl, trivial⟩ ?_
        refine x_iload1 dX0_firstUnfit_11 ?_
        refine x_aload0 dX0_firstUnfit_12 ?_
        refine x_getI dX0_firstUnfit_13 fd_X0_15 rfl (Or.inl rfl) (v := T 0 0) hR.1 ?_
        refine x_icmp_ge (tgt := 70) dX0_firstUnfit_16 rfl (fun h2 => ?_) (fun h2 => ?_)
        · refine x_bipush dX0_firstUnfit_70 ⟨by decide, by decide⟩ ?_
          exact xe_i dX0_firstUnfit_72 (⟨by rw [unf, if_pos h2], rfl⟩)
        · have hlt : lat T p = T 1 p := if_pos ⟨hp, h2⟩
          have hd4 := dbh_le (T := T) p
          have hdi := dbh_in hl.1 hp h2
          refine x_aload0 dX0_firstUnfit_19 ?_
          refine x_getR (q := 54) dX0_firstUnfit_20 fd_X0_9 rfl rfl rfl ?_
          refine x_iload1 dX0_firstUnfit_23 ?_
          refine x_iald dX0_firstUnfit_24 rfl (by omega) (by omega) (v := lat T p) ((hR.2.1 p hp (by omega)).trans hlt.symm) ?_
          refine x_calls1 dX0_firstUnfit_25 cv_X0_31 cs_X0_leastDigits (by omega) (Nat.le_of_ble_eq_true rfl) (s_leastDigits) (fun r m2 hq => ?_)
          obtain ⟨rfl, rfl⟩ := hq
          show Ex _ _ _ _ _ _ _ _ [zi (ldg (lat T p) : Int)] _
          refine x_istore2 dX0_firstUnfit_28 (by decide) rfl ?_
          refine x_iload2 dX0_firstUnfit_29 ?_
          refine x_if_ne (tgt := 35) dX0_firstUnfit_30 rfl (fun h3 => ?_) (fun h3 => ?_)
          · refine x_aload0 dX0_firstUnfit_35 ?_
            refine x_iload1 dX0_firstUnfit_36 ?_
            refine x_callv1 dX0_firstUnfit_37 cv_X0_23 ci_X0_digitsBehind rfl (T := TX0) rfl (by omega) (Nat.le_of_ble_eq_true rfl) (s_digitsBehind hR hl hp (by omega)) (fun r m3 hq => ?_)
            obtain ⟨rfl, rfl⟩ := hq
            show Ex _ _ _ _ _ _ _ _ [zi (dbh T p : Int)] _
            refine x_istore3 dX0_firstUnfit_40 (by decide) rfl ?_
            refine x_iload1 dX0_firstUnfit_41 ?_
            refine x_iload3 dX0_firstUnfit_42 ?_
            refine x_iconst dX0_firstUnfit_43 ⟨by decide, by decide⟩ ?_
            refine x_iadd dX0_firstUnfit_44 (nrm_id (by omega) (by omega)) ?_
            refine x_iadd dX0_firstUnfit_45 (nrm_id (by omega) (by omega)) ?_
            refine x_istore1 dX0_firstUnfit_46 (by decide) rfl ?_
            refine x_iload3 dX0_firstUnfit_47 ?_
            refine x_iload2 dX0_firstUnfit_48 ?_
            have e1 : p + ((dbh T p : Int) + 1) = p + (dbh T p : Int) + 1 := by omega
            refine x_icmp_lt (tgt := 62) dX0_firstUnfit_49 rfl (fun h4 => ?_) (fun h4 => ?_)
            · refine x_iload1 dX0_firstUnfit_62 ?_
              exact xe_i dX0_firstUnfit_63 (⟨by rw [unf, if_neg (by omega), if_neg (by omega), if_pos (by omega), e1], rfl⟩)
            · refine x_aload0 dX0_firstUnfit_52 ?_
              refine x_iload1 dX0_firstUnfit_53 ?_
              refine x_callv1 dX0_firstUnfit_54 cv_X0_34 ci_X0_letterAt rfl (T := TX0) rfl (by omega) (Nat.le_of_ble_eq_true rfl) (s_letterAt hR hl) (fun r m4 hq => ?_)
              obtain ⟨rfl, rfl⟩ := hq
              rw [e1]
              show Ex _ _ _ _ _ _ _ _ [zi (lat T (p + (dbh T p : Int) + 1))] _
              refine x_bipush dX0_firstUnfit_57 ⟨by decide, by decide⟩ ?_
              refine x_icmp_eq (tgt := 64) dX0_firstUnfit_59 rfl (fun h5 => ?_) (fun h5 => ?_)
              · refine x_iinc1 dX0_firstUnfit_64 (by decide) rfl (nrm_id (by omega) (by omega)) ?_
                refine x_goto (tgt := 11) dX0_firstUnfit_67 rfl ?_
                have e2 : unf T (k + 1) p = unf T k (p + (dbh T p : Int) + 2) := by rw [unf, if_neg (by omega), if_neg (by omega), if_neg (by omega)]
                rw [e2]
                exact Ex.eq (by rw [show p + (dbh T p : Int) + 1 + 1 = p + (dbh T p : Int) + 2 by omega]) rfl rfl (ih (p + (dbh T p : Int) + 2) _ _ (by omega) (by omega) (by
                  unfold lat at h5
                  split at h5 <;> omega))
              · refine x_iload1 dX0_firstUnfit_62 ?_
                exact xe_i dX0_firstUnfit_63 (⟨by rw [unf, if_neg (by omega), if_neg (by omega), if_pos (by omega)], rfl⟩)
          · refine x_iload1 dX0_firstUnfit_33 ?_
            exact xe_i dX0_firstUnfit_34 (⟨by rw [unf, if_neg (by omega), if_pos (by omega)], rfl⟩)
    have e : ufi T = unf T 81 0 := if_neg h1
    rw [e]
    exact loop 81 0 none none (by decide) (by omega) (by decide)
  · refine x_iconst dX0_firstUnfit_7 ⟨by decide, by decide⟩ ?_
    exact xe_i dX0_firstUnfit_8 (⟨by rw [ufi, if_pos h1], rfl⟩)
end TX1
