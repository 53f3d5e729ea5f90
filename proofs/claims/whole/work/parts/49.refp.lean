section RM16
variable {E : zz_E} {m : zz_M} {s : zz_S} {T V W : zz_W} {D : Int}
/-- the letter here, -1 if there is none -/
def hr (T : zz_W) (p : Int) : Int := if p < T 0 0 then T 1 p else -1
theorem hr_lat {p : Int} (h0 : 0 ≤ p) : hr T p = lat T p ∨ (hr T p = -1 ∧ lat T p = -9) := by
  unfold hr lat
  by_cases h : p < T 0 0
  · rw [if_pos h, if_pos ⟨h0, h⟩]; exact Or.inl rfl
  · rw [if_neg h, if_neg (by omega)]; exact Or.inr ⟨rfl, rfl⟩
theorem hr_dat {p : Int} (h0 : 0 ≤ p) : (48 ≤ hr T p ∧ hr T p ≤ 57) ↔ 0 ≤ dat T p := by
  rcases hr_lat (T := T) h0 with h | ⟨h1, h2⟩
  · unfold dat
    rw [← h]
    split <;> omega
  · unfold dat
    rw [h1, h2]
    split <;> omega
theorem dat_lat {p : Int} (h : 0 ≤ dat T p) : dat T p = lat T p - 48 ∧ 0 ≤ p ∧ p < T 0 0 ∧ lat T p = T 1 p := by
  unfold dat at h ⊢
  split at h
  · rename_i h1
    rw [if_pos h1]
    unfold lat at h1 ⊢
    by_cases h2 : 0 ≤ p ∧ p < T 0 0
    · rw [if_pos h2]
      exact ⟨rfl, h2.1, h2.2, rfl⟩
    · rw [if_neg h2] at h1
      omega
  · omega
theorem dgs_eq : ∀ (k d : Nat) (p : Int), (∀ j : Nat, j < d → 0 ≤ dat T (p + j)) → d ≤ k → (d < k → dat T (p + d) < 0) → dgs T k p = d
  | 0, d, p, _, h2, _ => by
    have : d = 0 := by omega
    subst this
    rfl
  | k + 1, d, p, h1, h2, h3 => by
    unfold dgs
    match d, h1, h2, h3 with
    | 0, h1, h2, h3 =>
      have := h3 (by omega)
      rw [show p + ((0 : Nat) : Int) = p by omega] at this
      rw [if_neg (by omega)]
    | d + 1, h1, h2, h3 =>
      have h4 := h1 0 (by omega)
      rw [show p + ((0 : Nat) : Int) = p by omega] at h4
      rw [if_pos h4, dgs_eq k d (p + 1) (fun j hj => by have := h1 (j + 1) (by omega); rwa [show p + ((j + 1 : Nat) : Int) = p + 1 + j by omega] at this) (by omega) (fun hd => by have := h3 (by omega); rwa [show p + ((d + 1 : Nat) : Int) = p + 1 + d by omega] at this)]
/-- reading: the letters, the place, whether it is bad, how many statements -/
def FM (m : zz_M) (T : zz_W) (p b k : Int) : Prop := m 59 29 = T 0 0 ∧ (∀ z : Int, 0 ≤ z → z < 80 → m 71 z.toNat = T 1 z) ∧ m 59 30 = p ∧ m 59 31 = b ∧ m 59 32 = k
theorem FM.at_ {p b k x : Int} (h : FM m T p b k) : FM (up m 59 30 x) T x b k := by
  obtain ⟨h1, h2, h3, h4, h5⟩ := h
  exact ⟨by rw [upn (by decide)]; exact h1, fun z a c => by rw [up_cell (by decide)]; exact h2 z a c, up_same _ _ _ _, by rw [upn (by decide)]; exact h4, by rw [upn (by decide)]; exact h5⟩
theorem FM.bad {p b k x : Int} (h : FM m T p b k) : FM (up m 59 31 x) T p x k := by
  obtain ⟨h1, h2, h3, h4, h5⟩ := h
  exact ⟨by rw [upn (by decide)]; exact h1, fun z a c => by rw [up_cell (by decide)]; exact h2 z a c, by rw [upn (by decide)]; exact h3, up_same _ _ _ _, by rw [upn (by decide)]; exact h5⟩
theorem FM.stm {p b k x : Int} (h : FM m T p b k) : FM (up m 59 32 x) T p b x := by
  obtain ⟨h1, h2, h3, h4, h5⟩ := h
  exact ⟨by rw [upn (by decide)]; exact h1, fun z a c => by rw [up_cell (by decide)]; exact h2 z a c, by rw [upn (by decide)]; exact h3, by rw [upn (by decide)]; exact h4, up_same _ _ _ _⟩
theorem FM.cel {p b k x : Int} {q j : Nat} (h : FM m T p b k) (h1 : q ≠ 59) (h2 : q ≠ 71) : FM (up m q j x) T p b k := by
  obtain ⟨g1, g2, g3, g4, g5⟩ := h
  unfold FM
  rw [up_cell (Ne.symm h1), up_cell (Ne.symm h2)]
  exact ⟨g1, g2, g3, g4, g5⟩
theorem t_here {p b k : Int} (hF : FM m T p b k) (hp : 0 ≤ p) (hT : T 0 0 ≤ 80) : Mt E 1 yX4_here cX4_here 1 (some .int) [zr 59] m (ans (some (zi (hr T p))) m) := by
  refine Mt.of 0 (by decide +kernel) (Nat.le_of_ble_eq_true rfl) (Or.inl rfl) ?_ ?_
  · rintro r m' ⟨rfl, rfl⟩; simp
  show Ex E cX4_here 1 RX4 1 _ 0 [some (zr 59)] [] m
  refine x_aload0 dX4_here_0 ?_
  refine x_getI dX4_here_1 fd_X4_156 rfl (Or.inl rfl) (v := p) hF.2.2.1 ?_
  refine x_aload0 dX4_here_4 ?_
  refine x_getI dX4_here_5 fd_X4_153 rfl (Or.inl rfl) (v := T 0 0) hF.1 ?_
  refine x_icmp_ge (tgt := 23) dX4_here_8 rfl (fun c1 => ?_) (fun c1 => ?_)
  · refine x_iconst dX4_here_23 ⟨by decide, by decide⟩ ?_
    exact xe_i dX4_here_24 (⟨by rw [hr, if_neg (by omega)], rfl⟩)
  · refine x_aload0 dX4_here_11 ?_
    refine x_getR (q := 71) dX4_here_12 fd_X4_56 rfl rfl rfl ?_
    refine x_aload0 dX4_here_15 ?_
    refine x_getI dX4_here_16 fd_X4_156 rfl (Or.inl rfl) (v := p) hF.2.2.1 ?_
    refine x_iald dX4_here_19 rfl (by omega) (by omega) (v := T 1 p) (hF.2.1 p hp (by omega)) ?_
    refine x_goto (tgt := 24) dX4_here_20 rfl ?_
    exact xe_i dX4_here_24 (⟨by rw [hr, if_pos c1], rfl⟩)
/-- only the place and whether it is bad change -/
def Fb (m m' : zz_M) : Prop := (∀ q, q ≠ 59 → m' q = m q) ∧ ∀ j, j ≠ 30 → j ≠ 31 → m' 59 j = m 59 j
theorem t_readDigit {p b k : Int} (hF : FM m T p b k) (hp : 0 ≤ p) (hT : T 0 0 ≤ 80) (hb : b = 0 ∨ b = 1) : Mt E 2 yX4_readDigit cX4_readDigit 1 (some .int) [zr 59] m (fun r m' => ((b = 0 ∧ 0 ≤ dat T p ∧ r = some (zi (dat T p)) ∧ FM m' T (p + 1) 0 k) ∨ ((b = 1 ∨ dat T p < 0) ∧ r = some (zi 0) ∧ FM m' T p 1 k)) ∧ Fb m m') := by
  refine Mt.of 0 (by decide +kernel) (Nat.le_of_ble_eq_true rfl) (Or.inl rfl) ?_ ?_
  · rintro r m' ⟨⟨-, -, rfl, -⟩ | ⟨-, rfl, -⟩, -⟩ <;> simp
  show Ex E cX4_readDigit 1 RX4 2 _ 0 [some (zr 59)] [] m
  have bad : (b = 1 ∨ dat T p < 0) → Ex E cX4_readDigit 1 RX4 2 (fun r m' => ((b = 0 ∧ 0 ≤ dat T p ∧ r = some (zi (dat T p)) ∧ FM m' T (p + 1) 0 k) ∨ ((b = 1 ∨ dat T p < 0) ∧ r = some (zi 0) ∧ FM m' T p 1 k)) ∧ Fb m m') 25 [some (zr 59)] [zr 59] m := by
    intro h
    refine x_iconst dX4_readDigit_25 ⟨by decide, by decide⟩ ?_
    refine x_goto (tgt := 30) dX4_readDigit_26 rfl ?_
    refine x_putZ dX4_readDigit_30 fd_X4_159 rfl rfl (by omega) ?_
    refine x_aload0 dX4_readDigit_33 ?_
    refine x_getI dX4_readDigit_34 fd_X4_159 rfl (Or.inr rfl) (v := 1) (up_same _ _ _ _) ?_
    refine x_if_eq (tgt := 42) dX4_readDigit_37 rfl (fun d1 => ?_) (fun d1 => ?_)
    · omega
    · refine x_iconst dX4_readDigit_40 ⟨by decide, by decide⟩ ?_
      exact xe_i dX4_readDigit_41 (⟨Or.inr ⟨h, rfl, hF.bad⟩, fun q hq => up_cell hq, fun j _ h2 => upn h2⟩)
  refine x_aload0 dX4_readDigit_0 ?_
  refine x_aload0 dX4_readDigit_1 ?_
  refine x_getI dX4_readDigit_2 fd_X4_159 rfl (Or.inr rfl) (v := b) hF.2.2.2.1 ?_
  refine x_if_ne (tgt := 25) dX4_readDigit_5 rfl (fun c1 => ?_) (fun c1 => ?_)
  · exact bad (Or.inl (by omega))
  · refine x_aload0 dX4_readDigit_8 ?_
    refine x_callv0 dX4_readDigit_9 cv_X4_162 ci_X4_here rfl (T := TX4) rfl (by omega) (Nat.le_of_ble_eq_true rfl) (t_here hF hp hT) (fun r m1 hq => ?_)
    obtain ⟨rfl, rfl⟩ := hq
    show Ex _ _ _ _ _ _ _ _ [zi (hr T p), zr 59] _
    refine x_i2l dX4_readDigit_12 ?_
    refine x_ldc2 (v := 48) dX4_readDigit_13 ⟨by decide, by decide⟩ ctl_X4_165 ?_
    refine x_ldc2 (v := 57) dX4_readDigit_16 ⟨by decide, by decide⟩ ctl_X4_167 ?_
    refine x_calls3 dX4_readDigit_19 cv_X4_80 cs_X4_in (by omega) (Nat.le_of_ble_eq_true rfl) (t_in) (fun r m1 hq => ?_)
    obtain ⟨rfl, rfl⟩ := hq
    show Ex _ _ _ _ _ _ _ _ [zi (if (48 : Int) ≤ hr T p ∧ hr T p ≤ 57 then 1 else 0), zr 59] _
    by_cases hd : 0 ≤ dat T p
    · rw [if_pos ((hr_dat hp).mpr hd)]
      obtain ⟨g1, g2, g3, g4⟩ := dat_lat hd
      have hdb := dat_bd (T := T) p
      refine x_if_ne (tgt := 29) dX4_readDigit_22 rfl (fun c2 => ?_) (fun c2 => ?_)
      · refine x_iconst dX4_readDigit_29 ⟨by decide, by decide⟩ ?_
        refine x_putZ dX4_readDigit_30 fd_X4_159 rfl rfl (by omega) ?_
        refine x_aload0 dX4_readDigit_33 ?_
        refine x_getI dX4_readDigit_34 fd_X4_159 rfl (Or.inr rfl) (v := 0) (up_same _ _ _ _) ?_
        refine x_if_eq (tgt := 42) dX4_readDigit_37 rfl (fun d1 => ?_) (fun d1 => ?_)
        · refine x_aload0 dX4_readDigit_42 ?_
          refine x_dupr dX4_readDigit_43 ?_
          refine x_getI dX4_readDigit_44 fd_X4_156 rfl (Or.inl rfl) (v := p) (by rw [upn (by decide)]; exact hF.2.2.1) ?_
          refine x_iconst dX4_readDigit_47 ⟨by decide, by decide⟩ ?_
          refine x_iadd dX4_readDigit_48 (nrm_id (by omega) (by omega)) ?_
          refine x_putI dX4_readDigit_49 fd_X4_156 rfl rfl ?_
          refine x_aload0 dX4_readDigit_52 ?_
          refine x_getR (q := 71) dX4_readDigit_53 fd_X4_56 rfl rfl rfl ?_
          refine x_aload0 dX4_readDigit_56 ?_
          refine x_getI dX4_readDigit_57 fd_X4_156 rfl (Or.inl rfl) (v := p + 1) (up_same _ _ _ _) ?_
          refine x_iconst dX4_readDigit_60 ⟨by decide, by decide⟩ ?_
          refine x_isub dX4_readDigit_61 (nrm_id (by omega) (by omega)) ?_
          refine x_iald dX4_readDigit_62 rfl (by omega) (by omega) (v := T 1 p) (by rw [up_cell (by decide), up_cell (by decide), show p + 1 - 1 = p by omega]; exact hF.2.1 p hp (by omega)) ?_
          refine x_bipush dX4_readDigit_63 ⟨by decide, by decide⟩ ?_
          refine x_isub dX4_readDigit_65 (v := dat T p) (by rw [show T 1 p - 48 = dat T p by omega]; exact nrm_id (by omega) (by omega)) ?_
          exact xe_i dX4_readDigit_66 (⟨Or.inl ⟨c1, hd, rfl, hF.bad.at_⟩, fun q hq => by rw [up_cell hq, up_cell hq], fun j h1 h2 => by rw [upn h1, upn h2]⟩)
        · omega
      · omega
    · rw [if_neg (fun h => hd ((hr_dat hp).mp h))]
      refine x_if_ne (tgt := 29) dX4_readDigit_22 rfl (fun c2 => ?_) (fun c2 => ?_)
      · omega
      · exact bad (Or.inr (by omega))
theorem hr_eq {p : Int} (h0 : 0 ≤ p) (h : 0 ≤ hr T p) : lat T p = hr T p := by
  rcases hr_lat (T := T) h0 with q | ⟨q1, q2⟩
  · exact q.symm
  · omega
theorem hr_59 {p : Int} (h0 : 0 ≤ p) : hr T p = 59 ↔ lat T p = 59 := by
  rcases hr_lat (T := T) h0 with q | ⟨q1, q2⟩
  · rw [q]
  · rw [q1, q2]; omega
/-- what the reading of a statement may change -/
def Fsr (k : Nat) (m m' : zz_M) : Prop := (∀ q, q ≠ 59 → q ≠ 72 → q ≠ 73 → q ≠ 74 → m' q = m q) ∧ (∀ j, j ≠ 30 → j ≠ 31 → j ≠ 32 → m' 59 j = m 59 j) ∧ (∀ i, i < k → m' 72 i = m 72 i ∧ m' 73 i = m 73 i) ∧ ∀ i, i < 4 * k → m' 74 i = m 74 i
theorem Fsr.rf {k : Nat} : Fsr k m m := ⟨fun _ _ _ _ _ => rfl, fun _ _ _ _ => rfl, fun _ _ => ⟨rfl, rfl⟩, fun _ _ => rfl⟩
theorem Fsr.b {k : Nat} {m' m'' : zz_M} (h : Fsr k m m') (hb : Fb m' m'') : Fsr k m m'' :=
  ⟨fun q h1 h2 h3 h4 => (hb.1 q h1).trans (h.1 q h1 h2 h3 h4), fun j h1 h2 h3 => (hb.2 j h1 h2).trans (h.2.1 j h1 h2 h3), fun i hi => by rw [hb.1 72 (by decide), hb.1 73 (by decide)]; exact h.2.2.1 i hi, fun i hi => by rw [hb.1 74 (by decide)]; exact h.2.2.2 i hi⟩
theorem Fsr.f {k j : Nat} {x : Int} {m' : zz_M} (h : Fsr k m m') (hj : j = 30 ∨ j = 31 ∨ j = 32) : Fsr k m (up m' 59 j x) :=
  ⟨fun q h1 h2 h3 h4 => by rw [up_cell h1]; exact h.1 q h1 h2 h3 h4, fun i h1 h2 h3 => by rw [upn (by omega)]; exact h.2.1 i h1 h2 h3, fun i hi => by rw [up_cell (by decide), up_cell (by decide)]; exact h.2.2.1 i hi, fun i hi => by rw [up_cell (by decide)]; exact h.2.2.2 i hi⟩
theorem up_ne {k j k' j' : Nat} {v : Int} (h : ¬ (k' = k ∧ j' = j)) : up m k j v k' j' = m k' j' := if_neg h
theorem Fsr.c {k q j : Nat} {x : Int} {m' : zz_M} (h : Fsr k m m') (hj : (q = 72 ∨ q = 73) ∧ k ≤ j ∨ q = 74 ∧ 4 * k ≤ j) : Fsr k m (up m' q j x) :=
  ⟨fun w h1 h2 h3 h4 => by rw [up_cell (by omega)]; exact h.1 w h1 h2 h3 h4, fun i h1 h2 h3 => by rw [up_cell (by omega)]; exact h.2.1 i h1 h2 h3, fun i hi => by rw [up_ne (by omega), up_ne (by omega)]; exact h.2.2.1 i hi, fun i hi => by rw [up_ne (by omega)]; exact h.2.2.2 i hi⟩
/-- a statement as it was read -/
def SR (m : zz_M) (T : zz_W) (p : Int) (k : Nat) : Prop := m 72 k = p ∧ m 73 k = lat T p ∧ (lat T p ≠ 116 → ∀ i : Nat, i < dbh T p → m 74 (4 * k + i) = dat T (p + 1 + i)) ∧ (lat T p = 116 → m 74 (4 * k) = if dbh T p = 1 then dat T (p + 1) else 10 * dat T (p + 1) + dat T (p + 2))
theorem SR.c {p : Int} {k : Nat} {m' : zz_M} (h : SR m T p k) (h2 : m' 72 = m 72) (h3 : m' 73 = m 73) (h4 : m' 74 = m 74) : SR m' T p k := by
  unfold SR
  rw [h2, h3, h4]
  exact h
theorem SR.i {p : Int} {k q : Nat} {m' : zz_M} (h : SR m T p q) (hF : Fsr k m m') (hq : q < k) : SR m' T p q := by
  obtain ⟨h1, h2, h3, h4⟩ := h
  have g := hF.2.2.1 q hq
  have d := dbh_le (T := T) p
  refine ⟨g.1.trans h1, g.2.trans h2, fun e i hi => ?_, fun e => ?_⟩
  · rw [hF.2.2.2 _ (by omega)]
    exact h3 e i hi
  · rw [hF.2.2.2 _ (by omega)]
    exact h4 e
abbrev BAD (T : zz_W) (p : Int) : Prop := ldg (lat T p) = 0 ∨ dbh T p < ldg (lat T p) ∨ lat T (p + (dbh T p : Int) + 1) ≠ 59
abbrev PB (T : zz_W) (p : Int) : Int := if ldg (lat T p) = 0 then p else p + (dbh T p : Int) + 1
/-- behind the reading of a statement -/
abbrev RSq (m : zz_M) (T : zz_W) (p : Int) (k : Nat) : Option zz_V → zz_M → Prop := fun r m' => r = none ∧ Fsr k m m' ∧ ((wfs T p ∧ lat T (p + (dbh T p : Int) + 1) = 59 ∧ FM m' T (p + (dbh T p : Int) + 2) 0 ((k : Int) + 1) ∧ SR m' T p k) ∨ (BAD T p ∧ FM m' T (PB T p) 1 ((k : Int) + 1)))
theorem t_readStatement {p : Int} {k : Nat} (hF : FM m T p 0 (k : Int)) (hp : 0 ≤ p) (hp8 : p ≤ 80) (hT : 0 ≤ T 0 0 ∧ T 0 0 ≤ 80) (hk : 3 * (k : Int) ≤ p) : Mt E 3 yX4_readStatement cX4_readStatement 5 none [zr 59] m (RSq m T p k) := by
  refine Mt.of 4 (by decide +kernel) (Nat.le_of_ble_eq_true rfl) (Or.inr (Or.inr (Or.inr rfl))) ?_ ?_
  · rintro r m' ⟨rfl, -⟩; simp
  show Ex E cX4_readStatement 5 RX4 3 _ 0 [some (zr 59), none, none, none, none] [] m
  have hd4 := dbh_le (T := T) p
  have hPB : 0 ≤ PB T p ∧ PB T p ≤ 90 := by
    unfold PB
    split <;> omega
  have tend : ∀ (b x b0 : Int) (m3 : zz_M), (b = 0 ∨ b = 1) → 0 ≤ x → x ≤ 100 → FM m3 T x b0 (k : Int) → Fsr k m m3 → (∀ m4, FM m4 T (x + 1 - b) b ((k : Int) + 1) → Fsr k m m4 → m4 72 = m3 72 → m4 73 = m3 73 → m4 74 = m3 74 → RSq m T p k none m4) → Ex E cX4_readStatement 5 RX4 3 (RSq m T p k) 228 [some (zr 59), none, none, none, none] [zi b, zr 59] m3 := by
    intro b x b0 m3 hb hx0 hx1 hF3 hS3 kk
    refine x_putZ dX4_readStatement_228 fd_X4_159 rfl rfl (by omega) ?_
    refine x_aload0 dX4_readStatement_231 ?_
    refine x_dupr dX4_readStatement_232 ?_
    refine x_getI dX4_readStatement_233 fd_X4_156 rfl (Or.inl rfl) (v := x) (by rw [upn (by decide)]; exact hF3.2.2.1) ?_
    refine x_aload0 dX4_readStatement_236 ?_
    refine x_getI dX4_readStatement_237 fd_X4_159 rfl (Or.inr rfl) (v := b) (up_same _ _ _ _) ?_
    refine x_if_eq (tgt := 247) dX4_readStatement_240 rfl (fun c1 => ?_) (fun c1 => ?_)
    · have e : x + 1 - b = x + 1 := by omega
      rw [e] at kk
      refine x_iconst dX4_readStatement_247 ⟨by decide, by decide⟩ ?_
      refine x_iadd dX4_readStatement_248 (nrm_id (by omega) (by omega)) ?_
      refine x_putI dX4_readStatement_249 fd_X4_156 rfl rfl ?_
      refine x_aload0 dX4_readStatement_252 ?_
      refine x_dupr dX4_readStatement_253 ?_
      refine x_getI dX4_readStatement_254 fd_X4_169 rfl (Or.inl rfl) (v := (k : Int)) (by rw [upn (by decide), upn (by decide)]; exact hF3.2.2.2.2) ?_
      refine x_iconst dX4_readStatement_257 ⟨by decide, by decide⟩ ?_
      refine x_iadd dX4_readStatement_258 (nrm_id (by omega) (by omega)) ?_
      refine x_putI dX4_readStatement_259 fd_X4_169 rfl rfl ?_
      exact xe_v dX4_readStatement_262 (kk _ hF3.bad.at_.stm (((hS3.f (by omega)).f (by omega)).f (by omega)) (by rw [up_cell (by decide), up_cell (by decide), up_cell (by decide)]) (by rw [up_cell (by decide), up_cell (by decide), up_cell (by decide)]) (by rw [up_cell (by decide), up_cell (by decide), up_cell (by decide)]))
    · have e : x + 1 - b = x + 0 := by omega
      rw [e] at kk
      refine x_iconst dX4_readStatement_243 ⟨by decide, by decide⟩ ?_
      refine x_goto (tgt := 248) dX4_readStatement_244 rfl ?_
      refine x_iadd dX4_readStatement_248 (nrm_id (by omega) (by omega)) ?_
      refine x_putI dX4_readStatement_249 fd_X4_156 rfl rfl ?_
      refine x_aload0 dX4_readStatement_252 ?_
      refine x_dupr dX4_readStatement_253 ?_
      refine x_getI dX4_readStatement_254 fd_X4_169 rfl (Or.inl rfl) (v := (k : Int)) (by rw [upn (by decide), upn (by decide)]; exact hF3.2.2.2.2) ?_
      refine x_iconst dX4_readStatement_257 ⟨by decide, by decide⟩ ?_
      refine x_iadd dX4_readStatement_258 (nrm_id (by omega) (by omega)) ?_
      refine x_putI dX4_readStatement_259 fd_X4_169 rfl rfl ?_
      exact xe_v dX4_readStatement_262 (kk _ hF3.bad.at_.stm (((hS3.f (by omega)).f (by omega)).f (by omega)) (by rw [up_cell (by decide), up_cell (by decide), up_cell (by decide)]) (by rw [up_cell (by decide), up_cell (by decide), up_cell (by decide)]) (by rw [up_cell (by decide), up_cell (by decide), up_cell (by decide)]))
  have tbad : ∀ (m3 : zz_M) (o1 o2 o3 o4 : Option zz_V), BAD T p → FM m3 T (PB T p) 1 (k : Int) → Fsr k m m3 → Ex E cX4_readStatement 5 RX4 3 (RSq m T p k) 206 [some (zr 59), o1, o2, o3, o4] [] m3 := by
    intro m3 o1 o2 o3 o4 hb hF3 hS3
    refine Ex.wk (L' := [some (zr 59), none, none, none, none]) ⟨rfl, trivial⟩ ?_
    refine x_aload0 dX4_readStatement_206 ?_
    refine x_aload0 dX4_readStatement_207 ?_
    refine x_getI dX4_readStatement_208 fd_X4_159 rfl (Or.inr rfl) (v := 1) hF3.2.2.2.1 ?_
    refine x_if_ne (tgt := 223) dX4_readStatement_211 rfl (fun c1 => ?_) (fun c1 => ?_)
    · refine x_iconst dX4_readStatement_223 ⟨by decide, by decide⟩ ?_
      refine x_goto (tgt := 228) dX4_readStatement_224 rfl ?_
      exact tend 1 _ 1 m3 (Or.inr rfl) hPB.1 (by omega) hF3 hS3 (fun m4 h1 h2 _ _ _ => ⟨rfl, h2, Or.inr ⟨hb, by rw [show PB T p + 1 - 1 = PB T p by omega] at h1; exact h1⟩⟩)
    · omega
  have tgood : ∀ (m3 : zz_M) (o1 o2 o3 o4 : Option zz_V), wfs T p → FM m3 T (p + (dbh T p : Int) + 1) 0 (k : Int) → Fsr k m m3 → SR m3 T p k → Ex E cX4_readStatement 5 RX4 3 (RSq m T p k) 206 [some (zr 59), o1, o2, o3, o4] [] m3 := by
    intro m3 o1 o2 o3 o4 hw hF3 hS3 hR3
    refine Ex.wk (L' := [some (zr 59), none, none, none, none]) ⟨rfl, trivial⟩ ?_
    refine x_aload0 dX4_readStatement_206 ?_
    refine x_aload0 dX4_readStatement_207 ?_
    refine x_getI dX4_readStatement_208 fd_X4_159 rfl (Or.inr rfl) (v := 0) hF3.2.2.2.1 ?_
    refine x_if_ne (tgt := 223) dX4_readStatement_211 rfl (fun c1 => ?_) (fun c1 => ?_)
    · omega
    · refine x_aload0 dX4_readStatement_214 ?_
      refine x_callv0 dX4_readStatement_215 cv_X4_162 ci_X4_here rfl (T := TX4) rfl (by omega) (Nat.le_of_ble_eq_true rfl) (t_here hF3 (by omega) hT.2) (fun r m4 hq => ?_)
      obtain ⟨rfl, rfl⟩ := hq
      have h59 := hr_59 (T := T) (p := p + (dbh T p : Int) + 1) (by omega)
      show Ex _ _ _ _ _ _ _ _ [zi (hr T (p + (dbh T p : Int) + 1)), zr 59] _
      refine x_bipush dX4_readStatement_218 ⟨by decide, by decide⟩ ?_
      refine x_icmp_eq (tgt := 227) dX4_readStatement_220 rfl (fun c2 => ?_) (fun c2 => ?_)
      · refine x_iconst dX4_readStatement_227 ⟨by decide, by decide⟩ ?_
        exact tend 0 _ 0 _ (Or.inl rfl) (by omega) (by omega) hF3 hS3 (fun m4 h1 h2 e2 e3 e4 => ⟨rfl, h2, Or.inl ⟨hw, h59.mp c2, by rw [show p + (dbh T p : Int) + 1 + 1 - 0 = p + (dbh T p : Int) + 2 by omega] at h1; exact h1, hR3.c e2 e3 e4⟩⟩)
      · refine x_iconst dX4_readStatement_223 ⟨by decide, by decide⟩ ?_
        refine x_goto (tgt := 228) dX4_readStatement_224 rfl ?_
        have e : PB T p = p + (dbh T p : Int) + 1 := if_neg hw.1
        exact tend 1 _ 0 _ (Or.inr rfl) (by omega) (by omega) hF3 hS3 (fun m4 h1 h2 _ _ _ => ⟨rfl, h2, Or.inr ⟨Or.inr (Or.inr (fun q => c2 (h59.mpr q))), by rw [show p + (dbh T p : Int) + 1 + 1 - 1 = PB T p by omega] at h1; exact h1⟩⟩)
  have lbad : ∀ (c : Int) (M : Nat), M ≤ 4 → BAD T p → ∀ (q j : Nat) (m2 : zz_M), j + q = M → FM m2 T (PB T p) 1 (k : Int) → Fsr k m m2 → Ex E cX4_readStatement 5 RX4 3 (RSq m T p k) 125 [some (zr 59), some (zi (k : Int)), some (zi c), some (zi (M : Int)), some (zi (j : Int))] [] m2 := by
    intro c M hM hb q
    induction q with
    | zero =>
      intro j m2 hj hF2 hS2
      refine x_iload4 dX4_readStatement_125 ?_
      refine x_iload3 dX4_readStatement_127 ?_
      refine x_icmp_ge (tgt := 152) dX4_readStatement_128 rfl (fun d1 => ?_) (fun d1 => ?_)
      · refine x_aload0 dX4_readStatement_152 ?_
        refine x_getI dX4_readStatement_153 fd_X4_159 rfl (Or.inr rfl) (v := 1) hF2.2.2.2.1 ?_
        refine x_if_ne (tgt := 206) dX4_readStatement_156 rfl (fun d2 => ?_) (fun d2 => ?_)
        · exact tbad _ _ _ _ _ hb hF2 hS2
        · omega
      · omega
    | succ q ih =>
      intro j m2 hj hF2 hS2
      refine x_iload4 dX4_readStatement_125 ?_
      refine x_iload3 dX4_readStatement_127 ?_
      refine x_icmp_ge (tgt := 152) dX4_readStatement_128 rfl (fun d1 => ?_) (fun d1 => ?_)
      · omega
      · refine x_aload0 dX4_readStatement_131 ?_
        refine x_getR (q := 74) dX4_readStatement_132 fd_X4_65 rfl rfl rfl ?_
        refine x_iconst dX4_readStatement_135 ⟨by decide, by decide⟩ ?_
        refine x_iload1 dX4_readStatement_136 ?_
        refine x_imul dX4_readStatement_137 (v := ((4 * k : Nat) : Int)) ((nrm_id (by omega) (by omega)).trans (by omega)) ?_
        refine x_iload4 dX4_readStatement_138 ?_
        refine x_iadd dX4_readStatement_140 (v := ((4 * k + j : Nat) : Int)) ((nrm_id (by omega) (by omega)).trans (by omega)) ?_
        refine x_aload0 dX4_readStatement_141 ?_
        refine x_callv0 dX4_readStatement_142 cv_X4_172 ci_X4_readDigit rfl (T := TX4) rfl (by omega) (Nat.le_of_ble_eq_true rfl) (t_readDigit hF2 hPB.1 hT.2 (Or.inr rfl)) (fun r m3 hq => ?_)
        obtain ⟨⟨h, -⟩ | ⟨-, rfl, hF3⟩, hB⟩ := hq
        · omega
        · show Ex _ _ _ _ _ _ _ _ [zi 0, zi ((4 * k + j : Nat) : Int), zr 74] _
          refine x_iast dX4_readStatement_145 rfl (by omega) (by omega) ?_
          refine x_iinc4 dX4_readStatement_146 (by decide) rfl (nrm_id (by omega) (by omega)) ?_
          refine x_goto (tgt := 125) dX4_readStatement_149 rfl ?_
          exact Ex.eq (by push_cast; rfl) rfl rfl (ih (j + 1) _ (by omega) (hF3.cel (by decide) (by decide)) ((hS2.b hB).c (Or.inr ⟨rfl, by omega⟩)))
  have lgood : ∀ (c : Int) (M M' : Nat), M ≤ 4 → M ≤ M' → ldg (lat T p) = M → M ≠ 0 → dbh T p = dgs T M' (p + 1) →
      (∀ (m3 : zz_M), (∀ i : Nat, i < M → 0 ≤ dat T (p + 1 + i)) → FM m3 T (p + 1 + M) 0 (k : Int) → Fsr k m m3 → m3 72 k = p → m3 73 k = c → (∀ i : Nat, i < M → m3 74 (4 * k + i) = dat T (p + 1 + i)) → Ex E cX4_readStatement 5 RX4 3 (RSq m T p k) 152 [some (zr 59), some (zi (k : Int)), some (zi c), some (zi (M : Int)), some (zi (M : Int))] [] m3) →
      ∀ (q j : Nat) (m2 : zz_M), j + q = M → (∀ i : Nat, i < j → 0 ≤ dat T (p + 1 + i)) → FM m2 T (p + 1 + j) 0 (k : Int) → Fsr k m m2 → m2 72 k = p → m2 73 k = c → (∀ i : Nat, i < j → m2 74 (4 * k + i) = dat T (p + 1 + i)) →
      Ex E cX4_readStatement 5 RX4 3 (RSq m T p k) 125 [some (zr 59), some (zi (k : Int)), some (zi c), some (zi (M : Int)), some (zi (j : Int))] [] m2 := by
    intro c M M' hM hMM hl hM0 hdb kk q
    induction q with
    | zero =>
      intro j m2 hj hdg hF2 hS2 h72 h73 h74
      obtain rfl : j = M := by omega
      refine x_iload4 dX4_readStatement_125 ?_
      refine x_iload3 dX4_readStatement_127 ?_
      refine x_icmp_ge (tgt := 152) dX4_readStatement_128 rfl (fun d1 => ?_) (fun d1 => ?_)
      · exact kk m2 hdg hF2 hS2 h72 h73 h74
      · omega
    | succ q ih =>
      intro j m2 hj hdg hF2 hS2 h72 h73 h74
      refine x_iload4 dX4_readStatement_125 ?_
      refine x_iload3 dX4_readStatement_127 ?_
      refine x_icmp_ge (tgt := 152) dX4_readStatement_128 rfl (fun d1 => ?_) (fun d1 => ?_)
      · omega
      · refine x_aload0 dX4_readStatement_131 ?_
        refine x_getR (q := 74) dX4_readStatement_132 fd_X4_65 rfl rfl rfl ?_
        refine x_iconst dX4_readStatement_135 ⟨by decide, by decide⟩ ?_
        refine x_iload1 dX4_readStatement_136 ?_
        refine x_imul dX4_readStatement_137 (v := ((4 * k : Nat) : Int)) ((nrm_id (by omega) (by omega)).trans (by omega)) ?_
        refine x_iload4 dX4_readStatement_138 ?_
        refine x_iadd dX4_readStatement_140 (v := ((4 * k + j : Nat) : Int)) ((nrm_id (by omega) (by omega)).trans (by omega)) ?_
        refine x_aload0 dX4_readStatement_141 ?_
        refine x_callv0 dX4_readStatement_142 cv_X4_172 ci_X4_readDigit rfl (T := TX4) rfl (by omega) (Nat.le_of_ble_eq_true rfl) (t_readDigit hF2 (by omega) hT.2 (Or.inl rfl)) (fun r m3 hq => ?_)
        obtain ⟨⟨-, h, rfl, hF3⟩ | ⟨h, rfl, hF3⟩, hB⟩ := hq
        · show Ex _ _ _ _ _ _ _ _ [zi (dat T (p + 1 + j)), zi ((4 * k + j : Nat) : Int), zr 74] _
          refine x_iast dX4_readStatement_145 rfl (by omega) (by omega) ?_
          refine x_iinc4 dX4_readStatement_146 (by decide) rfl (nrm_id (by omega) (by omega)) ?_
          refine x_goto (tgt := 125) dX4_readStatement_149 rfl ?_
          refine Ex.eq (by push_cast; rfl) rfl rfl (ih (j + 1) _ (by omega) (fun i hi => ?_) ?_ ((hS2.b hB).c (Or.inr ⟨rfl, by omega⟩)) ?_ ?_ (fun i hi => ?_))
          · by_cases hij : i = j
            · subst hij; exact h
            · exact hdg i (by omega)
          · rw [show p + 1 + ((j + 1 : Nat) : Int) = p + 1 + (j : Int) + 1 by omega]
            exact hF3.cel (by decide) (by decide)
          · rw [up_cell (by decide), hB.1 72 (by decide)]; exact h72
          · rw [up_cell (by decide), hB.1 73 (by decide)]; exact h73
          · by_cases hij : i = j
            · subst hij
              exact up_same _ _ _ _
            · rw [upn (by omega), hB.1 74 (by decide)]
              exact h74 i (by omega)
        · have hneg : dat T (p + 1 + j) < 0 := by omega
          have hdj : dbh T p = j := hdb.trans (dgs_eq M' j (p + 1) (fun i hi => hdg i hi) (by omega) (fun _ => hneg))
          have e : p + 1 + (j : Int) = PB T p := by
            unfold PB
            rw [if_neg (by omega), hdj]
            omega
          rw [e] at hF3
          show Ex _ _ _ _ _ _ _ _ [zi 0, zi ((4 * k + j : Nat) : Int), zr 74] _
          refine x_iast dX4_readStatement_145 rfl (by omega) (by omega) ?_
          refine x_iinc4 dX4_readStatement_146 (by decide) rfl (nrm_id (by omega) (by omega)) ?_
          refine x_goto (tgt := 125) dX4_readStatement_149 rfl ?_
          exact Ex.eq (by push_cast; rfl) rfl rfl (lbad c M hM (Or.inr (Or.inl (by omega))) q (j + 1) _ (by omega) (hF3.cel (by decide) (by decide)) ((hS2.b hB).c (Or.inr ⟨rfl, by omega⟩)))
  refine x_aload0 dX4_readStatement_0 ?_
  refine x_getI dX4_readStatement_1 fd_X4_169 rfl (Or.inl rfl) (v := (k : Int)) hF.2.2.2.2 ?_
  refine x_istore1 dX4_readStatement_4 (by decide) rfl ?_
  refine x_aload0 dX4_readStatement_5 ?_
  refine x_callv0 dX4_readStatement_6 cv_X4_162 ci_X4_here rfl (T := TX4) rfl (by omega) (Nat.le_of_ble_eq_true rfl) (t_here hF hp hT.2) (fun r m1 hq => ?_)
  obtain ⟨rfl, rfl⟩ := hq
  show Ex _ _ _ _ _ _ _ _ [zi (hr T p)] _
  refine x_istore2 dX4_readStatement_9 (by decide) rfl ?_
  refine x_aload0 dX4_readStatement_10 ?_
  refine x_getR (q := 72) dX4_readStatement_11 fd_X4_59 rfl rfl rfl ?_
  refine x_iload1 dX4_readStatement_14 ?_
  refine x_aload0 dX4_readStatement_15 ?_
  refine x_getI dX4_readStatement_16 fd_X4_156 rfl (Or.inl rfl) (v := p) hF.2.2.1 ?_
  refine x_iast dX4_readStatement_19 rfl (by omega) (by omega) ?_
  refine x_aload0 dX4_readStatement_20 ?_
  refine x_getR (q := 73) dX4_readStatement_21 fd_X4_62 rfl rfl rfl ?_
  refine x_iload1 dX4_readStatement_24 ?_
  refine x_iload2 dX4_readStatement_25 ?_
  refine x_iast dX4_readStatement_26 rfl (by omega) (by omega) ?_
  have hF2 : FM (up (up m1 72 (k : Int).toNat p) 73 (k : Int).toNat (hr T p)) T p 0 (k : Int) := (hF.cel (by decide) (by decide)).cel (by decide) (by decide)
  have hS2 : Fsr k m1 (up (up m1 72 (k : Int).toNat p) 73 (k : Int).toNat (hr T p)) := (Fsr.rf.c (Or.inl ⟨Or.inl rfl, by omega⟩)).c (Or.inl ⟨Or.inr rfl, by omega⟩)
  have h72 : up (up m1 72 (k : Int).toNat p) 73 (k : Int).toNat (hr T p) 72 k = p := by rw [up_cell (by decide)]; exact up_same _ _ _ _
  have h73 : up (up m1 72 (k : Int).toNat p) 73 (k : Int).toNat (hr T p) 73 k = hr T p := up_same _ _ _ _
  generalize up (up m1 72 (k : Int).toNat p) 73 (k : Int).toNat (hr T p) = m2 at hF2 hS2 h72 h73
  have hlat := hr_lat (T := T) hp
  -- a letter that is none
  have unk : hr T p ≠ 110 → hr T p ≠ 104 → hr T p ≠ 116 → hr T p ≠ 114 → hr T p ≠ 101 → Ex E cX4_readStatement 5 RX4 3 (RSq m1 T p k) 65 [some (zr 59), some (zi (k : Int)), some (zi (hr T p)), none, none] [zr 59] m2 := by
    intro n1 n2 n3 n4 n5
    have hl0 : ldg (lat T p) = 0 := by
      unfold ldg
      rw [if_neg (by omega), if_neg (by omega), if_neg (by omega), if_neg (by omega), if_neg (by omega)]
    have e : PB T p = p := if_pos hl0
    refine x_iconst dX4_readStatement_65 ⟨by decide, by decide⟩ ?_
    refine x_goto (tgt := 70) dX4_readStatement_66 rfl ?_
    refine x_putZ dX4_readStatement_70 fd_X4_159 rfl rfl (by omega) ?_
    refine x_aload0 dX4_readStatement_73 ?_
    refine x_dupr dX4_readStatement_74 ?_
    refine x_getI dX4_readStatement_75 fd_X4_156 rfl (Or.inl rfl) (v := p) (by rw [upn (by decide)]; exact hF2.2.2.1) ?_
    refine x_aload0 dX4_readStatement_78 ?_
    refine x_getI dX4_readStatement_79 fd_X4_159 rfl (Or.inr rfl) (v := 1) (up_same _ _ _ _) ?_
    refine x_if_eq (tgt := 89) dX4_readStatement_82 rfl (fun c1 => ?_) (fun c1 => ?_)
    · omega
    · refine x_iconst dX4_readStatement_85 ⟨by decide, by decide⟩ ?_
      refine x_goto (tgt := 90) dX4_readStatement_86 rfl ?_
      refine x_iadd dX4_readStatement_90 (v := p) ((nrm_id (by omega) (by omega)).trans (by omega)) ?_
      refine x_putI dX4_readStatement_91 fd_X4_156 rfl rfl ?_
      refine x_iload2 dX4_readStatement_94 ?_
      refine x_bipush dX4_readStatement_95 ⟨by decide, by decide⟩ ?_
      refine x_icmp_ne (tgt := 104) dX4_readStatement_97 rfl (fun c2 => ?_) (fun c2 => ?_)
      · refine x_iload2 dX4_readStatement_104 ?_
        refine x_bipush dX4_readStatement_105 ⟨by decide, by decide⟩ ?_
        refine x_icmp_eq (tgt := 116) dX4_readStatement_107 rfl (fun c3 => ?_) (fun c3 => ?_)
        · omega
        · refine x_iload2 dX4_readStatement_110 ?_
          refine x_bipush dX4_readStatement_111 ⟨by decide, by decide⟩ ?_
          refine x_icmp_ne (tgt := 120) dX4_readStatement_113 rfl (fun c4 => ?_) (fun c4 => ?_)
          · refine x_iconst dX4_readStatement_120 ⟨by decide, by decide⟩ ?_
            refine x_istore3 dX4_readStatement_121 (by decide) rfl ?_
            refine x_iconst dX4_readStatement_122 ⟨by decide, by decide⟩ ?_
            refine x_istore4 dX4_readStatement_123 (by decide) rfl ?_
            exact lbad _ 1 (by decide) (Or.inl hl0) 1 0 _ rfl (by rw [e]; exact hF2.bad.at_) ((hS2.f (by omega)).f (by omega))
          · omega
      · omega
  -- a letter that is one
  have kno : ∀ (M M' : Nat), M ≤ 4 → M ≤ M' → ldg (hr T p) = M → M ≠ 0 → lat T p = hr T p → dbh T p = dgs T M' (p + 1) →
      (∀ m3, FM m3 T (p + 1) 0 (k : Int) → Fsr k m1 m3 → m3 72 k = p → m3 73 k = hr T p → Ex E cX4_readStatement 5 RX4 3 (RSq m1 T p k) 125 [some (zr 59), some (zi (k : Int)), some (zi (hr T p)), some (zi (M : Int)), some (zi 0)] [] m3) →
      Ex E cX4_readStatement 5 RX4 3 (RSq m1 T p k) 69 [some (zr 59), some (zi (k : Int)), some (zi (hr T p)), none, none] [zr 59] m2 := by
    intro M M' hM hMM hl hM0 hlh hdb kk
    refine x_iconst dX4_readStatement_69 ⟨by decide, by decide⟩ ?_
    refine x_putZ dX4_readStatement_70 fd_X4_159 rfl rfl (by omega) ?_
    refine x_aload0 dX4_readStatement_73 ?_
    refine x_dupr dX4_readStatement_74 ?_
    refine x_getI dX4_readStatement_75 fd_X4_156 rfl (Or.inl rfl) (v := p) (by rw [upn (by decide)]; exact hF2.2.2.1) ?_
    refine x_aload0 dX4_readStatement_78 ?_
    refine x_getI dX4_readStatement_79 fd_X4_159 rfl (Or.inr rfl) (v := 0) (up_same _ _ _ _) ?_
    refine x_if_eq (tgt := 89) dX4_readStatement_82 rfl (fun c1 => ?_) (fun c1 => ?_)
    · refine x_iconst dX4_readStatement_89 ⟨by decide, by decide⟩ ?_
      refine x_iadd dX4_readStatement_90 (nrm_id (by omega) (by omega)) ?_
      refine x_putI dX4_readStatement_91 fd_X4_156 rfl rfl ?_
      refine x_iload2 dX4_readStatement_94 ?_
      refine x_bipush dX4_readStatement_95 ⟨by decide, by decide⟩ ?_
      have hF3 := (hF2.bad (x := 0)).at_ (x := p + 1)
      have hS3 := (hS2.f (j := 31) (x := 0) (by omega)).f (j := 30) (x := p + 1) (by omega)
      have g72 : up (up m2 59 31 0) 59 30 (p + 1) 72 k = p := by rw [up_cell (by decide), up_cell (by decide)]; exact h72
      have g73 : up (up m2 59 31 0) 59 30 (p + 1) 73 k = hr T p := by rw [up_cell (by decide), up_cell (by decide)]; exact h73
      have go := kk _ hF3 hS3 g72 g73
      refine x_icmp_ne (tgt := 104) dX4_readStatement_97 rfl (fun c2 => ?_) (fun c2 => ?_)
      · refine x_iload2 dX4_readStatement_104 ?_
        refine x_bipush dX4_readStatement_105 ⟨by decide, by decide⟩ ?_
        refine x_icmp_eq (tgt := 116) dX4_readStatement_107 rfl (fun c3 => ?_) (fun c3 => ?_)
        · rw [c3] at hl
          obtain rfl : M = 2 := hl.symm
          refine x_iconst dX4_readStatement_116 ⟨by decide, by decide⟩ ?_
          refine x_goto (tgt := 121) dX4_readStatement_117 rfl ?_
          refine x_istore3 dX4_readStatement_121 (by decide) rfl ?_
          refine x_iconst dX4_readStatement_122 ⟨by decide, by decide⟩ ?_
          refine x_istore4 dX4_readStatement_123 (by decide) rfl ?_
          exact go
        · refine x_iload2 dX4_readStatement_110 ?_
          refine x_bipush dX4_readStatement_111 ⟨by decide, by decide⟩ ?_
          refine x_icmp_ne (tgt := 120) dX4_readStatement_113 rfl (fun c4 => ?_) (fun c4 => ?_)
          · have hl1 : M = 1 := by
              unfold ldg at hl
              rw [if_neg (by omega), if_neg (by omega), if_neg (by omega)] at hl
              split at hl
              · omega
              · split at hl <;> omega
            subst hl1
            refine x_iconst dX4_readStatement_120 ⟨by decide, by decide⟩ ?_
            refine x_istore3 dX4_readStatement_121 (by decide) rfl ?_
            refine x_iconst dX4_readStatement_122 ⟨by decide, by decide⟩ ?_
            refine x_istore4 dX4_readStatement_123 (by decide) rfl ?_
            exact go
          · rw [show hr T p = 101 by omega] at hl
            obtain rfl : M = 2 := hl.symm
            refine x_iconst dX4_readStatement_116 ⟨by decide, by decide⟩ ?_
            refine x_goto (tgt := 121) dX4_readStatement_117 rfl ?_
            refine x_istore3 dX4_readStatement_121 (by decide) rfl ?_
            refine x_iconst dX4_readStatement_122 ⟨by decide, by decide⟩ ?_
            refine x_istore4 dX4_readStatement_123 (by decide) rfl ?_
            exact go
      · rw [show hr T p = 110 by omega] at hl
        obtain rfl : M = 4 := hl.symm
        refine x_iconst dX4_readStatement_100 ⟨by decide, by decide⟩ ?_
        refine x_goto (tgt := 121) dX4_readStatement_101 rfl ?_
        refine x_istore3 dX4_readStatement_121 (by decide) rfl ?_
        refine x_iconst dX4_readStatement_122 ⟨by decide, by decide⟩ ?_
        refine x_istore4 dX4_readStatement_123 (by decide) rfl ?_
        exact go
    · omega
  -- digits of all but t
  have rest : ∀ M : Nat, M ≤ 4 → M ≠ 0 → ldg (hr T p) = M → hr T p ≠ 116 → lat T p = hr T p → Ex E cX4_readStatement 5 RX4 3 (RSq m1 T p k) 69 [some (zr 59), some (zi (k : Int)), some (zi (hr T p)), none, none] [zr 59] m2 := by
    intro M hM hM0 hl hnt hlh
    have hdb : dbh T p = dgs T M (p + 1) := by rw [dbh, if_neg (by omega), hlh, hl]
    refine kno M M hM (Nat.le_refl _) hl hM0 hlh hdb (fun m3 hF3 hS3 g72 g73 => ?_)
    refine lgood (hr T p) M M hM (Nat.le_refl _) (by rw [hlh]; exact hl) hM0 hdb (fun m4 hdg hF4 hS4 k72 k73 k74 => ?_) M 0 m3 (by omega) (fun i hi => by omega) (by rw [show p + 1 + ((0 : Nat) : Int) = p + 1 by omega]; exact hF3) hS3 g72 g73 (fun i hi => by omega)
    have hdM : dbh T p = M := hdb.trans (dgs_eq M M (p + 1) hdg (Nat.le_refl _) (fun h => by omega))
    have hw : wfs T p := ⟨by rw [hlh, hl]; exact hM0, by rw [hlh, hl, hdM]; exact Nat.le_refl _⟩
    have hsr : SR m4 T p k := ⟨k72, by rw [hlh]; exact k73, fun _ i hi => k74 i (by omega), fun h => by omega⟩
    refine x_aload0 dX4_readStatement_152 ?_
    refine x_getI dX4_readStatement_153 fd_X4_159 rfl (Or.inr rfl) (v := 0) hF4.2.2.2.1 ?_
    refine x_if_ne (tgt := 206) dX4_readStatement_156 rfl (fun d2 => ?_) (fun d2 => ?_)
    · omega
    · refine x_iload2 dX4_readStatement_159 ?_
      refine x_bipush dX4_readStatement_160 ⟨by decide, by decide⟩ ?_
      refine x_icmp_ne (tgt := 206) dX4_readStatement_162 rfl (fun d3 => ?_) (fun d3 => ?_)
      · exact tgood _ _ _ _ _ hw (by rw [hdM, show p + (M : Int) + 1 = p + 1 + M by omega]; exact hF4) hS4 hsr
      · omega
  have ott : hr T p = 116 → lat T p = hr T p → Ex E cX4_readStatement 5 RX4 3 (RSq m1 T p k) 69 [some (zr 59), some (zi (k : Int)), some (zi (hr T p)), none, none] [zr 59] m2 := by
    intro ht hlh
    have hl : ldg (hr T p) = 1 := by rw [ht]; rfl
    have hdb : dbh T p = dgs T 2 (p + 1) := by rw [dbh, if_pos (by omega)]
    refine kno 1 2 (by decide) (by decide) hl (by decide) hlh hdb (fun m3 hF3 hS3 g72 g73 => ?_)
    refine lgood (hr T p) 1 2 (by decide) (by decide) (by rw [hlh]; exact hl) (by decide) hdb (fun m4 hdg hF4 hS4 k72 k73 k74 => ?_) 1 0 m3 (by omega) (fun i hi => by omega) (by rw [show p + 1 + ((0 : Nat) : Int) = p + 1 by omega]; exact hF3) hS3 g72 g73 (fun i hi => by omega)
    have e2 : p + 1 + ((1 : Nat) : Int) = p + 2 := by omega
    rw [e2] at hF4
    have hg0 := hdg 0 (by decide)
    rw [show p + 1 + ((0 : Nat) : Int) = p + 1 by omega] at hg0
    have hk0 := k74 0 (by decide)
    rw [show p + 1 + ((0 : Nat) : Int) = p + 1 by omega, Nat.add_zero] at hk0
    refine x_aload0 dX4_readStatement_152 ?_
    refine x_getI dX4_readStatement_153 fd_X4_159 rfl (Or.inr rfl) (v := 0) hF4.2.2.2.1 ?_
    refine x_if_ne (tgt := 206) dX4_readStatement_156 rfl (fun d2 => ?_) (fun d2 => ?_)
    · omega
    · refine x_iload2 dX4_readStatement_159 ?_
      refine x_bipush dX4_readStatement_160 ⟨by decide, by decide⟩ ?_
      refine x_icmp_ne (tgt := 206) dX4_readStatement_162 rfl (fun d3 => ?_) (fun d3 => ?_)
      · omega
      · refine x_aload0 dX4_readStatement_165 ?_
        refine x_callv0 dX4_readStatement_166 cv_X4_162 ci_X4_here rfl (T := TX4) rfl (by omega) (Nat.le_of_ble_eq_true rfl) (t_here hF4 (by omega) hT.2) (fun r m5 hq => ?_)
        obtain ⟨rfl, rfl⟩ := hq
        show Ex _ _ _ _ _ _ _ _ [zi (hr T (p + 2))] _
        refine x_i2l dX4_readStatement_169 ?_
        refine x_ldc2 (v := 48) dX4_readStatement_170 ⟨by decide, by decide⟩ ctl_X4_165 ?_
        refine x_ldc2 (v := 57) dX4_readStatement_173 ⟨by decide, by decide⟩ ctl_X4_167 ?_
        refine x_calls3 dX4_readStatement_176 cv_X4_80 cs_X4_in (by omega) (Nat.le_of_ble_eq_true rfl) (t_in) (fun r m6 hq => ?_)
        obtain ⟨rfl, rfl⟩ := hq
        show Ex _ _ _ _ _ _ _ _ [zi (if (48 : Int) ≤ hr T (p + 2) ∧ hr T (p + 2) ≤ 57 then 1 else 0)] _
        by_cases hd : 0 ≤ dat T (p + 2)
        · rw [if_pos ((hr_dat (by omega)).mpr hd)]
          have hd2 : dbh T p = 2 := hdb.trans (dgs_eq 2 2 (p + 1) (fun i hi => by
            by_cases h0 : i = 0
            · subst h0; exact hdg 0 (by decide)
            · obtain rfl : i = 1 := by omega
              rw [e2]; exact hd) (by decide) (fun h => by omega))
          have hdb0 := dat_bd (T := T) (p + 1)
          have hdb1 := dat_bd (T := T) (p + 2)
          refine x_if_eq (tgt := 206) dX4_readStatement_179 rfl (fun d4 => ?_) (fun d4 => ?_)
          · omega
          · refine x_aload0 dX4_readStatement_182 ?_
            refine x_getR (q := 74) dX4_readStatement_183 fd_X4_65 rfl rfl rfl ?_
            refine x_iconst dX4_readStatement_186 ⟨by decide, by decide⟩ ?_
            refine x_iload1 dX4_readStatement_187 ?_
            refine x_imul dX4_readStatement_188 (v := ((4 * k : Nat) : Int)) ((nrm_id (by omega) (by omega)).trans (by omega)) ?_
            refine x_bipush dX4_readStatement_189 ⟨by decide, by decide⟩ ?_
            refine x_aload0 dX4_readStatement_191 ?_
            refine x_getR (q := 74) dX4_readStatement_192 fd_X4_65 rfl rfl rfl ?_
            refine x_iconst dX4_readStatement_195 ⟨by decide, by decide⟩ ?_
            refine x_iload1 dX4_readStatement_196 ?_
            refine x_imul dX4_readStatement_197 (v := ((4 * k : Nat) : Int)) ((nrm_id (by omega) (by omega)).trans (by omega)) ?_
            refine x_iald dX4_readStatement_198 rfl (by omega) (by omega) (v := dat T (p + 1)) hk0 ?_
            refine x_imul dX4_readStatement_199 (nrm_id (by omega) (by omega)) ?_
            refine x_aload0 dX4_readStatement_200 ?_
            refine x_callv0 dX4_readStatement_201 cv_X4_172 ci_X4_readDigit rfl (T := TX4) rfl (by omega) (Nat.le_of_ble_eq_true rfl) (t_readDigit hF4 (by omega) hT.2 (Or.inl rfl)) (fun r m7 hq => ?_)
            obtain ⟨⟨-, -, rfl, hF7⟩ | ⟨h, -⟩, hB⟩ := hq
            · show Ex _ _ _ _ _ _ _ _ [zi (dat T (p + 2)), zi (10 * dat T (p + 1)), zi ((4 * k : Nat) : Int), zr 74] _
              refine x_iadd dX4_readStatement_204 (nrm_id (by omega) (by omega)) ?_
              refine x_iast dX4_readStatement_205 rfl (by omega) (by omega) ?_
              have hw : wfs T p := ⟨by rw [hlh, hl]; decide, by rw [hlh, hl, hd2]; decide⟩
              refine tgood _ _ _ _ _ hw (by rw [hd2, show p + ((2 : Nat) : Int) + 1 = p + 2 + 1 by omega]; exact hF7.cel (by decide) (by decide)) ((hS4.b hB).c (Or.inr ⟨rfl, by omega⟩)) ⟨?_, ?_, fun h => by omega, fun _ => ?_⟩
              · rw [up_cell (by decide), hB.1 72 (by decide)]; exact k72
              · rw [up_cell (by decide), hB.1 73 (by decide), hlh]; exact k73
              · rw [if_neg (by omega)]
                exact up_same _ _ _ _
            · omega
        · rw [if_neg (fun h => hd ((hr_dat (by omega)).mp h))]
          have hd1 : dbh T p = 1 := hdb.trans (dgs_eq 2 1 (p + 1) hdg (by decide) (fun _ => by rw [e2]; omega))
          refine x_if_eq (tgt := 206) dX4_readStatement_179 rfl (fun d4 => ?_) (fun d4 => ?_)
          · have hw : wfs T p := ⟨by rw [hlh, hl]; decide, by rw [hlh, hl, hd1]; decide⟩
            refine tgood _ _ _ _ _ hw (by rw [hd1, show p + ((1 : Nat) : Int) + 1 = p + 2 by omega]; exact hF4) hS4 ⟨k72, by rw [hlh]; exact k73, fun h => by omega, fun _ => ?_⟩
            rw [if_pos hd1]
            exact hk0
          · omega
  refine x_aload0 dX4_readStatement_27 ?_
  refine x_aload0 dX4_readStatement_28 ?_
  refine x_getI dX4_readStatement_29 fd_X4_159 rfl (Or.inr rfl) (v := 0) hF2.2.2.2.1 ?_
  refine x_if_ne (tgt := 65) dX4_readStatement_32 rfl (fun c0 => ?_) (fun c0 => ?_)
  · omega
  · refine x_iload2 dX4_readStatement_35 ?_
    refine x_bipush dX4_readStatement_36 ⟨by decide, by decide⟩ ?_
    refine x_icmp_eq (tgt := 69) dX4_readStatement_38 rfl (fun c1 => ?_) (fun c1 => ?_)
    · exact rest 4 (by decide) (by decide) (by rw [c1]; rfl) (by omega) (hr_eq hp (by omega))
    · refine x_iload2 dX4_readStatement_41 ?_
      refine x_bipush dX4_readStatement_42 ⟨by decide, by decide⟩ ?_
      refine x_icmp_eq (tgt := 69) dX4_readStatement_44 rfl (fun c2 => ?_) (fun c2 => ?_)
      · exact rest 2 (by decide) (by decide) (by rw [c2]; rfl) (by omega) (hr_eq hp (by omega))
      · refine x_iload2 dX4_readStatement_47 ?_
        refine x_bipush dX4_readStatement_48 ⟨by decide, by decide⟩ ?_
        refine x_icmp_eq (tgt := 69) dX4_readStatement_50 rfl (fun c3 => ?_) (fun c3 => ?_)
        · exact ott c3 (hr_eq hp (by omega))
        · refine x_iload2 dX4_readStatement_53 ?_
          refine x_bipush dX4_readStatement_54 ⟨by decide, by decide⟩ ?_
          refine x_icmp_eq (tgt := 69) dX4_readStatement_56 rfl (fun c4 => ?_) (fun c4 => ?_)
          · exact rest 1 (by decide) (by decide) (by rw [c4]; rfl) (by omega) (hr_eq hp (by omega))
          · refine x_iload2 dX4_readStatement_59 ?_
            refine x_bipush dX4_readStatement_60 ⟨by decide, by decide⟩ ?_
            refine x_icmp_eq (tgt := 69) dX4_readStatement_62 rfl (fun c5 => ?_) (fun c5 => ?_)
            · exact rest 2 (by decide) (by decide) (by rw [c5]; rfl) (by omega) (hr_eq hp (by omega))
            · exact unk c1 c2 c3 c4 c5
end RM16
