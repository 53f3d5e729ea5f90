section RM16
variable {E : zz_E} {m : zz_M} {s : zz_S} {T V W : zz_W} {D : Int}
/-- the letter here, -1 if there is none -/
def hr (T : zz_W) (p : Int) : Int := if p < T 0 0 then T 1 p else -1
theorem hr_lat {p : Int} (h0 : 0 ≤ p) : hr T p = lat T p ∨ (hr T p = -1 ∧ lat T p = -9) := by
  unfold hr lat
  by_cases h : p < T 0 0
  · rw [if_pos h, if_pos ⟨h0, h⟩]; exact Or.inl rfl
  · rw [if_neg h, if_neg (by omega)]; exact Or.inr ⟨rfl, rfl⟩
theorem hr_dat {p : Int} (h0 : 0 ≤ p) : (48 ≤ hr T p ∧ hr T p ≤ 57) ↔ 0 ≤ dat T p := by
  rcases hr_lat (T := T) h0 with h | ⟨h1, h2⟩
  · unfold dat
    rw [← h]
    split <;> omega
  · unfold dat
    rw [h1, h2]
    split <;> omega
theorem dat_lat {p : Int} (h : 0 ≤ dat T p) : dat T p = lat T p - 48 ∧ 0 ≤ p ∧ p < T 0 0 ∧ lat T p = T 1 p := by
  unfold dat at h ⊢
  split at h
  · rename_i h1
    rw [if_pos h1]
    unfold lat at h1 ⊢
    by_cases h2 : 0 ≤ p ∧ p < T 0 0
    · rw [if_pos h2]
      exact ⟨rfl, h2.1, h2.2, rfl⟩
    · rw [if_neg h2] at h1
      omega
  · omega
theorem dgs_eq : ∀ (k d : Nat) (p : Int), (∀ j : Nat, j < d → 0 ≤ dat T (p + j)) → d ≤ k → (d < k → dat T (p + d) < 0) → dgs T k p = d
  | 0, d, p, _, h2, _ => by
    have : d = 0 := by omega
    subst this
    rfl
  | k + 1, d, p, h1, h2, h3 => by
    unfold dgs
    match d, h1, h2, h3 with
    | 0, h1, h2, h3 =>
      have := h3 (by omega)
      rw [show p + ((0 : Nat) : Int) = p by omega] at this
      rw [if_neg (by omega)]
    | d + 1, h1, h2, h3 =>
      have h4 := h1 0 (by omega)
      rw [show p + ((0 : Nat) : Int) = p by omega] at h4
      rw [if_pos h4, dgs_eq k d (p + 1) (fun j hj => by have := h1 (j + 1) (by omega); rwa [show p + ((j + 1 : Nat) : Int) = p + 1 + j by omega] at this) (by omega) (fun hd => by have := h3 (by omega); rwa [show p + ((d + 1 : Nat) : Int) = p + 1 + d by omega] at this)]
/-- reading: the letters, the place, whether it is bad, how many statements -/
def FM (m : zz_M) (T : zz_W) (p b k : Int) : Prop := m 59 29 = T 0 0 ∧ (∀ z : Int, 0 ≤ z → z < 80 → m 71 z.toNat = T 1 z) ∧ m 59 30 = p ∧ m 59 31 = b ∧ m 59 32 = k
theorem FM.at_ {p b k x : Int} (h : FM m T p b k) : FM (up m 59 30 x) T x b k := by
  obtain ⟨h1, h2, h3, h4, h5⟩ := h
  exact ⟨by rw [upn (by decide)]; exact h1, fun z a c => by rw [up_cell (by decide)]; exact h2 z a c, up_same _ _ _ _, by rw [upn (by decide)]; exact h4, by rw [upn (by decide)]; exact h5⟩
theorem FM.bad {p b k x : Int} (h : FM m T p b k) : FM (up m 59 31 x) T p x k := by
  obtain ⟨h1, h2, h3, h4, h5⟩ := h
  exact ⟨by rw [upn (by decide)]; exact h1, fun z a c => by rw [up_cell (by decide)]; exact h2 z a c, by rw [upn (by decide)]; exact h3, up_same _ _ _ _, by rw [upn (by decide)]; exact h5⟩
theorem FM.stm {p b k x : Int} (h : FM m T p b k) : FM (up m 59 32 x) T p b x := by
  obtain ⟨h1, h2, h3, h4, h5⟩ := h
  exact ⟨by rw [upn (by decide)]; exact h1, fun z a c => by rw [up_cell (by decide)]; exact h2 z a c, by rw [upn (by decide)]; exact h3, by rw [upn (by decide)]; exact h4, up_same _ _ _ _⟩
theorem FM.cel {p b k x : Int} {q j : Nat} (h : FM m T p b k) (h1 : q ≠ 59) (h2 : q ≠ 71) : FM (up m q j x) T p b k := by
  obtain ⟨g1, g2, g3, g4, g5⟩ := h
  unfold FM
  rw [up_cell (Ne.symm h1), up_cell (Ne.symm h2)]
  exact ⟨g1, g2, g3, g4, g5⟩
theorem t_here {p b k : Int} (hF : FM m T p b k) (hp : 0 ≤ p) (hT : T 0 0 ≤ 80) : Mt E 1 yX4_here cX4_here 1 (some .int) [zr 59] m (ans (some (zi (hr T p))) m) := by
  refine Mt.of 0 (by decide +kernel) (Nat.le_of_ble_eq_true rfl) (Or.inl rfl) ?_ ?_
  · rintro r m' ⟨rfl, rfl⟩; simp
  show Ex E cX4_here 1 RX4 1 _ 0 [some (zr 59)] [] m
  refine x_aload0 dX4_here_0 ?_
  refine x_getI dX4_here_1 fd_X4_156 rfl (Or.inl rfl) (v := p) hF.2.2.1 ?_
  refine x_aload0 dX4_here_4 ?_
  refine x_getI dX4_here_5 fd_X4_153 rfl (Or.inl rfl) (v := T 0 0) hF.1 ?_
  refine x_icmp_ge (tgt := 23) dX4_here_8 rfl (fun c1 => ?_) (fun c1 => ?_)
  · refine x_iconst dX4_here_23 ⟨by decide, by decide⟩ ?_
    exact xe_i dX4_here_24 (⟨by rw [hr, if_neg (by omega)], rfl⟩)
  · refine x_aload0 dX4_here_11 ?_
    refine x_getR (q := 71) dX4_here_12 fd_X4_56 rfl rfl rfl ?_
    refine x_aload0 dX4_here_15 ?_
    refine x_getI dX4_here_16 fd_X4_156 rfl (Or.inl rfl) (v := p) hF.2.2.1 ?_
    refine x_iald dX4_here_19 rfl (by omega) (by omega) (v := T 1 p) (hF.2.1 p hp (by omega)) ?_
    refine x_goto (tgt := 24) dX4_here_20 rfl ?_
    exact xe_i dX4_here_24 (⟨by rw [hr, if_pos c1], rfl⟩)
/-- only the place and whether it is bad change -/
def Fb (m m' : zz_M) : Prop := (∀ q, q ≠ 59 → m' q = m q) ∧ ∀ j, j ≠ 30 → j ≠ 31 → m' 59 j = m 59 j
theorem t_readDigit {p b k : Int} (hF : FM m T p b k) (hp : 0 ≤ p) (hT : T 0 0 ≤ 80) (hb : b = 0 ∨ b = 1) : Mt E 2 yX4_readDigit cX4_readDigit 1 (some .int) [zr 59] m (fun r m' => ((b = 0 ∧ 0 ≤ dat T p ∧ r = some (zi (dat T p)) ∧ FM m' T (p + 1) 0 k) ∨ ((b = 1 ∨ dat T p < 0) ∧ r = some (zi 0) ∧ FM m' T p 1 k)) ∧ Fb m m') := by
  refine Mt.of 0 (by decide +kernel) (Nat.le_of_ble_eq_true rfl) (Or.inl rfl) ?_ ?_
  · rintro r m' ⟨⟨-, -, rfl, -⟩ | ⟨-, rfl, -⟩, -⟩ <;> simp
  show Ex E cX4_readDigit 1 RX4 2 _ 0 [some (zr 59)] [] m
  have bad : (b = 1 ∨ dat T p < 0) → Ex E cX4_readDigit 1 RX4 2 (fun r m' => ((b = 0 ∧ 0 ≤ dat T p ∧ r = some (zi (dat T p)) ∧ FM m' T (p + 1) 0 k) ∨ ((b = 1 ∨ dat T p < 0) ∧ r = some (zi 0) ∧ FM m' T p 1 k)) ∧ Fb m m') 25 [some (zr 59)] [zr 59] m := by
    intro h
    refine x_iconst dX4_readDigit_25 ⟨by decide, by decide⟩ ?_
    refine x_goto (tgt := 30) dX4_readDigit_26 rfl ?_
    refine x_putZ dX4_readDigit_30 fd_X4_159 rfl rfl (by omega) ?_
    refine x_aload0 dX4_readDigit_33 ?_
    refine x_getI dX4_readDigit_34 fd_X4_159 rfl (Or.inr rfl) (v := 1) (up_same _ _ _ _) ?_
    refine x_if_eq (tgt := 42) dX4_readDigit_37 rfl (fun d1 => ?_) (fun d1 => ?_)
    · omega
    · refine x_iconst dX4_readDigit_40 ⟨by decide, by decide⟩ ?_
      exact xe_i dX4_readDigit_41 (⟨Or.inr ⟨h, rfl, hF.bad⟩, fun q hq => up_cell hq, fun j _ h2 => upn h2⟩)
  refine x_aload0 dX4_readDigit_0 ?_
  refine x_aload0 dX4_readDigit_1 ?_
  refine x_getI dX4_readDigit_2 fd_X4_159 rfl (Or.inr rfl) (v := b) hF.2.2.2.1 ?_
  refine x_if_ne (tgt := 25) dX4_readDigit_5 rfl (fun c1 => ?_) (fun c1 => ?_)
  · exact bad (Or.inl (by omega))
  · refine x_aload0 dX4_readDigit_8 ?_
    refine x_callv0 dX4_readDigit_9 cv_X4_162 ci_X4_here rfl (T := TX4) rfl (by omega) (Nat.le_of_ble_eq_true rfl) (t_here hF hp hT) (fun r m1 hq => ?_)
    obtain ⟨rfl, rfl⟩ := hq
    show Ex _ _ _ _ _ _ _ _ [zi (hr T p), zr 59] _
    refine x_i2l dX4_readDigit_12 ?_
    refine x_ldc2 (v := 48) dX4_readDigit_13 ⟨by decide, by decide⟩ ctl_X4_165 ?_
    refine x_ldc2 (v := 57) dX4_readDigit_16 ⟨by decide, by decide⟩ ctl_X4_167 ?_
    refine x_calls3 dX4_readDigit_19 cv_X4_80 cs_X4_in (by omega) (Nat.le_of_ble_eq_true rfl) (t_in) (fun r m1 hq => ?_)
    obtain ⟨rfl, rfl⟩ := hq
    show Ex _ _ _ _ _ _ _ _ [zi (if (48 : Int) ≤ hr T p ∧ hr T p ≤ 57 then 1 else 0), zr 59] _
    by_cases hd : 0 ≤ dat T p
    · rw [if_pos ((hr_dat hp).mpr hd)]
      obtain ⟨g1, g2, g3, g4⟩ := dat_lat hd
      have hdb := dat_bd (T := T) p
      refine x_if_ne (tgt := 29) dX4_readDigit_22 rfl (fun c2 => ?_) (fun c2 => ?_)
      · refine x_iconst dX4_readDigit_29 ⟨by decide, by decide⟩ ?_
        refine x_putZ dX4_readDigit_30 fd_X4_159 rfl rfl (by omega) ?_
        refine x_aload0 dX4_readDigit_33 ?_
        refine x_getI dX4_readDigit_34 fd_X4_159 rfl (Or.inr rfl) (v := 0) (up_same _ _ _ _) ?_
        refine x_if_eq (tgt := 42) dX4_readDigit_37 rfl (fun d1 => ?_) (fun d1 => ?_)
        · refine x_aload0 dX4_readDigit_42 ?_
          refine x_dupr dX4_readDigit_43 ?_
          refine x_getI dX4_readDigit_44 fd_X4_156 rfl (Or.inl rfl) (v := p) (by rw [upn (by decide)]; exact hF.2.2.1) ?_
          refine x_iconst dX4_readDigit_47 ⟨by decide, by decide⟩ ?_
          refine x_iadd dX4_readDigit_48 (nrm_id (by omega) (by omega)) ?_
          refine x_putI dX4_readDigit_49 fd_X4_156 rfl rfl ?_
          refine x_aload0 dX4_readDigit_52 ?_
          refine x_getR (q := 71) dX4_readDigit_53 fd_X4_56 rfl rfl rfl ?_
          refine x_aload0 dX4_readDigit_56 ?_
          refine x_getI dX4_readDigit_57 fd_X4_156 rfl (Or.inl rfl) (v := p + 1) (up_same _ _ _ _) ?_
          refine x_iconst dX4_readDigit_60 ⟨by decide, by decide⟩ ?_
          refine x_isub dX4_readDigit_61 (nrm_id (by omega) (by omega)) ?_
          refine x_iald dX4_readDigit_62 rfl (by omega) (by omega) (v := T 1 p) (by rw [up_cell (by decide), up_cell (by decide), show p + 1 - 1 = p by omega]; exact hF.2.1 p hp (by omega)) ?_
          refine x_bipush dX4_readDigit_63 ⟨by decide, by decide⟩ ?_
          refine x_isub dX4_readDigit_65 (v := dat T p) (by rw [show T 1 p - 48 = dat T p by omega]; exact nrm_id (by omega) (by omega)) ?_
          exact xe_i dX4_readDigit_66 (⟨Or.inl ⟨c1, hd, rfl, hF.bad.at_⟩, fun q hq => by rw [up_cell hq, up_cell hq], fun j h1 h2 => by rw [upn h1, upn h2]⟩)
        · omega
      · omega
    · rw [if_neg (fun h => hd ((hr_dat hp).mp h))]
      refine x_if_ne (tgt := 29) dX4_readDigit_22 rfl (fun c2 => ?_) (fun c2 => ?_)
      · omega
      · exact bad (Or.inr (by omega))
end RM16
