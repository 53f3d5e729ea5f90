section RM3
variable {E : zz_E} {m : zz_M} {V : zz_W} {D : Int}
/-- weights alone change -/
def Fw (m m' : zz_M) : Prop := (∀ q, q ≠ 59 → q ≠ 66 → m' q = m q) ∧ ∀ s, s ≠ 19 → m' 59 s = m 59 s
theorem Fw.rf : Fw m m := ⟨fun _ _ _ => rfl, fun _ _ => rfl⟩
theorem Fw.tr {m' m'' : zz_M} (h : Fw m m') (h' : Fw m' m'') : Fw m m'' := ⟨fun q a b => (h'.1 q a b).trans (h.1 q a b), fun s a => (h'.2 s a).trans (h.2 s a)⟩
theorem Fw.fg {a b : Nat} {m' : zz_M} (h : Fw m m') : Fg a b m m' := ⟨fun q hq => h.1 q (by omega) (by omega), fun s _ h2 _ _ => h.2 s h2⟩
theorem Fw.mp {m' : zz_M} (h : Fw m m') (hM : MP m V) : MP m' V := hM.keep (fun s hs => h.2 s (by omega)) (fun k h1 h2 => h.1 k (by omega) (by omega))
theorem Fw.u66 {m' : zz_M} (h : Fw m m') {j : Nat} {x : Int} : Fw m (up m' 66 j x) := ⟨fun q a b => by rw [up_cell b]; exact h.1 q a b, fun s a => by rw [up_cell (by decide)]; exact h.2 s a⟩
theorem Fw.u19 {m' : zz_M} (h : Fw m m') {x : Int} : Fw m (up m' 59 19 x) := ⟨fun q a b => by rw [up_cell a]; exact h.1 q a b, fun s a => by rw [upn a]; exact h.2 s a⟩
theorem WP.u59 {f : Int → Int} {n x : Int} {s : Nat} (h : WP m 59 f n) : WP (up m 59 s x) 59 f n := fun z h0 h1 => by rw [up_cell (by decide)]; exact h z h0 h1
theorem WP.put6 {f : Int → Int} {j : Nat} {x : Int} (h : WP m 59 f j) (hx : x = f j) : WP (up m 66 (j : Int).toNat x) 59 f ((j + 1 : Nat) : Int) := by
  have := h.put (by omega) hx
  push_cast
  exact this
theorem t_weigh (hM : MP m V) (hI : Iv D V) {g y : Int} (hg : m 59 17 = g) (hyy : may V (gs V g) = y) (hs : sub6 (V 0 0) y) : Mt E 3 yX4_weigh cX4_weigh 3 none [zr 59] m (fun r m' => r = none ∧ WP m' 59 (wt V y) (V 0 0) ∧ m' 59 19 = wtot V y ∧ Fw m m') := by
  have hn := hI.1
  refine Mt.of 2 (by decide +kernel) (Nat.le_of_ble_eq_true rfl) (Or.inr (Or.inr (Or.inr rfl))) ?_ ?_
  · rintro r m' ⟨rfl, -⟩; simp
  show Ex E cX4_weigh 3 RX4 3 _ 0 [some (zr 59), none, none] [] m
  refine x_aload0 dX4_weigh_0 ?_
  refine x_callv0 dX4_weigh_1 cv_X4_101 ci_X4_mayBits rfl (T := TX4) rfl (by omega) (Nat.le_of_ble_eq_true rfl) (t_mayBits hM hn hg) (fun r m1 hq => ?_)
  obtain ⟨rfl, rfl⟩ := hq
  rw [hyy]
  show Ex _ _ _ _ _ _ _ _ [zi y] _
  have loop2 : ∀ (k j : Nat) (m2 : zz_M), (j : Int) + k = V 0 0 → WP m2 59 (bt y) j → m2 59 19 = smI (bt y) j → Fw m1 m2 → wsum V y = 0 → Ex E cX4_weigh 3 RX4 3 (fun r m' => r = none ∧ WP m' 59 (wt V y) (V 0 0) ∧ m' 59 19 = wtot V y ∧ Fw m1 m') 74 [some (zr 59), some (zi y), some (zi j)] [] m2 := by
    intro k
    induction k with
    | zero =>
      intro j m2 hj hW h19 hF h0
      have hM2 := hF.mp hM
      refine x_iload2 dX4_weigh_74 ?_
      refine x_aload0 dX4_weigh_75 ?_
      refine x_getI dX4_weigh_76 fd_X4_77 rfl (Or.inl rfl) (v := V 0 0) hM2.nests ?_
      refine x_icmp_ge (tgt := 114) dX4_weigh_79 rfl (fun c1 => ?_) (fun c1 => ?_)
      · have e1 : (V 0 0).toNat = j := by omega
        exact xe_v dX4_weigh_114 (⟨rfl, by rw [show V 0 0 = (j : Int) by omega]; exact hW.cg (fun z _ _ => by rw [wt, if_pos h0]), by rw [h19, wtot, if_pos h0, e1], hF⟩)
      · omega
    | succ k ih =>
      intro j m2 hj hW h19 hF h0
      have hM2 := hF.mp hM
      have hcb := cnt_bd y j ⟨hs.1, hs.2.1⟩ (by omega)
      have hb1 := bt_01 hs.1 hs.2.1 (i := j) (by omega) (by omega)
      refine x_iload2 dX4_weigh_74 ?_
      refine x_aload0 dX4_weigh_75 ?_
      refine x_getI dX4_weigh_76 fd_X4_77 rfl (Or.inl rfl) (v := V 0 0) hM2.nests ?_
      refine x_icmp_ge (tgt := 114) dX4_weigh_79 rfl (fun c1 => ?_) (fun c1 => ?_)
      · omega
      · refine x_aload0 dX4_weigh_82 ?_
        refine x_getR (q := 66) dX4_weigh_83 fd_X4_41 rfl rfl rfl ?_
        refine x_iload2 dX4_weigh_86 ?_
        refine x_iload1 dX4_weigh_87 ?_
        refine x_iload2 dX4_weigh_88 ?_
        refine x_ishr dX4_weigh_89 rfl ?_
        refine x_iconst dX4_weigh_90 ⟨by decide, by decide⟩ ?_
        refine x_iand dX4_weigh_91 (v := bt y j) rfl ?_
        refine x_iast dX4_weigh_92 rfl (by omega) (by omega) ?_
        refine x_aload0 dX4_weigh_93 ?_
        refine x_dupr dX4_weigh_94 ?_
        refine x_getI dX4_weigh_95 fd_X4_105 rfl (Or.inl rfl) (v := smI (bt y) j) (by rw [up_cell (by decide)]; exact h19) ?_
        refine x_aload0 dX4_weigh_98 ?_
        refine x_getR (q := 66) dX4_weigh_99 fd_X4_41 rfl rfl rfl ?_
        refine x_iload2 dX4_weigh_102 ?_
        refine x_iald dX4_weigh_103 rfl (by omega) (by omega) (v := bt y j) (up_same _ _ _ _) ?_
        refine x_iadd dX4_weigh_104 (nrm_id (by omega) (by omega)) ?_
        refine x_putI dX4_weigh_105 fd_X4_105 rfl rfl ?_
        refine x_iinc2 dX4_weigh_108 (by decide) rfl (nrm_id (by omega) (by omega)) ?_
        refine x_goto (tgt := 74) dX4_weigh_111 rfl ?_
        exact Ex.eq (by push_cast; rfl) rfl rfl (ih (j + 1) _ (by omega) (hW.put6 rfl).u59 (up_same _ _ _ _) hF.u66.u19 h0)
  have loop : ∀ (k j : Nat) (m2 : zz_M), (j : Int) + k = V 0 0 → WP m2 59 (wf V y) j → m2 59 19 = smI (wf V y) j → Fw m1 m2 → Ex E cX4_weigh 3 RX4 3 (fun r m' => r = none ∧ WP m' 59 (wt V y) (V 0 0) ∧ m' 59 19 = wtot V y ∧ Fw m1 m') 12 [some (zr 59), some (zi y), some (zi j)] [] m2 := by
    intro k
    induction k with
    | zero =>
      intro j m2 hj hW h19 hF
      have hM2 := hF.mp hM
      have e1 : (V 0 0).toNat = j := by omega
      have hws : wsum V y = smI (wf V y) j := by rw [wsum_eq, e1]
      refine x_iload2 dX4_weigh_12 ?_
      refine x_aload0 dX4_weigh_13 ?_
      refine x_getI dX4_weigh_14 fd_X4_77 rfl (Or.inl rfl) (v := V 0 0) hM2.nests ?_
      refine x_icmp_ge (tgt := 65) dX4_weigh_17 rfl (fun c1 => ?_) (fun c1 => ?_)
      · refine x_aload0 dX4_weigh_65 ?_
        refine x_getI dX4_weigh_66 fd_X4_105 rfl (Or.inl rfl) (v := smI (wf V y) j) h19 ?_
        refine x_if_ne (tgt := 114) dX4_weigh_69 rfl (fun c2 => ?_) (fun c2 => ?_)
        · exact xe_v dX4_weigh_114 (⟨rfl, by rw [show V 0 0 = (j : Int) by omega]; exact hW.cg (fun z _ _ => by rw [wt, if_neg (by omega)]; rfl), by rw [h19, wtot, if_neg (by omega), hws], hF⟩)
        · refine x_iconst dX4_weigh_72 ⟨by decide, by decide⟩ ?_
          refine x_istore2 dX4_weigh_73 (by decide) rfl ?_
          exact loop2 (V 0 0).toNat 0 m2 (by omega) (fun z h0 h1 => by omega) (by rw [h19, c2]; rfl) hF (by omega)
      · omega
    | succ k ih =>
      intro j m2 hj hW h19 hF
      have hM2 := hF.mp hM
      have hb1 := smI_bd (f := wf V y) (c := 101) j (fun i h0 h1 => wf_bd hI y h0 (by omega))
      have hb2 := wf_bd hI y (n := j) (by omega) (by omega)
      have rest : ∀ (x : Int), x = wf V y j → Ex E cX4_weigh 3 RX4 3 (fun r m' => r = none ∧ WP m' 59 (wt V y) (V 0 0) ∧ m' 59 19 = wtot V y ∧ Fw m1 m') 43 [some (zr 59), some (zi y), some (zi j)] [zi x, zi j, zr 66] m2 := by
        intro x hx
        subst hx
        refine x_iast dX4_weigh_43 rfl (by omega) (by omega) ?_
        refine x_aload0 dX4_weigh_44 ?_
        refine x_dupr dX4_weigh_45 ?_
        refine x_getI dX4_weigh_46 fd_X4_105 rfl (Or.inl rfl) (v := smI (wf V y) j) (by rw [up_cell (by decide)]; exact h19) ?_
        refine x_aload0 dX4_weigh_49 ?_
        refine x_getR (q := 66) dX4_weigh_50 fd_X4_41 rfl rfl rfl ?_
        refine x_iload2 dX4_weigh_53 ?_
        refine x_iald dX4_weigh_54 rfl (by omega) (by omega) (v := wf V y j) (up_same _ _ _ _) ?_
        refine x_iadd dX4_weigh_55 (nrm_id (by omega) (by omega)) ?_
        refine x_putI dX4_weigh_56 fd_X4_105 rfl rfl ?_
        refine x_iinc2 dX4_weigh_59 (by decide) rfl (nrm_id (by omega) (by omega)) ?_
        refine x_goto (tgt := 12) dX4_weigh_62 rfl ?_
        exact Ex.eq (by push_cast; rfl) rfl rfl (ih (j + 1) _ (by omega) (hW.put6 rfl).u59 (up_same _ _ _ _) hF.u66.u19)
      refine x_iload2 dX4_weigh_12 ?_
      refine x_aload0 dX4_weigh_13 ?_
      refine x_getI dX4_weigh_14 fd_X4_77 rfl (Or.inl rfl) (v := V 0 0) hM2.nests ?_
      refine x_icmp_ge (tgt := 65) dX4_weigh_17 rfl (fun c1 => ?_) (fun c1 => ?_)
      · omega
      · refine x_aload0 dX4_weigh_20 ?_
        refine x_getR (q := 66) dX4_weigh_21 fd_X4_41 rfl rfl rfl ?_
        refine x_iload2 dX4_weigh_24 ?_
        refine x_iload1 dX4_weigh_25 ?_
        refine x_iload2 dX4_weigh_26 ?_
        refine x_ishr dX4_weigh_27 rfl ?_
        refine x_iconst dX4_weigh_28 ⟨by decide, by decide⟩ ?_
        refine x_iand dX4_weigh_29 rfl ?_
        refine x_iconst dX4_weigh_30 ⟨by decide, by decide⟩ ?_
        refine x_icmp_ne (tgt := 42) dX4_weigh_31 rfl (fun c2 => ?_) (fun c2 => ?_)
        · have c2 : bt y j ≠ 1 := c2
          refine x_iconst dX4_weigh_42 ⟨by decide, by decide⟩ ?_
          exact rest 0 (by unfold wf; rw [if_neg c2])
        · have c2 : bt y j = 1 := c2
          refine x_aload0 dX4_weigh_34 ?_
          refine x_iload2 dX4_weigh_35 ?_
          refine x_callv1 dX4_weigh_36 cv_X4_108 ci_X4_rawWeight rfl (T := TX4) rfl (by omega) (Nat.le_of_ble_eq_true rfl) (t_rawWeight hM2 hI (n := j) (by omega) (by omega)) (fun r m3 hq => ?_)
          obtain ⟨rfl, rfl⟩ := hq
          show Ex _ _ _ _ _ _ _ _ [zi (raw V j), zi j, zr 66] _
          refine x_goto (tgt := 43) dX4_weigh_39 rfl ?_
          exact rest _ (by unfold wf; rw [if_pos c2])
  refine x_istore1 dX4_weigh_4 (by decide) rfl ?_
  refine x_aload0 dX4_weigh_5 ?_
  refine x_iconst dX4_weigh_6 ⟨by decide, by decide⟩ ?_
  refine x_putI dX4_weigh_7 fd_X4_105 rfl rfl ?_
  refine x_iconst dX4_weigh_10 ⟨by decide, by decide⟩ ?_
  refine x_istore2 dX4_weigh_11 (by decide) rfl ?_
  exact loop (V 0 0).toNat 0 _ (by omega) (fun z h0 h1 => by omega) (up_same _ _ _ _) Fw.rf.u19
theorem amx_val (f : Int → Int) : ∀ n : Nat, (0 ≤ (amx f n).1 → f (amx f n).1 = (amx f n).2) ∧ ((amx f n).1 < 0 → (amx f n).2 = 0)
  | 0 => by simp [amx]
  | n + 1 => by
    have h := amx_val f n
    unfold amx
    split
    · exact ⟨fun _ => rfl, fun h => by have h : (n : Int) < 0 := h; omega⟩
    · exact h
/-- the best so far, of several that weigh nothing any -/
def vb (f : Int → Int) (b : Int) : Int := if b < 0 then 0 else f b
def BB (f : Int → Int) (j : Nat) (b : Int) : Prop := -1 ≤ b ∧ b < j ∧ vb f b = (amx f j).2 ∧ (0 ≤ (amx f j).1 → b = (amx f j).1)
theorem BB.keep {f : Int → Int} {j : Nat} {b : Int} (h : BB f j b) (hf : f j ≤ vb f b) : BB f (j + 1) b := by
  obtain ⟨h1, h2, h3, h4⟩ := h
  have e : amx f (j + 1) = amx f j := by rw [amx, if_neg (by omega)]
  exact ⟨h1, by push_cast; omega, by rw [e]; exact h3, by rw [e]; exact h4⟩
theorem BB.take {f : Int → Int} {j : Nat} {b : Int} (h : BB f j b) (hf : vb f b < f j) : BB f (j + 1) j := by
  obtain ⟨h1, h2, h3, h4⟩ := h
  have e : amx f (j + 1) = ((j : Int), f j) := by rw [amx, if_pos (by omega)]
  exact ⟨by omega, by push_cast; omega, by rw [e, vb, if_neg (by omega)], fun _ => by rw [e]⟩
theorem BB.none {f : Int → Int} {j : Nat} {b : Int} (h : BB f j b) (hb : b < 0) (hf : f j = 0) : BB f (j + 1) j := by
  obtain ⟨h1, h2, h3, h4⟩ := h
  have h5 : (amx f j).2 = 0 := by rw [← h3, vb, if_pos hb]
  have e : amx f (j + 1) = amx f j := by rw [amx, if_neg (by omega)]
  exact ⟨by omega, by push_cast; omega, by rw [e, h5, vb, if_neg (by omega), hf], fun q => by rw [e] at q; have := h4 q; omega⟩
theorem wt_off {y n : Int} (h : bt y n ≠ 1) (h2 : bt y n = 0 ∨ bt y n = 1) : wt V y n = 0 := by
  unfold wt
  rw [if_neg h]
  split <;> omega
theorem t_laysAt (hM : MP m V) (hI : Iv D V) (hD : D ≤ 20000) {g : Int} (hg : m 59 17 = g) (hp : sub6 (V 0 0) (gs V g)) (hh : has (gs V g)) : Mt E 4 yX4_laysAt cX4_laysAt 6 (some .int) [zr 59] m (fun r m' => r = some (zi (lays V (gs V g))) ∧ MP m' V ∧ Fw m m') := by
  have hI2 := hI
  obtain ⟨hn, hl, hk0, hd, hk, hfg, ht, hr, hx, he, hz⟩ := hI
  have hy := may_sub hn.1 hk0 hp
  have hmh := may_has hn.1 hk0 hp hh
  have hc := cnt_pos hn hy hmh
  have hcb := cnt_bd (may V (gs V g)) (V 0 0).toNat ⟨hy.1, hy.2.1⟩ (by omega)
  have eL : lays V (gs V g) = if V 0 6 = 2 then (if smI (bt (may V (gs V g))) (V 0 0).toNat = 0 then -1 else nth (may V (gs V g)) (V 0 0).toNat 0 (irm (V 0 4 * (V 0 7 + 1)) (smI (bt (may V (gs V g))) (V 0 0).toNat))) else (amx (wt V (may V (gs V g))) (V 0 0).toNat).1 := rfl
  have hpos := amx_pos _ (wt_some hI2 hy hmh)
  refine Mt.of 5 (by decide +kernel) (Nat.le_of_ble_eq_true rfl) (Or.inl rfl) ?_ ?_
  · rintro r m' ⟨rfl, -⟩; simp
  show Ex E cX4_laysAt 6 RX4 4 _ 0 [some (zr 59), none, none, none, none, none] [] m
  refine x_aload0 dX4_laysAt_0 ?_
  refine x_callv0 dX4_laysAt_1 cv_X4_111 ci_X4_weigh rfl (T := TX4) rfl (by omega) (Nat.le_of_ble_eq_true rfl) (t_weigh hM hI2 hg rfl hy) (fun r m1 hq => ?_)
  obtain ⟨rfl, hW, -, hF⟩ := hq
  have hM1 := hF.mp hM
  show Ex _ _ _ _ _ _ _ _ [] _
  refine x_aload0 dX4_laysAt_4 ?_
  refine x_callv0 dX4_laysAt_5 cv_X4_101 ci_X4_mayBits rfl (T := TX4) rfl (by omega) (Nat.le_of_ble_eq_true rfl) (t_mayBits hM1 hn ((hF.2 17 (by decide)).trans hg)) (fun r m2 hq => ?_)
  obtain ⟨rfl, rfl⟩ := hq
  generalize may V (gs V g) = y at *
  show Ex _ _ _ _ _ _ _ _ [zi y] _
  refine x_istore1 dX4_laysAt_8 (by decide) rfl ?_
  refine x_iconst dX4_laysAt_9 ⟨by decide, by decide⟩ ?_
  refine x_istore2 dX4_laysAt_10 (by decide) rfl ?_
  refine x_iconst dX4_laysAt_11 ⟨by decide, by decide⟩ ?_
  refine x_istore3 dX4_laysAt_12 (by decide) rfl ?_
  refine x_iconst dX4_laysAt_13 ⟨by decide, by decide⟩ ?_
  refine x_istore4 dX4_laysAt_14 (by decide) rfl ?_
  have kinds : ∀ (b q : Int), BB (wt V y) (V 0 0).toNat b → Ex E cX4_laysAt 6 RX4 4 (fun r m' => r = some (zi (lays V (gs V g))) ∧ MP m' V ∧ Fw m m') 93 [some (zr 59), some (zi y), some (zi (smI (bt y) (V 0 0).toNat)), some (zi b), some (zi q), none] [] m2 := by
    intro b q hB
    refine x_aload0 dX4_laysAt_93 ?_
    refine x_getI dX4_laysAt_94 fd_X4_95 rfl (Or.inl rfl) (v := V 0 6) hM1.kind ?_
    refine x_iconst dX4_laysAt_97 ⟨by decide, by decide⟩ ?_
    refine x_icmp_eq (tgt := 103) dX4_laysAt_98 rfl (fun c1 => ?_) (fun c1 => ?_)
    · have hab : 0 ≤ V 0 4 * (V 0 7 + 1) ∧ V 0 4 * (V 0 7 + 1) ≤ 200000 := by
        refine ⟨Int.mul_nonneg hd.1 (by omega), ?_⟩
        have := Int.mul_le_mul (show V 0 4 ≤ 20000 by omega) (show V 0 7 + 1 ≤ 10 by omega) (by omega) (by decide)
        omega
      refine x_aload0 dX4_laysAt_103 ?_
      refine x_getI dX4_laysAt_104 fd_X4_114 rfl (Or.inl rfl) (v := V 0 4) hM1.day ?_
      refine x_aload0 dX4_laysAt_107 ?_
      refine x_getI dX4_laysAt_108 fd_X4_98 rfl (Or.inl rfl) (v := V 0 7) hM1.figure ?_
      refine x_iconst dX4_laysAt_111 ⟨by decide, by decide⟩ ?_
      refine x_iadd dX4_laysAt_112 (nrm_id (by omega) (by omega)) ?_
      refine x_imul dX4_laysAt_113 (nrm_id (by omega) (by omega)) ?_
      refine x_iload2 dX4_laysAt_114 ?_
      refine x_irem dX4_laysAt_115 (by omega) rfl ?_
      refine x_istore4 dX4_laysAt_116 (by decide) rfl ?_
      refine x_iconst dX4_laysAt_118 ⟨by decide, by decide⟩ ?_
      refine x_istore5 dX4_laysAt_119 (by decide) rfl ?_
      rw [eL, if_pos c1, if_neg (by omega)]
      have hk9 : 0 ≤ irm (V 0 4 * (V 0 7 + 1)) (smI (bt y) (V 0 0).toNat) ∧ irm (V 0 4 * (V 0 7 + 1)) (smI (bt y) (V 0 0).toNat) < 6 := by
        rw [irm_pos (by omega) (by omega) (by omega) (by omega)]
        have := Int.emod_nonneg (V 0 4 * (V 0 7 + 1)) (show smI (bt y) (V 0 0).toNat ≠ 0 by omega)
        have := Int.emod_lt_of_pos (V 0 4 * (V 0 7 + 1)) (show 0 < smI (bt y) (V 0 0).toNat by omega)
        omega
      generalize irm (V 0 4 * (V 0 7 + 1)) (smI (bt y) (V 0 0).toNat) = q at hk9
      have loop : ∀ (k j : Nat) (q : Int), (j : Int) + k = V 0 0 → 0 ≤ q → q < 6 → Ex E cX4_laysAt 6 RX4 4 (fun r m' => r = some (zi (nth y k j q)) ∧ MP m' V ∧ Fw m m') 121 [some (zr 59), some (zi y), some (zi (smI (bt y) (V 0 0).toNat)), some (zi b), some (zi q), some (zi j)] [] m2 := by
        intro k
        induction k with
        | zero =>
          intro j q hj hq0 hq1
          refine x_iload5 dX4_laysAt_121 ?_
          refine x_aload0 dX4_laysAt_123 ?_
          refine x_getI dX4_laysAt_124 fd_X4_77 rfl (Or.inl rfl) (v := V 0 0) hM1.nests ?_
          refine x_icmp_ge (tgt := 157) dX4_laysAt_127 rfl (fun h3 => ?_) (fun h3 => ?_)
          · refine x_iconst dX4_laysAt_157 ⟨by decide, by decide⟩ ?_
            exact xe_i dX4_laysAt_158 (⟨rfl, hM1, hF⟩)
          · omega
        | succ k ih =>
          intro j q hj hq0 hq1
          refine x_iload5 dX4_laysAt_121 ?_
          refine x_aload0 dX4_laysAt_123 ?_
          refine x_getI dX4_laysAt_124 fd_X4_77 rfl (Or.inl rfl) (v := V 0 0) hM1.nests ?_
          refine x_icmp_ge (tgt := 157) dX4_laysAt_127 rfl (fun h3 => ?_) (fun h3 => ?_)
          · omega
          · refine x_iload1 dX4_laysAt_130 ?_
            refine x_iload5 dX4_laysAt_131 ?_
            refine x_ishr dX4_laysAt_133 rfl ?_
            refine x_iconst dX4_laysAt_134 ⟨by decide, by decide⟩ ?_
            refine x_iand dX4_laysAt_135 rfl ?_
            refine x_iconst dX4_laysAt_136 ⟨by decide, by decide⟩ ?_
            refine x_icmp_ne (tgt := 151) dX4_laysAt_137 rfl (fun h4 => ?_) (fun h4 => ?_)
            · have h4 : bt y j ≠ 1 := h4
              refine x_iinc5 dX4_laysAt_151 (by decide) rfl (nrm_id (by omega) (by omega)) ?_
              refine x_goto (tgt := 121) dX4_laysAt_154 rfl ?_
              have e2 : nth y (k + 1) j q = nth y k ((j + 1 : Nat) : Int) q := by rw [nth, if_neg h4]; push_cast; rfl
              rw [e2]
              exact Ex.eq (by push_cast; rfl) rfl rfl (ih (j + 1) q (by omega) hq0 hq1)
            · have h4 : bt y j = 1 := h4
              refine x_iload4 dX4_laysAt_140 ?_
              refine x_if_ne (tgt := 148) dX4_laysAt_142 rfl (fun h5 => ?_) (fun h5 => ?_)
              · refine x_iinc4 dX4_laysAt_148 (by decide) rfl (nrm_id (by omega) (by omega)) ?_
                refine x_iinc5 dX4_laysAt_151 (by decide) rfl (nrm_id (by omega) (by omega)) ?_
                refine x_goto (tgt := 121) dX4_laysAt_154 rfl ?_
                have e2 : nth y (k + 1) j q = nth y k ((j + 1 : Nat) : Int) (q - 1) := by rw [nth, if_pos h4, if_neg h5]; push_cast; rfl
                rw [e2]
                exact Ex.eq (by push_cast; rfl) rfl rfl (ih (j + 1) (q - 1) (by omega) (by omega) (by omega))
              · refine x_iload5 dX4_laysAt_145 ?_
                exact xe_i dX4_laysAt_147 (⟨by rw [nth, if_pos h4, if_pos h5], hM1, hF⟩)
      exact loop (V 0 0).toNat 0 q (by omega) hk9.1 hk9.2
    · refine x_iload3 dX4_laysAt_101 ?_
      have := hB.2.2.2 hpos.2
      exact xe_i dX4_laysAt_102 (⟨by rw [eL, if_neg c1, this], hM1, hF⟩)
  have loop : ∀ (k j : Nat) (b : Int) (o : Option zz_V), (j : Int) + k = V 0 0 → BB (wt V y) j b → Ex E cX4_laysAt 6 RX4 4 (fun r m' => r = some (zi (lays V (gs V g))) ∧ MP m' V ∧ Fw m m') 16 [some (zr 59), some (zi y), some (zi (smI (bt y) j)), some (zi b), some (zi j), o] [] m2 := by
    intro k
    induction k with
    | zero =>
      intro j b o hj hB
      refine Ex.wk (L' := [some (zr 59), some (zi y), some (zi (smI (bt y) j)), some (zi b), some (zi j), none]) ⟨rfl, rfl, rfl, rfl, rfl, trivial⟩ ?_
      have e1 : (V 0 0).toNat = j := by omega
      refine x_iload4 dX4_laysAt_16 ?_
      refine x_aload0 dX4_laysAt_18 ?_
      refine x_getI dX4_laysAt_19 fd_X4_77 rfl (Or.inl rfl) (v := V 0 0) hM1.nests ?_
      refine x_icmp_ge (tgt := 93) dX4_laysAt_22 rfl (fun h3 => ?_) (fun h3 => ?_)
      · rw [← e1] at hB ⊢
        exact kinds b _ hB
      · omega
    | succ k ih =>
      intro j b o hj hB
      refine Ex.wk (L' := [some (zr 59), some (zi y), some (zi (smI (bt y) j)), some (zi b), some (zi j), none]) ⟨rfl, rfl, rfl, rfl, rfl, trivial⟩ ?_
      have hcj := cnt_bd y j ⟨hy.1, hy.2.1⟩ (by omega)
      have h01 := bt_01 hy.1 hy.2.1 (i := j) (by omega) (by omega)
      have hwn := wt_nn hI2 hy (i := j) (by omega) (by omega)
      have hB1 := hB.1
      have hB2 := hB.2.1
      refine x_iload4 dX4_laysAt_16 ?_
      refine x_aload0 dX4_laysAt_18 ?_
      refine x_getI dX4_laysAt_19 fd_X4_77 rfl (Or.inl rfl) (v := V 0 0) hM1.nests ?_
      refine x_icmp_ge (tgt := 93) dX4_laysAt_22 rfl (fun h3 => ?_) (fun h3 => ?_)
      · omega
      · refine x_iload1 dX4_laysAt_25 ?_
        refine x_iload4 dX4_laysAt_26 ?_
        refine x_ishr dX4_laysAt_28 rfl ?_
        refine x_iconst dX4_laysAt_29 ⟨by decide, by decide⟩ ?_
        refine x_iand dX4_laysAt_30 rfl ?_
        refine x_iconst dX4_laysAt_31 ⟨by decide, by decide⟩ ?_
        have keep : ∀ (o : Int), wt V y j ≤ vb (wt V y) b → Ex E cX4_laysAt 6 RX4 4 (fun r m' => r = some (zi (lays V (gs V g))) ∧ MP m' V ∧ Fw m m') 85 [some (zr 59), some (zi y), some (zi (smI (bt y) ((j + 1 : Nat) : Nat))), some (zi b), some (zi j), some (zi o)] [] m2 := by
          intro o h
          refine x_iload3 dX4_laysAt_85 ?_
          refine x_istore3 dX4_laysAt_86 (by decide) rfl ?_
          refine x_iinc4 dX4_laysAt_87 (by decide) rfl (nrm_id (by omega) (by omega)) ?_
          refine x_goto (tgt := 16) dX4_laysAt_90 rfl ?_
          exact Ex.eq (by push_cast; rfl) rfl rfl (ih (j + 1) b _ (by omega) (hB.keep h))
        have take : ∀ (o : Int), BB (wt V y) (j + 1) j → Ex E cX4_laysAt 6 RX4 4 (fun r m' => r = some (zi (lays V (gs V g))) ∧ MP m' V ∧ Fw m m') 80 [some (zr 59), some (zi y), some (zi (smI (bt y) ((j + 1 : Nat) : Nat))), some (zi b), some (zi j), some (zi o)] [] m2 := by
          intro o h
          refine x_iload4 dX4_laysAt_80 ?_
          refine x_goto (tgt := 86) dX4_laysAt_82 rfl ?_
          refine x_istore3 dX4_laysAt_86 (by decide) rfl ?_
          refine x_iinc4 dX4_laysAt_87 (by decide) rfl (nrm_id (by omega) (by omega)) ?_
          refine x_goto (tgt := 16) dX4_laysAt_90 rfl ?_
          exact Ex.eq (by push_cast; rfl) rfl rfl (ih (j + 1) j _ (by omega) h)
        refine x_icmp_ne (tgt := 39) dX4_laysAt_32 rfl (fun h4 => ?_) (fun h4 => ?_)
        · have h4 : bt y j ≠ 1 := h4
          have ew := wt_off (V := V) h4 h01
          refine x_iconst dX4_laysAt_39 ⟨by decide, by decide⟩ ?_
          refine x_istore5 dX4_laysAt_40 (by decide) rfl ?_
          refine x_iload2 dX4_laysAt_42 ?_
          refine x_iload5 dX4_laysAt_43 ?_
          refine x_if_eq (tgt := 52) dX4_laysAt_45 rfl (fun h5 => ?_) (fun h5 => ?_)
          · have es : smI (bt y) (j + 1) = smI (bt y) j := by rw [smI_succ]; omega
            refine x_iconst dX4_laysAt_52 ⟨by decide, by decide⟩ ?_
            refine x_iadd dX4_laysAt_53 (nrm_id (by omega) (by omega)) ?_
            refine x_istore2 dX4_laysAt_54 (by decide) rfl ?_
            refine x_iload5 dX4_laysAt_55 ?_
            refine x_if_eq (tgt := 85) dX4_laysAt_57 rfl (fun h6 => ?_) (fun h6 => ?_)
            · refine Ex.eq (by rw [es]; simp) rfl rfl (keep 0 ?_)
              have := (amx_bd (wt V y) j).2.2
              rw [ew, hB.2.2.1]
              exact this
            · omega
          · omega
        · have h4 : bt y j = 1 := h4
          have es : smI (bt y) (j + 1) = smI (bt y) j + 1 := by rw [smI_succ, h4]
          refine x_iconst dX4_laysAt_35 ⟨by decide, by decide⟩ ?_
          refine x_goto (tgt := 40) dX4_laysAt_36 rfl ?_
          refine x_istore5 dX4_laysAt_40 (by decide) rfl ?_
          refine x_iload2 dX4_laysAt_42 ?_
          refine x_iload5 dX4_laysAt_43 ?_
          refine x_if_eq (tgt := 52) dX4_laysAt_45 rfl (fun h5 => ?_) (fun h5 => ?_)
          · omega
          · refine x_iconst dX4_laysAt_48 ⟨by decide, by decide⟩ ?_
            refine x_goto (tgt := 53) dX4_laysAt_49 rfl ?_
            refine x_iadd dX4_laysAt_53 (nrm_id (by omega) (by omega)) ?_
            refine x_istore2 dX4_laysAt_54 (by decide) rfl ?_
            refine x_iload5 dX4_laysAt_55 ?_
            refine x_if_eq (tgt := 85) dX4_laysAt_57 rfl (fun h6 => ?_) (fun h6 => ?_)
            · omega
            · refine x_iload3 dX4_laysAt_60 ?_
              refine x_if_lt (tgt := 80) dX4_laysAt_61 rfl (fun h7 => ?_) (fun h7 => ?_)
              · refine Ex.eq (by rw [es]) rfl rfl (take 1 ?_)
                by_cases h0 : wt V y j = 0
                · exact hB.none h7 h0
                · exact hB.take (by rw [vb, if_pos h7]; omega)
              · refine x_aload0 dX4_laysAt_64 ?_
                refine x_getR (q := 66) dX4_laysAt_65 fd_X4_41 rfl rfl rfl ?_
                refine x_iload4 dX4_laysAt_68 ?_
                refine x_iald dX4_laysAt_70 rfl (by omega) (by omega) (v := wt V y j) (hW j (by omega) (by omega)) ?_
                refine x_aload0 dX4_laysAt_71 ?_
                refine x_getR (q := 66) dX4_laysAt_72 fd_X4_41 rfl rfl rfl ?_
                refine x_iload3 dX4_laysAt_75 ?_
                refine x_iald dX4_laysAt_76 rfl (by omega) (by omega) (v := wt V y b) (hW b (by omega) (by omega)) ?_
                have ev : vb (wt V y) b = wt V y b := if_neg (by omega)
                refine x_icmp_le (tgt := 85) dX4_laysAt_77 rfl (fun h8 => ?_) (fun h8 => ?_)
                · exact Ex.eq (by rw [es]) rfl rfl (keep 1 (by omega))
                · exact Ex.eq (by rw [es]) rfl rfl (take 1 (hB.take (by omega)))
  exact loop (V 0 0).toNat 0 (-1) none (by omega) ⟨by decide, by decide, rfl, fun h => by have h : (0 : Int) ≤ -1 := h; omega⟩
end RM3
