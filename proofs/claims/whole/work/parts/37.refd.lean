section RM4
variable {E : zz_E} {m : zz_M} {V : zz_W} {D : Int} {s : zz_S}
/-- the yard alone, and not the seed -/
def Fyz (m m' : zz_M) : Prop := Fy m m' ∧ m' 59 39 = m 59 39
theorem Fyz.rf : Fyz m m := ⟨Fg.rf, rfl⟩
theorem Fyz.y {m' : zz_M} (h : Fyz m m') : Fy m m' := h.1
theorem Fyz.upf {m' : zz_M} (h : Fyz m m') {k : Nat} {x : Int} (hs : k < 10) : Fyz m (up m' 59 k x) := ⟨h.1.upf (Or.inl hs), by rw [upn (by omega)]; exact h.2⟩
theorem Fyz.upc {m' : zz_M} (h : Fyz m m') {k j : Nat} {x : Int} (hs : 60 ≤ k ∧ k ≤ 64 ∨ k = 66) : Fyz m (up m' k j x) := ⟨h.1.upc hs, by rw [up_cell (by omega)]; exact h.2⟩
theorem t_nightAt (hM : MP m V) (hI : Iv D V) (hD : D ≤ 20000) {w : Int} (hw : 0 ≤ w ∧ w < V 0 0) : Mt E 1 yX4_nightAt cX4_nightAt 4 none [zr 59, zi w] m (fun r m' => r = none ∧ MP m' (pass V w) ∧ Fyz m m') := by
  obtain ⟨hn, hl, hk0, hd, hk, hf, ht, hr, hx, he, hz⟩ := hI
  refine Mt.of 2 (by decide +kernel) (Nat.le_of_ble_eq_true rfl) (Or.inr (Or.inr (Or.inr rfl))) ?_ ?_
  · rintro r m' ⟨rfl, -⟩; simp
  show Ex E cX4_nightAt 4 RX4 1 _ 0 [some (zr 59), some (zi w), none, none] [] m
  have loop : ∀ (k j : Nat) (m1 : zz_M) (o : Option zz_V), (j : Int) + k = V 0 0 → MP m1 (psj V j) → Fyz m m1 → Ex E cX4_nightAt 4 RX4 1 (fun r m' => r = none ∧ MP m' (pass V w) ∧ Fyz m m') 2 [some (zr 59), some (zi w), some (zi j), o] [] m1 := by
    intro k
    induction k with
    | zero =>
      intro j m1 o hj hM hF
      refine x_iload2 dX4_nightAt_2 ?_
      refine x_aload0 dX4_nightAt_3 ?_
      refine x_getI dX4_nightAt_4 fd_X4_77 rfl (Or.inl rfl) (v := V 0 0) hM.nests ?_
      refine x_icmp_ge (tgt := 69) dX4_nightAt_7 rfl (fun hc => ?_) (fun hc => ?_)
      · refine x_aload0 dX4_nightAt_69 ?_
        refine x_getR (q := 64) dX4_nightAt_70 fd_X4_32 rfl rfl rfl ?_
        refine x_bipush dX4_nightAt_73 ⟨by decide, by decide⟩ ?_
        refine x_iload1 dX4_nightAt_75 ?_
        refine x_imul dX4_nightAt_76 (nrm_id (by omega) (by omega)) ?_
        refine x_dup2 dX4_nightAt_77 ?_
        refine x_iald dX4_nightAt_78 rfl (by omega) (by omega) (v := 0) (by rw [hM.egg (by omega) (by omega)]; exact (if_pos ⟨rfl, by omega, by omega⟩).trans (if_pos (by omega))) ?_
        refine x_iconst dX4_nightAt_79 ⟨by decide, by decide⟩ ?_
        refine x_iadd dX4_nightAt_80 (nrm_id (by omega) (by omega)) ?_
        refine x_iast dX4_nightAt_81 rfl (by omega) (by omega) ?_
        have hM2 : MP _ _ := hM.eggup (z := 10 * w) (x := 0 + 1) (by omega)
        refine x_aload0 dX4_nightAt_82 ?_
        refine x_iload1 dX4_nightAt_83 ?_
        refine x_putI dX4_nightAt_84 fd_X4_16 rfl rfl ?_
        have hM3 : MP _ (ux _ 0 1 w) := hM2.f (j := 5) (by decide)
        refine x_aload0 dX4_nightAt_87 ?_
        refine x_aload0 dX4_nightAt_88 ?_
        refine x_getI dX4_nightAt_89 fd_X4_84 rfl (Or.inl rfl) (v := V 0 2) hM3.looked ?_
        refine x_putI dX4_nightAt_92 fd_X4_117 rfl rfl ?_
        have hM4 : MP _ (ux _ 0 3 (V 0 2)) := hM3.f (j := 7) (by decide)
        refine x_aload0 dX4_nightAt_95 ?_
        refine x_iconst dX4_nightAt_96 ⟨by decide, by decide⟩ ?_
        refine x_putI dX4_nightAt_97 fd_X4_84 rfl rfl ?_
        have hM5 : MP _ (ux _ 0 2 0) := hM4.f (j := 6) (by decide)
        refine x_aload0 dX4_nightAt_100 ?_
        refine x_dupr dX4_nightAt_101 ?_
        refine x_getI dX4_nightAt_102 fd_X4_114 rfl (Or.inl rfl) (v := V 0 4) hM5.day ?_
        refine x_iconst dX4_nightAt_105 ⟨by decide, by decide⟩ ?_
        refine x_iadd dX4_nightAt_106 (nrm_id (by omega) (by omega)) ?_
        refine x_putI dX4_nightAt_107 fd_X4_114 rfl rfl ?_
        have hM6 : MP _ (ux _ 0 4 (V 0 4 + 1)) := hM5.f (j := 8) (by decide)
        refine xe_v dX4_nightAt_110 ?_
        refine ⟨rfl, hM6.cg (fun a z => ?_), ((((hF.upc (by omega)).upf (by omega)).upf (by omega)).upf (by omega)).upf (by omega)⟩
        unfold ux psj pass
        rw [show (j : Int) = V 0 0 by omega]
        by_cases ha : a = 5
        · subst ha
          simp only [show ¬ ((5 : Nat) = 0) by decide, false_and, if_false, true_and, if_true]
          by_cases h7 : z = 10 * w
          · rw [if_pos h7, if_pos (by omega), if_pos (by omega), if_pos (by omega)]
            rfl
          · rw [if_neg h7]
            by_cases h8 : 0 ≤ z ∧ z < 10 * V 0 0
            · rw [if_pos h8, if_pos h8]
              by_cases h9 : z % 10 = 0
              · rw [if_pos h9, if_pos h9, if_neg (by omega)]
              · rw [if_neg h9, if_neg h9]
            · rw [if_neg h8, if_neg h8]
        · by_cases ha0 : a = 0
          · subst ha0
            simp only [true_and, show ¬ ((0 : Nat) = 5) by decide, false_and, if_false, if_true]
            by_cases z1 : z = 1
            · subst z1; simp
            · by_cases z2 : z = 2
              · subst z2; simp
              · by_cases z3 : z = 3
                · subst z3; simp
                · by_cases z4 : z = 4
                  · subst z4; simp
                  · simp [z1, z2, z3, z4]
          · simp [ha, ha0]
      · omega
    | succ k ih =>
      intro j m1 o hj hM hF
      refine Ex.wk (L' := [some (zr 59), some (zi w), some (zi j), none]) ⟨rfl, rfl, rfl, trivial⟩ ?_
      refine x_iload2 dX4_nightAt_2 ?_
      refine x_aload0 dX4_nightAt_3 ?_
      refine x_getI dX4_nightAt_4 fd_X4_77 rfl (Or.inl rfl) (v := V 0 0) hM.nests ?_
      refine x_icmp_ge (tgt := 69) dX4_nightAt_7 rfl (fun hc => ?_) (fun hc => ?_)
      · omega
      · refine x_bipush dX4_nightAt_10 ⟨by decide, by decide⟩ ?_
        refine x_istore3 dX4_nightAt_12 (by decide) rfl ?_
        have inner : ∀ (k : Nat) (m1 : zz_M), k ≤ 9 → MP m1 (agj (psj V j) j k) → Fyz m m1 → Ex E cX4_nightAt 4 RX4 1 (fun r m' => r = none ∧ MP m' (pass V w) ∧ Fyz m m') 13 [some (zr 59), some (zi w), some (zi j), some (zi k)] [] m1 := by
          intro k
          induction k with
          | zero =>
            intro m1 hk hM hF
            refine x_iload3 dX4_nightAt_13 ?_
            refine x_if_lt (tgt := 63) dX4_nightAt_14 rfl (fun hc => ?_) (fun hc => ?_)
            · omega
            · refine x_aload0 dX4_nightAt_17 ?_
              refine x_getR (q := 64) dX4_nightAt_18 fd_X4_32 rfl rfl rfl ?_
              refine x_bipush dX4_nightAt_21 ⟨by decide, by decide⟩ ?_
              refine x_iload2 dX4_nightAt_23 ?_
              refine x_imul dX4_nightAt_24 (nrm_id (by omega) (by omega)) ?_
              refine x_iload3 dX4_nightAt_25 ?_
              refine x_iadd dX4_nightAt_26 (nrm_id (by omega) (by omega)) ?_
              refine x_iload3 dX4_nightAt_27 ?_
              refine x_if_eq (tgt := 39) dX4_nightAt_28 rfl (fun hc => ?_) (fun hc => ?_)
              · refine x_iconst dX4_nightAt_39 ⟨by decide, by decide⟩ ?_
                refine x_goto (tgt := 56) dX4_nightAt_40 rfl ?_
                refine x_iast dX4_nightAt_56 rfl (by omega) (by omega) ?_
                refine x_iinc3 dX4_nightAt_57 (by decide) rfl (nrm_id (by omega) (by omega)) ?_
                refine x_goto (tgt := 13) dX4_nightAt_60 rfl ?_
                refine x_iload3 dX4_nightAt_13 ?_
                refine x_if_lt (tgt := 63) dX4_nightAt_14 rfl (fun c5 => ?_) (fun c5 => ?_)
                · refine x_iinc2 dX4_nightAt_63 (by decide) rfl (nrm_id (by omega) (by omega)) ?_
                  refine x_goto (tgt := 2) dX4_nightAt_66 rfl ?_
                  have hM2 : MP _ (agd (psj V j) j) := hM.eggup (z := 10 * (j : Int) + ((0 : Nat) : Int)) (x := 0) (by omega) |>.cg (fun a z => by first | (rw [agd]; done) | (rw [agd]; congr 1; done) | (rw [agd]; congr 1; omega))
                  exact Ex.eq (by push_cast; rfl) rfl rfl (ih (j + 1) _ _ (by omega) (hM2.cg (psj_next V j)) (hF.upc (by omega)))
                · omega
              · omega
          | succ k ihk =>
            intro m1 hk hM hF
            have er : agj (psj V j) j ((k + 1 : Nat) : Int) 0 9 = V 0 9 := (if_neg (by omega)).trans (if_neg (by omega))
            have er2 : psj V j 0 9 = V 0 9 := if_neg (by omega)
            have rest : ∀ (x : Int), x = (if ((k + 1 : Nat) : Int) < V 0 9 then psj V j 5 (10 * (j : Int) + (k + 1 : Nat) - 1) else 0) → Ex E cX4_nightAt 4 RX4 1 (fun r m' => r = none ∧ MP m' (pass V w) ∧ Fyz m m') 56 [some (zr 59), some (zi w), some (zi j), some (zi ((k + 1 : Nat) : Int))] [zi x, zi (10 * (j : Int) + (k + 1 : Nat)), zr 64] m1 := by
              intro x hx
              refine x_iast dX4_nightAt_56 rfl (by omega) (by omega) ?_
              refine x_iinc3 dX4_nightAt_57 (by decide) rfl (nrm_id (by omega) (by omega)) ?_
              refine x_goto (tgt := 13) dX4_nightAt_60 rfl ?_
              refine Ex.eq ?_ rfl rfl (ihk _ (by omega) ?_ (hF.upc (by omega)))
              · rw [show ((k + 1 : Nat) : Int) + -1 = k from by omega]
              · refine (hM.eggup (by omega)).cg (fun a z => ?_)
                unfold ux agj
                rw [er2]
                by_cases ha : a = 5 ∧ z = 10 * (j : Int) + (k + 1 : Nat)
                · rw [if_pos ha, if_pos (by omega), hx, ha.2]
                  rw [show 10 * (j : Int) + ((k + 1 : Nat) : Int) - 10 * j = (k + 1 : Nat) from by omega]
                · rw [if_neg ha]
                  by_cases hb3 : a = 5 ∧ 10 * (j : Int) + ((k + 1 : Nat) : Int) < z ∧ z < 10 * (j : Int) + 10
                  · rw [if_pos hb3, if_pos (show a = 5 ∧ 10 * (j : Int) + (k : Int) < z ∧ z < 10 * (j : Int) + 10 by omega)]
                  · rw [if_neg hb3, if_neg (show ¬ (a = 5 ∧ 10 * (j : Int) + (k : Int) < z ∧ z < 10 * (j : Int) + 10) by omega)]
            refine x_iload3 dX4_nightAt_13 ?_
            refine x_if_lt (tgt := 63) dX4_nightAt_14 rfl (fun hc => ?_) (fun hc => ?_)
            · omega
            · refine x_aload0 dX4_nightAt_17 ?_
              refine x_getR (q := 64) dX4_nightAt_18 fd_X4_32 rfl rfl rfl ?_
              refine x_bipush dX4_nightAt_21 ⟨by decide, by decide⟩ ?_
              refine x_iload2 dX4_nightAt_23 ?_
              refine x_imul dX4_nightAt_24 (nrm_id (by omega) (by omega)) ?_
              refine x_iload3 dX4_nightAt_25 ?_
              refine x_iadd dX4_nightAt_26 (nrm_id (by omega) (by omega)) ?_
              refine x_iload3 dX4_nightAt_27 ?_
              refine x_if_eq (tgt := 39) dX4_nightAt_28 rfl (fun hc => ?_) (fun hc => ?_)
              · omega
              · refine x_iload3 dX4_nightAt_31 ?_
                refine x_aload0 dX4_nightAt_32 ?_
                refine x_getI dX4_nightAt_33 fd_X4_13 rfl (Or.inl rfl) (v := V 0 9) (by rw [hM.rat, er]) ?_
                refine x_icmp_lt (tgt := 43) dX4_nightAt_36 rfl (fun h2 => ?_) (fun h2 => ?_)
                · refine x_aload0 dX4_nightAt_43 ?_
                  refine x_getR (q := 64) dX4_nightAt_44 fd_X4_32 rfl rfl rfl ?_
                  refine x_bipush dX4_nightAt_47 ⟨by decide, by decide⟩ ?_
                  refine x_iload2 dX4_nightAt_49 ?_
                  refine x_imul dX4_nightAt_50 (nrm_id (by omega) (by omega)) ?_
                  refine x_iload3 dX4_nightAt_51 ?_
                  refine x_iadd dX4_nightAt_52 (nrm_id (by omega) (by omega)) ?_
                  refine x_iconst dX4_nightAt_53 ⟨by decide, by decide⟩ ?_
                  refine x_isub dX4_nightAt_54 (nrm_id (by omega) (by omega)) ?_
                  refine x_iald dX4_nightAt_55 rfl (by omega) (by omega) (v := psj V j 5 (10 * (j : Int) + (k + 1 : Nat) - 1)) (by rw [hM.egg (by omega) (by omega)]; exact if_neg (by omega)) ?_
                  exact rest _ (by rw [if_pos h2])
                · refine x_iconst dX4_nightAt_39 ⟨by decide, by decide⟩ ?_
                  refine x_goto (tgt := 56) dX4_nightAt_40 rfl ?_
                  exact rest 0 (by rw [if_neg (by omega)])
        refine inner 9 m1 (by omega) (hM.cg (fun a z => ?_)) hF
        unfold agj
        rw [if_neg (by omega)]
  refine x_iconst dX4_nightAt_0 ⟨by decide, by decide⟩ ?_
  refine x_istore2 dX4_nightAt_1 (by decide) rfl ?_
  refine loop (V 0 0).toNat 0 m none (by omega) (hM.cg (fun a z => ?_)) Fyz.rf
  unfold psj
  rw [if_neg (by omega)]
theorem t_take (hM : MP m V) (hI : Iv D V) {q : Int} : Mt E 2 yX4_take cX4_take 5 (some .int) [zr 59, zi q] m (fun r m' => r = some (zi (tkn V q)) ∧ MP m' (tak V q) ∧ Fyz m m') := by
  obtain ⟨hn, hl, hk0, hd, hk, hf, ht, hr, hx, he, hz⟩ := hI
  refine Mt.of 3 (by decide +kernel) (Nat.le_of_ble_eq_true rfl) (Or.inl rfl) ?_ ?_
  · rintro r m' ⟨rfl, -⟩; simp
  show Ex E cX4_take 5 RX4 2 _ 0 [some (zr 59), some (zi q), none, none, none] [] m
  have loop : ∀ (k j : Nat) (m1 : zz_M) (o : Option zz_V), (j : Int) + k = V 0 0 → MP m1 (tkj V q j) → Fyz m m1 → Ex E cX4_take 5 RX4 2 (fun r m' => r = some (zi (tkn V q)) ∧ MP m' (tak V q) ∧ Fyz m m') 4 [some (zr 59), some (zi q), some (zi (smI (fun n => if bt q n = 1 then eggs V n else 0) j)), some (zi j), o] [] m1 := by
    intro k
    induction k with
    | zero =>
      intro j m1 o hj hM hF
      refine x_iload3 dX4_take_4 ?_
      refine x_aload0 dX4_take_5 ?_
      refine x_getI dX4_take_6 fd_X4_77 rfl (Or.inl rfl) (v := V 0 0) hM.nests ?_
      refine x_icmp_ge (tgt := 64) dX4_take_9 rfl (fun hc => ?_) (fun hc => ?_)
      · refine x_aload0 dX4_take_64 ?_
        refine x_dupr dX4_take_65 ?_
        refine x_getI dX4_take_66 fd_X4_84 rfl (Or.inl rfl) (v := V 0 2) hM.looked ?_
        refine x_iload1 dX4_take_69 ?_
        refine x_ior dX4_take_70 (v := ior (V 0 2) q) rfl ?_
        refine x_putI dX4_take_71 fd_X4_84 rfl rfl ?_
        refine x_iload2 dX4_take_74 ?_
        have e1 : (V 0 0).toNat = j := by omega
        have hM2 : MP _ (ux _ 0 2 (ior (V 0 2) q)) := hM.f (j := 6) (by decide)
        refine xe_i dX4_take_75 ?_
        refine ⟨by rw [tkn, e1], ?_, hF.upf (by omega)⟩
        refine hM2.cg (fun a z => ?_)
        unfold ux tak tkj
        have hj2 : (j : Int) = V 0 0 := by omega
        rw [hj2]
        by_cases ha : a = 5
        · subst ha
          simp
        · by_cases ha0 : a = 0
          · subst ha0
            simp
          · simp [ha, ha0]
      · omega
    | succ k ih =>
      intro j m1 o hj hM hF
      refine Ex.wk (L' := [some (zr 59), some (zi q), some (zi (smI (fun n => if bt q n = 1 then eggs V n else 0) j)), some (zi j), none]) ⟨rfl, rfl, rfl, rfl, trivial⟩ ?_
      refine x_iload3 dX4_take_4 ?_
      refine x_aload0 dX4_take_5 ?_
      refine x_getI dX4_take_6 fd_X4_77 rfl (Or.inl rfl) (v := V 0 0) hM.nests ?_
      refine x_icmp_ge (tgt := 64) dX4_take_9 rfl (fun hc => ?_) (fun hc => ?_)
      · omega
      · have hb1 := tkn_bd he q j (by omega)
        have hb2 := eggs_bd he (n := j) (by omega) (by omega) 10 (by omega)
        refine x_iload1 dX4_take_12 ?_
        refine x_iload3 dX4_take_13 ?_
        refine x_ishr dX4_take_14 rfl ?_
        refine x_iconst dX4_take_15 ⟨by decide, by decide⟩ ?_
        refine x_iand dX4_take_16 rfl ?_
        refine x_iconst dX4_take_17 ⟨by decide, by decide⟩ ?_
        refine x_icmp_ne (tgt := 58) dX4_take_18 rfl (fun hc2 => ?_) (fun hc2 => ?_)
        · have hc2 : bt q j ≠ 1 := hc2
          have e3 : (if bt q j = 1 then eggs V j else 0) = 0 := if_neg hc2
          refine x_iinc3 dX4_take_58 (by decide) rfl (nrm_id (by omega) (by omega)) ?_
          refine x_goto (tgt := 4) dX4_take_61 rfl ?_
          refine Ex.eq ?_ rfl rfl (ih (j + 1) _ none (by omega) ?_ hF)
          · simp only [List.cons.injEq, Option.some.injEq, Sum.inl.injEq, and_true, true_and, smI_succ]
            push_cast
            omega
          · refine hM.cg (fun a z => ?_)
            unfold tkj
            push_cast
            by_cases h1 : a = 5 ∧ 0 ≤ z ∧ z < 10 * (j : Int) ∧ bt q (z / 10) = 1
            · rw [if_pos h1, if_pos ⟨h1.1, h1.2.1, by omega, h1.2.2.2⟩]
            · rw [if_neg h1, if_neg]
              rintro ⟨g1, g2, g3, g4⟩
              by_cases hz : z < 10 * (j : Int)
              · exact h1 ⟨g1, g2, hz, g4⟩
              · have : z / 10 = j := by omega
                rw [this] at g4
                exact hc2 g4
        · have hc2 : bt q j = 1 := hc2
          have e3 : (if bt q j = 1 then eggs V j else 0) = eggs V j := if_pos hc2
          have ee : eggs (tkj V q j) j = eggs V j := eggs_cg (fun z h1 h2 => if_neg (by omega))
          have he2 : ∀ z, 0 ≤ z → z < 60 → 0 ≤ tkj V q j 5 z ∧ tkj V q j 5 z ≤ 9 := by
            intro z h1 h2
            have := he z h1 h2
            unfold tkj
            split <;> omega
          refine x_iload2 dX4_take_21 ?_
          refine x_aload0 dX4_take_22 ?_
          refine x_iload3 dX4_take_23 ?_
          refine x_callv1 dX4_take_24 cv_X4_91 ci_X4_eggsIn rfl (T := TX4) rfl (by omega) (Nat.le_of_ble_eq_true rfl) (t_eggsIn hM he2 (n := j) (by omega) (by omega)) (fun r m2 hq => ?_)
          obtain ⟨rfl, rfl⟩ := hq
          rw [ee]
          show Ex _ _ _ _ _ _ _ _ [zi (eggs V j), zi (smI (fun n => if bt q n = 1 then eggs V n else 0) j)] _
          have e4 : eggs V j = smI (fun a => V 5 (10 * (j : Int) + a)) 10 := rfl
          refine x_iadd dX4_take_27 (nrm_id (by omega) (by omega)) ?_
          refine x_istore2 dX4_take_28 (by decide) rfl ?_
          refine x_iconst dX4_take_29 ⟨by decide, by decide⟩ ?_
          refine x_istore4 dX4_take_30 (by decide) rfl ?_
          have es : smI (fun n => if bt q n = 1 then eggs V n else 0) j + eggs V j = smI (fun n => if bt q n = 1 then eggs V n else 0) (j + 1) := by rw [smI_succ, e3]
          rw [es]
          have inner : ∀ (k i : Nat) (m1 : zz_M), i + k = 10 → MP m1 (emj (tkj V q j) j i) → Fyz m m1 → Ex E cX4_take 5 RX4 2 (fun r m' => r = some (zi (tkn V q)) ∧ MP m' (tak V q) ∧ Fyz m m') 32 [some (zr 59), some (zi q), some (zi (smI (fun n => if bt q n = 1 then eggs V n else 0) (j + 1))), some (zi j), some (zi i)] [] m1 := by
            intro k
            induction k with
            | zero =>
              intro i m1 hi hM2 hF2
              obtain rfl : i = 10 := by omega
              refine x_iload4 dX4_take_32 ?_
              refine x_bipush dX4_take_34 ⟨by decide, by decide⟩ ?_
              refine x_icmp_ge (tgt := 58) dX4_take_36 rfl (fun hc => ?_) (fun hc => ?_)
              · refine x_iinc3 dX4_take_58 (by decide) rfl (nrm_id (by omega) (by omega)) ?_
                refine x_goto (tgt := 4) dX4_take_61 rfl ?_
                refine Ex.eq (by push_cast; rfl) rfl rfl (ih (j + 1) _ _ (by omega) ?_ hF2)
                refine hM2.cg (fun a z => ?_)
                unfold emj tkj
                push_cast
                by_cases h0 : a = 5 ∧ 10 * (j : Int) ≤ z ∧ z < 10 * (j : Int) + 10
                · have : z / 10 = j := by omega
                  rw [if_pos h0, if_pos ⟨h0.1, by omega, by omega, by rw [this]; exact hc2⟩]
                · rw [if_neg h0]
                  by_cases h1 : a = 5 ∧ 0 ≤ z ∧ z < 10 * (j : Int) ∧ bt q (z / 10) = 1
                  · rw [if_pos h1, if_pos ⟨h1.1, h1.2.1, by omega, h1.2.2.2⟩]
                  · rw [if_neg h1, if_neg]
                    rintro ⟨g1, g2, g3, g4⟩
                    exact h1 ⟨g1, g2, by omega, g4⟩
              · omega
            | succ k ihk =>
              intro i m1 hi hM2 hF2
              refine x_iload4 dX4_take_32 ?_
              refine x_bipush dX4_take_34 ⟨by decide, by decide⟩ ?_
              refine x_icmp_ge (tgt := 58) dX4_take_36 rfl (fun hc => ?_) (fun hc => ?_)
              · omega
              · refine x_aload0 dX4_take_39 ?_
                refine x_getR (q := 64) dX4_take_40 fd_X4_32 rfl rfl rfl ?_
                refine x_bipush dX4_take_43 ⟨by decide, by decide⟩ ?_
                refine x_iload3 dX4_take_45 ?_
                refine x_imul dX4_take_46 (nrm_id (by omega) (by omega)) ?_
                refine x_iload4 dX4_take_47 ?_
                refine x_iadd dX4_take_49 (nrm_id (by omega) (by omega)) ?_
                refine x_iconst dX4_take_50 ⟨by decide, by decide⟩ ?_
                refine x_iast dX4_take_51 rfl (by omega) (by omega) ?_
                refine x_iinc4 dX4_take_52 (by decide) rfl (nrm_id (by omega) (by omega)) ?_
                refine x_goto (tgt := 32) dX4_take_55 rfl ?_
                refine Ex.eq (by push_cast; rfl) rfl rfl (ihk (i + 1) _ (by omega) ?_ (hF2.upc (by omega)))
                refine (hM2.eggup (by omega)).cg (fun a z => ?_)
                unfold ux emj
                push_cast
                by_cases ha : a = 5 ∧ z = 10 * (j : Int) + i
                · rw [if_pos ha, if_pos (by omega)]
                · rw [if_neg ha]
                  by_cases hb3 : a = 5 ∧ 10 * (j : Int) ≤ z ∧ z < 10 * (j : Int) + i
                  · rw [if_pos hb3, if_pos (by omega)]
                  · rw [if_neg hb3, if_neg (by omega)]
          refine inner 10 0 _ rfl (hM.cg (fun a z => ?_)) hF
          unfold emj
          rw [if_neg (by omega)]
  refine x_iconst dX4_take_0 ⟨by decide, by decide⟩ ?_
  refine x_istore2 dX4_take_1 (by decide) rfl ?_
  refine x_iconst dX4_take_2 ⟨by decide, by decide⟩ ?_
  refine x_istore3 dX4_take_3 (by decide) rfl ?_
  refine loop (V 0 0).toNat 0 m none (by omega) (hM.cg (fun a z => ?_)) Fyz.rf
  unfold tkj
  rw [if_neg (by omega)]
theorem gs_all {V : zz_W} : gs V (-1) = alln (V 0 0) := if_pos (by decide)
theorem t_nightOn (hM : MP m V) (hI : Iv D V) (hD : D ≤ 20000) (hg : m 59 17 = -1) (h0 : V 0 0 ≠ 0) : Mt E 5 yX4_nightOn cX4_nightOn 2 (some .int) [zr 59] m (fun r m' => r = some (zi (lay V)) ∧ MP m' (nit V) ∧ Fy m m') := by
  have hn := hI.1
  have hl := lay_in hI hD h0
  refine Mt.of 1 (by decide +kernel) (Nat.le_of_ble_eq_true rfl) (Or.inl rfl) ?_ ?_
  · rintro r m' ⟨rfl, -⟩; simp
  show Ex E cX4_nightOn 2 RX4 5 _ 0 [some (zr 59), none] [] m
  refine x_aload0 dX4_nightOn_0 ?_
  refine x_callv0 dX4_nightOn_1 cv_X4_120 ci_X4_laysAt rfl (T := TX4) rfl (by omega) (Nat.le_of_ble_eq_true rfl) (t_laysAt hM hI hD hg (by rw [gs_all]; exact all_sub hn.1 hn.2) (by rw [gs_all]; exact has_all (by omega) hn.2)) (fun r m1 hq => ?_)
  obtain ⟨rfl, hM1, hF1⟩ := hq
  rw [gs_all]
  show Ex _ _ _ _ _ _ _ _ [zi (lay V)] _
  refine x_istore1 dX4_nightOn_4 (by decide) rfl ?_
  refine x_aload0 dX4_nightOn_5 ?_
  refine x_iload1 dX4_nightOn_6 ?_
  refine x_callv1 dX4_nightOn_7 cv_X4_123 ci_X4_nightAt rfl (T := TX4) rfl (by omega) (Nat.le_of_ble_eq_true rfl) (t_nightAt hM1 hI hD hl) (fun r m2 hq => ?_)
  obtain ⟨rfl, hM2, hF2⟩ := hq
  show Ex _ _ _ _ _ _ _ _ [] _
  refine x_iload1 dX4_nightOn_10 ?_
  exact xe_i dX4_nightOn_11 (⟨rfl, hM2, hF1.fg.tr hF2.y⟩)
end RM4
