section MC3
variable {E : zz_E} {m : zz_M} {s : zz_S}
theorem isr_sh {q : Int} (hq : zz_in q) (k : Nat) (hk : k < 7) : isr q (k : Int) = q / 2 ^ k := by
  have key : ∀ j : Nat, j < 7 → (Int32.ofInt q >>> (Int32.ofInt (j : Int) &&& 31)).toInt = (BitVec.ofInt 32 ((Int32.ofInt q).toInt >>> j)).toInt := by
    intro j hj
    have : ((Int32.ofInt (j : Int) &&& 31).toBitVec.smod 32).toNat = j := by
      have h : ∀ i : Fin 7, ((Int32.ofInt (i.val : Int) &&& 31).toBitVec.smod 32).toNat = i.val := by decide +kernel
      exact h ⟨j, hj⟩
    show ((Int32.ofInt q).toBitVec.sshiftRight ((Int32.ofInt (j : Int) &&& 31).toBitVec.smod 32).toNat).toInt = _
    rw [this]
    rfl
  unfold isr
  rw [key k hk, i32_of hq, BitVec.toInt_ofInt, Int.shiftRight_eq_div_pow]
  have h2 : (k = 0 ∨ k = 1 ∨ k = 2 ∨ k = 3 ∨ k = 4 ∨ k = 5 ∨ k = 6) := by omega
  obtain ⟨h0, h1⟩ := hq
  rcases h2 with rfl | rfl | rfl | rfl | rfl | rfl | rfl
  · show (q / 1).bmod 4294967296 = q / 1
    exact Int.bmod_eq_of_le (by omega) (by omega)
  · show (q / 2).bmod 4294967296 = q / 2
    exact Int.bmod_eq_of_le (by omega) (by omega)
  · show (q / 4).bmod 4294967296 = q / 4
    exact Int.bmod_eq_of_le (by omega) (by omega)
  · show (q / 8).bmod 4294967296 = q / 8
    exact Int.bmod_eq_of_le (by omega) (by omega)
  · show (q / 16).bmod 4294967296 = q / 16
    exact Int.bmod_eq_of_le (by omega) (by omega)
  · show (q / 32).bmod 4294967296 = q / 32
    exact Int.bmod_eq_of_le (by omega) (by omega)
  · show (q / 64).bmod 4294967296 = q / 64
    exact Int.bmod_eq_of_le (by omega) (by omega)
theorem isr_bd {q n : Int} (hq : zz_in q) (h0 : 0 ≤ n) (h1 : n ≤ 6) (h : isr q n = 0) : 0 ≤ q ∧ q < 64 := by
  have := isr_sh hq n.toNat (by omega)
  rw [nat_of h0, h] at this
  have h2 : (n.toNat = 0 ∨ n.toNat = 1 ∨ n.toNat = 2 ∨ n.toNat = 3 ∨ n.toNat = 4 ∨ n.toNat = 5 ∨ n.toNat = 6) := by omega
  rcases h2 with e | e | e | e | e | e | e <;> rw [e] at this <;> simp at this <;> omega
theorem isr_neg {q n : Int} (hq : zz_in q) (h0 : 0 ≤ n) (h1 : n ≤ 6) (h : q < 0) : isr q n ≠ 0 := fun e => by have := isr_bd hq h0 h1 e; omega
theorem idv_pos {a c : Int} (h0 : 0 ≤ a) (h1 : a ≤ 2147483647) (h2 : 0 < c) (h3 : c ≤ 2147483647) : idv a c = a / c := by
  unfold idv
  rw [Int32.toInt_div, i32_of ⟨by omega, h1⟩, i32_of ⟨by omega, h3⟩, Int.tdiv_eq_ediv_of_nonneg h0]
  have h4 : 0 ≤ a / c := Int.ediv_nonneg h0 (by omega)
  have h5 : a / c ≤ a := Int.ediv_le_self c h0
  exact Int.bmod_eq_of_le (by omega) (by omega)
theorem wtot_bd {V : zz_W} {D : Int} (hI : Iv D V) {y : Int} (hy : sub6 (V 0 0) y) (hh : has y) : 0 < wtot V y ∧ wtot V y ≤ 606 := by
  have hn := hI.1
  have h1 := cnt_pos hn hy hh
  have h2 := cnt_bd y (V 0 0).toNat ⟨hy.1, hy.2.1⟩ (by omega)
  have h3 := smI_bd (f := wf V y) (c := 101) (V 0 0).toNat (fun i h0 h1 => wf_bd hI y h0 (by omega))
  unfold wtot
  rw [wsum_eq]
  split <;> omega
theorem mya_ok {V : zz_W} {D : Int} (hI : Iv D V) : sub6 (V 0 0) (mya V) := may_sub hI.1.1 hI.2.2.1 (all_sub hI.1.1 hI.1.2)
theorem mya_has {V : zz_W} {D : Int} (hI : Iv D V) (h0 : V 0 0 ≠ 0) : has (mya V) := may_has hI.1.1 hI.2.2.1 (all_sub hI.1.1 hI.1.2) (has_all (by have := hI.1; omega) hI.1.2)
abbrev CQl (m : zz_M) (a : zz_A) : Option zz_V → zz_M → Prop := fun r m' => r = some (zj a.1) ∧ CP m' a.2 ∧ Fr 0 59 m m'
theorem gcI_nat {a c : Int} {x y : Nat} (ha : a = x) (hc : c = y) : gcI a c = (Nat.gcd x y : Int) := by
  subst ha hc
  rfl
theorem gcI_pos {a c : Int} (hc : 0 < c) : 0 < gcI a c ∧ gcI a c ≤ c := by
  unfold gcI
  have h1 : 0 < Nat.gcd a.toNat c.toNat := Nat.gcd_pos_of_pos_right _ (by omega)
  have h2 := Nat.gcd_le_right a.toNat (show 0 < c.toNat by omega)
  omega
theorem s_likely (hC : CP m s) (hI : Is s) {n p : Int} : Mt E 4 yX3_likely cX3_likely 5 (some .long) [zr 55, zi n, zi p] m (CQl m (o_likely s n p)) := by
  have hV := hI.1
  have hY := hC.1.1
  have hn := hV.1
  refine Mt.of 2 (by decide +kernel) (Nat.le_of_ble_eq_true rfl) (Or.inr (Or.inr (Or.inl rfl))) ?_ ?_
  · rintro r m' ⟨rfl, -⟩; simp
  show Ex E cX3_likely 5 RX3 4 _ 0 [some (zr 55), some (zi n), some (zi p), none, none] [] m
  refine x_aload0 dX3_likely_0 ?_
  refine x_iload1 dX3_likely_1 ?_
  refine x_callv1 dX3_likely_2 cv_X3_65 ci_X3_isNoNest rfl (T := TX3) rfl (by decide) (Nat.le_of_ble_eq_true rfl) (s_isNoNest hC) (fun r m1 hq => ?_)
  obtain ⟨rfl, ⟨h1, rfl⟩ | ⟨h1, rfl⟩⟩ := hq
  · show Ex _ _ _ _ _ _ _ _ [zi 1] _
    refine x_if_eq (tgt := 19) dX3_likely_5 rfl (fun h2 => ?_) (fun h2 => ?_)
    · omega
    · refine x_ldc2 (v := 4000000000000000000) dX3_likely_8 ⟨by decide, by decide⟩ ctl_X3_131 ?_
      refine x_aload0 dX3_likely_11 ?_
      refine x_iconst dX3_likely_12 ⟨by decide, by decide⟩ ?_
      refine x_callv1 dX3_likely_13 cv_X3_46 ci_X3_refuse rfl (T := TX3) rfl (by decide) (Nat.le_of_ble_eq_true rfl) (s_refuse hC (k := 1) (by decide) (by decide) (by decide)) (fun r m2 hq => ?_)
      obtain ⟨rfl, hC1, hF1⟩ := hq
      show Ex _ _ _ _ _ _ _ _ [zi (-1), zj 4000000000000000000] _
      refine x_i2l dX3_likely_16 ?_
      refine x_lsub dX3_likely_17 (nrml_id (by omega) (by omega)) ?_
      exact xe_l dX3_likely_18 (by rw [o_likely, if_pos h1]; exact ⟨rfl, hC1, hF1⟩)
  · show Ex _ _ _ _ _ _ _ _ [zi 0] _
    refine x_if_eq (tgt := 19) dX3_likely_5 rfl (fun h2 => ?_) (fun h2 => ?_)
    · refine x_iload2 dX3_likely_19 ?_
      have ref2 : (p < 0 ∨ 1 < p) → Ex E cX3_likely 5 RX3 4 (CQl m1 (o_likely s n p)) 28 [some (zr 55), some (zi n), some (zi p), none, none] [] m1 := by
        intro hp
        refine x_ldc2 (v := 4000000000000000000) dX3_likely_28 ⟨by decide, by decide⟩ ctl_X3_131 ?_
        refine x_aload0 dX3_likely_31 ?_
        refine x_bipush dX3_likely_32 ⟨by decide, by decide⟩ ?_
        refine x_callv1 dX3_likely_34 cv_X3_46 ci_X3_refuse rfl (T := TX3) rfl (by decide) (Nat.le_of_ble_eq_true rfl) (s_refuse hC (k := 2) (by decide) (by decide) (by decide)) (fun r m2 hq => ?_)
        obtain ⟨rfl, hC1, hF1⟩ := hq
        show Ex _ _ _ _ _ _ _ _ [zi (-2), zj 4000000000000000000] _
        refine x_i2l dX3_likely_37 ?_
        refine x_lsub dX3_likely_38 (nrml_id (by omega) (by omega)) ?_
        exact xe_l dX3_likely_39 (by rw [o_likely, if_neg (by omega), if_pos hp]; exact ⟨rfl, hC1, hF1⟩)
      refine x_if_lt (tgt := 28) dX3_likely_20 rfl (fun h3 => ?_) (fun h3 => ?_)
      · exact ref2 (Or.inl h3)
      · refine x_iload2 dX3_likely_23 ?_
        refine x_iconst dX3_likely_24 ⟨by decide, by decide⟩ ?_
        refine x_icmp_le (tgt := 40) dX3_likely_25 rfl (fun h4 => ?_) (fun h4 => ?_)
        · refine x_aload0 dX3_likely_40 ?_
          refine x_getR (q := 0) dX3_likely_41 fd_X3_10 rfl rfl rfl ?_
          refine x_aload0 dX3_likely_44 ?_
          refine x_getR (q := 0) dX3_likely_45 fd_X3_10 rfl rfl rfl ?_
          refine x_aload0 dX3_likely_48 ?_
          refine x_getR (q := 0) dX3_likely_49 fd_X3_10 rfl rfl rfl ?_
          refine x_callv0 dX3_likely_52 cv_X3_118 ci_X2_allNests (by first | rfl | exact yb_k (by assumption)) (T := TX2) rfl (by decide) (Nat.le_of_ble_eq_true rfl) (s_allNests yb_0 hY hV) (fun r m2 hq => ?_)
          obtain ⟨rfl, rfl⟩ := hq
          refine x_callv1 dX3_likely_55 cv_X3_128 ci_X2_mayAmong (by first | rfl | exact yb_k (by assumption)) (T := TX2) rfl (by decide) (Nat.le_of_ble_eq_true rfl) (s_mayAmong yb_0 hY) (fun r m3 hq => ?_)
          obtain ⟨rfl, rfl⟩ := hq
          refine x_callv1 dX3_likely_58 cv_X3_133 ci_X2_weigh (by first | rfl | exact yb_k (by assumption)) (T := TX2) rfl (by decide) (Nat.le_of_ble_eq_true rfl) (s_weigh yb_0 hY hV (mya_ok hV)) (fun r m4 hq => ?_)
          obtain ⟨rfl, hW, hY4, hF4⟩ := hq
          have h0 : s.1 0 0 ≠ 0 := by omega
          have hwb := wtot_bd hV (mya_ok hV) (mya_has hV h0)
          have hwn := wt_nn hV (mya_ok hV) h1.1 (show n < 6 by omega)
          have hWn := hW n h1.1 h1.2
          show Ex _ _ _ _ _ _ _ _ [zi (wtot s.1 (mya s.1))] _
          have hCr : CP m4 s := hC.yard (hF4.wd (by omega) (by omega)) hY4
          have hFr : Fr 0 59 m3 m4 := hF4.wd (by omega) (by omega)
          have e1 : wt s.1 (mya s.1) n = ((wt s.1 (mya s.1) n).toNat : Int) := by omega
          have e2 : wtot s.1 (mya s.1) = ((wtot s.1 (mya s.1)).toNat : Int) := by omega
          have hg := gcI_nat e1 e2
          have hgp := gcI_pos (a := wt s.1 (mya s.1) n) hwb.1
          refine x_istore3 dX3_likely_61 (by decide) rfl ?_
          refine x_aload0 dX3_likely_62 ?_
          refine x_getR (q := 0) dX3_likely_63 fd_X3_10 rfl rfl rfl ?_
          refine x_getR (q := 7) dX3_likely_66 fd_X3_136 rfl rfl rfl ?_
          refine x_iload1 dX3_likely_69 ?_
          refine x_iald dX3_likely_70 rfl (by omega) (by omega) (v := wt s.1 (mya s.1) n) hWn ?_
          refine x_iload3 dX3_likely_71 ?_
          refine Ex.eq (S' := [zi ((wtot s.1 (mya s.1)).toNat : Int), zi ((wt s.1 (mya s.1) n).toNat : Int)]) rfl (by rw [← e1, ← e2]) rfl ?_
          refine x_calls2 dX3_likely_72 cv_X3_139 cs_X3_commonDivisor (by decide) (Nat.le_of_ble_eq_true rfl) (s_commonDivisor (a := (wt s.1 (mya s.1) n).toNat) (c := (wtot s.1 (mya s.1)).toNat) (by omega) (by omega)) (fun r m5 hq => ?_)
          obtain ⟨rfl, rfl⟩ := hq
          rw [← hg]
          show Ex _ _ _ _ _ _ _ _ [zi (gcI (wt s.1 (mya s.1) n) (wtot s.1 (mya s.1)))] _
          refine x_istore4 dX3_likely_75 (by decide) rfl ?_
          refine x_iload4 dX3_likely_77 ?_
          refine x_iconst dX3_likely_79 ⟨by decide, by decide⟩ ?_
          refine x_icmp_ge (tgt := 85) dX3_likely_80 rfl (fun h5 => ?_) (fun h5 => ?_)
          · refine x_iload2 dX3_likely_85 ?_
            refine x_if_ne (tgt := 101) dX3_likely_86 rfl (fun h6 => ?_) (fun h6 => ?_)
            · refine x_iload3 dX3_likely_101 ?_
              refine x_iload4 dX3_likely_102 ?_
              refine x_idiv dX3_likely_104 (by omega) (idv_pos (by omega) (by omega) (by omega) (by omega)) ?_
              refine x_i2l dX3_likely_105 ?_
              exact xe_l dX3_likely_106 (by rw [o_likely, if_neg (by omega), if_neg (by omega), if_neg h6]; exact ⟨rfl, hCr, hFr⟩)
            · refine x_aload0 dX3_likely_89 ?_
              refine x_getR (q := 0) dX3_likely_90 fd_X3_10 rfl rfl rfl ?_
              refine x_getR (q := 7) dX3_likely_93 fd_X3_136 rfl rfl rfl ?_
              refine x_iload1 dX3_likely_96 ?_
              refine x_iald dX3_likely_97 rfl (by omega) (by omega) (v := wt s.1 (mya s.1) n) hWn ?_
              refine x_goto (tgt := 102) dX3_likely_98 rfl ?_
              refine x_iload4 dX3_likely_102 ?_
              refine x_idiv dX3_likely_104 (by omega) (idv_pos (by omega) (by omega) (by omega) (by omega)) ?_
              refine x_i2l dX3_likely_105 ?_
              exact xe_l dX3_likely_106 (by rw [o_likely, if_neg (by omega), if_neg (by omega), if_pos h6]; exact ⟨rfl, hCr, hFr⟩)
          · omega
        · exact ref2 (Or.inr h4)
    · omega
end MC3
