/-- fewer locals are known -/
def wkb : List (Option zz_V) → List (Option zz_V) → Prop
  | [], _ => True
  | none :: L', _ :: L => wkb L' L
  | none :: L', [] => wkb L' []
  | some v :: L', o :: L => o = some v ∧ wkb L' L
  | some _ :: _, [] => False
theorem wkb_at : ∀ (L' L : List (Option zz_V)), wkb L' L → ∀ (i : Nat) (v : zz_V), L'[i]? = some (some v) → L[i]? = some (some v)
  | [], _, _, i, v, h => by simp at h
  | none :: L', o :: L, hw, 0, v, h => by simp at h
  | none :: L', o :: L, hw, i + 1, v, h => by
    simp only [List.getElem?_cons_succ] at h ⊢
    exact wkb_at L' L hw i v h
  | none :: L', [], hw, 0, v, h => by simp at h
  | none :: L', [], hw, i + 1, v, h => by
    simp only [List.getElem?_cons_succ] at h
    have := wkb_at L' [] hw i v h
    simp at this
  | some w :: L', o :: L, hw, 0, v, h => by
    simp only [List.getElem?_cons_zero] at h ⊢
    rw [hw.1]
    exact h
  | some w :: L', o :: L, hw, i + 1, v, h => by
    simp only [List.getElem?_cons_succ] at h ⊢
    exact wkb_at L' L hw.2 i v h
theorem Ex.wk {E : zz_E} {cc : ByteArray} {nL : Nat} {own : String} {d : Nat} {Q : Option zz_V → zz_M → Prop} {pc : Nat} {L : List (Option zz_V)} {S : List zz_V} {m : zz_M} {L' : List (Option zz_V)} (hw : wkb L' L) (kk : Ex E cc nL own d Q pc L' S m) : Ex E cc nL own d Q pc L S m := Ex.weak (wkb_at L' L hw) kk
section MC2
variable {E : zz_E} {m : zz_M} {s : zz_S}
theorem bit_f : ∀ (n : Fin 6) (l : Fin 64), (0 ≤ isl 1 (n.val : Int) ∧ isl 1 (n.val : Int) < 64) ∧ (ian (l.val : Int) (isl 1 (n.val : Int)) ≠ 0 ↔ bt (l.val : Int) (n.val : Int) = 1) := by decide +kernel
theorem bit_bd {n : Int} (h0 : 0 ≤ n) (h1 : n < 6) : 0 ≤ isl 1 n ∧ isl 1 n < 64 := by
  have h := (bit_f ⟨n.toNat, by omega⟩ ⟨0, by decide⟩).1
  simpa only [nat_of h0] using h
theorem bit_bt {n l : Int} (h0 : 0 ≤ n) (h1 : n < 6) (h2 : 0 ≤ l) (h3 : l < 64) : ian l (isl 1 n) ≠ 0 ↔ bt l n = 1 := by
  have h := (bit_f ⟨n.toNat, by omega⟩ ⟨l.toNat, by omega⟩).2
  simpa only [nat_of h0, nat_of h2] using h
theorem s_look (hC : CP m s) (hI : Is s) {n : Int} : Mt E 3 yX3_look cX3_look 4 (some .int) [zr 55, zi n] m (CQ m (o_look s n)) := by
  have hV := hI.1
  have hY := hC.1.1
  have hn := hV.1
  refine Mt.of 2 (by decide +kernel) (Nat.le_of_ble_eq_true rfl) (Or.inl rfl) ?_ ?_
  · exact CQ.rt
  show Ex E cX3_look 4 RX3 3 _ 0 [some (zr 55), some (zi n), none, none] [] m
  refine x_aload0 dX3_look_0 ?_
  refine x_iload1 dX3_look_1 ?_
  refine x_callv1 dX3_look_2 cv_X3_65 ci_X3_isNoNest rfl (T := TX3) rfl (by decide) (Nat.le_of_ble_eq_true rfl) (s_isNoNest hC) (fun r m1 hq => ?_)
  obtain ⟨rfl, ⟨h1, rfl⟩ | ⟨h1, rfl⟩⟩ := hq
  · show Ex _ _ _ _ _ _ _ _ [zi 1] _
    refine x_if_eq (tgt := 14) dX3_look_5 rfl (fun h2 => ?_) (fun h2 => ?_)
    · omega
    · refine x_aload0 dX3_look_8 ?_
      refine x_iconst dX3_look_9 ⟨by decide, by decide⟩ ?_
      refine x_callv1 dX3_look_10 cv_X3_46 ci_X3_refuse rfl (T := TX3) rfl (by decide) (Nat.le_of_ble_eq_true rfl) (s_refuse hC (k := 1) (by decide) (by decide) (by decide)) (fun r m1 hq => ?_)
      obtain ⟨rfl, hC1, hF1⟩ := hq
      exact xe_i dX3_look_13 (by rw [o_look, if_pos h1]; exact ⟨rfl, hC1, hF1⟩)
  · show Ex _ _ _ _ _ _ _ _ [zi 0] _
    refine x_if_eq (tgt := 14) dX3_look_5 rfl (fun h2 => ?_) (fun h2 => ?_)
    · refine x_iconst dX3_look_14 ⟨by decide, by decide⟩ ?_
      refine x_iload1 dX3_look_15 ?_
      refine x_ishl dX3_look_16 rfl ?_
      refine x_istore2 dX3_look_17 (by decide) rfl ?_
      refine x_aload0 dX3_look_18 ?_
      refine x_getR (q := 0) dX3_look_19 fd_X3_10 rfl rfl rfl ?_
      refine x_getI dX3_look_22 fd_X3_90 rfl (Or.inl rfl) (v := s.1 0 2) hY.looked ?_
      refine x_iload2 dX3_look_25 ?_
      refine x_iand dX3_look_26 rfl ?_
      have hbb := bit_bt h1.1 (show n < 6 by omega) hV.2.2.1.1 hV.2.2.1.2
      have hb2 := bit_bd h1.1 (show n < 6 by omega)
      refine x_if_eq (tgt := 37) dX3_look_27 rfl (fun h3 => ?_) (fun h3 => ?_)
      · have hnb : ¬ bt (s.1 0 2) n = 1 := fun q => hbb.mpr q h3
        refine x_aload0 dX3_look_37 ?_
        refine x_getR (q := 0) dX3_look_38 fd_X3_10 rfl rfl rfl ?_
        refine x_getR (q := 3) dX3_look_41 fd_X3_75 rfl rfl rfl ?_
        refine x_iload1 dX3_look_44 ?_
        refine x_iald dX3_look_45 rfl (by omega) (by omega) (v := s.1 3 n) (hY.min h1.1 (by omega)) ?_
        refine x_aload0 dX3_look_46 ?_
        refine x_getR (q := 0) dX3_look_47 fd_X3_10 rfl rfl rfl ?_
        refine x_callv0 dX3_look_50 cv_X3_102 ci_X2_timeLeft (by first | rfl | exact yb_k (by assumption)) (T := TX2) rfl (by decide) (Nat.le_of_ble_eq_true rfl) (s_timeLeft yb_0 hY hV) (fun r m2 hq => ?_)
        obtain ⟨rfl, rfl⟩ := hq
        show Ex _ _ _ _ _ _ _ _ [zi (tml s.1), zi (s.1 3 n)] _
        refine x_icmp_le (tgt := 63) dX3_look_53 rfl (fun h4 => ?_) (fun h4 => ?_)
        · refine x_aload0 dX3_look_63 ?_
          refine x_getR (q := 0) dX3_look_64 fd_X3_10 rfl rfl rfl ?_
          refine x_iload2 dX3_look_67 ?_
          refine x_callv1 dX3_look_68 cv_X3_106 ci_X2_takeEggs (by first | rfl | exact yb_k (by assumption)) (T := TX2) rfl (by decide) (Nat.le_of_ble_eq_true rfl) (s_takeEggs yb_0 hY hV) (fun r m3 hq => ?_)
          obtain ⟨rfl, hY3, hF3⟩ := hq
          show Ex _ _ _ _ _ _ _ _ [zi _] _
          refine x_istore3 dX3_look_71 (by decide) rfl ?_
          refine x_aload0 dX3_look_72 ?_
          refine x_getR (q := 0) dX3_look_73 fd_X3_10 rfl rfl rfl ?_
          refine x_dupr dX3_look_76 ?_
          refine x_getI dX3_look_77 fd_X3_109 rfl (Or.inl rfl) (v := s.1 0 5) (hY3.found.trans (tak_sc _ _ _ (by decide))) ?_
          refine x_iload3 dX3_look_80 ?_
          refine x_iadd dX3_look_81 rfl ?_
          refine x_putI dX3_look_82 fd_X3_109 rfl rfl ?_
          refine x_iload3 dX3_look_85 ?_
          refine xe_i dX3_look_86 ?_
          rw [o_look, if_neg (by omega), if_neg hnb, if_neg (by omega)]
          exact ⟨rfl, hC.yard (hF3.up (by omega) (by omega)) (YP.setFound (b := 0) hY3), (hF3.wd (by omega) (by omega)).up (by omega) (by omega)⟩
        · refine x_aload0 dX3_look_56 ?_
          refine x_bipush dX3_look_57 ⟨by decide, by decide⟩ ?_
          refine x_callv1 dX3_look_59 cv_X3_46 ci_X3_refuse rfl (T := TX3) rfl (by decide) (Nat.le_of_ble_eq_true rfl) (s_refuse hC (k := 6) (by decide) (by decide) (by decide)) (fun r m1 hq => ?_)
          obtain ⟨rfl, hC1, hF1⟩ := hq
          exact xe_i dX3_look_62 (by rw [o_look, if_neg (by omega), if_neg hnb, if_pos h4]; exact ⟨rfl, hC1, hF1⟩)
      · refine x_aload0 dX3_look_30 ?_
        refine x_bipush dX3_look_31 ⟨by decide, by decide⟩ ?_
        refine x_callv1 dX3_look_33 cv_X3_46 ci_X3_refuse rfl (T := TX3) rfl (by decide) (Nat.le_of_ble_eq_true rfl) (s_refuse hC (k := 3) (by decide) (by decide) (by decide)) (fun r m1 hq => ?_)
        obtain ⟨rfl, hC1, hF1⟩ := hq
        exact xe_i dX3_look_36 (by rw [o_look, if_neg (by omega), if_pos (hbb.mp h3)]; exact ⟨rfl, hC1, hF1⟩)
    · omega
theorem s_night (hC : CP m s) (hI : Is s) : Mt E 5 yX3_night cX3_night 2 (some .int) [zr 55] m (CQ m (o_night s)) := by
  have hV := hI.1
  have hY := hC.1.1
  have hn := hV.1
  refine Mt.of 1 (by decide +kernel) (Nat.le_of_ble_eq_true rfl) (Or.inl rfl) ?_ ?_
  · exact CQ.rt
  show Ex E cX3_night 2 RX3 5 _ 0 [some (zr 55), none] [] m
  refine x_aload0 dX3_night_0 ?_
  refine x_getR (q := 0) dX3_night_1 fd_X3_10 rfl rfl rfl ?_
  refine x_getI dX3_night_4 fd_X3_112 rfl (Or.inl rfl) (v := s.1 0 0) hY.nests ?_
  refine x_if_ne (tgt := 17) dX3_night_7 rfl (fun h1 => ?_) (fun h1 => ?_)
  · refine x_aload0 dX3_night_17 ?_
    refine x_getR (q := 0) dX3_night_18 fd_X3_10 rfl rfl rfl ?_
    refine x_getI dX3_night_21 fd_X3_115 rfl (Or.inl rfl) (v := s.1 0 4) hY.day ?_
    refine x_sipush dX3_night_24 ⟨by decide, by decide⟩ ?_
    refine x_icmp_lt (tgt := 37) dX3_night_27 rfl (fun h2 => ?_) (fun h2 => ?_)
    · refine x_aload0 dX3_night_37 ?_
      refine x_getR (q := 0) dX3_night_38 fd_X3_10 rfl rfl rfl ?_
      refine x_aload0 dX3_night_41 ?_
      refine x_getR (q := 0) dX3_night_42 fd_X3_10 rfl rfl rfl ?_
      refine x_callv0 dX3_night_45 cv_X3_118 ci_X2_allNests (by first | rfl | exact yb_k (by assumption)) (T := TX2) rfl (by decide) (Nat.le_of_ble_eq_true rfl) (s_allNests yb_0 hY hV) (fun r m1 hq => ?_)
      obtain ⟨rfl, rfl⟩ := hq
      refine x_callv1 dX3_night_48 cv_X3_121 ci_X2_laysAmong (by first | rfl | exact yb_k (by assumption)) (T := TX2) rfl (by decide) (Nat.le_of_ble_eq_true rfl) (s_laysAmong yb_0 hY hV (by decide) (all_sub hn.1 hn.2)) (fun r m2 hq => ?_)
      obtain ⟨rfl, hY2, hF2⟩ := hq
      have hl := lay_in hV (by decide) h1
      rw [lc_nn (show 0 ≤ lays s.1 (alln (s.1 0 0)) from hl.1)]
      show Ex _ _ _ _ _ _ _ _ [zi (lay s.1)] _
      refine x_istore1 dX3_night_51 (by decide) rfl ?_
      refine x_aload0 dX3_night_52 ?_
      refine x_getR (q := 0) dX3_night_53 fd_X3_10 rfl rfl rfl ?_
      refine x_iload1 dX3_night_56 ?_
      refine x_callv1 dX3_night_57 cv_X3_124 ci_X2_passNight (by first | rfl | exact yb_k (by assumption)) (T := TX2) rfl (by decide) (Nat.le_of_ble_eq_true rfl) (s_passNight yb_0 hY2 hV (by decide) hl) (fun r m3 hq => ?_)
      obtain ⟨rfl, hY3, hF3⟩ := hq
      show Ex _ _ _ _ _ _ _ _ [] _
      refine x_iload1 dX3_night_60 ?_
      have hFt : Fr 0 8 m1 m3 := (hF2.wd (lo' := 0) (hi' := 8) (by omega) (by omega)).tr hF3
      exact xe_i dX3_night_61 (by rw [o_night, if_neg h1, if_neg (by omega)]; exact ⟨rfl, hC.yard hFt hY3, hFt.wd (by omega) (by omega)⟩)
    · refine x_aload0 dX3_night_30 ?_
      refine x_bipush dX3_night_31 ⟨by decide, by decide⟩ ?_
      refine x_callv1 dX3_night_33 cv_X3_46 ci_X3_refuse rfl (T := TX3) rfl (by decide) (Nat.le_of_ble_eq_true rfl) (s_refuse hC (k := 6) (by decide) (by decide) (by decide)) (fun r m1 hq => ?_)
      obtain ⟨rfl, hC1, hF1⟩ := hq
      exact xe_i dX3_night_36 (by rw [o_night, if_neg h1, if_pos (by omega)]; exact ⟨rfl, hC1, hF1⟩)
  · refine x_aload0 dX3_night_10 ?_
    refine x_bipush dX3_night_11 ⟨by decide, by decide⟩ ?_
    refine x_callv1 dX3_night_13 cv_X3_46 ci_X3_refuse rfl (T := TX3) rfl (by decide) (Nat.le_of_ble_eq_true rfl) (s_refuse hC (k := 3) (by decide) (by decide) (by decide)) (fun r m1 hq => ?_)
    obtain ⟨rfl, hC1, hF1⟩ := hq
    exact xe_i dX3_night_16 (by rw [o_night, if_pos h1]; exact ⟨rfl, hC1, hF1⟩)
theorem s_tonight (hC : CP m s) (hI : Is s) {w : Int} : Mt E 5 yX3_tonight cX3_tonight 3 (some .int) [zr 55, zi w] m (CQ m (o_tonight s w)) := by
  have hV := hI.1
  have hY := hC.1.1
  have hn := hV.1
  refine Mt.of 1 (by decide +kernel) (Nat.le_of_ble_eq_true rfl) (Or.inl rfl) ?_ ?_
  · exact CQ.rt
  show Ex E cX3_tonight 3 RX3 5 _ 0 [some (zr 55), some (zi w), none] [] m
  refine x_iload1 dX3_tonight_0 ?_
  refine x_if_lt (tgt := 9) dX3_tonight_1 rfl (fun h1 => ?_) (fun h1 => ?_)
  · refine x_aload0 dX3_tonight_9 ?_
    refine x_bipush dX3_tonight_10 ⟨by decide, by decide⟩ ?_
    refine x_callv1 dX3_tonight_12 cv_X3_46 ci_X3_refuse rfl (T := TX3) rfl (by decide) (Nat.le_of_ble_eq_true rfl) (s_refuse hC (k := 2) (by decide) (by decide) (by decide)) (fun r m1 hq => ?_)
    obtain ⟨rfl, hC1, hF1⟩ := hq
    exact xe_i dX3_tonight_15 (by rw [o_tonight, if_pos (by omega)]; exact ⟨rfl, hC1, hF1⟩)
  · refine x_iload1 dX3_tonight_4 ?_
    refine x_iconst dX3_tonight_5 ⟨by decide, by decide⟩ ?_
    refine x_icmp_le (tgt := 16) dX3_tonight_6 rfl (fun h2 => ?_) (fun h2 => ?_)
    · refine x_aload0 dX3_tonight_16 ?_
      refine x_getR (q := 0) dX3_tonight_17 fd_X3_10 rfl rfl rfl ?_
      refine x_getI dX3_tonight_20 fd_X3_112 rfl (Or.inl rfl) (v := s.1 0 0) hY.nests ?_
      refine x_if_ne (tgt := 33) dX3_tonight_23 rfl (fun h3 => ?_) (fun h3 => ?_)
      · refine x_aload0 dX3_tonight_33 ?_
        refine x_getR (q := 0) dX3_tonight_34 fd_X3_10 rfl rfl rfl ?_
        refine x_callv0 dX3_tonight_37 cv_X3_118 ci_X2_allNests (by first | rfl | exact yb_k (by assumption)) (T := TX2) rfl (by decide) (Nat.le_of_ble_eq_true rfl) (s_allNests yb_0 hY hV) (fun r m1 hq => ?_)
        obtain ⟨rfl, rfl⟩ := hq
        show Ex _ _ _ _ _ _ _ _ [zi _] _
        refine x_istore2 dX3_tonight_40 (by decide) rfl ?_
        refine x_iload1 dX3_tonight_41 ?_
        refine x_if_ne (tgt := 56) dX3_tonight_42 rfl (fun h4 => ?_) (fun h4 => ?_)
        · refine x_aload0 dX3_tonight_56 ?_
          refine x_getR (q := 0) dX3_tonight_57 fd_X3_10 rfl rfl rfl ?_
          refine x_iload2 dX3_tonight_60 ?_
          refine x_callv1 dX3_tonight_61 cv_X3_128 ci_X2_mayAmong (by first | rfl | exact yb_k (by assumption)) (T := TX2) rfl (by decide) (Nat.le_of_ble_eq_true rfl) (s_mayAmong yb_0 hY) (fun r m2 hq => ?_)
          obtain ⟨rfl, rfl⟩ := hq
          exact xe_i dX3_tonight_64 (by rw [o_tonight, if_neg (by omega), if_neg h3, if_neg h4]; exact ⟨rfl, hC, Fr.rf⟩)
        · refine x_aload0 dX3_tonight_45 ?_
          refine x_getR (q := 0) dX3_tonight_46 fd_X3_10 rfl rfl rfl ?_
          refine x_iload2 dX3_tonight_49 ?_
          refine x_callv1 dX3_tonight_50 cv_X3_121 ci_X2_laysAmong (by first | rfl | exact yb_k (by assumption)) (T := TX2) rfl (by decide) (Nat.le_of_ble_eq_true rfl) (s_laysAmong yb_0 hY hV (by decide) (all_sub hn.1 hn.2)) (fun r m2 hq => ?_)
          obtain ⟨rfl, hY2, hF2⟩ := hq
          have hl := lay_in hV (by decide) h3
          rw [lc_nn (show 0 ≤ lays s.1 (alln (s.1 0 0)) from hl.1)]
          show Ex _ _ _ _ _ _ _ _ [zi (lay s.1)] _
          refine x_goto (tgt := 64) dX3_tonight_53 rfl ?_
          exact xe_i dX3_tonight_64 (by rw [o_tonight, if_neg (by omega), if_neg h3, if_pos h4]; exact ⟨rfl, hC.yard (hF2.wd (by omega) (by omega)) hY2, hF2.wd (by omega) (by omega)⟩)
      · refine x_aload0 dX3_tonight_26 ?_
        refine x_bipush dX3_tonight_27 ⟨by decide, by decide⟩ ?_
        refine x_callv1 dX3_tonight_29 cv_X3_46 ci_X3_refuse rfl (T := TX3) rfl (by decide) (Nat.le_of_ble_eq_true rfl) (s_refuse hC (k := 3) (by decide) (by decide) (by decide)) (fun r m1 hq => ?_)
        obtain ⟨rfl, hC1, hF1⟩ := hq
        exact xe_i dX3_tonight_32 (by rw [o_tonight, if_neg (by omega), if_pos h3]; exact ⟨rfl, hC1, hF1⟩)
    · refine x_aload0 dX3_tonight_9 ?_
      refine x_bipush dX3_tonight_10 ⟨by decide, by decide⟩ ?_
      refine x_callv1 dX3_tonight_12 cv_X3_46 ci_X3_refuse rfl (T := TX3) rfl (by decide) (Nat.le_of_ble_eq_true rfl) (s_refuse hC (k := 2) (by decide) (by decide) (by decide)) (fun r m1 hq => ?_)
      obtain ⟨rfl, hC1, hF1⟩ := hq
      exact xe_i dX3_tonight_15 (by rw [o_tonight, if_pos (by omega)]; exact ⟨rfl, hC1, hF1⟩)
-- Euclid's
def euc : Nat → Nat → Nat → Nat
  | 0, a, _ => a
  | k + 1, a, c => if c = 0 then a else euc k c (a % c)
theorem euc_gcd : ∀ (k a c : Nat), c ≤ k → euc k a c = Nat.gcd a c
  | 0, a, c, h => by
    have : c = 0 := by omega
    subst this
    simp [euc]
  | k + 1, a, c, h => by
    unfold euc
    by_cases hc : c = 0
    · rw [if_pos hc, hc, Nat.gcd_zero_right]
    · rw [if_neg hc, euc_gcd k c (a % c) (by have := Nat.mod_lt a (Nat.pos_of_ne_zero hc); omega), Nat.gcd_comm, ← Nat.gcd_rec, Nat.gcd_comm]
/-- two steps more than halve: so few are enough -/
theorem euc_few : ∀ (k a c : Nat), c < 2 ^ k → euc (2 * k) a c = Nat.gcd a c
  | 0, a, c, h => by
    have : c = 0 := by omega
    subst this
    simp [euc]
  | k + 1, a, c, h => by
    show euc (2 * k + 1 + 1) a c = _
    unfold euc
    by_cases hc : c = 0
    · rw [if_pos hc, hc, Nat.gcd_zero_right]
    · rw [if_neg hc]
      unfold euc
      by_cases h2 : a % c = 0
      · rw [if_pos h2]
        have : Nat.gcd a c = Nat.gcd (a % c) c := by rw [Nat.gcd_comm, Nat.gcd_rec, Nat.gcd_comm]
        rw [this, h2, Nat.gcd_zero_left]
      · rw [if_neg h2]
        have hlt := Nat.mod_lt a (Nat.pos_of_ne_zero hc)
        have h3 : c % (a % c) < 2 ^ k := by
          have h4 := Nat.mod_lt c (Nat.pos_of_ne_zero h2)
          have h5 := Nat.div_add_mod c (a % c)
          have h6 : 1 ≤ c / (a % c) := Nat.div_pos (by omega) (by omega)
          have h7 : (a % c) * 1 ≤ (a % c) * (c / (a % c)) := Nat.mul_le_mul_left _ h6
          rw [Nat.pow_succ] at h
          omega
        rw [euc_few k _ _ h3]
        have e1 : Nat.gcd (a % c) (c % (a % c)) = Nat.gcd c (a % c) := by rw [Nat.gcd_comm c (a % c), Nat.gcd_rec (a % c) c, Nat.gcd_comm]
        rw [e1, Nat.gcd_comm c (a % c), ← Nat.gcd_rec, Nat.gcd_comm]
theorem irm_nat {a c : Nat} (h0 : a ≤ 2147483647) (h1 : 0 < c) (h2 : c ≤ 2147483647) : irm (a : Int) (c : Int) = ((a % c : Nat) : Int) := by
  rw [irm_pos (by omega) (by omega) (by omega) (by omega)]
  push_cast
  rfl
theorem s_commonDivisor {a c : Nat} (ha : a < 1000) (hc : c < 1000) : Mt E 1 yX3_commonDivisor cX3_commonDivisor 6 (some .int) [zi (a : Int), zi (c : Int)] m (ans (some (zi (Nat.gcd a c : Int))) m) := by
  refine Mt.of 4 (by decide +kernel) (Nat.le_of_ble_eq_true rfl) (Or.inl rfl) ?_ ?_
  · rintro r m' ⟨rfl, rfl⟩; simp
  show Ex E cX3_commonDivisor 6 RX3 1 _ 0 [some (zi a), some (zi c), none, none, none, none] [] m
  have loop : ∀ (k : Nat) (x y : Nat), k ≤ 64 → x < 1000 → y < 1000 → euc k x y = Nat.gcd a c → Ex E cX3_commonDivisor 6 RX3 1 (ans (some (zi (Nat.gcd a c : Int))) m) 7 [some (zi a), some (zi c), some (zi x), some (zi y), some (zi (64 - (k : Int))), none] [] m := by
    intro k
    induction k with
    | zero =>
      intro x y hk hx hy hg
      refine x_iload4 dX3_commonDivisor_7 ?_
      refine x_bipush dX3_commonDivisor_9 ⟨by decide, by decide⟩ ?_
      refine x_icmp_ge (tgt := 34) dX3_commonDivisor_11 rfl (fun h1 => ?_) (fun h1 => ?_)
      · refine x_iload2 dX3_commonDivisor_34 ?_
        exact xe_i dX3_commonDivisor_35 (⟨by rw [← hg]; rfl, rfl⟩)
      · omega
    | succ k ih =>
      intro x y hk hx hy hg
      refine x_iload4 dX3_commonDivisor_7 ?_
      refine x_bipush dX3_commonDivisor_9 ⟨by decide, by decide⟩ ?_
      refine x_icmp_ge (tgt := 34) dX3_commonDivisor_11 rfl (fun h1 => ?_) (fun h1 => ?_)
      · omega
      · refine x_iload3 dX3_commonDivisor_14 ?_
        refine x_if_eq (tgt := 34) dX3_commonDivisor_15 rfl (fun h2 => ?_) (fun h2 => ?_)
        · refine x_iload2 dX3_commonDivisor_34 ?_
          have : y = 0 := by omega
          exact xe_i dX3_commonDivisor_35 (⟨by rw [← hg, euc, if_pos this], rfl⟩)
        · have hy0 : y ≠ 0 := by omega
          refine x_iload2 dX3_commonDivisor_18 ?_
          refine x_iload3 dX3_commonDivisor_19 ?_
          refine x_irem dX3_commonDivisor_20 (by omega) (v := ((x % y : Nat) : Int)) (irm_nat (by omega) (by omega) (by omega)) ?_
          refine x_istore5 dX3_commonDivisor_21 (by decide) rfl ?_
          refine x_iload3 dX3_commonDivisor_23 ?_
          refine x_istore2 dX3_commonDivisor_24 (by decide) rfl ?_
          refine x_iload5 dX3_commonDivisor_25 ?_
          refine x_istore3 dX3_commonDivisor_27 (by decide) rfl ?_
          refine x_iinc4 dX3_commonDivisor_28 (by decide) rfl (nrm_id (by omega) (by omega)) ?_
          refine x_goto (tgt := 7) dX3_commonDivisor_31 rfl ?_
          have hlt := Nat.mod_lt x (Nat.pos_of_ne_zero hy0)
          refine Ex.wk (L' := [some (zi a), some (zi c), some (zi y), some (zi ((x % y : Nat) : Int)), some (zi (64 - ((k + 1 : Nat) : Int) + 1)), none]) ⟨rfl, rfl, rfl, rfl, rfl, trivial⟩ (Ex.eq (by rw [show (64 : Int) - ((k + 1 : Nat) : Int) + 1 = 64 - k by omega]) rfl rfl (ih y (x % y) (by omega) (by omega) (by omega) ?_))
          rw [← hg, euc, if_neg hy0]
  refine x_iload0 dX3_commonDivisor_0 ?_
  refine x_istore2 dX3_commonDivisor_1 (by decide) rfl ?_
  refine x_iload1 dX3_commonDivisor_2 ?_
  refine x_istore3 dX3_commonDivisor_3 (by decide) rfl ?_
  refine x_iconst dX3_commonDivisor_4 ⟨by decide, by decide⟩ ?_
  refine x_istore4 dX3_commonDivisor_5 (by decide) rfl ?_
  have h232 : c < 2 ^ 32 := by
    have : (1000 : Nat) ≤ 2 ^ 32 := by decide
    omega
  exact loop 64 a c (by omega) ha hc (euc_few 32 a c h232)
end MC2
