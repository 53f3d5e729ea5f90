section YM3
variable {E : zz_E} {m : zz_M} {b : Nat} {V : zz_W} {D : Int}
def bcx (y : Int) : Int :=
  let x1 := nrm (y - ian (ius y 1) 1431655765)
  let x2 := nrm (ian x1 858993459 + ian (ius x1 2) 858993459)
  let x3 := ian (nrm (x2 + ius x2 4)) 252645135
  let x4 := nrm (x3 + ius x3 8)
  let x5 := nrm (x4 + ius x4 16)
  ian x5 63
theorem bcx_ok : ∀ y : Fin 64, bcx (y.val : Int) = smI (bt (y.val : Int)) 6 := by decide +kernel
theorem bcx_eq {y : Int} (h0 : 0 ≤ y) (h1 : y < 64) : bcx y = smI (bt y) 6 := by
  have h := bcx_ok ⟨y.toNat, by omega⟩
  have e : ((y.toNat : Nat) : Int) = y := by omega
  simpa only [e] using h
theorem s_bitCount {y : Int} (h0 : 0 ≤ y) (h1 : y < 64) : Mt E 1 yJ6_bitCount_0f7a4 cJ6_bitCount_0f7a4 1 (some .int) [zi y] m (ans (some (zi (smI (bt y) 6))) m) := by
  refine Mt.of 0 (by decide +kernel) (Nat.le_of_ble_eq_true rfl) (Or.inl rfl) ?_ ?_
  · rintro r m' ⟨rfl, rfl⟩; simp
  show Ex E cJ6_bitCount_0f7a4 1 RJ6 1 _ 0 [some (zi y)] [] m
  refine x_iload0 dJ6_bitCount_0f7a4_0 ?_
  refine x_iload0 dJ6_bitCount_0f7a4_1 ?_
  refine x_iconst dJ6_bitCount_0f7a4_2 ⟨by decide, by decide⟩ ?_
  refine x_iushr dJ6_bitCount_0f7a4_3 rfl ?_
  refine x_ldcw (v := 1431655765) dJ6_bitCount_0f7a4_4 ⟨by decide, by decide⟩ ct_J6_265 ?_
  refine x_iand dJ6_bitCount_0f7a4_7 rfl ?_
  refine x_isub dJ6_bitCount_0f7a4_8 rfl ?_
  refine x_istore0 dJ6_bitCount_0f7a4_9 (by decide) rfl ?_
  refine x_iload0 dJ6_bitCount_0f7a4_10 ?_
  refine x_ldcw (v := 858993459) dJ6_bitCount_0f7a4_11 ⟨by decide, by decide⟩ ct_J6_266 ?_
  refine x_iand dJ6_bitCount_0f7a4_14 rfl ?_
  refine x_iload0 dJ6_bitCount_0f7a4_15 ?_
  refine x_iconst dJ6_bitCount_0f7a4_16 ⟨by decide, by decide⟩ ?_
  refine x_iushr dJ6_bitCount_0f7a4_17 rfl ?_
  refine x_ldcw (v := 858993459) dJ6_bitCount_0f7a4_18 ⟨by decide, by decide⟩ ct_J6_266 ?_
  refine x_iand dJ6_bitCount_0f7a4_21 rfl ?_
  refine x_iadd dJ6_bitCount_0f7a4_22 rfl ?_
  refine x_istore0 dJ6_bitCount_0f7a4_23 (by decide) rfl ?_
  refine x_iload0 dJ6_bitCount_0f7a4_24 ?_
  refine x_iload0 dJ6_bitCount_0f7a4_25 ?_
  refine x_iconst dJ6_bitCount_0f7a4_26 ⟨by decide, by decide⟩ ?_
  refine x_iushr dJ6_bitCount_0f7a4_27 rfl ?_
  refine x_iadd dJ6_bitCount_0f7a4_28 rfl ?_
  refine x_ldcw (v := 252645135) dJ6_bitCount_0f7a4_29 ⟨by decide, by decide⟩ ct_J6_267 ?_
  refine x_iand dJ6_bitCount_0f7a4_32 rfl ?_
  refine x_istore0 dJ6_bitCount_0f7a4_33 (by decide) rfl ?_
  refine x_iload0 dJ6_bitCount_0f7a4_34 ?_
  refine x_iload0 dJ6_bitCount_0f7a4_35 ?_
  refine x_bipush dJ6_bitCount_0f7a4_36 ⟨by decide, by decide⟩ ?_
  refine x_iushr dJ6_bitCount_0f7a4_38 rfl ?_
  refine x_iadd dJ6_bitCount_0f7a4_39 rfl ?_
  refine x_istore0 dJ6_bitCount_0f7a4_40 (by decide) rfl ?_
  refine x_iload0 dJ6_bitCount_0f7a4_41 ?_
  refine x_iload0 dJ6_bitCount_0f7a4_42 ?_
  refine x_bipush dJ6_bitCount_0f7a4_43 ⟨by decide, by decide⟩ ?_
  refine x_iushr dJ6_bitCount_0f7a4_45 rfl ?_
  refine x_iadd dJ6_bitCount_0f7a4_46 rfl ?_
  refine x_istore0 dJ6_bitCount_0f7a4_47 (by decide) rfl ?_
  refine x_iload0 dJ6_bitCount_0f7a4_48 ?_
  refine x_bipush dJ6_bitCount_0f7a4_49 ⟨by decide, by decide⟩ ?_
  refine x_iand dJ6_bitCount_0f7a4_51 rfl ?_
  refine xe_i dJ6_bitCount_0f7a4_52 ⟨?_, rfl⟩
  rw [← bcx_eq h0 h1]
  rfl
/-- a set of the nests below n -/
def sub6 (n y : Int) : Prop := 0 ≤ y ∧ y < 64 ∧ ∀ i, n ≤ i → i < 6 → bt y i = 0
theorem bt_01f : ∀ (y : Fin 64) (i : Fin 6), bt (y.val : Int) (i.val : Int) = 0 ∨ bt (y.val : Int) (i.val : Int) = 1 := by decide +kernel
theorem bt_01 {y i : Int} (h0 : 0 ≤ y) (h1 : y < 64) (h2 : 0 ≤ i) (h3 : i < 6) : bt y i = 0 ∨ bt y i = 1 := by
  have h := bt_01f ⟨y.toNat, by omega⟩ ⟨i.toNat, by omega⟩
  have e : ((y.toNat : Nat) : Int) = y := by omega
  have e2 : ((i.toNat : Nat) : Int) = i := by omega
  simpa only [e, e2] using h
theorem smI_ext {f : Int → Int} {n k : Nat} (h : ∀ i : Int, n ≤ i → i < n + k → f i = 0) : smI f (n + k) = smI f n := by
  induction k with
  | zero => rfl
  | succ k ih =>
    show smI f (n + k) + f ((n + k : Nat) : Int) = _
    rw [ih (fun i h0 h1 => h i h0 (by omega)), h _ (by omega) (by omega)]
    omega
theorem sub6_sum {n y : Int} (hn : 0 ≤ n ∧ n ≤ 6) (h : sub6 n y) : smI (bt y) 6 = smI (bt y) n.toNat := by
  have := smI_ext (f := bt y) (n := n.toNat) (k := 6 - n.toNat) (fun i h0 h1 => h.2.2 i (by omega) (by omega))
  rw [← this]
  congr 1
  omega
/-- the weights hold f below n -/
def WP (m : zz_M) (b : Nat) (f : Int → Int) (n : Int) : Prop := ∀ z, 0 ≤ z → z < n → m (b + 7) z.toNat = f z
theorem WP.put {m : zz_M} {b : Nat} {f : Int → Int} {n x : Int} (h : WP m b f n) (h0 : 0 ≤ n) (hx : x = f n) : WP (up m (b + 7) n.toNat x) b f (n + 1) := by
  intro z h1 h2
  unfold up
  by_cases hz : z = n
  · subst hz
    rw [if_pos ⟨rfl, rfl⟩, hx]
  · rw [if_neg (fun q => hz (by have := q.2; omega))]
    exact h z h1 (by omega)
theorem s_weighAlike (hb : YB b) (hY : YP m b V) (hn : 0 ≤ V 0 0 ∧ V 0 0 ≤ 6) {y : Int} (hy : sub6 (V 0 0) y) : Mt E 2 yX2_weighAlike cX2_weighAlike 3 (some .int) [zr b, zi y] m (fun r m' => r = some (zi (smI (bt y) (V 0 0).toNat)) ∧ WP m' b (bt y) (V 0 0) ∧ YP m' b V ∧ Fr (b + 7) (b + 8) m m') := by
  refine Mt.of 1 (by decide +kernel) (Nat.le_of_ble_eq_true rfl) (Or.inl rfl) ?_ ?_
  · rintro r m' ⟨rfl, -⟩; simp
  show Ex E cX2_weighAlike 3 RX2 2 _ 0 [some (zr b), some (zi y), none] [] m
  have loop : ∀ (k j : Nat) (m1 : zz_M), (j : Int) + k = V 0 0 → WP m1 b (bt y) j → YP m1 b V → Fr (b + 7) (b + 8) m m1 → Ex E cX2_weighAlike 3 RX2 2 (fun r m' => r = some (zi (smI (bt y) (V 0 0).toNat)) ∧ WP m' b (bt y) (V 0 0) ∧ YP m' b V ∧ Fr (b + 7) (b + 8) m m') 2 [some (zr b), some (zi y), some (zi j)] [] m1 := by
    intro k
    induction k with
    | zero =>
      intro j m1 hj hW hY hF
      refine x_iload2 dX2_weighAlike_2 ?_
      refine x_aload0 dX2_weighAlike_3 ?_
      refine x_getI dX2_weighAlike_4 fd_X2_43 (by first | rfl | exact yb_k (by assumption)) (Or.inl rfl) (v := V 0 0) hY.nests ?_
      refine x_icmp_ge (tgt := 27) dX2_weighAlike_7 rfl (fun hc => ?_) (fun hc => ?_)
      · refine x_iload1 dX2_weighAlike_27 ?_
        refine x_calls1 dX2_weighAlike_28 cv_X2_84 cs_J6_bitCount_0f7a4 (by decide) (Nat.le_of_ble_eq_true rfl) (s_bitCount hy.1 hy.2.1) (fun r m2 hq => ?_)
        obtain ⟨rfl, rfl⟩ := hq
        have hj2 : (j : Int) = V 0 0 := by omega
        exact xe_i dX2_weighAlike_31 (⟨by rw [sub6_sum hn hy], by rw [← hj2]; exact hW, hY, hF⟩)
      · omega
    | succ k ih =>
      intro j m1 hj hW hY hF
      refine x_iload2 dX2_weighAlike_2 ?_
      refine x_aload0 dX2_weighAlike_3 ?_
      refine x_getI dX2_weighAlike_4 fd_X2_43 (by first | rfl | exact yb_k (by assumption)) (Or.inl rfl) (v := V 0 0) hY.nests ?_
      refine x_icmp_ge (tgt := 27) dX2_weighAlike_7 rfl (fun hc => ?_) (fun hc => ?_)
      · omega
      · refine x_aload0 dX2_weighAlike_10 ?_
        refine x_getR (q := b + 7) dX2_weighAlike_11 fd_X2_30 (by first | rfl | exact yb_k (by assumption)) rfl (yb_p6 (by assumption)) ?_
        refine x_iload2 dX2_weighAlike_14 ?_
        refine x_iload1 dX2_weighAlike_15 ?_
        refine x_iload2 dX2_weighAlike_16 ?_
        refine x_ishr dX2_weighAlike_17 rfl ?_
        refine x_iconst dX2_weighAlike_18 ⟨by decide, by decide⟩ ?_
        refine x_iand dX2_weighAlike_19 rfl ?_
        refine x_iast dX2_weighAlike_20 (yb_a6 (by assumption)) (by omega) (by omega) ?_
        refine x_iinc2 dX2_weighAlike_21 (by decide) rfl (nrm_id (by omega) (by omega)) ?_
        refine x_goto (tgt := 2) dX2_weighAlike_24 rfl ?_
        refine Ex.eq (by push_cast; rfl) rfl rfl (ih (j + 1) _ (by omega) ?_ hY.w (hF.up (by omega) (by omega)))
        have := hW.put (by omega) (x := bt y j) rfl
        push_cast
        exact this
  refine x_iconst dX2_weighAlike_0 ⟨by decide, by decide⟩ ?_
  refine x_istore2 dX2_weighAlike_1 (by decide) rfl ?_
  exact loop (V 0 0).toNat 0 m (by omega) (fun z h0 h1 => by omega) hY Fr.rf
theorem lfrom_ok (hI : Iv D V) : 0 ≤ lfrom V ∧ lfrom V < 6 := by
  obtain ⟨hn, hl, -⟩ := hI
  unfold lfrom
  split <;> omega
theorem near_bd (hI : Iv D V) {n : Int} (h0 : 0 ≤ n) (h1 : n < 6) : 2 ≤ near V n ∧ near V n ≤ 20 := by
  have hf := lfrom_ok hI
  obtain ⟨hn, hl, hk0, hd, hk, hfg, ht, hr, hx, he, hz⟩ := hI
  have g1 := hx n h0 h1
  have g2 := hx _ hf.1 hf.2
  unfold near zabs
  split <;> split <;> omega
theorem away_bd (hI : Iv D V) {n : Int} (h0 : 0 ≤ n) (h1 : n < 6) : 0 ≤ away V n ∧ away V n ≤ 20 := by
  have := near_bd hI h0 h1
  unfold away
  split <;> omega
theorem mul99 {a c : Int} (h0 : 0 ≤ a) (h1 : a ≤ 9) (h2 : 0 ≤ c) (h3 : c ≤ 9) : 0 ≤ a * c ∧ a * c ≤ 81 :=
  ⟨Int.mul_nonneg h0 h2, by have := Int.mul_le_mul h1 h3 h2 (by decide : (0 : Int) ≤ 9); omega⟩
theorem raw_bd (hI : Iv D V) {n : Int} (h0 : 0 ≤ n) (h1 : n < 6) : 0 ≤ raw V n ∧ raw V n ≤ 101 := by
  have h2 := near_bd hI h0 h1
  have h3 := away_bd hI h0 h1
  obtain ⟨hn, hl, hk0, hd, hk, hfg, ht, hr, hx, he, hz⟩ := hI
  have g1 := hx n h0 h1
  have g2 := eggs_bd he h0 h1 10 (by omega)
  have g3 : 0 ≤ V 0 7 * (if 0 < 9 - eggs V n then 9 - eggs V n else 0) ∧ V 0 7 * (if 0 < 9 - eggs V n then 9 - eggs V n else 0) ≤ 81 := by
    apply mul99 hfg.1 hfg.2
    · split <;> omega
    · unfold eggs
      split <;> omega
  unfold raw
  split
  · omega
  · split
    · omega
    · split
      · omega
      · split
        · omega
        · split
          · split <;> omega
          · omega
theorem tail_bd {x y c : Int} (hx : 0 ≤ x ∧ x ≤ c) (hy : 0 ≤ y ∧ y ≤ c) : 0 ≤ (if 0 ≤ x - y then x - y else -(x - y)) ∧ (if 0 ≤ x - y then x - y else -(x - y)) ≤ c := by
  split <;> omega
theorem s_weightOf (hb : YB b) (hY : YP m b V) (hI : Iv D V) {n : Int} (h0 : 0 ≤ n) (h1 : n < V 0 0) : Mt E 2 yX2_weightOf cX2_weightOf 5 (some .int) [zr b, zi n] m (ans (some (zi (raw V n))) m) := by
  have hlf := lfrom_ok hI
  have hI2 := hI
  obtain ⟨hn, hl, hk0, hd, hk, hfg, ht, hr, hx, he, hz⟩ := hI
  refine Mt.of 3 (by decide +kernel) (Nat.le_of_ble_eq_true rfl) (Or.inl rfl) ?_ ?_
  · rintro r m' ⟨rfl, rfl⟩; simp
  show Ex E cX2_weightOf 5 RX2 2 _ 0 [some (zr b), some (zi n), none, none, none] [] m
  have hnb := near_bd hI2 h0 (show n < 6 by omega)
  have hab := away_bd hI2 h0 (show n < 6 by omega)
  have g1 := hx n h0 (by omega)
  have g2 := hx _ hlf.1 hlf.2
  -- from 79: the kinds
  have kinds : Ex E cX2_weightOf 5 RX2 2 (ans (some (zi (raw V n))) m) 79 [some (zr b), some (zi n), some (zi (lfrom V)), some (zi (near V n)), some (zi (away V n))] [] m := by
    refine x_aload0 dX2_weightOf_79 ?_
    refine x_getR (q := b + 6) dX2_weightOf_80 fd_X2_27 (by first | rfl | exact yb_k (by assumption)) rfl (yb_p5 (by assumption)) ?_
    refine x_iconst dX2_weightOf_83 ⟨by decide, by decide⟩ ?_
    refine x_iald dX2_weightOf_84 (yb_a5 (by assumption)) (by omega) (by omega) (v := V 0 6) hY.kind ?_
    have hkk : V 0 6 = 0 ∨ V 0 6 = 1 ∨ V 0 6 = 2 ∨ V 0 6 = 3 ∨ V 0 6 = 4 ∨ V 0 6 = 5 := by omega
    rcases hkk with q | q | q | q | q | q
    · rw [q]
      refine x_tout (tgt := 179) dX2_weightOf_85 (by omega) rfl ?_
      refine x_iload3 dX2_weightOf_179 ?_
      exact xe_i dX2_weightOf_180 (⟨by rw [raw, q]; rfl, rfl⟩)
    · rw [q]
      refine x_tin (tgt := 120) (off := 35) dX2_weightOf_85 (by decide) (by decide) rfl rfl ?_
      refine x_aload0 dX2_weightOf_120 ?_
      refine x_getR (q := b + 4) dX2_weightOf_121 fd_X2_21 (by first | rfl | exact yb_k (by assumption)) rfl (yb_p3 (by assumption)) ?_
      refine x_iload1 dX2_weightOf_124 ?_
      refine x_iald dX2_weightOf_125 (yb_a3 (by assumption)) (by omega) (by omega) (v := V 4 n) (hY.lik h0 (by omega)) ?_
      exact xe_i dX2_weightOf_126 (⟨by rw [raw, q]; rfl, rfl⟩)
    · rw [q]
      refine x_tin (tgt := 127) (off := 42) dX2_weightOf_85 (by decide) (by decide) rfl rfl ?_
      refine x_iconst dX2_weightOf_127 ⟨by decide, by decide⟩ ?_
      exact xe_i dX2_weightOf_128 (⟨by rw [raw, q]; rfl, rfl⟩)
    · rw [q]
      refine x_tin (tgt := 129) (off := 44) dX2_weightOf_85 (by decide) (by decide) rfl rfl ?_
      refine x_iload4 dX2_weightOf_129 ?_
      exact xe_i dX2_weightOf_131 (⟨by rw [raw, q]; rfl, rfl⟩)
    · rw [q]
      refine x_tin (tgt := 132) (off := 47) dX2_weightOf_85 (by decide) (by decide) rfl rfl ?_
      refine x_iload4 dX2_weightOf_132 ?_
      refine x_aload0 dX2_weightOf_134 ?_
      refine x_getR (q := b + 6) dX2_weightOf_135 fd_X2_27 (by first | rfl | exact yb_k (by assumption)) rfl (yb_p5 (by assumption)) ?_
      refine x_iconst dX2_weightOf_138 ⟨by decide, by decide⟩ ?_
      refine x_iald dX2_weightOf_139 (yb_a5 (by assumption)) (by omega) (by omega) (v := V 0 7) hY.figure ?_
      refine x_iconst dX2_weightOf_140 ⟨by decide, by decide⟩ ?_
      refine x_bipush dX2_weightOf_141 ⟨by decide, by decide⟩ ?_
      refine x_aload0 dX2_weightOf_143 ?_
      refine x_iload1 dX2_weightOf_144 ?_
      refine x_callv1 dX2_weightOf_145 cv_X2_68 ci_X2_eggsAt (by first | rfl | exact yb_k (by assumption)) (T := TX2) rfl (by decide) (Nat.le_of_ble_eq_true rfl) (s_eggsAt hb hY he (n := n) h0 (by omega)) (fun r m1 hq => ?_)
      obtain ⟨rfl, rfl⟩ := hq
      have g3 := eggs_bd he h0 (show n < 6 by omega) 10 (by omega)
      have g5 : eggs V n = smI (fun a => V 5 (10 * n + a)) 10 := rfl
      rw [← g5] at g3
      show Ex _ _ _ _ _ _ _ _ [zi (eggs V n), zi 9, zi 0, zi (V 0 7), zi (away V n)] _
      have g4 : 0 ≤ V 0 7 * (if 0 < 9 - eggs V n then 9 - eggs V n else 0) ∧ V 0 7 * (if 0 < 9 - eggs V n then 9 - eggs V n else 0) ≤ 81 := by
        apply mul99 hfg.1 hfg.2
        · split <;> omega
        · split <;> omega
      refine x_isub dX2_weightOf_148 (nrm_id (by omega) (by omega)) ?_
      refine x_max dX2_weightOf_149 mx_X2_94 (by decide) (Nat.le_of_ble_eq_true rfl) rfl ?_
      refine x_imul dX2_weightOf_152 (nrm_id (by omega) (by omega)) ?_
      refine x_iadd dX2_weightOf_153 (nrm_id (by omega) (by omega)) ?_
      exact xe_i dX2_weightOf_154 (⟨by rw [raw, q]; rfl, rfl⟩)
    · rw [q]
      refine x_tin (tgt := 155) (off := 70) dX2_weightOf_85 (by decide) (by decide) rfl rfl ?_
      refine x_aload0 dX2_weightOf_155 ?_
      refine x_getR (q := b + 4) dX2_weightOf_156 fd_X2_21 (by first | rfl | exact yb_k (by assumption)) rfl (yb_p3 (by assumption)) ?_
      refine x_iload1 dX2_weightOf_159 ?_
      refine x_iald dX2_weightOf_160 (yb_a3 (by assumption)) (by omega) (by omega) (v := V 4 n) (hY.lik h0 (by omega)) ?_
      refine x_iload1 dX2_weightOf_161 ?_
      refine x_aload0 dX2_weightOf_162 ?_
      refine x_getR (q := b + 6) dX2_weightOf_163 fd_X2_27 (by first | rfl | exact yb_k (by assumption)) rfl (yb_p5 (by assumption)) ?_
      refine x_iconst dX2_weightOf_166 ⟨by decide, by decide⟩ ?_
      refine x_iald dX2_weightOf_167 (yb_a5 (by assumption)) (by omega) (by omega) (v := V 0 7) hY.figure ?_
      refine x_icmp_ne (tgt := 176) dX2_weightOf_168 rfl (fun hc => ?_) (fun hc => ?_)
      · refine x_iconst dX2_weightOf_176 ⟨by decide, by decide⟩ ?_
        refine x_iadd dX2_weightOf_177 (nrm_id (by omega) (by omega)) ?_
        exact xe_i dX2_weightOf_178 (⟨by rw [raw, q, if_neg hc]; rfl, rfl⟩)
      · refine x_bipush dX2_weightOf_171 ⟨by decide, by decide⟩ ?_
        refine x_goto (tgt := 177) dX2_weightOf_173 rfl ?_
        refine x_iadd dX2_weightOf_177 (nrm_id (by omega) (by omega)) ?_
        exact xe_i dX2_weightOf_178 (⟨by rw [raw, q, if_pos hc]; rfl, rfl⟩)
  -- from 26: the way
  have way : Ex E cX2_weightOf 5 RX2 2 (ans (some (zi (raw V n))) m) 26 [some (zr b), some (zi n), none, none, none] [zi (lfrom V)] m := by
    have a1 := tail_bd g1.1 g2.1
    have a2 := tail_bd g1.2.1 g2.2.1
    refine x_istore2 dX2_weightOf_26 (by decide) rfl ?_
    refine x_bipush dX2_weightOf_27 ⟨by decide, by decide⟩ ?_
    refine x_aload0 dX2_weightOf_29 ?_
    refine x_getR (q := b + 1) dX2_weightOf_30 fd_X2_9 (by first | rfl | exact yb_k (by assumption)) rfl (yb_p0 (by assumption)) ?_
    refine x_iload1 dX2_weightOf_33 ?_
    refine x_iald dX2_weightOf_34 (yb_a0 (by assumption)) (by omega) (by omega) (v := V 1 n) (hY.x h0 (by omega)) ?_
    refine x_aload0 dX2_weightOf_35 ?_
    refine x_getR (q := b + 1) dX2_weightOf_36 fd_X2_9 (by first | rfl | exact yb_k (by assumption)) rfl (yb_p0 (by assumption)) ?_
    refine x_iload2 dX2_weightOf_39 ?_
    refine x_iald dX2_weightOf_40 (yb_a0 (by assumption)) (by omega) (by omega) (v := V 1 (lfrom V)) (hY.x hlf.1 hlf.2) ?_
    refine x_isub dX2_weightOf_41 (nrm_id (by omega) (by omega)) ?_
    refine x_abs dX2_weightOf_42 ma_X2_89 (by decide) (Nat.le_of_ble_eq_true rfl) (v := zabs (V 1 n - V 1 (lfrom V))) (nrm_id (by omega) (by omega)) ?_
    refine x_isub dX2_weightOf_45 (v := 20 - zabs (V 1 n - V 1 (lfrom V))) (nrm_id (by unfold zabs; omega) (by unfold zabs; omega)) ?_
    refine x_aload0 dX2_weightOf_46 ?_
    refine x_getR (q := b + 2) dX2_weightOf_47 fd_X2_15 (by first | rfl | exact yb_k (by assumption)) rfl (yb_p1 (by assumption)) ?_
    refine x_iload1 dX2_weightOf_50 ?_
    refine x_iald dX2_weightOf_51 (yb_a1 (by assumption)) (by omega) (by omega) (v := V 2 n) (hY.y h0 (by omega)) ?_
    refine x_aload0 dX2_weightOf_52 ?_
    refine x_getR (q := b + 2) dX2_weightOf_53 fd_X2_15 (by first | rfl | exact yb_k (by assumption)) rfl (yb_p1 (by assumption)) ?_
    refine x_iload2 dX2_weightOf_56 ?_
    refine x_iald dX2_weightOf_57 (yb_a1 (by assumption)) (by omega) (by omega) (v := V 2 (lfrom V)) (hY.y hlf.1 hlf.2) ?_
    refine x_isub dX2_weightOf_58 (nrm_id (by omega) (by omega)) ?_
    refine x_abs dX2_weightOf_59 ma_X2_89 (by decide) (Nat.le_of_ble_eq_true rfl) (v := zabs (V 2 n - V 2 (lfrom V))) (nrm_id (by omega) (by omega)) ?_
    refine x_isub dX2_weightOf_62 (v := near V n) (nrm_id (by unfold zabs; omega) (by unfold zabs; omega)) ?_
    refine x_istore3 dX2_weightOf_63 (by decide) rfl ?_
    refine x_iload1 dX2_weightOf_64 ?_
    refine x_aload0 dX2_weightOf_65 ?_
    refine x_getI dX2_weightOf_66 fd_X2_33 (by first | rfl | exact yb_k (by assumption)) (Or.inl rfl) (v := lc (V 0 1)) hY.last ?_
    refine x_icmp_ne (tgt := 76) dX2_weightOf_69 rfl (fun hc => ?_) (fun hc => ?_)
    · refine x_iload3 dX2_weightOf_76 ?_
      refine x_istore4 dX2_weightOf_77 (by decide) rfl ?_
      have e1 : away V n = near V n := if_neg (fun q => hc (by rw [q, lc_nn (by omega)]))
      exact Ex.eq (by rw [e1]) rfl rfl kinds
    · refine x_iconst dX2_weightOf_72 ⟨by decide, by decide⟩ ?_
      refine x_goto (tgt := 77) dX2_weightOf_73 rfl ?_
      refine x_istore4 dX2_weightOf_77 (by decide) rfl ?_
      have e1 : away V n = 0 := if_pos (by unfold lc at hc; split at hc <;> omega)
      exact Ex.eq (by rw [e1]) rfl rfl kinds
  refine x_aload0 dX2_weightOf_0 ?_
  refine x_getI dX2_weightOf_1 fd_X2_33 (by first | rfl | exact yb_k (by assumption)) (Or.inl rfl) (v := lc (V 0 1)) hY.last ?_
  refine x_if_lt (tgt := 25) dX2_weightOf_4 rfl (fun hc => ?_) (fun hc => ?_)
  · refine x_iconst dX2_weightOf_25 ⟨by decide, by decide⟩ ?_
    have e1 : lfrom V = 0 := if_pos (by unfold lc at hc; split at hc <;> omega)
    exact Ex.eq rfl (by rw [e1]) rfl way
  · refine x_aload0 dX2_weightOf_7 ?_
    refine x_getI dX2_weightOf_8 fd_X2_33 (by first | rfl | exact yb_k (by assumption)) (Or.inl rfl) (v := lc (V 0 1)) hY.last ?_
    refine x_aload0 dX2_weightOf_11 ?_
    refine x_getI dX2_weightOf_12 fd_X2_43 (by first | rfl | exact yb_k (by assumption)) (Or.inl rfl) (v := V 0 0) hY.nests ?_
    have hc1 : 0 ≤ V 0 1 := by unfold lc at hc; split at hc <;> omega
    rw [lc_nn hc1]
    refine x_icmp_ge (tgt := 25) dX2_weightOf_15 rfl (fun hc2 => ?_) (fun hc2 => ?_)
    · omega
    · refine x_aload0 dX2_weightOf_18 ?_
      refine x_getI dX2_weightOf_19 fd_X2_33 (by first | rfl | exact yb_k (by assumption)) (Or.inl rfl) (v := lc (V 0 1)) hY.last ?_
      refine x_goto (tgt := 26) dX2_weightOf_22 rfl ?_
      have e1 : lfrom V = V 0 1 := if_neg (by omega)
      exact Ex.eq rfl (by rw [e1, lc_nn hc1]) rfl way
end YM3
