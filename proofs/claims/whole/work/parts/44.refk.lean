section RM11
variable {E : zz_E} {m : zz_M} {s : zz_S} {V W : zz_W} {D : Int}
theorem nun_nn (V : zz_W) (a b : Int) : ∀ (n i : Nat), 0 ≤ nun V a b n i
  | 0, _ => Int.le_refl _
  | n + 1, i => by
    unfold nun
    split
    · exact nun_nn V a b n (i + 1)
    · omega
theorem nun_comm (V : zz_W) (a b : Int) : ∀ (n i : Nat), nun V a b n i = nun V b a n i
  | 0, _ => rfl
  | n + 1, i => by
    unfold nun
    by_cases h : ldn V a i = ldn V b i
    · rw [if_pos h, if_pos h.symm]
      exact nun_comm V a b n (i + 1)
    · rw [if_neg h, if_neg (fun q => h q.symm)]
theorem nun_self (V : zz_W) (a : Int) : ∀ (n i : Nat), nun V a a n i = 0
  | 0, _ => rfl
  | n + 1, i => by
    unfold nun
    rw [if_pos rfl]
    exact nun_self V a n (i + 1)
theorem mxx_l (a b : Int) : a ≤ mxx a b ∧ b ≤ mxx a b ∧ (mxx a b = a ∨ mxx a b = b) := by
  unfold mxx
  split <;> omega
theorem so2_ok (V : zz_W) (k : Nat) (x : Int) : ∀ j : Nat, x ≤ so2 V k x j ∧ (∀ i : Nat, i < j → nun V k i 8 0 ≤ so2 V k x j) ∧ (so2 V k x j = x ∨ ∃ i : Nat, i < j ∧ so2 V k x j = nun V k i 8 0)
  | 0 => ⟨Int.le_refl _, fun i h => by omega, Or.inl rfl⟩
  | j + 1 => by
    obtain ⟨h1, h2, h3⟩ := so2_ok V k x j
    have h4 := mxx_l (so2 V k x j) (nun V k j 8 0)
    have e : so2 V k x (j + 1) = mxx (so2 V k x j) (nun V k j 8 0) := rfl
    rw [e]
    refine ⟨by omega, fun i hi => ?_, ?_⟩
    · by_cases hij : i = j
      · subst hij; exact h4.2.1
      · have := h2 i (by omega)
        omega
    · rcases h4.2.2 with h | h
      · rcases h3 with h3 | ⟨i, hi, h3⟩
        · exact Or.inl (by omega)
        · exact Or.inr ⟨i, by omega, by omega⟩
      · exact Or.inr ⟨j, by omega, h⟩
theorem so1_ok (V : zz_W) : ∀ k : Nat, 0 ≤ so1 V k ∧ (∀ a b : Nat, a < k → b < a → nun V a b 8 0 ≤ so1 V k) ∧ (so1 V k = 0 ∨ ∃ a b : Nat, a < k ∧ b < a ∧ so1 V k = nun V a b 8 0)
  | 0 => ⟨Int.le_refl _, fun a b h => by omega, Or.inl rfl⟩
  | k + 1 => by
    obtain ⟨h1, h2, h3⟩ := so1_ok V k
    obtain ⟨g1, g2, g3⟩ := so2_ok V k (so1 V k) k
    have e : so1 V (k + 1) = so2 V k (so1 V k) k := rfl
    rw [e]
    refine ⟨by omega, fun a b ha hb => ?_, ?_⟩
    · by_cases hak : a = k
      · subst hak; exact g2 b hb
      · have := h2 a b (by omega) hb
        omega
    · rcases g3 with g3 | ⟨i, hi, g3⟩
      · rw [g3]
        rcases h3 with h3 | ⟨a, b, ha, hb, h3⟩
        · exact Or.inl h3
        · exact Or.inr ⟨a, b, by omega, hb, h3⟩
      · exact Or.inr ⟨k, i, by omega, hi, g3⟩
/-- over the first p pairs -/
def mx6 (V : zz_W) : Nat → Int
  | 0 => 0
  | p + 1 => if mx6 V p < nun V ((p / 6 : Nat) : Int) ((p % 6 : Nat) : Int) 8 0 then nun V ((p / 6 : Nat) : Int) ((p % 6 : Nat) : Int) 8 0 else mx6 V p
theorem mx6_ok (V : zz_W) : ∀ p : Nat, 0 ≤ mx6 V p ∧ (∀ i : Nat, i < p → nun V ((i / 6 : Nat) : Int) ((i % 6 : Nat) : Int) 8 0 ≤ mx6 V p) ∧ (mx6 V p = 0 ∨ ∃ i : Nat, i < p ∧ mx6 V p = nun V ((i / 6 : Nat) : Int) ((i % 6 : Nat) : Int) 8 0)
  | 0 => ⟨Int.le_refl _, fun i h => by omega, Or.inl rfl⟩
  | p + 1 => by
    obtain ⟨h1, h2, h3⟩ := mx6_ok V p
    unfold mx6
    by_cases h : mx6 V p < nun V ((p / 6 : Nat) : Int) ((p % 6 : Nat) : Int) 8 0
    · rw [if_pos h]
      refine ⟨by omega, fun i hi => ?_, Or.inr ⟨p, by omega, rfl⟩⟩
      by_cases hip : i = p
      · subst hip; exact Int.le_refl _
      · have := h2 i (by omega)
        omega
    · rw [if_neg h]
      refine ⟨h1, fun i hi => ?_, ?_⟩
      · by_cases hip : i = p
        · subst hip; omega
        · exact h2 i (by omega)
      · rcases h3 with h3 | ⟨i, hi, h3⟩
        · exact Or.inl h3
        · exact Or.inr ⟨i, by omega, h3⟩
theorem mx6_so1 (V : zz_W) : mx6 V 36 = so1 V 6 := by
  obtain ⟨h1, h2, h3⟩ := mx6_ok V 36
  obtain ⟨g1, g2, g3⟩ := so1_ok V 6
  apply Int.le_antisymm
  · rcases h3 with h3 | ⟨i, hi, h3⟩
    · omega
    · rw [h3]
      by_cases hab : i % 6 < i / 6
      · exact g2 _ _ (by omega) hab
      · by_cases hab2 : i / 6 < i % 6
        · rw [nun_comm]
          exact g2 _ _ (by omega) hab2
        · rw [show i / 6 = i % 6 by omega, nun_self]
          exact g1
  · rcases g3 with g3 | ⟨a, b, ha, hb, g3⟩
    · omega
    · rw [g3]
      have := h2 (6 * a + b) (by omega)
      rw [show (6 * a + b) / 6 = a by omega, show (6 * a + b) % 6 = b by omega] at this
      exact this
/-- soon: what is kept, what is laid, and the yard may change -/
def Fs (m m' : zz_M) : Prop := (∀ q, q < 59 ∨ q = 65 ∨ 68 ≤ q ∧ q ≠ 76 → m' q = m q) ∧ ∀ k, 10 ≤ k → k ≠ 19 → k ≠ 39 → ¬ (25 ≤ k ∧ k ≤ 27) → m' 59 k = m 59 k
theorem Fs.rf : Fs m m := ⟨fun _ _ => rfl, fun _ _ _ _ _ => rfl⟩
theorem Fs.tr {m' m'' : zz_M} (h : Fs m m') (h' : Fs m' m'') : Fs m m'' := ⟨fun q hq => (h'.1 q hq).trans (h.1 q hq), fun k h1 h2 h3 h4 => (h'.2 k h1 h2 h3 h4).trans (h.2 k h1 h2 h3 h4)⟩
theorem Fs.of {m' : zz_M} (h : Fg 67 68 m m') : Fs m m' := ⟨fun q hq => h.1 q (by omega), h.2⟩
theorem Fs.u76 {m' : zz_M} (h : Fs m m') {j : Nat} {x : Int} : Fs m (up m' 76 j x) := ⟨fun q hq => by rw [up_cell (by omega)]; exact h.1 q hq, fun k h1 h2 h3 h4 => by rw [up_cell (by omega)]; exact h.2 k h1 h2 h3 h4⟩
theorem MPS.fs {m' : zz_M} (hC : MPS m s) (h : Fs m m') (hM : MP m' s.1) : MPS m' s ∧ Fr 59 77 m m' := by
  obtain ⟨-, h2, g1, g2, g3, g4, g5, g6, g7⟩ := hC
  refine ⟨⟨hM, fun q j hj => ?_, ?_⟩, fun q hq => h.1 q (by omega)⟩
  · rw [h.1 70 (by omega)]; exact h2 q j hj
  · unfold MR
    rw [h.1 71 (by omega), h.1 75 (by omega), h.1 65 (by omega), h.2 29 (by decide) (by decide) (by decide) (by decide), h.2 37 (by decide) (by decide) (by decide) (by decide), h.2 24 (by decide) (by decide) (by decide) (by decide), h.2 17 (by decide) (by decide) (by decide) (by decide)]
    exact ⟨g1, g2, g3, g4, g5, g6, g7⟩
def LQ (m : zz_M) (V : zz_W) (k : Nat) : Prop := ∀ a i : Nat, a < k → i < 8 → m 76 (8 * a + i) = ldn V a i
theorem t_soon (hC : MPS m s) (hI : Is s) : Mt E 6 yX4_soon cX4_soon 7 (some .int) [zr 59] m (RQ m (o_soon s)) := by
  have hV := hI.1
  have hn := hV.1
  refine Mt.of 6 (by decide +kernel) (Nat.le_of_ble_eq_true rfl) (Or.inl rfl) ?_ ?_
  · exact RQ.rt
  show Ex E cX4_soon 7 RX4 6 _ 0 [some (zr 59), none, none, none, none, none, none] [] m
  refine x_aload0 dX4_soon_0 ?_
  refine x_iconst dX4_soon_1 ⟨by decide, by decide⟩ ?_
  refine x_putI dX4_soon_2 fd_X4_74 rfl rfl ?_
  refine th15 (fun m hC => ?_) hC
  have hM := hC.1
  refine x_aload0 dX4_soon_5 ?_
  refine x_getI dX4_soon_6 fd_X4_77 rfl (Or.inl rfl) (v := s.1 0 0) hM.nests ?_
  refine x_if_ne (tgt := 19) dX4_soon_9 rfl (fun c1 => ?_) (fun c1 => ?_)
  · refine x_iconst dX4_soon_19 ⟨by decide, by decide⟩ ?_
    refine x_istore1 dX4_soon_20 (by decide) rfl ?_
    -- the pairs
    have pairs : ∀ (m2 : zz_M), MPS m2 s → Fr 59 77 m m2 → LQ m2 s.1 6 → ∀ (q p : Nat) (o o' o'' o3 : Option zz_V), p + q = 36 → Ex E cX4_soon 7 RX4 6 (RQ m (o_soon s)) 79 [some (zr 59), some (zi (mx6 s.1 p)), some (zi p), o, o', o'', o3] [] m2 := by
      intro m2 hC2 hF2 hL q
      induction q with
      | zero =>
        intro p o o' o'' o3 hp
        refine Ex.wk (L' := [some (zr 59), some (zi (mx6 s.1 p)), some (zi p), none, none, none, none]) ⟨rfl, rfl, rfl, trivial⟩ ?_
        obtain rfl : p = 36 := by omega
        refine x_iload2 dX4_soon_79 ?_
        refine x_bipush dX4_soon_80 ⟨by decide, by decide⟩ ?_
        refine x_icmp_ge (tgt := 172) dX4_soon_82 rfl (fun d1 => ?_) (fun d1 => ?_)
        · refine x_iload1 dX4_soon_172 ?_
          exact xe_i dX4_soon_173 (by rw [o_soon, if_neg c1]; exact ⟨by rw [mx6_so1], hC2, hF2⟩)
        · omega
      | succ q ih =>
        intro p o o' o'' o3 hp
        refine Ex.wk (L' := [some (zr 59), some (zi (mx6 s.1 p)), some (zi p), none, none, none, none]) ⟨rfl, rfl, rfl, trivial⟩ ?_
        refine x_iload2 dX4_soon_79 ?_
        refine x_bipush dX4_soon_80 ⟨by decide, by decide⟩ ?_
        refine x_icmp_ge (tgt := 172) dX4_soon_82 rfl (fun d1 => ?_) (fun d1 => ?_)
        · omega
        · have e6 : idv (p : Int) 6 = ((p / 6 : Nat) : Int) := by rw [idv_pos (by omega) (by omega) (by omega) (by omega)]; rfl
          have e7 : irm (p : Int) 6 = ((p % 6 : Nat) : Int) := by rw [irm_pos (by omega) (by omega) (by omega) (by omega)]; rfl
          refine x_iload2 dX4_soon_85 ?_
          refine x_bipush dX4_soon_86 ⟨by decide, by decide⟩ ?_
          refine x_idiv dX4_soon_88 (by omega) e6 ?_
          refine x_istore3 dX4_soon_89 (by decide) rfl ?_
          refine x_iload2 dX4_soon_90 ?_
          refine x_bipush dX4_soon_91 ⟨by decide, by decide⟩ ?_
          refine x_irem dX4_soon_93 (by omega) e7 ?_
          refine x_istore4 dX4_soon_94 (by decide) rfl ?_
          refine x_iconst dX4_soon_96 ⟨by decide, by decide⟩ ?_
          refine x_istore5 dX4_soon_97 (by decide) rfl ?_
          refine x_bipush dX4_soon_99 ⟨by decide, by decide⟩ ?_
          refine x_istore6 dX4_soon_101 (by decide) rfl ?_
          have fin : ∀ x : Int, Ex E cX4_soon 7 RX4 6 (RQ m (o_soon s)) 153 [some (zr 59), some (zi (mx6 s.1 p)), some (zi p), some (zi ((p / 6 : Nat) : Int)), some (zi ((p % 6 : Nat) : Int)), some (zi (nun s.1 ((p / 6 : Nat) : Int) ((p % 6 : Nat) : Int) 8 0)), some (zi x)] [] m2 := by
            intro x
            refine x_iload5 dX4_soon_153 ?_
            refine x_iload1 dX4_soon_155 ?_
            refine x_icmp_le (tgt := 164) dX4_soon_156 rfl (fun d2 => ?_) (fun d2 => ?_)
            · refine x_iload1 dX4_soon_164 ?_
              refine x_istore1 dX4_soon_165 (by decide) rfl ?_
              refine x_iinc2 dX4_soon_166 (by decide) rfl (nrm_id (by omega) (by omega)) ?_
              refine x_goto (tgt := 79) dX4_soon_169 rfl ?_
              exact Ex.eq (by rw [mx6, if_neg (by omega)]; push_cast; rfl) rfl rfl (ih (p + 1) _ _ _ _ (by omega))
            · refine x_iload5 dX4_soon_159 ?_
              refine x_goto (tgt := 165) dX4_soon_161 rfl ?_
              refine x_istore1 dX4_soon_165 (by decide) rfl ?_
              refine x_iinc2 dX4_soon_166 (by decide) rfl (nrm_id (by omega) (by omega)) ?_
              refine x_goto (tgt := 79) dX4_soon_169 rfl ?_
              exact Ex.eq (by rw [mx6, if_pos d2]; push_cast; rfl) rfl rfl (ih (p + 1) _ _ _ _ (by omega))
          have inner : ∀ (i : Nat), i ≤ 8 → Ex E cX4_soon 7 RX4 6 (RQ m (o_soon s)) 103 [some (zr 59), some (zi (mx6 s.1 p)), some (zi p), some (zi ((p / 6 : Nat) : Int)), some (zi ((p % 6 : Nat) : Int)), some (zi (nun s.1 ((p / 6 : Nat) : Int) ((p % 6 : Nat) : Int) (8 - i) i)), some (zi ((i : Int) - 1))] [] m2 := by
            intro i
            induction i with
            | zero =>
              intro _
              refine x_iload6 dX4_soon_103 ?_
              refine x_if_lt (tgt := 153) dX4_soon_105 rfl (fun d2 => ?_) (fun d2 => ?_)
              · exact fin _
              · omega
            | succ i ihi =>
              intro hi
              rw [show (((i + 1 : Nat) : Int) - 1) = i by omega]
              have g1 := hL (p / 6) i (by omega) (by omega)
              have g2 := hL (p % 6) i (by omega) (by omega)
              refine x_iload6 dX4_soon_103 ?_
              refine x_if_lt (tgt := 153) dX4_soon_105 rfl (fun d2 => ?_) (fun d2 => ?_)
              · omega
              · refine x_aload0 dX4_soon_108 ?_
                refine x_getR (q := 76) dX4_soon_109 fd_X4_71 rfl rfl rfl ?_
                refine x_bipush dX4_soon_112 ⟨by decide, by decide⟩ ?_
                refine x_iload3 dX4_soon_114 ?_
                refine x_imul dX4_soon_115 (nrm_id (by omega) (by omega)) ?_
                refine x_iload6 dX4_soon_116 ?_
                refine x_iadd dX4_soon_118 (nrm_id (by omega) (by omega)) ?_
                refine x_iald dX4_soon_119 rfl (by omega) (by omega) (v := ldn s.1 ((p / 6 : Nat) : Int) i) (by rw [← g1]; congr 1) ?_
                refine x_aload0 dX4_soon_120 ?_
                refine x_getR (q := 76) dX4_soon_121 fd_X4_71 rfl rfl rfl ?_
                refine x_bipush dX4_soon_124 ⟨by decide, by decide⟩ ?_
                refine x_iload4 dX4_soon_126 ?_
                refine x_imul dX4_soon_128 (nrm_id (by omega) (by omega)) ?_
                refine x_iload6 dX4_soon_129 ?_
                refine x_iadd dX4_soon_131 (nrm_id (by omega) (by omega)) ?_
                refine x_iald dX4_soon_132 rfl (by omega) (by omega) (v := ldn s.1 ((p % 6 : Nat) : Int) i) (by rw [← g2]; congr 1) ?_
                have en : nun s.1 ((p / 6 : Nat) : Int) ((p % 6 : Nat) : Int) (8 - i) i = if ldn s.1 ((p / 6 : Nat) : Int) i = ldn s.1 ((p % 6 : Nat) : Int) i then nun s.1 ((p / 6 : Nat) : Int) ((p % 6 : Nat) : Int) (8 - (i + 1)) (i + 1) else (i : Int) + 1 := by
                  rw [show 8 - i = (8 - (i + 1)) + 1 by omega, nun]
                refine x_icmp_ne (tgt := 141) dX4_soon_133 rfl (fun d3 => ?_) (fun d3 => ?_)
                · rw [if_neg d3] at en
                  refine x_iload6 dX4_soon_141 ?_
                  refine x_iconst dX4_soon_143 ⟨by decide, by decide⟩ ?_
                  refine x_iadd dX4_soon_144 (nrm_id (by omega) (by omega)) ?_
                  refine x_istore5 dX4_soon_145 (by decide) rfl ?_
                  refine x_iinc6 dX4_soon_147 (by decide) rfl (nrm_id (by omega) (by omega)) ?_
                  refine x_goto (tgt := 103) dX4_soon_150 rfl ?_
                  exact Ex.eq (by rw [en, show (i : Int) + -1 = i - 1 by omega]) rfl rfl (ihi (by omega))
                · rw [if_pos d3] at en
                  refine x_iload5 dX4_soon_136 ?_
                  refine x_goto (tgt := 145) dX4_soon_138 rfl ?_
                  refine x_istore5 dX4_soon_145 (by decide) rfl ?_
                  refine x_iinc6 dX4_soon_147 (by decide) rfl (nrm_id (by omega) (by omega)) ?_
                  refine x_goto (tgt := 103) dX4_soon_150 rfl ?_
                  exact Ex.eq (by rw [en, show (i : Int) + -1 = i - 1 by omega]) rfl rfl (ihi (by omega))
          exact inner 8 (by omega)
    -- the rows
    have rows : ∀ (q k : Nat) (m2 : zz_M) (o : Option zz_V), k + q = 6 → MP m2 s.1 → Fs m m2 → LQ m2 s.1 k → Ex E cX4_soon 7 RX4 6 (RQ m (o_soon s)) 21 [some (zr 59), some (zi k), o, none, none, none, none] [] m2 := by
      intro q
      induction q with
      | zero =>
        intro k m2 o hk hM2 hF2 hL
        refine Ex.wk (L' := [some (zr 59), some (zi k), none, none, none, none, none]) ⟨rfl, rfl, trivial⟩ ?_
        obtain rfl : k = 6 := by omega
        refine x_iload1 dX4_soon_21 ?_
        refine x_bipush dX4_soon_22 ⟨by decide, by decide⟩ ?_
        refine x_icmp_ge (tgt := 75) dX4_soon_24 rfl (fun d1 => ?_) (fun d1 => ?_)
        · refine x_iconst dX4_soon_75 ⟨by decide, by decide⟩ ?_
          refine x_istore1 dX4_soon_76 (by decide) rfl ?_
          refine x_iconst dX4_soon_77 ⟨by decide, by decide⟩ ?_
          refine x_istore2 dX4_soon_78 (by decide) rfl ?_
          have h := hC.fs hF2 hM2
          exact pairs m2 h.1 h.2 hL 36 0 none none none none rfl
        · omega
      | succ q ih =>
        intro k m2 o hk hM2 hF2 hL
        refine Ex.wk (L' := [some (zr 59), some (zi k), none, none, none, none, none]) ⟨rfl, rfl, trivial⟩ ?_
        have hVk := kind_ok hV (show k ≤ 5 by omega)
        have hok := nts_ok hVk (show ux s.1 0 6 k 0 0 ≠ 0 from c1)
        refine x_iload1 dX4_soon_21 ?_
        refine x_bipush dX4_soon_22 ⟨by decide, by decide⟩ ?_
        refine x_icmp_ge (tgt := 75) dX4_soon_24 rfl (fun d1 => ?_) (fun d1 => ?_)
        · omega
        · refine x_aload0 dX4_soon_27 ?_
          refine x_callv0 dX4_soon_28 cv_X4_182 ci_X4_open rfl (T := TX4) rfl (by omega) (Nat.le_of_ble_eq_true rfl) (t_open hM2) (fun r m3 hq => ?_)
          obtain ⟨rfl, hM3, hS3, hF3⟩ := hq
          show Ex _ _ _ _ _ _ _ _ [] _
          refine x_aload0 dX4_soon_31 ?_
          refine x_iload1 dX4_soon_32 ?_
          refine x_putI dX4_soon_33 fd_X4_95 rfl rfl ?_
          refine x_iconst dX4_soon_36 ⟨by decide, by decide⟩ ?_
          refine x_istore2 dX4_soon_37 (by decide) rfl ?_
          have hM4 : MP (up m3 59 1 k) (ux s.1 0 6 k) := hM3.f (j := 1) (by decide)
          have hS4 : SP (up m3 59 1 k) 67 s.1 := fun j hj => by rw [up_cell (by decide)]; exact hS3 j hj
          have hF4 : Fs m (up m3 59 1 k) := hF2.tr (Fs.of (hF3.upf (by decide)))
          have hL4 : LQ (up m3 59 1 k) s.1 k := fun a i ha hi => by rw [up_cell (by decide), hF3.1 76 (by omega)]; exact hL a i ha hi
          generalize up m3 59 1 k = m4 at hM4 hS4 hF4 hL4
          have nights : ∀ (q i : Nat) (m2 : zz_M), i + q = 8 → MP m2 (nts i (ux s.1 0 6 k)) → SP m2 67 s.1 → Fs m m2 → LQ m2 s.1 k → (∀ j : Nat, j < i → m2 76 (8 * k + j) = ldn s.1 k j) → Ex E cX4_soon 7 RX4 6 (RQ m (o_soon s)) 38 [some (zr 59), some (zi k), some (zi i), none, none, none, none] [] m2 := by
            intro q
            induction q with
            | zero =>
              intro i m2 hi hM2 hS2 hF2 hL2 hR
              obtain rfl : i = 8 := by omega
              refine x_iload2 dX4_soon_38 ?_
              refine x_bipush dX4_soon_39 ⟨by decide, by decide⟩ ?_
              refine x_icmp_ge (tgt := 65) dX4_soon_41 rfl (fun d2 => ?_) (fun d2 => ?_)
              · refine x_aload0 dX4_soon_65 ?_
                refine x_callv0 dX4_soon_66 cv_X4_188 ci_X4_close rfl (T := TX4) rfl (by omega) (Nat.le_of_ble_eq_true rfl) (t_close hS2) (fun r m5 hq => ?_)
                obtain ⟨rfl, hM5, hS5, hF5⟩ := hq
                show Ex _ _ _ _ _ _ _ _ [] _
                refine x_iinc1 dX4_soon_69 (by decide) rfl (nrm_id (by omega) (by omega)) ?_
                refine x_goto (tgt := 21) dX4_soon_72 rfl ?_
                refine Ex.eq (by push_cast; rfl) rfl rfl (ih (k + 1) m5 _ (by omega) hM5 (hF2.tr (Fs.of hF5)) (fun a i ha hi => ?_))
                rw [hF5.1 76 (by omega)]
                by_cases hak : a = k
                · subst hak; exact hR i hi
                · exact hL2 a i (by omega) hi
              · omega
            | succ q ihq =>
              intro i m2 hi hM2 hS2 hF2 hL2 hR
              have g2 : m2 59 17 = -1 := (hF2.2 17 (by decide) (by decide) (by decide) (by decide)).trans hC.gone
              refine x_iload2 dX4_soon_38 ?_
              refine x_bipush dX4_soon_39 ⟨by decide, by decide⟩ ?_
              refine x_icmp_ge (tgt := 65) dX4_soon_41 rfl (fun d2 => ?_) (fun d2 => ?_)
              · omega
              · refine x_aload0 dX4_soon_44 ?_
                refine x_getR (q := 76) dX4_soon_45 fd_X4_71 rfl rfl rfl ?_
                refine x_bipush dX4_soon_48 ⟨by decide, by decide⟩ ?_
                refine x_iload1 dX4_soon_50 ?_
                refine x_imul dX4_soon_51 (nrm_id (by omega) (by omega)) ?_
                refine x_iload2 dX4_soon_52 ?_
                refine x_iadd dX4_soon_53 (nrm_id (by omega) (by omega)) ?_
                refine x_aload0 dX4_soon_54 ?_
                refine x_callv0 dX4_soon_55 cv_X4_202 ci_X4_nightOn rfl (T := TX4) rfl (by omega) (Nat.le_of_ble_eq_true rfl) (t_nightOn hM2 (hok i (by omega)) (by omega) g2 (by rw [nts_sc]; exact c1)) (fun r m5 hq => ?_)
                obtain ⟨rfl, hM5, hF5⟩ := hq
                show Ex _ _ _ _ _ _ _ _ [zi (ldn s.1 k i), zi (8 * (k : Int) + i), zr 76] _
                refine x_iast dX4_soon_58 rfl (by omega) (by omega) ?_
                refine x_iinc2 dX4_soon_59 (by decide) rfl (nrm_id (by omega) (by omega)) ?_
                refine x_goto (tgt := 38) dX4_soon_62 rfl ?_
                have ei : (8 * (k : Int) + (i : Int)).toNat = 8 * k + i := by omega
                rw [ei]
                refine Ex.eq (by push_cast; rfl) rfl rfl (ihq (i + 1) _ (by omega) (MP.keep hM5 (fun j hj => by rw [up_cell (by decide)]) (fun q a b => up_cell (by omega))) (fun j hj => by rw [up_cell (by decide)]; exact hF5.sp hS2 (by decide) (by decide) j hj) (hF2.tr (Fs.of hF5.y)).u76 (fun a j ha hj => ?_) (fun j hj => ?_))
                · rw [upn (by omega), hF5.1 76 (by omega)]
                  exact hL2 a j ha hj
                · by_cases hji : j = i
                  · subst hji; exact up_same _ _ _ _
                  · rw [upn (by omega), hF5.1 76 (by omega)]
                    exact hR j (by omega)
          exact nights 8 0 m4 rfl hM4 hS4 hF4 hL4 (fun j hj => by omega)
    exact rows 6 0 m none rfl hM Fs.rf (fun a i ha _ => by omega)
  · refine x_aload0 dX4_soon_12 ?_
    refine x_bipush dX4_soon_13 ⟨by decide, by decide⟩ ?_
    refine x_callv1 dX4_soon_15 cv_X4_150 ci_X4_refuse rfl (T := TX4) rfl (by omega) (Nat.le_of_ble_eq_true rfl) (t_refuse hC (k := 3) (by decide) (by decide) (by decide)) (fun r m1 hq => ?_)
    obtain ⟨rfl, hC1, hF1⟩ := hq
    exact xe_i dX4_soon_18 (by rw [o_soon, if_pos c1]; exact ⟨rfl, hC1, hF1⟩)
end RM11
