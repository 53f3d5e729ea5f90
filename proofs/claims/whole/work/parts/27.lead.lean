section PL2
variable {E : zz_E} {m : zz_M} {s : zz_S} {V : zz_W} {D : Int}
/-- a yard with another day, last, looked -/
def st3 (W : zz_W) (d f x : Int) : zz_W := ux (ux (ux W 0 4 d) 0 1 f) 0 2 x
theorem Iv_st {W : zz_W} {D D' d f x : Int} (h : Iv D W) (hd : 0 ≤ d ∧ d ≤ D') (hf : -1 ≤ f ∧ f < W 0 0 ∨ f = -1) (hx : 0 ≤ x ∧ x < 64) : Iv D' (st3 W d f x) := by
  obtain ⟨hn, hl, hk0, hd0, hr⟩ := h
  exact ⟨hn, hf, hx, hd, hr⟩
/-- the nests where she lays by one or another of the sets of a list -/
def lbf (W : zz_W) (d f : Int) : List Nat → Int → Int
  | [], a => a
  | q :: l, a => lbf W d f l (ior a (isl 1 (lay (st3 W d f q))))
theorem lbf_bd {W : zz_W} {D d f : Int} (hI : Iv D W) (hD : D ≤ 20000) (h0 : W 0 0 ≠ 0) (hd : 0 ≤ d ∧ d ≤ D) (hf : -1 ≤ f ∧ f < W 0 0 ∨ f = -1) : ∀ (l : List Nat) (a : Int), (∀ q ∈ l, q < 64) → 0 ≤ a ∧ a < 64 → 0 ≤ lbf W d f l a ∧ lbf W d f l a < 64
  | [], a, _, ha => ha
  | q :: l, a, hl, ha => by
    have hq := hl q List.mem_cons_self
    have h1 := Iv_st hI hd hf (x := (q : Int)) (by omega)
    have h2 := lay_in h1 hD h0
    have h3 : lay (st3 W d f q) < W 0 0 := h2.2
    have hn := hI.1
    have h4 := bit_bd h2.1 (show lay (st3 W d f q) < 6 by omega)
    exact lbf_bd hI hD h0 hd hf l _ (fun p hp => hl p (List.mem_cons_of_mem _ hp)) (ior_bd ha.1 ha.2 h4.1 h4.2)
theorem st3_l (W : zz_W) (d f x y : Int) : ux (st3 W d f x) 0 2 y = st3 W d f y := by
  funext a z
  unfold st3 ux
  by_cases h : a = 0 ∧ z = 2
  · rw [if_pos h, if_pos h]
  · rw [if_neg h, if_neg h, if_neg h]
theorem st3_f (W : zz_W) (d f x g : Int) : ux (st3 W d f x) 0 1 g = st3 W d g x := by
  funext a z
  unfold st3 ux
  by_cases h : a = 0 ∧ z = 1
  · obtain ⟨rfl, rfl⟩ := h; rfl
  · simp only [if_neg h]
theorem st3_d (W : zz_W) (d f x g : Int) : ux (st3 W d f x) 0 4 g = st3 W g f x := by
  funext a z
  unfold st3 ux
  by_cases h : a = 0 ∧ z = 4
  · obtain ⟨rfl, rfl⟩ := h; rfl
  · simp only [if_neg h]
theorem st3_id (W : zz_W) : st3 W (W 0 4) (W 0 1) (W 0 2) = W := by
  funext a z
  unfold st3 ux
  by_cases h : a = 0 ∧ z = 2
  · obtain ⟨rfl, rfl⟩ := h; rfl
  · rw [if_neg h]
    by_cases h : a = 0 ∧ z = 1
    · obtain ⟨rfl, rfl⟩ := h; rfl
    · rw [if_neg h]
      by_cases h : a = 0 ∧ z = 4
      · obtain ⟨rfl, rfl⟩ := h; rfl
      · rw [if_neg h]
theorem s_laidByAnySet {W : zz_W} {l0 : List Nat} {d f x : Int} (hl0 : m 48 4 = (l0.length : Int) ∧ ∀ (i q : Nat), l0[i]? = some q → m 50 i = (q : Int)) (hlen : l0.length ≤ 64) (hlt : ∀ q ∈ l0, q < 64) (hY : YP m 24 (st3 W d f x)) (hI : Iv D W) (hD : D ≤ 20000) (h0 : W 0 0 ≠ 0) (hd : 0 ≤ d ∧ d ≤ D) (hf : -1 ≤ f ∧ f < W 0 0 ∨ f = -1) (hx : 0 ≤ x ∧ x < 64) :
    Mt E 5 yX1_laidByAnySet cX1_laidByAnySet 6 (some .int) [zr 48, zr 24] m (fun r m' => r = some (zi (lbf W d f l0 0)) ∧ (∃ y, (0 ≤ y ∧ y < 64) ∧ YP m' 24 (st3 W d f y)) ∧ Fr 24 32 m m') := by
  have hn := hI.1
  refine Mt.of 4 (by decide +kernel) (Nat.le_of_ble_eq_true rfl) (Or.inl rfl) ?_ ?_
  · rintro r m' ⟨rfl, -⟩; simp
  show Ex E cX1_laidByAnySet 6 RX1 5 _ 0 [some (zr 48), some (zr 24), none, none, none, none] [] m
  refine x_aload1 dX1_laidByAnySet_0 ?_
  refine x_callv0 dX1_laidByAnySet_1 cv_X1_69 ci_X2_allNests (by first | rfl | exact yb_k (by assumption)) (T := TX2) rfl (by decide) (Nat.le_of_ble_eq_true rfl) (s_allNests yb_24 hY (Iv_st hI hd hf hx)) (fun r m1 hq => ?_)
  obtain ⟨rfl, rfl⟩ := hq
  show Ex _ _ _ _ _ _ _ _ [zi (alln (W 0 0))] _
  refine x_istore2 dX1_laidByAnySet_4 (by decide) rfl ?_
  refine x_iconst dX1_laidByAnySet_5 ⟨by decide, by decide⟩ ?_
  refine x_istore3 dX1_laidByAnySet_6 (by decide) rfl ?_
  refine x_iconst dX1_laidByAnySet_7 ⟨by decide, by decide⟩ ?_
  refine x_istore4 dX1_laidByAnySet_8 (by decide) rfl ?_
  have loop : ∀ (post pre : List Nat) (m2 : zz_M) (a x : Int) (o : Option zz_V), pre ++ post = l0 → 0 ≤ a ∧ a < 64 → 0 ≤ x ∧ x < 64 → YP m2 24 (st3 W d f x) → Fr 24 32 m1 m2 → Ex E cX1_laidByAnySet 6 RX1 5 (fun r m' => r = some (zi (lbf W d f post a)) ∧ (∃ y, (0 ≤ y ∧ y < 64) ∧ YP m' 24 (st3 W d f y)) ∧ Fr 24 32 m1 m') 10 [some (zr 48), some (zr 24), some (zi (alln (W 0 0))), some (zi a), some (zi (pre.length : Int)), o] [] m2 := by
    intro post
    induction post with
    | nil =>
      intro pre m2 a x o hp ha hx hY2 hF2
      have e48 : m2 48 = m1 48 := hF2 48 (by omega)
      refine x_iload4 dX1_laidByAnySet_10 ?_
      refine x_aload0 dX1_laidByAnySet_12 ?_
      refine x_getI dX1_laidByAnySet_13 fd_X1_32 rfl (Or.inl rfl) (v := (pre.length : Int)) (by rw [e48, hl0.1, ← hp, List.append_nil]) ?_
      refine x_icmp_ge (tgt := 55) dX1_laidByAnySet_16 rfl (fun hc => ?_) (fun hc => ?_)
      · refine x_iload3 dX1_laidByAnySet_55 ?_
        exact xe_i dX1_laidByAnySet_56 (⟨rfl, ⟨x, hx, hY2⟩, hF2⟩)
      · omega
    | cons q post ih =>
      intro pre m2 a x o hp ha hx hY2 hF2
      have e48 : m2 48 = m1 48 := hF2 48 (by omega)
      have e50 : m2 50 = m1 50 := hF2 50 (by omega)
      have hlen2 := congrArg List.length hp
      rw [List.length_append, List.length_cons] at hlen2
      have hget : l0[pre.length]? = some q := by rw [← hp, List.getElem?_append_right (Nat.le_refl _), Nat.sub_self]; rfl
      have hm := hl0.2 _ _ hget
      have hq := hlt q (List.mem_of_getElem? hget)
      refine Ex.wk (L' := [some (zr 48), some (zr 24), some (zi (alln (W 0 0))), some (zi a), some (zi (pre.length : Int)), none]) ⟨rfl, rfl, rfl, rfl, rfl, trivial⟩ ?_
      refine x_iload4 dX1_laidByAnySet_10 ?_
      refine x_aload0 dX1_laidByAnySet_12 ?_
      refine x_getI dX1_laidByAnySet_13 fd_X1_32 rfl (Or.inl rfl) (v := (l0.length : Int)) (by rw [e48, hl0.1]) ?_
      refine x_icmp_ge (tgt := 55) dX1_laidByAnySet_16 rfl (fun hc => ?_) (fun hc => ?_)
      · omega
      · refine x_aload1 dX1_laidByAnySet_19 ?_
        refine x_aload0 dX1_laidByAnySet_20 ?_
        refine x_getR (q := 50) dX1_laidByAnySet_21 fd_X1_18 rfl rfl rfl ?_
        refine x_iload4 dX1_laidByAnySet_24 ?_
        refine x_iald dX1_laidByAnySet_26 rfl (by omega) (by omega) (v := (q : Int)) (by rw [e50]; exact hm) ?_
        refine x_putI dX1_laidByAnySet_27 fd_X1_49 rfl rfl ?_
        refine x_aload1 dX1_laidByAnySet_30 ?_
        refine x_iload2 dX1_laidByAnySet_31 ?_
        have hY3 := YP.setLooked (b := 24) (x := (q : Int)) hY2
        rw [st3_l] at hY3
        have hIq := Iv_st hI hd hf (x := (q : Int)) (by omega)
        have hF3 : Fr 24 32 m1 (up m2 24 9 (q : Int)) := hF2.up (by omega) (by omega)
        refine x_callv1 dX1_laidByAnySet_32 cv_X1_72 ci_X2_laysAmong (by first | rfl | exact yb_k (by assumption)) (T := TX2) rfl (by decide) (Nat.le_of_ble_eq_true rfl) (s_laysAmong yb_24 hY3 hIq hD (all_sub hn.1 hn.2)) (fun r m3 hq2 => ?_)
        obtain ⟨rfl, hY4, hF4⟩ := hq2
        have hl := lay_in hIq hD h0
        have hl2 : lay (st3 W d f q) < W 0 0 := hl.2
        rw [lc_nn (show 0 ≤ lays (st3 W d f q) (alln (W 0 0)) from hl.1)]
        show Ex _ _ _ _ _ _ _ _ [zi (lay (st3 W d f q))] _
        refine x_istore5 dX1_laidByAnySet_35 (by decide) rfl ?_
        refine x_iload5 dX1_laidByAnySet_37 ?_
        refine x_if_lt (tgt := 49) dX1_laidByAnySet_39 rfl (fun h2 => ?_) (fun h2 => ?_)
        · omega
        · have hb := bit_bd hl.1 (show lay (st3 W d f q) < 6 by omega)
          refine x_iload3 dX1_laidByAnySet_42 ?_
          refine x_iconst dX1_laidByAnySet_43 ⟨by decide, by decide⟩ ?_
          refine x_iload5 dX1_laidByAnySet_44 ?_
          refine x_ishl dX1_laidByAnySet_46 rfl ?_
          refine x_ior dX1_laidByAnySet_47 rfl ?_
          refine x_istore3 dX1_laidByAnySet_48 (by decide) rfl ?_
          refine x_iinc4 dX1_laidByAnySet_49 (by decide) rfl (nrm_id (by omega) (by omega)) ?_
          refine x_goto (tgt := 10) dX1_laidByAnySet_52 rfl ?_
          exact Ex.eq (by rw [List.length_append]; push_cast; rfl) rfl rfl (ih (pre ++ [q]) m3 _ _ _ (by rw [List.append_assoc]; exact hp) (ior_bd ha.1 ha.2 hb.1 hb.2) (by omega) hY4 (hF3.to hF4 (by omega) (by omega)))
  exact loop l0 [] m1 0 x none rfl (by omega) hx hY Fr.rf
/-- a sly hen as an away one -/
def ldW (V : zz_W) : zz_W := if V 0 6 = 4 then ux V 0 6 3 else V
/-- the nests in which she may have laid last behind k days, and one more, from one nest on -/
def rc1 (V : zz_W) (l : List Nat) (d r : Int) : Nat → Int
  | 0 => 0
  | j + 1 => ior (rc1 V l d r j) (if bt r j = 1 then lbf (ldW V) d j l 0 else 0)
def rch (V : zz_W) (l : List Nat) : Nat → Int
  | 0 => lbf (ldW V) (V 0 4) (V 0 1) l 0
  | k + 1 => rc1 V l (V 0 4 + (k + 1 : Nat)) (rch V l k) (V 0 0).toNat
def fdl (V : zz_W) (l : List Nat) (n : Int) : Nat → Nat → Int
  | 0, _ => -9
  | r + 1, k => if bt (rch V l k) n = 1 then ((k + 1 : Nat) : Int) else fdl V l n r (k + 1)
def o_lead (s : zz_S) (n : Int) : zz_A := if n < 0 ∨ s.1 0 0 ≤ n then rfo s 1 else if s.1 0 1 = n then (0, s) else (fdl s.1 (ast s.1 (ase s.1)) n 6 0, s)
theorem ldW_ok (hI : Iv D V) : Iv D (ldW V) := by
  unfold ldW
  split
  · exact Iv_ux0 hI (Or.inr (Or.inr (Or.inr (Or.inl ⟨rfl, by decide, by decide⟩))))
  · exact hI
theorem ldW_sc (V : zz_W) (z : Int) (hz : z ≠ 6) : ldW V 0 z = V 0 z := by
  unfold ldW
  split
  · exact if_neg (fun q => hz q.2)
  · rfl
theorem s_fewestDays (hY : YP m 0 V) (hY24 : ∃ V', YP m 24 V') (hI : Iv D V) (hD : D ≤ 10000) {n : Int} (hn0 : 0 ≤ n) (hn1 : n < V 0 0) : Mt E 6 yX1_fewestDays cX1_fewestDays 8 (some .int) [zr 48, zr 0, zi n] m (fun r m' => r = some (zi (if V 0 1 = n then 0 else fdl V (ast V (ase V)) n 6 0)) ∧ (∃ V', YP m' 24 V') ∧ (∀ k, k ≠ 48 → k ≠ 50 → (k < 24 ∨ 32 ≤ k) → m' k = m k)) := by
  have hn := hI.1
  obtain ⟨V24, hV24⟩ := hY24
  refine Mt.of 5 (by decide +kernel) (Nat.le_of_ble_eq_true rfl) (Or.inl rfl) ?_ ?_
  · rintro r m' ⟨rfl, -⟩; simp
  show Ex E cX1_fewestDays 8 RX1 6 _ 0 [some (zr 48), some (zr 0), some (zi n), none, none, none, none, none] [] m
  refine x_aload1 dX1_fewestDays_0 ?_
  refine x_getI dX1_fewestDays_1 fd_X1_97 rfl (Or.inl rfl) (v := lc (V 0 1)) hY.last ?_
  refine x_iload2 dX1_fewestDays_4 ?_
  refine x_icmp_ne (tgt := 10) dX1_fewestDays_5 rfl (fun h1 => ?_) (fun h1 => ?_)
  · have h1' : ¬ V 0 1 = n := fun q => h1 (by rw [q, lc_nn hn0])
    rw [if_neg h1']
    refine x_aload0 dX1_fewestDays_10 ?_
    refine x_aload1 dX1_fewestDays_11 ?_
    refine x_callv1 dX1_fewestDays_12 cv_X1_42 ci_X1_listAllowed rfl (T := TX1) rfl (by decide) (Nat.le_of_ble_eq_true rfl) (s_listAllowed hY hI) (fun r m1 hq => ?_)
    obtain ⟨rfl, hL, hF1, -⟩ := hq
    have hY1 : YP m1 0 V := hY.kept (fun k a b => hF1 k (by omega) (by omega))
    have hV1 : YP m1 24 V24 := hV24.kept (fun k a b => hF1 k (by omega) (by omega))
    show Ex _ _ _ _ _ _ _ _ [] _
    refine x_aload0 dX1_fewestDays_15 ?_
    refine x_getR (q := 49) dX1_fewestDays_16 fd_X1_12 rfl rfl rfl ?_
    refine x_iconst dX1_fewestDays_19 ⟨by decide, by decide⟩ ?_
    refine x_aald dX1_fewestDays_20 rfl (by omega) (by omega) (q := 24) rfl ?_
    refine x_astore3 dX1_fewestDays_21 (by decide) rfl ?_
    refine x_aload3 dX1_fewestDays_22 ?_
    refine x_aload1 dX1_fewestDays_23 ?_
    refine x_callv1 dX1_fewestDays_24 cv_X1_46 ci_X2_copyFrom (by first | rfl | exact yb_k (by assumption)) (T := TX2) rfl (by decide) (Nat.le_of_ble_eq_true rfl) (s_copyFrom yb_24 yb_0 (by omega) hV1 hY1) (fun r m2 hq => ?_)
    obtain ⟨rfl, hY2, hF2⟩ := hq
    have hF2 : Fr 24 32 m1 m2 := hF2
    show Ex _ _ _ _ _ _ _ _ [] _
    have hle := ast_len V (ase V)
    obtain ⟨e1, e2, e3, e4⟩ := ase_pow hn
    have hlt : ∀ q ∈ ast V (ase V), q < 64 := fun q hq => by have := (ast_mem.mp hq).1; omega
    have hW := ldW_ok hI
    have hW0 : ldW V 0 0 ≠ 0 := by rw [ldW_sc V 0 (by decide)]; omega
    have hWn := ldW_sc V 0 (by decide)
    have hlast := hI.2.1
    have hday := hI.2.2.2.1
    generalize hl0 : ast V (ase V) = l0 at hL hle hlt ⊢
    have hLA : m1 48 4 = (l0.length : Int) ∧ ∀ (i q : Nat), l0[i]? = some q → m1 50 i = (q : Int) := by
      unfold LA at hL
      rw [hl0] at hL
      exact hL
    have hLk : ∀ m3, Fr 24 32 m1 m3 → (m3 48 4 = (l0.length : Int) ∧ ∀ (i q : Nat), l0[i]? = some q → m3 50 i = (q : Int)) := by
      intro m3 h3
      rw [h3 48 (by omega), h3 50 (by omega)]
      exact hLA
    -- the days, from the head of their loop
    have days : ∀ (r k : Nat) (m3 : zz_M) (f x : Int) (o6 o7 : Option zz_V), k + r = 6 → YP m3 24 (st3 (ldW V) (V 0 4 + k) f x) → (-1 ≤ f ∧ f < V 0 0 ∨ f = -1) → (0 ≤ x ∧ x < 64) → Fr 24 32 m1 m3 → Ex E cX1_fewestDays 8 RX1 6 (fun r' m' => r' = some (zi (fdl V l0 n r k)) ∧ (∃ V', YP m' 24 V') ∧ (∀ k, k ≠ 48 → k ≠ 50 → (k < 24 ∨ 32 ≤ k) → m' k = m k)) 54 [some (zr 48), some (zr 0), some (zi n), some (zr 24), some (zi (rch V l0 k)), some (zi ((k + 1 : Nat) : Int)), o6, o7] [] m3 := by
      intro r
      induction r with
      | zero =>
        intro k m3 f x o6 o7 hk hY3 hf hx hF3
        refine x_iload5 dX1_fewestDays_54 ?_
        refine x_bipush dX1_fewestDays_56 ⟨by decide, by decide⟩ ?_
        refine x_icmp_gt (tgt := 146) dX1_fewestDays_58 rfl (fun h2 => ?_) (fun h2 => ?_)
        · refine x_bipush dX1_fewestDays_146 ⟨by decide, by decide⟩ ?_
          exact xe_i dX1_fewestDays_148 (⟨rfl, ⟨_, hY3⟩, fun q a b c => (hF3 q c).trans (hF1 q a b)⟩)
        · omega
      | succ r ih =>
        intro k m3 f x o6 o7 hk hY3 hf hx hF3
        refine Ex.wk (L' := [some (zr 48), some (zr 0), some (zi n), some (zr 24), some (zi (rch V l0 k)), some (zi ((k + 1 : Nat) : Int)), none, none]) ⟨rfl, rfl, rfl, rfl, rfl, rfl, trivial⟩ ?_
        refine x_iload5 dX1_fewestDays_54 ?_
        refine x_bipush dX1_fewestDays_56 ⟨by decide, by decide⟩ ?_
        refine x_icmp_gt (tgt := 146) dX1_fewestDays_58 rfl (fun h2 => ?_) (fun h2 => ?_)
        · omega
        · refine x_iload4 dX1_fewestDays_61 ?_
          refine x_iload2 dX1_fewestDays_63 ?_
          refine x_ishr dX1_fewestDays_64 rfl ?_
          refine x_iconst dX1_fewestDays_65 ⟨by decide, by decide⟩ ?_
          refine x_iand dX1_fewestDays_66 rfl ?_
          refine x_iconst dX1_fewestDays_67 ⟨by decide, by decide⟩ ?_
          refine x_icmp_ne (tgt := 74) dX1_fewestDays_68 rfl (fun h3 => ?_) (fun h3 => ?_)
          · have h3 : bt (rch V l0 k) n ≠ 1 := h3
            have ed : st3 (ldW V) (V 0 4 + k) f x 0 4 = V 0 4 + k := rfl
            refine x_iconst dX1_fewestDays_74 ⟨by decide, by decide⟩ ?_
            refine x_istore6 dX1_fewestDays_75 (by decide) rfl ?_
            refine x_aload3 dX1_fewestDays_77 ?_
            refine x_dupr dX1_fewestDays_78 ?_
            refine x_getI dX1_fewestDays_79 fd_X1_104 rfl (Or.inl rfl) (v := V 0 4 + k) (hY3.day.trans ed) ?_
            refine x_iconst dX1_fewestDays_82 ⟨by decide, by decide⟩ ?_
            refine x_iadd dX1_fewestDays_83 (v := V 0 4 + ((k + 1 : Nat) : Int)) (by rw [show V 0 4 + (k : Int) + 1 = V 0 4 + ((k + 1 : Nat) : Int) by omega]; exact nrm_id (by omega) (by omega)) ?_
            refine x_putI dX1_fewestDays_84 fd_X1_104 rfl rfl ?_
            refine x_iconst dX1_fewestDays_87 ⟨by decide, by decide⟩ ?_
            refine x_istore7 dX1_fewestDays_88 (by decide) rfl ?_
            have hY4 := YP.setDay (b := 24) (x := V 0 4 + ((k + 1 : Nat) : Int)) hY3
            rw [st3_d] at hY4
            have inner : ∀ (p j : Nat) (m4 : zz_M) (f x : Int), (j : Int) + p = V 0 0 → YP m4 24 (st3 (ldW V) (V 0 4 + ((k + 1 : Nat) : Int)) f x) → (-1 ≤ f ∧ f < V 0 0 ∨ f = -1) → (0 ≤ x ∧ x < 64) → Fr 24 32 m1 m4 → Ex E cX1_fewestDays 8 RX1 6 (fun r' m' => r' = some (zi (fdl V l0 n (r + 1) k)) ∧ (∃ V', YP m' 24 V') ∧ (∀ k, k ≠ 48 → k ≠ 50 → (k < 24 ∨ 32 ≤ k) → m' k = m k)) 90 [some (zr 48), some (zr 0), some (zi n), some (zr 24), some (zi (rch V l0 k)), some (zi ((k + 1 : Nat) : Int)), some (zi (rc1 V l0 (V 0 4 + ((k + 1 : Nat) : Int)) (rch V l0 k) j)), some (zi j)] [] m4 := by
              intro p
              induction p with
              | zero =>
                intro j m4 f x hj hY4 hf hx hF4
                have e00 : st3 (ldW V) (V 0 4 + ((k + 1 : Nat) : Int)) f x 0 0 = V 0 0 := hWn
                refine x_iload7 dX1_fewestDays_90 ?_
                refine x_aload3 dX1_fewestDays_92 ?_
                refine x_getI dX1_fewestDays_93 fd_X1_28 rfl (Or.inl rfl) (v := V 0 0) (hY4.nests.trans e00) ?_
                refine x_icmp_ge (tgt := 136) dX1_fewestDays_96 rfl (fun h4 => ?_) (fun h4 => ?_)
                · refine x_iload6 dX1_fewestDays_136 ?_
                  refine x_istore4 dX1_fewestDays_138 (by decide) rfl ?_
                  refine x_iinc5 dX1_fewestDays_140 (by decide) rfl (nrm_id (by omega) (by omega)) ?_
                  refine x_goto (tgt := 54) dX1_fewestDays_143 rfl ?_
                  have ef : fdl V l0 n (r + 1) k = fdl V l0 n r (k + 1) := by rw [fdl, if_neg h3]
                  rw [ef]
                  have er : rc1 V l0 (V 0 4 + ((k + 1 : Nat) : Int)) (rch V l0 k) j = rch V l0 (k + 1) := by
                    rw [rch, show (V 0 0).toNat = j by omega]
                  rw [er]
                  exact Ex.eq (by rw [show ((k + 1 : Nat) : Int) + 1 = ((k + 1 + 1 : Nat) : Int) by omega]) rfl rfl (ih (k + 1) m4 f x _ _ (by omega) hY4 hf hx hF4)
                · omega
              | succ p ihp =>
                intro j m4 f x hj hY4 hf hx hF4
                have e00 : st3 (ldW V) (V 0 4 + ((k + 1 : Nat) : Int)) f x 0 0 = V 0 0 := hWn
                refine x_iload7 dX1_fewestDays_90 ?_
                refine x_aload3 dX1_fewestDays_92 ?_
                refine x_getI dX1_fewestDays_93 fd_X1_28 rfl (Or.inl rfl) (v := V 0 0) (hY4.nests.trans e00) ?_
                refine x_icmp_ge (tgt := 136) dX1_fewestDays_96 rfl (fun h4 => ?_) (fun h4 => ?_)
                · omega
                · refine x_aload3 dX1_fewestDays_99 ?_
                  refine x_iload7 dX1_fewestDays_100 ?_
                  refine x_putI dX1_fewestDays_102 fd_X1_97 rfl rfl ?_
                  refine x_iload6 dX1_fewestDays_105 ?_
                  refine x_iload4 dX1_fewestDays_107 ?_
                  refine x_iload7 dX1_fewestDays_109 ?_
                  refine x_ishr dX1_fewestDays_111 rfl ?_
                  refine x_iconst dX1_fewestDays_112 ⟨by decide, by decide⟩ ?_
                  refine x_iand dX1_fewestDays_113 rfl ?_
                  refine x_iconst dX1_fewestDays_114 ⟨by decide, by decide⟩ ?_
                  have hY5 := YP.setLast (b := 24) (x := (j : Int)) hY4
                  rw [st3_f, lc_nn (by omega)] at hY5
                  have hF5 : Fr 24 32 m1 (up m4 24 8 (j : Int)) := hF4.up (by omega) (by omega)
                  refine x_icmp_ne (tgt := 126) dX1_fewestDays_115 rfl (fun h5 => ?_) (fun h5 => ?_)
                  · have h5 : bt (rch V l0 k) j ≠ 1 := h5
                    refine x_iconst dX1_fewestDays_126 ⟨by decide, by decide⟩ ?_
                    refine x_ior dX1_fewestDays_127 rfl ?_
                    refine x_istore6 dX1_fewestDays_128 (by decide) rfl ?_
                    refine x_iinc7 dX1_fewestDays_130 (by decide) rfl (nrm_id (by omega) (by omega)) ?_
                    refine x_goto (tgt := 90) dX1_fewestDays_133 rfl ?_
                    refine Ex.eq (by rw [rc1, if_neg h5, show (j : Int) + 1 = ((j + 1 : Nat) : Int) by omega]) rfl rfl (ihp (j + 1) _ (j : Int) x (by omega) hY5 (by omega) hx hF5)
                  · have h5 : bt (rch V l0 k) j = 1 := h5
                    have hWd := hW.wd (D' := 20000) (by omega)
                    refine x_aload0 dX1_fewestDays_118 ?_
                    refine x_aload3 dX1_fewestDays_119 ?_
                    refine x_callv1 dX1_fewestDays_120 cv_X1_100 ci_X1_laidByAnySet rfl (T := TX1) rfl (by decide) (Nat.le_of_ble_eq_true rfl) (s_laidByAnySet (hLk _ hF5) (by omega) hlt hY5 hWd (by omega) hW0 (by omega) (by rw [hWn]; omega) hx) (fun r m5 hq => ?_)
                    obtain ⟨rfl, ⟨y, hy, hY6⟩, hF6⟩ := hq
                    show Ex _ _ _ _ _ _ _ _ [zi (lbf (ldW V) (V 0 4 + ((k + 1 : Nat) : Int)) j l0 0), zi (rc1 V l0 (V 0 4 + ((k + 1 : Nat) : Int)) (rch V l0 k) j)] _
                    refine x_goto (tgt := 127) dX1_fewestDays_123 rfl ?_
                    refine x_ior dX1_fewestDays_127 rfl ?_
                    refine x_istore6 dX1_fewestDays_128 (by decide) rfl ?_
                    refine x_iinc7 dX1_fewestDays_130 (by decide) rfl (nrm_id (by omega) (by omega)) ?_
                    refine x_goto (tgt := 90) dX1_fewestDays_133 rfl ?_
                    refine Ex.eq (by rw [rc1, if_pos h5, show (j : Int) + 1 = ((j + 1 : Nat) : Int) by omega]) rfl rfl (ihp (j + 1) _ (j : Int) y (by omega) hY6 (by omega) hy (hF5.tr hF6))
            exact inner (V 0 0).toNat 0 _ f x (by omega) hY4 hf hx (hF3.up (by omega) (by omega))
          · refine x_iload5 dX1_fewestDays_71 ?_
            have h3 : bt (rch V l0 k) n = 1 := h3
            exact xe_i dX1_fewestDays_73 (⟨by rw [fdl, if_pos h3], ⟨_, hY3⟩, fun q a b c => (hF3 q c).trans (hF1 q a b)⟩)
    have hxl := hI.2.2.1
    have fin : ∀ m3 : zz_M, YP m3 24 (ldW V) → Fr 24 32 m1 m3 → Ex E cX1_fewestDays 8 RX1 6 (fun r' m' => r' = some (zi (fdl V l0 n 6 0)) ∧ (∃ V', YP m' 24 V') ∧ (∀ k, k ≠ 48 → k ≠ 50 → (k < 24 ∨ 32 ≤ k) → m' k = m k)) 44 [some (zr 48), some (zr 0), some (zi n), some (zr 24), none, none, none, none] [] m3 := by
      intro m3 hY3 hF3
      have hst : st3 (ldW V) (V 0 4) (V 0 1) (V 0 2) = ldW V := by
        have := st3_id (ldW V)
        rw [ldW_sc V 4 (by decide), ldW_sc V 1 (by decide), ldW_sc V 2 (by decide)] at this
        exact this
      rw [← hst] at hY3
      refine x_aload0 dX1_fewestDays_44 ?_
      refine x_aload3 dX1_fewestDays_45 ?_
      refine x_callv1 dX1_fewestDays_46 cv_X1_100 ci_X1_laidByAnySet rfl (T := TX1) rfl (by decide) (Nat.le_of_ble_eq_true rfl) (s_laidByAnySet (hLk _ hF3) (by omega) hlt hY3 hW (by omega) hW0 hday (by rw [hWn]; exact hlast) hxl) (fun r m5 hq => ?_)
      obtain ⟨rfl, ⟨y, hy, hY6⟩, hF6⟩ := hq
      show Ex _ _ _ _ _ _ _ _ [zi (rch V l0 0)] _
      refine x_istore4 dX1_fewestDays_49 (by decide) rfl ?_
      refine x_iconst dX1_fewestDays_51 ⟨by decide, by decide⟩ ?_
      refine x_istore5 dX1_fewestDays_52 (by decide) rfl ?_
      exact days 6 0 m5 (V 0 1) y none none rfl (by rw [show V 0 4 + ((0 : Nat) : Int) = V 0 4 by omega]; exact hY6) hlast hy (hF3.tr hF6)
    refine x_aload3 dX1_fewestDays_27 ?_
    refine x_getR (q := 30) dX1_fewestDays_28 fd_X1_39 rfl rfl rfl ?_
    refine x_iconst dX1_fewestDays_31 ⟨by decide, by decide⟩ ?_
    refine x_iald dX1_fewestDays_32 rfl (by omega) (by omega) (v := V 0 6) hY2.kind ?_
    refine x_iconst dX1_fewestDays_33 ⟨by decide, by decide⟩ ?_
    refine x_icmp_ne (tgt := 44) dX1_fewestDays_34 rfl (fun h2 => ?_) (fun h2 => ?_)
    · exact fin m2 (by unfold ldW; rw [if_neg h2]; exact hY2) hF2
    · refine x_aload3 dX1_fewestDays_37 ?_
      refine x_getR (q := 30) dX1_fewestDays_38 fd_X1_39 rfl rfl rfl ?_
      refine x_iconst dX1_fewestDays_41 ⟨by decide, by decide⟩ ?_
      refine x_iconst dX1_fewestDays_42 ⟨by decide, by decide⟩ ?_
      refine x_iast dX1_fewestDays_43 rfl (by omega) (by omega) ?_
      exact fin _ (by unfold ldW; rw [if_pos h2]; exact YP.setFig (b := 24) (z := 0) (x := 3) hY2 (by decide) (by decide)) (hF2.up (by omega) (by omega))
  · have h1' : V 0 1 = n := by unfold lc at h1; split at h1 <;> omega
    rw [if_pos h1']
    refine x_iconst dX1_fewestDays_8 ⟨by decide, by decide⟩ ?_
    exact xe_i dX1_fewestDays_9 (⟨rfl, ⟨_, hV24⟩, fun _ _ _ _ => rfl⟩)
theorem CP.pl24 {m' : zz_M} (h : CP m s) (h24 : ∃ V', YP m' 24 V') (hf : ∀ k, k ≠ 48 → k ≠ 50 → (k < 24 ∨ 32 ≤ k) → m' k = m k) : CP m' s := by
  obtain ⟨⟨h1, h2, ⟨V3, h3⟩, -, ⟨V5, h5⟩, ⟨V6, h6⟩, h7⟩, hR⟩ := h
  exact ⟨⟨h1.kept (fun k a b => hf k (by omega) (by omega) (by omega)), h2.kept (fun k a b => hf k (by omega) (by omega) (by omega)), ⟨V3, h3.kept (fun k a b => hf k (by omega) (by omega) (by omega))⟩, h24, ⟨V5, h5.kept (fun k a b => hf k (by omega) (by omega) (by omega))⟩, ⟨V6, h6.kept (fun k a b => hf k (by omega) (by omega) (by omega))⟩, by rw [hf 52 (by decide) (by decide) (by decide)]; exact h7⟩,
    hR.fr (hf _ (by decide) (by decide) (by decide)) (hf _ (by decide) (by decide) (by decide)) (hf _ (by decide) (by decide) (by decide)) (hf _ (by decide) (by decide) (by decide)) (hf _ (by decide) (by decide) (by decide))⟩
theorem s_lead (hC : CP m s) (hI : Is s) {n : Int} : Mt E 7 yX3_lead cX3_lead 2 (some .int) [zr 55, zi n] m (CQ m (o_lead s n)) := by
  have hV := hI.1
  have hY := hC.1.1
  refine Mt.of 0 (by decide +kernel) (Nat.le_of_ble_eq_true rfl) (Or.inl rfl) ?_ ?_
  · exact CQ.rt
  show Ex E cX3_lead 2 RX3 7 _ 0 [some (zr 55), some (zi n)] [] m
  refine x_aload0 dX3_lead_0 ?_
  refine x_iload1 dX3_lead_1 ?_
  refine x_callv1 dX3_lead_2 cv_X3_65 ci_X3_isNoNest rfl (T := TX3) rfl (by decide) (Nat.le_of_ble_eq_true rfl) (s_isNoNest hC) (fun r m1 hq => ?_)
  obtain ⟨rfl, ⟨h1, rfl⟩ | ⟨h1, rfl⟩⟩ := hq
  · show Ex _ _ _ _ _ _ _ _ [zi 1] _
    refine x_if_eq (tgt := 16) dX3_lead_5 rfl (fun h2 => ?_) (fun h2 => ?_)
    · omega
    · refine x_aload0 dX3_lead_8 ?_
      refine x_iconst dX3_lead_9 ⟨by decide, by decide⟩ ?_
      refine x_callv1 dX3_lead_10 cv_X3_46 ci_X3_refuse rfl (T := TX3) rfl (by decide) (Nat.le_of_ble_eq_true rfl) (s_refuse hC (k := 1) (by decide) (by decide) (by decide)) (fun r m1 hq => ?_)
      obtain ⟨rfl, hC1, hF1⟩ := hq
      refine x_goto (tgt := 28) dX3_lead_13 rfl ?_
      exact xe_i dX3_lead_28 (by rw [o_lead, if_pos h1]; exact ⟨rfl, hC1, hF1⟩)
  · show Ex _ _ _ _ _ _ _ _ [zi 0] _
    refine x_if_eq (tgt := 16) dX3_lead_5 rfl (fun h2 => ?_) (fun h2 => ?_)
    · refine x_aload0 dX3_lead_16 ?_
      refine x_getR (q := 48) dX3_lead_17 fd_X3_25 rfl rfl rfl ?_
      refine x_aload0 dX3_lead_20 ?_
      refine x_getR (q := 0) dX3_lead_21 fd_X3_10 rfl rfl rfl ?_
      refine x_iload1 dX3_lead_24 ?_
      refine x_callv2 dX3_lead_25 cv_X3_153 ci_X1_fewestDays rfl (T := TX1) rfl (by decide) (Nat.le_of_ble_eq_true rfl) (s_fewestDays hY hC.1.2.2.2.1 hV (by decide) h1.1 h1.2) (fun r m2 hq => ?_)
      obtain ⟨rfl, h24, hF⟩ := hq
      refine xe_i dX3_lead_28 ?_
      rw [o_lead, if_neg (by omega)]
      refine ⟨?_, ?_, fun k hk => hF k (by omega) (by omega) (by omega)⟩
      · by_cases h : s.1 0 1 = n
        · rw [if_pos h, if_pos h]
        · rw [if_neg h, if_neg h]
      · have := hC.pl24 h24 hF
        by_cases h : s.1 0 1 = n
        · rw [if_pos h]; exact this
        · rw [if_neg h]; exact this
    · omega
end PL2
