/-! ===== the planner: sets that time allows, shut, lead ===== -/
section PL1
variable {E : zz_E} {m : zz_M} {s : zz_S} {V : zz_W} {D : Int}
/-- the sets below e that time allows, as they rise -/
def ast (V : zz_W) (e : Nat) : List Nat := (List.range e).filter (fun q => decide (mins V (q : Int) ≤ V 0 8))
def ase (V : zz_W) : Nat := (isl 1 (V 0 0)).toNat
theorem ast_succ (V : zz_W) (e : Nat) : ast V (e + 1) = ast V e ++ (if mins V (e : Int) ≤ V 0 8 then [e] else []) := by
  unfold ast
  rw [List.range_succ, List.filter_append]
  congr 1
  by_cases h : mins V (e : Int) ≤ V 0 8
  · rw [if_pos h]; simp [h]
  · rw [if_neg h]; simp [h]
theorem ast_mem {e q : Nat} : q ∈ ast V e ↔ q < e ∧ mins V (q : Int) ≤ V 0 8 := by
  unfold ast
  rw [List.mem_filter, List.mem_range]
  simp
theorem ast_len (V : zz_W) (e : Nat) : (ast V e).length ≤ e := by
  have h := List.length_filter_le (fun q : Nat => decide (mins V (q : Int) ≤ V 0 8)) (List.range e)
  rw [List.length_range] at h
  exact h
theorem ast_srt (V : zz_W) (e : Nat) : List.Pairwise (· < ·) (ast V e) := List.Pairwise.filter _ List.pairwise_lt_range
theorem ase_f : ∀ n : Fin 7, isl 1 (n.val : Int) = ((2 ^ n.val : Nat) : Int) := by decide +kernel
theorem ase_pow (hn : 0 ≤ V 0 0 ∧ V 0 0 ≤ 6) : isl 1 (V 0 0) = (ase V : Int) ∧ ase V = 2 ^ (V 0 0).toNat ∧ 1 ≤ ase V ∧ ase V ≤ 64 := by
  have h := ase_f ⟨(V 0 0).toNat, by omega⟩
  simp only [nat_of hn.1] at h
  have h2 : ase V = 2 ^ (V 0 0).toNat := by
    unfold ase
    rw [h]
    rfl
  refine ⟨by rw [h2]; exact h, h2, ?_, ?_⟩
  · rw [h2]; exact Nat.one_le_two_pow
  · rw [h2]
    have : (V 0 0).toNat ≤ 6 := by omega
    calc 2 ^ (V 0 0).toNat ≤ 2 ^ 6 := Nat.pow_le_pow_right (by decide) this
      _ = 64 := rfl
/-- the list of allowed sets, in memory -/
def LA (m : zz_M) (V : zz_W) (e : Nat) : Prop := m 48 4 = ((ast V e).length : Int) ∧ ∀ (i q : Nat), (ast V e)[i]? = some q → m 50 i = (q : Int)
theorem s_listAllowed (hY : YP m 0 V) (hI : Iv D V) : Mt E 2 yX1_listAllowed cX1_listAllowed 4 none [zr 48, zr 0] m (fun r m' => r = none ∧ LA m' V (ase V) ∧ (∀ k, k ≠ 48 → k ≠ 50 → m' k = m k) ∧ ∀ j, j ≠ 4 → m' 48 j = m 48 j) := by
  have hn := hI.1
  obtain ⟨e1, e2, e3, e4⟩ := ase_pow hn
  refine Mt.of 2 (by decide +kernel) (Nat.le_of_ble_eq_true rfl) (Or.inr (Or.inr (Or.inr rfl))) ?_ ?_
  · rintro r m' ⟨rfl, -⟩; simp
  show Ex E cX1_listAllowed 4 RX1 2 _ 0 [some (zr 48), some (zr 0), none, none] [] m
  refine x_iconst dX1_listAllowed_0 ⟨by decide, by decide⟩ ?_
  refine x_aload1 dX1_listAllowed_1 ?_
  refine x_getI dX1_listAllowed_2 fd_X1_28 rfl (Or.inl rfl) (v := V 0 0) hY.nests ?_
  refine x_ishl dX1_listAllowed_5 e1 ?_
  refine x_istore2 dX1_listAllowed_6 (by decide) rfl ?_
  refine x_aload0 dX1_listAllowed_7 ?_
  refine x_iconst dX1_listAllowed_8 ⟨by decide, by decide⟩ ?_
  refine x_putI dX1_listAllowed_9 fd_X1_32 rfl rfl ?_
  refine x_iconst dX1_listAllowed_12 ⟨by decide, by decide⟩ ?_
  refine x_istore3 dX1_listAllowed_13 (by decide) rfl ?_
  have loop : ∀ (k j : Nat) (m2 : zz_M), j + k = ase V → LA m2 V j → (∀ k, k ≠ 48 → k ≠ 50 → m2 k = m k) → (∀ j, j ≠ 4 → m2 48 j = m 48 j) → Ex E cX1_listAllowed 4 RX1 2 (fun r m' => r = none ∧ LA m' V (ase V) ∧ (∀ k, k ≠ 48 → k ≠ 50 → m' k = m k) ∧ ∀ j, j ≠ 4 → m' 48 j = m 48 j) 14 [some (zr 48), some (zr 0), some (zi (ase V : Int)), some (zi j)] [] m2 := by
    intro k
    induction k with
    | zero =>
      intro j m2 hj hL hF hF2
      refine x_iload3 dX1_listAllowed_14 ?_
      refine x_iload2 dX1_listAllowed_15 ?_
      refine x_icmp_ge (tgt := 59) dX1_listAllowed_16 rfl (fun hc => ?_) (fun hc => ?_)
      · obtain rfl : j = ase V := by omega
        exact xe_v dX1_listAllowed_59 (⟨rfl, hL, hF, hF2⟩)
      · omega
    | succ k ih =>
      intro j m2 hj hL hF hF2
      have hY2 : YP m2 0 V := hY.kept (fun k a b => hF k (by omega) (by omega))
      have hl := ast_len V j
      refine x_iload3 dX1_listAllowed_14 ?_
      refine x_iload2 dX1_listAllowed_15 ?_
      refine x_icmp_ge (tgt := 59) dX1_listAllowed_16 rfl (fun hc => ?_) (fun hc => ?_)
      · omega
      · refine x_aload1 dX1_listAllowed_19 ?_
        refine x_iload3 dX1_listAllowed_20 ?_
        refine x_callv1 dX1_listAllowed_21 cv_X1_35 ci_X2_minutesOf (by first | rfl | exact yb_k (by assumption)) (T := TX2) rfl (by decide) (Nat.le_of_ble_eq_true rfl) (s_minutesOf yb_0 hY2 hI) (fun r m3 hq => ?_)
        obtain ⟨rfl, rfl⟩ := hq
        show Ex _ _ _ _ _ _ _ _ [zi (mins V j)] _
        refine x_aload1 dX1_listAllowed_24 ?_
        refine x_getR (q := 6) dX1_listAllowed_25 fd_X1_39 rfl rfl rfl ?_
        refine x_iconst dX1_listAllowed_28 ⟨by decide, by decide⟩ ?_
        refine x_iald dX1_listAllowed_29 rfl (by omega) (by omega) (v := V 0 8) hY2.time ?_
        have es := ast_succ V j
        refine x_icmp_gt (tgt := 53) dX1_listAllowed_30 rfl (fun h2 => ?_) (fun h2 => ?_)
        · rw [if_neg (by omega), List.append_nil] at es
          refine x_iinc3 dX1_listAllowed_53 (by decide) rfl (nrm_id (by omega) (by omega)) ?_
          refine x_goto (tgt := 14) dX1_listAllowed_56 rfl ?_
          exact Ex.eq (by rw [show (j : Int) + 1 = ((j + 1 : Nat) : Int) by omega]) rfl rfl (ih (j + 1) m3 (by omega) (by unfold LA; rw [es]; exact hL) hF hF2)
        · rw [if_pos h2] at es
          refine x_aload0 dX1_listAllowed_33 ?_
          refine x_getR (q := 50) dX1_listAllowed_34 fd_X1_18 rfl rfl rfl ?_
          refine x_aload0 dX1_listAllowed_37 ?_
          refine x_getI dX1_listAllowed_38 fd_X1_32 rfl (Or.inl rfl) (v := ((ast V j).length : Int)) hL.1 ?_
          refine x_iload3 dX1_listAllowed_41 ?_
          refine x_iast dX1_listAllowed_42 rfl (by omega) (by omega) ?_
          have e5 : up m3 50 ((ast V j).length : Int).toNat j 48 4 = ((ast V j).length : Int) := by rw [up_cell (by decide)]; exact hL.1
          refine x_aload0 dX1_listAllowed_43 ?_
          refine x_dupr dX1_listAllowed_44 ?_
          refine x_getI dX1_listAllowed_45 fd_X1_32 rfl (Or.inl rfl) e5 ?_
          refine x_iconst dX1_listAllowed_48 ⟨by decide, by decide⟩ ?_
          refine x_iadd dX1_listAllowed_49 (nrm_id (by omega) (by omega)) ?_
          refine x_putI dX1_listAllowed_50 fd_X1_32 rfl rfl ?_
          refine x_iinc3 dX1_listAllowed_53 (by decide) rfl (nrm_id (by omega) (by omega)) ?_
          refine x_goto (tgt := 14) dX1_listAllowed_56 rfl ?_
          refine Ex.eq (by rw [show (j : Int) + 1 = ((j + 1 : Nat) : Int) by omega]) rfl rfl (ih (j + 1) _ (by omega) ⟨?_, fun i q hi => ?_⟩ (fun k a b => ?_) (fun i a => ?_))
          · rw [up_same, es]
            simp
          · rw [up_cell (by decide)]
            rw [es] at hi
            by_cases hil : i < (ast V j).length
            · rw [List.getElem?_append_left hil] at hi
              rw [upn (by omega)]
              exact hL.2 i q hi
            · rw [List.getElem?_append_right (by omega)] at hi
              have : i = (ast V j).length := by
                have := (List.getElem?_eq_some_iff.mp hi).1
                simp at this
                omega
              subst this
              simp at hi
              subst hi
              rw [show ((ast V j).length : Int).toNat = (ast V j).length by omega, up_same]
          · rw [up_cell a, up_cell b]
            exact hF k a b
          · rw [upn a, up_cell (by decide)]
            exact hF2 i a
  refine loop (ase V) 0 _ (by omega) ⟨?_, fun i q hi => ?_⟩ (fun k a b => up_cell a) (fun j a => upn a)
  · rw [up_same]; rfl
  · simp [ast] at hi
/-- of a list the first set that leaves one nest -/
def shl (V : zz_W) : List Nat → Int
  | [] => -9
  | q :: l => if V 0 0 - smI (bt (q : Int)) 6 = 1 then (q : Int) else shl V l
def o_shut (s : zz_S) : zz_A := if s.1 0 0 = 0 then rfo s 3 else (shl s.1 (ast s.1 (ase s.1)), s)
theorem LA.fr {m' : zz_M} {e : Nat} (h : LA m V e) (h1 : m' 48 4 = m 48 4) (h2 : m' 50 = m 50) : LA m' V e := by
  unfold LA at h ⊢
  rw [h1, h2]
  exact h
theorem s_leastShutting (hY : YP m 0 V) (hI : Iv D V) : Mt E 3 yX1_leastShutting cX1_leastShutting 3 (some .int) [zr 48, zr 0] m (fun r m' => r = some (zi (shl V (ast V (ase V)))) ∧ (∀ k, k ≠ 48 → k ≠ 50 → m' k = m k) ∧ ∀ j, j ≠ 4 → m' 48 j = m 48 j) := by
  have hn := hI.1
  obtain ⟨e1, e2, e3, e4⟩ := ase_pow hn
  refine Mt.of 1 (by decide +kernel) (Nat.le_of_ble_eq_true rfl) (Or.inl rfl) ?_ ?_
  · rintro r m' ⟨rfl, -⟩; simp
  show Ex E cX1_leastShutting 3 RX1 3 _ 0 [some (zr 48), some (zr 0), none] [] m
  refine x_aload0 dX1_leastShutting_0 ?_
  refine x_aload1 dX1_leastShutting_1 ?_
  refine x_callv1 dX1_leastShutting_2 cv_X1_42 ci_X1_listAllowed rfl (T := TX1) rfl (by decide) (Nat.le_of_ble_eq_true rfl) (s_listAllowed hY hI) (fun r m1 hq => ?_)
  obtain ⟨rfl, hL, hF, hF2⟩ := hq
  have hY1 : YP m1 0 V := hY.kept (fun k a b => hF k (by omega) (by omega))
  show Ex _ _ _ _ _ _ _ _ [] _
  refine x_iconst dX1_leastShutting_5 ⟨by decide, by decide⟩ ?_
  refine x_istore2 dX1_leastShutting_6 (by decide) rfl ?_
  have loop : ∀ (post pre : List Nat), pre ++ post = ast V (ase V) → Ex E cX1_leastShutting 3 RX1 3 (fun r m' => r = some (zi (shl V post)) ∧ (∀ k, k ≠ 48 → k ≠ 50 → m' k = m k) ∧ ∀ j, j ≠ 4 → m' 48 j = m 48 j) 7 [some (zr 48), some (zr 0), some (zi (pre.length : Int))] [] m1 := by
    intro post
    induction post with
    | nil =>
      intro pre hp
      refine x_iload2 dX1_leastShutting_7 ?_
      refine x_aload0 dX1_leastShutting_8 ?_
      refine x_getI dX1_leastShutting_9 fd_X1_32 rfl (Or.inl rfl) (v := (pre.length : Int)) (by rw [hL.1, ← hp, List.append_nil]) ?_
      refine x_icmp_ge (tgt := 46) dX1_leastShutting_12 rfl (fun hc => ?_) (fun hc => ?_)
      · refine x_bipush dX1_leastShutting_46 ⟨by decide, by decide⟩ ?_
        exact xe_i dX1_leastShutting_48 (⟨rfl, hF, hF2⟩)
      · omega
    | cons q post ih =>
      intro pre hp
      have hlen := congrArg List.length hp
      rw [List.length_append, List.length_cons] at hlen
      have hle := ast_len V (ase V)
      have hget : (ast V (ase V))[pre.length]? = some q := by rw [← hp, List.getElem?_append_right (Nat.le_refl _), Nat.sub_self]; rfl
      have hm := hL.2 _ _ hget
      have hq := ast_mem.mp (List.mem_of_getElem? hget)
      refine x_iload2 dX1_leastShutting_7 ?_
      refine x_aload0 dX1_leastShutting_8 ?_
      refine x_getI dX1_leastShutting_9 fd_X1_32 rfl (Or.inl rfl) (v := ((ast V (ase V)).length : Int)) hL.1 ?_
      refine x_icmp_ge (tgt := 46) dX1_leastShutting_12 rfl (fun hc => ?_) (fun hc => ?_)
      · omega
      · refine x_aload1 dX1_leastShutting_15 ?_
        refine x_getI dX1_leastShutting_16 fd_X1_28 rfl (Or.inl rfl) (v := V 0 0) hY1.nests ?_
        refine x_aload0 dX1_leastShutting_19 ?_
        refine x_getR (q := 50) dX1_leastShutting_20 fd_X1_18 rfl rfl rfl ?_
        refine x_iload2 dX1_leastShutting_23 ?_
        refine x_iald dX1_leastShutting_24 rfl (by omega) (by omega) (v := (q : Int)) hm ?_
        refine x_calls1 dX1_leastShutting_25 cv_X1_94 cs_J6_bitCount_0f7a4 (by decide) (Nat.le_of_ble_eq_true rfl) (s_bitCount (y := (q : Int)) (by omega) (by omega)) (fun r m3 hq2 => ?_)
        obtain ⟨rfl, rfl⟩ := hq2
        have hcb := cnt_bd (q : Int) 6 ⟨by omega, by omega⟩ (by decide)
        show Ex _ _ _ _ _ _ _ _ [zi (smI (bt (q : Int)) 6), zi (V 0 0)] _
        refine x_isub dX1_leastShutting_28 (nrm_id (by omega) (by omega)) ?_
        refine x_iconst dX1_leastShutting_29 ⟨by decide, by decide⟩ ?_
        refine x_icmp_ne (tgt := 40) dX1_leastShutting_30 rfl (fun h2 => ?_) (fun h2 => ?_)
        · refine x_iinc2 dX1_leastShutting_40 (by decide) rfl (nrm_id (by omega) (by omega)) ?_
          refine x_goto (tgt := 7) dX1_leastShutting_43 rfl ?_
          refine Ex.post (Q' := fun r m' => r = some (zi (shl V post)) ∧ (∀ k, k ≠ 48 → k ≠ 50 → m' k = m k) ∧ ∀ j, j ≠ 4 → m' 48 j = m 48 j) (fun r m' h => ⟨by rw [shl, if_neg h2]; exact h.1, h.2⟩) ?_
          exact Ex.eq (by rw [List.length_append]; push_cast; rfl) rfl rfl (ih (pre ++ [q]) (by rw [List.append_assoc]; exact hp))
        · refine x_aload0 dX1_leastShutting_33 ?_
          refine x_getR (q := 50) dX1_leastShutting_34 fd_X1_18 rfl rfl rfl ?_
          refine x_iload2 dX1_leastShutting_37 ?_
          refine x_iald dX1_leastShutting_38 rfl (by omega) (by omega) (v := (q : Int)) hm ?_
          exact xe_i dX1_leastShutting_39 (⟨by rw [shl, if_pos h2], hF, hF2⟩)
  exact loop (ast V (ase V)) [] rfl
/-- only the planner's list and its length changed -/
theorem CP.lst {m' : zz_M} (h : CP m s) (hf : ∀ k, k ≠ 48 → k ≠ 50 → m' k = m k) : CP m' s := by
  obtain ⟨⟨h1, h2, ⟨V3, h3⟩, ⟨V4, h4⟩, ⟨V5, h5⟩, ⟨V6, h6⟩, h7⟩, hR⟩ := h
  exact ⟨⟨h1.kept (fun k a b => hf k (by omega) (by omega)), h2.kept (fun k a b => hf k (by omega) (by omega)), ⟨V3, h3.kept (fun k a b => hf k (by omega) (by omega))⟩, ⟨V4, h4.kept (fun k a b => hf k (by omega) (by omega))⟩, ⟨V5, h5.kept (fun k a b => hf k (by omega) (by omega))⟩, ⟨V6, h6.kept (fun k a b => hf k (by omega) (by omega))⟩, by rw [hf 52 (by decide) (by decide)]; exact h7⟩,
    hR.fr (hf _ (by decide) (by decide)) (hf _ (by decide) (by decide)) (hf _ (by decide) (by decide)) (hf _ (by decide) (by decide)) (hf _ (by decide) (by decide))⟩
theorem s_shut (hC : CP m s) (hI : Is s) : Mt E 4 yX3_shut cX3_shut 1 (some .int) [zr 55] m (CQ m (o_shut s)) := by
  have hV := hI.1
  have hY := hC.1.1
  refine Mt.of 0 (by decide +kernel) (Nat.le_of_ble_eq_true rfl) (Or.inl rfl) ?_ ?_
  · exact CQ.rt
  show Ex E cX3_shut 1 RX3 4 _ 0 [some (zr 55)] [] m
  refine x_aload0 dX3_shut_0 ?_
  refine x_getR (q := 0) dX3_shut_1 fd_X3_10 rfl rfl rfl ?_
  refine x_getI dX3_shut_4 fd_X3_112 rfl (Or.inl rfl) (v := s.1 0 0) hY.nests ?_
  refine x_if_ne (tgt := 19) dX3_shut_7 rfl (fun h1 => ?_) (fun h1 => ?_)
  · refine x_aload0 dX3_shut_19 ?_
    refine x_getR (q := 48) dX3_shut_20 fd_X3_25 rfl rfl rfl ?_
    refine x_aload0 dX3_shut_23 ?_
    refine x_getR (q := 0) dX3_shut_24 fd_X3_10 rfl rfl rfl ?_
    refine x_callv1 dX3_shut_27 cv_X3_150 ci_X1_leastShutting rfl (T := TX1) rfl (by decide) (Nat.le_of_ble_eq_true rfl) (s_leastShutting hY hV) (fun r m1 hq => ?_)
    obtain ⟨rfl, hF, hF2⟩ := hq
    exact xe_i dX3_shut_30 (by rw [o_shut, if_neg h1]; exact ⟨rfl, hC.lst hF, fun k hk => hF k (by omega) (by omega)⟩)
  · refine x_aload0 dX3_shut_10 ?_
    refine x_bipush dX3_shut_11 ⟨by decide, by decide⟩ ?_
    refine x_callv1 dX3_shut_13 cv_X3_46 ci_X3_refuse rfl (T := TX3) rfl (by decide) (Nat.le_of_ble_eq_true rfl) (s_refuse hC (k := 3) (by decide) (by decide) (by decide)) (fun r m1 hq => ?_)
    obtain ⟨rfl, hC1, hF1⟩ := hq
    refine x_goto (tgt := 30) dX3_shut_16 rfl ?_
    exact xe_i dX3_shut_30 (by rw [o_shut, if_pos h1]; exact ⟨rfl, hC1, hF1⟩)
end PL1
