section RM12
variable {E : zz_E} {m : zz_M} {s : zz_S} {V W : zz_W} {D : Int}
theorem bsf_app (g : Nat → Int) : ∀ (l l' : List Nat) (a : Int × Int), bsf g (l ++ l') a = bsf g l' (bsf g l a)
  | [], _, _ => rfl
  | q :: l, l', a => bsf_app g l l' _
theorem bsf_fst (g : Nat → Int) : ∀ (l : List Nat) (a c : Int × Int), a.1 = c.1 → (bsf g l a).1 = (bsf g l c).1
  | [], a, c, h => h
  | q :: l, a, c, h => by
    show (bsf g l (if a.1 < g q then (g q, (q : Int)) else a)).1 = (bsf g l (if c.1 < g q then (g q, (q : Int)) else c)).1
    apply bsf_fst
    rw [h]
    split
    · rfl
    · exact h
theorem bsf_zero (g : Nat → Int) (q : Nat) (l : List Nat) (y : Int) (hg : 0 ≤ g q) : (bsf g (q :: l) (-1, 0)).1 = (bsf g (q :: l) (0, y)).1 := by
  show (bsf g l (if (-1 : Int) < g q then (g q, (q : Int)) else (-1, 0))).1 = (bsf g l (if (0 : Int) < g q then (g q, (q : Int)) else (0, y))).1
  apply bsf_fst
  rw [if_pos (show (-1 : Int) < g q by omega)]
  split
  · rfl
  · show g q = 0
    omega
theorem bsf_ast (g : Nat → Int) (V : zz_W) (e : Nat) (a : Int × Int) : bsf g (ast V (e + 1)) a = if alw V e then (if (bsf g (ast V e) a).1 < g e then (g e, (e : Int)) else bsf g (ast V e) a) else bsf g (ast V e) a := by
  rw [ast_succ, bsf_app]
  by_cases h : mins V (e : Int) ≤ V 0 8
  · rw [if_pos h, if_pos (show alw V e from h)]
    rfl
  · rw [if_neg h, if_neg (show ¬ alw V e from h)]
    rfl
theorem tkn_540 (hI : Iv D V) (q : Int) : 0 ≤ tkn V q ∧ tkn V q ≤ 540 := tkn_bd (V := V) hI.2.2.2.2.2.2.2.2.2.1 q (V 0 0).toNat (by have := hI.1; omega)
theorem alle_540 (hI : Iv D V) : 0 ≤ alle V ∧ alle V ≤ 540 := by
  have hn := hI.1
  have := smI_bd (f := eggs V) (c := 90) (V 0 0).toNat (fun i h0 h1 => eggs_bd hI.2.2.2.2.2.2.2.2.2.1 h0 (by omega) 10 (by omega))
  unfold alle
  omega
theorem t_bestOfDay (hM : MP m V) (hI : Iv D V) : Mt E 3 yX4_bestOfDay cX4_bestOfDay 4 (some .int) [zr 59] m (ans (some (zi (pfv 1 V).1)) m) := by
  have hn := hI.1
  obtain ⟨e1, e2, e3, e4⟩ := ase_pow hn
  have ht := hI.2.2.2.2.2.2.1
  have ef : (pfv 1 V).1 = (bsf (fun q => tkn V (q : Int)) (ast V (ase V)) (0, 0)).1 := by
    obtain ⟨l, hl⟩ := ast_hd hn ht.1 (ase V - 1)
    rw [show ase V - 1 + 1 = ase V by omega] at hl
    have h2 := bsf_zero (fun q => tkn V (q : Int)) 0 l 0 (tkn_540 hI _).1
    rw [← hl] at h2
    rw [← h2]
    show (bsf (fun q => tkn V (q : Int) + 0) (ast V (ase V)) (-1, 0)).1 = _
    exact congrArg Prod.fst (bsf_cg _ _ (fun q _ => Int.add_zero _))
  have bd : ∀ e : Nat, 0 ≤ (bsf (fun q => tkn V (q : Int)) (ast V e) (0, 0)).1 ∧ (bsf (fun q => tkn V (q : Int)) (ast V e) (0, 0)).1 ≤ 540 := fun e =>
    ⟨bsf_ge (fun q => tkn V (q : Int)) (ast V e) (0, 0), bsf_le (fun q => tkn V (q : Int)) (ast V e) (0, 0) (by decide) (fun q _ => (tkn_540 hI _).2)⟩
  refine Mt.of 3 (by decide +kernel) (Nat.le_of_ble_eq_true rfl) (Or.inl rfl) ?_ ?_
  · rintro r m' ⟨rfl, rfl⟩; simp
  show Ex E cX4_bestOfDay 4 RX4 3 _ 0 [some (zr 59), none, none, none] [] m
  rw [ef]
  refine x_iconst dX4_bestOfDay_0 ⟨by decide, by decide⟩ ?_
  refine x_istore1 dX4_bestOfDay_1 (by decide) rfl ?_
  refine x_iconst dX4_bestOfDay_2 ⟨by decide, by decide⟩ ?_
  refine x_istore2 dX4_bestOfDay_3 (by decide) rfl ?_
  have loop : ∀ (k e : Nat) (o : Option zz_V), e + k = ase V → Ex E cX4_bestOfDay 4 RX4 3 (ans (some (zi (bsf (fun q => tkn V (q : Int)) (ast V (ase V)) (0, 0)).1)) m) 4 [some (zr 59), some (zi (bsf (fun q => tkn V (q : Int)) (ast V e) (0, 0)).1), some (zi e), o] [] m := by
    intro k
    induction k with
    | zero =>
      intro e o he
      obtain rfl : e = ase V := by omega
      refine x_iload2 dX4_bestOfDay_4 ?_
      refine x_iconst dX4_bestOfDay_5 ⟨by decide, by decide⟩ ?_
      refine x_aload0 dX4_bestOfDay_6 ?_
      refine x_getI dX4_bestOfDay_7 fd_X4_77 rfl (Or.inl rfl) (v := V 0 0) hM.nests ?_
      refine x_ishl dX4_bestOfDay_10 e1 ?_
      refine x_icmp_ge (tgt := 49) dX4_bestOfDay_11 rfl (fun d1 => ?_) (fun d1 => ?_)
      · refine x_iload1 dX4_bestOfDay_49 ?_
        exact xe_i dX4_bestOfDay_50 (⟨rfl, rfl⟩)
      · omega
    | succ k ih =>
      intro e o he
      refine Ex.wk (L' := [some (zr 59), some (zi (bsf (fun q => tkn V (q : Int)) (ast V e) (0, 0)).1), some (zi e), none]) ⟨rfl, rfl, rfl, trivial⟩ ?_
      have hb := bd e
      have hst := bsf_ast (fun q => tkn V (q : Int)) V e (0, 0)
      refine x_iload2 dX4_bestOfDay_4 ?_
      refine x_iconst dX4_bestOfDay_5 ⟨by decide, by decide⟩ ?_
      refine x_aload0 dX4_bestOfDay_6 ?_
      refine x_getI dX4_bestOfDay_7 fd_X4_77 rfl (Or.inl rfl) (v := V 0 0) hM.nests ?_
      refine x_ishl dX4_bestOfDay_10 e1 ?_
      refine x_icmp_ge (tgt := 49) dX4_bestOfDay_11 rfl (fun d1 => ?_) (fun d1 => ?_)
      · omega
      · have rest : ∀ x : Int, (bsf (fun q => tkn V (q : Int)) (ast V (e + 1)) (0, 0)).1 = (if (bsf (fun q => tkn V (q : Int)) (ast V e) (0, 0)).1 < x then x else (bsf (fun q => tkn V (q : Int)) (ast V e) (0, 0)).1) → Ex E cX4_bestOfDay 4 RX4 3 (ans (some (zi (bsf (fun q => tkn V (q : Int)) (ast V (ase V)) (0, 0)).1)) m) 31 [some (zr 59), some (zi (bsf (fun q => tkn V (q : Int)) (ast V e) (0, 0)).1), some (zi e), none] [zi x] m := by
          intro x hx
          refine x_istore3 dX4_bestOfDay_31 (by decide) rfl ?_
          refine x_iload3 dX4_bestOfDay_32 ?_
          refine x_iload1 dX4_bestOfDay_33 ?_
          refine x_icmp_le (tgt := 41) dX4_bestOfDay_34 rfl (fun d2 => ?_) (fun d2 => ?_)
          · refine x_iload1 dX4_bestOfDay_41 ?_
            refine x_istore1 dX4_bestOfDay_42 (by decide) rfl ?_
            refine x_iinc2 dX4_bestOfDay_43 (by decide) rfl (nrm_id (by omega) (by omega)) ?_
            refine x_goto (tgt := 4) dX4_bestOfDay_46 rfl ?_
            exact Ex.eq (by rw [hx, if_neg (by omega)]; push_cast; rfl) rfl rfl (ih (e + 1) _ (by omega))
          · refine x_iload3 dX4_bestOfDay_37 ?_
            refine x_goto (tgt := 42) dX4_bestOfDay_38 rfl ?_
            refine x_istore1 dX4_bestOfDay_42 (by decide) rfl ?_
            refine x_iinc2 dX4_bestOfDay_43 (by decide) rfl (nrm_id (by omega) (by omega)) ?_
            refine x_goto (tgt := 4) dX4_bestOfDay_46 rfl ?_
            exact Ex.eq (by rw [hx, if_pos d2]; push_cast; rfl) rfl rfl (ih (e + 1) _ (by omega))
        refine x_aload0 dX4_bestOfDay_14 ?_
        refine x_iload2 dX4_bestOfDay_15 ?_
        refine x_callv1 dX4_bestOfDay_16 cv_X4_207 ci_X4_allows rfl (T := TX4) rfl (by omega) (Nat.le_of_ble_eq_true rfl) (t_allows hM hI (q := (e : Int))) (fun r m2 hq => ?_)
        obtain ⟨rfl, rfl⟩ := hq
        show Ex _ _ _ _ _ _ _ _ [zi _] _
        by_cases ha : alw V e
        · rw [if_pos ha] at hst ⊢
          refine x_if_eq (tgt := 30) dX4_bestOfDay_19 rfl (fun d3 => ?_) (fun d3 => ?_)
          · omega
          · refine x_aload0 dX4_bestOfDay_22 ?_
            refine x_iload2 dX4_bestOfDay_23 ?_
            refine x_callv1 dX4_bestOfDay_24 cv_X4_210 ci_X4_eggsOf rfl (T := TX4) rfl (by omega) (Nat.le_of_ble_eq_true rfl) (t_eggsOf hM hI (s := (e : Int))) (fun r m3 hq => ?_)
            obtain ⟨rfl, rfl⟩ := hq
            show Ex _ _ _ _ _ _ _ _ [zi (tkn V (e : Int))] _
            refine x_goto (tgt := 31) dX4_bestOfDay_27 rfl ?_
            refine rest _ ?_
            rw [hst]
            split <;> rfl
        · rw [if_neg ha] at hst ⊢
          refine x_if_eq (tgt := 30) dX4_bestOfDay_19 rfl (fun d3 => ?_) (fun d3 => ?_)
          · refine x_iconst dX4_bestOfDay_30 ⟨by decide, by decide⟩ ?_
            exact rest 0 (by rw [hst, if_neg (by omega)])
          · omega
  exact loop (ase V) 0 none (by omega)
end RM12
