section RM10
variable {E : zz_E} {m : zz_M} {s : zz_S} {V W : zz_W} {D : Int}
theorem shl_app (V : zz_W) : ∀ (l l' : List Nat), shl V (l ++ l') = if shl V l = -9 then shl V l' else shl V l
  | [], l' => by rw [List.nil_append]; exact (if_pos rfl).symm
  | q :: l, l' => by
    show (if V 0 0 - smI (bt (q : Int)) 6 = 1 then (q : Int) else shl V (l ++ l')) = if (if V 0 0 - smI (bt (q : Int)) 6 = 1 then (q : Int) else shl V l) = -9 then shl V l' else (if V 0 0 - smI (bt (q : Int)) 6 = 1 then (q : Int) else shl V l)
    by_cases h : V 0 0 - smI (bt (q : Int)) 6 = 1
    · rw [if_pos h, if_pos h, if_neg (by omega)]
    · rw [if_neg h, if_neg h]
      exact shl_app V l l'
theorem shl_up (V : zz_W) {e : Nat} {x : Int} (h : shl V (ast V e) = x) (hx : x ≠ -9) : ∀ k, shl V (ast V (e + k)) = x
  | 0 => h
  | k + 1 => by
    have := shl_up V h hx k
    rw [show e + (k + 1) = (e + k) + 1 by omega, ast_succ, shl_app, this, if_neg hx]
theorem bits0 (y : Int) : ∀ n : Nat, (∀ i : Int, 0 ≤ i → i < n → bt y i = 0 ∨ bt y i = 1) → smI (fun i => if bt y i = 0 then 1 else 0) n = n - smI (bt y) n
  | 0, _ => rfl
  | n + 1, h => by
    have h1 := bits0 y n (fun i a b => h i a (by omega))
    have h2 := h n (by omega) (by omega)
    rw [smI_succ, smI_succ, h1]
    push_cast
    rcases h2 with h2 | h2
    · rw [if_pos h2]; omega
    · rw [if_neg (by omega)]; omega
theorem t_shut (hC : MPS m s) (hI : Is s) : Mt E 3 yX4_shut cX4_shut 4 (some .int) [zr 59] m (RQ m (o_shut s)) := by
  have hV := hI.1
  have hn := hV.1
  obtain ⟨e1, e2, e3, e4⟩ := ase_pow hn
  refine Mt.of 3 (by decide +kernel) (Nat.le_of_ble_eq_true rfl) (Or.inl rfl) ?_ ?_
  · exact RQ.rt
  show Ex E cX4_shut 4 RX4 3 _ 0 [some (zr 59), none, none, none] [] m
  refine x_aload0 dX4_shut_0 ?_
  refine x_iconst dX4_shut_1 ⟨by decide, by decide⟩ ?_
  refine x_putI dX4_shut_2 fd_X4_74 rfl rfl ?_
  refine th15 (fun m hC => ?_) hC
  have hM := hC.1
  refine x_aload0 dX4_shut_5 ?_
  refine x_getI dX4_shut_6 fd_X4_77 rfl (Or.inl rfl) (v := s.1 0 0) hM.nests ?_
  refine x_if_ne (tgt := 19) dX4_shut_9 rfl (fun c1 => ?_) (fun c1 => ?_)
  · have eo : o_shut s = (shl s.1 (ast s.1 (ase s.1)), s) := by rw [o_shut, if_neg c1]
    rw [eo]
    refine x_iconst dX4_shut_19 ⟨by decide, by decide⟩ ?_
    refine x_istore1 dX4_shut_20 (by decide) rfl ?_
    have loop : ∀ (k e : Nat) (o o' : Option zz_V), e + k = ase s.1 → shl s.1 (ast s.1 e) = -9 → Ex E cX4_shut 4 RX4 3 (RQ m (shl s.1 (ast s.1 (ase s.1)), s)) 21 [some (zr 59), some (zi e), o, o'] [] m := by
      intro k
      induction k with
      | zero =>
        intro e o o' he hs
        refine Ex.wk (L' := [some (zr 59), some (zi e), none, none]) ⟨rfl, rfl, trivial⟩ ?_
        refine x_iload1 dX4_shut_21 ?_
        refine x_iconst dX4_shut_22 ⟨by decide, by decide⟩ ?_
        refine x_aload0 dX4_shut_23 ?_
        refine x_getI dX4_shut_24 fd_X4_77 rfl (Or.inl rfl) (v := s.1 0 0) hM.nests ?_
        refine x_ishl dX4_shut_27 e1 ?_
        refine x_icmp_ge (tgt := 86) dX4_shut_28 rfl (fun d1 => ?_) (fun d1 => ?_)
        · refine x_bipush dX4_shut_86 ⟨by decide, by decide⟩ ?_
          obtain rfl : e = ase s.1 := by omega
          exact xe_i dX4_shut_88 (⟨by rw [hs], hC, Fr.rf⟩)
        · omega
      | succ k ih =>
        intro e o o' he hs
        refine Ex.wk (L' := [some (zr 59), some (zi e), none, none]) ⟨rfl, rfl, trivial⟩ ?_
        have hsub := pw_sub hn.1 hn.2 (show e < 2 ^ (s.1 0 0).toNat by omega) (by omega)
        have h01 : ∀ i : Int, 0 ≤ i → i < ((s.1 0 0).toNat : Nat) → bt (e : Int) i = 0 ∨ bt (e : Int) i = 1 := fun i a b => bt_01 hsub.1 hsub.2.1 a (by omega)
        have hb0 := bits0 (e : Int) (s.1 0 0).toNat h01
        have hs6 := sub6_sum hn hsub
        refine x_iload1 dX4_shut_21 ?_
        refine x_iconst dX4_shut_22 ⟨by decide, by decide⟩ ?_
        refine x_aload0 dX4_shut_23 ?_
        refine x_getI dX4_shut_24 fd_X4_77 rfl (Or.inl rfl) (v := s.1 0 0) hM.nests ?_
        refine x_ishl dX4_shut_27 e1 ?_
        refine x_icmp_ge (tgt := 86) dX4_shut_28 rfl (fun d1 => ?_) (fun d1 => ?_)
        · omega
        · refine x_iconst dX4_shut_31 ⟨by decide, by decide⟩ ?_
          refine x_istore2 dX4_shut_32 (by decide) rfl ?_
          refine x_iconst dX4_shut_33 ⟨by decide, by decide⟩ ?_
          refine x_istore3 dX4_shut_34 (by decide) rfl ?_
          have next : ∀ (x y : Int), shl s.1 (ast s.1 (e + 1)) = -9 → Ex E cX4_shut 4 RX4 3 (RQ m (shl s.1 (ast s.1 (ase s.1)), s)) 80 [some (zr 59), some (zi e), some (zi x), some (zi y)] [] m := by
            intro x y h
            refine x_iinc1 dX4_shut_80 (by decide) rfl (nrm_id (by omega) (by omega)) ?_
            refine x_goto (tgt := 21) dX4_shut_83 rfl ?_
            exact Ex.eq (by push_cast; rfl) rfl rfl (ih (e + 1) _ _ (by omega) h)
          have es : shl s.1 (ast s.1 (e + 1)) = if mins s.1 (e : Int) ≤ s.1 0 8 then (if s.1 0 0 - smI (bt (e : Int)) 6 = 1 then (e : Int) else -9) else -9 := by
            rw [ast_succ, shl_app, if_pos hs]
            by_cases h : mins s.1 (e : Int) ≤ s.1 0 8
            · rw [if_pos h, if_pos h]; rfl
            · rw [if_neg h, if_neg h]; rfl
          have after : ∀ y : Int, Ex E cX4_shut 4 RX4 3 (RQ m (shl s.1 (ast s.1 (ase s.1)), s)) 65 [some (zr 59), some (zi e), some (zi (smI (fun i => if bt (e : Int) i = 0 then 1 else 0) (s.1 0 0).toNat)), some (zi y)] [] m := by
            intro y
            refine x_iload2 dX4_shut_65 ?_
            refine x_iconst dX4_shut_66 ⟨by decide, by decide⟩ ?_
            refine x_icmp_ne (tgt := 80) dX4_shut_67 rfl (fun d2 => ?_) (fun d2 => ?_)
            · refine next _ _ ?_
              rw [es, if_neg (show ¬ s.1 0 0 - smI (bt (e : Int)) 6 = 1 by omega)]
              split <;> rfl
            · refine x_aload0 dX4_shut_70 ?_
              refine x_iload1 dX4_shut_71 ?_
              refine x_callv1 dX4_shut_72 cv_X4_207 ci_X4_allows rfl (T := TX4) rfl (by omega) (Nat.le_of_ble_eq_true rfl) (t_allows hM hV (q := (e : Int))) (fun r m2 hq => ?_)
              obtain ⟨rfl, rfl⟩ := hq
              show Ex _ _ _ _ _ _ _ _ [zi _] _
              by_cases ha : mins s.1 (e : Int) ≤ s.1 0 8
              · rw [if_pos ha]
                refine x_if_eq (tgt := 80) dX4_shut_75 rfl (fun d3 => ?_) (fun d3 => ?_)
                · omega
                · refine x_iload1 dX4_shut_78 ?_
                  have hv : shl s.1 (ast s.1 (e + 1)) = (e : Int) := by rw [es, if_pos ha, if_pos (by omega)]
                  have hfin := shl_up s.1 hv (by omega) k
                  rw [show e + 1 + k = ase s.1 by omega] at hfin
                  exact xe_i dX4_shut_79 (⟨by rw [hfin], hC, Fr.rf⟩)
              · rw [if_neg ha]
                refine x_if_eq (tgt := 80) dX4_shut_75 rfl (fun d3 => ?_) (fun d3 => ?_)
                · exact next _ _ (by rw [es, if_neg ha])
                · omega
          have inner : ∀ (k j : Nat), (j : Int) + k = s.1 0 0 → Ex E cX4_shut 4 RX4 3 (RQ m (shl s.1 (ast s.1 (ase s.1)), s)) 35 [some (zr 59), some (zi e), some (zi (smI (fun i => if bt (e : Int) i = 0 then 1 else 0) j)), some (zi j)] [] m := by
            intro k
            induction k with
            | zero =>
              intro j hj
              refine x_iload3 dX4_shut_35 ?_
              refine x_aload0 dX4_shut_36 ?_
              refine x_getI dX4_shut_37 fd_X4_77 rfl (Or.inl rfl) (v := s.1 0 0) hM.nests ?_
              refine x_icmp_ge (tgt := 65) dX4_shut_40 rfl (fun d2 => ?_) (fun d2 => ?_)
              · rw [show j = (s.1 0 0).toNat by omega]
                exact after _
              · omega
            | succ k ihk =>
              intro j hj
              have hbj := smI_bd (f := fun i => if bt (e : Int) i = 0 then 1 else 0) (c := 1) j (fun i a b => by split <;> omega)
              refine x_iload3 dX4_shut_35 ?_
              refine x_aload0 dX4_shut_36 ?_
              refine x_getI dX4_shut_37 fd_X4_77 rfl (Or.inl rfl) (v := s.1 0 0) hM.nests ?_
              refine x_icmp_ge (tgt := 65) dX4_shut_40 rfl (fun d2 => ?_) (fun d2 => ?_)
              · omega
              · refine x_iload2 dX4_shut_43 ?_
                refine x_iload1 dX4_shut_44 ?_
                refine x_iload3 dX4_shut_45 ?_
                refine x_ishr dX4_shut_46 rfl ?_
                refine x_iconst dX4_shut_47 ⟨by decide, by decide⟩ ?_
                refine x_iand dX4_shut_48 rfl ?_
                refine x_if_ne (tgt := 56) dX4_shut_49 rfl (fun d3 => ?_) (fun d3 => ?_)
                · have d3 : bt (e : Int) j ≠ 0 := d3
                  have e0 : (if bt (e : Int) j = 0 then (1 : Int) else 0) = 0 := if_neg d3
                  refine x_iconst dX4_shut_56 ⟨by decide, by decide⟩ ?_
                  refine x_iadd dX4_shut_57 (nrm_id (by omega) (by omega)) ?_
                  refine x_istore2 dX4_shut_58 (by decide) rfl ?_
                  refine x_iinc3 dX4_shut_59 (by decide) rfl (nrm_id (by omega) (by omega)) ?_
                  refine x_goto (tgt := 35) dX4_shut_62 rfl ?_
                  exact Ex.eq (by simp only [List.cons.injEq, Option.some.injEq, Sum.inl.injEq, and_true, true_and, smI_succ]; (try and_intros) <;> (try push_cast) <;> omega) rfl rfl (ihk (j + 1) (by omega))
                · have d3 : bt (e : Int) j = 0 := d3
                  have e0 : (if bt (e : Int) j = 0 then (1 : Int) else 0) = 1 := if_pos d3
                  refine x_iconst dX4_shut_52 ⟨by decide, by decide⟩ ?_
                  refine x_goto (tgt := 57) dX4_shut_53 rfl ?_
                  refine x_iadd dX4_shut_57 (nrm_id (by omega) (by omega)) ?_
                  refine x_istore2 dX4_shut_58 (by decide) rfl ?_
                  refine x_iinc3 dX4_shut_59 (by decide) rfl (nrm_id (by omega) (by omega)) ?_
                  refine x_goto (tgt := 35) dX4_shut_62 rfl ?_
                  exact Ex.eq (by simp only [List.cons.injEq, Option.some.injEq, Sum.inl.injEq, and_true, true_and, smI_succ]; (try and_intros) <;> (try push_cast) <;> omega) rfl rfl (ihk (j + 1) (by omega))
          exact inner (s.1 0 0).toNat 0 (by omega)
    exact loop (ase s.1) 0 none none (by omega) (by simp [ast, shl])
  · refine x_aload0 dX4_shut_12 ?_
    refine x_bipush dX4_shut_13 ⟨by decide, by decide⟩ ?_
    refine x_callv1 dX4_shut_15 cv_X4_150 ci_X4_refuse rfl (T := TX4) rfl (by omega) (Nat.le_of_ble_eq_true rfl) (t_refuse hC (k := 3) (by decide) (by decide) (by decide)) (fun r m1 hq => ?_)
    obtain ⟨rfl, hC1, hF1⟩ := hq
    exact xe_i dX4_shut_18 (by rw [o_shut, if_pos c1]; exact ⟨rfl, hC1, hF1⟩)
end RM10
