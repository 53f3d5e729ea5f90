section RM15
variable {E : zz_E} {m : zz_M} {s : zz_S} {V W : zz_W} {D : Int}
theorem ldW_ast (V : zz_W) : ast (ldW V) (ase (ldW V)) = ast V (ase V) := by
  unfold ldW
  split <;> rfl
theorem lbf_ast (W : zz_W) (d f : Int) (e : Nat) (a : Int) : lbf W d f (ast W (e + 1)) a = if alw W e then ior (lbf W d f (ast W e) a) (isl 1 (lay (st3 W d f e))) else lbf W d f (ast W e) a := by
  rw [ast_succ, lbf_app]
  by_cases h : mins W (e : Int) ≤ W 0 8
  · rw [if_pos h, if_pos (show alw W e from h), lbf_c, lbf]
  · rw [if_neg h, if_neg (show ¬ alw W e from h), lbf]
theorem t_lead (hC : MPS m s) (hI : Is s) {n : Int} : Mt E 6 yX4_lead cX4_lead 10 (some .int) [zr 59, zi n] m (RQ m (o_lead s n)) := by
  have hV := hI.1
  have hn := hV.1
  refine Mt.of 8 (by decide +kernel) (Nat.le_of_ble_eq_true rfl) (Or.inl rfl) ?_ ?_
  · exact RQ.rt
  show Ex E cX4_lead 10 RX4 6 _ 0 [some (zr 59), some (zi n), none, none, none, none, none, none, none, none] [] m
  refine x_aload0 dX4_lead_0 ?_
  refine x_iconst dX4_lead_1 ⟨by decide, by decide⟩ ?_
  refine x_putI dX4_lead_2 fd_X4_74 rfl rfl ?_
  refine th15 (fun m hC => ?_) hC
  have hM := hC.1
  refine x_aload0 dX4_lead_5 ?_
  refine x_iload1 dX4_lead_6 ?_
  refine x_callv1 dX4_lead_7 cv_X4_175 ci_X4_isNest rfl (T := TX4) rfl (by omega) (Nat.le_of_ble_eq_true rfl) (t_isNest hM hn) (fun r m1 hq => ?_)
  obtain ⟨rfl, rfl⟩ := hq
  by_cases h1 : 0 ≤ n ∧ n < s.1 0 0
  rotate_left
  · rw [if_neg h1]
    show Ex _ _ _ _ _ _ _ _ [zi 0] _
    refine x_if_ne (tgt := 19) dX4_lead_10 rfl (fun c1 => ?_) (fun c1 => ?_)
    · omega
    · refine x_aload0 dX4_lead_13 ?_
      refine x_iconst dX4_lead_14 ⟨by decide, by decide⟩ ?_
      refine x_callv1 dX4_lead_15 cv_X4_150 ci_X4_refuse rfl (T := TX4) rfl (by omega) (Nat.le_of_ble_eq_true rfl) (t_refuse hC (k := 1) (by decide) (by decide) (by decide)) (fun r m1 hq => ?_)
      obtain ⟨rfl, hC1, hF1⟩ := hq
      exact xe_i dX4_lead_18 (by rw [o_lead, if_pos (by omega)]; exact ⟨rfl, hC1, hF1⟩)
  rw [if_pos h1]
  show Ex _ _ _ _ _ _ _ _ [zi 1] _
  refine x_if_ne (tgt := 19) dX4_lead_10 rfl (fun c1 => ?_) (fun c1 => ?_)
  rotate_left
  · omega
  refine x_aload0 dX4_lead_19 ?_
  refine x_getI dX4_lead_20 fd_X4_16 rfl (Or.inl rfl) (v := s.1 0 1) hM.last ?_
  refine x_iload1 dX4_lead_23 ?_
  refine x_icmp_ne (tgt := 29) dX4_lead_24 rfl (fun c2 => ?_) (fun c2 => ?_)
  rotate_left
  · refine x_iconst dX4_lead_27 ⟨by decide, by decide⟩ ?_
    exact xe_i dX4_lead_28 (by rw [o_lead, if_neg (by omega), if_pos c2]; exact ⟨rfl, hC, Fr.rf⟩)
  have eo : o_lead s n = (fdl s.1 (ast s.1 (ase s.1)) n 6 0, s) := by rw [o_lead, if_neg (by omega), if_neg c2]
  rw [eo, ← ldW_ast]
  have hg := hC.gone
  have hW := ldW_ok hV
  have hW0 : ldW s.1 0 0 = s.1 0 0 := ldW_sc s.1 0 (by decide)
  have hW1 : ldW s.1 0 1 = s.1 0 1 := ldW_sc s.1 1 (by decide)
  have hW4 : ldW s.1 0 4 = s.1 0 4 := ldW_sc s.1 4 (by decide)
  obtain ⟨e1, e2, e3, e4⟩ := ase_pow hW.1
  have hlm : ∀ q ∈ ast (ldW s.1) (ase (ldW s.1)), q < 64 := fun q hq => by have := (ast_mem.mp hq).1; omega
  have hd0 := hV.2.2.2.1
  have hl1 := hV.2.1
  refine x_aload0 dX4_lead_29 ?_
  refine x_callv0 dX4_lead_30 cv_X4_182 ci_X4_open rfl (T := TX4) rfl (by omega) (Nat.le_of_ble_eq_true rfl) (t_open hM) (fun r m2 hq => ?_)
  obtain ⟨rfl, hM2, hS2, hF2⟩ := hq
  show Ex _ _ _ _ _ _ _ _ [] _
  -- the days
  have days : ∀ (q k : Nat) (m2 : zz_M) (f x r nn : Int) (o6 o7 o8 o9 : Option zz_V), k + q = 6 → OM m1 m2 s.1 (st3 (ldW s.1) (s.1 0 4 + k) f x) → fa (ldW s.1) (ast (ldW s.1) (ase (ldW s.1))) (s.1 0 4 + k) r nn ((s.1 0 0).toNat + 1) = rch s.1 (ast (ldW s.1) (ase (ldW s.1))) k → (nn = 0 ∨ nn = 1) →
      fdl s.1 (ast (ldW s.1) (ase (ldW s.1))) n q k = fdl s.1 (ast (ldW s.1) (ase (ldW s.1))) n 6 0 → Ex E cX4_lead 10 RX4 6 (RQ m1 (fdl s.1 (ast (ldW s.1) (ase (ldW s.1))) n 6 0, s)) 91 [some (zr 59), some (zi n), some (zi r), some (zi nn), some (zi (-9)), some (zi ((k : Int) + 1)), o6, o7, o8, o9] [] m2 := by
    have fin : ∀ (v : Int) (m2 : zz_M) (U : zz_W) (o2 o3 o5 o6 o7 o8 o9 : Option zz_V), v = fdl s.1 (ast (ldW s.1) (ase (ldW s.1))) n 6 0 → OM m1 m2 s.1 U → Ex E cX4_lead 10 RX4 6 (RQ m1 (fdl s.1 (ast (ldW s.1) (ase (ldW s.1))) n 6 0, s)) 250 [some (zr 59), some (zi n), o2, o3, some (zi v), o5, o6, o7, o8, o9] [] m2 := by
      intro v m2 U o2 o3 o5 o6 o7 o8 o9 hv hO
      refine Ex.wk (L' := [some (zr 59), some (zi n), none, none, some (zi v), none, none, none, none, none]) ⟨rfl, rfl, rfl, trivial⟩ ?_
      refine x_aload0 dX4_lead_250 ?_
      refine x_callv0 dX4_lead_251 cv_X4_188 ci_X4_close rfl (T := TX4) rfl (by omega) (Nat.le_of_ble_eq_true rfl) (t_close hO.2.1) (fun r m4 hq => ?_)
      obtain ⟨rfl, hM4, hS4, hF4⟩ := hq
      have hO4 : OM m1 m4 s.1 s.1 := ⟨hM4, hS4, hO.2.2.tr hF4⟩
      have hfin := hO4.fin hC
      show Ex _ _ _ _ _ _ _ _ [] _
      refine x_iload4 dX4_lead_254 ?_
      exact xe_i dX4_lead_256 (⟨by rw [hv], hfin⟩)
    intro q
    induction q with
    | zero =>
      intro k m2 f x r nn o6 o7 o8 o9 hk hO hfa hnn hfd
      obtain rfl : k = 6 := by omega
      refine Ex.wk (L' := [some (zr 59), some (zi n), some (zi r), some (zi nn), some (zi (-9)), some (zi (((6 : Nat) : Int) + 1)), none, none, none, none]) ⟨rfl, rfl, rfl, rfl, rfl, rfl, trivial⟩ ?_
      refine x_iload5 dX4_lead_91 ?_
      refine x_bipush dX4_lead_93 ⟨by decide, by decide⟩ ?_
      refine x_icmp_ge (tgt := 250) dX4_lead_95 rfl (fun d1 => ?_) (fun d1 => ?_)
      · exact fin _ _ _ _ _ _ _ _ _ _ hfd hO
      · omega
    | succ q ih =>
      intro k m2 f x r nn o6 o7 o8 o9 hk hO hfa hnn hfd
      refine Ex.wk (L' := [some (zr 59), some (zi n), some (zi r), some (zi nn), some (zi (-9)), some (zi ((k : Int) + 1)), none, none, none, none]) ⟨rfl, rfl, rfl, rfl, rfl, rfl, trivial⟩ ?_
      have hD : Iv 10009 (ldW s.1) := hW.wd (by decide)
      have hfab := fun (j : Nat) (hj : (j : Int) ≤ ldW s.1 0 0 + 1) => fa_bd (d := s.1 0 4 + k) (r := r) (nn := nn) hD (by decide) (by omega) (by omega) hlm j hj
      refine x_iload5 dX4_lead_91 ?_
      refine x_bipush dX4_lead_93 ⟨by decide, by decide⟩ ?_
      refine x_icmp_ge (tgt := 250) dX4_lead_95 rfl (fun d1 => ?_) (fun d1 => ?_)
      · omega
      · refine x_iload4 dX4_lead_98 ?_
        refine x_if_ge (tgt := 250) dX4_lead_100 rfl (fun d2 => ?_) (fun d2 => ?_)
        · omega
        · refine x_iconst dX4_lead_103 ⟨by decide, by decide⟩ ?_
          refine x_istore6 dX4_lead_104 (by decide) rfl ?_
          refine x_iconst dX4_lead_106 ⟨by decide, by decide⟩ ?_
          refine x_istore7 dX4_lead_107 (by decide) rfl ?_
          have froms : ∀ (p j : Nat) (m3 : zz_M) (f x : Int) (o8 o9 : Option zz_V), j + p = (s.1 0 0).toNat + 1 → OM m1 m3 s.1 (st3 (ldW s.1) (s.1 0 4 + k) f x) → Ex E cX4_lead 10 RX4 6 (RQ m1 (fdl s.1 (ast (ldW s.1) (ase (ldW s.1))) n 6 0, s)) 109 [some (zr 59), some (zi n), some (zi r), some (zi nn), some (zi (-9)), some (zi ((k : Int) + 1)), some (zi (fa (ldW s.1) (ast (ldW s.1) (ase (ldW s.1))) (s.1 0 4 + k) r nn j)), some (zi ((j : Int) - 1)), o8, o9] [] m3 := by
            intro p
            induction p with
            | zero =>
              intro j m3 f x o8 o9 hj hO3
              refine Ex.wk (L' := [some (zr 59), some (zi n), some (zi r), some (zi nn), some (zi (-9)), some (zi ((k : Int) + 1)), some (zi (fa (ldW s.1) (ast (ldW s.1) (ase (ldW s.1))) (s.1 0 4 + k) r nn j)), some (zi ((j : Int) - 1)), none, none]) ⟨rfl, rfl, rfl, rfl, rfl, rfl, rfl, rfl, trivial⟩ ?_
              obtain rfl : j = (s.1 0 0).toNat + 1 := by omega
              rw [hfa]
              refine x_iload7 dX4_lead_109 ?_
              refine x_aload0 dX4_lead_111 ?_
              refine x_getI dX4_lead_112 fd_X4_77 rfl (Or.inl rfl) (v := s.1 0 0) (hO3.1.nests.trans hW0) ?_
              refine x_icmp_ge (tgt := 211) dX4_lead_115 rfl (fun d3 => ?_) (fun d3 => ?_)
              · refine x_iconst dX4_lead_211 ⟨by decide, by decide⟩ ?_
                refine x_istore3 dX4_lead_212 (by decide) rfl ?_
                refine x_iload6 dX4_lead_213 ?_
                refine x_istore2 dX4_lead_215 (by decide) rfl ?_
                refine x_aload0 dX4_lead_216 ?_
                refine x_dupr dX4_lead_217 ?_
                refine x_getI dX4_lead_218 fd_X4_114 rfl (Or.inl rfl) (v := s.1 0 4 + k) hO3.1.day ?_
                refine x_iconst dX4_lead_221 ⟨by decide, by decide⟩ ?_
                refine x_iadd dX4_lead_222 (nrm_id (by omega) (by omega)) ?_
                refine x_putI dX4_lead_223 fd_X4_114 rfl rfl ?_
                refine x_iload2 dX4_lead_226 ?_
                refine x_iload1 dX4_lead_227 ?_
                refine x_ishr dX4_lead_228 rfl ?_
                refine x_iconst dX4_lead_229 ⟨by decide, by decide⟩ ?_
                refine x_iand dX4_lead_230 rfl ?_
                refine x_iconst dX4_lead_231 ⟨by decide, by decide⟩ ?_
                have hM4 : MP _ (ux _ 0 4 (s.1 0 4 + k + 1)) := hO3.1.f (j := 8) (by decide)
                rw [st3_d] at hM4
                have hO4 : OM m1 (up m3 59 8 (s.1 0 4 + k + 1)) s.1 (st3 (ldW s.1) (s.1 0 4 + ((k + 1 : Nat) : Int)) f x) := hO3.st (Fg.rf.upf (by decide)) (by push_cast; rw [← Int.add_assoc]; exact hM4)
                have er : fdl s.1 (ast (ldW s.1) (ase (ldW s.1))) n (q + 1) k = if bt (rch s.1 (ast (ldW s.1) (ase (ldW s.1))) k) n = 1 then ((k + 1 : Nat) : Int) else fdl s.1 (ast (ldW s.1) (ase (ldW s.1))) n q (k + 1) := rfl
                rw [er] at hfd
                refine x_icmp_ne (tgt := 240) dX4_lead_232 rfl (fun d4 => ?_) (fun d4 => ?_)
                · have d4 : bt (rch s.1 (ast (ldW s.1) (ase (ldW s.1))) k) n ≠ 1 := d4
                  rw [if_neg d4] at hfd
                  refine x_bipush dX4_lead_240 ⟨by decide, by decide⟩ ?_
                  refine x_istore4 dX4_lead_242 (by decide) rfl ?_
                  refine x_iinc5 dX4_lead_244 (by decide) rfl (nrm_id (by omega) (by omega)) ?_
                  refine x_goto (tgt := 91) dX4_lead_247 rfl ?_
                  refine Ex.eq (by push_cast; rfl) rfl rfl (ih (k + 1) _ f x _ 0 _ _ _ _ (by omega) hO4 ?_ (Or.inl rfl) hfd)
                  exact fa_rc1 hD (by decide) (by omega) (by omega) hlm _ (by omega)
                · have d4 : bt (rch s.1 (ast (ldW s.1) (ase (ldW s.1))) k) n = 1 := d4
                  rw [if_pos d4] at hfd
                  refine x_iload5 dX4_lead_235 ?_
                  refine x_goto (tgt := 242) dX4_lead_237 rfl ?_
                  refine x_istore4 dX4_lead_242 (by decide) rfl ?_
                  refine x_iinc5 dX4_lead_244 (by decide) rfl (nrm_id (by omega) (by omega)) ?_
                  refine x_goto (tgt := 91) dX4_lead_247 rfl ?_
                  refine x_iload5 dX4_lead_91 ?_
                  refine x_bipush dX4_lead_93 ⟨by decide, by decide⟩ ?_
                  refine x_icmp_ge (tgt := 250) dX4_lead_95 rfl (fun d5 => ?_) (fun d5 => ?_)
                  · exact fin _ _ _ _ _ _ _ _ _ _ (by rw [← hfd]; push_cast; rfl) hO4
                  · refine x_iload4 dX4_lead_98 ?_
                    refine x_if_ge (tgt := 250) dX4_lead_100 rfl (fun d6 => ?_) (fun d6 => ?_)
                    · exact fin _ _ _ _ _ _ _ _ _ _ (by rw [← hfd]; push_cast; rfl) hO4
                    · omega
              · omega
            | succ p ihp =>
              intro j m3 f x o8 o9 hj hO3
              refine Ex.wk (L' := [some (zr 59), some (zi n), some (zi r), some (zi nn), some (zi (-9)), some (zi ((k : Int) + 1)), some (zi (fa (ldW s.1) (ast (ldW s.1) (ase (ldW s.1))) (s.1 0 4 + k) r nn j)), some (zi ((j : Int) - 1)), none, none]) ⟨rfl, rfl, rfl, rfl, rfl, rfl, rfl, rfl, trivial⟩ ?_
              have hfb := hfab j (by omega)
              have next : ∀ (t v w : Int) (m3 : zz_M) (f x : Int), t = fa (ldW s.1) (ast (ldW s.1) (ase (ldW s.1))) (s.1 0 4 + k) r nn (j + 1) → OM m1 m3 s.1 (st3 (ldW s.1) (s.1 0 4 + k) f x) → Ex E cX4_lead 10 RX4 6 (RQ m1 (fdl s.1 (ast (ldW s.1) (ase (ldW s.1))) n 6 0, s)) 205 [some (zr 59), some (zi n), some (zi r), some (zi nn), some (zi (-9)), some (zi ((k : Int) + 1)), some (zi t), some (zi ((j : Int) - 1)), some (zi v), some (zi w)] [] m3 := by
                intro t v w m3 f x ht hO3
                refine x_iinc7 dX4_lead_205 (by decide) rfl (nrm_id (by omega) (by omega)) ?_
                refine x_goto (tgt := 109) dX4_lead_208 rfl ?_
                exact Ex.eq (by rw [ht, show (j : Int) - 1 + 1 = ((j + 1 : Nat) : Int) - 1 by omega]) rfl rfl (ihp (j + 1) m3 f x _ _ (by omega) hO3)
              have on : (if j = 0 then nn = 1 else bt r ((j : Int) - 1) = 1) → ∀ (p e : Nat) (m3 : zz_M) (f x : Int), e + p = ase (ldW s.1) → OM m1 m3 s.1 (st3 (ldW s.1) (s.1 0 4 + k) f x) → Ex E cX4_lead 10 RX4 6 (RQ m1 (fdl s.1 (ast (ldW s.1) (ase (ldW s.1))) n 6 0, s)) 147 [some (zr 59), some (zi n), some (zi r), some (zi nn), some (zi (-9)), some (zi ((k : Int) + 1)), some (zi (lbf (ldW s.1) (s.1 0 4 + k) ((j : Int) - 1) (ast (ldW s.1) e) (fa (ldW s.1) (ast (ldW s.1) (ase (ldW s.1))) (s.1 0 4 + k) r nn j))), some (zi ((j : Int) - 1)), some (zi 1), some (zi e)] [] m3 := by
                intro hon p
                induction p with
                | zero =>
                  intro e m3 f x he hO3
                  obtain rfl : e = ase (ldW s.1) := by omega
                  refine x_iload9 dX4_lead_147 ?_
                  refine x_iconst dX4_lead_149 ⟨by decide, by decide⟩ ?_
                  refine x_aload0 dX4_lead_150 ?_
                  refine x_getI dX4_lead_151 fd_X4_77 rfl (Or.inl rfl) (v := ldW s.1 0 0) hO3.1.nests ?_
                  refine x_ishl dX4_lead_154 e1 ?_
                  refine x_icmp_ge (tgt := 205) dX4_lead_155 rfl (fun d5 => ?_) (fun d5 => ?_)
                  · exact next _ _ _ m3 f x (fa_on hon).symm hO3
                  · omega
                | succ p ihe =>
                  intro e m3 f x he hO3
                  have hlb := lbf_bd hD (by decide) (show ldW s.1 0 0 ≠ 0 by omega) (d := s.1 0 4 + k) (f := (j : Int) - 1) (by omega) (by omega) (ast (ldW s.1) e) _ (fun q hq => by have := (ast_mem.mp hq).1; omega) hfb
                  have hst := lbf_ast (ldW s.1) (s.1 0 4 + k) ((j : Int) - 1) e (fa (ldW s.1) (ast (ldW s.1) (ase (ldW s.1))) (s.1 0 4 + k) r nn j)
                  refine x_iload9 dX4_lead_147 ?_
                  refine x_iconst dX4_lead_149 ⟨by decide, by decide⟩ ?_
                  refine x_aload0 dX4_lead_150 ?_
                  refine x_getI dX4_lead_151 fd_X4_77 rfl (Or.inl rfl) (v := ldW s.1 0 0) hO3.1.nests ?_
                  refine x_ishl dX4_lead_154 e1 ?_
                  refine x_icmp_ge (tgt := 205) dX4_lead_155 rfl (fun d5 => ?_) (fun d5 => ?_)
                  · omega
                  · refine x_iload8 dX4_lead_158 ?_
                    refine x_if_eq (tgt := 205) dX4_lead_160 rfl (fun d6 => ?_) (fun d6 => ?_)
                    · omega
                    · refine x_aload0 dX4_lead_163 ?_
                      refine x_iload7 dX4_lead_164 ?_
                      refine x_putI dX4_lead_166 fd_X4_16 rfl rfl ?_
                      have hM4 : MP _ (ux _ 0 1 ((j : Int) - 1)) := hO3.1.f (j := 5) (by decide)
                      rw [st3_f] at hM4
                      refine x_aload0 dX4_lead_169 ?_
                      refine x_iload9 dX4_lead_170 ?_
                      refine x_putI dX4_lead_172 fd_X4_84 rfl rfl ?_
                      have hM5 : MP _ (ux _ 0 2 (e : Int)) := hM4.f (j := 6) (by decide)
                      rw [st3_l] at hM5
                      have hO5 : OM m1 (up (up m3 59 5 ((j : Int) - 1)) 59 6 (e : Int)) s.1 (st3 (ldW s.1) (s.1 0 4 + k) ((j : Int) - 1) e) := hO3.st ((Fg.rf.upf (by decide)).upf (by decide)) hM5
                      generalize up (up m3 59 5 ((j : Int) - 1)) 59 6 (e : Int) = m5 at hO5
                      have hI5 : Iv 10009 (st3 (ldW s.1) (s.1 0 4 + k) ((j : Int) - 1) e) := Iv_st hD (by omega) (by omega) (by omega)
                      refine x_iload6 dX4_lead_175 ?_
                      refine x_aload0 dX4_lead_177 ?_
                      refine x_iload9 dX4_lead_178 ?_
                      refine x_callv1 dX4_lead_180 cv_X4_207 ci_X4_allows rfl (T := TX4) rfl (by omega) (Nat.le_of_ble_eq_true rfl) (t_allows hO5.1 hI5 (q := (e : Int))) (fun r m6 hq => ?_)
                      obtain ⟨rfl, rfl⟩ := hq
                      have ea : alw (st3 (ldW s.1) (s.1 0 4 + k) ((j : Int) - 1) e) e ↔ alw (ldW s.1) e := Iff.rfl
                      show Ex _ _ _ _ _ _ _ _ [zi _, zi _] _
                      by_cases ha : alw (ldW s.1) e
                      · rw [if_pos ha] at hst
                        rw [if_pos (ea.mpr ha)]
                        refine x_if_eq (tgt := 195) dX4_lead_183 rfl (fun d7 => ?_) (fun d7 => ?_)
                        · omega
                        · refine x_iconst dX4_lead_186 ⟨by decide, by decide⟩ ?_
                          refine x_aload0 dX4_lead_187 ?_
                          refine x_callv0 dX4_lead_188 cv_X4_120 ci_X4_laysAt rfl (T := TX4) rfl (by omega) (Nat.le_of_ble_eq_true rfl) (t_laysAt hO5.1 hI5 (by decide) (hO5.gone hg) (by rw [gs_all]; exact all_sub hI5.1.1 hI5.1.2) (by rw [gs_all]; exact has_all (show 0 < ldW s.1 0 0 by omega) hI5.1.2)) (fun r m7 hq => ?_)
                          obtain ⟨rfl, hM7, hF7⟩ := hq
                          have hO7 := hO5.st hF7.fg hM7
                          rw [gs_all]
                          show Ex _ _ _ _ _ _ _ _ [zi (lay (st3 (ldW s.1) (s.1 0 4 + k) ((j : Int) - 1) e)), zi 1, zi _] _
                          refine x_ishl dX4_lead_191 rfl ?_
                          refine x_goto (tgt := 196) dX4_lead_192 rfl ?_
                          refine x_ior dX4_lead_196 rfl ?_
                          refine x_istore6 dX4_lead_197 (by decide) rfl ?_
                          refine x_iinc9 dX4_lead_199 (by decide) rfl (nrm_id (by omega) (by omega)) ?_
                          refine x_goto (tgt := 147) dX4_lead_202 rfl ?_
                          exact Ex.eq (by rw [hst]; push_cast; rfl) rfl rfl (ihe (e + 1) m7 _ _ (by omega) hO7)
                      · rw [if_neg ha] at hst
                        rw [if_neg (fun h => ha (ea.mp h))]
                        refine x_if_eq (tgt := 195) dX4_lead_183 rfl (fun d7 => ?_) (fun d7 => ?_)
                        · refine x_iconst dX4_lead_195 ⟨by decide, by decide⟩ ?_
                          refine x_ior dX4_lead_196 (ior_0 hlb.1 hlb.2) ?_
                          refine x_istore6 dX4_lead_197 (by decide) rfl ?_
                          refine x_iinc9 dX4_lead_199 (by decide) rfl (nrm_id (by omega) (by omega)) ?_
                          refine x_goto (tgt := 147) dX4_lead_202 rfl ?_
                          exact Ex.eq (by rw [hst]; push_cast; rfl) rfl rfl (ihe (e + 1) m6 _ _ (by omega) hO5)
                        · omega
              -- is she there
              have there : ∀ is : Int, (is = 1 ↔ (if j = 0 then nn = 1 else bt r ((j : Int) - 1) = 1)) → (is = 0 ∨ is = 1) → Ex E cX4_lead 10 RX4 6 (RQ m1 (fdl s.1 (ast (ldW s.1) (ase (ldW s.1))) n 6 0, s)) 142 [some (zr 59), some (zi n), some (zi r), some (zi nn), some (zi (-9)), some (zi ((k : Int) + 1)), some (zi (fa (ldW s.1) (ast (ldW s.1) (ase (ldW s.1))) (s.1 0 4 + k) r nn j)), some (zi ((j : Int) - 1)), none, none] [zi is] m3 := by
                intro is his his2
                refine x_istore8 dX4_lead_142 (by decide) rfl ?_
                refine x_iconst dX4_lead_144 ⟨by decide, by decide⟩ ?_
                refine x_istore9 dX4_lead_145 (by decide) rfl ?_
                rcases his2 with rfl | rfl
                · have hoff : ¬ (if j = 0 then nn = 1 else bt r ((j : Int) - 1) = 1) := fun h => by have := his.mpr h; omega
                  refine x_iload9 dX4_lead_147 ?_
                  refine x_iconst dX4_lead_149 ⟨by decide, by decide⟩ ?_
                  refine x_aload0 dX4_lead_150 ?_
                  refine x_getI dX4_lead_151 fd_X4_77 rfl (Or.inl rfl) (v := ldW s.1 0 0) hO3.1.nests ?_
                  refine x_ishl dX4_lead_154 e1 ?_
                  refine x_icmp_ge (tgt := 205) dX4_lead_155 rfl (fun d5 => ?_) (fun d5 => ?_)
                  · omega
                  · refine x_iload8 dX4_lead_158 ?_
                    refine x_if_eq (tgt := 205) dX4_lead_160 rfl (fun d6 => ?_) (fun d6 => ?_)
                    · exact next _ _ _ m3 f x (fa_off hoff).symm hO3
                    · omega
                · exact on (his.mp rfl) (ase (ldW s.1)) 0 m3 f x (by omega) hO3
              refine x_iload7 dX4_lead_109 ?_
              refine x_aload0 dX4_lead_111 ?_
              refine x_getI dX4_lead_112 fd_X4_77 rfl (Or.inl rfl) (v := s.1 0 0) (hO3.1.nests.trans hW0) ?_
              refine x_icmp_ge (tgt := 211) dX4_lead_115 rfl (fun d3 => ?_) (fun d3 => ?_)
              · omega
              · refine x_iload7 dX4_lead_118 ?_
                refine x_if_ge (tgt := 127) dX4_lead_120 rfl (fun d4 => ?_) (fun d4 => ?_)
                · have hj0 : ¬ j = 0 := by omega
                  refine x_iload2 dX4_lead_127 ?_
                  refine x_iload7 dX4_lead_128 ?_
                  refine x_ishr dX4_lead_130 rfl ?_
                  refine x_iconst dX4_lead_131 ⟨by decide, by decide⟩ ?_
                  refine x_iand dX4_lead_132 rfl ?_
                  refine x_iconst dX4_lead_133 ⟨by decide, by decide⟩ ?_
                  refine x_icmp_ne (tgt := 141) dX4_lead_134 rfl (fun d5 => ?_) (fun d5 => ?_)
                  · have d5 : bt r ((j : Int) - 1) ≠ 1 := d5
                    refine x_iconst dX4_lead_141 ⟨by decide, by decide⟩ ?_
                    exact there 0 (by rw [if_neg hj0]; exact ⟨fun h => by omega, fun h => absurd h d5⟩) (Or.inl rfl)
                  · have d5 : bt r ((j : Int) - 1) = 1 := d5
                    refine x_iconst dX4_lead_137 ⟨by decide, by decide⟩ ?_
                    refine x_goto (tgt := 142) dX4_lead_138 rfl ?_
                    exact there 1 (by rw [if_neg hj0]; exact ⟨fun _ => d5, fun _ => rfl⟩) (Or.inr rfl)
                · have hj0 : j = 0 := by omega
                  refine x_iload3 dX4_lead_123 ?_
                  refine x_goto (tgt := 142) dX4_lead_124 rfl ?_
                  exact there nn (by rw [if_pos hj0]) hnn
          exact froms ((s.1 0 0).toNat + 1) 0 m2 f x none none (by omega) hO
  -- the way there
  have ek : ux s.1 0 6 (if s.1 0 6 = 4 then 3 else s.1 0 6) = ldW s.1 := by
    unfold ldW
    by_cases h : s.1 0 6 = 4
    · rw [if_pos h, if_pos h]
    · rw [if_neg h, if_neg h, ux_eq _ _ rfl]
  have start : ∀ (m3 : zz_M), OM m1 m3 s.1 (ldW s.1) → Ex E cX4_lead 10 RX4 6 (RQ m1 (fdl s.1 (ast (ldW s.1) (ase (ldW s.1))) n 6 0, s)) 53 [some (zr 59), some (zi n), none, none, none, none, none, none, none, none] [] m3 := by
    intro m3 hO3
    have hO4 : OM m1 m3 s.1 (st3 (ldW s.1) (s.1 0 4 + ((0 : Nat) : Int)) (s.1 0 1) (ldW s.1 0 2)) := by
      rw [← hW1, ← hW4, show ldW s.1 0 4 + ((0 : Nat) : Int) = ldW s.1 0 4 by omega, st3_id]
      exact hO3
    have h0 := fa_one (p := s.1 0 1) (d := s.1 0 4 + ((0 : Nat) : Int)) hW (by decide) (by omega) (by omega) hlm (by omega) ((s.1 0 0).toNat + 1) (by omega)
    rw [if_pos (show s.1 0 1 + 1 < (((s.1 0 0).toNat + 1 : Nat) : Int) by omega)] at h0
    have h00 : fa (ldW s.1) (ast (ldW s.1) (ase (ldW s.1))) (s.1 0 4 + ((0 : Nat) : Int)) (if s.1 0 1 < 0 then 0 else isl 1 (s.1 0 1)) (if s.1 0 1 < 0 then 1 else 0) ((s.1 0 0).toNat + 1) = rch s.1 (ast (ldW s.1) (ase (ldW s.1))) 0 := by
      rw [h0, show s.1 0 4 + ((0 : Nat) : Int) = s.1 0 4 by omega]
      rfl
    refine x_aload0 dX4_lead_53 ?_
    refine x_getI dX4_lead_54 fd_X4_16 rfl (Or.inl rfl) (v := s.1 0 1) (hO3.1.last.trans hW1) ?_
    refine x_if_ge (tgt := 64) dX4_lead_57 rfl (fun d1 => ?_) (fun d1 => ?_)
    · refine x_iconst dX4_lead_64 ⟨by decide, by decide⟩ ?_
      refine x_aload0 dX4_lead_65 ?_
      refine x_getI dX4_lead_66 fd_X4_16 rfl (Or.inl rfl) (v := s.1 0 1) (hO3.1.last.trans hW1) ?_
      refine x_ishl dX4_lead_69 rfl ?_
      refine x_istore2 dX4_lead_70 (by decide) rfl ?_
      refine x_aload0 dX4_lead_71 ?_
      refine x_getI dX4_lead_72 fd_X4_16 rfl (Or.inl rfl) (v := s.1 0 1) (hO3.1.last.trans hW1) ?_
      refine x_if_ge (tgt := 82) dX4_lead_75 rfl (fun d2 => ?_) (fun d2 => ?_)
      · rw [if_neg (by omega), if_neg (by omega)] at h00
        refine x_iconst dX4_lead_82 ⟨by decide, by decide⟩ ?_
        refine x_istore3 dX4_lead_83 (by decide) rfl ?_
        refine x_bipush dX4_lead_84 ⟨by decide, by decide⟩ ?_
        refine x_istore4 dX4_lead_86 (by decide) rfl ?_
        refine x_iconst dX4_lead_88 ⟨by decide, by decide⟩ ?_
        refine x_istore5 dX4_lead_89 (by decide) rfl ?_
        exact days 6 0 m3 _ _ _ _ none none none none rfl hO4 h00 (Or.inl rfl) rfl
      · omega
    · refine x_iconst dX4_lead_60 ⟨by decide, by decide⟩ ?_
      refine x_goto (tgt := 70) dX4_lead_61 rfl ?_
      refine x_istore2 dX4_lead_70 (by decide) rfl ?_
      refine x_aload0 dX4_lead_71 ?_
      refine x_getI dX4_lead_72 fd_X4_16 rfl (Or.inl rfl) (v := s.1 0 1) (hO3.1.last.trans hW1) ?_
      refine x_if_ge (tgt := 82) dX4_lead_75 rfl (fun d2 => ?_) (fun d2 => ?_)
      · omega
      · rw [if_pos d1, if_pos d1] at h00
        refine x_iconst dX4_lead_78 ⟨by decide, by decide⟩ ?_
        refine x_goto (tgt := 83) dX4_lead_79 rfl ?_
        refine x_istore3 dX4_lead_83 (by decide) rfl ?_
        refine x_bipush dX4_lead_84 ⟨by decide, by decide⟩ ?_
        refine x_istore4 dX4_lead_86 (by decide) rfl ?_
        refine x_iconst dX4_lead_88 ⟨by decide, by decide⟩ ?_
        refine x_istore5 dX4_lead_89 (by decide) rfl ?_
        exact days 6 0 m3 _ _ _ _ none none none none rfl hO4 h00 (Or.inr rfl) rfl
  refine x_aload0 dX4_lead_33 ?_
  refine x_aload0 dX4_lead_34 ?_
  refine x_getI dX4_lead_35 fd_X4_95 rfl (Or.inl rfl) (v := s.1 0 6) hM2.kind ?_
  refine x_iconst dX4_lead_38 ⟨by decide, by decide⟩ ?_
  refine x_icmp_ne (tgt := 46) dX4_lead_39 rfl (fun d1 => ?_) (fun d1 => ?_)
  · refine x_aload0 dX4_lead_46 ?_
    refine x_getI dX4_lead_47 fd_X4_95 rfl (Or.inl rfl) (v := s.1 0 6) hM2.kind ?_
    refine x_putI dX4_lead_50 fd_X4_95 rfl rfl ?_
    rw [if_neg d1] at ek
    exact start _ ⟨by rw [← ek]; exact hM2.f (j := 1) (by decide), fun j hj => by rw [up_cell (by decide)]; exact hS2 j hj, hF2.upf (by decide)⟩
  · refine x_iconst dX4_lead_42 ⟨by decide, by decide⟩ ?_
    refine x_goto (tgt := 50) dX4_lead_43 rfl ?_
    refine x_putI dX4_lead_50 fd_X4_95 rfl rfl ?_
    rw [if_pos d1] at ek
    exact start _ ⟨by rw [← ek]; exact hM2.f (j := 1) (by decide), fun j hj => by rw [up_cell (by decide)]; exact hS2 j hj, hF2.upf (by decide)⟩
end RM15
