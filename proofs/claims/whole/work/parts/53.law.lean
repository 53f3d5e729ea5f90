/-! ===== the law: every call of both sides, and its loop ===== -/
section LAW
variable {E : zz_E} {m : zz_M} {s : zz_S}
theorem CP.k {m' : zz_M} (h : CP m s) (hF : Fr 59 77 m m') : CP m' s := by
  obtain ⟨h1, h2, ⟨V3, h3⟩, ⟨V4, h4⟩, ⟨V5, h5⟩, ⟨V6, h6⟩, h7⟩ := h.1
  exact ⟨⟨h1.fr hF (by omega), h2.fr hF (by omega), ⟨V3, h3.fr hF (by omega)⟩, ⟨V4, h4.fr hF (by omega)⟩, ⟨V5, h5.fr hF (by omega)⟩, ⟨V6, h6.fr hF (by omega)⟩, by rw [hF 52 (by omega)]; exact h7⟩, h.2.fr (hF _ (by omega)) (hF _ (by omega)) (hF _ (by omega)) (hF _ (by omega)) (hF _ (by omega))⟩
theorem MPS.k {m' : zz_M} (hC : MPS m s) (hF : Fr 0 59 m m') : MPS m' s := by
  obtain ⟨h1, h2, g1, g2, g3, g4, g5, g6, g7⟩ := hC
  refine ⟨h1.keep (fun k hk => by rw [hF 59 (by omega)]) (fun q a b => hF q (by omega)), fun q j hj => by rw [hF 70 (by omega)]; exact h2 q j hj, ?_⟩
  unfold MR
  rw [hF 71 (by omega), hF 75 (by omega), hF 65 (by omega), hF 59 (by omega)]
  exact ⟨g1, g2, g3, g4, g5, g6, g7⟩
theorem lcm00 (a : Int) : lcm_ a a = 0 := by
  unfold lcm_
  rw [if_neg (by omega), if_pos rfl]
abbrev LX (E : zz_E) (pc : Nat) (i : Int) (m : zz_M) : Prop := Ex E cL_law 4 zz_RL 40 (fun r _ => r = some (zi 1)) pc [some (zr 79), some (zr 55), some (zr 59), some (zi i)] [] m
variable {i : Int}
/-- how the loop goes on behind a call -/
abbrev LN (E : zz_E) (i : Int) : Prop := ∀ (s' : zz_S) (m' : zz_M), CP m' s' → MPS m' s' → Is s' → LX E 714 i m'
theorem law_feed (hC : CP m s) (hM : MPS m s) (hI : Is s) (hi : 0 ≤ i) (hi4 : i + 4 ≤ (rn E 79 : Int)) (hL : rn E 79 ≤ 2048) (nx : LN E i) : LX E 148 i m := by
  show Ex E cL_law 4 zz_RL 40 _ 148 [some (zr 79), some (zr 55), some (zr 59), some (zi i)] [] m
  refine x_aload1 dL_law_148 ?_
  refine x_aload0 dL_law_149 ?_
  refine x_iload3 dL_law_150 ?_
  refine x_iconst dL_law_151 ⟨by decide, by decide⟩ ?_
  refine x_iadd dL_law_152 (nrm_id (by omega) (by omega)) ?_
  refine x_rald dL_law_153 ⟨by decide, by decide⟩ (by omega) (by omega) rfl ?_
  refine x_callv1 dL_law_154 cv_L_13 ci_X3_feed rfl (T := TX3) rfl (by omega) (Nat.le_of_ble_eq_true rfl) (s_feed hC hI (l := ro E 79 (i + 1).toNat)) (fun r m1 hq => ?_)
  obtain ⟨rfl, hC1, hF1⟩ := hq
  have hM1 := hM.k hF1
  show Ex _ _ _ _ _ _ _ _ [zi (o_feed s (ro E 79 (i + 1).toNat)).1] _
  refine x_aload2 dL_law_157 ?_
  refine x_aload0 dL_law_158 ?_
  refine x_iload3 dL_law_159 ?_
  refine x_iconst dL_law_160 ⟨by decide, by decide⟩ ?_
  refine x_iadd dL_law_161 (nrm_id (by omega) (by omega)) ?_
  refine x_rald dL_law_162 ⟨by decide, by decide⟩ (by omega) (by omega) rfl ?_
  refine x_callv1 dL_law_163 cv_L_17 ci_X4_feed rfl (T := TX4) rfl (by omega) (Nat.le_of_ble_eq_true rfl) (t_feed hM1 hI (l := ro E 79 (i + 1).toNat)) (fun r m2 hq => ?_)
  obtain ⟨rfl, hM2, hF2⟩ := hq
  have hC2 := hC1.k hF2
  show Ex _ _ _ _ _ _ _ _ [zi (o_feed s (ro E 79 (i + 1).toNat)).1, zi (o_feed s (ro E 79 (i + 1).toNat)).1] _
  refine x_icmp_eq (tgt := 714) dL_law_166 rfl (fun e1 => ?_) (fun e1 => ?_)
  · exact nx _ _ hC2 hM2 (is_feed hI)
  · exact absurd rfl e1
theorem law_farm (hC : CP m s) (hM : MPS m s) (hI : Is s) (hi : 0 ≤ i) (hi4 : i + 4 ≤ (rn E 79 : Int)) (hL : rn E 79 ≤ 2048) (nx : LN E i) : LX E 171 i m := by
  show Ex E cL_law 4 zz_RL 40 _ 171 [some (zr 79), some (zr 55), some (zr 59), some (zi i)] [] m
  refine x_aload1 dL_law_171 ?_
  refine x_callv0 dL_law_172 cv_L_18 ci_X3_farm rfl (T := TX3) rfl (by omega) (Nat.le_of_ble_eq_true rfl) (s_farm hC hI) (fun r m1 hq => ?_)
  obtain ⟨rfl, hC1, hF1⟩ := hq
  have hM1 := hM.k hF1
  show Ex _ _ _ _ _ _ _ _ [zi (o_farm s).1] _
  refine x_aload2 dL_law_175 ?_
  refine x_callv0 dL_law_176 cv_L_22 ci_X4_farm rfl (T := TX4) rfl (by omega) (Nat.le_of_ble_eq_true rfl) (t_farm hM1 hI) (fun r m2 hq => ?_)
  obtain ⟨rfl, hM2, hF2⟩ := hq
  have hC2 := hC1.k hF2
  show Ex _ _ _ _ _ _ _ _ [zi (o_farm s).1, zi (o_farm s).1] _
  refine x_icmp_eq (tgt := 714) dL_law_179 rfl (fun e1 => ?_) (fun e1 => ?_)
  · exact nx _ _ hC2 hM2 (is_farm hI)
  · exact absurd rfl e1
theorem law_nest (hC : CP m s) (hM : MPS m s) (hI : Is s) (hi : 0 ≤ i) (hi4 : i + 4 ≤ (rn E 79 : Int)) (hL : rn E 79 ≤ 2048) (nx : LN E i) : LX E 184 i m := by
  show Ex E cL_law 4 zz_RL 40 _ 184 [some (zr 79), some (zr 55), some (zr 59), some (zi i)] [] m
  refine x_aload1 dL_law_184 ?_
  refine x_aload0 dL_law_185 ?_
  refine x_iload3 dL_law_186 ?_
  refine x_iconst dL_law_187 ⟨by decide, by decide⟩ ?_
  refine x_iadd dL_law_188 (nrm_id (by omega) (by omega)) ?_
  refine x_rald dL_law_189 ⟨by decide, by decide⟩ (by omega) (by omega) rfl ?_
  refine x_aload0 dL_law_190 ?_
  refine x_iload3 dL_law_191 ?_
  refine x_iconst dL_law_192 ⟨by decide, by decide⟩ ?_
  refine x_iadd dL_law_193 (nrm_id (by omega) (by omega)) ?_
  refine x_rald dL_law_194 ⟨by decide, by decide⟩ (by omega) (by omega) rfl ?_
  refine x_callv2 dL_law_195 cv_L_23 ci_X3_nest rfl (T := TX3) rfl (by omega) (Nat.le_of_ble_eq_true rfl) (s_nest hC hI (n := ro E 79 (i + 1).toNat) (w := ro E 79 (i + 2).toNat)) (fun r m1 hq => ?_)
  obtain ⟨rfl, hC1, hF1⟩ := hq
  have hM1 := hM.k hF1
  show Ex _ _ _ _ _ _ _ _ [zi (o_nest s (ro E 79 (i + 1).toNat) (ro E 79 (i + 2).toNat)).1] _
  refine x_aload2 dL_law_198 ?_
  refine x_aload0 dL_law_199 ?_
  refine x_iload3 dL_law_200 ?_
  refine x_iconst dL_law_201 ⟨by decide, by decide⟩ ?_
  refine x_iadd dL_law_202 (nrm_id (by omega) (by omega)) ?_
  refine x_rald dL_law_203 ⟨by decide, by decide⟩ (by omega) (by omega) rfl ?_
  refine x_aload0 dL_law_204 ?_
  refine x_iload3 dL_law_205 ?_
  refine x_iconst dL_law_206 ⟨by decide, by decide⟩ ?_
  refine x_iadd dL_law_207 (nrm_id (by omega) (by omega)) ?_
  refine x_rald dL_law_208 ⟨by decide, by decide⟩ (by omega) (by omega) rfl ?_
  refine x_callv2 dL_law_209 cv_L_27 ci_X4_nest rfl (T := TX4) rfl (by omega) (Nat.le_of_ble_eq_true rfl) (t_nest hM1 hI (n := ro E 79 (i + 1).toNat) (w := ro E 79 (i + 2).toNat)) (fun r m2 hq => ?_)
  obtain ⟨rfl, hM2, hF2⟩ := hq
  have hC2 := hC1.k hF2
  show Ex _ _ _ _ _ _ _ _ [zi (o_nest s (ro E 79 (i + 1).toNat) (ro E 79 (i + 2).toNat)).1, zi (o_nest s (ro E 79 (i + 1).toNat) (ro E 79 (i + 2).toNat)).1] _
  refine x_icmp_eq (tgt := 714) dL_law_212 rfl (fun e1 => ?_) (fun e1 => ?_)
  · exact nx _ _ hC2 hM2 (is_nest hI)
  · exact absurd rfl e1
theorem law_set (hC : CP m s) (hM : MPS m s) (hI : Is s) (hi : 0 ≤ i) (hi4 : i + 4 ≤ (rn E 79 : Int)) (hL : rn E 79 ≤ 2048) (nx : LN E i) : LX E 217 i m := by
  show Ex E cL_law 4 zz_RL 40 _ 217 [some (zr 79), some (zr 55), some (zr 59), some (zi i)] [] m
  refine x_aload1 dL_law_217 ?_
  refine x_aload0 dL_law_218 ?_
  refine x_iload3 dL_law_219 ?_
  refine x_iconst dL_law_220 ⟨by decide, by decide⟩ ?_
  refine x_iadd dL_law_221 (nrm_id (by omega) (by omega)) ?_
  refine x_rald dL_law_222 ⟨by decide, by decide⟩ (by omega) (by omega) rfl ?_
  refine x_aload0 dL_law_223 ?_
  refine x_iload3 dL_law_224 ?_
  refine x_iconst dL_law_225 ⟨by decide, by decide⟩ ?_
  refine x_iadd dL_law_226 (nrm_id (by omega) (by omega)) ?_
  refine x_rald dL_law_227 ⟨by decide, by decide⟩ (by omega) (by omega) rfl ?_
  refine x_callv2 dL_law_228 cv_L_28 ci_X3_set rfl (T := TX3) rfl (by omega) (Nat.le_of_ble_eq_true rfl) (s_set hC (q := ro E 79 (i + 1).toNat) (v := ro E 79 (i + 2).toNat)) (fun r m1 hq => ?_)
  obtain ⟨rfl, hC1, hF1⟩ := hq
  have hM1 := hM.k hF1
  show Ex _ _ _ _ _ _ _ _ [zi (o_set s (ro E 79 (i + 1).toNat) (ro E 79 (i + 2).toNat)).1] _
  refine x_aload2 dL_law_231 ?_
  refine x_aload0 dL_law_232 ?_
  refine x_iload3 dL_law_233 ?_
  refine x_iconst dL_law_234 ⟨by decide, by decide⟩ ?_
  refine x_iadd dL_law_235 (nrm_id (by omega) (by omega)) ?_
  refine x_rald dL_law_236 ⟨by decide, by decide⟩ (by omega) (by omega) rfl ?_
  refine x_aload0 dL_law_237 ?_
  refine x_iload3 dL_law_238 ?_
  refine x_iconst dL_law_239 ⟨by decide, by decide⟩ ?_
  refine x_iadd dL_law_240 (nrm_id (by omega) (by omega)) ?_
  refine x_rald dL_law_241 ⟨by decide, by decide⟩ (by omega) (by omega) rfl ?_
  refine x_callv2 dL_law_242 cv_L_31 ci_X4_set rfl (T := TX4) rfl (by omega) (Nat.le_of_ble_eq_true rfl) (tt_set hM1 (q := ro E 79 (i + 1).toNat) (v := ro E 79 (i + 2).toNat)) (fun r m2 hq => ?_)
  obtain ⟨rfl, hM2, hF2⟩ := hq
  have hC2 := hC1.k hF2
  show Ex _ _ _ _ _ _ _ _ [zi (o_set s (ro E 79 (i + 1).toNat) (ro E 79 (i + 2).toNat)).1, zi (o_set s (ro E 79 (i + 1).toNat) (ro E 79 (i + 2).toNat)).1] _
  refine x_icmp_eq (tgt := 714) dL_law_245 rfl (fun e1 => ?_) (fun e1 => ?_)
  · exact nx _ _ hC2 hM2 (is_set hI)
  · exact absurd rfl e1
theorem law_look (hC : CP m s) (hM : MPS m s) (hI : Is s) (hi : 0 ≤ i) (hi4 : i + 4 ≤ (rn E 79 : Int)) (hL : rn E 79 ≤ 2048) (nx : LN E i) : LX E 250 i m := by
  show Ex E cL_law 4 zz_RL 40 _ 250 [some (zr 79), some (zr 55), some (zr 59), some (zi i)] [] m
  refine x_aload1 dL_law_250 ?_
  refine x_aload0 dL_law_251 ?_
  refine x_iload3 dL_law_252 ?_
  refine x_iconst dL_law_253 ⟨by decide, by decide⟩ ?_
  refine x_iadd dL_law_254 (nrm_id (by omega) (by omega)) ?_
  refine x_rald dL_law_255 ⟨by decide, by decide⟩ (by omega) (by omega) rfl ?_
  refine x_callv1 dL_law_256 cv_L_32 ci_X3_look rfl (T := TX3) rfl (by omega) (Nat.le_of_ble_eq_true rfl) (s_look hC hI (n := ro E 79 (i + 1).toNat)) (fun r m1 hq => ?_)
  obtain ⟨rfl, hC1, hF1⟩ := hq
  have hM1 := hM.k hF1
  show Ex _ _ _ _ _ _ _ _ [zi (o_look s (ro E 79 (i + 1).toNat)).1] _
  refine x_aload2 dL_law_259 ?_
  refine x_aload0 dL_law_260 ?_
  refine x_iload3 dL_law_261 ?_
  refine x_iconst dL_law_262 ⟨by decide, by decide⟩ ?_
  refine x_iadd dL_law_263 (nrm_id (by omega) (by omega)) ?_
  refine x_rald dL_law_264 ⟨by decide, by decide⟩ (by omega) (by omega) rfl ?_
  refine x_callv1 dL_law_265 cv_L_35 ci_X4_look rfl (T := TX4) rfl (by omega) (Nat.le_of_ble_eq_true rfl) (t_look hM1 hI (n := ro E 79 (i + 1).toNat)) (fun r m2 hq => ?_)
  obtain ⟨rfl, hM2, hF2⟩ := hq
  have hC2 := hC1.k hF2
  show Ex _ _ _ _ _ _ _ _ [zi (o_look s (ro E 79 (i + 1).toNat)).1, zi (o_look s (ro E 79 (i + 1).toNat)).1] _
  refine x_icmp_eq (tgt := 714) dL_law_268 rfl (fun e1 => ?_) (fun e1 => ?_)
  · exact nx _ _ hC2 hM2 (is_look hI)
  · exact absurd rfl e1
theorem law_night (hC : CP m s) (hM : MPS m s) (hI : Is s) (hi : 0 ≤ i) (hi4 : i + 4 ≤ (rn E 79 : Int)) (hL : rn E 79 ≤ 2048) (nx : LN E i) : LX E 273 i m := by
  show Ex E cL_law 4 zz_RL 40 _ 273 [some (zr 79), some (zr 55), some (zr 59), some (zi i)] [] m
  refine x_aload1 dL_law_273 ?_
  refine x_callv0 dL_law_274 cv_L_36 ci_X3_night rfl (T := TX3) rfl (by omega) (Nat.le_of_ble_eq_true rfl) (s_night hC hI) (fun r m1 hq => ?_)
  obtain ⟨rfl, hC1, hF1⟩ := hq
  have hM1 := hM.k hF1
  show Ex _ _ _ _ _ _ _ _ [zi (o_night s).1] _
  refine x_aload2 dL_law_277 ?_
  refine x_callv0 dL_law_278 cv_L_39 ci_X4_night rfl (T := TX4) rfl (by omega) (Nat.le_of_ble_eq_true rfl) (t_night hM1 hI) (fun r m2 hq => ?_)
  obtain ⟨rfl, hM2, hF2⟩ := hq
  have hC2 := hC1.k hF2
  show Ex _ _ _ _ _ _ _ _ [zi (o_night s).1, zi (o_night s).1] _
  refine x_icmp_eq (tgt := 714) dL_law_281 rfl (fun e1 => ?_) (fun e1 => ?_)
  · exact nx _ _ hC2 hM2 (is_night hI)
  · exact absurd rfl e1
theorem law_tonight (hC : CP m s) (hM : MPS m s) (hI : Is s) (hi : 0 ≤ i) (hi4 : i + 4 ≤ (rn E 79 : Int)) (hL : rn E 79 ≤ 2048) (nx : LN E i) : LX E 286 i m := by
  show Ex E cL_law 4 zz_RL 40 _ 286 [some (zr 79), some (zr 55), some (zr 59), some (zi i)] [] m
  refine x_aload1 dL_law_286 ?_
  refine x_aload0 dL_law_287 ?_
  refine x_iload3 dL_law_288 ?_
  refine x_iconst dL_law_289 ⟨by decide, by decide⟩ ?_
  refine x_iadd dL_law_290 (nrm_id (by omega) (by omega)) ?_
  refine x_rald dL_law_291 ⟨by decide, by decide⟩ (by omega) (by omega) rfl ?_
  refine x_callv1 dL_law_292 cv_L_40 ci_X3_tonight rfl (T := TX3) rfl (by omega) (Nat.le_of_ble_eq_true rfl) (s_tonight hC hI (w := ro E 79 (i + 1).toNat)) (fun r m1 hq => ?_)
  obtain ⟨rfl, hC1, hF1⟩ := hq
  have hM1 := hM.k hF1
  show Ex _ _ _ _ _ _ _ _ [zi (o_tonight s (ro E 79 (i + 1).toNat)).1] _
  refine x_aload2 dL_law_295 ?_
  refine x_aload0 dL_law_296 ?_
  refine x_iload3 dL_law_297 ?_
  refine x_iconst dL_law_298 ⟨by decide, by decide⟩ ?_
  refine x_iadd dL_law_299 (nrm_id (by omega) (by omega)) ?_
  refine x_rald dL_law_300 ⟨by decide, by decide⟩ (by omega) (by omega) rfl ?_
  refine x_callv1 dL_law_301 cv_L_43 ci_X4_tonight rfl (T := TX4) rfl (by omega) (Nat.le_of_ble_eq_true rfl) (t_tonight hM1 hI (w := ro E 79 (i + 1).toNat)) (fun r m2 hq => ?_)
  obtain ⟨rfl, hM2, hF2⟩ := hq
  have hC2 := hC1.k hF2
  show Ex _ _ _ _ _ _ _ _ [zi (o_tonight s (ro E 79 (i + 1).toNat)).1, zi (o_tonight s (ro E 79 (i + 1).toNat)).1] _
  refine x_icmp_eq (tgt := 714) dL_law_304 rfl (fun e1 => ?_) (fun e1 => ?_)
  · exact nx _ _ hC2 hM2 (is_tonight hI)
  · exact absurd rfl e1
theorem law_likely (hC : CP m s) (hM : MPS m s) (hI : Is s) (hi : 0 ≤ i) (hi4 : i + 4 ≤ (rn E 79 : Int)) (hL : rn E 79 ≤ 2048) (nx : LN E i) : LX E 309 i m := by
  show Ex E cL_law 4 zz_RL 40 _ 309 [some (zr 79), some (zr 55), some (zr 59), some (zi i)] [] m
  refine x_aload1 dL_law_309 ?_
  refine x_aload0 dL_law_310 ?_
  refine x_iload3 dL_law_311 ?_
  refine x_iconst dL_law_312 ⟨by decide, by decide⟩ ?_
  refine x_iadd dL_law_313 (nrm_id (by omega) (by omega)) ?_
  refine x_rald dL_law_314 ⟨by decide, by decide⟩ (by omega) (by omega) rfl ?_
  refine x_aload0 dL_law_315 ?_
  refine x_iload3 dL_law_316 ?_
  refine x_iconst dL_law_317 ⟨by decide, by decide⟩ ?_
  refine x_iadd dL_law_318 (nrm_id (by omega) (by omega)) ?_
  refine x_rald dL_law_319 ⟨by decide, by decide⟩ (by omega) (by omega) rfl ?_
  refine x_callv2 dL_law_320 cv_L_44 ci_X3_likely rfl (T := TX3) rfl (by omega) (Nat.le_of_ble_eq_true rfl) (s_likely hC hI (n := ro E 79 (i + 1).toNat) (p := ro E 79 (i + 2).toNat)) (fun r m1 hq => ?_)
  obtain ⟨rfl, hC1, hF1⟩ := hq
  have hM1 := hM.k hF1
  show Ex _ _ _ _ _ _ _ _ [zj (o_likely s (ro E 79 (i + 1).toNat) (ro E 79 (i + 2).toNat)).1] _
  refine x_aload2 dL_law_323 ?_
  refine x_aload0 dL_law_324 ?_
  refine x_iload3 dL_law_325 ?_
  refine x_iconst dL_law_326 ⟨by decide, by decide⟩ ?_
  refine x_iadd dL_law_327 (nrm_id (by omega) (by omega)) ?_
  refine x_rald dL_law_328 ⟨by decide, by decide⟩ (by omega) (by omega) rfl ?_
  refine x_aload0 dL_law_329 ?_
  refine x_iload3 dL_law_330 ?_
  refine x_iconst dL_law_331 ⟨by decide, by decide⟩ ?_
  refine x_iadd dL_law_332 (nrm_id (by omega) (by omega)) ?_
  refine x_rald dL_law_333 ⟨by decide, by decide⟩ (by omega) (by omega) rfl ?_
  refine x_callv2 dL_law_334 cv_L_48 ci_X4_likely rfl (T := TX4) rfl (by omega) (Nat.le_of_ble_eq_true rfl) (t_likely hM1 hI (n := ro E 79 (i + 1).toNat) (p := ro E 79 (i + 2).toNat)) (fun r m2 hq => ?_)
  obtain ⟨rfl, hM2, hF2⟩ := hq
  have hC2 := hC1.k hF2
  show Ex _ _ _ _ _ _ _ _ [zj (o_likely s (ro E 79 (i + 1).toNat) (ro E 79 (i + 2).toNat)).1, zj (o_likely s (ro E 79 (i + 1).toNat) (ro E 79 (i + 2).toNat)).1] _
  refine x_lcmp dL_law_337 ?_
  refine x_if_eq (tgt := 714) dL_law_338 rfl (fun e1 => ?_) (fun e1 => ?_)
  · exact nx _ _ hC2 hM2 (is_likely hI)
  · exact absurd (lcm00 _) e1
theorem law_plan (hC : CP m s) (hM : MPS m s) (hI : Is s) (hi : 0 ≤ i) (hi4 : i + 4 ≤ (rn E 79 : Int)) (hL : rn E 79 ≤ 2048) (nx : LN E i) : LX E 343 i m := by
  show Ex E cL_law 4 zz_RL 40 _ 343 [some (zr 79), some (zr 55), some (zr 59), some (zi i)] [] m
  refine x_aload1 dL_law_343 ?_
  refine x_aload0 dL_law_344 ?_
  refine x_iload3 dL_law_345 ?_
  refine x_iconst dL_law_346 ⟨by decide, by decide⟩ ?_
  refine x_iadd dL_law_347 (nrm_id (by omega) (by omega)) ?_
  refine x_rald dL_law_348 ⟨by decide, by decide⟩ (by omega) (by omega) rfl ?_
  refine x_aload0 dL_law_349 ?_
  refine x_iload3 dL_law_350 ?_
  refine x_iconst dL_law_351 ⟨by decide, by decide⟩ ?_
  refine x_iadd dL_law_352 (nrm_id (by omega) (by omega)) ?_
  refine x_rald dL_law_353 ⟨by decide, by decide⟩ (by omega) (by omega) rfl ?_
  refine x_callv2 dL_law_354 cv_L_49 ci_X3_plan rfl (T := TX3) rfl (by omega) (Nat.le_of_ble_eq_true rfl) (s_plan hC hI (n := ro E 79 (i + 1).toNat) (w := ro E 79 (i + 2).toNat)) (fun r m1 hq => ?_)
  obtain ⟨rfl, hC1, hF1⟩ := hq
  have hM1 := hM.k hF1
  show Ex _ _ _ _ _ _ _ _ [zi (o_plan s (ro E 79 (i + 1).toNat) (ro E 79 (i + 2).toNat)).1] _
  refine x_aload2 dL_law_357 ?_
  refine x_aload0 dL_law_358 ?_
  refine x_iload3 dL_law_359 ?_
  refine x_iconst dL_law_360 ⟨by decide, by decide⟩ ?_
  refine x_iadd dL_law_361 (nrm_id (by omega) (by omega)) ?_
  refine x_rald dL_law_362 ⟨by decide, by decide⟩ (by omega) (by omega) rfl ?_
  refine x_aload0 dL_law_363 ?_
  refine x_iload3 dL_law_364 ?_
  refine x_iconst dL_law_365 ⟨by decide, by decide⟩ ?_
  refine x_iadd dL_law_366 (nrm_id (by omega) (by omega)) ?_
  refine x_rald dL_law_367 ⟨by decide, by decide⟩ (by omega) (by omega) rfl ?_
  refine x_callv2 dL_law_368 cv_L_52 ci_X4_plan rfl (T := TX4) rfl (by omega) (Nat.le_of_ble_eq_true rfl) (t_plan hM1 hI (n := ro E 79 (i + 1).toNat) (w := ro E 79 (i + 2).toNat)) (fun r m2 hq => ?_)
  obtain ⟨rfl, hM2, hF2⟩ := hq
  have hC2 := hC1.k hF2
  show Ex _ _ _ _ _ _ _ _ [zi (o_plan s (ro E 79 (i + 1).toNat) (ro E 79 (i + 2).toNat)).1, zi (o_plan s (ro E 79 (i + 1).toNat) (ro E 79 (i + 2).toNat)).1] _
  refine x_icmp_eq (tgt := 714) dL_law_371 rfl (fun e1 => ?_) (fun e1 => ?_)
  · exact nx _ _ hC2 hM2 (is_plan hI)
  · exact absurd rfl e1
theorem law_each (hC : CP m s) (hM : MPS m s) (hI : Is s) (hi : 0 ≤ i) (hi4 : i + 4 ≤ (rn E 79 : Int)) (hL : rn E 79 ≤ 2048) (nx : LN E i) : LX E 376 i m := by
  show Ex E cL_law 4 zz_RL 40 _ 376 [some (zr 79), some (zr 55), some (zr 59), some (zi i)] [] m
  refine x_aload1 dL_law_376 ?_
  refine x_aload0 dL_law_377 ?_
  refine x_iload3 dL_law_378 ?_
  refine x_iconst dL_law_379 ⟨by decide, by decide⟩ ?_
  refine x_iadd dL_law_380 (nrm_id (by omega) (by omega)) ?_
  refine x_rald dL_law_381 ⟨by decide, by decide⟩ (by omega) (by omega) rfl ?_
  refine x_aload0 dL_law_382 ?_
  refine x_iload3 dL_law_383 ?_
  refine x_iconst dL_law_384 ⟨by decide, by decide⟩ ?_
  refine x_iadd dL_law_385 (nrm_id (by omega) (by omega)) ?_
  refine x_rald dL_law_386 ⟨by decide, by decide⟩ (by omega) (by omega) rfl ?_
  refine x_callv2 dL_law_387 cv_L_53 ci_X3_each rfl (T := TX3) rfl (by omega) (Nat.le_of_ble_eq_true rfl) (s_each hC hI (q := ro E 79 (i + 1).toNat) (n := ro E 79 (i + 2).toNat)) (fun r m1 hq => ?_)
  obtain ⟨rfl, hC1, hF1⟩ := hq
  have hM1 := hM.k hF1
  show Ex _ _ _ _ _ _ _ _ [zi (o_each s (ro E 79 (i + 1).toNat) (ro E 79 (i + 2).toNat)).1] _
  refine x_aload2 dL_law_390 ?_
  refine x_aload0 dL_law_391 ?_
  refine x_iload3 dL_law_392 ?_
  refine x_iconst dL_law_393 ⟨by decide, by decide⟩ ?_
  refine x_iadd dL_law_394 (nrm_id (by omega) (by omega)) ?_
  refine x_rald dL_law_395 ⟨by decide, by decide⟩ (by omega) (by omega) rfl ?_
  refine x_aload0 dL_law_396 ?_
  refine x_iload3 dL_law_397 ?_
  refine x_iconst dL_law_398 ⟨by decide, by decide⟩ ?_
  refine x_iadd dL_law_399 (nrm_id (by omega) (by omega)) ?_
  refine x_rald dL_law_400 ⟨by decide, by decide⟩ (by omega) (by omega) rfl ?_
  refine x_callv2 dL_law_401 cv_L_56 ci_X4_each rfl (T := TX4) rfl (by omega) (Nat.le_of_ble_eq_true rfl) (t_each hM1 hI (q := ro E 79 (i + 1).toNat) (n := ro E 79 (i + 2).toNat)) (fun r m2 hq => ?_)
  obtain ⟨rfl, hM2, hF2⟩ := hq
  have hC2 := hC1.k hF2
  show Ex _ _ _ _ _ _ _ _ [zi (o_each s (ro E 79 (i + 1).toNat) (ro E 79 (i + 2).toNat)).1, zi (o_each s (ro E 79 (i + 1).toNat) (ro E 79 (i + 2).toNat)).1] _
  refine x_icmp_eq (tgt := 714) dL_law_404 rfl (fun e1 => ?_) (fun e1 => ?_)
  · exact nx _ _ hC2 hM2 (is_each hI)
  · exact absurd rfl e1
theorem law_shut (hC : CP m s) (hM : MPS m s) (hI : Is s) (hi : 0 ≤ i) (hi4 : i + 4 ≤ (rn E 79 : Int)) (hL : rn E 79 ≤ 2048) (nx : LN E i) : LX E 409 i m := by
  show Ex E cL_law 4 zz_RL 40 _ 409 [some (zr 79), some (zr 55), some (zr 59), some (zi i)] [] m
  refine x_aload1 dL_law_409 ?_
  refine x_callv0 dL_law_410 cv_L_57 ci_X3_shut rfl (T := TX3) rfl (by omega) (Nat.le_of_ble_eq_true rfl) (s_shut hC hI) (fun r m1 hq => ?_)
  obtain ⟨rfl, hC1, hF1⟩ := hq
  have hM1 := hM.k hF1
  show Ex _ _ _ _ _ _ _ _ [zi (o_shut s).1] _
  refine x_aload2 dL_law_413 ?_
  refine x_callv0 dL_law_414 cv_L_60 ci_X4_shut rfl (T := TX4) rfl (by omega) (Nat.le_of_ble_eq_true rfl) (t_shut hM1 hI) (fun r m2 hq => ?_)
  obtain ⟨rfl, hM2, hF2⟩ := hq
  have hC2 := hC1.k hF2
  show Ex _ _ _ _ _ _ _ _ [zi (o_shut s).1, zi (o_shut s).1] _
  refine x_icmp_eq (tgt := 714) dL_law_417 rfl (fun e1 => ?_) (fun e1 => ?_)
  · exact nx _ _ hC2 hM2 (is_shut hI)
  · exact absurd rfl e1
theorem law_lead (hC : CP m s) (hM : MPS m s) (hI : Is s) (hi : 0 ≤ i) (hi4 : i + 4 ≤ (rn E 79 : Int)) (hL : rn E 79 ≤ 2048) (nx : LN E i) : LX E 422 i m := by
  show Ex E cL_law 4 zz_RL 40 _ 422 [some (zr 79), some (zr 55), some (zr 59), some (zi i)] [] m
  refine x_aload1 dL_law_422 ?_
  refine x_aload0 dL_law_423 ?_
  refine x_iload3 dL_law_424 ?_
  refine x_iconst dL_law_425 ⟨by decide, by decide⟩ ?_
  refine x_iadd dL_law_426 (nrm_id (by omega) (by omega)) ?_
  refine x_rald dL_law_427 ⟨by decide, by decide⟩ (by omega) (by omega) rfl ?_
  refine x_callv1 dL_law_428 cv_L_61 ci_X3_lead rfl (T := TX3) rfl (by omega) (Nat.le_of_ble_eq_true rfl) (s_lead hC hI (n := ro E 79 (i + 1).toNat)) (fun r m1 hq => ?_)
  obtain ⟨rfl, hC1, hF1⟩ := hq
  have hM1 := hM.k hF1
  show Ex _ _ _ _ _ _ _ _ [zi (o_lead s (ro E 79 (i + 1).toNat)).1] _
  refine x_aload2 dL_law_431 ?_
  refine x_aload0 dL_law_432 ?_
  refine x_iload3 dL_law_433 ?_
  refine x_iconst dL_law_434 ⟨by decide, by decide⟩ ?_
  refine x_iadd dL_law_435 (nrm_id (by omega) (by omega)) ?_
  refine x_rald dL_law_436 ⟨by decide, by decide⟩ (by omega) (by omega) rfl ?_
  refine x_callv1 dL_law_437 cv_L_64 ci_X4_lead rfl (T := TX4) rfl (by omega) (Nat.le_of_ble_eq_true rfl) (t_lead hM1 hI (n := ro E 79 (i + 1).toNat)) (fun r m2 hq => ?_)
  obtain ⟨rfl, hM2, hF2⟩ := hq
  have hC2 := hC1.k hF2
  show Ex _ _ _ _ _ _ _ _ [zi (o_lead s (ro E 79 (i + 1).toNat)).1, zi (o_lead s (ro E 79 (i + 1).toNat)).1] _
  refine x_icmp_eq (tgt := 714) dL_law_440 rfl (fun e1 => ?_) (fun e1 => ?_)
  · exact nx _ _ hC2 hM2 (is_lead hI)
  · exact absurd rfl e1
theorem law_row (hC : CP m s) (hM : MPS m s) (hI : Is s) (hi : 0 ≤ i) (hi4 : i + 4 ≤ (rn E 79 : Int)) (hL : rn E 79 ≤ 2048) (nx : LN E i) : LX E 445 i m := by
  show Ex E cL_law 4 zz_RL 40 _ 445 [some (zr 79), some (zr 55), some (zr 59), some (zi i)] [] m
  refine x_aload1 dL_law_445 ?_
  refine x_aload0 dL_law_446 ?_
  refine x_iload3 dL_law_447 ?_
  refine x_iconst dL_law_448 ⟨by decide, by decide⟩ ?_
  refine x_iadd dL_law_449 (nrm_id (by omega) (by omega)) ?_
  refine x_rald dL_law_450 ⟨by decide, by decide⟩ (by omega) (by omega) rfl ?_
  refine x_callv1 dL_law_451 cv_L_65 ci_X3_row rfl (T := TX3) rfl (by omega) (Nat.le_of_ble_eq_true rfl) (s_row hC hI (n := ro E 79 (i + 1).toNat)) (fun r m1 hq => ?_)
  obtain ⟨rfl, hC1, hF1⟩ := hq
  have hM1 := hM.k hF1
  show Ex _ _ _ _ _ _ _ _ [zi (o_row s (ro E 79 (i + 1).toNat)).1] _
  refine x_aload2 dL_law_454 ?_
  refine x_aload0 dL_law_455 ?_
  refine x_iload3 dL_law_456 ?_
  refine x_iconst dL_law_457 ⟨by decide, by decide⟩ ?_
  refine x_iadd dL_law_458 (nrm_id (by omega) (by omega)) ?_
  refine x_rald dL_law_459 ⟨by decide, by decide⟩ (by omega) (by omega) rfl ?_
  refine x_callv1 dL_law_460 cv_L_68 ci_X4_row rfl (T := TX4) rfl (by omega) (Nat.le_of_ble_eq_true rfl) (t_row hM1 hI (n := ro E 79 (i + 1).toNat)) (fun r m2 hq => ?_)
  obtain ⟨rfl, hM2, hF2⟩ := hq
  have hC2 := hC1.k hF2
  show Ex _ _ _ _ _ _ _ _ [zi (o_row s (ro E 79 (i + 1).toNat)).1, zi (o_row s (ro E 79 (i + 1).toNat)).1] _
  refine x_icmp_eq (tgt := 714) dL_law_463 rfl (fun e1 => ?_) (fun e1 => ?_)
  · exact nx _ _ hC2 hM2 (is_row hI)
  · exact absurd rfl e1
theorem law_ways (hC : CP m s) (hM : MPS m s) (hI : Is s) (hi : 0 ≤ i) (hi4 : i + 4 ≤ (rn E 79 : Int)) (hL : rn E 79 ≤ 2048) (nx : LN E i) : LX E 468 i m := by
  show Ex E cL_law 4 zz_RL 40 _ 468 [some (zr 79), some (zr 55), some (zr 59), some (zi i)] [] m
  refine x_aload1 dL_law_468 ?_
  refine x_callv0 dL_law_469 cv_L_69 ci_X3_ways rfl (T := TX3) rfl (by omega) (Nat.le_of_ble_eq_true rfl) (s_ways hC hI) (fun r m1 hq => ?_)
  obtain ⟨rfl, hC1, hF1⟩ := hq
  have hM1 := hM.k hF1
  show Ex _ _ _ _ _ _ _ _ [zi (o_ways s).1] _
  refine x_aload2 dL_law_472 ?_
  refine x_callv0 dL_law_473 cv_L_72 ci_X4_ways rfl (T := TX4) rfl (by omega) (Nat.le_of_ble_eq_true rfl) (t_ways hM1 hI) (fun r m2 hq => ?_)
  obtain ⟨rfl, hM2, hF2⟩ := hq
  have hC2 := hC1.k hF2
  show Ex _ _ _ _ _ _ _ _ [zi (o_ways s).1, zi (o_ways s).1] _
  refine x_icmp_eq (tgt := 714) dL_law_476 rfl (fun e1 => ?_) (fun e1 => ?_)
  · exact nx _ _ hC2 hM2 (is_ways hI)
  · exact absurd rfl e1
theorem law_soon (hC : CP m s) (hM : MPS m s) (hI : Is s) (hi : 0 ≤ i) (hi4 : i + 4 ≤ (rn E 79 : Int)) (hL : rn E 79 ≤ 2048) (nx : LN E i) : LX E 481 i m := by
  show Ex E cL_law 4 zz_RL 40 _ 481 [some (zr 79), some (zr 55), some (zr 59), some (zi i)] [] m
  refine x_aload1 dL_law_481 ?_
  refine x_callv0 dL_law_482 cv_L_73 ci_X3_soon rfl (T := TX3) rfl (by omega) (Nat.le_of_ble_eq_true rfl) (s_soon hC hI) (fun r m1 hq => ?_)
  obtain ⟨rfl, hC1, hF1⟩ := hq
  have hM1 := hM.k hF1
  show Ex _ _ _ _ _ _ _ _ [zi (o_soon s).1] _
  refine x_aload2 dL_law_485 ?_
  refine x_callv0 dL_law_486 cv_L_76 ci_X4_soon rfl (T := TX4) rfl (by omega) (Nat.le_of_ble_eq_true rfl) (t_soon hM1 hI) (fun r m2 hq => ?_)
  obtain ⟨rfl, hM2, hF2⟩ := hq
  have hC2 := hC1.k hF2
  show Ex _ _ _ _ _ _ _ _ [zi (o_soon s).1, zi (o_soon s).1] _
  refine x_icmp_eq (tgt := 714) dL_law_489 rfl (fun e1 => ?_) (fun e1 => ?_)
  · exact nx _ _ hC2 hM2 (is_soon hI)
  · exact absurd rfl e1
theorem law_settle (hC : CP m s) (hM : MPS m s) (hI : Is s) (hi : 0 ≤ i) (hi4 : i + 4 ≤ (rn E 79 : Int)) (hL : rn E 79 ≤ 2048) (nx : LN E i) : LX E 494 i m := by
  show Ex E cL_law 4 zz_RL 40 _ 494 [some (zr 79), some (zr 55), some (zr 59), some (zi i)] [] m
  refine x_aload1 dL_law_494 ?_
  refine x_aload0 dL_law_495 ?_
  refine x_iload3 dL_law_496 ?_
  refine x_iconst dL_law_497 ⟨by decide, by decide⟩ ?_
  refine x_iadd dL_law_498 (nrm_id (by omega) (by omega)) ?_
  refine x_rald dL_law_499 ⟨by decide, by decide⟩ (by omega) (by omega) rfl ?_
  refine x_callv1 dL_law_500 cv_L_77 ci_X3_settle rfl (T := TX3) rfl (by omega) (Nat.le_of_ble_eq_true rfl) (s_settle hC hI (n := ro E 79 (i + 1).toNat)) (fun r m1 hq => ?_)
  obtain ⟨rfl, hC1, hF1⟩ := hq
  have hM1 := hM.k hF1
  show Ex _ _ _ _ _ _ _ _ [zi (o_settle s (ro E 79 (i + 1).toNat)).1] _
  refine x_aload2 dL_law_503 ?_
  refine x_aload0 dL_law_504 ?_
  refine x_iload3 dL_law_505 ?_
  refine x_iconst dL_law_506 ⟨by decide, by decide⟩ ?_
  refine x_iadd dL_law_507 (nrm_id (by omega) (by omega)) ?_
  refine x_rald dL_law_508 ⟨by decide, by decide⟩ (by omega) (by omega) rfl ?_
  refine x_callv1 dL_law_509 cv_L_80 ci_X4_settle rfl (T := TX4) rfl (by omega) (Nat.le_of_ble_eq_true rfl) (t_settle hM1 hI (n := ro E 79 (i + 1).toNat)) (fun r m2 hq => ?_)
  obtain ⟨rfl, hM2, hF2⟩ := hq
  have hC2 := hC1.k hF2
  show Ex _ _ _ _ _ _ _ _ [zi (o_settle s (ro E 79 (i + 1).toNat)).1, zi (o_settle s (ro E 79 (i + 1).toNat)).1] _
  refine x_icmp_eq (tgt := 714) dL_law_512 rfl (fun e1 => ?_) (fun e1 => ?_)
  · exact nx _ _ hC2 hM2 (is_settle hI)
  · exact absurd rfl e1
theorem law_without (hC : CP m s) (hM : MPS m s) (hI : Is s) (hi : 0 ≤ i) (hi4 : i + 4 ≤ (rn E 79 : Int)) (hL : rn E 79 ≤ 2048) (nx : LN E i) : LX E 517 i m := by
  show Ex E cL_law 4 zz_RL 40 _ 517 [some (zr 79), some (zr 55), some (zr 59), some (zi i)] [] m
  refine x_aload1 dL_law_517 ?_
  refine x_aload0 dL_law_518 ?_
  refine x_iload3 dL_law_519 ?_
  refine x_iconst dL_law_520 ⟨by decide, by decide⟩ ?_
  refine x_iadd dL_law_521 (nrm_id (by omega) (by omega)) ?_
  refine x_rald dL_law_522 ⟨by decide, by decide⟩ (by omega) (by omega) rfl ?_
  refine x_callv1 dL_law_523 cv_L_81 ci_X3_without rfl (T := TX3) rfl (by omega) (Nat.le_of_ble_eq_true rfl) (s_without hC hI (n := ro E 79 (i + 1).toNat)) (fun r m1 hq => ?_)
  obtain ⟨rfl, hC1, hF1⟩ := hq
  have hM1 := hM.k hF1
  show Ex _ _ _ _ _ _ _ _ [zi (o_without s (ro E 79 (i + 1).toNat)).1] _
  refine x_aload2 dL_law_526 ?_
  refine x_aload0 dL_law_527 ?_
  refine x_iload3 dL_law_528 ?_
  refine x_iconst dL_law_529 ⟨by decide, by decide⟩ ?_
  refine x_iadd dL_law_530 (nrm_id (by omega) (by omega)) ?_
  refine x_rald dL_law_531 ⟨by decide, by decide⟩ (by omega) (by omega) rfl ?_
  refine x_callv1 dL_law_532 cv_L_84 ci_X4_without rfl (T := TX4) rfl (by omega) (Nat.le_of_ble_eq_true rfl) (t_without hM1 hI (n := ro E 79 (i + 1).toNat)) (fun r m2 hq => ?_)
  obtain ⟨rfl, hM2, hF2⟩ := hq
  have hC2 := hC1.k hF2
  show Ex _ _ _ _ _ _ _ _ [zi (o_without s (ro E 79 (i + 1).toNat)).1, zi (o_without s (ro E 79 (i + 1).toNat)).1] _
  refine x_icmp_eq (tgt := 714) dL_law_535 rfl (fun e1 => ?_) (fun e1 => ?_)
  · exact nx _ _ hC2 hM2 (is_without hI)
  · exact absurd rfl e1
theorem law_put (hC : CP m s) (hM : MPS m s) (hI : Is s) (hi : 0 ≤ i) (hi4 : i + 4 ≤ (rn E 79 : Int)) (hL : rn E 79 ≤ 2048) (nx : LN E i) : LX E 540 i m := by
  show Ex E cL_law 4 zz_RL 40 _ 540 [some (zr 79), some (zr 55), some (zr 59), some (zi i)] [] m
  refine x_aload1 dL_law_540 ?_
  refine x_aload0 dL_law_541 ?_
  refine x_iload3 dL_law_542 ?_
  refine x_iconst dL_law_543 ⟨by decide, by decide⟩ ?_
  refine x_iadd dL_law_544 (nrm_id (by omega) (by omega)) ?_
  refine x_rald dL_law_545 ⟨by decide, by decide⟩ (by omega) (by omega) rfl ?_
  refine x_aload0 dL_law_546 ?_
  refine x_iload3 dL_law_547 ?_
  refine x_iconst dL_law_548 ⟨by decide, by decide⟩ ?_
  refine x_iadd dL_law_549 (nrm_id (by omega) (by omega)) ?_
  refine x_rald dL_law_550 ⟨by decide, by decide⟩ (by omega) (by omega) rfl ?_
  refine x_aload0 dL_law_551 ?_
  refine x_iload3 dL_law_552 ?_
  refine x_iconst dL_law_553 ⟨by decide, by decide⟩ ?_
  refine x_iadd dL_law_554 (nrm_id (by omega) (by omega)) ?_
  refine x_rald dL_law_555 ⟨by decide, by decide⟩ (by omega) (by omega) rfl ?_
  refine x_callv3 dL_law_556 cv_L_85 ci_X3_put rfl (T := TX3) rfl (by omega) (Nat.le_of_ble_eq_true rfl) (s_put hC hI (x := ro E 79 (i + 1).toNat) (y := ro E 79 (i + 2).toNat) (l := ro E 79 (i + 3).toNat)) (fun r m1 hq => ?_)
  obtain ⟨rfl, hC1, hF1⟩ := hq
  have hM1 := hM.k hF1
  show Ex _ _ _ _ _ _ _ _ [zi (o_put s (ro E 79 (i + 1).toNat) (ro E 79 (i + 2).toNat) (ro E 79 (i + 3).toNat)).1] _
  refine x_aload2 dL_law_559 ?_
  refine x_aload0 dL_law_560 ?_
  refine x_iload3 dL_law_561 ?_
  refine x_iconst dL_law_562 ⟨by decide, by decide⟩ ?_
  refine x_iadd dL_law_563 (nrm_id (by omega) (by omega)) ?_
  refine x_rald dL_law_564 ⟨by decide, by decide⟩ (by omega) (by omega) rfl ?_
  refine x_aload0 dL_law_565 ?_
  refine x_iload3 dL_law_566 ?_
  refine x_iconst dL_law_567 ⟨by decide, by decide⟩ ?_
  refine x_iadd dL_law_568 (nrm_id (by omega) (by omega)) ?_
  refine x_rald dL_law_569 ⟨by decide, by decide⟩ (by omega) (by omega) rfl ?_
  refine x_aload0 dL_law_570 ?_
  refine x_iload3 dL_law_571 ?_
  refine x_iconst dL_law_572 ⟨by decide, by decide⟩ ?_
  refine x_iadd dL_law_573 (nrm_id (by omega) (by omega)) ?_
  refine x_rald dL_law_574 ⟨by decide, by decide⟩ (by omega) (by omega) rfl ?_
  refine x_callv3 dL_law_575 cv_L_89 ci_X4_put rfl (T := TX4) rfl (by omega) (Nat.le_of_ble_eq_true rfl) (t_put hM1 hI (x := ro E 79 (i + 1).toNat) (y := ro E 79 (i + 2).toNat) (l := ro E 79 (i + 3).toNat)) (fun r m2 hq => ?_)
  obtain ⟨rfl, hM2, hF2⟩ := hq
  have hC2 := hC1.k hF2
  show Ex _ _ _ _ _ _ _ _ [zi (o_put s (ro E 79 (i + 1).toNat) (ro E 79 (i + 2).toNat) (ro E 79 (i + 3).toNat)).1, zi (o_put s (ro E 79 (i + 1).toNat) (ro E 79 (i + 2).toNat) (ro E 79 (i + 3).toNat)).1] _
  refine x_icmp_eq (tgt := 714) dL_law_578 rfl (fun e1 => ?_) (fun e1 => ?_)
  · exact nx _ _ hC2 hM2 (is_put hI)
  · exact absurd rfl e1
theorem law_been (hC : CP m s) (hM : MPS m s) (hI : Is s) (hi : 0 ≤ i) (hi4 : i + 4 ≤ (rn E 79 : Int)) (hL : rn E 79 ≤ 2048) (nx : LN E i) : LX E 583 i m := by
  show Ex E cL_law 4 zz_RL 40 _ 583 [some (zr 79), some (zr 55), some (zr 59), some (zi i)] [] m
  refine x_aload1 dL_law_583 ?_
  refine x_aload0 dL_law_584 ?_
  refine x_iload3 dL_law_585 ?_
  refine x_iconst dL_law_586 ⟨by decide, by decide⟩ ?_
  refine x_iadd dL_law_587 (nrm_id (by omega) (by omega)) ?_
  refine x_rald dL_law_588 ⟨by decide, by decide⟩ (by omega) (by omega) rfl ?_
  refine x_callv1 dL_law_589 cv_L_90 ci_X3_been rfl (T := TX3) rfl (by omega) (Nat.le_of_ble_eq_true rfl) (s_been hC hI (g := ro E 79 (i + 1).toNat)) (fun r m1 hq => ?_)
  obtain ⟨rfl, hC1, hF1⟩ := hq
  have hM1 := hM.k hF1
  show Ex _ _ _ _ _ _ _ _ [zi (o_been s (ro E 79 (i + 1).toNat)).1] _
  refine x_aload2 dL_law_592 ?_
  refine x_aload0 dL_law_593 ?_
  refine x_iload3 dL_law_594 ?_
  refine x_iconst dL_law_595 ⟨by decide, by decide⟩ ?_
  refine x_iadd dL_law_596 (nrm_id (by omega) (by omega)) ?_
  refine x_rald dL_law_597 ⟨by decide, by decide⟩ (by omega) (by omega) rfl ?_
  refine x_callv1 dL_law_598 cv_L_93 ci_X4_been rfl (T := TX4) rfl (by omega) (Nat.le_of_ble_eq_true rfl) (t_been hM1 hI (g := ro E 79 (i + 1).toNat)) (fun r m2 hq => ?_)
  obtain ⟨rfl, hM2, hF2⟩ := hq
  have hC2 := hC1.k hF2
  show Ex _ _ _ _ _ _ _ _ [zi (o_been s (ro E 79 (i + 1).toNat)).1, zi (o_been s (ro E 79 (i + 1).toNat)).1] _
  refine x_icmp_eq (tgt := 714) dL_law_601 rfl (fun e1 => ?_) (fun e1 => ?_)
  · exact nx _ _ hC2 hM2 (is_been hI)
  · exact absurd rfl e1
theorem law_judge (hC : CP m s) (hM : MPS m s) (hI : Is s) (hi : 0 ≤ i) (hi4 : i + 4 ≤ (rn E 79 : Int)) (hL : rn E 79 ≤ 2048) (nx : LN E i) : LX E 606 i m := by
  show Ex E cL_law 4 zz_RL 40 _ 606 [some (zr 79), some (zr 55), some (zr 59), some (zi i)] [] m
  refine x_aload1 dL_law_606 ?_
  refine x_callv0 dL_law_607 cv_L_94 ci_X3_judge rfl (T := TX3) rfl (by omega) (Nat.le_of_ble_eq_true rfl) (s_judge hC hI) (fun r m1 hq => ?_)
  obtain ⟨rfl, hC1, hF1⟩ := hq
  have hM1 := hM.k hF1
  show Ex _ _ _ _ _ _ _ _ [zi (o_judge s).1] _
  refine x_aload2 dL_law_610 ?_
  refine x_callv0 dL_law_611 cv_L_97 ci_X4_judge rfl (T := TX4) rfl (by omega) (Nat.le_of_ble_eq_true rfl) (t_judge hM1 hI) (fun r m2 hq => ?_)
  obtain ⟨rfl, hM2, hF2⟩ := hq
  have hC2 := hC1.k hF2
  show Ex _ _ _ _ _ _ _ _ [zi (o_judge s).1, zi (o_judge s).1] _
  refine x_icmp_eq (tgt := 714) dL_law_614 rfl (fun e1 => ?_) (fun e1 => ?_)
  · exact nx _ _ hC2 hM2 (is_judge hI)
  · exact absurd rfl e1
theorem law_seeds (hC : CP m s) (hM : MPS m s) (hI : Is s) (hi : 0 ≤ i) (hi4 : i + 4 ≤ (rn E 79 : Int)) (hL : rn E 79 ≤ 2048) (nx : LN E i) : LX E 619 i m := by
  show Ex E cL_law 4 zz_RL 40 _ 619 [some (zr 79), some (zr 55), some (zr 59), some (zi i)] [] m
  refine x_aload1 dL_law_619 ?_
  refine x_aload0 dL_law_620 ?_
  refine x_iload3 dL_law_621 ?_
  refine x_iconst dL_law_622 ⟨by decide, by decide⟩ ?_
  refine x_iadd dL_law_623 (nrm_id (by omega) (by omega)) ?_
  refine x_rald dL_law_624 ⟨by decide, by decide⟩ (by omega) (by omega) rfl ?_
  refine x_aload0 dL_law_625 ?_
  refine x_iload3 dL_law_626 ?_
  refine x_iconst dL_law_627 ⟨by decide, by decide⟩ ?_
  refine x_iadd dL_law_628 (nrm_id (by omega) (by omega)) ?_
  refine x_rald dL_law_629 ⟨by decide, by decide⟩ (by omega) (by omega) rfl ?_
  refine x_callv2 dL_law_630 cv_L_98 ci_X3_seeds rfl (T := TX3) rfl (by omega) (Nat.le_of_ble_eq_true rfl) (s_seeds hC hI (n := ro E 79 (i + 1).toNat) (z := ro E 79 (i + 2).toNat)) (fun r m1 hq => ?_)
  obtain ⟨rfl, hC1, hF1⟩ := hq
  have hM1 := hM.k hF1
  show Ex _ _ _ _ _ _ _ _ [zi (o_seeds s (ro E 79 (i + 1).toNat) (ro E 79 (i + 2).toNat)).1] _
  refine x_aload2 dL_law_633 ?_
  refine x_aload0 dL_law_634 ?_
  refine x_iload3 dL_law_635 ?_
  refine x_iconst dL_law_636 ⟨by decide, by decide⟩ ?_
  refine x_iadd dL_law_637 (nrm_id (by omega) (by omega)) ?_
  refine x_rald dL_law_638 ⟨by decide, by decide⟩ (by omega) (by omega) rfl ?_
  refine x_aload0 dL_law_639 ?_
  refine x_iload3 dL_law_640 ?_
  refine x_iconst dL_law_641 ⟨by decide, by decide⟩ ?_
  refine x_iadd dL_law_642 (nrm_id (by omega) (by omega)) ?_
  refine x_rald dL_law_643 ⟨by decide, by decide⟩ (by omega) (by omega) rfl ?_
  refine x_callv2 dL_law_644 cv_L_101 ci_X4_seeds rfl (T := TX4) rfl (by omega) (Nat.le_of_ble_eq_true rfl) (t_seeds hM1 hI (n := ro E 79 (i + 1).toNat) (z := ro E 79 (i + 2).toNat)) (fun r m2 hq => ?_)
  obtain ⟨rfl, hM2, hF2⟩ := hq
  have hC2 := hC1.k hF2
  show Ex _ _ _ _ _ _ _ _ [zi (o_seeds s (ro E 79 (i + 1).toNat) (ro E 79 (i + 2).toNat)).1, zi (o_seeds s (ro E 79 (i + 1).toNat) (ro E 79 (i + 2).toNat)).1] _
  refine x_icmp_eq (tgt := 714) dL_law_647 rfl (fun e1 => ?_) (fun e1 => ?_)
  · exact nx _ _ hC2 hM2 (is_seeds hI)
  · exact absurd rfl e1
theorem law_clear (hC : CP m s) (hM : MPS m s) (hI : Is s) (hi : 0 ≤ i) (hi4 : i + 4 ≤ (rn E 79 : Int)) (hL : rn E 79 ≤ 2048) (nx : LN E i) : LX E 652 i m := by
  show Ex E cL_law 4 zz_RL 40 _ 652 [some (zr 79), some (zr 55), some (zr 59), some (zi i)] [] m
  refine x_aload1 dL_law_652 ?_
  refine x_callv0 dL_law_653 cv_L_102 ci_X3_clear rfl (T := TX3) rfl (by omega) (Nat.le_of_ble_eq_true rfl) (s_clear hC) (fun r m1 hq => ?_)
  obtain ⟨rfl, hC1, hF1⟩ := hq
  have hM1 := hM.k hF1
  show Ex _ _ _ _ _ _ _ _ [zi (o_clear s).1] _
  refine x_aload2 dL_law_656 ?_
  refine x_callv0 dL_law_657 cv_L_105 ci_X4_clear rfl (T := TX4) rfl (by omega) (Nat.le_of_ble_eq_true rfl) (t_clear hM1) (fun r m2 hq => ?_)
  obtain ⟨rfl, hM2, hF2⟩ := hq
  have hC2 := hC1.k hF2
  show Ex _ _ _ _ _ _ _ _ [zi (o_clear s).1, zi (o_clear s).1] _
  refine x_icmp_eq (tgt := 714) dL_law_660 rfl (fun e1 => ?_) (fun e1 => ?_)
  · exact nx _ _ hC2 hM2 (is_clear hI)
  · exact absurd rfl e1
theorem law_image (hC : CP m s) (hM : MPS m s) (hI : Is s) (hi : 0 ≤ i) (hi4 : i + 4 ≤ (rn E 79 : Int)) (hL : rn E 79 ≤ 2048) (nx : LN E i) : LX E 665 i m := by
  show Ex E cL_law 4 zz_RL 40 _ 665 [some (zr 79), some (zr 55), some (zr 59), some (zi i)] [] m
  refine x_aload1 dL_law_665 ?_
  refine x_callv0 dL_law_666 cv_L_106 ci_X3_image rfl (T := TX3) rfl (by omega) (Nat.le_of_ble_eq_true rfl) (s_image hC) (fun r m1 hq => ?_)
  obtain ⟨rfl, hC1, hF1⟩ := hq
  have hM1 := hM.k hF1
  show Ex _ _ _ _ _ _ _ _ [zi (o_image s).1] _
  refine x_aload2 dL_law_669 ?_
  refine x_callv0 dL_law_670 cv_L_109 ci_X4_image rfl (T := TX4) rfl (by omega) (Nat.le_of_ble_eq_true rfl) (t_image hM1) (fun r m2 hq => ?_)
  obtain ⟨rfl, hM2, hF2⟩ := hq
  have hC2 := hC1.k hF2
  show Ex _ _ _ _ _ _ _ _ [zi (o_image s).1, zi (o_image s).1] _
  refine x_icmp_eq (tgt := 714) dL_law_673 rfl (fun e1 => ?_) (fun e1 => ?_)
  · exact nx _ _ hC2 hM2 (is_image hI)
  · exact absurd rfl e1
theorem law_restore (hC : CP m s) (hM : MPS m s) (hI : Is s) (hi : 0 ≤ i) (hi4 : i + 4 ≤ (rn E 79 : Int)) (hL : rn E 79 ≤ 2048) (nx : LN E i) : LX E 678 i m := by
  show Ex E cL_law 4 zz_RL 40 _ 678 [some (zr 79), some (zr 55), some (zr 59), some (zi i)] [] m
  refine x_aload1 dL_law_678 ?_
  refine x_callv0 dL_law_679 cv_L_110 ci_X3_restore rfl (T := TX3) rfl (by omega) (Nat.le_of_ble_eq_true rfl) (s_restore hC hI) (fun r m1 hq => ?_)
  obtain ⟨rfl, hC1, hF1⟩ := hq
  have hM1 := hM.k hF1
  show Ex _ _ _ _ _ _ _ _ [zi (o_restore s).1] _
  refine x_aload2 dL_law_682 ?_
  refine x_callv0 dL_law_683 cv_L_113 ci_X4_restore rfl (T := TX4) rfl (by omega) (Nat.le_of_ble_eq_true rfl) (t_restore hM1 hI) (fun r m2 hq => ?_)
  obtain ⟨rfl, hM2, hF2⟩ := hq
  have hC2 := hC1.k hF2
  show Ex _ _ _ _ _ _ _ _ [zi (o_restore s).1, zi (o_restore s).1] _
  refine x_icmp_eq (tgt := 714) dL_law_686 rfl (fun e1 => ?_) (fun e1 => ?_)
  · exact nx _ _ hC2 hM2 (is_restore hI)
  · exact absurd rfl e1
theorem law_count (hC : CP m s) (hM : MPS m s) (hI : Is s) (hi : 0 ≤ i) (hi4 : i + 4 ≤ (rn E 79 : Int)) (hL : rn E 79 ≤ 2048) (nx : LN E i) : LX E 691 i m := by
  show Ex E cL_law 4 zz_RL 40 _ 691 [some (zr 79), some (zr 55), some (zr 59), some (zi i)] [] m
  refine x_aload1 dL_law_691 ?_
  refine x_aload0 dL_law_692 ?_
  refine x_iload3 dL_law_693 ?_
  refine x_iconst dL_law_694 ⟨by decide, by decide⟩ ?_
  refine x_iadd dL_law_695 (nrm_id (by omega) (by omega)) ?_
  refine x_rald dL_law_696 ⟨by decide, by decide⟩ (by omega) (by omega) rfl ?_
  refine x_callv1 dL_law_697 cv_L_114 ci_X3_count rfl (T := TX3) rfl (by omega) (Nat.le_of_ble_eq_true rfl) (s_count hC hI (w := ro E 79 (i + 1).toNat)) (fun r m1 hq => ?_)
  obtain ⟨rfl, hC1, hF1⟩ := hq
  have hM1 := hM.k hF1
  show Ex _ _ _ _ _ _ _ _ [zi ((o_count s (ro E 79 (i + 1).toNat), s) : zz_A).1] _
  refine x_aload2 dL_law_700 ?_
  refine x_aload0 dL_law_701 ?_
  refine x_iload3 dL_law_702 ?_
  refine x_iconst dL_law_703 ⟨by decide, by decide⟩ ?_
  refine x_iadd dL_law_704 (nrm_id (by omega) (by omega)) ?_
  refine x_rald dL_law_705 ⟨by decide, by decide⟩ (by omega) (by omega) rfl ?_
  refine x_callv1 dL_law_706 cv_L_117 ci_X4_count rfl (T := TX4) rfl (by omega) (Nat.le_of_ble_eq_true rfl) (t_count hM1 hI (w := ro E 79 (i + 1).toNat)) (fun r m2 hq => ?_)
  obtain ⟨rfl, hM2, hF2⟩ := hq
  have hC2 := hC1.k hF2
  show Ex _ _ _ _ _ _ _ _ [zi ((o_count s (ro E 79 (i + 1).toNat), s) : zz_A).1, zi ((o_count s (ro E 79 (i + 1).toNat), s) : zz_A).1] _
  refine x_icmp_eq (tgt := 714) dL_law_709 rfl (fun e1 => ?_) (fun e1 => ?_)
  · exact nx _ _ hC2 hM2 hI
  · exact absurd rfl e1
theorem law_loop (hE : zz_E.ok E) : ∀ (n : Nat) (i : Int) (s : zz_S) (m : zz_M), CP m s → MPS m s → Is s → 0 ≤ i → i ≤ 4 * 512 → 4 * 512 < i + 4 * n → LX E 18 i m := by
  have hL : rn E 79 ≤ 2048 := hE.1
  intro n
  induction n with
  | zero => intro i s m _ _ _ h0 h1 h2; omega
  | succ n ih =>
    intro i s m hC hM hI h0 h1 h2
    show Ex E cL_law 4 zz_RL 40 _ 18 [some (zr 79), some (zr 55), some (zr 59), some (zi i)] [] m
    refine x_iload3 dL_law_18 ?_
    refine x_aload0 dL_law_19 ?_
    refine x_ralen dL_law_20 ⟨by decide, by decide⟩ ?_
    refine x_iconst dL_law_21 ⟨by decide, by decide⟩ ?_
    refine x_isub dL_law_22 (nrm_id (by omega) (by omega)) ?_
    refine x_icmp_gt (tgt := 720) dL_law_23 rfl (fun c0 => ?_) (fun c0 => ?_)
    · refine x_iconst dL_law_720 ⟨by decide, by decide⟩ ?_
      exact xe_i dL_law_721 (rfl)
    · have hi4 : i + 4 ≤ (rn E 79 : Int) := by omega
      have nx : LN E i := by
        intro s' m' hC' hM' hI'
        show Ex E cL_law 4 zz_RL 40 _ 714 [some (zr 79), some (zr 55), some (zr 59), some (zi i)] [] m'
        refine x_iinc3 dL_law_714 (by decide) rfl (nrm_id (by omega) (by omega)) ?_
        refine x_goto (tgt := 18) dL_law_717 rfl ?_
        exact ih (i + 4) s' m' hC' hM' hI' (by omega) (by omega) (by omega)
      refine x_aload0 dL_law_26 ?_
      refine x_iload3 dL_law_27 ?_
      refine x_rald dL_law_28 ⟨by decide, by decide⟩ (by omega) (by omega) rfl ?_
      refine x_bipush dL_law_29 ⟨by decide, by decide⟩ ?_
      refine x_iand dL_law_31 rfl ?_
      generalize ian (ro E 79 i.toNat) 31 = v
      by_cases hv : v < 0 ∨ 24 < v
      · refine x_tout (tgt := 714) dL_law_32 (by omega) rfl ?_
        exact nx s m hC hM hI
      · rcases (show v = 0 ∨ v = 1 ∨ v = 2 ∨ v = 3 ∨ v = 4 ∨ v = 5 ∨ v = 6 ∨ v = 7 ∨ v = 8 ∨ v = 9 ∨ v = 10 ∨ v = 11 ∨ v = 12 ∨ v = 13 ∨ v = 14 ∨ v = 15 ∨ v = 16 ∨ v = 17 ∨ v = 18 ∨ v = 19 ∨ v = 20 ∨ v = 21 ∨ v = 22 ∨ v = 23 ∨ v = 24 by omega) with rfl | rfl | rfl | rfl | rfl | rfl | rfl | rfl | rfl | rfl | rfl | rfl | rfl | rfl | rfl | rfl | rfl | rfl | rfl | rfl | rfl | rfl | rfl | rfl | rfl
        · refine x_tin (tgt := 148) (off := 116) dL_law_32 (by decide) (by decide) rfl rfl ?_
          exact law_feed hC hM hI h0 hi4 hL nx
        · refine x_tin (tgt := 171) (off := 139) dL_law_32 (by decide) (by decide) rfl rfl ?_
          exact law_farm hC hM hI h0 hi4 hL nx
        · refine x_tin (tgt := 184) (off := 152) dL_law_32 (by decide) (by decide) rfl rfl ?_
          exact law_nest hC hM hI h0 hi4 hL nx
        · refine x_tin (tgt := 217) (off := 185) dL_law_32 (by decide) (by decide) rfl rfl ?_
          exact law_set hC hM hI h0 hi4 hL nx
        · refine x_tin (tgt := 250) (off := 218) dL_law_32 (by decide) (by decide) rfl rfl ?_
          exact law_look hC hM hI h0 hi4 hL nx
        · refine x_tin (tgt := 273) (off := 241) dL_law_32 (by decide) (by decide) rfl rfl ?_
          exact law_night hC hM hI h0 hi4 hL nx
        · refine x_tin (tgt := 286) (off := 254) dL_law_32 (by decide) (by decide) rfl rfl ?_
          exact law_tonight hC hM hI h0 hi4 hL nx
        · refine x_tin (tgt := 309) (off := 277) dL_law_32 (by decide) (by decide) rfl rfl ?_
          exact law_likely hC hM hI h0 hi4 hL nx
        · refine x_tin (tgt := 343) (off := 311) dL_law_32 (by decide) (by decide) rfl rfl ?_
          exact law_plan hC hM hI h0 hi4 hL nx
        · refine x_tin (tgt := 376) (off := 344) dL_law_32 (by decide) (by decide) rfl rfl ?_
          exact law_each hC hM hI h0 hi4 hL nx
        · refine x_tin (tgt := 409) (off := 377) dL_law_32 (by decide) (by decide) rfl rfl ?_
          exact law_shut hC hM hI h0 hi4 hL nx
        · refine x_tin (tgt := 422) (off := 390) dL_law_32 (by decide) (by decide) rfl rfl ?_
          exact law_lead hC hM hI h0 hi4 hL nx
        · refine x_tin (tgt := 445) (off := 413) dL_law_32 (by decide) (by decide) rfl rfl ?_
          exact law_row hC hM hI h0 hi4 hL nx
        · refine x_tin (tgt := 468) (off := 436) dL_law_32 (by decide) (by decide) rfl rfl ?_
          exact law_ways hC hM hI h0 hi4 hL nx
        · refine x_tin (tgt := 481) (off := 449) dL_law_32 (by decide) (by decide) rfl rfl ?_
          exact law_soon hC hM hI h0 hi4 hL nx
        · refine x_tin (tgt := 494) (off := 462) dL_law_32 (by decide) (by decide) rfl rfl ?_
          exact law_settle hC hM hI h0 hi4 hL nx
        · refine x_tin (tgt := 517) (off := 485) dL_law_32 (by decide) (by decide) rfl rfl ?_
          exact law_without hC hM hI h0 hi4 hL nx
        · refine x_tin (tgt := 540) (off := 508) dL_law_32 (by decide) (by decide) rfl rfl ?_
          exact law_put hC hM hI h0 hi4 hL nx
        · refine x_tin (tgt := 583) (off := 551) dL_law_32 (by decide) (by decide) rfl rfl ?_
          exact law_been hC hM hI h0 hi4 hL nx
        · refine x_tin (tgt := 606) (off := 574) dL_law_32 (by decide) (by decide) rfl rfl ?_
          exact law_judge hC hM hI h0 hi4 hL nx
        · refine x_tin (tgt := 619) (off := 587) dL_law_32 (by decide) (by decide) rfl rfl ?_
          exact law_seeds hC hM hI h0 hi4 hL nx
        · refine x_tin (tgt := 652) (off := 620) dL_law_32 (by decide) (by decide) rfl rfl ?_
          exact law_clear hC hM hI h0 hi4 hL nx
        · refine x_tin (tgt := 665) (off := 633) dL_law_32 (by decide) (by decide) rfl rfl ?_
          exact law_image hC hM hI h0 hi4 hL nx
        · refine x_tin (tgt := 678) (off := 646) dL_law_32 (by decide) (by decide) rfl rfl ?_
          exact law_restore hC hM hI h0 hi4 hL nx
        · refine x_tin (tgt := 691) (off := 659) dL_law_32 (by decide) (by decide) rfl rfl ?_
          exact law_count hC hM hI h0 hi4 hL nx
end LAW
