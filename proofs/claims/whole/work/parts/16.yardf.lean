section YM6
variable {E : zz_E} {m : zz_M} {b : Nat} {V : zz_W} {D : Int}
theorem YP.arrup {a : Nat} {z x : Int} (h : YP m b V) (h0 : 0 ≤ z) (ha : 1 ≤ a) (ha2 : a ≤ 4) : YP (up m (b + a) z.toNat x) b (ux V a z x) := by
  have hc : ∀ k, k ≠ b + a → up m (b + a) z.toNat x k = m k := fun k hk => up_cell hk
  unfold YP at h ⊢
  rw [hc b (by omega), hc (b + 5) (by omega), hc (b + 6) (by omega)]
  refine ⟨?_, fun w h1 h2 => ?_, fun w h1 h2 => ?_, fun w h1 h2 => ?_⟩
  · unfold ux
    simp only [show ¬ ((0 : Nat) = a) by omega, false_and, if_false]
    exact h.1
  · rw [h.2.1 w h1 h2]
    exact (if_neg (by omega)).symm
  · obtain ⟨g1, g2, g3, g4⟩ := h.2.2.1 w h1 h2
    have key : ∀ k, 1 ≤ k → m (b + k) w.toNat = V k w → up m (b + a) z.toNat x (b + k) w.toNat = ux V a z x k w := by
      intro k hk hg
      unfold up ux
      by_cases hh : k = a ∧ w = z
      · rw [if_pos hh, if_pos ⟨by omega, by omega⟩]
      · rw [if_neg hh, if_neg (by omega), hg]
    exact ⟨key 1 (by decide) g1, key 2 (by decide) g2, key 3 (by decide) g3, key 4 (by decide) g4⟩
  · rw [h.2.2.2 w h1 h2]
    exact (if_neg (by omega)).symm
/-- a nest more -/
def addn (V : zz_W) (x y mi li : Int) : zz_W := fun a z =>
  if a = 0 ∧ z = 0 then V 0 0 + 1 else if a = 1 ∧ z = V 0 0 then x else if a = 2 ∧ z = V 0 0 then y else if a = 3 ∧ z = V 0 0 then mi else if a = 4 ∧ z = V 0 0 then li else V a z
theorem s_addNest (hb : YB b) (hY : YP m b V) (hn : 0 ≤ V 0 0 ∧ V 0 0 ≤ 6) {x y mi li : Int} : Mt E 1 yX2_addNest cX2_addNest 5 (some .boolean) [zr b, zi x, zi y, zi mi, zi li] m (fun r m' => (V 0 0 = 6 ∧ r = some (zi 0) ∧ m' = m) ∨ (V 0 0 < 6 ∧ r = some (zi 1) ∧ YP m' b (addn V x y mi li) ∧ Fr b (b + 8) m m')) := by
  refine Mt.of 0 (by decide +kernel) (Nat.le_of_ble_eq_true rfl) (Or.inr (Or.inl ⟨rfl, by rintro z m' (⟨-, h, -⟩ | ⟨-, h, -⟩) <;> cases h <;> simp⟩)) ?_ ?_
  · rintro r m' (⟨-, rfl, -⟩ | ⟨-, rfl, -⟩) <;> simp
  show Ex E cX2_addNest 5 RX2 1 _ 0 [some (zr b), some (zi x), some (zi y), some (zi mi), some (zi li)] [] m
  refine x_aload0 dX2_addNest_0 ?_
  refine x_getI dX2_addNest_1 fd_X2_43 (by first | rfl | exact yb_k (by assumption)) (Or.inl rfl) (v := V 0 0) hY.nests ?_
  refine x_bipush dX2_addNest_4 ⟨by decide, by decide⟩ ?_
  refine x_icmp_lt (tgt := 11) dX2_addNest_6 rfl (fun hc => ?_) (fun hc => ?_)
  · refine x_aload0 dX2_addNest_11 ?_
    refine x_getR (q := b + 1) dX2_addNest_12 fd_X2_9 (by first | rfl | exact yb_k (by assumption)) rfl (yb_p0 (by assumption)) ?_
    refine x_aload0 dX2_addNest_15 ?_
    refine x_getI dX2_addNest_16 fd_X2_43 (by first | rfl | exact yb_k (by assumption)) (Or.inl rfl) (v := V 0 0) hY.nests ?_
    refine x_iload1 dX2_addNest_19 ?_
    refine x_iast dX2_addNest_20 (yb_a0 (by assumption)) (by omega) (by omega) ?_
    have hY1 : YP _ b _ := hY.arrup (a := 1) (z := V 0 0) (x := x) hn.1 (by decide) (by decide)
    refine x_aload0 dX2_addNest_21 ?_
    refine x_getR (q := b + 2) dX2_addNest_22 fd_X2_15 (by first | rfl | exact yb_k (by assumption)) rfl (yb_p1 (by assumption)) ?_
    refine x_aload0 dX2_addNest_25 ?_
    refine x_getI dX2_addNest_26 fd_X2_43 (by first | rfl | exact yb_k (by assumption)) (Or.inl rfl) (v := V 0 0) hY1.nests ?_
    refine x_iload2 dX2_addNest_29 ?_
    refine x_iast dX2_addNest_30 (yb_a1 (by assumption)) (by omega) (by omega) ?_
    have hY2 : YP _ b _ := hY1.arrup (a := 2) (z := V 0 0) (x := y) hn.1 (by decide) (by decide)
    refine x_aload0 dX2_addNest_31 ?_
    refine x_getR (q := b + 3) dX2_addNest_32 fd_X2_18 (by first | rfl | exact yb_k (by assumption)) rfl (yb_p2 (by assumption)) ?_
    refine x_aload0 dX2_addNest_35 ?_
    refine x_getI dX2_addNest_36 fd_X2_43 (by first | rfl | exact yb_k (by assumption)) (Or.inl rfl) (v := V 0 0) hY2.nests ?_
    refine x_iload3 dX2_addNest_39 ?_
    refine x_iast dX2_addNest_40 (yb_a2 (by assumption)) (by omega) (by omega) ?_
    have hY3 : YP _ b _ := hY2.arrup (a := 3) (z := V 0 0) (x := mi) hn.1 (by decide) (by decide)
    refine x_aload0 dX2_addNest_41 ?_
    refine x_getR (q := b + 4) dX2_addNest_42 fd_X2_21 (by first | rfl | exact yb_k (by assumption)) rfl (yb_p3 (by assumption)) ?_
    refine x_aload0 dX2_addNest_45 ?_
    refine x_getI dX2_addNest_46 fd_X2_43 (by first | rfl | exact yb_k (by assumption)) (Or.inl rfl) (v := V 0 0) hY3.nests ?_
    refine x_iload4 dX2_addNest_49 ?_
    refine x_iast dX2_addNest_51 (yb_a3 (by assumption)) (by omega) (by omega) ?_
    have hY4 : YP _ b _ := hY3.arrup (a := 4) (z := V 0 0) (x := li) hn.1 (by decide) (by decide)
    refine x_aload0 dX2_addNest_52 ?_
    refine x_dupr dX2_addNest_53 ?_
    refine x_getI dX2_addNest_54 fd_X2_43 (by first | rfl | exact yb_k (by assumption)) (Or.inl rfl) (v := V 0 0) hY4.nests ?_
    refine x_iconst dX2_addNest_57 ⟨by decide, by decide⟩ ?_
    refine x_iadd dX2_addNest_58 (nrm_id (by omega) (by omega)) ?_
    refine x_putI dX2_addNest_59 fd_X2_43 (by first | rfl | exact yb_k (by assumption)) rfl ?_
    refine x_iconst dX2_addNest_62 ⟨by decide, by decide⟩ ?_
    have hY5 := hY4.setNests (x := V 0 0 + 1)
    refine xe_i dX2_addNest_63 ?_
    right
    refine ⟨hc, rfl, hY5.cg (fun a z => ?_), ((((Fr.rf.up (by omega) (by omega)).up (by omega) (by omega)).up (by omega) (by omega)).up (by omega) (by omega)).up (by omega) (by omega)⟩
    unfold ux addn
    by_cases h0 : a = 0
    · subst h0; simp
    · by_cases h1 : a = 1
      · subst h1; simp
      · by_cases h2 : a = 2
        · subst h2; simp
        · by_cases h3 : a = 3
          · subst h3; simp
          · by_cases h4 : a = 4
            · subst h4; simp
            · simp [h0, h1, h2, h3, h4]
  · refine x_iconst dX2_addNest_9 ⟨by decide, by decide⟩ ?_
    exact xe_i dX2_addNest_10 (Or.inl ⟨by omega, rfl, rfl⟩)
theorem s_addEgg (hb : YB b) (hY : YP m b V) (hn : 0 ≤ V 0 0 ∧ V 0 0 ≤ 6) {n g : Int} (hg0 : 0 ≤ g) (hg1 : g ≤ 9) (hn0 : 0 ≤ n) : Mt E 1 yX2_addEgg cX2_addEgg 4 (some .boolean) [zr b, zi n, zi g] m (fun r m' => ((V 0 0 ≤ n ∨ 9 ≤ V 5 (10 * n + g)) ∧ r = some (zi 0) ∧ m' = m) ∨ (n < V 0 0 ∧ V 5 (10 * n + g) < 9 ∧ r = some (zi 1) ∧ YP m' b (ux V 5 (10 * n + g) (nrm (V 5 (10 * n + g) + 1))) ∧ Fr b (b + 8) m m')) := by
  refine Mt.of 1 (by decide +kernel) (Nat.le_of_ble_eq_true rfl) (Or.inr (Or.inl ⟨rfl, by rintro z m' (⟨-, h, -⟩ | ⟨-, -, h, -⟩) <;> cases h <;> simp⟩)) ?_ ?_
  · rintro r m' (⟨-, rfl, -⟩ | ⟨-, -, rfl, -⟩) <;> simp
  show Ex E cX2_addEgg 4 RX2 1 _ 0 [some (zr b), some (zi n), some (zi g), none] [] m
  refine x_iload1 dX2_addEgg_0 ?_
  refine x_if_lt (tgt := 22) dX2_addEgg_1 rfl (fun h1 => ?_) (fun h1 => ?_)
  · omega
  · refine x_iload1 dX2_addEgg_4 ?_
    refine x_aload0 dX2_addEgg_5 ?_
    refine x_getI dX2_addEgg_6 fd_X2_43 (by first | rfl | exact yb_k (by assumption)) (Or.inl rfl) (v := V 0 0) hY.nests ?_
    refine x_icmp_ge (tgt := 22) dX2_addEgg_9 rfl (fun h2 => ?_) (fun h2 => ?_)
    · refine x_iconst dX2_addEgg_22 ⟨by decide, by decide⟩ ?_
      exact xe_i dX2_addEgg_23 (Or.inl ⟨Or.inl h2, rfl, rfl⟩)
    · refine x_iload2 dX2_addEgg_12 ?_
      refine x_if_lt (tgt := 22) dX2_addEgg_13 rfl (fun h3 => ?_) (fun h3 => ?_)
      · omega
      · refine x_iload2 dX2_addEgg_16 ?_
        refine x_bipush dX2_addEgg_17 ⟨by decide, by decide⟩ ?_
        refine x_icmp_lt (tgt := 24) dX2_addEgg_19 rfl (fun h4 => ?_) (fun h4 => ?_)
        · refine x_iload1 dX2_addEgg_24 ?_
          refine x_bipush dX2_addEgg_25 ⟨by decide, by decide⟩ ?_
          refine x_imul dX2_addEgg_27 (nrm_id (by omega) (by omega)) ?_
          refine x_iload2 dX2_addEgg_28 ?_
          refine x_iadd dX2_addEgg_29 (v := 10 * n + g) (by rw [show n * 10 + g = 10 * n + g by omega]; exact nrm_id (by omega) (by omega)) ?_
          refine x_istore3 dX2_addEgg_30 (by decide) rfl ?_
          refine x_aload0 dX2_addEgg_31 ?_
          refine x_getR (q := b + 5) dX2_addEgg_32 fd_X2_24 (by first | rfl | exact yb_k (by assumption)) rfl (yb_p4 (by assumption)) ?_
          refine x_iload3 dX2_addEgg_35 ?_
          refine x_iald dX2_addEgg_36 (yb_a4 (by assumption)) (by omega) (by omega) (v := V 5 (10 * n + g)) (hY.egg (by omega) (by omega)) ?_
          refine x_bipush dX2_addEgg_37 ⟨by decide, by decide⟩ ?_
          refine x_icmp_lt (tgt := 44) dX2_addEgg_39 rfl (fun h5 => ?_) (fun h5 => ?_)
          · refine x_aload0 dX2_addEgg_44 ?_
            refine x_getR (q := b + 5) dX2_addEgg_45 fd_X2_24 (by first | rfl | exact yb_k (by assumption)) rfl (yb_p4 (by assumption)) ?_
            refine x_iload3 dX2_addEgg_48 ?_
            refine x_dup2 dX2_addEgg_49 ?_
            refine x_iald dX2_addEgg_50 (yb_a4 (by assumption)) (by omega) (by omega) (v := V 5 (10 * n + g)) (hY.egg (by omega) (by omega)) ?_
            refine x_iconst dX2_addEgg_51 ⟨by decide, by decide⟩ ?_
            refine x_iadd dX2_addEgg_52 rfl ?_
            refine x_iast dX2_addEgg_53 (yb_a4 (by assumption)) (by omega) (by omega) ?_
            refine x_iconst dX2_addEgg_54 ⟨by decide, by decide⟩ ?_
            exact xe_i dX2_addEgg_55 (Or.inr ⟨h2, h5, rfl, hY.eggup (by omega), Fr.rf.up (by omega) (by omega)⟩)
          · refine x_iconst dX2_addEgg_42 ⟨by decide, by decide⟩ ?_
            exact xe_i dX2_addEgg_43 (Or.inl ⟨Or.inr h5, rfl, rfl⟩)
        · omega
theorem YP.setFig {z x : Int} (h : YP m b V) (h0 : 0 ≤ z) (h1 : z < 4) : YP (up m (b + 6) z.toNat x) b (ux V 0 (6 + z) x) := by
  have hc : ∀ k, k ≠ b + 6 → up m (b + 6) z.toNat x k = m k := fun k hk => up_cell hk
  have hn : ∀ a w, a ≠ 0 → ux V 0 (6 + z) x a w = V a w := fun a w ha => if_neg (fun q => ha q.1)
  have hs : ∀ w, w ≠ 6 + z → ux V 0 (6 + z) x 0 w = V 0 w := fun w hw => if_neg (fun q => hw q.2)
  unfold YP at h ⊢
  rw [hc b (by omega), hc (b + 1) (by omega), hc (b + 2) (by omega), hc (b + 3) (by omega), hc (b + 4) (by omega), hc (b + 5) (by omega)]
  refine ⟨?_, fun w h2 h3 => ?_, fun w h2 h3 => ?_, fun w h2 h3 => ?_⟩
  · rw [hs 0 (by omega), hs 1 (by omega), hs 2 (by omega), hs 3 (by omega), hs 4 (by omega), hs 5 (by omega)]
    exact h.1
  · unfold up ux
    by_cases hw : w = z
    · subst hw
      rw [if_pos ⟨rfl, rfl⟩, if_pos ⟨rfl, rfl⟩]
    · rw [if_neg (by omega), if_neg (by omega)]
      exact h.2.1 w h2 h3
  · rw [hn 1 w (by decide), hn 2 w (by decide), hn 3 w (by decide), hn 4 w (by decide)]
    exact h.2.2.1 w h2 h3
  · rw [hn 5 w (by decide)]
    exact h.2.2.2 w h2 h3
theorem s_change (hb : YB b) (hY : YP m b V) {q v : Int} (hq0 : 0 ≤ q) (hq1 : q < 4) : Mt E 1 yX2_change cX2_change 3 (some .boolean) [zr b, zi q, zi v] m (fun r m' => ((v < ro E 77 q.toNat ∨ ro E 78 q.toNat < v) ∧ r = some (zi 0) ∧ m' = m) ∨ (ro E 77 q.toNat ≤ v ∧ v ≤ ro E 78 q.toNat ∧ r = some (zi 1) ∧ YP m' b (ux V 0 (6 + q) v) ∧ Fr b (b + 8) m m')) := by
  refine Mt.of 0 (by decide +kernel) (Nat.le_of_ble_eq_true rfl) (Or.inr (Or.inl ⟨rfl, by rintro z m' (⟨-, h, -⟩ | ⟨-, -, h, -⟩) <;> cases h <;> simp⟩)) ?_ ?_
  · rintro r m' (⟨-, rfl, -⟩ | ⟨-, -, rfl, -⟩) <;> simp
  show Ex E cX2_change 3 RX2 1 _ 0 [some (zr b), some (zi q), some (zi v)] [] m
  have e7 : rn E 77 = 4 := rfl
  have e8 : rn E 78 = 4 := rfl
  refine x_iload2 dX2_change_0 ?_
  refine x_gets dX2_change_1 st_X2_62 ?_
  refine x_iload1 dX2_change_4 ?_
  refine x_rald dX2_change_5 ⟨by decide, by decide⟩ (by omega) (by omega) rfl ?_
  refine x_icmp_lt (tgt := 18) dX2_change_6 rfl (fun h1 => ?_) (fun h1 => ?_)
  · refine x_iconst dX2_change_18 ⟨by decide, by decide⟩ ?_
    exact xe_i dX2_change_19 (Or.inl ⟨Or.inl h1, rfl, rfl⟩)
  · refine x_iload2 dX2_change_9 ?_
    refine x_gets dX2_change_10 st_X2_65 ?_
    refine x_iload1 dX2_change_13 ?_
    refine x_rald dX2_change_14 ⟨by decide, by decide⟩ (by omega) (by omega) rfl ?_
    refine x_icmp_le (tgt := 20) dX2_change_15 rfl (fun h2 => ?_) (fun h2 => ?_)
    · refine x_aload0 dX2_change_20 ?_
      refine x_getR (q := b + 6) dX2_change_21 fd_X2_27 (by first | rfl | exact yb_k (by assumption)) rfl (yb_p5 (by assumption)) ?_
      refine x_iload1 dX2_change_24 ?_
      refine x_iload2 dX2_change_25 ?_
      refine x_iast dX2_change_26 (yb_a5 (by assumption)) (by omega) (by omega) ?_
      refine x_iconst dX2_change_27 ⟨by decide, by decide⟩ ?_
      exact xe_i dX2_change_28 (Or.inr ⟨h1, h2, rfl, hY.setFig hq0 hq1, Fr.rf.up (by omega) (by omega)⟩)
    · refine x_iconst dX2_change_18 ⟨by decide, by decide⟩ ?_
      exact xe_i dX2_change_19 (Or.inl ⟨Or.inr h2, rfl, rfl⟩)
end YM6
