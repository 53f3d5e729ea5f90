/-! ===== the yard's methods ===== -/
section YM1
variable {E : zz_E} {m : zz_M} {b : Nat} {V : zz_W} {D : Int}
theorem s_allNests (hb : YB b) (hY : YP m b V) (hI : Iv D V) : Mt E 1 yX2_allNests cX2_allNests 1 (some .int) [zr b] m (ans (some (zi (alln (V 0 0)))) m) := by
  have hn := hI.1
  refine Mt.of 0 (by decide +kernel) (Nat.le_of_ble_eq_true rfl) (Or.inl rfl) ?_ ?_
  · rintro r m' ⟨rfl, rfl⟩; simp
  show Ex E cX2_allNests 1 RX2 1 _ 0 [some (zr b)] [] m
  have hq : ∀ n : Int, 0 ≤ n → n ≤ 6 → -2147483648 ≤ isl 1 n - 1 ∧ isl 1 n - 1 ≤ 2147483647 := by
    intro n h0 h1
    have : n = 0 ∨ n = 1 ∨ n = 2 ∨ n = 3 ∨ n = 4 ∨ n = 5 ∨ n = 6 := by omega
    rcases this with rfl | rfl | rfl | rfl | rfl | rfl | rfl <;> decide
  have := hq _ hn.1 hn.2
  refine x_iconst dX2_allNests_0 ⟨by decide, by decide⟩ ?_
  refine x_aload0 dX2_allNests_1 ?_
  refine x_getI dX2_allNests_2 fd_X2_43 (by first | rfl | exact yb_k (by assumption)) (Or.inl rfl) hY.nests ?_
  refine x_ishl dX2_allNests_5 rfl ?_
  refine x_iconst dX2_allNests_6 ⟨by decide, by decide⟩ ?_
  refine x_isub dX2_allNests_7 (nrm_id (by omega) (by omega)) ?_
  exact xe_i dX2_allNests_8 (⟨rfl, rfl⟩)
theorem s_eggsAt (hb : YB b) (hY : YP m b V) (hE : ∀ z, 0 ≤ z → z < 60 → 0 ≤ V 5 z ∧ V 5 z ≤ 9) {n : Int} (h0 : 0 ≤ n) (h1 : n < 6) : Mt E 1 yX2_eggsAt cX2_eggsAt 5 (some .int) [zr b, zi n] m (ans (some (zi (eggs V n))) m) := by
  refine Mt.of 3 (by decide +kernel) (Nat.le_of_ble_eq_true rfl) (Or.inl rfl) ?_ ?_
  · rintro r m' ⟨rfl, rfl⟩; simp
  show Ex E cX2_eggsAt 5 RX2 1 _ 0 [some (zr b), some (zi n), none, none, none] [] m
  have loop : ∀ (k j : Nat), j + k = 10 → Ex E cX2_eggsAt 5 RX2 1 (ans (some (zi (eggs V n))) m) 15 [some (zr b), some (zi n), some (zi (smI (fun a => V 5 (10 * n + a)) j)), some (zi ((n + 1) * 10)), some (zi (n * 10 + j))] [] m := by
    intro k
    induction k with
    | zero =>
      intro j hj
      refine x_iload4 dX2_eggsAt_15 ?_
      refine x_iload3 dX2_eggsAt_17 ?_
      refine x_icmp_ge (tgt := 37) dX2_eggsAt_18 rfl (fun hc => ?_) (fun hc => ?_)
      · refine x_iload2 dX2_eggsAt_37 ?_
        obtain rfl : j = 10 := by omega
        exact xe_i dX2_eggsAt_38 (⟨rfl, rfl⟩)
      · omega
    | succ k ih =>
      intro j hj
      refine x_iload4 dX2_eggsAt_15 ?_
      refine x_iload3 dX2_eggsAt_17 ?_
      refine x_icmp_ge (tgt := 37) dX2_eggsAt_18 rfl (fun hc => ?_) (fun hc => ?_)
      · omega
      · have hb1 := eggs_bd hE h0 h1 j (by omega)
        have hb2 := hE (10 * n + j) (by omega) (by omega)
        have e1 : n * 10 + (j : Int) = 10 * n + j := by omega
        refine x_iload2 dX2_eggsAt_21 ?_
        refine x_aload0 dX2_eggsAt_22 ?_
        refine x_getR (q := b + 5) dX2_eggsAt_23 fd_X2_24 (by first | rfl | exact yb_k (by assumption)) rfl (yb_p4 (by assumption)) ?_
        refine x_iload4 dX2_eggsAt_26 ?_
        refine x_iald dX2_eggsAt_28 (yb_a4 (by assumption)) (by omega) (by omega) (v := V 5 (10 * n + j)) (by rw [e1]; exact hY.egg (by omega) (by omega)) ?_
        refine x_iadd dX2_eggsAt_29 (nrm_id (by omega) (by omega)) ?_
        refine x_istore2 dX2_eggsAt_30 (by decide) rfl ?_
        refine x_iinc4 dX2_eggsAt_31 (by decide) rfl (nrm_id (by omega) (by omega)) ?_
        refine x_goto (tgt := 15) dX2_eggsAt_34 rfl ?_
        exact Ex.eq (by simp only [List.cons.injEq, Option.some.injEq, Sum.inl.injEq, and_true, true_and, smI_succ]; (try and_intros) <;> (try push_cast) <;> omega) rfl rfl (ih (j + 1) (by omega))
  refine x_iconst dX2_eggsAt_0 ⟨by decide, by decide⟩ ?_
  refine x_istore2 dX2_eggsAt_1 (by decide) rfl ?_
  refine x_iload1 dX2_eggsAt_2 ?_
  refine x_iconst dX2_eggsAt_3 ⟨by decide, by decide⟩ ?_
  refine x_iadd dX2_eggsAt_4 (nrm_id (by omega) (by omega)) ?_
  refine x_bipush dX2_eggsAt_5 ⟨by decide, by decide⟩ ?_
  refine x_imul dX2_eggsAt_7 (nrm_id (by omega) (by omega)) ?_
  refine x_istore3 dX2_eggsAt_8 (by decide) rfl ?_
  refine x_iload1 dX2_eggsAt_9 ?_
  refine x_bipush dX2_eggsAt_10 ⟨by decide, by decide⟩ ?_
  refine x_imul dX2_eggsAt_12 (nrm_id (by omega) (by omega)) ?_
  refine x_istore4 dX2_eggsAt_13 (by decide) rfl ?_
  exact Ex.eq (by simp [smI]) rfl rfl (loop 10 0 rfl)
end YM1
