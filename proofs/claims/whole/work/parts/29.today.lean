section PL4
variable {E : zz_E} {m : zz_M} {s : zz_S} {V : zz_W} {D : Int}
theorem ntz_f : ∀ q : Fin 64, q.val ≠ 0 → (ian (ixr (q.val : Int) (-1)) ((q.val : Int) - 1) = 0 ∧ tzn (q.val : Int) = 0) ∨ (ian (ixr (q.val : Int) (-1)) ((q.val : Int) - 1) = 1 ∧ tzn (q.val : Int) = 1) ∨ (ian (ixr (q.val : Int) (-1)) ((q.val : Int) - 1) = 3 ∧ tzn (q.val : Int) = 2) ∨
    (ian (ixr (q.val : Int) (-1)) ((q.val : Int) - 1) = 7 ∧ tzn (q.val : Int) = 3) ∨ (ian (ixr (q.val : Int) (-1)) ((q.val : Int) - 1) = 15 ∧ tzn (q.val : Int) = 4) ∨ (ian (ixr (q.val : Int) (-1)) ((q.val : Int) - 1) = 31 ∧ tzn (q.val : Int) = 5) := by decide +kernel
theorem s_ntz {q : Int} (h0 : 0 < q) (h1 : q < 64) : Mt E 1 yJ6_numberOfTrailingZeros_0f7a4 cJ6_numberOfTrailingZeros_0f7a4 2 (some .int) [zi q] m (ans (some (zi (tzn q))) m) := by
  refine Mt.of 1 (by decide +kernel) (Nat.le_of_ble_eq_true rfl) (Or.inl rfl) ?_ ?_
  · rintro r m' ⟨rfl, rfl⟩; simp
  show Ex E cJ6_numberOfTrailingZeros_0f7a4 2 RJ6 1 _ 0 [some (zi q), none] [] m
  have h := ntz_f ⟨q.toNat, by omega⟩ (by show q.toNat ≠ 0; omega)
  simp only [nat_of (show 0 ≤ q by omega)] at h
  refine x_iload0 dJ6_numberOfTrailingZeros_0f7a4_0 ?_
  refine x_iconst dJ6_numberOfTrailingZeros_0f7a4_1 ⟨by decide, by decide⟩ ?_
  refine x_ixor dJ6_numberOfTrailingZeros_0f7a4_2 rfl ?_
  refine x_iload0 dJ6_numberOfTrailingZeros_0f7a4_3 ?_
  refine x_iconst dJ6_numberOfTrailingZeros_0f7a4_4 ⟨by decide, by decide⟩ ?_
  refine x_isub dJ6_numberOfTrailingZeros_0f7a4_5 (nrm_id (by omega) (by omega)) ?_
  refine x_iand dJ6_numberOfTrailingZeros_0f7a4_6 rfl ?_
  refine x_istore0 dJ6_numberOfTrailingZeros_0f7a4_7 (by decide) rfl ?_
  refine x_iload0 dJ6_numberOfTrailingZeros_0f7a4_8 ?_
  refine x_if_gt (tgt := 17) dJ6_numberOfTrailingZeros_0f7a4_9 rfl (fun hc => ?_) (fun hc => ?_)
  · rcases h with ⟨hx, ht⟩ | ⟨hx, ht⟩ | ⟨hx, ht⟩ | ⟨hx, ht⟩ | ⟨hx, ht⟩ | ⟨hx, ht⟩
    · omega
    · rw [hx, ht]
      refine x_iconst dJ6_numberOfTrailingZeros_0f7a4_17 ⟨by decide, by decide⟩ ?_
      refine x_istore1 dJ6_numberOfTrailingZeros_0f7a4_18 (by decide) rfl ?_
      refine x_iload0 dJ6_numberOfTrailingZeros_0f7a4_19 ?_
      refine x_ldcw (v := 65536) dJ6_numberOfTrailingZeros_0f7a4_20 ⟨by decide, by decide⟩ ct_J6_264 ?_
      refine x_icmp_le (tgt := 34) dJ6_numberOfTrailingZeros_0f7a4_23 rfl (fun c1 => ?_) (fun c1 => ?_)
      · refine x_iload0 dJ6_numberOfTrailingZeros_0f7a4_34 ?_
        refine x_sipush dJ6_numberOfTrailingZeros_0f7a4_35 ⟨by decide, by decide⟩ ?_
        refine x_icmp_le (tgt := 49) dJ6_numberOfTrailingZeros_0f7a4_38 rfl (fun c2 => ?_) (fun c2 => ?_)
        · refine x_iload0 dJ6_numberOfTrailingZeros_0f7a4_49 ?_
          refine x_bipush dJ6_numberOfTrailingZeros_0f7a4_50 ⟨by decide, by decide⟩ ?_
          refine x_icmp_le (tgt := 62) dJ6_numberOfTrailingZeros_0f7a4_52 rfl (fun c3 => ?_) (fun c3 => ?_)
          · refine x_iload0 dJ6_numberOfTrailingZeros_0f7a4_62 ?_
            refine x_iconst dJ6_numberOfTrailingZeros_0f7a4_63 ⟨by decide, by decide⟩ ?_
            refine x_icmp_le (tgt := 74) dJ6_numberOfTrailingZeros_0f7a4_64 rfl (fun c4 => ?_) (fun c4 => ?_)
            · refine x_iload1 dJ6_numberOfTrailingZeros_0f7a4_74 ?_
              refine x_iload0 dJ6_numberOfTrailingZeros_0f7a4_75 ?_
              refine x_iconst dJ6_numberOfTrailingZeros_0f7a4_76 ⟨by decide, by decide⟩ ?_
              refine x_iushr dJ6_numberOfTrailingZeros_0f7a4_77 (v := 0) (by decide +kernel) ?_
              refine x_iadd dJ6_numberOfTrailingZeros_0f7a4_78 (nrm_id (by omega) (by omega)) ?_
              exact xe_i dJ6_numberOfTrailingZeros_0f7a4_79 (⟨rfl, rfl⟩)
            · omega
          · omega
        · omega
      · omega
    · rw [hx, ht]
      refine x_iconst dJ6_numberOfTrailingZeros_0f7a4_17 ⟨by decide, by decide⟩ ?_
      refine x_istore1 dJ6_numberOfTrailingZeros_0f7a4_18 (by decide) rfl ?_
      refine x_iload0 dJ6_numberOfTrailingZeros_0f7a4_19 ?_
      refine x_ldcw (v := 65536) dJ6_numberOfTrailingZeros_0f7a4_20 ⟨by decide, by decide⟩ ct_J6_264 ?_
      refine x_icmp_le (tgt := 34) dJ6_numberOfTrailingZeros_0f7a4_23 rfl (fun c1 => ?_) (fun c1 => ?_)
      · refine x_iload0 dJ6_numberOfTrailingZeros_0f7a4_34 ?_
        refine x_sipush dJ6_numberOfTrailingZeros_0f7a4_35 ⟨by decide, by decide⟩ ?_
        refine x_icmp_le (tgt := 49) dJ6_numberOfTrailingZeros_0f7a4_38 rfl (fun c2 => ?_) (fun c2 => ?_)
        · refine x_iload0 dJ6_numberOfTrailingZeros_0f7a4_49 ?_
          refine x_bipush dJ6_numberOfTrailingZeros_0f7a4_50 ⟨by decide, by decide⟩ ?_
          refine x_icmp_le (tgt := 62) dJ6_numberOfTrailingZeros_0f7a4_52 rfl (fun c3 => ?_) (fun c3 => ?_)
          · refine x_iload0 dJ6_numberOfTrailingZeros_0f7a4_62 ?_
            refine x_iconst dJ6_numberOfTrailingZeros_0f7a4_63 ⟨by decide, by decide⟩ ?_
            refine x_icmp_le (tgt := 74) dJ6_numberOfTrailingZeros_0f7a4_64 rfl (fun c4 => ?_) (fun c4 => ?_)
            · refine x_iload1 dJ6_numberOfTrailingZeros_0f7a4_74 ?_
              refine x_iload0 dJ6_numberOfTrailingZeros_0f7a4_75 ?_
              refine x_iconst dJ6_numberOfTrailingZeros_0f7a4_76 ⟨by decide, by decide⟩ ?_
              refine x_iushr dJ6_numberOfTrailingZeros_0f7a4_77 (v := 1) (by decide +kernel) ?_
              refine x_iadd dJ6_numberOfTrailingZeros_0f7a4_78 (nrm_id (by omega) (by omega)) ?_
              exact xe_i dJ6_numberOfTrailingZeros_0f7a4_79 (⟨rfl, rfl⟩)
            · omega
          · omega
        · omega
      · omega
    · rw [hx, ht]
      refine x_iconst dJ6_numberOfTrailingZeros_0f7a4_17 ⟨by decide, by decide⟩ ?_
      refine x_istore1 dJ6_numberOfTrailingZeros_0f7a4_18 (by decide) rfl ?_
      refine x_iload0 dJ6_numberOfTrailingZeros_0f7a4_19 ?_
      refine x_ldcw (v := 65536) dJ6_numberOfTrailingZeros_0f7a4_20 ⟨by decide, by decide⟩ ct_J6_264 ?_
      refine x_icmp_le (tgt := 34) dJ6_numberOfTrailingZeros_0f7a4_23 rfl (fun c1 => ?_) (fun c1 => ?_)
      · refine x_iload0 dJ6_numberOfTrailingZeros_0f7a4_34 ?_
        refine x_sipush dJ6_numberOfTrailingZeros_0f7a4_35 ⟨by decide, by decide⟩ ?_
        refine x_icmp_le (tgt := 49) dJ6_numberOfTrailingZeros_0f7a4_38 rfl (fun c2 => ?_) (fun c2 => ?_)
        · refine x_iload0 dJ6_numberOfTrailingZeros_0f7a4_49 ?_
          refine x_bipush dJ6_numberOfTrailingZeros_0f7a4_50 ⟨by decide, by decide⟩ ?_
          refine x_icmp_le (tgt := 62) dJ6_numberOfTrailingZeros_0f7a4_52 rfl (fun c3 => ?_) (fun c3 => ?_)
          · refine x_iload0 dJ6_numberOfTrailingZeros_0f7a4_62 ?_
            refine x_iconst dJ6_numberOfTrailingZeros_0f7a4_63 ⟨by decide, by decide⟩ ?_
            refine x_icmp_le (tgt := 74) dJ6_numberOfTrailingZeros_0f7a4_64 rfl (fun c4 => ?_) (fun c4 => ?_)
            · omega
            · refine x_iinc1 dJ6_numberOfTrailingZeros_0f7a4_67 (by decide) rfl (nrm_id (by omega) (by omega)) ?_
              refine x_iload0 dJ6_numberOfTrailingZeros_0f7a4_70 ?_
              refine x_iconst dJ6_numberOfTrailingZeros_0f7a4_71 ⟨by decide, by decide⟩ ?_
              refine x_iushr dJ6_numberOfTrailingZeros_0f7a4_72 (v := 1) (by decide +kernel) ?_
              refine x_istore0 dJ6_numberOfTrailingZeros_0f7a4_73 (by decide) rfl ?_
              refine x_iload1 dJ6_numberOfTrailingZeros_0f7a4_74 ?_
              refine x_iload0 dJ6_numberOfTrailingZeros_0f7a4_75 ?_
              refine x_iconst dJ6_numberOfTrailingZeros_0f7a4_76 ⟨by decide, by decide⟩ ?_
              refine x_iushr dJ6_numberOfTrailingZeros_0f7a4_77 (v := 0) (by decide +kernel) ?_
              refine x_iadd dJ6_numberOfTrailingZeros_0f7a4_78 (nrm_id (by omega) (by omega)) ?_
              exact xe_i dJ6_numberOfTrailingZeros_0f7a4_79 (⟨rfl, rfl⟩)
          · omega
        · omega
      · omega
    · rw [hx, ht]
      refine x_iconst dJ6_numberOfTrailingZeros_0f7a4_17 ⟨by decide, by decide⟩ ?_
      refine x_istore1 dJ6_numberOfTrailingZeros_0f7a4_18 (by decide) rfl ?_
      refine x_iload0 dJ6_numberOfTrailingZeros_0f7a4_19 ?_
      refine x_ldcw (v := 65536) dJ6_numberOfTrailingZeros_0f7a4_20 ⟨by decide, by decide⟩ ct_J6_264 ?_
      refine x_icmp_le (tgt := 34) dJ6_numberOfTrailingZeros_0f7a4_23 rfl (fun c1 => ?_) (fun c1 => ?_)
      · refine x_iload0 dJ6_numberOfTrailingZeros_0f7a4_34 ?_
        refine x_sipush dJ6_numberOfTrailingZeros_0f7a4_35 ⟨by decide, by decide⟩ ?_
        refine x_icmp_le (tgt := 49) dJ6_numberOfTrailingZeros_0f7a4_38 rfl (fun c2 => ?_) (fun c2 => ?_)
        · refine x_iload0 dJ6_numberOfTrailingZeros_0f7a4_49 ?_
          refine x_bipush dJ6_numberOfTrailingZeros_0f7a4_50 ⟨by decide, by decide⟩ ?_
          refine x_icmp_le (tgt := 62) dJ6_numberOfTrailingZeros_0f7a4_52 rfl (fun c3 => ?_) (fun c3 => ?_)
          · refine x_iload0 dJ6_numberOfTrailingZeros_0f7a4_62 ?_
            refine x_iconst dJ6_numberOfTrailingZeros_0f7a4_63 ⟨by decide, by decide⟩ ?_
            refine x_icmp_le (tgt := 74) dJ6_numberOfTrailingZeros_0f7a4_64 rfl (fun c4 => ?_) (fun c4 => ?_)
            · omega
            · refine x_iinc1 dJ6_numberOfTrailingZeros_0f7a4_67 (by decide) rfl (nrm_id (by omega) (by omega)) ?_
              refine x_iload0 dJ6_numberOfTrailingZeros_0f7a4_70 ?_
              refine x_iconst dJ6_numberOfTrailingZeros_0f7a4_71 ⟨by decide, by decide⟩ ?_
              refine x_iushr dJ6_numberOfTrailingZeros_0f7a4_72 (v := 3) (by decide +kernel) ?_
              refine x_istore0 dJ6_numberOfTrailingZeros_0f7a4_73 (by decide) rfl ?_
              refine x_iload1 dJ6_numberOfTrailingZeros_0f7a4_74 ?_
              refine x_iload0 dJ6_numberOfTrailingZeros_0f7a4_75 ?_
              refine x_iconst dJ6_numberOfTrailingZeros_0f7a4_76 ⟨by decide, by decide⟩ ?_
              refine x_iushr dJ6_numberOfTrailingZeros_0f7a4_77 (v := 1) (by decide +kernel) ?_
              refine x_iadd dJ6_numberOfTrailingZeros_0f7a4_78 (nrm_id (by omega) (by omega)) ?_
              exact xe_i dJ6_numberOfTrailingZeros_0f7a4_79 (⟨rfl, rfl⟩)
          · omega
        · omega
      · omega
    · rw [hx, ht]
      refine x_iconst dJ6_numberOfTrailingZeros_0f7a4_17 ⟨by decide, by decide⟩ ?_
      refine x_istore1 dJ6_numberOfTrailingZeros_0f7a4_18 (by decide) rfl ?_
      refine x_iload0 dJ6_numberOfTrailingZeros_0f7a4_19 ?_
      refine x_ldcw (v := 65536) dJ6_numberOfTrailingZeros_0f7a4_20 ⟨by decide, by decide⟩ ct_J6_264 ?_
      refine x_icmp_le (tgt := 34) dJ6_numberOfTrailingZeros_0f7a4_23 rfl (fun c1 => ?_) (fun c1 => ?_)
      · refine x_iload0 dJ6_numberOfTrailingZeros_0f7a4_34 ?_
        refine x_sipush dJ6_numberOfTrailingZeros_0f7a4_35 ⟨by decide, by decide⟩ ?_
        refine x_icmp_le (tgt := 49) dJ6_numberOfTrailingZeros_0f7a4_38 rfl (fun c2 => ?_) (fun c2 => ?_)
        · refine x_iload0 dJ6_numberOfTrailingZeros_0f7a4_49 ?_
          refine x_bipush dJ6_numberOfTrailingZeros_0f7a4_50 ⟨by decide, by decide⟩ ?_
          refine x_icmp_le (tgt := 62) dJ6_numberOfTrailingZeros_0f7a4_52 rfl (fun c3 => ?_) (fun c3 => ?_)
          · omega
          · refine x_iinc1 dJ6_numberOfTrailingZeros_0f7a4_55 (by decide) rfl (nrm_id (by omega) (by omega)) ?_
            refine x_iload0 dJ6_numberOfTrailingZeros_0f7a4_58 ?_
            refine x_iconst dJ6_numberOfTrailingZeros_0f7a4_59 ⟨by decide, by decide⟩ ?_
            refine x_iushr dJ6_numberOfTrailingZeros_0f7a4_60 (v := 1) (by decide +kernel) ?_
            refine x_istore0 dJ6_numberOfTrailingZeros_0f7a4_61 (by decide) rfl ?_
            refine x_iload0 dJ6_numberOfTrailingZeros_0f7a4_62 ?_
            refine x_iconst dJ6_numberOfTrailingZeros_0f7a4_63 ⟨by decide, by decide⟩ ?_
            refine x_icmp_le (tgt := 74) dJ6_numberOfTrailingZeros_0f7a4_64 rfl (fun c4 => ?_) (fun c4 => ?_)
            · refine x_iload1 dJ6_numberOfTrailingZeros_0f7a4_74 ?_
              refine x_iload0 dJ6_numberOfTrailingZeros_0f7a4_75 ?_
              refine x_iconst dJ6_numberOfTrailingZeros_0f7a4_76 ⟨by decide, by decide⟩ ?_
              refine x_iushr dJ6_numberOfTrailingZeros_0f7a4_77 (v := 0) (by decide +kernel) ?_
              refine x_iadd dJ6_numberOfTrailingZeros_0f7a4_78 (nrm_id (by omega) (by omega)) ?_
              exact xe_i dJ6_numberOfTrailingZeros_0f7a4_79 (⟨rfl, rfl⟩)
            · omega
        · omega
      · omega
  · rcases h with ⟨hx, ht⟩ | ⟨hx, ht⟩ | ⟨hx, ht⟩ | ⟨hx, ht⟩ | ⟨hx, ht⟩ | ⟨hx, ht⟩
    · rw [hx, ht]
      refine x_iload0 dJ6_numberOfTrailingZeros_0f7a4_12 ?_
      refine x_bipush dJ6_numberOfTrailingZeros_0f7a4_13 ⟨by decide, by decide⟩ ?_
      refine x_iand dJ6_numberOfTrailingZeros_0f7a4_15 (v := 0) (by decide +kernel) ?_
      exact xe_i dJ6_numberOfTrailingZeros_0f7a4_16 (⟨rfl, rfl⟩)
    all_goals omega
theorem s_noteFirst {dp q : Int} : Mt E 1 yX1_noteFirst cX1_noteFirst 3 none [zr 48, zi dp, zi q] m (ans none (if dp = 0 then up m 48 5 q else m)) := by
  refine Mt.of 0 (by decide +kernel) (Nat.le_of_ble_eq_true rfl) (Or.inr (Or.inr (Or.inr rfl))) ?_ ?_
  · rintro r m' ⟨rfl, rfl⟩; simp
  show Ex E cX1_noteFirst 3 RX1 1 _ 0 [some (zr 48), some (zi dp), some (zi q)] [] m
  refine x_iload1 dX1_noteFirst_0 ?_
  refine x_if_ne (tgt := 9) dX1_noteFirst_1 rfl (fun hc => ?_) (fun hc => ?_)
  · exact xe_v dX1_noteFirst_9 (⟨rfl, by rw [if_neg hc]⟩)
  · refine x_aload0 dX1_noteFirst_4 ?_
    refine x_iload2 dX1_noteFirst_5 ?_
    refine x_putI dX1_noteFirst_6 fd_X1_83 rfl rfl ?_
    exact xe_v dX1_noteFirst_9 (⟨rfl, by rw [if_pos hc]⟩)
/-- what is left of a planner behind a look at one mind -/
def PQ (m m' : zz_M) (b : Nat) (dp : Nat) (x : Int) : Prop :=
  m' 52 0 = 0 ∧ m' 48 4 = m 48 4 ∧ (m' 48 5 = if dp = 0 then x else m 48 5) ∧ ∀ k, k ≠ 48 → k ≠ 51 → k ≠ 52 → (k < b ∨ 49 ≤ k) → m' k = m k
theorem s_mostToday {b dp : Nat} (hdp : dp ≤ 2) (hb0 : b = 24 + 8 * dp) (hb : YB b) (hY : YP m b V) (hI : Iv D V) (hL : LA m V (ase V)) (h52 : m 52 0 = 0) :
    Mt E 3 yX1_mostToday cX1_mostToday 6 (some .int) [zr 48, zi dp] m (fun r m' => r = some (zi (pfv 1 V).1) ∧ YP m' b V ∧ PQ m m' (b + 8) dp (pfv 1 V).2 ∧ ∀ k, k < 48 → m' k = m k) := by
  have hn := hI.1
  obtain ⟨e1, e2, e3, e4⟩ := ase_pow hn
  have hle := ast_len V (ase V)
  have he := hI.2.2.2.2.2.2.2.2.2.1
  refine Mt.of 4 (by decide +kernel) (Nat.le_of_ble_eq_true rfl) (Or.inl rfl) ?_ ?_
  · rintro r m' ⟨rfl, -⟩; simp
  show Ex E cX1_mostToday 6 RX1 3 _ 0 [some (zr 48), some (zi dp), none, none, none, none] [] m
  refine x_aload0 dX1_mostToday_0 ?_
  refine x_getR (q := 49) dX1_mostToday_1 fd_X1_12 rfl rfl rfl ?_
  refine x_iload1 dX1_mostToday_4 ?_
  refine x_aald dX1_mostToday_5 rfl (by omega) (by omega) (q := b) (by omega) ?_
  refine x_astore2 dX1_mostToday_6 (by decide) rfl ?_
  refine x_iconst dX1_mostToday_7 ⟨by decide, by decide⟩ ?_
  refine x_istore3 dX1_mostToday_8 (by decide) rfl ?_
  -- the sums, once the heaps stand
  have sums : ∀ m1 : zz_M, (∀ k, k ≠ 51 → m1 k = m k) → (∀ z : Int, 0 ≤ z → z < V 0 0 → m1 51 z.toNat = eggs V z) → ∀ o : Option zz_V, Ex E cX1_mostToday 6 RX1 3 (fun r m' => r = some (zi (pfv 1 V).1) ∧ YP m' b V ∧ PQ m m' (b + 8) dp (pfv 1 V).2 ∧ ∀ k, k < 48 → m' k = m k) 34 [some (zr 48), some (zi dp), some (zr b), o, none, none] [] m1 := by
    intro m1 hF1 hH o
    obtain ⟨l1, hl1⟩ := ast_hd hn hI.2.2.2.2.2.2.1.1 (ase V - 1)
    rw [show ase V - 1 + 1 = ase V by omega] at hl1
    have hpf : pfv 1 V = bsf (fun q => tkn V (q : Int) + 0) l1 (0, 0) := by
      show bsf (fun q => tkn V (q : Int) + 0) (ast V (ase V)) (-1, 0) = _
      rw [hl1, bsf]
      show bsf _ l1 (if (-1 : Int) < tkn V ((0 : Nat) : Int) + 0 then (tkn V ((0 : Nat) : Int) + 0, ((0 : Nat) : Int)) else (-1, 0)) = _
      rw [show ((0 : Nat) : Int) = 0 from rfl, tkn0 hn]
      rfl
    have e48 : m1 48 = m 48 := hF1 48 (by decide)
    refine Ex.wk (L' := [some (zr 48), some (zi dp), some (zr b), none, none, none]) ⟨rfl, rfl, rfl, trivial⟩ ?_
    refine x_iconst dX1_mostToday_34 ⟨by decide, by decide⟩ ?_
    refine x_istore3 dX1_mostToday_35 (by decide) rfl ?_
    refine x_aload0 dX1_mostToday_36 ?_
    refine x_iload1 dX1_mostToday_37 ?_
    refine x_iconst dX1_mostToday_38 ⟨by decide, by decide⟩ ?_
    refine x_callv2 dX1_mostToday_39 cv_X1_79 ci_X1_noteFirst rfl (T := TX1) rfl (by omega) (Nat.le_of_ble_eq_true rfl) (s_noteFirst (dp := dp) (q := 0)) (fun r m2 hq => ?_)
    obtain ⟨rfl, rfl⟩ := hq
    show Ex _ _ _ _ _ _ _ _ [] _
    refine x_iconst dX1_mostToday_42 ⟨by decide, by decide⟩ ?_
    refine x_istore4 dX1_mostToday_43 (by decide) rfl ?_
    have loop : ∀ (post pre : List Nat) (m2 : zz_M) (a : Int × Int) (o : Option zz_V), pre ++ post = ast V (ase V) → 0 ∈ pre → bsf (fun q => tkn V (q : Int) + 0) post a = pfv 1 V → (0 ≤ a.1 ∧ a.1 ≤ 540) →
        (∀ p ∈ pre, m2 52 p = tkn V (p : Int)) → (∀ k, k ≠ 48 → k ≠ 52 → m2 k = m1 k) → m2 48 4 = m 48 4 → (m2 48 5 = if dp = 0 then a.2 else m 48 5) →
        Ex E cX1_mostToday 6 RX1 3 (fun r m' => r = some (zi (pfv 1 V).1) ∧ YP m' b V ∧ PQ m m' (b + 8) dp (pfv 1 V).2 ∧ ∀ k, k < 48 → m' k = m k) 45 [some (zr 48), some (zi dp), some (zr b), some (zi a.1), some (zi (pre.length : Int)), o] [] m2 := by
      intro post
      induction post with
      | nil =>
        intro pre m2 a o hp h0 hbs ha hS hF hc4 hc5
        refine x_iload4 dX1_mostToday_45 ?_
        refine x_aload0 dX1_mostToday_47 ?_
        refine x_getI dX1_mostToday_48 fd_X1_32 rfl (Or.inl rfl) (v := (pre.length : Int)) (by rw [hc4, hL.1, ← hp, List.append_nil]) ?_
        refine x_icmp_ge (tgt := 125) dX1_mostToday_51 rfl (fun hc => ?_) (fun hc => ?_)
        · refine x_iload3 dX1_mostToday_125 ?_
          have ea : a = pfv 1 V := hbs
          have hb48 := hb.2
          exact xe_i dX1_mostToday_126 (⟨by rw [← ea], hY.kept (fun k c d => (hF k (by omega) (by omega)).trans (hF1 k (by omega))), ⟨hS 0 h0 |>.trans (by rw [show ((0 : Nat) : Int) = 0 from rfl]; exact tkn0 hn), hc4, by rw [hc5, ← ea], fun k c d e f => (hF k c e).trans (hF1 k d)⟩, fun k c => (hF k (by omega) (by omega)).trans (hF1 k (by omega))⟩)
        · omega
      | cons q post ih =>
        intro pre m2 a o hp h0 hbs ha hS hF hc4 hc5
        refine Ex.wk (L' := [some (zr 48), some (zi dp), some (zr b), some (zi a.1), some (zi (pre.length : Int)), none]) ⟨rfl, rfl, rfl, rfl, rfl, trivial⟩ ?_
        have hlen2 := congrArg List.length hp
        rw [List.length_append, List.length_cons] at hlen2
        have hget : (ast V (ase V))[pre.length]? = some q := by rw [← hp, List.getElem?_append_right (Nat.le_refl _), Nat.sub_self]; rfl
        have hqm := List.mem_of_getElem? hget
        have hm := hL.2 _ _ hget
        obtain ⟨h64, hsub⟩ := ast_64 hI hqm
        have hsrt := ast_srt V (ase V)
        rw [← hp, List.pairwise_append] at hsrt
        have hq0 : 0 < q := hsrt.2.2 0 h0 q List.mem_cons_self
        have htz := tz_ok (q := (q : Int)) (by omega) (by omega)
        have htl := tz_lt hsub (by omega)
        -- the smaller set stands already
        have hlm : (lsb (q : Int)).toNat ∈ pre := by
          have hmem : (lsb (q : Int)).toNat ∈ ast V (ase V) := by
            have hh := ast_mem.mp hqm
            refine ast_mem.mpr ⟨by omega, ?_⟩
            rw [nat_of htz.2.1.1]
            have := mins_lsb hI hsub (show 0 < (q : Int) by omega)
            omega
          rw [← hp] at hmem
          rcases List.mem_append.mp hmem with g | g
          · exact g
          · rcases List.mem_cons.mp g with g | g
            · omega
            · have := (List.pairwise_cons.mp hsrt.2.1).1 _ g
              omega
        have hls := hS _ hlm
        rw [nat_of htz.2.1.1] at hls
        have hsum := tkn_lsb hn hsub (show 0 < (q : Int) by omega)
        have hb1 : 0 ≤ tkn V (lsb (q : Int)) ∧ tkn V (lsb (q : Int)) ≤ 540 := tkn_bd he _ _ (by omega)
        have hb2 : 0 ≤ eggs V (tzn (q : Int)) ∧ eggs V (tzn (q : Int)) ≤ 90 := eggs_bd he htz.1.1 htz.1.2.1 10 (by decide)
        have hb3 : 0 ≤ tkn V (q : Int) ∧ tkn V (q : Int) ≤ 540 := tkn_bd he _ _ (by omega)
        have e50 : m2 50 = m 50 := (hF 50 (by decide) (by decide)).trans (hF1 50 (by decide))
        have e51 : m2 51 = m1 51 := hF 51 (by decide) (by decide)
        refine x_iload4 dX1_mostToday_45 ?_
        refine x_aload0 dX1_mostToday_47 ?_
        refine x_getI dX1_mostToday_48 fd_X1_32 rfl (Or.inl rfl) (v := ((ast V (ase V)).length : Int)) (by rw [hc4, hL.1]) ?_
        refine x_icmp_ge (tgt := 125) dX1_mostToday_51 rfl (fun hc => ?_) (fun hc => ?_)
        · omega
        · refine x_aload0 dX1_mostToday_54 ?_
          refine x_getR (q := 50) dX1_mostToday_55 fd_X1_18 rfl rfl rfl ?_
          refine x_iload4 dX1_mostToday_58 ?_
          refine x_iald dX1_mostToday_60 rfl (by omega) (by omega) (v := (q : Int)) (by rw [e50]; exact hm) ?_
          refine x_istore5 dX1_mostToday_61 (by decide) rfl ?_
          refine x_aload0 dX1_mostToday_63 ?_
          refine x_getR (q := 52) dX1_mostToday_64 fd_X1_25 rfl rfl rfl ?_
          refine x_iload5 dX1_mostToday_67 ?_
          refine x_aload0 dX1_mostToday_69 ?_
          refine x_getR (q := 52) dX1_mostToday_70 fd_X1_25 rfl rfl rfl ?_
          refine x_iload5 dX1_mostToday_73 ?_
          refine x_iload5 dX1_mostToday_75 ?_
          refine x_iconst dX1_mostToday_77 ⟨by decide, by decide⟩ ?_
          refine x_isub dX1_mostToday_78 (nrm_id (by omega) (by omega)) ?_
          refine x_iand dX1_mostToday_79 (v := lsb (q : Int)) rfl ?_
          refine x_iald dX1_mostToday_80 rfl (by omega) (by omega) (v := tkn V (lsb (q : Int))) hls ?_
          refine x_aload0 dX1_mostToday_81 ?_
          refine x_getR (q := 51) dX1_mostToday_82 fd_X1_22 rfl rfl rfl ?_
          refine x_iload5 dX1_mostToday_85 ?_
          refine x_calls1 dX1_mostToday_87 cv_X1_89 cs_J6_numberOfTrailingZeros_0f7a4 (by omega) (Nat.le_of_ble_eq_true rfl) (s_ntz (q := (q : Int)) (by omega) (by omega)) (fun r m3 hq2 => ?_)
          obtain ⟨rfl, rfl⟩ := hq2
          show Ex _ _ _ _ _ _ _ _ [zi (tzn (q : Int)), zr 51, zi (tkn V (lsb (q : Int))), zi (q : Int), zr 52] _
          have htz2 := htz.1
          have e52 : up m3 52 (q : Int).toNat (tkn V (q : Int)) 52 (q : Int).toNat = tkn V (q : Int) := up_same _ _ _ _
          have e48' : up m3 52 (q : Int).toNat (tkn V (q : Int)) 48 = m3 48 := up_cell (by decide)
          refine x_iald dX1_mostToday_90 rfl (by omega) (by omega) (v := eggs V (tzn (q : Int))) (by rw [e51]; exact hH _ htz2.1 htl) ?_
          refine x_iadd dX1_mostToday_91 (v := tkn V (q : Int)) (by rw [← hsum]; exact nrm_id (by omega) (by omega)) ?_
          refine x_iast dX1_mostToday_92 rfl (by omega) (by omega) ?_
          refine x_aload0 dX1_mostToday_93 ?_
          refine x_getR (q := 52) dX1_mostToday_94 fd_X1_25 rfl rfl rfl ?_
          refine x_iload5 dX1_mostToday_97 ?_
          refine x_iald dX1_mostToday_99 rfl (by omega) (by omega) e52 ?_
          refine x_iload3 dX1_mostToday_100 ?_
          have hS2 : ∀ (m4 : zz_M), m4 52 = up m3 52 (q : Int).toNat (tkn V (q : Int)) 52 → ∀ p ∈ pre ++ [q], m4 52 p = tkn V (p : Int) := by
            intro m4 h4 p hpm
            rw [h4]
            rcases List.mem_append.mp hpm with g | g
            · have := hsrt.2.2 p g q List.mem_cons_self
              rw [upn (by omega)]
              exact hS p g
            · rw [List.mem_singleton.mp g]
              exact e52
          have hF2 : ∀ k, k ≠ 48 → k ≠ 52 → up m3 52 (q : Int).toNat (tkn V (q : Int)) k = m1 k := fun k c d => (up_cell d).trans (hF k c d)
          have hp2 : (pre ++ [q]) ++ post = ast V (ase V) := by rw [List.append_assoc]; exact hp
          have hl2 : ((pre ++ [q]).length : Int) = (pre.length : Int) + 1 := by rw [List.length_append]; rfl
          refine x_icmp_le (tgt := 119) dX1_mostToday_101 rfl (fun h5 => ?_) (fun h5 => ?_)
          · refine x_iinc4 dX1_mostToday_119 (by decide) rfl (nrm_id (by omega) (by omega)) ?_
            refine x_goto (tgt := 45) dX1_mostToday_122 rfl ?_
            refine Ex.eq (by rw [hl2]) rfl rfl (ih (pre ++ [q]) _ a _ hp2 (List.mem_append_left _ h0) ?_ ha (hS2 _ rfl) hF2 (by rw [e48']; exact hc4) (by rw [e48']; exact hc5))
            rw [← hbs, bsf]
            rw [if_neg (by omega)]
          · refine x_aload0 dX1_mostToday_104 ?_
            refine x_getR (q := 52) dX1_mostToday_105 fd_X1_25 rfl rfl rfl ?_
            refine x_iload5 dX1_mostToday_108 ?_
            refine x_iald dX1_mostToday_110 rfl (by omega) (by omega) e52 ?_
            refine x_istore3 dX1_mostToday_111 (by decide) rfl ?_
            refine x_aload0 dX1_mostToday_112 ?_
            refine x_iload1 dX1_mostToday_113 ?_
            refine x_iload5 dX1_mostToday_114 ?_
            refine x_callv2 dX1_mostToday_116 cv_X1_79 ci_X1_noteFirst rfl (T := TX1) rfl (by omega) (Nat.le_of_ble_eq_true rfl) (s_noteFirst (dp := dp) (q := (q : Int))) (fun r m4 hq2 => ?_)
            obtain ⟨rfl, rfl⟩ := hq2
            show Ex _ _ _ _ _ _ _ _ [] _
            refine x_iinc4 dX1_mostToday_119 (by decide) rfl (nrm_id (by omega) (by omega)) ?_
            refine x_goto (tgt := 45) dX1_mostToday_122 rfl ?_
            have hbs2 : bsf (fun q => tkn V (q : Int) + 0) post (tkn V (q : Int), (q : Int)) = pfv 1 V := by
              rw [← hbs, bsf]
              rw [if_pos (by omega), Int.add_zero]
            by_cases hd : (dp : Int) = 0
            · have hd2 : dp = 0 := by omega
              rw [if_pos hd]
              refine Ex.eq (by rw [hl2]) rfl rfl (ih (pre ++ [q]) _ (tkn V (q : Int), (q : Int)) _ hp2 (List.mem_append_left _ h0) hbs2 hb3 (hS2 _ (up_cell (by decide))) (fun k c d => (up_cell c).trans (hF2 k c d)) ?_ ?_)
              · rw [upn (by decide), e48']; exact hc4
              · rw [up_same, if_pos hd2]
            · have hd2 : ¬ dp = 0 := by omega
              rw [if_neg hd]
              rw [if_neg hd2] at hc5
              exact Ex.eq (by rw [hl2]) rfl rfl (ih (pre ++ [q]) _ (tkn V (q : Int), (q : Int)) _ hp2 (List.mem_append_left _ h0) hbs2 hb3 (hS2 _ rfl) hF2 (by rw [e48']; exact hc4) (by rw [e48', if_neg hd2]; exact hc5))
    have hp0 : [0] ++ l1 = ast V (ase V) := hl1.symm
    by_cases hd : (dp : Int) = 0
    · have hd2 : dp = 0 := by omega
      rw [if_pos hd]
      refine loop l1 [0] _ (0, 0) _ hp0 List.mem_cons_self hpf.symm (by decide) (fun p hp => ?_) (fun k c d => up_cell c) ?_ ?_
      · rw [List.mem_singleton.mp hp, up_cell (by decide), hF1 52 (by decide), h52, show ((0 : Nat) : Int) = 0 from rfl, tkn0 hn]
      · rw [upn (by decide), e48]
      · rw [up_same, if_pos hd2]
    · have hd2 : ¬ dp = 0 := by omega
      rw [if_neg hd]
      refine loop l1 [0] m1 (0, 0) _ hp0 List.mem_cons_self hpf.symm (by decide) (fun p hp => ?_) (fun k c d => rfl) (by rw [e48]) (by rw [if_neg hd2, e48])
      rw [List.mem_singleton.mp hp, hF1 52 (by decide), h52, show ((0 : Nat) : Int) = 0 from rfl, tkn0 hn]
  have heaps : ∀ (k j : Nat) (m1 : zz_M), (j : Int) + k = V 0 0 → (∀ k, k ≠ 51 → m1 k = m k) → (∀ z : Int, 0 ≤ z → z < j → m1 51 z.toNat = eggs V z) → Ex E cX1_mostToday 6 RX1 3 (fun r m' => r = some (zi (pfv 1 V).1) ∧ YP m' b V ∧ PQ m m' (b + 8) dp (pfv 1 V).2 ∧ ∀ k, k < 48 → m' k = m k) 9 [some (zr 48), some (zi dp), some (zr b), some (zi j), none, none] [] m1 := by
    intro k
    induction k with
    | zero =>
      intro j m1 hj hF1 hH
      have hb48 := hb.2
      have hY1 : YP m1 b V := hY.kept (fun k c d => hF1 k (by omega))
      refine x_iload3 dX1_mostToday_9 ?_
      refine x_aload2 dX1_mostToday_10 ?_
      refine x_getI dX1_mostToday_11 fd_X1_28 (by first | rfl | exact yb_k (by assumption)) (Or.inl rfl) (v := V 0 0) hY1.nests ?_
      refine x_icmp_ge (tgt := 34) dX1_mostToday_14 rfl (fun hc => ?_) (fun hc => ?_)
      · exact sums m1 hF1 (fun z c d => hH z c (by omega)) _
      · omega
    | succ k ih =>
      intro j m1 hj hF1 hH
      have hb48 := hb.2
      have hY1 : YP m1 b V := hY.kept (fun k c d => hF1 k (by omega))
      refine x_iload3 dX1_mostToday_9 ?_
      refine x_aload2 dX1_mostToday_10 ?_
      refine x_getI dX1_mostToday_11 fd_X1_28 (by first | rfl | exact yb_k (by assumption)) (Or.inl rfl) (v := V 0 0) hY1.nests ?_
      refine x_icmp_ge (tgt := 34) dX1_mostToday_14 rfl (fun hc => ?_) (fun hc => ?_)
      · omega
      · refine x_aload0 dX1_mostToday_17 ?_
        refine x_getR (q := 51) dX1_mostToday_18 fd_X1_22 rfl rfl rfl ?_
        refine x_iload3 dX1_mostToday_21 ?_
        refine x_aload2 dX1_mostToday_22 ?_
        refine x_iload3 dX1_mostToday_23 ?_
        refine x_callv1 dX1_mostToday_24 cv_X1_86 ci_X2_eggsAt (by first | rfl | exact yb_k (by assumption)) (T := TX2) rfl (by omega) (Nat.le_of_ble_eq_true rfl) (s_eggsAt hb hY1 he (n := j) (by omega) (by omega)) (fun r m2 hq => ?_)
        obtain ⟨rfl, rfl⟩ := hq
        show Ex _ _ _ _ _ _ _ _ [zi (eggs V j), zi j, zr 51] _
        refine x_iast dX1_mostToday_27 rfl (by omega) (by omega) ?_
        refine x_iinc3 dX1_mostToday_28 (by decide) rfl (nrm_id (by omega) (by omega)) ?_
        refine x_goto (tgt := 9) dX1_mostToday_31 rfl ?_
        refine Ex.eq (by rw [show (j : Int) + 1 = ((j + 1 : Nat) : Int) by omega]) rfl rfl (ih (j + 1) _ (by omega) (fun k c => (up_cell c).trans (hF1 k c)) (fun z c d => ?_))
        unfold up
        by_cases hz : z = j
        · subst hz; simp
        · rw [if_neg (by omega)]
          exact hH z c (by omega)
  exact heaps (V 0 0).toNat 0 m (by omega) (fun _ _ => rfl) (fun z c d => by omega)
end PL4
