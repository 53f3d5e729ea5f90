/-! ===== the reference's memory: what carry carries, place by place ===== -/
def cl (j : Nat) : Nat := if j < 10 then 59 else if j < 38 then 60 + (j - 10) % 4 else 64
def sl (j : Nat) : Nat := if j < 10 then j else if j < 38 then (j - 10) / 4 else j - 38
def vf (j : Nat) : Int := ([0, 6, 7, 8, 9, 1, 2, 3, 4, 5] : List Int).getD j 0
def vv (V : zz_W) (j : Nat) : Int := if j < 10 then V 0 (vf j) else if j < 38 then V (1 + (j - 10) % 4) (((j - 10) / 4 : Nat) : Int) else V 5 ((j - 38 : Nat) : Int)
def MP (m : zz_M) (V : zz_W) : Prop := ∀ j, j < 108 → m (cl j) (sl j) = vv V j
def SP (m : zz_M) (k : Nat) (V : zz_W) : Prop := ∀ j, j < 108 → m k j = vv V j
theorem cf_ex (j : Nat) : (j < 10 ∧ cl j = 59 ∧ sl j = j) ∨ (10 ≤ j ∧ j < 38 ∧ cl j = 60 + (j - 10) % 4 ∧ sl j = (j - 10) / 4) ∨ (38 ≤ j ∧ cl j = 64 ∧ sl j = j - 38) := by
  by_cases h : j < 10
  · exact Or.inl ⟨h, if_pos h, if_pos h⟩
  · by_cases h2 : j < 38
    · exact Or.inr (Or.inl ⟨by omega, h2, by rw [cl, if_neg h, if_pos h2], by rw [sl, if_neg h, if_pos h2]⟩)
    · exact Or.inr (Or.inr ⟨by omega, by rw [cl, if_neg h, if_neg h2], by rw [sl, if_neg h, if_neg h2]⟩)
theorem cf_inj {i j : Nat} (h1 : cl i = cl j) (h2 : sl i = sl j) : i = j := by
  rcases cf_ex i with ⟨a, b, e⟩ | ⟨a, a2, b, e⟩ | ⟨a, b, e⟩ <;> rcases cf_ex j with ⟨a', b', e'⟩ | ⟨a', a2', b', e'⟩ | ⟨a', b', e'⟩ <;> rw [b, b'] at h1 <;> rw [e, e'] at h2 <;> omega
theorem cl_bd (j : Nat) : 59 ≤ cl j ∧ cl j ≤ 64 ∧ (cl j = 59 → sl j < 10) := by
  unfold cl sl
  by_cases h : j < 10
  · rw [if_pos h, if_pos h]; omega
  · rw [if_neg h, if_neg h]
    by_cases h2 : j < 38
    · rw [if_pos h2, if_pos h2]; omega
    · rw [if_neg h2, if_neg h2]; omega
theorem cl_arr {a : Nat} (ha : a < 4) {n : Nat} (hn : n < 7) : cl (10 + 4 * n + a) = 60 + a ∧ sl (10 + 4 * n + a) = n := by
  unfold cl sl
  rw [if_neg (by omega), if_pos (by omega), if_neg (by omega), if_pos (by omega)]
  omega
theorem cl_egg (n : Nat) : cl (38 + n) = 64 ∧ sl (38 + n) = n := by
  unfold cl sl
  rw [if_neg (by omega), if_neg (by omega), if_neg (by omega), if_neg (by omega)]
  omega
theorem vv_arr (V : zz_W) {a : Nat} (ha : a < 4) {n : Nat} (hn : n < 7) : vv V (10 + 4 * n + a) = V (1 + a) (n : Int) := by
  unfold vv
  rw [if_neg (by omega), if_pos (by omega), show (10 + 4 * n + a - 10) % 4 = a by omega, show (10 + 4 * n + a - 10) / 4 = n by omega]
theorem vv_egg (V : zz_W) (n : Nat) : vv V (38 + n) = V 5 (n : Int) := by
  unfold vv
  rw [if_neg (by omega), if_neg (by omega), show 38 + n - 38 = n by omega]
theorem vv_f (V : zz_W) {j : Nat} (hj : j < 10) : vv V j = V 0 (vf j) := if_pos hj
theorem j_cases {j : Nat} (hj : j < 108) : j < 10 ∨ (∃ n a, a < 4 ∧ n < 7 ∧ j = 10 + 4 * n + a) ∨ ∃ n, n < 70 ∧ j = 38 + n := by
  by_cases h : j < 10
  · exact Or.inl h
  · by_cases h2 : j < 38
    · exact Or.inr (Or.inl ⟨(j - 10) / 4, (j - 10) % 4, by omega, by omega, by omega⟩)
    · exact Or.inr (Or.inr ⟨j - 38, by omega, by omega⟩)
section RM1
variable {E : zz_E} {m : zz_M} {V : zz_W} {D : Int}
theorem MP.nests (h : MP m V) : m 59 0 = V 0 0 := h 0 (by decide)
theorem MP.kind (h : MP m V) : m 59 1 = V 0 6 := h 1 (by decide)
theorem MP.figure (h : MP m V) : m 59 2 = V 0 7 := h 2 (by decide)
theorem MP.time (h : MP m V) : m 59 3 = V 0 8 := h 3 (by decide)
theorem MP.rat (h : MP m V) : m 59 4 = V 0 9 := h 4 (by decide)
theorem MP.last (h : MP m V) : m 59 5 = V 0 1 := h 5 (by decide)
theorem MP.looked (h : MP m V) : m 59 6 = V 0 2 := h 6 (by decide)
theorem MP.before (h : MP m V) : m 59 7 = V 0 3 := h 7 (by decide)
theorem MP.day (h : MP m V) : m 59 8 = V 0 4 := h 8 (by decide)
theorem MP.found (h : MP m V) : m 59 9 = V 0 5 := h 9 (by decide)
theorem MP.arr (h : MP m V) {a : Nat} (ha : a < 4) {z : Int} (h0 : 0 ≤ z) (h1 : z < 7) : m (60 + a) z.toNat = V (1 + a) z := by
  have g := h (10 + 4 * z.toNat + a) (by omega)
  have e := cl_arr ha (n := z.toNat) (by omega)
  rw [e.1, e.2, vv_arr V ha (by omega), nat_of h0] at g
  exact g
theorem MP.x (h : MP m V) {z : Int} (h0 : 0 ≤ z) (h1 : z < 7) : m 60 z.toNat = V 1 z := h.arr (a := 0) (by decide) h0 h1
theorem MP.y (h : MP m V) {z : Int} (h0 : 0 ≤ z) (h1 : z < 7) : m 61 z.toNat = V 2 z := h.arr (a := 1) (by decide) h0 h1
theorem MP.min (h : MP m V) {z : Int} (h0 : 0 ≤ z) (h1 : z < 7) : m 62 z.toNat = V 3 z := h.arr (a := 2) (by decide) h0 h1
theorem MP.lik (h : MP m V) {z : Int} (h0 : 0 ≤ z) (h1 : z < 7) : m 63 z.toNat = V 4 z := h.arr (a := 3) (by decide) h0 h1
theorem MP.egg (h : MP m V) {z : Int} (h0 : 0 ≤ z) (h1 : z < 70) : m 64 z.toNat = V 5 z := by
  have g := h (38 + z.toNat) (by omega)
  rw [(cl_egg _).1, (cl_egg _).2, vv_egg, nat_of h0] at g
  exact g
theorem MP.mk (hf : ∀ j, j < 10 → m 59 j = V 0 (vf j)) (ha : ∀ (a n : Nat), a < 4 → n < 7 → m (60 + a) n = V (1 + a) (n : Int)) (he : ∀ n : Nat, n < 70 → m 64 n = V 5 (n : Int)) : MP m V := by
  intro j hj
  rcases j_cases hj with h | ⟨n, a, h1, h2, rfl⟩ | ⟨n, h1, rfl⟩
  · rw [vv_f V h, show cl j = 59 from if_pos h, show sl j = j from if_pos h]
    exact hf j h
  · rw [vv_arr V h1 h2, (cl_arr h1 h2).1, (cl_arr h1 h2).2]
    exact ha a n h1 h2
  · rw [vv_egg, (cl_egg n).1, (cl_egg n).2]
    exact he n h1
theorem MP.upd {j : Nat} {x : Int} {V' : zz_W} (h : MP m V) (h1 : vv V' j = x) (h2 : ∀ i, i < 108 → i ≠ j → vv V' i = vv V i) : MP (up m (cl j) (sl j) x) V' := by
  intro i hi
  by_cases hij : i = j
  · subst hij
    rw [up_same, h1]
  · rw [h2 i hi hij, ← h i hi]
    exact if_neg (fun q => hij (cf_inj q.1 q.2))
theorem vf_inj : ∀ i j : Fin 10, vf i.val = vf j.val → i = j := by decide
theorem MP.f (h : MP m V) {j : Nat} (hj : j < 10) {x : Int} : MP (up m 59 j x) (ux V 0 (vf j) x) := by
  have e1 : cl j = 59 := if_pos hj
  have e2 : sl j = j := if_pos hj
  have g := h.upd (j := j) (x := x) (V' := ux V 0 (vf j) x) (by rw [vv_f _ hj]; exact if_pos ⟨rfl, rfl⟩) (fun i hi hij => by
    by_cases h10 : i < 10
    · rw [vv_f _ h10, vv_f _ h10]
      exact if_neg (fun q => hij (by have := vf_inj ⟨i, h10⟩ ⟨j, hj⟩ q.2; exact Fin.mk.inj_iff.mp this))
    · unfold vv
      rw [if_neg h10, if_neg h10]
      split
      · exact if_neg (fun q => by have := q.1; omega)
      · exact if_neg (fun q => by have := q.1; omega))
  rw [e1, e2] at g
  exact g
theorem MP.arrup (h : MP m V) {a : Nat} (ha : a < 4) {z x : Int} (h0 : 0 ≤ z) (h1 : z < 7) : MP (up m (60 + a) z.toNat x) (ux V (1 + a) z x) := by
  have e := cl_arr ha (n := z.toNat) (by omega)
  have g := h.upd (j := 10 + 4 * z.toNat + a) (x := x) (V' := ux V (1 + a) z x) (by rw [vv_arr _ ha (by omega), nat_of h0]; exact if_pos ⟨rfl, rfl⟩) (fun i hi hij => by
    rcases j_cases hi with q | ⟨n, b, q1, q2, rfl⟩ | ⟨n, q1, rfl⟩
    · rw [vv_f _ q, vv_f _ q]
      exact if_neg (fun q => by have := q.1; omega)
    · rw [vv_arr _ q1 q2, vv_arr _ q1 q2]
      exact if_neg (fun q => hij (by have := q.1; have := q.2; omega))
    · rw [vv_egg, vv_egg]
      exact if_neg (fun q => by have := q.1; omega))
  rw [e.1, e.2] at g
  exact g
theorem MP.eggup (h : MP m V) {z x : Int} (h0 : 0 ≤ z) : MP (up m 64 z.toNat x) (ux V 5 z x) := by
  have g := h.upd (j := 38 + z.toNat) (x := x) (V' := ux V 5 z x) (by rw [vv_egg, nat_of h0]; exact if_pos ⟨rfl, rfl⟩) (fun i hi hij => by
    rcases j_cases hi with q | ⟨n, b, q1, q2, rfl⟩ | ⟨n, q1, rfl⟩
    · rw [vv_f _ q, vv_f _ q]
      exact if_neg (fun q => by have := q.1; omega)
    · rw [vv_arr _ q1 q2, vv_arr _ q1 q2]
      exact if_neg (fun q => by have := q.1; omega)
    · rw [vv_egg, vv_egg]
      exact if_neg (fun q => hij (by have := q.2; omega)))
  rw [(cl_egg _).1, (cl_egg _).2] at g
  exact g
theorem MP.keep {m' : zz_M} (h : MP m V) (h1 : ∀ s, s < 10 → m' 59 s = m 59 s) (h2 : ∀ k, 60 ≤ k → k ≤ 64 → m' k = m k) : MP m' V := by
  intro j hj
  rw [← h j hj]
  have hb := cl_bd j
  by_cases h59 : cl j = 59
  · rw [h59]
    exact h1 _ (hb.2.2 h59)
  · rw [h2 _ (by omega) (by omega)]
theorem MP.cg {V' : zz_W} (h : MP m V) (e : ∀ a z, V a z = V' a z) : MP m V' := by
  have : V = V' := by funext a z; exact e a z
  rw [← this]
  exact h
/-- carrying, at place j, into or out of array k -/
def CI (k : Nat) (t : Int) (m m2 : zz_M) (j : Nat) : Prop := m2 59 25 = (j : Int) ∧ m2 59 26 = t ∧ m2 59 27 = (k : Int) ∧
  (t = 1 → (∀ i, i < j → m2 k i = m (cl i) (sl i)) ∧ ∀ q s, q ≠ k → ¬ (q = 59 ∧ 25 ≤ s ∧ s ≤ 27) → m2 q s = m q s) ∧
  (t = 0 → (∀ i, i < j → m2 (cl i) (sl i) = m k i) ∧ ∀ q s, (∀ i, i < j → ¬ (q = cl i ∧ s = sl i)) → ¬ (q = 59 ∧ 25 ≤ s ∧ s ≤ 27) → m2 q s = m q s)
theorem CI.st1 {k j : Nat} {m0 : zz_M} (hk : 67 ≤ k) (h : CI k 1 m0 m j) : CI k 1 m0 (up (up (up m k j (m (cl j) (sl j))) 59 25 ((j : Int) + 1)) (cl j) (sl j) (m (cl j) (sl j))) (j + 1) := by
  obtain ⟨h1, h2, h3, h4, -⟩ := h
  obtain ⟨g1, g2⟩ := h4 rfl
  have hb := cl_bd j
  have hcf : m (cl j) (sl j) = m0 (cl j) (sl j) := g2 _ _ (by omega) (by omega)
  have nf : ∀ s : Nat, 10 ≤ s → ¬ (59 = cl j ∧ s = sl j) := fun s hs q => by have := hb.2.2 q.1.symm; omega
  refine ⟨?_, ?_, ?_, fun _ => ⟨fun i hi => ?_, fun q s hq hs => ?_⟩, fun h => absurd h (by decide)⟩
  · unfold up
    rw [if_neg (nf 25 (by decide)), if_pos ⟨rfl, rfl⟩]
    push_cast
    rfl
  · unfold up
    rw [if_neg (nf 26 (by decide)), if_neg (by omega), if_neg (by omega)]
    exact h2
  · unfold up
    rw [if_neg (nf 27 (by decide)), if_neg (by omega), if_neg (by omega)]
    exact h3
  · unfold up
    rw [if_neg (by omega), if_neg (by omega)]
    by_cases hij : i = j
    · subst hij
      rw [if_pos ⟨rfl, rfl⟩, hcf]
    · rw [if_neg (by omega)]
      exact g1 i (by omega)
  · unfold up
    by_cases hc : q = cl j ∧ s = sl j
    · rw [if_pos hc, hcf, hc.1, hc.2]
    · rw [if_neg hc, if_neg (by omega), if_neg (fun w => hq w.1)]
      exact g2 q s hq hs
theorem CI.st0 {k j : Nat} {m0 : zz_M} (hk : 67 ≤ k) (h : CI k 0 m0 m j) : CI k 0 m0 (up (up m 59 25 ((j : Int) + 1)) (cl j) (sl j) (m k j)) (j + 1) := by
  obtain ⟨h1, h2, h3, -, h4⟩ := h
  obtain ⟨g1, g2⟩ := h4 rfl
  have hb := cl_bd j
  have hcf : m k j = m0 k j := g2 _ _ (fun i hi q => by have := cl_bd i; omega) (by omega)
  have nf : ∀ (i s : Nat), 10 ≤ s → ¬ (59 = cl i ∧ s = sl i) := fun i s hs q => by have := (cl_bd i).2.2 q.1.symm; omega
  refine ⟨?_, ?_, ?_, fun h => absurd h (by decide), fun _ => ⟨fun i hi => ?_, fun q s hq hs => ?_⟩⟩
  · unfold up
    rw [if_neg (nf j 25 (by decide)), if_pos ⟨rfl, rfl⟩]
    push_cast
    rfl
  · unfold up
    rw [if_neg (nf j 26 (by decide)), if_neg (by omega)]
    exact h2
  · unfold up
    rw [if_neg (nf j 27 (by decide)), if_neg (by omega)]
    exact h3
  · unfold up
    by_cases hij : i = j
    · subst hij
      rw [if_pos ⟨rfl, rfl⟩, hcf]
    · rw [if_neg (fun w => hij (cf_inj w.1 w.2)), if_neg (fun w => nf i 25 (by decide) ⟨w.1.symm, w.2.symm⟩)]
      exact g1 i (by omega)
  · unfold up
    rw [if_neg (hq j (by omega)), if_neg (by omega)]
    exact g2 q s (fun i hi => hq i (by omega)) hs
theorem CI.z {k : Nat} {t : Int} : CI k t m (up (up (up m 59 27 (k : Int)) 59 26 t) 59 25 0) 0 := by
  have e : ∀ q s : Nat, ¬ (q = 59 ∧ 25 ≤ s ∧ s ≤ 27) → up (up (up m 59 27 (k : Int)) 59 26 t) 59 25 0 q s = m q s := by
    intro q s h
    unfold up
    rw [if_neg (by omega), if_neg (by omega), if_neg (by omega)]
  exact ⟨rfl, rfl, rfl, fun _ => ⟨fun i hi => by omega, fun q s _ h => e q s h⟩, fun _ => ⟨fun i hi => by omega, fun q s _ h => e q s h⟩⟩
theorem t_carry {k j : Nat} {t : Int} {m0 : zz_M} {q s : Nat} (hk : kd k = (0, 108)) (hk67 : 67 ≤ k) (h : CI k t m0 m j) (hj : j < 108) (ht : t = 0 ∨ t = 1) (e1 : cl j = q) (e2 : sl j = s) : Mt E 1 yX4_carry cX4_carry 2 (some .int) [zr 59, zi (m q s)] m (fun r m' => ∃ x, r = some (zi x) ∧ CI k t m0 (up m' q s x) (j + 1)) := by
  subst e1 e2
  refine Mt.of 0 (by decide +kernel) (Nat.le_of_ble_eq_true rfl) (Or.inl rfl) ?_ ?_
  · rintro r m' ⟨x, rfl, -⟩; simp
  show Ex E cX4_carry 2 RX4 1 _ 0 [some (zr 59), some (zi (m (cl j) (sl j)))] [] m
  rcases ht with rfl | rfl
  · have hs := h.st0 hk67
    refine x_aload0 dX4_carry_0 ?_
    refine x_getI dX4_carry_1 fd_X4_127 rfl (Or.inr rfl) (v := 0) h.2.1 ?_
    refine x_if_eq (tgt := 17) dX4_carry_4 rfl (fun c1 => ?_) (fun c1 => ?_)
    · refine x_aload0 dX4_carry_17 ?_
      refine x_dupr dX4_carry_18 ?_
      refine x_getI dX4_carry_19 fd_X4_134 rfl (Or.inl rfl) (v := (j : Int)) h.1 ?_
      refine x_iconst dX4_carry_22 ⟨by decide, by decide⟩ ?_
      refine x_iadd dX4_carry_23 (nrm_id (by omega) (by omega)) ?_
      refine x_putI dX4_carry_24 fd_X4_134 rfl rfl ?_
      refine x_aload0 dX4_carry_27 ?_
      refine x_getD dX4_carry_28 fd_X4_131 rfl rfl (q := k) (by rw [upn (by decide)]; exact h.2.2.1) ?_
      refine x_aload0 dX4_carry_31 ?_
      refine x_getI dX4_carry_32 fd_X4_134 rfl (Or.inl rfl) (v := (j : Int) + 1) (up_same _ _ _ _) ?_
      refine x_iconst dX4_carry_35 ⟨by decide, by decide⟩ ?_
      refine x_isub dX4_carry_36 (nrm_id (by omega) (by omega)) ?_
      refine x_iald dX4_carry_37 (by first | rfl | assumption) (by omega) (by omega) (v := m k j) (by rw [up_cell (by omega), show ((j : Int) + 1 - 1).toNat = j by omega]) ?_
      exact xe_i dX4_carry_38 (⟨_, rfl, hs⟩)
    · omega
  · have hs := h.st1 hk67
    refine x_aload0 dX4_carry_0 ?_
    refine x_getI dX4_carry_1 fd_X4_127 rfl (Or.inr rfl) (v := 1) h.2.1 ?_
    refine x_if_eq (tgt := 17) dX4_carry_4 rfl (fun c1 => ?_) (fun c1 => ?_)
    · omega
    · refine x_aload0 dX4_carry_7 ?_
      refine x_getD dX4_carry_8 fd_X4_131 rfl rfl (q := k) h.2.2.1 ?_
      refine x_aload0 dX4_carry_11 ?_
      refine x_getI dX4_carry_12 fd_X4_134 rfl (Or.inl rfl) (v := (j : Int)) h.1 ?_
      refine x_iload1 dX4_carry_15 ?_
      refine x_iast dX4_carry_16 (by first | rfl | assumption) (by omega) (by omega) ?_
      refine x_aload0 dX4_carry_17 ?_
      refine x_dupr dX4_carry_18 ?_
      refine x_getI dX4_carry_19 fd_X4_134 rfl (Or.inl rfl) (v := (j : Int)) (by rw [up_cell (by omega)]; exact h.1) ?_
      refine x_iconst dX4_carry_22 ⟨by decide, by decide⟩ ?_
      refine x_iadd dX4_carry_23 (nrm_id (by omega) (by omega)) ?_
      refine x_putI dX4_carry_24 fd_X4_134 rfl rfl ?_
      refine x_aload0 dX4_carry_27 ?_
      refine x_getD dX4_carry_28 fd_X4_131 rfl rfl (q := k) (by rw [upn (by decide), up_cell (by omega)]; exact h.2.2.1) ?_
      refine x_aload0 dX4_carry_31 ?_
      refine x_getI dX4_carry_32 fd_X4_134 rfl (Or.inl rfl) (v := (j : Int) + 1) (up_same _ _ _ _) ?_
      refine x_iconst dX4_carry_35 ⟨by decide, by decide⟩ ?_
      refine x_isub dX4_carry_36 (nrm_id (by omega) (by omega)) ?_
      refine x_iald dX4_carry_37 (by first | rfl | assumption) (by omega) (by omega) (v := m (cl j) (sl j)) (by rw [up_cell (by omega), show ((j : Int) + 1 - 1).toNat = (j : Int).toNat by omega, up_same]) ?_
      exact xe_i dX4_carry_38 (⟨_, rfl, hs⟩)
theorem t_carryAll {k : Nat} {t : Int} (hk : kd k = (0, 108)) (hk67 : 67 ≤ k) (ht : t = 0 ∨ t = 1) : Mt E 2 yX4_carryAll cX4_carryAll 4 none [zr 59, zr k, zi t] m (fun r m' => r = none ∧ CI k t m m' 108) := by
  refine Mt.of 1 (by decide +kernel) (Nat.le_of_ble_eq_true rfl) (Or.inr (Or.inr (Or.inr rfl))) ?_ ?_
  · rintro r m' ⟨rfl, -⟩; simp
  show Ex E cX4_carryAll 4 RX4 2 _ 0 [some (zr 59), some (zr k), some (zi t), none] [] m
  refine x_aload0 dX4_carryAll_0 ?_
  refine x_aload1 dX4_carryAll_1 ?_
  refine x_putD dX4_carryAll_2 fd_X4_131 rfl rfl hk ?_
  refine x_aload0 dX4_carryAll_5 ?_
  refine x_iload2 dX4_carryAll_6 ?_
  refine x_putZ dX4_carryAll_7 fd_X4_127 rfl rfl ht ?_
  refine x_aload0 dX4_carryAll_10 ?_
  refine x_iconst dX4_carryAll_11 ⟨by decide, by decide⟩ ?_
  refine x_putI dX4_carryAll_12 fd_X4_134 rfl rfl ?_
  have h0 : CI k t m (up (up (up m 59 27 (k : Int)) 59 26 t) 59 25 0) 0 := CI.z
  generalize up (up (up m 59 27 (k : Int)) 59 26 t) 59 25 0 = m1 at h0
  refine x_aload0 dX4_carryAll_15 ?_
  refine x_aload0 dX4_carryAll_16 ?_
  refine x_aload0 dX4_carryAll_17 ?_
  refine x_getI dX4_carryAll_18 fd_X4_77 rfl (Or.inl rfl) rfl ?_
  refine x_callv1 dX4_carryAll_21 cv_X4_137 ci_X4_carry rfl (T := TX4) rfl (by omega) (Nat.le_of_ble_eq_true rfl) (t_carry hk hk67 h0 (by omega) ht (q := 59) (s := 0) rfl rfl) (fun r m1 hq => ?_)
  obtain ⟨x0, rfl, h1⟩ := hq
  show Ex _ _ _ _ _ _ _ _ [zi x0, zr 59] _
  refine x_putI dX4_carryAll_24 fd_X4_77 rfl rfl ?_
  refine x_aload0 dX4_carryAll_27 ?_
  refine x_aload0 dX4_carryAll_28 ?_
  refine x_aload0 dX4_carryAll_29 ?_
  refine x_getI dX4_carryAll_30 fd_X4_95 rfl (Or.inl rfl) rfl ?_
  refine x_callv1 dX4_carryAll_33 cv_X4_137 ci_X4_carry rfl (T := TX4) rfl (by omega) (Nat.le_of_ble_eq_true rfl) (t_carry hk hk67 h1 (by omega) ht (q := 59) (s := 1) rfl rfl) (fun r m1 hq => ?_)
  obtain ⟨x1, rfl, h2⟩ := hq
  show Ex _ _ _ _ _ _ _ _ [zi x1, zr 59] _
  refine x_putI dX4_carryAll_36 fd_X4_95 rfl rfl ?_
  refine x_aload0 dX4_carryAll_39 ?_
  refine x_aload0 dX4_carryAll_40 ?_
  refine x_aload0 dX4_carryAll_41 ?_
  refine x_getI dX4_carryAll_42 fd_X4_98 rfl (Or.inl rfl) rfl ?_
  refine x_callv1 dX4_carryAll_45 cv_X4_137 ci_X4_carry rfl (T := TX4) rfl (by omega) (Nat.le_of_ble_eq_true rfl) (t_carry hk hk67 h2 (by omega) ht (q := 59) (s := 2) rfl rfl) (fun r m1 hq => ?_)
  obtain ⟨x2, rfl, h3⟩ := hq
  show Ex _ _ _ _ _ _ _ _ [zi x2, zr 59] _
  refine x_putI dX4_carryAll_48 fd_X4_98 rfl rfl ?_
  refine x_aload0 dX4_carryAll_51 ?_
  refine x_aload0 dX4_carryAll_52 ?_
  refine x_aload0 dX4_carryAll_53 ?_
  refine x_getI dX4_carryAll_54 fd_X4_7 rfl (Or.inl rfl) rfl ?_
  refine x_callv1 dX4_carryAll_57 cv_X4_137 ci_X4_carry rfl (T := TX4) rfl (by omega) (Nat.le_of_ble_eq_true rfl) (t_carry hk hk67 h3 (by omega) ht (q := 59) (s := 3) rfl rfl) (fun r m1 hq => ?_)
  obtain ⟨x3, rfl, h4⟩ := hq
  show Ex _ _ _ _ _ _ _ _ [zi x3, zr 59] _
  refine x_putI dX4_carryAll_60 fd_X4_7 rfl rfl ?_
  refine x_aload0 dX4_carryAll_63 ?_
  refine x_aload0 dX4_carryAll_64 ?_
  refine x_aload0 dX4_carryAll_65 ?_
  refine x_getI dX4_carryAll_66 fd_X4_13 rfl (Or.inl rfl) rfl ?_
  refine x_callv1 dX4_carryAll_69 cv_X4_137 ci_X4_carry rfl (T := TX4) rfl (by omega) (Nat.le_of_ble_eq_true rfl) (t_carry hk hk67 h4 (by omega) ht (q := 59) (s := 4) rfl rfl) (fun r m1 hq => ?_)
  obtain ⟨x4, rfl, h5⟩ := hq
  show Ex _ _ _ _ _ _ _ _ [zi x4, zr 59] _
  refine x_putI dX4_carryAll_72 fd_X4_13 rfl rfl ?_
  refine x_aload0 dX4_carryAll_75 ?_
  refine x_aload0 dX4_carryAll_76 ?_
  refine x_aload0 dX4_carryAll_77 ?_
  refine x_getI dX4_carryAll_78 fd_X4_16 rfl (Or.inl rfl) rfl ?_
  refine x_callv1 dX4_carryAll_81 cv_X4_137 ci_X4_carry rfl (T := TX4) rfl (by omega) (Nat.le_of_ble_eq_true rfl) (t_carry hk hk67 h5 (by omega) ht (q := 59) (s := 5) rfl rfl) (fun r m1 hq => ?_)
  obtain ⟨x5, rfl, h6⟩ := hq
  show Ex _ _ _ _ _ _ _ _ [zi x5, zr 59] _
  refine x_putI dX4_carryAll_84 fd_X4_16 rfl rfl ?_
  refine x_aload0 dX4_carryAll_87 ?_
  refine x_aload0 dX4_carryAll_88 ?_
  refine x_aload0 dX4_carryAll_89 ?_
  refine x_getI dX4_carryAll_90 fd_X4_84 rfl (Or.inl rfl) rfl ?_
  refine x_callv1 dX4_carryAll_93 cv_X4_137 ci_X4_carry rfl (T := TX4) rfl (by omega) (Nat.le_of_ble_eq_true rfl) (t_carry hk hk67 h6 (by omega) ht (q := 59) (s := 6) rfl rfl) (fun r m1 hq => ?_)
  obtain ⟨x6, rfl, h7⟩ := hq
  show Ex _ _ _ _ _ _ _ _ [zi x6, zr 59] _
  refine x_putI dX4_carryAll_96 fd_X4_84 rfl rfl ?_
  refine x_aload0 dX4_carryAll_99 ?_
  refine x_aload0 dX4_carryAll_100 ?_
  refine x_aload0 dX4_carryAll_101 ?_
  refine x_getI dX4_carryAll_102 fd_X4_117 rfl (Or.inl rfl) rfl ?_
  refine x_callv1 dX4_carryAll_105 cv_X4_137 ci_X4_carry rfl (T := TX4) rfl (by omega) (Nat.le_of_ble_eq_true rfl) (t_carry hk hk67 h7 (by omega) ht (q := 59) (s := 7) rfl rfl) (fun r m1 hq => ?_)
  obtain ⟨x7, rfl, h8⟩ := hq
  show Ex _ _ _ _ _ _ _ _ [zi x7, zr 59] _
  refine x_putI dX4_carryAll_108 fd_X4_117 rfl rfl ?_
  refine x_aload0 dX4_carryAll_111 ?_
  refine x_aload0 dX4_carryAll_112 ?_
  refine x_aload0 dX4_carryAll_113 ?_
  refine x_getI dX4_carryAll_114 fd_X4_114 rfl (Or.inl rfl) rfl ?_
  refine x_callv1 dX4_carryAll_117 cv_X4_137 ci_X4_carry rfl (T := TX4) rfl (by omega) (Nat.le_of_ble_eq_true rfl) (t_carry hk hk67 h8 (by omega) ht (q := 59) (s := 8) rfl rfl) (fun r m1 hq => ?_)
  obtain ⟨x8, rfl, h9⟩ := hq
  show Ex _ _ _ _ _ _ _ _ [zi x8, zr 59] _
  refine x_putI dX4_carryAll_120 fd_X4_114 rfl rfl ?_
  refine x_aload0 dX4_carryAll_123 ?_
  refine x_aload0 dX4_carryAll_124 ?_
  refine x_aload0 dX4_carryAll_125 ?_
  refine x_getI dX4_carryAll_126 fd_X4_140 rfl (Or.inl rfl) rfl ?_
  refine x_callv1 dX4_carryAll_129 cv_X4_137 ci_X4_carry rfl (T := TX4) rfl (by omega) (Nat.le_of_ble_eq_true rfl) (t_carry hk hk67 h9 (by omega) ht (q := 59) (s := 9) rfl rfl) (fun r m1 hq => ?_)
  obtain ⟨x9, rfl, h10⟩ := hq
  show Ex _ _ _ _ _ _ _ _ [zi x9, zr 59] _
  refine x_putI dX4_carryAll_132 fd_X4_140 rfl rfl ?_
  refine x_iconst dX4_carryAll_135 ⟨by decide, by decide⟩ ?_
  refine x_istore3 dX4_carryAll_136 (by decide) rfl ?_
  have loop2 : ∀ (q n : Nat) (m2 : zz_M), n + q = 70 → CI k t m m2 (38 + n) → Ex E cX4_carryAll 4 RX4 2 (fun r m' => r = none ∧ CI k t m m' 108) 215 [some (zr 59), some (zr k), some (zi t), some (zi (n : Int))] [] m2 := by
    intro q
    induction q with
    | zero =>
      intro n m2 hn h
      refine x_iload3 dX4_carryAll_215 ?_
      refine x_bipush dX4_carryAll_216 ⟨by decide, by decide⟩ ?_
      refine x_icmp_ge (tgt := 243) dX4_carryAll_218 rfl (fun c1 => ?_) (fun c1 => ?_)
      · obtain rfl : n = 70 := by omega
        exact xe_v dX4_carryAll_243 (⟨rfl, h⟩)
      · omega
    | succ q ih =>
      intro n m2 hn h
      refine x_iload3 dX4_carryAll_215 ?_
      refine x_bipush dX4_carryAll_216 ⟨by decide, by decide⟩ ?_
      refine x_icmp_ge (tgt := 243) dX4_carryAll_218 rfl (fun c1 => ?_) (fun c1 => ?_)
      · omega
      · refine x_aload0 dX4_carryAll_221 ?_
        refine x_getR (q := 64) dX4_carryAll_222 fd_X4_32 rfl rfl rfl ?_
        refine x_iload3 dX4_carryAll_225 ?_
        refine x_aload0 dX4_carryAll_226 ?_
        refine x_aload0 dX4_carryAll_227 ?_
        refine x_getR (q := 64) dX4_carryAll_228 fd_X4_32 rfl rfl rfl ?_
        refine x_iload3 dX4_carryAll_231 ?_
        refine x_iald dX4_carryAll_232 rfl (by omega) (by omega) rfl ?_
        refine x_callv1 dX4_carryAll_233 cv_X4_137 ci_X4_carry rfl (T := TX4) rfl (by omega) (Nat.le_of_ble_eq_true rfl) (t_carry hk hk67 h (by omega) ht (q := 64) (s := (n : Int).toNat) (cl_egg n).1 (by rw [(cl_egg n).2]; omega)) (fun r m3 hq => ?_)
        obtain ⟨x, rfl, h1⟩ := hq
        show Ex _ _ _ _ _ _ _ _ [zi x, zi n, zr 64] _
        refine x_iast dX4_carryAll_236 rfl (by omega) (by omega) ?_
        refine x_iinc3 dX4_carryAll_237 (by decide) rfl (nrm_id (by omega) (by omega)) ?_
        refine x_goto (tgt := 215) dX4_carryAll_240 rfl ?_
        exact Ex.eq (by push_cast; rfl) rfl rfl (ih (n + 1) _ (by omega) h1)
  have loop1 : ∀ (q n : Nat) (m2 : zz_M), n + q = 7 → CI k t m m2 (10 + 4 * n) → Ex E cX4_carryAll 4 RX4 2 (fun r m' => r = none ∧ CI k t m m' 108) 137 [some (zr 59), some (zr k), some (zi t), some (zi (n : Int))] [] m2 := by
    intro q
    induction q with
    | zero =>
      intro n m2 hn h
      refine x_iload3 dX4_carryAll_137 ?_
      refine x_bipush dX4_carryAll_138 ⟨by decide, by decide⟩ ?_
      refine x_icmp_ge (tgt := 213) dX4_carryAll_140 rfl (fun c1 => ?_) (fun c1 => ?_)
      · obtain rfl : n = 7 := by omega
        refine x_iconst dX4_carryAll_213 ⟨by decide, by decide⟩ ?_
        refine x_istore3 dX4_carryAll_214 (by decide) rfl ?_
        exact loop2 70 0 m2 rfl h
      · omega
    | succ q ih =>
      intro n m2 hn h
      refine x_iload3 dX4_carryAll_137 ?_
      refine x_bipush dX4_carryAll_138 ⟨by decide, by decide⟩ ?_
      refine x_icmp_ge (tgt := 213) dX4_carryAll_140 rfl (fun c1 => ?_) (fun c1 => ?_)
      · omega
      · refine x_aload0 dX4_carryAll_143 ?_
        refine x_getR (q := 60) dX4_carryAll_144 fd_X4_19 rfl rfl rfl ?_
        refine x_iload3 dX4_carryAll_147 ?_
        refine x_aload0 dX4_carryAll_148 ?_
        refine x_aload0 dX4_carryAll_149 ?_
        refine x_getR (q := 60) dX4_carryAll_150 fd_X4_19 rfl rfl rfl ?_
        refine x_iload3 dX4_carryAll_153 ?_
        refine x_iald dX4_carryAll_154 rfl (by omega) (by omega) rfl ?_
        refine x_callv1 dX4_carryAll_155 cv_X4_137 ci_X4_carry rfl (T := TX4) rfl (by omega) (Nat.le_of_ble_eq_true rfl) (t_carry hk hk67 h (by omega) ht (q := 60) (s := (n : Int).toNat) (cl_arr (a := 0) (by decide) (by omega)).1 ((cl_arr (a := 0) (n := n) (by decide) (by omega)).2.trans (by omega))) (fun r m3 hq => ?_)
        obtain ⟨x0, rfl, h1⟩ := hq
        show Ex _ _ _ _ _ _ _ _ [zi x0, zi n, zr 60] _
        refine x_iast dX4_carryAll_158 rfl (by omega) (by omega) ?_
        refine x_aload0 dX4_carryAll_159 ?_
        refine x_getR (q := 61) dX4_carryAll_160 fd_X4_23 rfl rfl rfl ?_
        refine x_iload3 dX4_carryAll_163 ?_
        refine x_aload0 dX4_carryAll_164 ?_
        refine x_aload0 dX4_carryAll_165 ?_
        refine x_getR (q := 61) dX4_carryAll_166 fd_X4_23 rfl rfl rfl ?_
        refine x_iload3 dX4_carryAll_169 ?_
        refine x_iald dX4_carryAll_170 rfl (by omega) (by omega) rfl ?_
        refine x_callv1 dX4_carryAll_171 cv_X4_137 ci_X4_carry rfl (T := TX4) rfl (by omega) (Nat.le_of_ble_eq_true rfl) (t_carry hk hk67 h1 (by omega) ht (q := 61) (s := (n : Int).toNat) (cl_arr (a := 1) (by decide) (by omega)).1 ((cl_arr (a := 1) (n := n) (by decide) (by omega)).2.trans (by omega))) (fun r m3 hq => ?_)
        obtain ⟨x1, rfl, h2⟩ := hq
        show Ex _ _ _ _ _ _ _ _ [zi x1, zi n, zr 61] _
        refine x_iast dX4_carryAll_174 rfl (by omega) (by omega) ?_
        refine x_aload0 dX4_carryAll_175 ?_
        refine x_getR (q := 62) dX4_carryAll_176 fd_X4_26 rfl rfl rfl ?_
        refine x_iload3 dX4_carryAll_179 ?_
        refine x_aload0 dX4_carryAll_180 ?_
        refine x_aload0 dX4_carryAll_181 ?_
        refine x_getR (q := 62) dX4_carryAll_182 fd_X4_26 rfl rfl rfl ?_
        refine x_iload3 dX4_carryAll_185 ?_
        refine x_iald dX4_carryAll_186 rfl (by omega) (by omega) rfl ?_
        refine x_callv1 dX4_carryAll_187 cv_X4_137 ci_X4_carry rfl (T := TX4) rfl (by omega) (Nat.le_of_ble_eq_true rfl) (t_carry hk hk67 h2 (by omega) ht (q := 62) (s := (n : Int).toNat) (cl_arr (a := 2) (by decide) (by omega)).1 ((cl_arr (a := 2) (n := n) (by decide) (by omega)).2.trans (by omega))) (fun r m3 hq => ?_)
        obtain ⟨x2, rfl, h3⟩ := hq
        show Ex _ _ _ _ _ _ _ _ [zi x2, zi n, zr 62] _
        refine x_iast dX4_carryAll_190 rfl (by omega) (by omega) ?_
        refine x_aload0 dX4_carryAll_191 ?_
        refine x_getR (q := 63) dX4_carryAll_192 fd_X4_29 rfl rfl rfl ?_
        refine x_iload3 dX4_carryAll_195 ?_
        refine x_aload0 dX4_carryAll_196 ?_
        refine x_aload0 dX4_carryAll_197 ?_
        refine x_getR (q := 63) dX4_carryAll_198 fd_X4_29 rfl rfl rfl ?_
        refine x_iload3 dX4_carryAll_201 ?_
        refine x_iald dX4_carryAll_202 rfl (by omega) (by omega) rfl ?_
        refine x_callv1 dX4_carryAll_203 cv_X4_137 ci_X4_carry rfl (T := TX4) rfl (by omega) (Nat.le_of_ble_eq_true rfl) (t_carry hk hk67 h3 (by omega) ht (q := 63) (s := (n : Int).toNat) (cl_arr (a := 3) (by decide) (by omega)).1 ((cl_arr (a := 3) (n := n) (by decide) (by omega)).2.trans (by omega))) (fun r m3 hq => ?_)
        obtain ⟨x3, rfl, h4⟩ := hq
        show Ex _ _ _ _ _ _ _ _ [zi x3, zi n, zr 63] _
        refine x_iast dX4_carryAll_206 rfl (by omega) (by omega) ?_
        refine x_iinc3 dX4_carryAll_207 (by decide) rfl (nrm_id (by omega) (by omega)) ?_
        refine x_goto (tgt := 137) dX4_carryAll_210 rfl ?_
        exact Ex.eq (by push_cast; rfl) rfl rfl (ih (n + 1) _ (by omega) h4)
  exact loop1 7 0 _ rfl h10
/-- what changes: the yard, weights, the seed, the carrying, the arrays a to b -/
def Fg (a b : Nat) (m m' : zz_M) : Prop := (∀ q, q < 59 ∨ q = 65 ∨ 67 ≤ q ∧ (q < a ∨ b ≤ q) → m' q = m q) ∧ ∀ s, 10 ≤ s → s ≠ 19 → s ≠ 39 → ¬ (25 ≤ s ∧ s ≤ 27) → m' 59 s = m 59 s
theorem Fg.rf {a b : Nat} : Fg a b m m := ⟨fun _ _ => rfl, fun _ _ _ _ _ => rfl⟩
theorem Fg.tr {a b : Nat} {m' m'' : zz_M} (h : Fg a b m m') (h' : Fg a b m' m'') : Fg a b m m'' := ⟨fun q hq => (h'.1 q hq).trans (h.1 q hq), fun s h1 h2 h3 h4 => (h'.2 s h1 h2 h3 h4).trans (h.2 s h1 h2 h3 h4)⟩
theorem Fg.wd {a b a' b' : Nat} {m' : zz_M} (h : Fg a b m m') (h1 : a' ≤ a) (h2 : b ≤ b') : Fg a' b' m m' := ⟨fun q hq => h.1 q (by omega), h.2⟩
/-- the yard alone (and weights) -/
abbrev Fy (m m' : zz_M) : Prop := Fg 67 67 m m'
theorem Fg.y {a b : Nat} {m' : zz_M} (h : Fy m m') : Fg a b m m' := ⟨fun q hq => h.1 q (by omega), h.2⟩
theorem Fg.upf {a b : Nat} {m' : zz_M} (h : Fg a b m m') {s : Nat} {x : Int} (hs : s < 10 ∨ s = 19 ∨ s = 39 ∨ 25 ≤ s ∧ s ≤ 27) : Fg a b m (up m' 59 s x) := ⟨fun q hq => by rw [up_cell (by omega)]; exact h.1 q hq, fun w h1 h2 h3 h4 => by rw [upn (by omega)]; exact h.2 w h1 h2 h3 h4⟩
theorem Fg.upc {a b : Nat} {m' : zz_M} (h : Fg a b m m') {k s : Nat} {x : Int} (hs : 60 ≤ k ∧ k ≤ 64 ∨ k = 66) : Fg a b m (up m' k s x) := ⟨fun q hq => by rw [up_cell (by omega)]; exact h.1 q hq, fun w h1 h2 h3 h4 => by rw [up_cell (by omega)]; exact h.2 w h1 h2 h3 h4⟩
theorem Fg.sp {a b k : Nat} {m' : zz_M} (h : Fg a b m m') (hS : SP m k V) (hk : 67 ≤ k) (hk2 : k < a ∨ b ≤ k) : SP m' k V := fun j hj => by rw [h.1 k (Or.inr (Or.inr ⟨hk, hk2⟩))]; exact hS j hj
theorem CI.fg {k : Nat} {t : Int} {m' : zz_M} (h : CI k t m m' 108) (ht : t = 0 ∨ t = 1) (hk : 67 ≤ k) : Fg k (k + 1) m m' := by
  obtain ⟨-, -, -, h1, h0⟩ := h
  rcases ht with rfl | rfl
  · obtain ⟨g1, g2⟩ := h0 rfl
    refine ⟨fun q hq => ?_, fun s a1 a2 a3 a4 => ?_⟩
    · funext s
      exact g2 q s (fun i hi w => by have := cl_bd i; omega) (by omega)
    · exact g2 59 s (fun i hi w => by have := (cl_bd i).2.2 w.1.symm; omega) (by omega)
  · obtain ⟨g1, g2⟩ := h1 rfl
    refine ⟨fun q hq => ?_, fun s a1 a2 a3 a4 => ?_⟩
    · funext s
      exact g2 q s (by omega) (by omega)
    · exact g2 59 s (by omega) (by omega)
theorem CI.in_ {k : Nat} {m' : zz_M} (h : CI k 1 m m' 108) (hk : 67 ≤ k) (hM : MP m V) : MP m' V ∧ SP m' k V := by
  obtain ⟨-, -, -, h1, -⟩ := h
  obtain ⟨g1, g2⟩ := h1 rfl
  refine ⟨fun j hj => ?_, fun j hj => ?_⟩
  · have := cl_bd j
    rw [g2 _ _ (by omega) (by omega)]
    exact hM j hj
  · rw [g1 j hj]
    exact hM j hj
theorem CI.out {k : Nat} {m' : zz_M} (h : CI k 0 m m' 108) (hk : 67 ≤ k) (hS : SP m k V) : MP m' V ∧ SP m' k V := by
  obtain ⟨-, -, -, -, h1⟩ := h
  obtain ⟨g1, g2⟩ := h1 rfl
  refine ⟨fun j hj => ?_, fun j hj => ?_⟩
  · rw [g1 j hj]
    exact hS j hj
  · rw [g2 k j (fun i hi w => by have := cl_bd i; omega) (by omega)]
    exact hS j hj
theorem t_open (hM : MP m V) : Mt E 3 yX4_open cX4_open 1 none [zr 59] m (fun r m' => r = none ∧ MP m' V ∧ SP m' 67 V ∧ Fg 67 68 m m') := by
  refine Mt.of 0 (by decide +kernel) (Nat.le_of_ble_eq_true rfl) (Or.inr (Or.inr (Or.inr rfl))) ?_ ?_
  · rintro r m' ⟨rfl, -⟩; simp
  show Ex E cX4_open 1 RX4 3 _ 0 [some (zr 59)] [] m
  refine x_aload0 dX4_open_0 ?_
  refine x_aload0 dX4_open_1 ?_
  refine x_getR (q := 67) dX4_open_2 fd_X4_44 rfl rfl rfl ?_
  refine x_iconst dX4_open_5 ⟨by decide, by decide⟩ ?_
  refine x_callv2 dX4_open_6 cv_X4_143 ci_X4_carryAll rfl (T := TX4) rfl (by omega) (Nat.le_of_ble_eq_true rfl) (t_carryAll (k := 67) (t := 1) rfl (by decide) (Or.inr rfl)) (fun r m1 hq => ?_)
  obtain ⟨rfl, h⟩ := hq
  have g := h.in_ (by decide) hM
  exact xe_v dX4_open_9 (⟨rfl, g.1, g.2, h.fg (Or.inr rfl) (by decide)⟩)
theorem t_close (hS : SP m 67 V) : Mt E 3 yX4_close cX4_close 1 none [zr 59] m (fun r m' => r = none ∧ MP m' V ∧ SP m' 67 V ∧ Fg 67 68 m m') := by
  refine Mt.of 0 (by decide +kernel) (Nat.le_of_ble_eq_true rfl) (Or.inr (Or.inr (Or.inr rfl))) ?_ ?_
  · rintro r m' ⟨rfl, -⟩; simp
  show Ex E cX4_close 1 RX4 3 _ 0 [some (zr 59)] [] m
  refine x_aload0 dX4_close_0 ?_
  refine x_aload0 dX4_close_1 ?_
  refine x_getR (q := 67) dX4_close_2 fd_X4_44 rfl rfl rfl ?_
  refine x_iconst dX4_close_5 ⟨by decide, by decide⟩ ?_
  refine x_callv2 dX4_close_6 cv_X4_143 ci_X4_carryAll rfl (T := TX4) rfl (by omega) (Nat.le_of_ble_eq_true rfl) (t_carryAll (k := 67) (t := 0) rfl (by decide) (Or.inl rfl)) (fun r m1 hq => ?_)
  obtain ⟨rfl, h⟩ := hq
  have g := h.out (by decide) hS
  exact xe_v dX4_close_9 (⟨rfl, g.1, g.2, h.fg (Or.inl rfl) (by decide)⟩)
end RM1
