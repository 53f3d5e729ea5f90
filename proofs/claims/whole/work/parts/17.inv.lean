/-! ===== what stays true of a yard; where she lays is a nest ===== -/
section INV
variable {V : zz_W} {D : Int}
theorem all_f : ∀ n : Fin 7, (0 ≤ alln (n.val : Int) ∧ alln (n.val : Int) < 64) ∧ (∀ i : Fin 6, if (i.val : Int) < n.val then bt (alln (n.val : Int)) (i.val : Int) = 1 else bt (alln (n.val : Int)) (i.val : Int) = 0) := by decide +kernel
theorem all_sub {n : Int} (h0 : 0 ≤ n) (h1 : n ≤ 6) : sub6 n (alln n) := by
  have h := all_f ⟨n.toNat, by omega⟩
  simp only [nat_of h0] at h
  refine ⟨h.1.1, h.1.2, fun i h2 h3 => ?_⟩
  have h4 := h.2 ⟨i.toNat, by omega⟩
  simp only [nat_of (show 0 ≤ i by omega)] at h4
  rw [if_neg (by omega)] at h4
  exact h4
theorem all_bt {n i : Int} (h1 : n ≤ 6) (h2 : 0 ≤ i) (h3 : i < n) : bt (alln n) i = 1 := by
  have h := all_f ⟨n.toNat, by omega⟩
  simp only [nat_of (show 0 ≤ n by omega)] at h
  have h4 := h.2 ⟨i.toNat, by omega⟩
  simp only [nat_of h2] at h4
  rw [if_pos (by omega)] at h4
  exact h4
/-- a set with a nest in it -/
def has (y : Int) : Prop := ∃ i, 0 ≤ i ∧ i < 6 ∧ bt y i = 1
theorem has_f : ∀ y : Fin 64, y.val ≠ 0 → ∃ i : Fin 6, bt (y.val : Int) (i.val : Int) = 1 := by decide +kernel
theorem has_of {y : Int} (h0 : 0 ≤ y) (h1 : y < 64) (h : y ≠ 0) : has y := by
  obtain ⟨i, hi⟩ := has_f ⟨y.toNat, by omega⟩ (by show y.toNat ≠ 0; omega)
  simp only [nat_of h0] at hi
  exact ⟨_, by omega, by have := i.isLt; omega, hi⟩
theorem may_has {n p : Int} (hn : 0 ≤ n) (hl : 0 ≤ V 0 2 ∧ V 0 2 < 64) (hp : sub6 n p) (hh : has p) : has (may V p) := by
  have hs := may_sub hn hl hp
  by_cases h : ian p (ixr (V 0 2) (-1)) = 0
  · rw [show may V p = p from if_pos h]
    exact hh
  · rw [show may V p = _ from if_neg h] at hs ⊢
    exact has_of hs.1 hs.2.1 h
theorem smI_pos {f : Int → Int} : ∀ (n : Nat), (∀ i : Int, 0 ≤ i → i < n → 0 ≤ f i) → ∀ i : Int, 0 ≤ i → i < n → f i ≤ smI f n
  | 0, _, i, h0, h1 => by omega
  | n + 1, h, i, h0, h1 => by
    have h2 := smI_pos n (fun j a b => h j a (by omega))
    have h3 : 0 ≤ smI f n := by
      have : ∀ k : Nat, k ≤ n → 0 ≤ smI f k := by
        intro k
        induction k with
        | zero => intro _; exact Int.le_refl _
        | succ k ih =>
          intro hk
          have := ih (by omega)
          have := h k (by omega) (by omega)
          rw [smI_succ]
          omega
      exact this n (Nat.le_refl n)
    rw [smI_succ]
    by_cases hi : i = n
    · subst hi; omega
    · have := h2 i h0 (by omega)
      have := h n (by omega) (by omega)
      omega
theorem smI_some {f : Int → Int} : ∀ (n : Nat), smI f n ≠ 0 → ∃ i : Int, 0 ≤ i ∧ i < n ∧ f i ≠ 0
  | 0, h => absurd rfl h
  | n + 1, h => by
    by_cases hf : f n = 0
    · rw [smI_succ, hf] at h
      obtain ⟨i, h0, h1, h2⟩ := smI_some (f := f) n (by omega)
      exact ⟨i, h0, by omega, h2⟩
    · exact ⟨n, by omega, by omega, hf⟩
theorem amx_pos {f : Int → Int} : ∀ (n : Nat), (∃ i : Int, 0 ≤ i ∧ i < n ∧ 0 < f i) → 0 < (amx f n).2 ∧ 0 ≤ (amx f n).1
  | 0, ⟨i, h0, h1, _⟩ => by omega
  | n + 1, ⟨i, h0, h1, h2⟩ => by
    have hb := amx_bd f n
    unfold amx
    by_cases hg : (amx f n).2 < f n
    · rw [if_pos hg]
      exact ⟨by show 0 < f n; omega, by show (0 : Int) ≤ (n : Int); omega⟩
    · rw [if_neg hg]
      by_cases hi : i = n
      · subst hi
        have hp : 0 < (amx f n).2 := by omega
        refine ⟨hp, ?_⟩
        have : ∀ k : Nat, 0 < (amx f k).2 → 0 ≤ (amx f k).1 := by
          intro k
          induction k with
          | zero => intro h; simp [amx] at h
          | succ k ih =>
            unfold amx
            split
            · intro _; show (0 : Int) ≤ (k : Int); omega
            · exact ih
        exact this n hp
      · exact amx_pos n ⟨i, h0, by omega, h2⟩
theorem smI_shift (f : Int → Int) : ∀ n : Nat, smI f (n + 1) = f 0 + smI (fun j => f (j + 1)) n
  | 0 => by simp [smI]
  | n + 1 => by
    rw [smI_succ, smI_shift f n, smI_succ]
    push_cast
    omega
theorem nth_ok {y : Int} (hy : 0 ≤ y ∧ y < 64) : ∀ (n : Nat) (i q : Int), 0 ≤ i → i + n ≤ 6 → 0 ≤ q → q < smI (fun j => bt y (i + j)) n → i ≤ nth y n i q ∧ nth y n i q < i + n
  | 0, i, q, _, _, h0, h1 => by simp [smI] at h1; omega
  | n + 1, i, q, hi, hn, h0, h1 => by
    rw [smI_shift] at h1
    have e : smI (fun j => bt y (i + (j + 1))) n = smI (fun j => bt y ((i + 1) + j)) n := smI_congr n (fun j _ _ => by rw [show i + (j + 1) = i + 1 + j by omega])
    rw [e] at h1
    have hb := bt_01 hy.1 hy.2 hi (show i < 6 by omega)
    simp only [Int.add_zero] at h1
    unfold nth
    by_cases hbt : bt y i = 1
    · rw [if_pos hbt]
      by_cases hq : q = 0
      · rw [if_pos hq]; omega
      · rw [if_neg hq]
        have := nth_ok hy n (i + 1) (q - 1) (by omega) (by omega) (by omega) (by omega)
        omega
    · rw [if_neg hbt]
      have := nth_ok hy n (i + 1) q (by omega) (by omega) (by omega) (by omega)
      omega
theorem cnt_pos {n y : Int} (hn : 0 ≤ n ∧ n ≤ 6) (hy : sub6 n y) (hh : has y) : 0 < smI (bt y) n.toNat := by
  obtain ⟨i, h0, h1, h2⟩ := hh
  have hin : i < n := by
    rcases Int.lt_or_le i n with q | q
    · exact q
    · have := hy.2.2 i q h1
      omega
  have := smI_pos (f := bt y) n.toNat (fun j a b => by have := bt_01 hy.1 hy.2.1 a (show j < 6 by omega); omega) i h0 (by omega)
  omega
theorem wt_nn (hI : Iv D V) {y : Int} (hy : sub6 (V 0 0) y) {i : Int} (h0 : 0 ≤ i) (h1 : i < 6) : 0 ≤ wt V y i ∧ wt V y i ≤ 101 := by
  have h2 := raw_bd hI h0 h1
  have h3 := bt_01 hy.1 hy.2.1 h0 h1
  unfold wt
  split
  · omega
  · split <;> omega
theorem wt_some (hI : Iv D V) {y : Int} (hy : sub6 (V 0 0) y) (hh : has y) : ∃ i : Int, 0 ≤ i ∧ i < ((V 0 0).toNat : Int) ∧ 0 < wt V y i := by
  have hn := hI.1
  by_cases hw : wsum V y = 0
  · obtain ⟨i, h0, h1, h2⟩ := hh
    have hin : i < V 0 0 := by
      rcases Int.lt_or_le i (V 0 0) with q | q
      · exact q
      · have := hy.2.2 i q h1
        omega
    exact ⟨i, h0, by omega, by unfold wt; rw [if_pos hw, h2]; decide⟩
  · obtain ⟨i, h0, h1, h2⟩ := smI_some _ hw
    have hb := wf_bd hI y h0 (show i < 6 by omega)
    refine ⟨i, h0, h1, ?_⟩
    unfold wt
    rw [if_neg hw]
    show 0 < wf V y i
    have h2 : wf V y i ≠ 0 := h2
    omega
theorem lays_in (hI : Iv D V) (hD : D ≤ 20000) {p : Int} (hp : sub6 (V 0 0) p) (hh : has p) : 0 ≤ lays V p ∧ lays V p < V 0 0 := by
  have hI2 := hI
  obtain ⟨hn, hl, hk0, hd, hk, hfg, ht, hr, hx, he, hz⟩ := hI
  have hy := may_sub hn.1 hk0 hp
  have hmh := may_has hn.1 hk0 hp hh
  have hc := cnt_pos hn hy hmh
  have hcb := cnt_bd (may V p) (V 0 0).toNat ⟨hy.1, hy.2.1⟩ (by omega)
  unfold lays
  by_cases h2 : V 0 6 = 2
  · rw [if_pos h2, if_neg (by omega)]
    have hab : 0 ≤ V 0 4 * (V 0 7 + 1) ∧ V 0 4 * (V 0 7 + 1) ≤ 200000 := by
      refine ⟨Int.mul_nonneg hd.1 (by omega), ?_⟩
      have := Int.mul_le_mul (show V 0 4 ≤ 20000 by omega) (show V 0 7 + 1 ≤ 10 by omega) (by omega) (by decide)
      omega
    rw [irm_pos hab.1 (by omega) hc (by omega)]
    have h3 := Int.emod_nonneg (V 0 4 * (V 0 7 + 1)) (show smI (bt (may V p)) (V 0 0).toNat ≠ 0 by omega)
    have h4 := Int.emod_lt_of_pos (V 0 4 * (V 0 7 + 1)) hc
    have e : smI (fun j => bt (may V p) (0 + j)) (V 0 0).toNat = smI (bt (may V p)) (V 0 0).toNat := smI_congr _ (fun j _ _ => by rw [Int.zero_add])
    have := nth_ok ⟨hy.1, hy.2.1⟩ (V 0 0).toNat 0 _ (by omega) (by omega) h3 (by rw [e]; exact h4)
    omega
  · rw [if_neg h2]
    have h3 := amx_pos _ (wt_some hI2 hy hmh)
    have h4 := amx_bd (wt V (may V p)) (V 0 0).toNat
    omega
theorem has_all {n : Int} (h0 : 0 < n) (h1 : n ≤ 6) : has (alln n) := ⟨0, by decide, by decide, all_bt h1 (by decide) h0⟩
/-- where she lays among all nests -/
def lay (V : zz_W) : Int := lays V (alln (V 0 0))
theorem lay_in (hI : Iv D V) (hD : D ≤ 20000) (h0 : V 0 0 ≠ 0) : 0 ≤ lay V ∧ lay V < V 0 0 :=
  lays_in hI hD (all_sub hI.1.1 hI.1.2) (has_all (by have := hI.1; omega) hI.1.2)
theorem Iv.wd {D' : Int} (h : Iv D V) (hD : D ≤ D') : Iv D' V := by
  obtain ⟨hn, hl, hk0, hd, hr⟩ := h
  exact ⟨hn, hl, hk0, ⟨hd.1, by omega⟩, hr⟩
theorem Iv_pass (h : Iv D V) {w : Int} (h0 : 0 ≤ w) (h1 : w < V 0 0) : Iv (D + 1) (pass V w) := by
  obtain ⟨hn, hl, hk0, hd, hk, hfg, ht, hr, hx, he, hz⟩ := h
  have e0 : ∀ z, z ≠ 1 → z ≠ 2 → z ≠ 3 → z ≠ 4 → pass V w 0 z = V 0 z := by
    intro z a b c d
    simp [pass, a, b, c, d]
  have e1 : pass V w 0 1 = w := rfl
  have e2 : pass V w 0 2 = 0 := rfl
  have e4 : pass V w 0 4 = V 0 4 + 1 := rfl
  have ea : ∀ a z, a ≠ 0 → a ≠ 5 → pass V w a z = V a z := by
    intro a z h5 h6
    simp [pass, h5, h6]
  unfold Iv
  rw [e1, e2, e4, e0 0 (by decide) (by decide) (by decide) (by decide), e0 6 (by decide) (by decide) (by decide) (by decide), e0 7 (by decide) (by decide) (by decide) (by decide), e0 8 (by decide) (by decide) (by decide) (by decide), e0 9 (by decide) (by decide) (by decide) (by decide)]
  refine ⟨hn, Or.inl ⟨by omega, h1⟩, by decide, by omega, hk, hfg, ht, hr, fun z h2 h3 => ?_, fun z h2 h3 => ?_, fun z h2 h3 => ?_⟩
  · rw [ea 1 z (by decide) (by decide), ea 2 z (by decide) (by decide), ea 3 z (by decide) (by decide), ea 4 z (by decide) (by decide)]
    exact hx z h2 h3
  · have a1 := he z h2 h3
    show 0 ≤ (if (5 : Nat) = 5 then _ else _) ∧ (if (5 : Nat) = 5 then _ else _) ≤ 9
    rw [if_pos rfl]
    split
    · split
      · split <;> omega
      · split
        · have := he (z - 1) (by omega) (by omega)
          omega
        · omega
    · exact a1
  · show (if (5 : Nat) = 5 then _ else _) = 0
    rw [if_pos rfl, if_neg (by omega)]
    exact hz z h2 h3
theorem ior_f : ∀ (p l : Fin 64), 0 ≤ ior (p.val : Int) (l.val : Int) ∧ ior (p.val : Int) (l.val : Int) < 64 := by decide +kernel
theorem ior_bd {p l : Int} (h0 : 0 ≤ p) (h1 : p < 64) (h2 : 0 ≤ l) (h3 : l < 64) : 0 ≤ ior p l ∧ ior p l < 64 := by
  have h := ior_f ⟨p.toNat, by omega⟩ ⟨l.toNat, by omega⟩
  simpa only [nat_of h0, nat_of h2] using h
theorem tak_sc (V : zz_W) (s z : Int) (h : z ≠ 2) : tak V s 0 z = V 0 z := by simp [tak, h]
theorem Iv_tak (h : Iv D V) {s : Int} (h0 : 0 ≤ s) (h1 : s < 64) : Iv D (tak V s) := by
  obtain ⟨hn, hl, hk0, hd, hk, hfg, ht, hr, hx, he, hz⟩ := h
  have e2 : tak V s 0 2 = ior (V 0 2) s := rfl
  have ea : ∀ a z, a ≠ 0 → a ≠ 5 → tak V s a z = V a z := by
    intro a z h5 h6
    simp [tak, h5, h6]
  unfold Iv
  rw [e2, tak_sc V s 0 (by decide), tak_sc V s 1 (by decide), tak_sc V s 4 (by decide), tak_sc V s 6 (by decide), tak_sc V s 7 (by decide), tak_sc V s 8 (by decide), tak_sc V s 9 (by decide)]
  refine ⟨hn, hl, ior_bd hk0.1 hk0.2 h0 h1, hd, hk, hfg, ht, hr, fun z h2 h3 => ?_, fun z h2 h3 => ?_, fun z h2 h3 => ?_⟩
  · rw [ea 1 z (by decide) (by decide), ea 2 z (by decide) (by decide), ea 3 z (by decide) (by decide), ea 4 z (by decide) (by decide)]
    exact hx z h2 h3
  · have a1 := he z h2 h3
    show 0 ≤ (if (5 : Nat) = 5 then _ else _) ∧ (if (5 : Nat) = 5 then _ else _) ≤ 9
    rw [if_pos rfl]
    split <;> omega
  · show (if (5 : Nat) = 5 then _ else _) = 0
    rw [if_pos rfl]
    split
    · rfl
    · exact hz z h2 h3
theorem Iv_ux0 (h : Iv D V) {z x : Int} (hz : z = 2 ∧ (0 ≤ x ∧ x < 64) ∨ z = 3 ∨ z = 5 ∨ z = 6 ∧ (0 ≤ x ∧ x ≤ 5) ∨ z = 7 ∧ (0 ≤ x ∧ x ≤ 9) ∨ z = 8 ∧ (0 ≤ x ∧ x ≤ 40) ∨ z = 9 ∧ (1 ≤ x ∧ x ≤ 9)) : Iv D (ux V 0 z x) := by
  obtain ⟨hn, hl, hk0, hd, hk, hfg, ht, hr, hx, he, hzz⟩ := h
  have ea : ∀ a w, a ≠ 0 → ux V 0 z x a w = V a w := fun a w ha => if_neg (fun q => ha q.1)
  have es : ∀ w, w ≠ z → ux V 0 z x 0 w = V 0 w := fun w hw => if_neg (fun q => hw q.2)
  have ez : ux V 0 z x 0 z = x := if_pos ⟨rfl, rfl⟩
  unfold Iv
  simp only [ea 1 _ (by decide), ea 2 _ (by decide), ea 3 _ (by decide), ea 4 _ (by decide), ea 5 _ (by decide)]
  rw [es 0 (by omega), es 1 (by omega), es 4 (by omega)]
  refine ⟨hn, hl, ?_, hd, ?_, ?_, ?_, ?_, hx, he, hzz⟩
  · by_cases h : 2 = z
    · rw [h, ez]; omega
    · rw [es 2 h]; exact hk0
  · by_cases h : 6 = z
    · rw [h, ez]; omega
    · rw [es 6 h]; exact hk
  · by_cases h : 7 = z
    · rw [h, ez]; omega
    · rw [es 7 h]; exact hfg
  · by_cases h : 8 = z
    · rw [h, ez]; omega
    · rw [es 8 h]; exact ht
  · by_cases h : 9 = z
    · rw [h, ez]; omega
    · rw [es 9 h]; exact hr
end INV
