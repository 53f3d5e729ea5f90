/-! ===== plans, in plain words ===== -/
section PL3
variable {V W : zz_W} {D : Int}
def bsf (g : Nat → Int) : List Nat → Int × Int → Int × Int
  | [], a => a
  | q :: l, a => bsf g l (if a.1 < g q then (g q, (q : Int)) else a)
def pfv : Nat → zz_W → Int × Int
  | 0, _ => (0, 0)
  | n + 1, V => bsf (fun q => tkn V (q : Int) + (pfv n (nit (tak V (q : Int)))).1) (ast V (ase V)) (-1, 0)
def o_plan (s : zz_S) (n w : Int) : zz_A := if w < 0 ∨ 1 < w then rfo s 2 else if n < 1 then rfo s 4 else if 3 < n then rfo s 6 else if s.1 0 0 = 0 then rfo s 3 else
  (if w = 0 then (pfv n.toNat (ux s.1 0 2 0)).1 else (pfv n.toNat (ux s.1 0 2 0)).2, s)
theorem bsf_ge (g : Nat → Int) : ∀ (l : List Nat) (a : Int × Int), a.1 ≤ (bsf g l a).1
  | [], a => Int.le_refl _
  | q :: l, a => by
    have := bsf_ge g l (if a.1 < g q then (g q, (q : Int)) else a)
    unfold bsf
    split at this
    · rename_i h
      rw [if_pos h]
      have : g q ≤ (bsf g l (g q, (q : Int))).1 := this
      omega
    · rename_i h
      rw [if_neg h]
      exact this
theorem bsf_mem (g : Nat → Int) : ∀ (l : List Nat) (a : Int × Int) (q : Nat), q ∈ l → g q ≤ (bsf g l a).1
  | [], a, q, h => by cases h
  | p :: l, a, q, h => by
    unfold bsf
    rcases List.mem_cons.mp h with rfl | h
    · have := bsf_ge g l (if a.1 < g q then (g q, (q : Int)) else a)
      split at this
      · rename_i h
        rw [if_pos h]
        exact this
      · rename_i h
        rw [if_neg h]
        omega
    · exact bsf_mem g l _ q h
theorem bsf_le (g : Nat → Int) {M : Int} : ∀ (l : List Nat) (a : Int × Int), a.1 ≤ M → (∀ q ∈ l, g q ≤ M) → (bsf g l a).1 ≤ M
  | [], a, h, _ => h
  | q :: l, a, h, hg => by
    unfold bsf
    apply bsf_le g l
    · split
      · exact hg q List.mem_cons_self
      · exact h
    · exact fun p hp => hg p (List.mem_cons_of_mem _ hp)
theorem bsf_stop (g : Nat → Int) : ∀ (l : List Nat) (a : Int × Int), (∀ q ∈ l, g q ≤ a.1) → bsf g l a = a
  | [], a, _ => rfl
  | q :: l, a, hg => by
    unfold bsf
    rw [if_neg (by have := hg q List.mem_cons_self; omega)]
    exact bsf_stop g l a (fun p hp => hg p (List.mem_cons_of_mem _ hp))
theorem bsf_cg {g g' : Nat → Int} : ∀ (l : List Nat) (a : Int × Int), (∀ q ∈ l, g q = g' q) → bsf g l a = bsf g' l a
  | [], a, _ => rfl
  | q :: l, a, hg => by
    unfold bsf
    rw [hg q List.mem_cons_self]
    exact bsf_cg l _ (fun p hp => hg p (List.mem_cons_of_mem _ hp))
/-- yards that differ in what nobody asks in plans: before, found -/
def eqv (V W : zz_W) : Prop := ∀ a z, ¬ (a = 0 ∧ (z = 3 ∨ z = 5)) → W a z = V a z
theorem eqv_ux (h : eqv V W) : W = ux (ux V 0 3 (W 0 3)) 0 5 (W 0 5) := by
  funext a z
  unfold ux
  by_cases h5 : a = 0 ∧ z = 5
  · rw [if_pos h5, h5.1, h5.2]
  · rw [if_neg h5]
    by_cases h3 : a = 0 ∧ z = 3
    · rw [if_pos h3, h3.1, h3.2]
    · rw [if_neg h3]
      exact h a z (by omega)
theorem eqv_tkn (h : eqv V W) (q : Int) : tkn W q = tkn V q := by
  rw [eqv_ux h]; rfl
theorem eqv_lay (h : eqv V W) : lay W = lay V := by
  rw [eqv_ux h]; rfl
theorem eqv_ast (h : eqv V W) : ast W (ase W) = ast V (ase V) := by
  rw [eqv_ux h]; rfl
theorem eqv_alle (h : eqv V W) : alle W = alle V := by
  rw [eqv_ux h]; rfl
theorem eqv_tak (h : eqv V W) (q : Int) : eqv (tak V q) (tak W q) := by
  intro a z hz
  have h0 := h 0 0 (by decide)
  have h2 := h 0 2 (by decide)
  unfold tak
  by_cases h5 : a = 5
  · subst h5
    rw [if_pos rfl, if_pos rfl, h0, h 5 z (by omega)]
  · rw [if_neg h5, if_neg h5, h2, h a z hz]
theorem eqv_nit (h : eqv V W) : eqv (nit V) (nit W) := by
  intro a z hz
  have h0 := h 0 0 (by decide)
  have h2 := h 0 2 (by decide)
  have h4 := h 0 4 (by decide)
  have h9 := h 0 9 (by decide)
  have hl := eqv_lay h
  have he : ∀ z, W 5 z = V 5 z := fun z => h 5 z (by omega)
  unfold nit pass
  rw [hl, h0, h9, h4, he, he]
  by_cases h5 : a = 5
  · rw [if_pos h5, if_pos h5]
  · rw [if_neg h5, if_neg h5]
    by_cases ha : a = 0
    · rw [if_pos ha, if_pos ha]
      subst ha
      have : z ≠ 3 := fun q => hz ⟨rfl, Or.inl q⟩
      rw [if_neg this, if_neg this, h 0 z hz]
    · rw [if_neg ha, if_neg ha, h a z hz]
theorem eqv_pfv : ∀ (n : Nat) {V W : zz_W}, eqv V W → pfv n W = pfv n V
  | 0, _, _, _ => rfl
  | n + 1, V, W, h => by
    unfold pfv
    rw [eqv_ast h]
    refine bsf_cg _ _ (fun q _ => ?_)
    rw [eqv_tkn h, eqv_pfv n (eqv_nit (eqv_tak h (q : Int)))]
-- a set and its lowest nest
def tzn (q : Int) : Int := if bt q 0 = 1 then 0 else if bt q 1 = 1 then 1 else if bt q 2 = 1 then 2 else if bt q 3 = 1 then 3 else if bt q 4 = 1 then 4 else 5
def lsb (q : Int) : Int := ian q (q - 1)
theorem tz_f : ∀ q : Fin 64, q.val ≠ 0 → (0 ≤ tzn (q.val : Int) ∧ tzn (q.val : Int) < 6 ∧ bt (q.val : Int) (tzn (q.val : Int)) = 1) ∧ (0 ≤ lsb (q.val : Int) ∧ lsb (q.val : Int) < q.val) ∧
    ∀ i : Fin 6, bt (lsb (q.val : Int)) (i.val : Int) = if (i.val : Int) = tzn (q.val : Int) then 0 else bt (q.val : Int) (i.val : Int) := by decide +kernel
theorem tz_ok {q : Int} (h0 : 0 < q) (h1 : q < 64) : (0 ≤ tzn q ∧ tzn q < 6 ∧ bt q (tzn q) = 1) ∧ (0 ≤ lsb q ∧ lsb q < q) ∧ ∀ i, 0 ≤ i → i < 6 → bt (lsb q) i = if i = tzn q then 0 else bt q i := by
  have h := tz_f ⟨q.toNat, by omega⟩ (by show q.toNat ≠ 0; omega)
  simp only [nat_of (show 0 ≤ q by omega)] at h
  refine ⟨h.1, h.2.1, fun i a b => ?_⟩
  have := h.2.2 ⟨i.toNat, by omega⟩
  simpa only [nat_of a] using this
theorem pw_f : ∀ (n : Fin 7) (q : Fin 64), q.val < 2 ^ n.val → ∀ i : Fin 6, n.val ≤ i.val → bt (q.val : Int) (i.val : Int) = 0 := by decide +kernel
theorem pw_sub {n : Int} {q : Nat} (h0 : 0 ≤ n) (h1 : n ≤ 6) (hq : q < 2 ^ n.toNat) (hq6 : q < 64) : sub6 n (q : Int) := by
  refine ⟨by omega, by omega, fun i a b => ?_⟩
  have := pw_f ⟨n.toNat, by omega⟩ ⟨q, hq6⟩ hq ⟨i.toNat, by omega⟩ (by show n.toNat ≤ i.toNat; omega)
  simpa only [nat_of (show 0 ≤ i by omega)] using this
theorem smI_one {f g : Int → Int} {t : Int} : ∀ (n : Nat), 0 ≤ t → t < n → (∀ i : Int, 0 ≤ i → i < n → i ≠ t → f i = g i) → smI f n = smI g n + (f t - g t)
  | 0, h0, h1, _ => by omega
  | n + 1, h0, h1, h => by
    rw [smI_succ, smI_succ]
    by_cases ht : t = n
    · subst ht
      rw [smI_congr (f := f) (g := g) n (fun i a b => h i a (by omega) (by omega))]
      omega
    · rw [smI_one (f := f) (g := g) n h0 (by omega) (fun i a b c => h i a (by omega) c), h n (by omega) (by omega) (fun q => ht q.symm)]
      omega
theorem tz_lt {n q : Int} (hs : sub6 n q) (h0 : 0 < q) : tzn q < n := by
  have h := (tz_ok h0 hs.2.1).1
  rcases Int.lt_or_le (tzn q) n with a | a
  · exact a
  · have := hs.2.2 _ a h.2.1
    omega
theorem tkn_lsb (hn : 0 ≤ V 0 0 ∧ V 0 0 ≤ 6) {q : Int} (hs : sub6 (V 0 0) q) (h0 : 0 < q) : tkn V q = tkn V (lsb q) + eggs V (tzn q) := by
  have h := tz_ok h0 hs.2.1
  have ht := tz_lt hs h0
  have h3 := h.2.2 (tzn q) h.1.1 h.1.2.1
  rw [if_pos rfl] at h3
  unfold tkn
  rw [smI_one (f := fun n => if bt q n = 1 then eggs V n else 0) (g := fun n => if bt (lsb q) n = 1 then eggs V n else 0) (V 0 0).toNat h.1.1 (by omega) (fun i a b c => by
    show (if bt q i = 1 then eggs V i else 0) = if bt (lsb q) i = 1 then eggs V i else 0
    rw [h.2.2 i a (by omega), if_neg c])]
  show smI _ _ + ((if bt q (tzn q) = 1 then eggs V (tzn q) else 0) - (if bt (lsb q) (tzn q) = 1 then eggs V (tzn q) else 0)) = _
  rw [if_pos h.1.2.2, h3, if_neg (by decide)]
  omega
theorem mins_lsb (hI : Iv D V) {q : Int} (hs : sub6 (V 0 0) q) (h0 : 0 < q) : mins V (lsb q) ≤ mins V q := by
  have hn := hI.1
  have h := tz_ok h0 hs.2.1
  have ht := tz_lt hs h0
  have h3 := h.2.2 (tzn q) h.1.1 h.1.2.1
  rw [if_pos rfl] at h3
  have hx := (hI.2.2.2.2.2.2.2.2.1 (tzn q) h.1.1 h.1.2.1).2.2.1
  unfold mins
  rw [smI_one (f := fun n => if bt q n = 1 then V 3 n else 0) (g := fun n => if bt (lsb q) n = 1 then V 3 n else 0) (V 0 0).toNat h.1.1 (by omega) (fun i a b c => by
    show (if bt q i = 1 then V 3 i else 0) = if bt (lsb q) i = 1 then V 3 i else 0
    rw [h.2.2 i a (by omega), if_neg c])]
  show _ ≤ smI _ _ + ((if bt q (tzn q) = 1 then V 3 (tzn q) else 0) - (if bt (lsb q) (tzn q) = 1 then V 3 (tzn q) else 0))
  rw [if_pos h.1.2.2, h3, if_neg (by decide)]
  omega
theorem bt0_f : ∀ i : Fin 6, bt 0 (i.val : Int) = 0 := by decide +kernel
theorem bt0 {i : Int} (h0 : 0 ≤ i) (h1 : i < 6) : bt 0 i = 0 := by
  have := bt0_f ⟨i.toNat, by omega⟩
  simpa only [nat_of h0] using this
theorem smI_zero {f : Int → Int} (n : Nat) (h : ∀ i : Int, 0 ≤ i → i < n → f i = 0) : smI f n = 0 := by
  rw [smI_congr (g := fun _ => 0) n h]
  induction n with
  | zero => rfl
  | succ n ih =>
    rw [smI_succ, ih (fun i a b => h i a (by omega))]
    rfl
theorem tkn0 (hn : 0 ≤ V 0 0 ∧ V 0 0 ≤ 6) : tkn V 0 = 0 := smI_zero _ (fun i a b => by
  show (if bt 0 i = 1 then eggs V i else 0) = 0
  rw [bt0 a (by omega), if_neg (by decide)])
theorem mins0 (hn : 0 ≤ V 0 0 ∧ V 0 0 ≤ 6) : mins V 0 = 0 := smI_zero _ (fun i a b => by
  show (if bt 0 i = 1 then V 3 i else 0) = 0
  rw [bt0 a (by omega), if_neg (by decide)])
theorem ast_hd (hn : 0 ≤ V 0 0 ∧ V 0 0 ≤ 6) (ht : 0 ≤ V 0 8) : ∀ e : Nat, ∃ l, ast V (e + 1) = 0 :: l
  | 0 => ⟨[], by rw [ast_succ, if_pos (by rw [show ((0 : Nat) : Int) = 0 from rfl, mins0 hn]; exact ht)]; rfl⟩
  | e + 1 => by
    obtain ⟨l, hl⟩ := ast_hd hn ht e
    rw [ast_succ V (e + 1), hl]
    exact ⟨_, rfl⟩
-- how many eggs a plan can find at most
theorem nit5 (V : zz_W) (z : Int) : nit V 5 z = if 0 ≤ z ∧ z < 10 * V 0 0 then (if z % 10 = 0 then (if z = 10 * lay V then 1 else 0) else if z % 10 < V 0 9 then V 5 (z - 1) else 0) else V 5 z := by
  unfold nit pass
  rw [if_pos rfl]
theorem tak5 (V : zz_W) (q z : Int) : tak V q 5 z = if 0 ≤ z ∧ z < 10 * V 0 0 ∧ bt q (z / 10) = 1 then 0 else V 5 z := by
  unfold tak
  rw [if_pos rfl]
theorem eggs_nit (hI : Iv D V) (hD : D ≤ 20000) (h0 : V 0 0 ≠ 0) {n : Int} (a : 0 ≤ n) (b : n < V 0 0) : eggs (nit V) n ≤ eggs V n + (if n = lay V then 1 else 0) := by
  have hn := hI.1
  have he := hI.2.2.2.2.2.2.2.2.2.1
  unfold eggs
  have key : ∀ j : Int, 0 ≤ j → j < 10 → nit V 5 (10 * n + j) = if j = 0 then (if n = lay V then 1 else 0) else if j < V 0 9 then V 5 (10 * n + j - 1) else 0 := by
    intro j h1 h2
    rw [nit5, if_pos (by omega)]
    by_cases hj : j = 0
    · rw [if_pos (by omega), if_pos hj]
      by_cases hw : n = lay V
      · rw [if_pos (by omega), if_pos hw]
      · rw [if_neg (by omega), if_neg hw]
    · rw [if_neg (by omega), if_neg hj, show (10 * n + j) % 10 = j by omega]
  have e0 := smI_shift (fun a => nit V 5 (10 * n + a)) 9
  have e1 : smI (fun a => V 5 (10 * n + a)) 10 = smI (fun a => V 5 (10 * n + a)) 9 + V 5 (10 * n + 9) := rfl
  have h9 := he (10 * n + 9) (by omega) (by omega)
  rw [show smI (fun a => nit V 5 (10 * n + a)) 10 = _ from e0, e1]
  have e2 : nit V 5 (10 * n + 0) = if n = lay V then 1 else 0 := by
    rw [key 0 (by decide) (by decide), if_pos rfl]
  have e3 : smI (fun j => nit V 5 (10 * n + (j + 1))) 9 ≤ smI (fun a => V 5 (10 * n + a)) 9 := by
    have : ∀ k : Nat, k ≤ 9 → smI (fun j => nit V 5 (10 * n + (j + 1))) k ≤ smI (fun a => V 5 (10 * n + a)) k := by
      intro k
      induction k with
      | zero => intro _; exact Int.le_refl _
      | succ k ih =>
        intro hk
        rw [smI_succ, smI_succ]
        have h1 := ih (by omega)
        have h2 := he (10 * n + k) (by omega) (by omega)
        have h3 : nit V 5 (10 * n + ((k : Int) + 1)) ≤ V 5 (10 * n + k) := by
          rw [key ((k : Int) + 1) (by omega) (by omega), if_neg (by omega)]
          split
          · rw [show 10 * n + ((k : Int) + 1) - 1 = 10 * n + k by omega]; omega
          · omega
        omega
    exact this 9 (by decide)
  show nit V 5 (10 * n + 0) + _ ≤ _
  rw [e2]
  omega
theorem smI_le {f g : Int → Int} : ∀ (n : Nat), (∀ i : Int, 0 ≤ i → i < n → f i ≤ g i) → smI f n ≤ smI g n
  | 0, _ => Int.le_refl _
  | n + 1, h => by
    have h1 := smI_le n (fun i a b => h i a (by omega))
    have h2 := h n (by omega) (by omega)
    rw [smI_succ, smI_succ]
    omega
theorem smI_add (f g : Int → Int) : ∀ n : Nat, smI (fun i => f i + g i) n = smI f n + smI g n
  | 0 => rfl
  | n + 1 => by
    rw [smI_succ, smI_succ, smI_succ, smI_add f g n]
    omega
theorem alle_nit (hI : Iv D V) (hD : D ≤ 20000) (h0 : V 0 0 ≠ 0) : alle (nit V) ≤ alle V + 1 := by
  have hn := hI.1
  have hl := lay_in hI hD h0
  unfold alle
  show smI (eggs (nit V)) (V 0 0).toNat ≤ _
  have h1 := smI_le (f := eggs (nit V)) (g := fun n => eggs V n + (if n = lay V then 1 else 0)) (V 0 0).toNat (fun i a b => eggs_nit hI hD h0 a (by omega))
  rw [smI_add] at h1
  have h2 := smI_one (f := fun n => if n = lay V then 1 else 0) (g := fun _ => 0) (t := lay V) (V 0 0).toNat hl.1 (by omega) (fun i a b c => if_neg c)
  rw [smI_zero (f := fun _ => 0) (V 0 0).toNat (fun _ _ _ => rfl)] at h2
  simp only [if_true] at h2
  omega
theorem alle_tak (hn : 0 ≤ V 0 0 ∧ V 0 0 ≤ 6) {q : Int} (hq : 0 ≤ q ∧ q < 64) : alle (tak V q) + tkn V q = alle V := by
  unfold alle tkn
  rw [tak_sc V q 0 (by decide), ← smI_add]
  refine smI_congr _ (fun i a b => ?_)
  have hb := bt_01 hq.1 hq.2 a (show i < 6 by omega)
  have e : eggs (tak V q) i = if bt q i = 1 then 0 else eggs V i := by
    unfold eggs
    by_cases h : bt q i = 1
    · rw [if_pos h]
      refine smI_zero 10 (fun j c d => ?_)
      have : (10 * i + j) / 10 = i := by omega
      show tak V q 5 (10 * i + j) = 0
      rw [tak5, if_pos ⟨by omega, by omega, by rw [this]; exact h⟩]
    · rw [if_neg h]
      refine smI_congr 10 (fun j c d => ?_)
      have : (10 * i + j) / 10 = i := by omega
      show tak V q 5 (10 * i + j) = V 5 (10 * i + j)
      rw [tak5, if_neg]
      rintro ⟨-, -, g⟩
      rw [this] at g
      exact h g
  show eggs (tak V q) i + (if bt q i = 1 then eggs V i else 0) = eggs V i
  rw [e]
  split <;> omega
theorem ast_nt (V : zz_W) (q : Int) : ast (nit (tak V q)) (ase (nit (tak V q))) = ast V (ase V) := rfl
theorem ast_64 (hI : Iv D V) {q : Nat} (hq : q ∈ ast V (ase V)) : q < 64 ∧ sub6 (V 0 0) (q : Int) := by
  have hn := hI.1
  obtain ⟨e1, e2, e3, e4⟩ := ase_pow hn
  have h := (ast_mem.mp hq).1
  exact ⟨by omega, pw_sub hn.1 hn.2 (by rw [← e2]; exact h) (by omega)⟩
theorem pfv_bd : ∀ (n : Nat) {V : zz_W} {D : Int}, Iv D V → D + n ≤ 20000 → V 0 0 ≠ 0 → 0 ≤ (pfv (n + 1) V).1 ∧ (pfv (n + 1) V).1 ≤ alle V + n ∧ ∀ q ∈ ast V (ase V), tkn V (q : Int) + (pfv n (nit (tak V (q : Int)))).1 ≤ alle V + n
  | n, V, D, hI, hD, h0 => by
    have hn := hI.1
    obtain ⟨e1, e2, e3, e4⟩ := ase_pow hn
    have each : ∀ q ∈ ast V (ase V), 0 ≤ (pfv n (nit (tak V (q : Int)))).1 ∧ tkn V (q : Int) + (pfv n (nit (tak V (q : Int)))).1 ≤ alle V + n := by
      intro q hq
      have h64 := (ast_64 hI hq).1
      have h1 := alle_tak hn (q := (q : Int)) (by omega)
      have hIt := Iv_tak hI (s := (q : Int)) (by omega) (by omega)
      have hst : tak V (q : Int) 0 0 ≠ 0 := by rw [tak_sc _ _ _ (by decide)]; exact h0
      have h2 := alle_nit hIt (by omega) hst
      match n with
      | 0 =>
        have h3 : 0 ≤ alle (tak V (q : Int)) := by
          have := smI_bd (f := eggs (tak V (q : Int))) (c := 90) (tak V (q : Int) 0 0).toNat (fun i a b => by
            have := hIt.1
            exact eggs_bd hIt.2.2.2.2.2.2.2.2.2.1 a (by omega) 10 (by decide))
          exact this.1
        refine ⟨Int.le_refl _, ?_⟩
        show tkn V (q : Int) + 0 ≤ _
        omega
      | n + 1 =>
        have hIn := nit_ok hIt (by omega) hst
        have h3 := pfv_bd n hIn (by omega) hst
        refine ⟨h3.1, ?_⟩
        have := h3.2.1
        push_cast
        omega
    refine ⟨?_, ?_, fun q hq => (each q hq).2⟩
    · obtain ⟨l, hl⟩ := ast_hd hn hI.2.2.2.2.2.2.1.1 (ase V - 1)
      rw [show ase V - 1 + 1 = ase V by omega] at hl
      have h0m : 0 ∈ ast V (ase V) := by rw [hl]; exact List.mem_cons_self
      have h1 := bsf_mem (fun q => tkn V (q : Int) + (pfv n (nit (tak V (q : Int)))).1) (ast V (ase V)) (-1, 0) 0 h0m
      have h2 := (each 0 h0m).1
      have h3 := tkn0 hn
      show 0 ≤ (bsf (fun q => tkn V (q : Int) + (pfv n (nit (tak V (q : Int)))).1) (ast V (ase V)) (-1, 0)).1
      have h1 : tkn V ((0 : Nat) : Int) + (pfv n (nit (tak V ((0 : Nat) : Int)))).1 ≤ (bsf (fun q => tkn V (q : Int) + (pfv n (nit (tak V (q : Int)))).1) (ast V (ase V)) (-1, 0)).1 := h1
      rw [show ((0 : Nat) : Int) = 0 from rfl, h3] at h1
      rw [show ((0 : Nat) : Int) = 0 from rfl] at h2
      omega
    · have ha : 0 ≤ alle V := (smI_bd (f := eggs V) (c := 90) (V 0 0).toNat (fun i a b => eggs_bd hI.2.2.2.2.2.2.2.2.2.1 a (by omega) 10 (by decide))).1
      exact bsf_le _ _ _ (by show (-1 : Int) ≤ _; omega) (fun q hq => (each q hq).2)
end PL3
