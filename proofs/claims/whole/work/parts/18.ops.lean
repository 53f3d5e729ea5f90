/-! ===== what each call answers and leaves, in plain words. A state: the yard, its image, the rest (0: letters, in the row, whether there is an image; 1 letters; 2 the row; 3 refusals) ===== -/
abbrev zz_S : Type := zz_W × zz_W × zz_W
abbrev zz_A : Type := Int × zz_S
def rfS (s : zz_S) (k : Int) : zz_S := (s.1, s.2.1, ux s.2.2 3 k (nrm (s.2.2 3 k + 1)))
def rfo (s : zz_S) (k : Int) : zz_A := (-k, rfS s k)
def isn (V : zz_W) (n : Int) : Prop := 0 ≤ n ∧ n < V 0 0
def o_feed (s : zz_S) (l : Int) : zz_A := if l < 0 then rfo s 4 else if 255 < l ∨ 80 ≤ s.2.2 0 0 then rfo s 6 else (s.2.2 0 0 + 1, (s.1, s.2.1, ux (ux s.2.2 1 (s.2.2 0 0) l) 0 0 (s.2.2 0 0 + 1)))
def o_nest (s : zz_S) (n w : Int) : zz_A :=
  if n < 0 ∨ s.1 0 0 ≤ n then rfo s 1 else if w = 0 then (s.1 1 n, s) else if w = 1 then (s.1 2 n, s) else if w = 2 then (s.1 3 n, s) else if w = 3 then (s.1 4 n, s) else
  if w = 4 then (eggs s.1 n, s) else if w = 5 then (gage s.1 n, s) else if w = 6 then (wt s.1 (may s.1 (alln (s.1 0 0))) n, s) else if w = 7 then (bt (s.1 0 2) n, s) else rfo s 2
def lo_f (q : Int) : Int := if q = 3 then 1 else 0
def hi_f (q : Int) : Int := if q = 0 then 5 else if q = 2 then 40 else 9
def o_set (s : zz_S) (q v : Int) : zz_A := if q < 0 ∨ 4 ≤ q then rfo s 2 else if v < lo_f q then rfo s 4 else if hi_f q < v then rfo s 6 else (s.1 0 (6 + q), (ux s.1 0 (6 + q) v, s.2))
def o_look (s : zz_S) (n : Int) : zz_A := if n < 0 ∨ s.1 0 0 ≤ n then rfo s 1 else if bt (s.1 0 2) n = 1 then rfo s 3 else if tml s.1 < s.1 3 n then rfo s 6 else
  (tkn s.1 (isl 1 n), (ux (tak s.1 (isl 1 n)) 0 5 (nrm (s.1 0 5 + tkn s.1 (isl 1 n))), s.2))
def nit (V : zz_W) : zz_W := pass V (lay V)
def o_night (s : zz_S) : zz_A := if s.1 0 0 = 0 then rfo s 3 else if 9999 ≤ s.1 0 4 then rfo s 6 else (lay s.1, (nit s.1, s.2))
def o_tonight (s : zz_S) (w : Int) : zz_A := if w < 0 ∨ 1 < w then rfo s 2 else if s.1 0 0 = 0 then rfo s 3 else (if w = 0 then lay s.1 else may s.1 (alln (s.1 0 0)), s)
def gcI (a b : Int) : Int := (Nat.gcd a.toNat b.toNat : Int)
def mya (V : zz_W) : Int := may V (alln (V 0 0))
def o_likely (s : zz_S) (n p : Int) : zz_A := if n < 0 ∨ s.1 0 0 ≤ n then (4000000000000000001, rfS s 1) else if p < 0 ∨ 1 < p then (4000000000000000002, rfS s 2) else
  ((if p = 0 then wt s.1 (mya s.1) n else wtot s.1 (mya s.1)) / gcI (wt s.1 (mya s.1) n) (wtot s.1 (mya s.1)), s)
/-- n days of looks at one set -/
def eac (q : Int) : Nat → zz_W → Int × zz_W
  | 0, V => (0, V)
  | n + 1, V => ((eac q n V).1 + tkn (eac q n V).2 q, nit (tak (eac q n V).2 q))
def o_each (s : zz_S) (q n : Int) : zz_A := if isr q (s.1 0 0) ≠ 0 then rfo s 1 else if n < 1 then rfo s 4 else if 30 < n then rfo s 6 else if s.1 0 0 = 0 then rfo s 3 else ((eac q n.toNat (ux s.1 0 2 0)).1, s)
def o_row (s : zz_S) (n : Int) : zz_A := if n < 0 then rfo s 4 else if 6 ≤ n ∨ 8 ≤ s.2.2 0 1 then rfo s 6 else (s.2.2 0 1 + 1, (s.1, s.2.1, ux (ux s.2.2 2 (s.2.2 0 1) n) 0 1 (s.2.2 0 1 + 1)))
/-- nights without looks -/
def nts : Nat → zz_W → zz_W
  | 0, V => V
  | n + 1, V => nit (nts n V)
/-- the nest of the i-th night from now on of a hen of a kind -/
def ldn (V : zz_W) (k : Int) (i : Nat) : Int := lay (nts i (ux V 0 6 k))
/-- the first place (from i, of n) at which the told row is not so -/
def fun_ (T V : zz_W) (k : Int) : Nat → Nat → Int
  | 0, _ => -9
  | n + 1, i => if T 2 (i : Int) = ldn V k i then fun_ T V k n (i + 1) else (i : Int)
def fut (s : zz_S) (k : Int) : Int := fun_ s.2.2 s.1 k (s.2.2 0 1).toNat 0
def wys (s : zz_S) : Nat → Int
  | 0 => 0
  | k + 1 => if fut s k = -9 then ior (wys s k) (isl 1 k) else wys s k
def o_ways (s : zz_S) : zz_A := if s.1 0 0 = 0 then rfo s 3 else (wys s 6, s)
/-- behind how many nights the rows of two kinds are unlike -/
def nun (V : zz_W) (a b : Int) : Nat → Nat → Int
  | 0, _ => 0
  | n + 1, i => if ldn V a i = ldn V b i then nun V a b n (i + 1) else (i : Int) + 1
def mxx (a b : Int) : Int := if a < b then b else a
def so2 (V : zz_W) (k : Nat) (x : Int) : Nat → Int
  | 0 => x
  | j + 1 => mxx (so2 V k x j) (nun V k j 8 0)
def so1 (V : zz_W) : Nat → Int
  | 0 => 0
  | k + 1 => so2 V k (so1 V k) k
def o_soon (s : zz_S) : zz_A := if s.1 0 0 = 0 then rfo s 3 else (so1 s.1 6, s)
def o_settle (s : zz_S) (n : Int) : zz_A := if n < 0 then rfo s 4 else if 30 < n then rfo s 6 else if s.1 0 0 = 0 then rfo s 3 else (alle (nts n.toNat s.1), s)
def o_without (s : zz_S) (n : Int) : zz_A := if n < 0 ∨ s.1 0 0 ≤ n then rfo s 1 else (lc (lays s.1 (ian (alln (s.1 0 0)) (ixr (isl 1 n) (-1)))), s)
def o_put (s : zz_S) (x y l : Int) : zz_A := if x < 0 ∨ y < 0 ∨ l < 0 then rfo s 4 else if 9 < x ∨ 9 < y ∨ 9 < l ∨ s.1 0 0 = 6 then rfo s 6 else (lay (addn s.1 x y 0 l), s)
def bee (f : Int → Int) : Nat → Nat → Int
  | 0, _ => -9
  | n + 1, i => if 0 < f (i : Int) then (i : Int) else bee f n (i + 1)
def o_been (s : zz_S) (g : Int) : zz_A := if g < 0 then rfo s 4 else if 9 < g then rfo s 6 else (bee (fun n => s.1 5 (10 * n + g)) (s.1 0 0).toNat 0, s)
def o_judge (s : zz_S) : zz_A := if s.1 0 0 = 0 then rfo s 3 else (fut s (s.1 0 6), (s.1, s.2.1, ux s.2.2 0 1 0))
def nsd (z : Int) : Int := nrm (nrm (z * 1103515245) + 12345)
def drw (n z : Int) : Int := irm (idv (ian z 2147483647) 65536) n
/-- one day by seeds: eggs found, yard, seed -/
def sda (f : Int) (V : zz_W) (z : Int) : Int × zz_W × Int :=
  (f + tkn V (isl 1 (drw (V 0 0) (nsd z))),
   pass (tak V (isl 1 (drw (V 0 0) (nsd z)))) (naw (wt (tak V (isl 1 (drw (V 0 0) (nsd z)))) (mya (tak V (isl 1 (drw (V 0 0) (nsd z)))))) (V 0 0).toNat 0 (drw (wtot (tak V (isl 1 (drw (V 0 0) (nsd z)))) (mya (tak V (isl 1 (drw (V 0 0) (nsd z)))))) (nsd (nsd z)))),
   nsd (nsd z))
def sds (V : zz_W) (z : Int) : Nat → Int × zz_W × Int
  | 0 => (0, V, z)
  | n + 1 => sda (sds V z n).1 (sds V z n).2.1 (sds V z n).2.2
def o_seeds (s : zz_S) (n z : Int) : zz_A := if n < 1 then rfo s 4 else if 60 < n then rfo s 6 else if s.1 0 0 = 0 then rfo s 3 else ((sds s.1 z n.toNat).1, s)
def o_clear (s : zz_S) : zz_A := (s.2.2 0 1, (s.1, s.2.1, ux s.2.2 0 1 0))
def o_image (s : zz_S) : zz_A := (s.1 0 4, (s.1, s.1, ux s.2.2 0 2 1))
def o_restore (s : zz_S) : zz_A := if s.2.2 0 2 = 0 then rfo s 3 else (s.2.1 0 4, (s.2.1, s.2))
def o_count (s : zz_S) (w : Int) : Int :=
  if w = 0 then s.1 0 0 else if w = 1 then s.1 0 4 else if w = 2 then alle s.1 else if w = 3 then lc (s.1 0 1) else if w = 4 then s.1 0 2 else if w = 5 then s.1 0 3 else if w = 6 then tml s.1 else
  if w = 7 then s.2.2 0 0 else if w = 8 then s.2.2 0 1 else if w = 9 then s.1 0 5 else if 11 ≤ w ∧ w ≤ 16 then s.2.2 3 (w - 10) else -9
/-- what holds of a state -/
def Is (s : zz_S) : Prop := Iv 9999 s.1 ∧ Iv 9999 s.2.1 ∧ (0 ≤ s.2.2 0 0 ∧ s.2.2 0 0 ≤ 80) ∧ (0 ≤ s.2.2 0 1 ∧ s.2.2 0 1 ≤ 8) ∧ (s.2.2 0 2 = 0 ∨ s.2.2 0 2 = 1)
/-! ===== the class's memory ===== -/
def CR (m : zz_M) (T : zz_W) : Prop :=
  m 53 1 = T 0 0 ∧ (∀ z : Int, 0 ≤ z → z < 80 → m 54 z.toNat = T 1 z) ∧ m 55 8 = T 0 1 ∧ m 55 9 = T 0 2 ∧ (∀ z : Int, 0 ≤ z → z < 8 → m 56 z.toNat = T 2 z) ∧ (∀ z : Int, 0 ≤ z → z < 7 → m 58 z.toNat = T 3 z)
def CY (m : zz_M) (V K : zz_W) : Prop := YP m 0 V ∧ YP m 8 K ∧ (∃ V', YP m 16 V') ∧ (∃ V', YP m 24 V') ∧ (∃ V', YP m 32 V') ∧ (∃ V', YP m 40 V') ∧ m 52 0 = 0
def CP (m : zz_M) (s : zz_S) : Prop := CY m s.1 s.2.1 ∧ CR m s.2.2
theorem CR.fr {m m' : zz_M} {T : zz_W} (h : CR m T) (h53 : m' 53 = m 53) (h54 : m' 54 = m 54) (h55 : m' 55 = m 55) (h56 : m' 56 = m 56) (h58 : m' 58 = m 58) : CR m' T := by
  unfold CR at h ⊢
  rw [h53, h54, h55, h56, h58]
  exact h
theorem CR.f53 {m m' : zz_M} {T : zz_W} (h : CR m T) {lo hi : Nat} (hf : Fr lo hi m m') (hh : hi ≤ 53) : CR m' T := h.fr (hf _ (by omega)) (hf _ (by omega)) (hf _ (by omega)) (hf _ (by omega)) (hf _ (by omega))
theorem CY.f53 {m m' : zz_M} {V K : zz_W} (h : CY m V K) {lo hi : Nat} (hf : Fr lo hi m m') (hh : 53 ≤ lo) : CY m' V K := by
  obtain ⟨h1, h2, ⟨V3, h3⟩, ⟨V4, h4⟩, ⟨V5, h5⟩, ⟨V6, h6⟩, h7⟩ := h
  exact ⟨h1.fr hf (by omega), h2.fr hf (by omega), ⟨V3, h3.fr hf (by omega)⟩, ⟨V4, h4.fr hf (by omega)⟩, ⟨V5, h5.fr hf (by omega)⟩, ⟨V6, h6.fr hf (by omega)⟩, by rw [hf 52 (by omega)]; exact h7⟩
/-- only the mind changed, or weights -/
theorem CY.mind {m m' : zz_M} {V K V' : zz_W} (h : CY m V K) (hf : Fr 16 24 m m') (h' : YP m' 16 V') : CY m' V K := by
  obtain ⟨h1, h2, -, ⟨V4, h4⟩, ⟨V5, h5⟩, ⟨V6, h6⟩, h7⟩ := h
  exact ⟨h1.fr hf (by omega), h2.fr hf (by omega), ⟨V', h'⟩, ⟨V4, h4.fr hf (by omega)⟩, ⟨V5, h5.fr hf (by omega)⟩, ⟨V6, h6.fr hf (by omega)⟩, by rw [hf 52 (by omega)]; exact h7⟩
theorem CY.yard {m m' : zz_M} {V K V' : zz_W} (h : CY m V K) (hf : Fr 0 8 m m') (h' : YP m' 0 V') : CY m' V' K := by
  obtain ⟨h1, h2, ⟨V3, h3⟩, ⟨V4, h4⟩, ⟨V5, h5⟩, ⟨V6, h6⟩, h7⟩ := h
  exact ⟨h', h2.fr hf (by omega), ⟨V3, h3.fr hf (by omega)⟩, ⟨V4, h4.fr hf (by omega)⟩, ⟨V5, h5.fr hf (by omega)⟩, ⟨V6, h6.fr hf (by omega)⟩, by rw [hf 52 (by omega)]; exact h7⟩
theorem CY.kept {m m' : zz_M} {V K V' : zz_W} (h : CY m V K) (hf : Fr 8 16 m m') (h' : YP m' 8 V') : CY m' V V' := by
  obtain ⟨h1, h2, ⟨V3, h3⟩, ⟨V4, h4⟩, ⟨V5, h5⟩, ⟨V6, h6⟩, h7⟩ := h
  exact ⟨h1.fr hf (by omega), h', ⟨V3, h3.fr hf (by omega)⟩, ⟨V4, h4.fr hf (by omega)⟩, ⟨V5, h5.fr hf (by omega)⟩, ⟨V6, h6.fr hf (by omega)⟩, by rw [hf 52 (by omega)]; exact h7⟩
theorem CP.yard {m m' : zz_M} {s : zz_S} {V' : zz_W} (h : CP m s) (hf : Fr 0 8 m m') (h' : YP m' 0 V') : CP m' (V', s.2) := ⟨h.1.yard hf h', h.2.f53 hf (by omega)⟩
theorem CP.mind {m m' : zz_M} {s : zz_S} {V' : zz_W} (h : CP m s) (hf : Fr 16 24 m m') (h' : YP m' 16 V') : CP m' s := ⟨h.1.mind hf h', h.2.f53 hf (by omega)⟩
theorem CP.rest {m m' : zz_M} {s : zz_S} {T : zz_W} (h : CP m s) {lo hi : Nat} (hf : Fr lo hi m m') (hh : 53 ≤ lo) (h' : CR m' T) : CP m' (s.1, s.2.1, T) := ⟨h.1.f53 hf hh, h'⟩
