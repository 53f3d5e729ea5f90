/-! ===== the yard, in plain words: V 0 holds nests, last (-1 none), looked, before, day, found, kind, figure, time, rat; V 1 .. 4 xs, ys, minutes, likings; V 5 eggs by nest and age ===== -/
abbrev zz_W : Type := Nat → Int → Int
def ux (V : zz_W) (a : Nat) (z x : Int) : zz_W := fun a' z' => if a' = a ∧ z' = z then x else V a' z'
def smI (f : Int → Int) : Nat → Int
  | 0 => 0
  | n + 1 => smI f n + f (n : Int)
theorem smI_succ (f : Int → Int) (n : Nat) : smI f (n + 1) = smI f n + f (n : Int) := rfl
theorem smI_bd {f : Int → Int} {c : Int} : ∀ (n : Nat), (∀ i : Int, 0 ≤ i → i < n → 0 ≤ f i ∧ f i ≤ c) → 0 ≤ smI f n ∧ smI f n ≤ c * n
  | 0, _ => ⟨Int.le_refl _, by simp [smI]⟩
  | n + 1, h => by
    have h1 := smI_bd n (fun i h0 h1 => h i h0 (by omega))
    have h2 := h n (by omega) (by omega)
    have e : c * ((n + 1 : Nat) : Int) = c * n + c := by rw [Int.natCast_add, Int.mul_add]; simp
    rw [e]
    show 0 ≤ smI f n + f n ∧ smI f n + f n ≤ _
    omega
theorem smI_congr {f g : Int → Int} : ∀ (n : Nat), (∀ i : Int, 0 ≤ i → i < n → f i = g i) → smI f n = smI g n
  | 0, _ => rfl
  | n + 1, h => by
    show smI f n + f n = smI g n + g n
    rw [smI_congr n (fun i h0 h1 => h i h0 (by omega)), h n (by omega) (by omega)]
def bt (s n : Int) : Int := ian (isr s n) 1
def alln (n : Int) : Int := isl 1 n - 1
def eggs (V : zz_W) (n : Int) : Int := smI (fun a => V 5 (10 * n + a)) 10
def alle (V : zz_W) : Int := smI (eggs V) (V 0 0).toNat
def mins (V : zz_W) (s : Int) : Int := smI (fun n => if bt s n = 1 then V 3 n else 0) (V 0 0).toNat
def may (V : zz_W) (p : Int) : Int := if ian p (ixr (V 0 2) (-1)) = 0 then p else ian p (ixr (V 0 2) (-1))
def zabs (x : Int) : Int := if 0 ≤ x then x else -x
def lfrom (V : zz_W) : Int := if V 0 1 < 0 then 0 else V 0 1
def near (V : zz_W) (n : Int) : Int := 20 - zabs (V 1 n - V 1 (lfrom V)) - zabs (V 2 n - V 2 (lfrom V))
def away (V : zz_W) (n : Int) : Int := if n = V 0 1 then 0 else near V n
def raw (V : zz_W) (n : Int) : Int :=
  if V 0 6 = 1 then V 4 n else if V 0 6 = 2 then 1 else if V 0 6 = 3 then away V n else
  if V 0 6 = 4 then away V n + V 0 7 * (if 0 < 9 - eggs V n then 9 - eggs V n else 0) else
  if V 0 6 = 5 then V 4 n + (if n = V 0 7 then 10 else 0) else near V n
def wsum (V : zz_W) (y : Int) : Int := smI (fun n => if bt y n = 1 then raw V n else 0) (V 0 0).toNat
def wt (V : zz_W) (y n : Int) : Int := if wsum V y = 0 then bt y n else if bt y n = 1 then raw V n else 0
def wtot (V : zz_W) (y : Int) : Int := if wsum V y = 0 then smI (bt y) (V 0 0).toNat else wsum V y
/-- where a weight is greatest, of several the least number, and that weight -/
def amx (f : Int → Int) : Nat → Int × Int
  | 0 => (-1, 0)
  | n + 1 => if (amx f n).2 < f n then ((n : Int), f n) else amx f n
/-- the k-th (from 0) of the nests of a set, from i on -/
def nth (y : Int) : Nat → Int → Int → Int
  | 0, _, _ => -1
  | n + 1, i, k => if bt y i = 1 then (if k = 0 then i else nth y n (i + 1) (k - 1)) else nth y n (i + 1) k
def lays (V : zz_W) (p : Int) : Int :=
  if V 0 6 = 2 then (if smI (bt (may V p)) (V 0 0).toNat = 0 then -1 else nth (may V p) (V 0 0).toNat 0 (irm (V 0 4 * (V 0 7 + 1)) (smI (bt (may V p)) (V 0 0).toNat)))
  else (amx (wt V (may V p)) (V 0 0).toNat).1
def pass (V : zz_W) (w : Int) : zz_W := fun a z =>
  if a = 5 then (if 0 ≤ z ∧ z < 10 * V 0 0 then (if z % 10 = 0 then (if z = 10 * w then 1 else 0) else if z % 10 < V 0 9 then V 5 (z - 1) else 0) else V 5 z)
  else if a = 0 then (if z = 1 then w else if z = 2 then 0 else if z = 3 then V 0 2 else if z = 4 then V 0 4 + 1 else V 0 z)
  else V a z
def tkn (V : zz_W) (s : Int) : Int := smI (fun n => if bt s n = 1 then eggs V n else 0) (V 0 0).toNat
def tak (V : zz_W) (s : Int) : zz_W := fun a z =>
  if a = 5 then (if 0 ≤ z ∧ z < 10 * V 0 0 ∧ bt s (z / 10) = 1 then 0 else V 5 z)
  else if a = 0 ∧ z = 2 then ior (V 0 2) s else V a z
/-- what holds of every yard -/
def Iv (D : Int) (V : zz_W) : Prop :=
  (0 ≤ V 0 0 ∧ V 0 0 ≤ 6) ∧ (-1 ≤ V 0 1 ∧ V 0 1 < V 0 0 ∨ V 0 1 = -1) ∧ (0 ≤ V 0 2 ∧ V 0 2 < 64) ∧ (0 ≤ V 0 4 ∧ V 0 4 ≤ D) ∧ (0 ≤ V 0 6 ∧ V 0 6 ≤ 5) ∧ (0 ≤ V 0 7 ∧ V 0 7 ≤ 9) ∧ (0 ≤ V 0 8 ∧ V 0 8 ≤ 40) ∧ (1 ≤ V 0 9 ∧ V 0 9 ≤ 9) ∧
  (∀ z, 0 ≤ z → z < 6 → (0 ≤ V 1 z ∧ V 1 z ≤ 9) ∧ (0 ≤ V 2 z ∧ V 2 z ≤ 9) ∧ (0 ≤ V 3 z ∧ V 3 z ≤ 9) ∧ (0 ≤ V 4 z ∧ V 4 z ≤ 9)) ∧
  (∀ z, 0 ≤ z → z < 60 → 0 ≤ V 5 z ∧ V 5 z ≤ 9) ∧ (∀ z, 10 * V 0 0 ≤ z → z < 60 → V 5 z = 0)
def lc (z : Int) : Int := if z < 0 then -9 else z
/-- the places of a yard's cells -/
def YB (b : Nat) : Prop := (kd b = (4, 13) ∧ kd (b + 1) = (0, 6) ∧ kd (b + 2) = (0, 6) ∧ kd (b + 3) = (0, 6) ∧ kd (b + 4) = (0, 6) ∧ kd (b + 5) = (0, 60) ∧ kd (b + 6) = (0, 4) ∧ kd (b + 7) = (0, 6)) ∧ b < 48
theorem yb_k {b : Nat} (h : YB b) : kd b = (4, 13) := h.1.1
theorem yb_a0 {b : Nat} (h : YB b) : kd (b + 1) = (0, 6) := h.1.2.1
theorem yb_a1 {b : Nat} (h : YB b) : kd (b + 2) = (0, 6) := h.1.2.2.1
theorem yb_a2 {b : Nat} (h : YB b) : kd (b + 3) = (0, 6) := h.1.2.2.2.1
theorem yb_a3 {b : Nat} (h : YB b) : kd (b + 4) = (0, 6) := h.1.2.2.2.2.1
theorem yb_a4 {b : Nat} (h : YB b) : kd (b + 5) = (0, 60) := h.1.2.2.2.2.2.1
theorem yb_a5 {b : Nat} (h : YB b) : kd (b + 6) = (0, 4) := h.1.2.2.2.2.2.2.1
theorem yb_a6 {b : Nat} (h : YB b) : kd (b + 7) = (0, 6) := h.1.2.2.2.2.2.2.2
theorem yb_pt {b : Nat} (h : YB b) (k : Nat) : pt b k = b + 1 + k := by
  unfold pt
  rw [if_pos (by have := h.2; omega)]
theorem yb_p0 {b : Nat} (h : YB b) : pt b 0 = b + 1 := yb_pt h 0
theorem yb_p1 {b : Nat} (h : YB b) : pt b 1 = b + 2 := yb_pt h 1
theorem yb_p2 {b : Nat} (h : YB b) : pt b 2 = b + 3 := yb_pt h 2
theorem yb_p3 {b : Nat} (h : YB b) : pt b 3 = b + 4 := yb_pt h 3
theorem yb_p4 {b : Nat} (h : YB b) : pt b 4 = b + 5 := yb_pt h 4
theorem yb_p5 {b : Nat} (h : YB b) : pt b 5 = b + 6 := yb_pt h 5
theorem yb_p6 {b : Nat} (h : YB b) : pt b 6 = b + 7 := yb_pt h 6
theorem yb_0 : YB 0 := ⟨⟨rfl, rfl, rfl, rfl, rfl, rfl, rfl, rfl⟩, by decide⟩
theorem yb_8 : YB 8 := ⟨⟨rfl, rfl, rfl, rfl, rfl, rfl, rfl, rfl⟩, by decide⟩
theorem yb_16 : YB 16 := ⟨⟨rfl, rfl, rfl, rfl, rfl, rfl, rfl, rfl⟩, by decide⟩
theorem yb_24 : YB 24 := ⟨⟨rfl, rfl, rfl, rfl, rfl, rfl, rfl, rfl⟩, by decide⟩
theorem yb_32 : YB 32 := ⟨⟨rfl, rfl, rfl, rfl, rfl, rfl, rfl, rfl⟩, by decide⟩
theorem yb_40 : YB 40 := ⟨⟨rfl, rfl, rfl, rfl, rfl, rfl, rfl, rfl⟩, by decide⟩
/-- a yard at b holds V -/
def YP (m : zz_M) (b : Nat) (V : zz_W) : Prop :=
  (m b 7 = V 0 0 ∧ m b 8 = lc (V 0 1) ∧ m b 9 = V 0 2 ∧ m b 10 = V 0 3 ∧ m b 11 = V 0 4 ∧ m b 12 = V 0 5) ∧ (∀ z : Int, 0 ≤ z → z < 4 → m (b + 6) z.toNat = V 0 (6 + z)) ∧
  (∀ z : Int, 0 ≤ z → z < 6 → m (b + 1) z.toNat = V 1 z ∧ m (b + 2) z.toNat = V 2 z ∧ m (b + 3) z.toNat = V 3 z ∧ m (b + 4) z.toNat = V 4 z) ∧ (∀ z : Int, 0 ≤ z → z < 60 → m (b + 5) z.toNat = V 5 z)
/-- what lies outside [lo, hi) stays -/
def Fr (lo hi : Nat) (m m' : zz_M) : Prop := ∀ k, (k < lo ∨ hi ≤ k) → m' k = m k
theorem Fr.rf {lo hi : Nat} {m : zz_M} : Fr lo hi m m := fun _ _ => rfl
theorem Fr.tr {lo hi : Nat} {m m' m'' : zz_M} (h : Fr lo hi m m') (h' : Fr lo hi m' m'') : Fr lo hi m m'' := fun k hk => (h' k hk).trans (h k hk)
theorem Fr.up {lo hi : Nat} {m m' : zz_M} (h : Fr lo hi m m') {k j : Nat} {v : Int} (h1 : lo ≤ k) (h2 : k < hi) : Fr lo hi m (up m' k j v) := fun q hq => by
  rw [up_cell (by omega)]
  exact h q hq
theorem Fr.wd {lo hi lo' hi' : Nat} {m m' : zz_M} (h : Fr lo hi m m') (h1 : lo' ≤ lo) (h2 : hi ≤ hi') : Fr lo' hi' m m' := fun k hk => h k (by omega)
theorem YP.kept {m m' : zz_M} {b : Nat} {V : zz_W} (h : YP m b V) (hf : ∀ k, b ≤ k → k < b + 7 → m' k = m k) : YP m' b V := by
  unfold YP at h ⊢
  rw [hf b (by omega) (by omega), hf (b + 1) (by omega) (by omega), hf (b + 2) (by omega) (by omega), hf (b + 3) (by omega) (by omega), hf (b + 4) (by omega) (by omega), hf (b + 5) (by omega) (by omega), hf (b + 6) (by omega) (by omega)]
  exact h
theorem YP.fr {m m' : zz_M} {b lo hi : Nat} {V : zz_W} (h : YP m b V) (hf : Fr lo hi m m') (hd : b + 7 ≤ lo ∨ hi ≤ b) : YP m' b V := h.kept (fun k h1 h2 => hf k (by omega))
theorem YP.w {m : zz_M} {b j : Nat} {V : zz_W} {v : Int} (h : YP m b V) : YP (up m (b + 7) j v) b V := h.kept (fun k h1 h2 => up_cell (by omega))
theorem YP.nests {m : zz_M} {b : Nat} {V : zz_W} (h : YP m b V) : m b 7 = V 0 0 := h.1.1
theorem YP.last {m : zz_M} {b : Nat} {V : zz_W} (h : YP m b V) : m b 8 = lc (V 0 1) := h.1.2.1
theorem YP.looked {m : zz_M} {b : Nat} {V : zz_W} (h : YP m b V) : m b 9 = V 0 2 := h.1.2.2.1
theorem YP.before {m : zz_M} {b : Nat} {V : zz_W} (h : YP m b V) : m b 10 = V 0 3 := h.1.2.2.2.1
theorem YP.day {m : zz_M} {b : Nat} {V : zz_W} (h : YP m b V) : m b 11 = V 0 4 := h.1.2.2.2.2.1
theorem YP.found {m : zz_M} {b : Nat} {V : zz_W} (h : YP m b V) : m b 12 = V 0 5 := h.1.2.2.2.2.2
theorem YP.kind {m : zz_M} {b : Nat} {V : zz_W} (h : YP m b V) : m (b + 6) (0 : Int).toNat = V 0 6 := h.2.1 0 (by decide) (by decide)
theorem YP.figure {m : zz_M} {b : Nat} {V : zz_W} (h : YP m b V) : m (b + 6) (1 : Int).toNat = V 0 7 := h.2.1 1 (by decide) (by decide)
theorem YP.time {m : zz_M} {b : Nat} {V : zz_W} (h : YP m b V) : m (b + 6) (2 : Int).toNat = V 0 8 := h.2.1 2 (by decide) (by decide)
theorem YP.rat {m : zz_M} {b : Nat} {V : zz_W} (h : YP m b V) : m (b + 6) (3 : Int).toNat = V 0 9 := h.2.1 3 (by decide) (by decide)
theorem YP.x {m : zz_M} {b : Nat} {V : zz_W} (h : YP m b V) {z : Int} (h0 : 0 ≤ z) (h1 : z < 6) : m (b + 1) z.toNat = V 1 z := (h.2.2.1 z h0 h1).1
theorem YP.y {m : zz_M} {b : Nat} {V : zz_W} (h : YP m b V) {z : Int} (h0 : 0 ≤ z) (h1 : z < 6) : m (b + 2) z.toNat = V 2 z := (h.2.2.1 z h0 h1).2.1
theorem YP.min {m : zz_M} {b : Nat} {V : zz_W} (h : YP m b V) {z : Int} (h0 : 0 ≤ z) (h1 : z < 6) : m (b + 3) z.toNat = V 3 z := (h.2.2.1 z h0 h1).2.2.1
theorem YP.lik {m : zz_M} {b : Nat} {V : zz_W} (h : YP m b V) {z : Int} (h0 : 0 ≤ z) (h1 : z < 6) : m (b + 4) z.toNat = V 4 z := (h.2.2.1 z h0 h1).2.2.2
theorem YP.egg {m : zz_M} {b : Nat} {V : zz_W} (h : YP m b V) {z : Int} (h0 : 0 ≤ z) (h1 : z < 60) : m (b + 5) z.toNat = V 5 z := h.2.2.2 z h0 h1
/-- a method that answers r and leaves m' -/
abbrev ans (r : Option zz_V) (m' : zz_M) : Option zz_V → zz_M → Prop := fun r1 m1 => r1 = r ∧ m1 = m'
theorem eggs_bd {V : zz_W} (hE : ∀ z, 0 ≤ z → z < 60 → 0 ≤ V 5 z ∧ V 5 z ≤ 9) {n : Int} (h0 : 0 ≤ n) (h1 : n < 6) (j : Nat) (hj : j ≤ 10) : 0 ≤ smI (fun a => V 5 (10 * n + a)) j ∧ smI (fun a => V 5 (10 * n + a)) j ≤ 90 := by
  have := smI_bd (f := fun a => V 5 (10 * n + a)) (c := 9) j (fun i h2 h3 => hE _ (by omega) (by omega))
  omega
