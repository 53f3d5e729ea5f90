section RM14
variable {E : zz_E} {m : zz_M} {s : zz_S} {V W : zz_W} {D : Int}
theorem ior_assoc (a b c : Int) : ior (ior a b) c = ior a (ior b c) := by
  unfold ior
  rw [Int32.ofInt_toInt, Int32.ofInt_toInt, Int32.or_assoc]
theorem ior_0 {a : Int} (h0 : 0 ≤ a) (h1 : a < 64) : ior a 0 = a := by
  have h := ior0_f ⟨a.toNat, by omega⟩
  simp only [nat_of h0] at h
  exact h
theorem lbf_app (W : zz_W) (d f : Int) : ∀ (l l' : List Nat) (a : Int), lbf W d f (l ++ l') a = lbf W d f l' (lbf W d f l a)
  | [], _, _ => rfl
  | _ :: l, l', _ => lbf_app W d f l l' _
theorem lbf_c (W : zz_W) (d f : Int) (q : Nat) (l : List Nat) (a : Int) : lbf W d f (q :: l) a = lbf W d f l (ior a (isl 1 (lay (st3 W d f q)))) := by rw [lbf]
theorem lbf_acc (W : zz_W) (d f : Int) (l : List Nat) : ∀ a b : Int, lbf W d f l (ior a b) = ior a (lbf W d f l b) := by
  induction l with
  | nil => intro a b; rw [lbf, lbf]
  | cons q l ih =>
    intro a b
    rw [lbf_c, lbf_c, ior_assoc]
    exact ih a _
/-- the nests reached, from one nest (from -1 on) after another -/
def fa (W : zz_W) (l : List Nat) (d r nn : Int) : Nat → Int
  | 0 => 0
  | j + 1 => if (if j = 0 then nn = 1 else bt r ((j : Int) - 1) = 1) then lbf W d ((j : Int) - 1) l (fa W l d r nn j) else fa W l d r nn j
theorem fa_bd {D d r nn : Int} {l : List Nat} (hI : Iv D W) (hD : D ≤ 20000) (h0 : W 0 0 ≠ 0) (hd : 0 ≤ d ∧ d ≤ D) (hl : ∀ q ∈ l, q < 64) : ∀ j : Nat, (j : Int) ≤ W 0 0 + 1 → 0 ≤ fa W l d r nn j ∧ fa W l d r nn j < 64
  | 0, _ => ⟨Int.le_refl _, by show (0 : Int) < 64; omega⟩
  | j + 1, h => by
    have h1 := fa_bd (r := r) (nn := nn) hI hD h0 hd hl j (by omega)
    have h2 := lbf_bd hI hD h0 hd (f := (j : Int) - 1) (by omega) l (fa W l d r nn j) hl h1
    unfold fa
    by_cases hP : (if j = 0 then nn = 1 else bt r ((j : Int) - 1) = 1)
    · rw [if_pos hP]; exact h2
    · rw [if_neg hP]; exact h1
theorem fa_on {l : List Nat} {d r nn : Int} {j : Nat} (h : if j = 0 then nn = 1 else bt r ((j : Int) - 1) = 1) : fa W l d r nn (j + 1) = lbf W d ((j : Int) - 1) l (fa W l d r nn j) := by rw [fa, if_pos h]
theorem fa_off {l : List Nat} {d r nn : Int} {j : Nat} (h : ¬ (if j = 0 then nn = 1 else bt r ((j : Int) - 1) = 1)) : fa W l d r nn (j + 1) = fa W l d r nn j := by rw [fa, if_neg h]
/-- none: the class's sets of sets -/
theorem fa_rc1 {D d r : Int} {l : List Nat} (hI : Iv D (ldW V)) (hD : D ≤ 20000) (h0 : ldW V 0 0 ≠ 0) (hd : 0 ≤ d ∧ d ≤ D) (hl : ∀ q ∈ l, q < 64) : ∀ j : Nat, (j : Int) ≤ ldW V 0 0 → fa (ldW V) l d r 0 (j + 1) = rc1 V l d r j
  | 0, _ => fa_off (by rw [if_pos rfl]; decide)
  | j + 1, h => by
    have h1 := fa_rc1 (r := r) hI hD h0 hd hl j (by omega)
    have hb := fa_bd (r := r) (nn := 0) hI hD h0 hd hl (j + 1) (by omega)
    have e : (((j + 1 : Nat) : Int) - 1) = j := by omega
    rw [rc1, ← h1]
    by_cases hr : bt r j = 1
    · rw [fa_on (by rw [if_neg (by omega), e]; exact hr), if_pos hr, e]
      have := lbf_acc (ldW V) d j l (fa (ldW V) l d r 0 (j + 1)) 0
      rw [ior_0 hb.1 hb.2] at this
      exact this
    · rw [fa_off (by rw [if_neg (by omega), e]; exact hr), if_neg hr, ior_0 hb.1 hb.2]
theorem bt_one : ∀ (a b : Fin 6), bt (isl 1 (a.val : Int)) (b.val : Int) = 1 ↔ a = b := by decide +kernel
/-- before the first night: she lay last in one nest, or in none -/
theorem fa_one {D d p : Int} {l : List Nat} (hI : Iv D W) (hD : D ≤ 20000) (h0 : W 0 0 ≠ 0) (hd : 0 ≤ d ∧ d ≤ D) (hl : ∀ q ∈ l, q < 64) (hp : -1 ≤ p ∧ p < W 0 0) : ∀ j : Nat, (j : Int) ≤ W 0 0 + 1 → fa W l d (if p < 0 then 0 else isl 1 p) (if p < 0 then 1 else 0) j = if p + 1 < j then lbf W d p l 0 else 0
  | 0, _ => (if_neg (show ¬ p + 1 < ((0 : Nat) : Int) by omega)).symm
  | j + 1, h => by
    have hn := hI.1
    have h1 := fa_one hI hD h0 hd hl hp j (by omega)
    have hit : (if j = 0 then (if p < 0 then (1 : Int) else 0) = 1 else bt (if p < 0 then 0 else isl 1 p) ((j : Int) - 1) = 1) ↔ (j : Int) = p + 1 := by
      by_cases hj : j = 0
      · subst hj
        rw [if_pos rfl]
        by_cases hp0 : p < 0
        · rw [if_pos hp0]; omega
        · rw [if_neg hp0]; omega
      · rw [if_neg hj]
        by_cases hp0 : p < 0
        · rw [if_pos hp0]
          have hz : bt 0 ((j : Int) - 1) = 0 := by
            have : ∀ i : Fin 6, bt 0 (i.val : Int) = 0 := by decide +kernel
            have := this ⟨((j : Int) - 1).toNat, by omega⟩
            simp only [nat_of (show 0 ≤ (j : Int) - 1 by omega)] at this
            exact this
          omega
        · rw [if_neg hp0]
          have := bt_one ⟨p.toNat, by omega⟩ ⟨((j : Int) - 1).toNat, by omega⟩
          simp only [nat_of (show 0 ≤ (j : Int) - 1 by omega), nat_of (show 0 ≤ p by omega), Fin.mk.injEq] at this
          rw [this]
          omega
    by_cases hc : (j : Int) = p + 1
    · rw [fa_on (hit.mpr hc), h1, if_neg (by omega), if_pos (by omega), show (j : Int) - 1 = p by omega]
    · rw [fa_off (fun q => hc (hit.mp q)), h1]
      by_cases h2 : p + 1 < j
      · rw [if_pos h2, if_pos (by omega)]
      · rw [if_neg h2, if_neg (by omega)]
end RM14
