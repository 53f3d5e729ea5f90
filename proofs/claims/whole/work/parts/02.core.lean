/-! ===== the plain machine: values are whole numbers, memory is cells of numbers ===== -/
abbrev zz_V : Type := Int ⊕ Int ⊕ Nat
abbrev zz_M : Type := Nat → Nat → Int
abbrev zi (z : Int) : zz_V := .inl z
abbrev zj (z : Int) : zz_V := .inr (.inl z)
abbrev zr (k : Nat) : zz_V := .inr (.inr k)
def zz_in (z : Int) : Prop := -2147483648 ≤ z ∧ z ≤ 2147483647
def zz_inl (z : Int) : Prop := -9223372036854775808 ≤ z ∧ z ≤ 9223372036854775807
def nrm (z : Int) : Int := (Int32.ofInt z).toInt
theorem nrm_in (z : Int) : zz_in (nrm z) := ⟨Int32.le_toInt _, Int32.toInt_le _⟩
theorem i32_of {z : Int} (h : zz_in z) : (Int32.ofInt z).toInt = z := by
  rw [Int32.toInt_ofInt]
  unfold zz_in at h
  rw [show Int32.size = 4294967296 from rfl]
  exact Int.bmod_eq_of_le (by omega) (by omega)
theorem nrm_id {z : Int} (h1 : -2147483648 ≤ z) (h2 : z ≤ 2147483647) : nrm z = z := i32_of ⟨h1, h2⟩
theorem i32_nrm (z : Int) : Int32.ofInt (nrm z) = Int32.ofInt z := Int32.ofInt_toInt _
theorem i32_inj {a b : Int} (ha : zz_in a) (hb : zz_in b) (h : Int32.ofInt a = Int32.ofInt b) : a = b := by
  rw [← i32_of ha, ← i32_of hb, h]
theorem i32_eq {a b : Int} (ha : zz_in a) (hb : zz_in b) : Int32.ofInt a = Int32.ofInt b ↔ a = b := ⟨i32_inj ha hb, fun h => by rw [h]⟩
theorem i32_lt {a b : Int} (ha : zz_in a) (hb : zz_in b) : Int32.ofInt a < Int32.ofInt b ↔ a < b := by
  rw [Int32.lt_iff_toInt_lt, i32_of ha, i32_of hb]
theorem i32_le {a b : Int} (ha : zz_in a) (hb : zz_in b) : Int32.ofInt a ≤ Int32.ofInt b ↔ a ≤ b := by
  rw [Int32.le_iff_toInt_le, i32_of ha, i32_of hb]
theorem i64_of {z : Int} (h : zz_inl z) : (Int64.ofInt z).toInt = z := by
  rw [Int64.toInt_ofInt]
  unfold zz_inl at h
  rw [show Int64.size = 18446744073709551616 from rfl]
  exact Int.bmod_eq_of_le (by omega) (by omega)
def nrml (z : Int) : Int := (Int64.ofInt z).toInt
theorem nrml_in (z : Int) : zz_inl (nrml z) := ⟨Int64.le_toInt _, Int64.toInt_le _⟩
theorem nrml_id {z : Int} (h1 : -9223372036854775808 ≤ z) (h2 : z ≤ 9223372036854775807) : nrml z = z := i64_of ⟨h1, h2⟩
theorem i64_nrml (z : Int) : Int64.ofInt (nrml z) = Int64.ofInt z := Int64.ofInt_toInt _
-- the operations
def idv (a b : Int) : Int := (Int32.ofInt a / Int32.ofInt b).toInt
def irm (a b : Int) : Int := (Int32.ofInt a - Int32.ofInt a / Int32.ofInt b * Int32.ofInt b).toInt
def ian (a b : Int) : Int := (Int32.ofInt a &&& Int32.ofInt b).toInt
def ior (a b : Int) : Int := (Int32.ofInt a ||| Int32.ofInt b).toInt
def ixr (a b : Int) : Int := (Int32.ofInt a ^^^ Int32.ofInt b).toInt
def isl (a b : Int) : Int := (Int32.ofInt a <<< (Int32.ofInt b &&& 31)).toInt
def isr (a b : Int) : Int := (Int32.ofInt a >>> (Int32.ofInt b &&& 31)).toInt
def ius (a b : Int) : Int := ((Int32.ofInt a).toUInt32 >>> ((Int32.ofInt b).toUInt32 &&& Int32.toUInt32 31)).toInt32.toInt
theorem i32_back (x : Int32) : Int32.ofInt x.toInt = x := Int32.ofInt_toInt x
theorem i32_in (x : Int32) : zz_in x.toInt := ⟨Int32.le_toInt _, Int32.toInt_le _⟩
-- cells: kinds and lengths (0 numbers, 1 the three minds, 2 + a class)
def kd_y : List (Nat × Nat) := [(4, 13), (0, 6), (0, 6), (0, 6), (0, 6), (0, 60), (0, 4), (0, 6)]
def kd_L : List (Nat × Nat) := kd_y ++ kd_y ++ kd_y ++ kd_y ++ kd_y ++ kd_y ++
  [(3, 6), (1, 3), (0, 64), (0, 6), (0, 64), (2, 2), (0, 80), (5, 10), (0, 8), (0, 48), (0, 7),
   (6, 40), (0, 7), (0, 7), (0, 7), (0, 7), (0, 70), (0, 7), (0, 7), (0, 108), (0, 108), (0, 108), (0, 108), (0, 80), (0, 41), (0, 41), (0, 164), (0, 8), (0, 48)]
def kd (k : Nat) : Nat × Nat := kd_L.getD k (99, 0)
theorem kd_len : kd_L.length = 77 := rfl
theorem kd_lt {k a n : Nat} (h : kd k = (a, n)) (ha : a ≠ 99) : k < 77 := by
  rcases Nat.lt_or_ge k 77 with q | q
  · exact q
  · exfalso
    apply ha
    unfold kd at h
    rw [List.getD_eq_getElem?_getD, List.getElem?_eq_none (by rw [kd_len]; exact q)] at h
    exact (Prod.mk.inj h).1.symm
/-- the place of the array or object that field k of the object o holds, for good -/
def pt (o k : Nat) : Nat := if o < 54 then o + 1 + k else if o = 55 then ([0, 8, 16, 48, 53, 56, 57, 58] : List Nat).getD k 0 else
  ([0, 0, 0, 0, 0, 0, 0, 0, 0, 0, 60, 61, 62, 63, 64, 0, 65, 0, 66, 0, 67, 68, 69, 70, 0, 0, 0, 0, 71, 0, 0, 0, 0, 72, 73, 74, 75, 0, 76, 0] : List Nat).getD k 0
/-- a field's kind: 0 a number, 1 a boolean, 2 an array or object for good, 3 an array that may change -/
def ft (c k : Nat) : Nat := match c with
  | 0 => if k = 0 then 2 else 0
  | 1 => if k < 4 then 2 else 0
  | 2 => if k < 7 then 2 else 0
  | 3 => if k < 8 then 2 else if k = 9 then 1 else 0
  | _ => ([0, 0, 0, 0, 0, 0, 0, 0, 0, 0, 2, 2, 2, 2, 2, 0, 2, 0, 2, 0, 2, 2, 2, 2, 1, 0, 1, 3, 2, 0, 0, 1, 0, 2, 2, 2, 2, 0, 2, 0] : List Nat).getD k 0
def gv (ad : Nat → Nat) (v : zz_V) : Value := match v with
  | .inl z => .int (Int32.ofInt z)
  | .inr (.inl z) => .long (Int64.ofInt z)
  | .inr (.inr k) => .ref (ad k)
def okv (v : zz_V) : Prop := match v with
  | .inl z => zz_in z
  | .inr (.inl z) => zz_inl z
  | .inr (.inr _) => True
def okm (m : zz_M) : Prop := ∀ k j, zz_in (m k j)
def fv (ad : Nat → Nat) (m : zz_M) (o c k : Nat) : Value := match ft c k with
  | 2 => .ref (ad (pt o k))
  | 3 => if m o k < 0 then .null else .ref (ad (m o k).toNat)
  | _ => .int (Int32.ofInt (m o k))
def ce (ad : Nat → Nat) (cI cY : ClassId) (m : zz_M) (k : Nat) : va_E := match (kd k).1 with
  | 0 => .inl (cI, ((kd k).2, .inl fun j => Int32.ofInt (m k j)))
  | 1 => .inl (cY, ((kd k).2, .inr (.inr (.inr (.inr fun j => some (ad (24 + 8 * j)))))))
  | c + 2 => .inr (c, (List.range (kd k).2).map (fv ad m k c))
def wl (ad : Nat → Nat) (cI cY : ClassId) (m : zz_M) : va_W := (List.range 77).map fun k => (ad k, ce ad cI cY m k)
def up (m : zz_M) (k j : Nat) (v : Int) : zz_M := fun k' j' => if k' = k ∧ j' = j then v else m k' j'
theorem up_same (m : zz_M) (k j : Nat) (v : Int) : up m k j v k j = v := if_pos ⟨rfl, rfl⟩
theorem up_cell {m : zz_M} {k j k' : Nat} {v : Int} (h : k' ≠ k) : up m k j v k' = m k' := by
  funext j'
  exact if_neg (fun q => h q.1)
theorem up_ok {m : zz_M} {k j : Nat} {v : Int} (h : okm m) (hv : zz_in v) : okm (up m k j v) := by
  intro k' j'
  unfold up
  split
  · exact hv
  · exact h k' j'
theorem wl_get {ad : Nat → Nat} {cI cY : ClassId} {m : zz_M} {k : Nat} (h : k < 77) : (wl ad cI cY m)[k]? = some (ad k, ce ad cI cY m k) := by
  unfold wl
  rw [List.getElem?_map, List.getElem?_range h]
  rfl
theorem wl_inv {ad : Nat → Nat} {cI cY : ClassId} {m : zz_M} {k : Nat} {q : Nat × va_E} (h : (wl ad cI cY m)[k]? = some q) : k < 77 ∧ q.1 = ad k := by
  have hk : k < 77 := by
    have := (List.getElem?_eq_some_iff.mp h).1
    simpa [wl] using this
  refine ⟨hk, ?_⟩
  rw [wl_get hk] at h
  rw [← Option.some.inj h]
theorem ce_kept {ad : Nat → Nat} {cI cY : ClassId} {m m' : zz_M} {k : Nat} (h : m' k = m k) : ce ad cI cY m' k = ce ad cI cY m k := by
  unfold ce
  split
  · rw [h]
  · rfl
  · congr 2
    apply List.map_congr_left
    intro j _
    unfold fv
    rw [h]
theorem wl_set {ad : Nat → Nat} {cI cY : ClassId} {m m' : zz_M} {k : Nat} {e : va_E} (h : ∀ k', k' ≠ k → m' k' = m k') (he : ce ad cI cY m' k = e) : (wl ad cI cY m).set k (ad k, e) = wl ad cI cY m' := by
  apply List.ext_getElem?
  intro i
  by_cases hi : i < 77
  · rw [wl_get hi]
    by_cases hik : i = k
    · subst hik
      rw [List.getElem?_set_self (by simpa [wl] using hi), he]
    · rw [List.getElem?_set_ne (Ne.symm hik), wl_get hi, ce_kept (h i hik)]
  · rw [List.getElem?_eq_none (by simp [wl]; omega), List.getElem?_eq_none (by simp [wl]; omega)]
/-- the addresses are apart and in A -/
def adok (A : Nat → Prop) (ad : Nat → Nat) : Prop := (∀ i j, i < 77 → j < 77 → ad i = ad j → i = j) ∧ ∀ i, i < 77 → A (ad i)
theorem wl_D {A : Nat → Prop} {ad : Nat → Nat} {cI cY : ClassId} {m : zz_M} (h : adok A ad) : va_D A (wl ad cI cY m) := by
  refine ⟨fun i j x y hx hy hxy => ?_, fun k q hk => ?_⟩
  · obtain ⟨h1, h2⟩ := wl_inv hx
    obtain ⟨h3, h4⟩ := wl_inv hy
    exact h.1 i j h1 h3 (by rw [← h2, ← h4]; exact hxy)
  · obtain ⟨h1, h2⟩ := wl_inv hk
    rw [h2]
    exact h.2 k h1
def zz_tys (cI cY : ClassId) : List (ClassId × FieldType) := [(cI, .int), (cY, .object "NobodyLookedYesterday$Yard")]
-- what nobody writes: 77, 78 the least and greatest figures, 79 the script
abbrev zz_E : Type := Nat × (Nat → Int)
def ro (E : zz_E) (k j : Nat) : Int := if k = 77 then ([0, 0, 0, 1] : List Int).getD j 0 else if k = 78 then ([5, 9, 40, 9] : List Int).getD j 0 else E.2 j
def rn (E : zz_E) (k : Nat) : Nat := if k = 79 then E.1 else 4
def zz_Ro (E : zz_E) (ad : Nat → Nat) (A : Nat → Prop) (U : State) (H : Heap) : Prop :=
  (∀ k, 77 ≤ k → k < 80 → va_T .int (ad k) (rn E k) (fun j => .int (Int32.ofInt (ro E k j))) A U H) ∧
  va_Z "NobodyLookedYesterday" "LEAST" "[I" (.ref (ad 77)) A U H ∧ va_Z "NobodyLookedYesterday" "GREATEST" "[I" (.ref (ad 78)) A U H
theorem zz_Ro.moved {E : zz_E} {ad : Nat → Nat} {A : Nat → Prop} {u U : State} {H : Heap} (hvm : u.vm.Alike U.vm) (h : zz_Ro E ad A u H) : zz_Ro E ad A U H :=
  ⟨fun k h1 h2 => va_T.moved hvm (h.1 k h1 h2), va_Z.moved hvm h.2.1, va_Z.moved hvm h.2.2⟩
theorem zz_Ro.kept {E : zz_E} {ad : Nat → Nat} {A : Nat → Prop} {U : State} {H H1 : Heap} (h : zz_Ro E ad A U H) (hq : ∀ a : Nat, a < H.size → ¬ A a → H1[a]? = H[a]?) : zz_Ro E ad A U H1 :=
  ⟨fun k h1 h2 => va_T.kept (h.1 k h1 h2) hq, va_Z.kept h.2.1 hq, va_Z.kept h.2.2 hq⟩
def zz_E.ok (E : zz_E) : Prop := E.1 ≤ 2048 ∧ ∀ j, zz_in (E.2 j)
theorem ro_in {E : zz_E} (h : zz_E.ok E) {k j : Nat} (hj : j < rn E k) : zz_in (ro E k j) := by
  unfold ro
  split
  · rename_i hk
    have : j < 4 := by simpa [rn, hk] using hj
    match j, this with
    | 0, _ => exact ⟨by decide, by decide⟩
    | 1, _ => exact ⟨by decide, by decide⟩
    | 2, _ => exact ⟨by decide, by decide⟩
    | 3, _ => exact ⟨by decide, by decide⟩
  · split
    · rename_i hk hk2
      have : j < 4 := by simpa [rn, hk2] using hj
      match j, this with
      | 0, _ => exact ⟨by decide, by decide⟩
      | 1, _ => exact ⟨by decide, by decide⟩
      | 2, _ => exact ⟨by decide, by decide⟩
      | 3, _ => exact ⟨by decide, by decide⟩
    · exact h.2 j
-- locals, by place
def gl (ad : Nat → Nat) : Nat → List (Option zz_V) → List (Nat × Value)
  | _, [] => []
  | i, none :: L => gl ad (i + 1) L
  | i, some v :: L => (i, gv ad v) :: gl ad (i + 1) L
theorem gl_mem {ad : Nat → Nat} {q : Nat × Value} : ∀ {L : List (Option zz_V)} {i : Nat}, q ∈ gl ad i L ↔ ∃ k v, L[k]? = some (some v) ∧ q = (i + k, gv ad v)
  | [], i => by simp [gl]
  | none :: L, i => by
    rw [gl, gl_mem]
    constructor
    · rintro ⟨k, v, h, rfl⟩
      exact ⟨k + 1, v, by simpa using h, by congr 1; omega⟩
    · rintro ⟨k, v, h, rfl⟩
      cases k with
      | zero => simp at h
      | succ k => exact ⟨k, v, by simpa using h, by congr 1; omega⟩
  | some w :: L, i => by
    rw [gl, List.mem_cons, gl_mem]
    constructor
    · rintro (rfl | ⟨k, v, h, rfl⟩)
      · exact ⟨0, w, rfl, rfl⟩
      · exact ⟨k + 1, v, by simpa using h, by congr 1; omega⟩
    · rintro ⟨k, v, h, rfl⟩
      cases k with
      | zero => left; simp at h; subst h; rfl
      | succ k => right; exact ⟨k, v, by simpa using h, by congr 1; omega⟩
def njl : List (Option zz_V) → Bool
  | [] => true
  | some (.inr (.inl _)) :: _ => false
  | _ :: L => njl L
theorem njl_cat {ad : Nat → Nat} : ∀ {L : List (Option zz_V)}, njl L = true → ∀ v, some v ∈ L → (gv ad v).category = 1
  | [], _, v, h => by cases h
  | none :: L, hn, v, h => by
    rcases List.mem_cons.mp h with q | q
    · cases q
    · exact njl_cat (L := L) (by simpa [njl] using hn) v q
  | some (.inl z) :: L, hn, v, h => by
    rcases List.mem_cons.mp h with q | q
    · cases q; rfl
    · exact njl_cat (L := L) (by simpa [njl] using hn) v q
  | some (.inr (.inr z)) :: L, hn, v, h => by
    rcases List.mem_cons.mp h with q | q
    · cases q; rfl
    · exact njl_cat (L := L) (by simpa [njl] using hn) v q
  | some (.inr (.inl z)) :: L, hn, v, h => by simp [njl] at hn
theorem gl_at {ad : Nat → Nat} {ls : Array Slot} {nL i : Nat} {L : List (Option zz_V)} {v : zz_V} (h : lv_has ls nL (gl ad 0 L)) (hk : L[i]? = some (some v)) : ls[i]? = some (.val (gv ad v)) := by
  have := h.2.2 (i, gv ad v) (gl_mem.mpr ⟨i, v, hk, by simp⟩)
  exact this
theorem gl_weak {ad : Nat → Nat} {ls : Array Slot} {nL : Nat} {L L' : List (Option zz_V)} (h : lv_has ls nL (gl ad 0 L)) (hw : ∀ (i : Nat) (v : zz_V), L'[i]? = some (some v) → L[i]? = some (some v)) : lv_has ls nL (gl ad 0 L') := by
  refine ⟨h.1, h.2.1, fun q hq => ?_⟩
  obtain ⟨k, v, h1, h2⟩ := gl_mem.mp hq
  exact h.2.2 q (gl_mem.mpr ⟨k, v, hw k v h1, h2⟩)
theorem gl_store {ad : Nat → Nat} {ls' : Array Slot} {nL i : Nat} {L L' : List (Option zz_V)} {v : zz_V} (h : lv_has ls' nL ((i, gv ad v) :: (gl ad 0 L).filter (fun q => !(q.1 == i) && !(q.1 + 1 == i && q.2.category == 2)))) (hn : njl L = true)
    (hw : ∀ (k : Nat) (w : zz_V), L'[k]? = some (some w) → (k = i ∧ w = v) ∨ (k ≠ i ∧ L[k]? = some (some w))) : lv_has ls' nL (gl ad 0 L') := by
  refine ⟨h.1, h.2.1, fun q hq => ?_⟩
  obtain ⟨k, w, h1, h2⟩ := gl_mem.mp hq
  apply h.2.2 q
  rcases hw k w h1 with ⟨rfl, rfl⟩ | ⟨h3, h4⟩
  · rw [h2]
    simp
  · apply List.mem_cons_of_mem
    apply List.mem_filter.mpr
    refine ⟨gl_mem.mpr ⟨k, w, h4, h2⟩, ?_⟩
    have hc := njl_cat (ad := ad) hn w (List.mem_of_getElem? h4)
    rw [h2]
    simp [h3, hc]
/-! the words of the tables that every method's run may use: those that stay when the tables warm up, and the links to private fields of nest mates -/
def zz_nf : Cond → Bool
  | .fieldLinkNest .. => true
  | _ => false
def zz_T : List Cond := lw_tbl.filter (fun w => goodWord w || zz_nf w)
def zz_G : List Cond := lw_tbl.filter goodWord
theorem zz_T_mem {w : Cond} (h : w ∈ lw_tbl) (hg : (goodWord w || zz_nf w) = true) : w ∈ zz_T := List.mem_filter.mpr ⟨h, hg⟩
theorem zz_T_tbl {w : Cond} (h : w ∈ zz_T) : w ∈ lw_tbl := (List.mem_filter.mp h).1
theorem zz_T_cases {w : Cond} (h : w ∈ zz_T) : w ∈ zz_G ∨ zz_nf w = true := by
  obtain ⟨h1, h2⟩ := List.mem_filter.mp h
  rcases Bool.or_eq_true_iff.mp h2 with q | q
  · exact Or.inl (List.mem_filter.mpr ⟨h1, q⟩)
  · exact Or.inr q
theorem zz_G_T {w : Cond} (h : w ∈ zz_G) : w ∈ zz_T := by
  obtain ⟨h1, h2⟩ := List.mem_filter.mp h
  exact List.mem_filter.mpr ⟨h1, by rw [h2]; rfl⟩
def zz_N (U : State) : Prop := ∀ w ∈ zz_T, zz_nf w = true → va_Nw w U
theorem zz_N.same {u U : State} (h : u.vm = U.vm) (hN : zz_N u) : zz_N U := by
  intro w hw hn
  have h1 := hN w hw hn
  match w, hn with
  | .fieldLinkNest .., _ => exact va_Nw.same rfl h h1
theorem zz_N.warm {s U : State} (hW : s.WarmedH U.vm) (hN : zz_N s) : zz_N U := by
  intro w hw hn
  have h1 := hN w hw hn
  match w, hn with
  | .fieldLinkNest .., _ => exact va_Nw.warmF hW h1
theorem zz_N.of {s : State} {args : Array Value} (h : ∀ w ∈ zz_T, w.before args s = true) : zz_N s := by
  intro w hw hn
  have h1 := h w hw
  match w, hn with
  | .fieldLinkNest .., _ => exact va_Nw.of rfl h1
theorem zz_T_of {s : State} {args : Array Value} (h : ∀ w ∈ zz_G, w.before args s = true) (hN : zz_N s) : ∀ w ∈ zz_T, w.before args s = true := by
  intro w hw
  rcases zz_T_cases hw with q | q
  · exact h w q
  · have h1 := hN w hw q
    match w, q with
    | .fieldLinkNest .., _ => exact va_Nw.use rfl h1
theorem zz_G_good : ∀ w ∈ zz_G, (w.onTables && w.keeps) = true ∨ ∃ ty, w = .arrayClass ty := fun w h => good_of_word (List.mem_filter.mp h).2
