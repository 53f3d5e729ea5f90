/-! ===== memory and calls ===== -/
section EXM
variable {E : zz_E} {cc : ByteArray} {nL : Nat} {own : String} {d : Nat} {Q : Option zz_V → zz_M → Prop} {pc tgt : Nat} {L : List (Option zz_V)} {S : List zz_V} {m : zz_M} {z v : Int} {o k n idx ci N : Nat}
variable {ad : Nat → Nat} {cI cY : ClassId}
theorem ce_arr (h : kd o = (0, n)) : ce ad cI cY m o = .inl (cI, (n, .inl fun j => Int32.ofInt (m o j))) := by
  unfold ce
  rw [h]
theorem ce_ref (h : kd o = (1, n)) : ce ad cI cY m o = .inl (cY, (n, .inr (.inr (.inr (.inr fun j => some (ad (24 + 8 * j))))))) := by
  unfold ce
  rw [h]
theorem ce_obj (h : kd o = (ci + 2, N)) : ce ad cI cY m o = .inr (ci, (List.range N).map (fv ad m o ci)) := by
  unfold ce
  rw [h]
theorem wl_arr (h : kd o = (0, n)) : (wl ad cI cY m)[o]? = some (ad o, .inl (cI, (n, .inl fun j => Int32.ofInt (m o j)))) := by
  rw [wl_get (kd_lt h (by decide)), ce_arr h]
theorem wl_ref (h : kd o = (1, n)) : (wl ad cI cY m)[o]? = some (ad o, .inl (cY, (n, .inr (.inr (.inr (.inr fun j => some (ad (24 + 8 * j)))))))) := by
  rw [wl_get (kd_lt h (by decide)), ce_ref h]
theorem wl_obj (h : kd o = (ci + 2, N)) (hci : ci < 5) : (wl ad cI cY m)[o]? = some (ad o, .inr (ci, (List.range N).map (fv ad m o ci))) := by
  rw [wl_get (kd_lt h (by omega)), ce_obj h]
def zz_fd (own : String) (idx ci k N : Nat) : Prop := ∃ (C : String) (T : u_T), zz_cl[ci]? = some (C, T, N) ∧ k < N ∧ (Cond.fieldLink own idx C (T k).2.1 (T k).2.2.1 ∈ zz_T ∨ ∃ host, Cond.fieldLinkNest own idx C (T k).2.1 (T k).2.2.1 host ∈ zz_T)
/-- what the tables say of each class's fields -/
def zz_fits (ci : Nat) (T : u_T) (ty : Nat → FieldType) (k : Nat) : Bool := (ft ci k == 2) || ((T k).2.2.2 == false && ((ft ci k == 0 && ty k == .int) || (ft ci k == 1 && ty k == .boolean) || (ft ci k == 3 && ty k == .array .int)))
theorem zz_cls {ci N : Nat} {C : String} {T : u_T} (h : zz_cl[ci]? = some (C, T, N)) : ci < 5 ∧ (∀ w ∈ u_ws C T N, w ∈ zz_T) ∧ (∃ ty : Nat → FieldType, (∀ k, k < N → parseFieldDescriptor (T k).2.2.1 = some (ty k)) ∧ ∀ k, k < N → zz_fits ci T ty k = true) ∧
    (∀ a, a < N → ∀ b, b < N → a ≠ b → (T a).2.1 ≠ (T b).2.1) ∧ ∀ k, k < N → (T k).1 = C := by
  match ci, h with
  | 0, h => cases h; exact ⟨by decide, by decide +kernel, ⟨tyX0, tyX0_ok, by decide +kernel⟩, nmX0, by decide +kernel⟩
  | 1, h => cases h; exact ⟨by decide, by decide +kernel, ⟨tyX1, tyX1_ok, by decide +kernel⟩, nmX1, by decide +kernel⟩
  | 2, h => cases h; exact ⟨by decide, by decide +kernel, ⟨tyX2, tyX2_ok, by decide +kernel⟩, nmX2, by decide +kernel⟩
  | 3, h => cases h; exact ⟨by decide, by decide +kernel, ⟨tyX3, tyX3_ok, by decide +kernel⟩, nmX3, by decide +kernel⟩
  | 4, h => cases h; exact ⟨by decide, by decide +kernel, ⟨tyX4, tyX4_ok, by decide +kernel⟩, nmX4, by decide +kernel⟩
  | k + 5, h => simp [zz_cl] at h
/-- a field is read -/
theorem x_getG {w : zz_V} (hd : decode cc pc = .ok (.getfield idx, 3)) (hf : zz_fd own idx ci k N) (hk : kd o = (ci + 2, N)) (hw : okm m → okv w) (he : ∀ ad, fv ad m o ci k = gv ad w) (kk : Ex E cc nL own d Q (pc + 3) L (w :: S) m) : Ex E cc nL own d Q pc L (zr o :: S) m := by
  refine ex_st (fun _ hS hm => ok_cons (hw hm) (ok_tl hS)) (fun p l e R s mi args below meth c A D cI cY ad cells slots Qs H locs ls hC hL hS hm hP hV hl kq => ?_) kk
  obtain ⟨C, T, hcl, hkN, hlink⟩ := hf
  obtain ⟨hci, hin, -, -, hdec⟩ := zz_cls hcl
  have he0 := wl_obj (ad := ad) (cI := cI) (cY := cY) (m := m) hk hci
  have hv : ((List.range N).map (fv ad m o ci))[k]? = some (gv ad w) := by
    rw [List.getElem?_map, List.getElem?_range hkN, ← he ad]
    rfl
  have hs : ∀ x, s.fieldFound? (T k).1 (T k).2.1 (T k).2.2.1 = some x → s.fieldFound? C (T k).2.1 (T k).2.2.1 = some x := by
    rw [hdec k hkN]
    exact fun _ h => h
  rcases hlink with h | ⟨host, h⟩
  · exact va_get hC.1.1 hC.1.2.1 hC.1.2.2.2.2 hin hC.1.2.2.2.1 hC.2.1 hP o he0 hcl k hkN (hC.1.2.2.2.2 _ h) hs hv hd kq
  · exact va_getN hC.1.1 hC.1.2.1 hC.1.2.2.2.2 hin hC.1.2.2.2.1 hC.2.1 hP o he0 hcl k hkN (hC.1.2.2.2.2 _ h) hs hv hd kq
theorem x_getI (hd : decode cc pc = .ok (.getfield idx, 3)) (hf : zz_fd own idx ci k N) (hk : kd o = (ci + 2, N)) (ht : ft ci k = 0 ∨ ft ci k = 1) (hv : m o k = v) (kk : Ex E cc nL own d Q (pc + 3) L (zi v :: S) m) : Ex E cc nL own d Q pc L (zr o :: S) m := by
  subst hv
  refine x_getG (w := zi (m o k)) hd hf hk (fun hm => hm o k) (fun ad => ?_) kk
  unfold fv
  rcases ht with h | h <;> rw [h] <;> rfl
theorem x_getR {q : Nat} (hd : decode cc pc = .ok (.getfield idx, 3)) (hf : zz_fd own idx ci k N) (hk : kd o = (ci + 2, N)) (ht : ft ci k = 2) (hv : pt o k = q) (kk : Ex E cc nL own d Q (pc + 3) L (zr q :: S) m) : Ex E cc nL own d Q pc L (zr o :: S) m := by
  subst hv
  refine x_getG (w := zr (pt o k)) hd hf hk (fun hm => trivial) (fun ad => ?_) kk
  unfold fv
  rw [ht]
  rfl
theorem x_getD {q : Nat} (hd : decode cc pc = .ok (.getfield idx, 3)) (hf : zz_fd own idx ci k N) (hk : kd o = (ci + 2, N)) (ht : ft ci k = 3) (hv : m o k = (q : Int)) (kk : Ex E cc nL own d Q (pc + 3) L (zr q :: S) m) : Ex E cc nL own d Q pc L (zr o :: S) m := by
  refine x_getG (w := zr q) hd hf hk (fun hm => trivial) (fun ad => ?_) kk
  unfold fv
  rw [ht, hv]
  show (if (q : Int) < 0 then Value.null else .ref (ad (q : Int).toNat)) = _
  rw [if_neg (by omega)]
  rfl
/-- a field is written -/
theorem x_putG {w : zz_V} {z : Int} (hd : decode cc pc = .ok (.putfield idx, 3)) (hf : zz_fd own idx ci k N) (hk : kd o = (ci + 2, N)) (h2 : ft ci k ≠ 2) (hw : zz_in z ∨ okv w → zz_in z) (he : ∀ ad, fv ad (up m o k z) o ci k = gv ad w) (hn : ∀ ad ty, (ft ci k = 0 → ty = .int) → (ft ci k = 1 → ty = .boolean) → (ft ci k = 3 → ty = .array .int) → narrow ty (gv ad w) = gv ad w ∧ fits ty (gv ad w) = true) (kk : Ex E cc nL own d Q (pc + 3) L S (up m o k z)) : Ex E cc nL own d Q pc L (w :: zr o :: S) m := by
  intro p l e R s mi args below meth c A D cI cY ad cells slots Qs hC hK H locs ls hL hS hm hP hV hl
  obtain ⟨C, T, hcl, hkN, hlink⟩ := hf
  obtain ⟨hci, hin, ⟨ty, hty, hfit⟩, hnm, hdec⟩ := zz_cls hcl
  have he0 := wl_obj (ad := ad) (cI := cI) (cY := cY) (m := m) hk hci
  have hs : ∀ x, s.fieldFound? (T k).1 (T k).2.1 (T k).2.2.1 = some x → s.fieldFound? C (T k).2.1 (T k).2.2.1 = some x := by
    rw [hdec k hkN]
    exact fun _ h => h
  have hf1 := hfit k hkN
  have hfin : (T k).2.2.2 = false := by
    unfold zz_fits at hf1
    simp only [Bool.or_eq_true, Bool.and_eq_true, beq_iff_eq] at hf1
    rcases hf1 with h | h
    · exact absurd h h2
    · exact h.1
  have htys : (ft ci k = 0 → ty k = .int) ∧ (ft ci k = 1 → ty k = .boolean) ∧ (ft ci k = 3 → ty k = .array .int) := by
    unfold zz_fits at hf1
    simp only [Bool.or_eq_true, Bool.and_eq_true, beq_iff_eq] at hf1
    refine ⟨fun h => ?_, fun h => ?_, fun h => ?_⟩ <;> rw [h] at hf1 <;> simp at hf1 <;> exact hf1.2
  obtain ⟨hna, hfi⟩ := hn ad (ty k) htys.1 htys.2.1 htys.2.2
  have hset : (wl ad cI cY m).set o (ad o, .inr (ci, ((List.range N).map (fv ad m o ci)).set k (gv ad w))) = wl ad cI cY (up m o k z) := by
    refine wl_set (fun k' h => up_cell h) ?_
    rw [ce_obj hk]
    congr 2
    apply List.ext_getElem?
    intro i
    by_cases hi : i < N
    · by_cases hik : i = k
      · subst hik
        rw [List.getElem?_set_self (by simpa using hi), List.getElem?_map, List.getElem?_range hi]
        show some _ = _
        rw [← he ad]
      · rw [List.getElem?_set_ne (Ne.symm hik), List.getElem?_map, List.getElem?_map, List.getElem?_range hi]
        show some _ = some _
        congr 1
        unfold fv
        rw [show up m o k z o i = m o i from if_neg (fun q => hik q.2)]
    · rw [List.getElem?_eq_none (by simp; omega), List.getElem?_eq_none (by simp; omega)]
  have hzi : zz_in z := hw (Or.inr (ok_hd hS))
  have go : ∀ (H1 : Heap) (locs1 : List Loc), va_P D zz_cl ((wl ad cI cY m).set o (ad o, .inr (ci, ((List.range N).map (fv ad m o ci)).set k (gv ad w)))) H1 → va_D A ((wl ad cI cY m).set o (ad o, .inr (ci, ((List.range N).map (fv ad m o ci)).set k (gv ad w)))) → va_S A s.heap H1 locs1 → W p l e R s mi args below meth c H1 locs1 cells slots Qs (F0 mi (pc + 3) ls (S.map (gv ad))) := by
    intro H1 locs1 hP1 _ hV1
    rw [hset] at hP1
    exact kk p l e R s mi args below meth c A D cI cY ad cells slots Qs hC hK H1 locs1 ls hL (ok_tl (ok_tl hS)) (up_ok hm hzi) hP1 hV1 hl
  rcases hlink with h | ⟨host, h⟩
  · exact va_put hC.1.1 hC.1.2.1 hC.1.2.2.2.2 hin ty hty hnm hC.1.2.2.2.1 hC.2.1 hP (wl_D hC.2.2.2.2.1) hV o he0 hcl k hkN (hC.1.2.2.2.2 _ h) hs hfin (hty k hkN) hna hfi (by simpa using hkN) hd go
  · exact va_putN hC.1.1 hC.1.2.1 hC.1.2.2.2.2 hin ty hty hnm hC.1.2.2.2.1 hC.2.1 hP (wl_D hC.2.2.2.2.1) hV o he0 hcl k hkN (hC.1.2.2.2.2 _ h) hs hfin (hty k hkN) hna hfi (by simpa using hkN) hd go
theorem x_putI (hd : decode cc pc = .ok (.putfield idx, 3)) (hf : zz_fd own idx ci k N) (hk : kd o = (ci + 2, N)) (ht : ft ci k = 0) (kk : Ex E cc nL own d Q (pc + 3) L S (up m o k z)) : Ex E cc nL own d Q pc L (zi z :: zr o :: S) m := by
  refine x_putG (z := z) hd hf hk (by rw [ht]; decide) (fun h => h.elim id id) (fun ad => ?_) (fun ad ty h0 _ _ => ?_) kk
  · unfold fv
    rw [ht, up_same]
    rfl
  · rw [h0 ht]
    exact ⟨rfl, rfl⟩
theorem x_putZ (hd : decode cc pc = .ok (.putfield idx, 3)) (hf : zz_fd own idx ci k N) (hk : kd o = (ci + 2, N)) (ht : ft ci k = 1) (hz : z = 0 ∨ z = 1) (kk : Ex E cc nL own d Q (pc + 3) L S (up m o k z)) : Ex E cc nL own d Q pc L (zi z :: zr o :: S) m := by
  refine x_putG (z := z) hd hf hk (by rw [ht]; decide) (fun h => h.elim id id) (fun ad => ?_) (fun ad ty _ h1 _ => ?_) kk
  · unfold fv
    rw [ht, up_same]
    rfl
  · rw [h1 ht]
    rcases hz with rfl | rfl
    · exact ⟨(by decide +kernel : narrow .boolean (.int (Int32.ofInt 0)) = .int (Int32.ofInt 0)), (by decide +kernel : fits .boolean (.int (Int32.ofInt 0)) = true)⟩
    · exact ⟨(by decide +kernel : narrow .boolean (.int (Int32.ofInt 1)) = .int (Int32.ofInt 1)), (by decide +kernel : fits .boolean (.int (Int32.ofInt 1)) = true)⟩
theorem x_putD {q : Nat} (hd : decode cc pc = .ok (.putfield idx, 3)) (hf : zz_fd own idx ci k N) (hk : kd o = (ci + 2, N)) (ht : ft ci k = 3) (hq : kd q = (0, n)) (kk : Ex E cc nL own d Q (pc + 3) L S (up m o k (q : Int))) : Ex E cc nL own d Q pc L (zr q :: zr o :: S) m := by
  have hq77 : q < 77 := kd_lt hq (by decide)
  refine x_putG (z := (q : Int)) hd hf hk (by rw [ht]; decide) (fun _ => ⟨by omega, by omega⟩) (fun ad => ?_) (fun ad ty _ _ h3 => ?_) kk
  · unfold fv
    rw [ht, up_same]
    show (if (q : Int) < 0 then Value.null else .ref (ad (q : Int).toNat)) = _
    rw [if_neg (by omega)]
    rfl
  · rw [h3 ht]
    exact ⟨rfl, rfl⟩
-- arrays
theorem i32_idx {z : Int} (hz : zz_in z) (h0 : 0 ≤ z) : (Int32.ofInt z).toNatClampNeg = z.toNat := by
  show (Int32.ofInt z).toInt.toNat = _
  rw [i32_of hz]
theorem i32_bd {z : Int} {n : Nat} (hz : zz_in z) (h0 : 0 ≤ z) (h1 : z < n) : vp_in (Int32.ofInt z) n := by
  rintro (h | h)
  · have := (i32_lt hz (b := 0) ⟨by decide, by decide⟩).mp h
    omega
  · rw [i32_idx hz h0] at h
    omega
theorem x_iald (hd : decode cc pc = .ok (.iaload, 1)) (hk : kd k = (0, n)) (h0 : 0 ≤ z) (h1 : z < n) (hv : m k z.toNat = v) (kk : Ex E cc nL own d Q (pc + 1) L (zi v :: S) m) : Ex E cc nL own d Q pc L (zi z :: zr k :: S) m := by
  subst hv
  refine ex_st (fun _ hS hm => ok_cons (v := zi _) (hm k _) (ok_tl (ok_tl hS))) (fun p l e R s mi args below meth c A D cI cY ad cells slots Qs H locs ls hC hL hS hm hP hV hl kq => ?_) kk
  have hz : zz_in z := ok_hd hS
  refine va_iald hC.1.1 hC.1.2.1 hC.2.1 hP k 0 (wl_arr hk) rfl (i32_bd hz h0 h1) hd ?_
  rw [i32_idx hz h0]
  exact kq
theorem x_iast {x : Int} (hd : decode cc pc = .ok (.iastore, 1)) (hk : kd k = (0, n)) (h0 : 0 ≤ z) (h1 : z < n) (kk : Ex E cc nL own d Q (pc + 1) L S (up m k z.toNat x)) : Ex E cc nL own d Q pc L (zi x :: zi z :: zr k :: S) m := by
  intro p l e R s mi args below meth c A D cI cY ad cells slots Qs hC hK H locs ls hL hS hm hP hV hl
  have hz : zz_in z := ok_hd (ok_tl hS)
  have hset : (wl ad cI cY m).set k (ad k, .inl (cI, (n, .inl (upd (fun j => Int32.ofInt (m k j)) (Int32.ofInt z).toNatClampNeg (Int32.ofInt x))))) = wl ad cI cY (up m k z.toNat x) := by
    refine wl_set (fun k' h => up_cell h) ?_
    rw [ce_arr hk, i32_idx hz h0]
    congr 4
    funext j
    unfold upd up
    by_cases hj : j = z.toNat
    · rw [if_pos ⟨rfl, hj⟩, if_pos hj]
    · rw [if_neg (fun q => hj q.2), if_neg hj]
  refine va_iast hC.1.1 hC.1.2.1 hC.2.1 hP (wl_D hC.2.2.2.2.1) hV k 0 (wl_arr hk) rfl (i32_bd hz h0 h1) hd (fun H1 locs1 hP1 _ hV1 => ?_)
  rw [hset] at hP1
  exact kk p l e R s mi args below meth c A D cI cY ad cells slots Qs hC hK H1 locs1 ls hL (ok_tl (ok_tl (ok_tl hS))) (up_ok hm (ok_hd hS)) hP1 hV1 hl
theorem x_aald (hd : decode cc pc = .ok (.aaload, 1)) (hk : kd k = (1, n)) (h0 : 0 ≤ z) (h1 : z < n) {q : Nat} (hv : 24 + 8 * z.toNat = q) (kk : Ex E cc nL own d Q (pc + 1) L (zr q :: S) m) : Ex E cc nL own d Q pc L (zi z :: zr k :: S) m := by
  subst hv
  refine ex_st (fun _ hS hm => ok_cons (v := zr _) trivial (ok_tl (ok_tl hS))) (fun p l e R s mi args below meth c A D cI cY ad cells slots Qs H locs ls hC hL hS hm hP hV hl kq => ?_) kk
  have hz : zz_in z := ok_hd hS
  refine va_aldq hC.1.1 hC.1.2.1 hC.2.1 hP k 1 (wl_ref hk) rfl (i32_bd hz h0 h1) hd ?_
  rw [i32_idx hz h0]
  exact kq
theorem x_alen (hd : decode cc pc = .ok (.arraylength, 1)) (hk : kd k = (0, n) ∨ kd k = (1, n)) (hn : n < 1000) (kk : Ex E cc nL own d Q (pc + 1) L (zi (n : Int) :: S) m) : Ex E cc nL own d Q pc L (zr k :: S) m := by
  refine ex_st (fun _ hS hm => ok_cons (v := zi _) (show zz_in (n : Int) from ⟨by omega, by omega⟩) (ok_tl hS)) (fun p l e R s mi args below meth c A D cI cY ad cells slots Qs H locs ls hC hL hS hm hP hV hl kq => ?_) kk
  have e0 : Int32.ofNat n = Int32.ofInt (n : Int) := (Int32.ofInt_eq_ofNat).symm
  rcases hk with hk | hk
  · exact va_alen hC.1.1 hC.1.2.1 hC.2.1 hP k 0 (wl_arr hk) rfl e0 hd kq
  · exact va_alen hC.1.1 hC.1.2.1 hC.2.1 hP k 1 (wl_ref hk) rfl e0 hd kq
theorem x_rald (hd : decode cc pc = .ok (.iaload, 1)) (hk : 77 ≤ k ∧ k < 80) (h0 : 0 ≤ z) (h1 : z < rn E k) (hv : ro E k z.toNat = v) (kk : Ex E cc nL own d Q (pc + 1) L (zi v :: S) m) : Ex E cc nL own d Q pc L (zi z :: zr k :: S) m := by
  subst hv
  intro p l e R s mi args below meth c A D cI cY ad cells slots Qs hC hK H locs ls hL hS hm hP hV hl
  have hz : zz_in z := ok_hd hS
  obtain ⟨cell, g1, g2, g3, g4, g5, g6, g7⟩ := hC.2.2.1.1 k hk.1 hk.2
  have hlt : z.toNat < rn E k := by omega
  refine W.iald (v := .int (Int32.ofInt (ro E k z.toNat))) hC.1.1 hC.1.2.1 (a := ad k) (cell := cell) (j := Int32.ofInt z) (by rw [hV.2.1 (ad k) (Array.getElem?_eq_some_iff.mp g1).1 g7]; exact g1) g2 g3 ?_ (by rw [i32_idx hz h0]; exact g6 _ hlt) rfl rfl hd ?_
  · have hb := i32_bd hz h0 (show z < ((rn E k : Nat) : Int) from h1)
    rintro (h | h)
    · exact hb (Or.inl h)
    · exact hb (Or.inr (Nat.le_trans g4 h))
  · exact kk p l e R s mi args below meth c A D cI cY ad cells slots Qs hC hK H locs ls hL (ok_cons (v := zi _) (ro_in hC.2.2.2.1 hlt) (ok_tl (ok_tl hS))) hm hP hV hl
theorem x_ralen (hd : decode cc pc = .ok (.arraylength, 1)) (hk : 77 ≤ k ∧ k < 80) (kk : Ex E cc nL own d Q (pc + 1) L (zi (rn E k : Int) :: S) m) : Ex E cc nL own d Q pc L (zr k :: S) m := by
  intro p l e R s mi args below meth c A D cI cY ad cells slots Qs hC hK H locs ls hL hS hm hP hV hl
  obtain ⟨cell, g1, g2, g3, g4, g5, g6, g7⟩ := hC.2.2.1.1 k hk.1 hk.2
  have hn : rn E k ≤ 2048 := by
    unfold rn
    split
    · exact hC.2.2.2.1.1
    · omega
  have e0 : Int32.ofNat (rn E k) = Int32.ofInt (rn E k : Int) := (Int32.ofInt_eq_ofNat).symm
  refine W.alen (n := Int32.ofInt (rn E k : Int)) hC.1.1 hC.1.2.1 (a := ad k) (cell := cell) (by rw [hV.2.1 (ad k) (Array.getElem?_eq_some_iff.mp g1).1 g7]; exact g1) g2 (by rw [g5, e0]) rfl rfl hd ?_
  exact kk p l e R s mi args below meth c A D cI cY ad cells slots Qs hC hK H locs ls hL (ok_cons (v := zi _) (show zz_in (rn E k : Int) from ⟨by omega, by omega⟩) (ok_tl hS)) hm hP hV hl
/-- the two static arrays: 77 LEAST, 78 GREATEST -/
def zz_st (own : String) (idx q : Nat) : Prop := ∃ n : String, ((q = 77 ∧ n = "LEAST") ∨ (q = 78 ∧ n = "GREATEST")) ∧ (Cond.fieldLink own idx "NobodyLookedYesterday" n "[I" ∈ zz_T ∨ ∃ host, Cond.fieldLinkNest own idx "NobodyLookedYesterday" n "[I" host ∈ zz_T)
theorem x_gets {q : Nat} (hd : decode cc pc = .ok (.getstatic idx, 3)) (hf : zz_st own idx q) (kk : Ex E cc nL own d Q (pc + 3) L (zr q :: S) m) : Ex E cc nL own d Q pc L S m := by
  refine ex_st (fun _ hS hm => ok_cons (v := zr _) trivial hS) (fun p l e R s mi args below meth c A D cI cY ad cells slots Qs H locs ls hC hL hS hm hP hV hl kq => ?_) kk
  obtain ⟨n, hq, hl1⟩ := hf
  have hZ : va_Z "NobodyLookedYesterday" n "[I" (.ref (ad q)) A s s.heap := by
    rcases hq with ⟨rfl, rfl⟩ | ⟨rfl, rfl⟩
    · exact hC.2.2.1.2.1
    · exact hC.2.2.1.2.2
  rcases hl1 with h | ⟨host, h⟩
  · exact va_gets hC.1.1 hC.1.2.1 hZ hV hC.1.2.2.2.1 (hC.1.2.2.2.2 _ h) (fun _ h => h) hd kq
  · exact va_getsN hC.1.1 hC.1.2.1 hZ hV hC.1.2.2.2.1 (hC.1.2.2.2.2 _ h) (fun _ h => h) hd kq
end EXM
