section EXA
variable {E : zz_E} {cc : ByteArray} {nL : Nat} {own : String} {d : Nat} {Q : Option zz_V → zz_M → Prop} {pc tgt : Nat} {L : List (Option zz_V)} {S : List zz_V} {m : zz_M} {a b v off : Int}
theorem x_iadd (hd : decode cc pc = .ok (.iadd, 1)) (hv : nrm (a + b) = v) (kk : Ex E cc nL own d Q (pc + 1) L (zi v :: S) m) : Ex E cc nL own d Q pc L (zi b :: zi a :: S) m := by
  subst hv
  refine ex_i2 (nrm_in _) (fun p l e R s mi args below meth c cells slots Qs H locs ls rest hx hb ha hb2 k => lv_iadd hx hb hd ?_) kk
  rw [i32_nrm, Int32.ofInt_add] at k
  exact k
theorem x_isub (hd : decode cc pc = .ok (.isub, 1)) (hv : nrm (a - b) = v) (kk : Ex E cc nL own d Q (pc + 1) L (zi v :: S) m) : Ex E cc nL own d Q pc L (zi b :: zi a :: S) m := by
  subst hv
  refine ex_i2 (nrm_in _) (fun p l e R s mi args below meth c cells slots Qs H locs ls rest hx hb ha hb2 k => lv_isub hx hb hd ?_) kk
  rw [i32_nrm, Int32.ofInt_sub] at k
  exact k
theorem x_imul (hd : decode cc pc = .ok (.imul, 1)) (hv : nrm (a * b) = v) (kk : Ex E cc nL own d Q (pc + 1) L (zi v :: S) m) : Ex E cc nL own d Q pc L (zi b :: zi a :: S) m := by
  subst hv
  refine ex_i2 (nrm_in _) (fun p l e R s mi args below meth c cells slots Qs H locs ls rest hx hb ha hb2 k => lv_imul hx hb hd ?_) kk
  rw [i32_nrm, Int32.ofInt_mul] at k
  exact k
theorem x_iand (hd : decode cc pc = .ok (.iand, 1)) (hv : ian a b = v) (kk : Ex E cc nL own d Q (pc + 1) L (zi v :: S) m) : Ex E cc nL own d Q pc L (zi b :: zi a :: S) m := by
  subst hv
  refine ex_i2 (i32_in _) (fun p l e R s mi args below meth c cells slots Qs H locs ls rest hx hb ha hb2 k => lv_iand hx hb hd ?_) kk
  rw [i32_back] at k
  exact k
theorem x_ior (hd : decode cc pc = .ok (.ior, 1)) (hv : ior a b = v) (kk : Ex E cc nL own d Q (pc + 1) L (zi v :: S) m) : Ex E cc nL own d Q pc L (zi b :: zi a :: S) m := by
  subst hv
  refine ex_i2 (i32_in _) (fun p l e R s mi args below meth c cells slots Qs H locs ls rest hx hb ha hb2 k => lv_ior hx hb hd ?_) kk
  rw [i32_back] at k
  exact k
theorem x_ixor (hd : decode cc pc = .ok (.ixor, 1)) (hv : ixr a b = v) (kk : Ex E cc nL own d Q (pc + 1) L (zi v :: S) m) : Ex E cc nL own d Q pc L (zi b :: zi a :: S) m := by
  subst hv
  refine ex_i2 (i32_in _) (fun p l e R s mi args below meth c cells slots Qs H locs ls rest hx hb ha hb2 k => lv_ixor hx hb hd ?_) kk
  rw [i32_back] at k
  exact k
theorem x_ishl (hd : decode cc pc = .ok (.ishl, 1)) (hv : isl a b = v) (kk : Ex E cc nL own d Q (pc + 1) L (zi v :: S) m) : Ex E cc nL own d Q pc L (zi b :: zi a :: S) m := by
  subst hv
  refine ex_i2 (i32_in _) (fun p l e R s mi args below meth c cells slots Qs H locs ls rest hx hb ha hb2 k => lv_ishl hx hb hd ?_) kk
  rw [i32_back] at k
  exact k
theorem x_ishr (hd : decode cc pc = .ok (.ishr, 1)) (hv : isr a b = v) (kk : Ex E cc nL own d Q (pc + 1) L (zi v :: S) m) : Ex E cc nL own d Q pc L (zi b :: zi a :: S) m := by
  subst hv
  refine ex_i2 (i32_in _) (fun p l e R s mi args below meth c cells slots Qs H locs ls rest hx hb ha hb2 k => lv_ishr hx hb hd ?_) kk
  rw [i32_back] at k
  exact k
theorem x_iushr (hd : decode cc pc = .ok (.iushr, 1)) (hv : ius a b = v) (kk : Ex E cc nL own d Q (pc + 1) L (zi v :: S) m) : Ex E cc nL own d Q pc L (zi b :: zi a :: S) m := by
  subst hv
  exact ex_i2 (i32_in _) (fun p l e R s mi args below meth c cells slots Qs H locs ls rest hx hb ha hb2 k => lv_iushr hx hb hd (i32_back _).symm k) kk
theorem i32_ne0 {b : Int} (hb : zz_in b) (h : b ≠ 0) : ¬ Int32.ofInt b = 0 := fun q => h (i32_inj hb ⟨by decide, by decide⟩ q)
theorem x_idiv (hd : decode cc pc = .ok (.idiv, 1)) (hne : b ≠ 0) (hv : idv a b = v) (kk : Ex E cc nL own d Q (pc + 1) L (zi v :: S) m) : Ex E cc nL own d Q pc L (zi b :: zi a :: S) m := by
  subst hv
  refine ex_i2 (i32_in _) (fun p l e R s mi args below meth c cells slots Qs H locs ls rest hx hb ha hb2 k => lv_idiv hx hb hd (i32_ne0 hb2 hne) ?_) kk
  rw [i32_back] at k
  exact k
theorem x_irem (hd : decode cc pc = .ok (.irem, 1)) (hne : b ≠ 0) (hv : irm a b = v) (kk : Ex E cc nL own d Q (pc + 1) L (zi v :: S) m) : Ex E cc nL own d Q pc L (zi b :: zi a :: S) m := by
  subst hv
  refine ex_i2 (i32_in _) (fun p l e R s mi args below meth c cells slots Qs H locs ls rest hx hb ha hb2 k => lv_irem hx hb hd (i32_ne0 hb2 hne) ?_) kk
  rw [i32_back] at k
  exact k
theorem x_ineg (hd : decode cc pc = .ok (.ineg, 1)) (hv : nrm (-a) = v) (kk : Ex E cc nL own d Q (pc + 1) L (zi v :: S) m) : Ex E cc nL own d Q pc L (zi a :: S) m := by
  subst hv
  refine ex_st (fun _ hS _ => ok_cons (v := zi (nrm (-a))) (nrm_in _) (ok_tl hS)) (fun p l e R s mi args below meth c A D cI cY ad cells slots Qs H locs ls hC hL hS hm hP hV hl k => lv_ineg hC.1.1 hC.1.2.1 hd ?_) kk
  have e2 : -Int32.ofInt a = Int32.ofInt (nrm (-a)) := by rw [i32_nrm, Int32.ofInt_neg]
  rw [e2]
  exact k
-- longs
theorem x_i2l (hd : decode cc pc = .ok (.i2l, 1)) (kk : Ex E cc nL own d Q (pc + 1) L (zj a :: S) m) : Ex E cc nL own d Q pc L (zi a :: S) m := by
  refine ex_st (fun _ hS _ => ok_cons (v := zj a) (show zz_inl a from ?_) (ok_tl hS)) (fun p l e R s mi args below meth c A D cI cY ad cells slots Qs H locs ls hC hL hS hm hP hV hl k => lv_i2l hC.1.1 hC.1.2.1 hd ?_ k) kk
  · have h := ok_hd hS
    exact ⟨by have := h.1; omega, by have := h.2; omega⟩
  · have h : zz_in a := ok_hd hS
    apply Int64.toInt_inj.mp
    rw [Int32.toInt_toInt64, i32_of h, i64_of ⟨by have := h.1; omega, by have := h.2; omega⟩]
theorem x_lsub (hd : decode cc pc = .ok (.lsub, 1)) (hv : nrml (a - b) = v) (kk : Ex E cc nL own d Q (pc + 1) L (zj v :: S) m) : Ex E cc nL own d Q pc L (zj b :: zj a :: S) m := by
  subst hv
  refine ex_st (fun _ hS _ => ok_cons (v := zj _) (nrml_in _) (ok_tl (ok_tl hS))) (fun p l e R s mi args below meth c A D cI cY ad cells slots Qs H locs ls hC hL hS hm hP hV hl k => lv_lsub hC.1.1 hC.1.2.1 hd ?_) kk
  have e2 : Int64.ofInt a - Int64.ofInt b = Int64.ofInt (nrml (a - b)) := by rw [i64_nrml, Int64.ofInt_sub]
  rw [e2]
  exact k
def lcm_ (a b : Int) : Int := if b < a then 1 else if a = b then 0 else -1
theorem x_lcmp (hd : decode cc pc = .ok (.lcmp, 1)) (kk : Ex E cc nL own d Q (pc + 1) L (zi (lcm_ a b) :: S) m) : Ex E cc nL own d Q pc L (zj b :: zj a :: S) m := by
  refine ex_st (fun _ hS _ => ok_cons (v := zi _) (show zz_in _ from ?_) (ok_tl (ok_tl hS))) (fun p l e R s mi args below meth c A D cI cY ad cells slots Qs H locs ls hC hL hS hm hP hV hl k => W.lcmp hC.1.1 hC.1.2.1 hd ?_) kk
  · unfold lcm_ zz_in
    split <;> try split
    all_goals omega
  · have ha : zz_inl a := ok_hd (ok_tl hS)
    have hb : zz_inl b := ok_hd hS
    have e2 : lg_cmp (Int64.ofInt a) (Int64.ofInt b) = Int32.ofInt (lcm_ a b) := by
      unfold lg_cmp lcm_
      simp only [GT.gt, Int64.lt_iff_toInt_lt, ← Int64.toInt_inj, i64_of ha, i64_of hb]
      split
      · rfl
      · split <;> rfl
    rw [e2]
    exact k
-- the stack
theorem x_dup (hd : decode cc pc = .ok (.dup, 1)) (kk : Ex E cc nL own d Q (pc + 1) L (zi a :: zi a :: S) m) : Ex E cc nL own d Q pc L (zi a :: S) m :=
  ex_st (fun _ hS _ => ok_cons (ok_hd hS) hS) (fun p l e R s mi args below meth c A D cI cY ad cells slots Qs H locs ls hC hL hS hm hP hV hl k => lv_dup hC.1.1 hC.1.2.1 hd rfl k) kk
theorem x_dupr {k : Nat} (hd : decode cc pc = .ok (.dup, 1)) (kk : Ex E cc nL own d Q (pc + 1) L (zr k :: zr k :: S) m) : Ex E cc nL own d Q pc L (zr k :: S) m :=
  ex_st (fun _ hS _ => ok_cons (ok_hd hS) hS) (fun p l e R s mi args below meth c A D cI cY ad cells slots Qs H locs ls hC hL hS hm hP hV hl k => lv_dup hC.1.1 hC.1.2.1 hd rfl k) kk
theorem x_dup2 {k : Nat} (hd : decode cc pc = .ok (.dup2, 1)) (kk : Ex E cc nL own d Q (pc + 1) L (zi a :: zr k :: zi a :: zr k :: S) m) : Ex E cc nL own d Q pc L (zi a :: zr k :: S) m :=
  ex_st (fun _ hS _ => ok_cons (ok_hd hS) (ok_cons (ok_hd (ok_tl hS)) hS)) (fun p l e R s mi args below meth c A D cI cY ad cells slots Qs H locs ls hC hL hS hm hP hV hl k => lv_dup2_11 hC.1.1 hC.1.2.1 hd rfl rfl k) kk
theorem x_pop (hd : decode cc pc = .ok (.pop, 1)) (kk : Ex E cc nL own d Q (pc + 1) L S m) : Ex E cc nL own d Q pc L (zi a :: S) m :=
  ex_st (fun _ hS _ => ok_tl hS) (fun p l e R s mi args below meth c A D cI cY ad cells slots Qs H locs ls hC hL hS hm hP hV hl k => lv_pop hC.1.1 hC.1.2.1 hd rfl k) kk
theorem x_goto (hd : decode cc pc = .ok (.goto off, 3)) (ht : (pc : Int) + off = (tgt : Int)) (kk : Ex E cc nL own d Q tgt L S m) : Ex E cc nL own d Q pc L S m :=
  ex_st (fun _ hS _ => hS) (fun p l e R s mi args below meth c A D cI cY ad cells slots Qs H locs ls hC hL hS hm hP hV hl k => lv_goto hC.1.1 hC.1.2.1 hd ht k) kk
theorem x_icmp_eq (hd : decode cc pc = .ok (.if_icmp .eq off, 3)) (ht : (pc : Int) + off = (tgt : Int)) (kt : a = b → Ex E cc nL own d Q tgt L S m) (kf : a ≠ b → Ex E cc nL own d Q (pc + 3) L S m) : Ex E cc nL own d Q pc L (zi b :: zi a :: S) m := by
  intro p l e R s mi args below meth c A D cI cY ad cells slots Qs hC hK H locs ls hL hS hm hP hV hl
  have ha : zz_in a := ok_hd (ok_tl hS)
  have hb : zz_in b := ok_hd hS
  have kt := fun h => kt h p l e R s mi args below meth c A D cI cY ad cells slots Qs hC hK H locs ls hL (ok_tl (ok_tl hS)) hm hP hV hl
  have kf := fun h => kf h p l e R s mi args below meth c A D cI cY ad cells slots Qs hC hK H locs ls hL (ok_tl (ok_tl hS)) hm hP hV hl
  exact lv_icmp_eq hC.1.1 hC.1.2.1 hd ht (fun h => kt (i32_inj ha hb h)) (fun h => kf (fun q => h (congrArg Int32.ofInt q)))
theorem x_if_eq (hd : decode cc pc = .ok (.ifCond .eq off, 3)) (ht : (pc : Int) + off = (tgt : Int)) (kt : a = 0 → Ex E cc nL own d Q tgt L S m) (kf : a ≠ 0 → Ex E cc nL own d Q (pc + 3) L S m) : Ex E cc nL own d Q pc L (zi a :: S) m := by
  intro p l e R s mi args below meth c A D cI cY ad cells slots Qs hC hK H locs ls hL hS hm hP hV hl
  have ha : zz_in a := ok_hd hS
  have hb : zz_in 0 := ⟨by decide, by decide⟩
  have kt := fun h => kt h p l e R s mi args below meth c A D cI cY ad cells slots Qs hC hK H locs ls hL (ok_tl hS) hm hP hV hl
  have kf := fun h => kf h p l e R s mi args below meth c A D cI cY ad cells slots Qs hC hK H locs ls hL (ok_tl hS) hm hP hV hl
  exact lv_if_eq hC.1.1 hC.1.2.1 hd ht (fun h => kt (i32_inj ha hb h)) (fun h => kf (fun q => h (congrArg Int32.ofInt q)))
theorem x_icmp_ne (hd : decode cc pc = .ok (.if_icmp .ne off, 3)) (ht : (pc : Int) + off = (tgt : Int)) (kt : a ≠ b → Ex E cc nL own d Q tgt L S m) (kf : a = b → Ex E cc nL own d Q (pc + 3) L S m) : Ex E cc nL own d Q pc L (zi b :: zi a :: S) m := by
  intro p l e R s mi args below meth c A D cI cY ad cells slots Qs hC hK H locs ls hL hS hm hP hV hl
  have ha : zz_in a := ok_hd (ok_tl hS)
  have hb : zz_in b := ok_hd hS
  have kt := fun h => kt h p l e R s mi args below meth c A D cI cY ad cells slots Qs hC hK H locs ls hL (ok_tl (ok_tl hS)) hm hP hV hl
  have kf := fun h => kf h p l e R s mi args below meth c A D cI cY ad cells slots Qs hC hK H locs ls hL (ok_tl (ok_tl hS)) hm hP hV hl
  exact lv_icmp_ne hC.1.1 hC.1.2.1 hd ht (fun h => kt (fun q => h (congrArg Int32.ofInt q))) (fun h => kf (i32_inj ha hb h))
theorem x_if_ne (hd : decode cc pc = .ok (.ifCond .ne off, 3)) (ht : (pc : Int) + off = (tgt : Int)) (kt : a ≠ 0 → Ex E cc nL own d Q tgt L S m) (kf : a = 0 → Ex E cc nL own d Q (pc + 3) L S m) : Ex E cc nL own d Q pc L (zi a :: S) m := by
  intro p l e R s mi args below meth c A D cI cY ad cells slots Qs hC hK H locs ls hL hS hm hP hV hl
  have ha : zz_in a := ok_hd hS
  have hb : zz_in 0 := ⟨by decide, by decide⟩
  have kt := fun h => kt h p l e R s mi args below meth c A D cI cY ad cells slots Qs hC hK H locs ls hL (ok_tl hS) hm hP hV hl
  have kf := fun h => kf h p l e R s mi args below meth c A D cI cY ad cells slots Qs hC hK H locs ls hL (ok_tl hS) hm hP hV hl
  exact lv_if_ne hC.1.1 hC.1.2.1 hd ht (fun h => kt (fun q => h (congrArg Int32.ofInt q))) (fun h => kf (i32_inj ha hb h))
theorem x_icmp_lt (hd : decode cc pc = .ok (.if_icmp .lt off, 3)) (ht : (pc : Int) + off = (tgt : Int)) (kt : a < b → Ex E cc nL own d Q tgt L S m) (kf : b ≤ a → Ex E cc nL own d Q (pc + 3) L S m) : Ex E cc nL own d Q pc L (zi b :: zi a :: S) m := by
  intro p l e R s mi args below meth c A D cI cY ad cells slots Qs hC hK H locs ls hL hS hm hP hV hl
  have ha : zz_in a := ok_hd (ok_tl hS)
  have hb : zz_in b := ok_hd hS
  have kt := fun h => kt h p l e R s mi args below meth c A D cI cY ad cells slots Qs hC hK H locs ls hL (ok_tl (ok_tl hS)) hm hP hV hl
  have kf := fun h => kf h p l e R s mi args below meth c A D cI cY ad cells slots Qs hC hK H locs ls hL (ok_tl (ok_tl hS)) hm hP hV hl
  exact lv_icmp_lt hC.1.1 hC.1.2.1 hd ht (fun h => kt ((i32_lt ha hb).mp h)) (fun h => kf (Int.not_lt.mp (fun q => h ((i32_lt ha hb).mpr q))))
theorem x_if_lt (hd : decode cc pc = .ok (.ifCond .lt off, 3)) (ht : (pc : Int) + off = (tgt : Int)) (kt : a < 0 → Ex E cc nL own d Q tgt L S m) (kf : 0 ≤ a → Ex E cc nL own d Q (pc + 3) L S m) : Ex E cc nL own d Q pc L (zi a :: S) m := by
  intro p l e R s mi args below meth c A D cI cY ad cells slots Qs hC hK H locs ls hL hS hm hP hV hl
  have ha : zz_in a := ok_hd hS
  have hb : zz_in 0 := ⟨by decide, by decide⟩
  have kt := fun h => kt h p l e R s mi args below meth c A D cI cY ad cells slots Qs hC hK H locs ls hL (ok_tl hS) hm hP hV hl
  have kf := fun h => kf h p l e R s mi args below meth c A D cI cY ad cells slots Qs hC hK H locs ls hL (ok_tl hS) hm hP hV hl
  exact lv_if_lt hC.1.1 hC.1.2.1 hd ht (fun h => kt ((i32_lt ha hb).mp h)) (fun h => kf (Int.not_lt.mp (fun q => h ((i32_lt ha hb).mpr q))))
theorem x_icmp_ge (hd : decode cc pc = .ok (.if_icmp .ge off, 3)) (ht : (pc : Int) + off = (tgt : Int)) (kt : b ≤ a → Ex E cc nL own d Q tgt L S m) (kf : a < b → Ex E cc nL own d Q (pc + 3) L S m) : Ex E cc nL own d Q pc L (zi b :: zi a :: S) m := by
  intro p l e R s mi args below meth c A D cI cY ad cells slots Qs hC hK H locs ls hL hS hm hP hV hl
  have ha : zz_in a := ok_hd (ok_tl hS)
  have hb : zz_in b := ok_hd hS
  have kt := fun h => kt h p l e R s mi args below meth c A D cI cY ad cells slots Qs hC hK H locs ls hL (ok_tl (ok_tl hS)) hm hP hV hl
  have kf := fun h => kf h p l e R s mi args below meth c A D cI cY ad cells slots Qs hC hK H locs ls hL (ok_tl (ok_tl hS)) hm hP hV hl
  exact lv_icmp_ge hC.1.1 hC.1.2.1 hd ht (fun h => kt ((i32_le hb ha).mp h)) (fun h => kf (Int.not_le.mp (fun q => h ((i32_le hb ha).mpr q))))
theorem x_if_ge (hd : decode cc pc = .ok (.ifCond .ge off, 3)) (ht : (pc : Int) + off = (tgt : Int)) (kt : 0 ≤ a → Ex E cc nL own d Q tgt L S m) (kf : a < 0 → Ex E cc nL own d Q (pc + 3) L S m) : Ex E cc nL own d Q pc L (zi a :: S) m := by
  intro p l e R s mi args below meth c A D cI cY ad cells slots Qs hC hK H locs ls hL hS hm hP hV hl
  have ha : zz_in a := ok_hd hS
  have hb : zz_in 0 := ⟨by decide, by decide⟩
  have kt := fun h => kt h p l e R s mi args below meth c A D cI cY ad cells slots Qs hC hK H locs ls hL (ok_tl hS) hm hP hV hl
  have kf := fun h => kf h p l e R s mi args below meth c A D cI cY ad cells slots Qs hC hK H locs ls hL (ok_tl hS) hm hP hV hl
  exact lv_if_ge hC.1.1 hC.1.2.1 hd ht (fun h => kt ((i32_le hb ha).mp h)) (fun h => kf (Int.not_le.mp (fun q => h ((i32_le hb ha).mpr q))))
theorem x_icmp_gt (hd : decode cc pc = .ok (.if_icmp .gt off, 3)) (ht : (pc : Int) + off = (tgt : Int)) (kt : b < a → Ex E cc nL own d Q tgt L S m) (kf : a ≤ b → Ex E cc nL own d Q (pc + 3) L S m) : Ex E cc nL own d Q pc L (zi b :: zi a :: S) m := by
  intro p l e R s mi args below meth c A D cI cY ad cells slots Qs hC hK H locs ls hL hS hm hP hV hl
  have ha : zz_in a := ok_hd (ok_tl hS)
  have hb : zz_in b := ok_hd hS
  have kt := fun h => kt h p l e R s mi args below meth c A D cI cY ad cells slots Qs hC hK H locs ls hL (ok_tl (ok_tl hS)) hm hP hV hl
  have kf := fun h => kf h p l e R s mi args below meth c A D cI cY ad cells slots Qs hC hK H locs ls hL (ok_tl (ok_tl hS)) hm hP hV hl
  exact lv_icmp_gt hC.1.1 hC.1.2.1 hd ht (fun h => kt ((i32_lt hb ha).mp h)) (fun h => kf (Int.not_lt.mp (fun q => h ((i32_lt hb ha).mpr q))))
theorem x_if_gt (hd : decode cc pc = .ok (.ifCond .gt off, 3)) (ht : (pc : Int) + off = (tgt : Int)) (kt : 0 < a → Ex E cc nL own d Q tgt L S m) (kf : a ≤ 0 → Ex E cc nL own d Q (pc + 3) L S m) : Ex E cc nL own d Q pc L (zi a :: S) m := by
  intro p l e R s mi args below meth c A D cI cY ad cells slots Qs hC hK H locs ls hL hS hm hP hV hl
  have ha : zz_in a := ok_hd hS
  have hb : zz_in 0 := ⟨by decide, by decide⟩
  have kt := fun h => kt h p l e R s mi args below meth c A D cI cY ad cells slots Qs hC hK H locs ls hL (ok_tl hS) hm hP hV hl
  have kf := fun h => kf h p l e R s mi args below meth c A D cI cY ad cells slots Qs hC hK H locs ls hL (ok_tl hS) hm hP hV hl
  exact lv_if_gt hC.1.1 hC.1.2.1 hd ht (fun h => kt ((i32_lt hb ha).mp h)) (fun h => kf (Int.not_lt.mp (fun q => h ((i32_lt hb ha).mpr q))))
theorem x_icmp_le (hd : decode cc pc = .ok (.if_icmp .le off, 3)) (ht : (pc : Int) + off = (tgt : Int)) (kt : a ≤ b → Ex E cc nL own d Q tgt L S m) (kf : b < a → Ex E cc nL own d Q (pc + 3) L S m) : Ex E cc nL own d Q pc L (zi b :: zi a :: S) m := by
  intro p l e R s mi args below meth c A D cI cY ad cells slots Qs hC hK H locs ls hL hS hm hP hV hl
  have ha : zz_in a := ok_hd (ok_tl hS)
  have hb : zz_in b := ok_hd hS
  have kt := fun h => kt h p l e R s mi args below meth c A D cI cY ad cells slots Qs hC hK H locs ls hL (ok_tl (ok_tl hS)) hm hP hV hl
  have kf := fun h => kf h p l e R s mi args below meth c A D cI cY ad cells slots Qs hC hK H locs ls hL (ok_tl (ok_tl hS)) hm hP hV hl
  exact lv_icmp_le hC.1.1 hC.1.2.1 hd ht (fun h => kt ((i32_le ha hb).mp h)) (fun h => kf (Int.not_le.mp (fun q => h ((i32_le ha hb).mpr q))))
theorem x_if_le (hd : decode cc pc = .ok (.ifCond .le off, 3)) (ht : (pc : Int) + off = (tgt : Int)) (kt : a ≤ 0 → Ex E cc nL own d Q tgt L S m) (kf : 0 < a → Ex E cc nL own d Q (pc + 3) L S m) : Ex E cc nL own d Q pc L (zi a :: S) m := by
  intro p l e R s mi args below meth c A D cI cY ad cells slots Qs hC hK H locs ls hL hS hm hP hV hl
  have ha : zz_in a := ok_hd hS
  have hb : zz_in 0 := ⟨by decide, by decide⟩
  have kt := fun h => kt h p l e R s mi args below meth c A D cI cY ad cells slots Qs hC hK H locs ls hL (ok_tl hS) hm hP hV hl
  have kf := fun h => kf h p l e R s mi args below meth c A D cI cY ad cells slots Qs hC hK H locs ls hL (ok_tl hS) hm hP hV hl
  exact lv_if_le hC.1.1 hC.1.2.1 hd ht (fun h => kt ((i32_le ha hb).mp h)) (fun h => kf (Int.not_le.mp (fun q => h ((i32_le ha hb).mpr q))))
theorem x_tin {dflt lo hi : Int} {offs : Array Int} {len : Nat} (hd : decode cc pc = .ok (.tableswitch dflt lo hi offs, len)) (h1 : lo ≤ a) (h2 : a ≤ hi) (ho : offs[(a - lo).toNat]? = some off) (ht : (pc : Int) + off = (tgt : Int)) (kk : Ex E cc nL own d Q tgt L S m) : Ex E cc nL own d Q pc L (zi a :: S) m :=
  ex_st (fun _ hS _ => ok_tl hS) (fun p l e R s mi args below meth c A D cI cY ad cells slots Qs H locs ls hC hL hS hm hP hV hl k => lv_tableIn hC.1.1 hC.1.2.1 hd (by rw [i32_of (ok_hd hS)]; omega) (by rw [i32_of (ok_hd hS)]; omega) (by rw [i32_of (ok_hd hS)]; exact ho) ht k) kk
theorem x_tout {dflt lo hi : Int} {offs : Array Int} {len : Nat} (hd : decode cc pc = .ok (.tableswitch dflt lo hi offs, len)) (h : a < lo ∨ hi < a) (ht : (pc : Int) + dflt = (tgt : Int)) (kk : Ex E cc nL own d Q tgt L S m) : Ex E cc nL own d Q pc L (zi a :: S) m :=
  ex_st (fun _ hS _ => ok_tl hS) (fun p l e R s mi args below meth c A D cI cY ad cells slots Qs H locs ls hC hL hS hm hP hV hl k => lv_tableOut hC.1.1 hC.1.2.1 hd (by rw [i32_of (ok_hd hS)]; exact h) ht k) kk
theorem x_look {dflt : Int} {ps : Array (Int × Int)} {len : Nat} (hd : decode cc pc = .ok (.lookupswitch dflt ps, len)) (hp : (ps.toList.zip (ps.toList.drop 1)).all (fun (a, next) => a.1 < next.1) = true) (ho : Op.lookupswitch.offset ps.toList dflt a = off) (ht : (pc : Int) + off = (tgt : Int)) (kk : Ex E cc nL own d Q tgt L S m) : Ex E cc nL own d Q pc L (zi a :: S) m :=
  ex_st (fun _ hS _ => ok_tl hS) (fun p l e R s mi args below meth c A D cI cY ad cells slots Qs H locs ls hC hL hS hm hP hV hl k => lv_lookup hC.1.1 hC.1.2.1 hd hp (by rw [i32_of (ok_hd hS)]; exact ho) ht k) kk
end EXA
section EXL
variable {E : zz_E} {cc : ByteArray} {nL : Nat} {own : String} {d : Nat} {Q : Option zz_V → zz_M → Prop} {pc : Nat} {L : List (Option zz_V)} {S : List zz_V} {m : zz_M} {z v n : Int} {k : Nat}
theorem x_iload0 (hd : decode cc pc = .ok (.iload_n 0, 1)) (kk : Ex E cc nL own d Q (pc + 1) (some (zi z) :: L) (zi z :: S) m) : Ex E cc nL own d Q pc (some (zi z) :: L) S m := x_iloadG (i := 0) (Or.inr ⟨0, hd, rfl, rfl⟩) rfl kk
theorem x_istore0 {o : Option zz_V} (hd : decode cc pc = .ok (.istore_n 0, 1)) (hi : 0 < nL) (hn : njl (o :: L) = true) (kk : Ex E cc nL own d Q (pc + 1) (some (zi z) :: L) S m) : Ex E cc nL own d Q pc (o :: L) (zi z :: S) m := x_storeG (i := 0) hi hn (Or.inl ⟨z, rfl, Or.inr ⟨0, hd, rfl, rfl⟩⟩) kk
theorem x_aload0 (hd : decode cc pc = .ok (.aload_n 0, 1)) (kk : Ex E cc nL own d Q (pc + 1) (some (zr k) :: L) (zr k :: S) m) : Ex E cc nL own d Q pc (some (zr k) :: L) S m := x_aloadG (i := 0) (Or.inr ⟨0, hd, rfl, rfl⟩) rfl kk
theorem x_astore0 {o : Option zz_V} (hd : decode cc pc = .ok (.astore_n 0, 1)) (hi : 0 < nL) (hn : njl (o :: L) = true) (kk : Ex E cc nL own d Q (pc + 1) (some (zr k) :: L) S m) : Ex E cc nL own d Q pc (o :: L) (zr k :: S) m := x_storeG (i := 0) hi hn (Or.inr ⟨k, rfl, Or.inr ⟨0, hd, rfl, rfl⟩⟩) kk
theorem x_iinc0 (hd : decode cc pc = .ok (.iinc 0 n, 3)) (hi : 0 < nL) (hn : njl (some (zi z) :: L) = true) (hv : nrm (z + n) = v) (kk : Ex E cc nL own d Q (pc + 3) (some (zi v) :: L) S m) : Ex E cc nL own d Q pc (some (zi z) :: L) S m := x_iincG (i := 0) hi hn hd rfl hv kk
theorem x_iload1 {l0 : Option zz_V} (hd : decode cc pc = .ok (.iload_n 1, 1)) (kk : Ex E cc nL own d Q (pc + 1) (l0 :: some (zi z) :: L) (zi z :: S) m) : Ex E cc nL own d Q pc (l0 :: some (zi z) :: L) S m := x_iloadG (i := 1) (Or.inr ⟨1, hd, rfl, rfl⟩) rfl kk
theorem x_istore1 {l0 : Option zz_V} {o : Option zz_V} (hd : decode cc pc = .ok (.istore_n 1, 1)) (hi : 1 < nL) (hn : njl (l0 :: o :: L) = true) (kk : Ex E cc nL own d Q (pc + 1) (l0 :: some (zi z) :: L) S m) : Ex E cc nL own d Q pc (l0 :: o :: L) (zi z :: S) m := x_storeG (i := 1) hi hn (Or.inl ⟨z, rfl, Or.inr ⟨1, hd, rfl, rfl⟩⟩) kk
theorem x_aload1 {l0 : Option zz_V} (hd : decode cc pc = .ok (.aload_n 1, 1)) (kk : Ex E cc nL own d Q (pc + 1) (l0 :: some (zr k) :: L) (zr k :: S) m) : Ex E cc nL own d Q pc (l0 :: some (zr k) :: L) S m := x_aloadG (i := 1) (Or.inr ⟨1, hd, rfl, rfl⟩) rfl kk
theorem x_astore1 {l0 : Option zz_V} {o : Option zz_V} (hd : decode cc pc = .ok (.astore_n 1, 1)) (hi : 1 < nL) (hn : njl (l0 :: o :: L) = true) (kk : Ex E cc nL own d Q (pc + 1) (l0 :: some (zr k) :: L) S m) : Ex E cc nL own d Q pc (l0 :: o :: L) (zr k :: S) m := x_storeG (i := 1) hi hn (Or.inr ⟨k, rfl, Or.inr ⟨1, hd, rfl, rfl⟩⟩) kk
theorem x_iinc1 {l0 : Option zz_V} (hd : decode cc pc = .ok (.iinc 1 n, 3)) (hi : 1 < nL) (hn : njl (l0 :: some (zi z) :: L) = true) (hv : nrm (z + n) = v) (kk : Ex E cc nL own d Q (pc + 3) (l0 :: some (zi v) :: L) S m) : Ex E cc nL own d Q pc (l0 :: some (zi z) :: L) S m := x_iincG (i := 1) hi hn hd rfl hv kk
theorem x_iload2 {l0 l1 : Option zz_V} (hd : decode cc pc = .ok (.iload_n 2, 1)) (kk : Ex E cc nL own d Q (pc + 1) (l0 :: l1 :: some (zi z) :: L) (zi z :: S) m) : Ex E cc nL own d Q pc (l0 :: l1 :: some (zi z) :: L) S m := x_iloadG (i := 2) (Or.inr ⟨2, hd, rfl, rfl⟩) rfl kk
theorem x_istore2 {l0 l1 : Option zz_V} {o : Option zz_V} (hd : decode cc pc = .ok (.istore_n 2, 1)) (hi : 2 < nL) (hn : njl (l0 :: l1 :: o :: L) = true) (kk : Ex E cc nL own d Q (pc + 1) (l0 :: l1 :: some (zi z) :: L) S m) : Ex E cc nL own d Q pc (l0 :: l1 :: o :: L) (zi z :: S) m := x_storeG (i := 2) hi hn (Or.inl ⟨z, rfl, Or.inr ⟨2, hd, rfl, rfl⟩⟩) kk
theorem x_aload2 {l0 l1 : Option zz_V} (hd : decode cc pc = .ok (.aload_n 2, 1)) (kk : Ex E cc nL own d Q (pc + 1) (l0 :: l1 :: some (zr k) :: L) (zr k :: S) m) : Ex E cc nL own d Q pc (l0 :: l1 :: some (zr k) :: L) S m := x_aloadG (i := 2) (Or.inr ⟨2, hd, rfl, rfl⟩) rfl kk
theorem x_astore2 {l0 l1 : Option zz_V} {o : Option zz_V} (hd : decode cc pc = .ok (.astore_n 2, 1)) (hi : 2 < nL) (hn : njl (l0 :: l1 :: o :: L) = true) (kk : Ex E cc nL own d Q (pc + 1) (l0 :: l1 :: some (zr k) :: L) S m) : Ex E cc nL own d Q pc (l0 :: l1 :: o :: L) (zr k :: S) m := x_storeG (i := 2) hi hn (Or.inr ⟨k, rfl, Or.inr ⟨2, hd, rfl, rfl⟩⟩) kk
theorem x_iinc2 {l0 l1 : Option zz_V} (hd : decode cc pc = .ok (.iinc 2 n, 3)) (hi : 2 < nL) (hn : njl (l0 :: l1 :: some (zi z) :: L) = true) (hv : nrm (z + n) = v) (kk : Ex E cc nL own d Q (pc + 3) (l0 :: l1 :: some (zi v) :: L) S m) : Ex E cc nL own d Q pc (l0 :: l1 :: some (zi z) :: L) S m := x_iincG (i := 2) hi hn hd rfl hv kk
theorem x_iload3 {l0 l1 l2 : Option zz_V} (hd : decode cc pc = .ok (.iload_n 3, 1)) (kk : Ex E cc nL own d Q (pc + 1) (l0 :: l1 :: l2 :: some (zi z) :: L) (zi z :: S) m) : Ex E cc nL own d Q pc (l0 :: l1 :: l2 :: some (zi z) :: L) S m := x_iloadG (i := 3) (Or.inr ⟨3, hd, rfl, rfl⟩) rfl kk
theorem x_istore3 {l0 l1 l2 : Option zz_V} {o : Option zz_V} (hd : decode cc pc = .ok (.istore_n 3, 1)) (hi : 3 < nL) (hn : njl (l0 :: l1 :: l2 :: o :: L) = true) (kk : Ex E cc nL own d Q (pc + 1) (l0 :: l1 :: l2 :: some (zi z) :: L) S m) : Ex E cc nL own d Q pc (l0 :: l1 :: l2 :: o :: L) (zi z :: S) m := x_storeG (i := 3) hi hn (Or.inl ⟨z, rfl, Or.inr ⟨3, hd, rfl, rfl⟩⟩) kk
theorem x_aload3 {l0 l1 l2 : Option zz_V} (hd : decode cc pc = .ok (.aload_n 3, 1)) (kk : Ex E cc nL own d Q (pc + 1) (l0 :: l1 :: l2 :: some (zr k) :: L) (zr k :: S) m) : Ex E cc nL own d Q pc (l0 :: l1 :: l2 :: some (zr k) :: L) S m := x_aloadG (i := 3) (Or.inr ⟨3, hd, rfl, rfl⟩) rfl kk
theorem x_astore3 {l0 l1 l2 : Option zz_V} {o : Option zz_V} (hd : decode cc pc = .ok (.astore_n 3, 1)) (hi : 3 < nL) (hn : njl (l0 :: l1 :: l2 :: o :: L) = true) (kk : Ex E cc nL own d Q (pc + 1) (l0 :: l1 :: l2 :: some (zr k) :: L) S m) : Ex E cc nL own d Q pc (l0 :: l1 :: l2 :: o :: L) (zr k :: S) m := x_storeG (i := 3) hi hn (Or.inr ⟨k, rfl, Or.inr ⟨3, hd, rfl, rfl⟩⟩) kk
theorem x_iinc3 {l0 l1 l2 : Option zz_V} (hd : decode cc pc = .ok (.iinc 3 n, 3)) (hi : 3 < nL) (hn : njl (l0 :: l1 :: l2 :: some (zi z) :: L) = true) (hv : nrm (z + n) = v) (kk : Ex E cc nL own d Q (pc + 3) (l0 :: l1 :: l2 :: some (zi v) :: L) S m) : Ex E cc nL own d Q pc (l0 :: l1 :: l2 :: some (zi z) :: L) S m := x_iincG (i := 3) hi hn hd rfl hv kk
theorem x_iload4 {l0 l1 l2 l3 : Option zz_V} (hd : decode cc pc = .ok (.iload 4, 2)) (kk : Ex E cc nL own d Q (pc + 2) (l0 :: l1 :: l2 :: l3 :: some (zi z) :: L) (zi z :: S) m) : Ex E cc nL own d Q pc (l0 :: l1 :: l2 :: l3 :: some (zi z) :: L) S m := x_iloadG (i := 4) (Or.inl ⟨hd, rfl⟩) rfl kk
theorem x_istore4 {l0 l1 l2 l3 : Option zz_V} {o : Option zz_V} (hd : decode cc pc = .ok (.istore 4, 2)) (hi : 4 < nL) (hn : njl (l0 :: l1 :: l2 :: l3 :: o :: L) = true) (kk : Ex E cc nL own d Q (pc + 2) (l0 :: l1 :: l2 :: l3 :: some (zi z) :: L) S m) : Ex E cc nL own d Q pc (l0 :: l1 :: l2 :: l3 :: o :: L) (zi z :: S) m := x_storeG (i := 4) hi hn (Or.inl ⟨z, rfl, Or.inl ⟨hd, rfl⟩⟩) kk
theorem x_aload4 {l0 l1 l2 l3 : Option zz_V} (hd : decode cc pc = .ok (.aload 4, 2)) (kk : Ex E cc nL own d Q (pc + 2) (l0 :: l1 :: l2 :: l3 :: some (zr k) :: L) (zr k :: S) m) : Ex E cc nL own d Q pc (l0 :: l1 :: l2 :: l3 :: some (zr k) :: L) S m := x_aloadG (i := 4) (Or.inl ⟨hd, rfl⟩) rfl kk
theorem x_astore4 {l0 l1 l2 l3 : Option zz_V} {o : Option zz_V} (hd : decode cc pc = .ok (.astore 4, 2)) (hi : 4 < nL) (hn : njl (l0 :: l1 :: l2 :: l3 :: o :: L) = true) (kk : Ex E cc nL own d Q (pc + 2) (l0 :: l1 :: l2 :: l3 :: some (zr k) :: L) S m) : Ex E cc nL own d Q pc (l0 :: l1 :: l2 :: l3 :: o :: L) (zr k :: S) m := x_storeG (i := 4) hi hn (Or.inr ⟨k, rfl, Or.inl ⟨hd, rfl⟩⟩) kk
theorem x_iinc4 {l0 l1 l2 l3 : Option zz_V} (hd : decode cc pc = .ok (.iinc 4 n, 3)) (hi : 4 < nL) (hn : njl (l0 :: l1 :: l2 :: l3 :: some (zi z) :: L) = true) (hv : nrm (z + n) = v) (kk : Ex E cc nL own d Q (pc + 3) (l0 :: l1 :: l2 :: l3 :: some (zi v) :: L) S m) : Ex E cc nL own d Q pc (l0 :: l1 :: l2 :: l3 :: some (zi z) :: L) S m := x_iincG (i := 4) hi hn hd rfl hv kk
theorem x_iload5 {l0 l1 l2 l3 l4 : Option zz_V} (hd : decode cc pc = .ok (.iload 5, 2)) (kk : Ex E cc nL own d Q (pc + 2) (l0 :: l1 :: l2 :: l3 :: l4 :: some (zi z) :: L) (zi z :: S) m) : Ex E cc nL own d Q pc (l0 :: l1 :: l2 :: l3 :: l4 :: some (zi z) :: L) S m := x_iloadG (i := 5) (Or.inl ⟨hd, rfl⟩) rfl kk
theorem x_istore5 {l0 l1 l2 l3 l4 : Option zz_V} {o : Option zz_V} (hd : decode cc pc = .ok (.istore 5, 2)) (hi : 5 < nL) (hn : njl (l0 :: l1 :: l2 :: l3 :: l4 :: o :: L) = true) (kk : Ex E cc nL own d Q (pc + 2) (l0 :: l1 :: l2 :: l3 :: l4 :: some (zi z) :: L) S m) : Ex E cc nL own d Q pc (l0 :: l1 :: l2 :: l3 :: l4 :: o :: L) (zi z :: S) m := x_storeG (i := 5) hi hn (Or.inl ⟨z, rfl, Or.inl ⟨hd, rfl⟩⟩) kk
theorem x_aload5 {l0 l1 l2 l3 l4 : Option zz_V} (hd : decode cc pc = .ok (.aload 5, 2)) (kk : Ex E cc nL own d Q (pc + 2) (l0 :: l1 :: l2 :: l3 :: l4 :: some (zr k) :: L) (zr k :: S) m) : Ex E cc nL own d Q pc (l0 :: l1 :: l2 :: l3 :: l4 :: some (zr k) :: L) S m := x_aloadG (i := 5) (Or.inl ⟨hd, rfl⟩) rfl kk
theorem x_astore5 {l0 l1 l2 l3 l4 : Option zz_V} {o : Option zz_V} (hd : decode cc pc = .ok (.astore 5, 2)) (hi : 5 < nL) (hn : njl (l0 :: l1 :: l2 :: l3 :: l4 :: o :: L) = true) (kk : Ex E cc nL own d Q (pc + 2) (l0 :: l1 :: l2 :: l3 :: l4 :: some (zr k) :: L) S m) : Ex E cc nL own d Q pc (l0 :: l1 :: l2 :: l3 :: l4 :: o :: L) (zr k :: S) m := x_storeG (i := 5) hi hn (Or.inr ⟨k, rfl, Or.inl ⟨hd, rfl⟩⟩) kk
theorem x_iinc5 {l0 l1 l2 l3 l4 : Option zz_V} (hd : decode cc pc = .ok (.iinc 5 n, 3)) (hi : 5 < nL) (hn : njl (l0 :: l1 :: l2 :: l3 :: l4 :: some (zi z) :: L) = true) (hv : nrm (z + n) = v) (kk : Ex E cc nL own d Q (pc + 3) (l0 :: l1 :: l2 :: l3 :: l4 :: some (zi v) :: L) S m) : Ex E cc nL own d Q pc (l0 :: l1 :: l2 :: l3 :: l4 :: some (zi z) :: L) S m := x_iincG (i := 5) hi hn hd rfl hv kk
theorem x_iload6 {l0 l1 l2 l3 l4 l5 : Option zz_V} (hd : decode cc pc = .ok (.iload 6, 2)) (kk : Ex E cc nL own d Q (pc + 2) (l0 :: l1 :: l2 :: l3 :: l4 :: l5 :: some (zi z) :: L) (zi z :: S) m) : Ex E cc nL own d Q pc (l0 :: l1 :: l2 :: l3 :: l4 :: l5 :: some (zi z) :: L) S m := x_iloadG (i := 6) (Or.inl ⟨hd, rfl⟩) rfl kk
theorem x_istore6 {l0 l1 l2 l3 l4 l5 : Option zz_V} {o : Option zz_V} (hd : decode cc pc = .ok (.istore 6, 2)) (hi : 6 < nL) (hn : njl (l0 :: l1 :: l2 :: l3 :: l4 :: l5 :: o :: L) = true) (kk : Ex E cc nL own d Q (pc + 2) (l0 :: l1 :: l2 :: l3 :: l4 :: l5 :: some (zi z) :: L) S m) : Ex E cc nL own d Q pc (l0 :: l1 :: l2 :: l3 :: l4 :: l5 :: o :: L) (zi z :: S) m := x_storeG (i := 6) hi hn (Or.inl ⟨z, rfl, Or.inl ⟨hd, rfl⟩⟩) kk
theorem x_aload6 {l0 l1 l2 l3 l4 l5 : Option zz_V} (hd : decode cc pc = .ok (.aload 6, 2)) (kk : Ex E cc nL own d Q (pc + 2) (l0 :: l1 :: l2 :: l3 :: l4 :: l5 :: some (zr k) :: L) (zr k :: S) m) : Ex E cc nL own d Q pc (l0 :: l1 :: l2 :: l3 :: l4 :: l5 :: some (zr k) :: L) S m := x_aloadG (i := 6) (Or.inl ⟨hd, rfl⟩) rfl kk
theorem x_astore6 {l0 l1 l2 l3 l4 l5 : Option zz_V} {o : Option zz_V} (hd : decode cc pc = .ok (.astore 6, 2)) (hi : 6 < nL) (hn : njl (l0 :: l1 :: l2 :: l3 :: l4 :: l5 :: o :: L) = true) (kk : Ex E cc nL own d Q (pc + 2) (l0 :: l1 :: l2 :: l3 :: l4 :: l5 :: some (zr k) :: L) S m) : Ex E cc nL own d Q pc (l0 :: l1 :: l2 :: l3 :: l4 :: l5 :: o :: L) (zr k :: S) m := x_storeG (i := 6) hi hn (Or.inr ⟨k, rfl, Or.inl ⟨hd, rfl⟩⟩) kk
theorem x_iinc6 {l0 l1 l2 l3 l4 l5 : Option zz_V} (hd : decode cc pc = .ok (.iinc 6 n, 3)) (hi : 6 < nL) (hn : njl (l0 :: l1 :: l2 :: l3 :: l4 :: l5 :: some (zi z) :: L) = true) (hv : nrm (z + n) = v) (kk : Ex E cc nL own d Q (pc + 3) (l0 :: l1 :: l2 :: l3 :: l4 :: l5 :: some (zi v) :: L) S m) : Ex E cc nL own d Q pc (l0 :: l1 :: l2 :: l3 :: l4 :: l5 :: some (zi z) :: L) S m := x_iincG (i := 6) hi hn hd rfl hv kk
theorem x_iload7 {l0 l1 l2 l3 l4 l5 l6 : Option zz_V} (hd : decode cc pc = .ok (.iload 7, 2)) (kk : Ex E cc nL own d Q (pc + 2) (l0 :: l1 :: l2 :: l3 :: l4 :: l5 :: l6 :: some (zi z) :: L) (zi z :: S) m) : Ex E cc nL own d Q pc (l0 :: l1 :: l2 :: l3 :: l4 :: l5 :: l6 :: some (zi z) :: L) S m := x_iloadG (i := 7) (Or.inl ⟨hd, rfl⟩) rfl kk
theorem x_istore7 {l0 l1 l2 l3 l4 l5 l6 : Option zz_V} {o : Option zz_V} (hd : decode cc pc = .ok (.istore 7, 2)) (hi : 7 < nL) (hn : njl (l0 :: l1 :: l2 :: l3 :: l4 :: l5 :: l6 :: o :: L) = true) (kk : Ex E cc nL own d Q (pc + 2) (l0 :: l1 :: l2 :: l3 :: l4 :: l5 :: l6 :: some (zi z) :: L) S m) : Ex E cc nL own d Q pc (l0 :: l1 :: l2 :: l3 :: l4 :: l5 :: l6 :: o :: L) (zi z :: S) m := x_storeG (i := 7) hi hn (Or.inl ⟨z, rfl, Or.inl ⟨hd, rfl⟩⟩) kk
theorem x_aload7 {l0 l1 l2 l3 l4 l5 l6 : Option zz_V} (hd : decode cc pc = .ok (.aload 7, 2)) (kk : Ex E cc nL own d Q (pc + 2) (l0 :: l1 :: l2 :: l3 :: l4 :: l5 :: l6 :: some (zr k) :: L) (zr k :: S) m) : Ex E cc nL own d Q pc (l0 :: l1 :: l2 :: l3 :: l4 :: l5 :: l6 :: some (zr k) :: L) S m := x_aloadG (i := 7) (Or.inl ⟨hd, rfl⟩) rfl kk
theorem x_astore7 {l0 l1 l2 l3 l4 l5 l6 : Option zz_V} {o : Option zz_V} (hd : decode cc pc = .ok (.astore 7, 2)) (hi : 7 < nL) (hn : njl (l0 :: l1 :: l2 :: l3 :: l4 :: l5 :: l6 :: o :: L) = true) (kk : Ex E cc nL own d Q (pc + 2) (l0 :: l1 :: l2 :: l3 :: l4 :: l5 :: l6 :: some (zr k) :: L) S m) : Ex E cc nL own d Q pc (l0 :: l1 :: l2 :: l3 :: l4 :: l5 :: l6 :: o :: L) (zr k :: S) m := x_storeG (i := 7) hi hn (Or.inr ⟨k, rfl, Or.inl ⟨hd, rfl⟩⟩) kk
theorem x_iinc7 {l0 l1 l2 l3 l4 l5 l6 : Option zz_V} (hd : decode cc pc = .ok (.iinc 7 n, 3)) (hi : 7 < nL) (hn : njl (l0 :: l1 :: l2 :: l3 :: l4 :: l5 :: l6 :: some (zi z) :: L) = true) (hv : nrm (z + n) = v) (kk : Ex E cc nL own d Q (pc + 3) (l0 :: l1 :: l2 :: l3 :: l4 :: l5 :: l6 :: some (zi v) :: L) S m) : Ex E cc nL own d Q pc (l0 :: l1 :: l2 :: l3 :: l4 :: l5 :: l6 :: some (zi z) :: L) S m := x_iincG (i := 7) hi hn hd rfl hv kk
theorem x_iload8 {l0 l1 l2 l3 l4 l5 l6 l7 : Option zz_V} (hd : decode cc pc = .ok (.iload 8, 2)) (kk : Ex E cc nL own d Q (pc + 2) (l0 :: l1 :: l2 :: l3 :: l4 :: l5 :: l6 :: l7 :: some (zi z) :: L) (zi z :: S) m) : Ex E cc nL own d Q pc (l0 :: l1 :: l2 :: l3 :: l4 :: l5 :: l6 :: l7 :: some (zi z) :: L) S m := x_iloadG (i := 8) (Or.inl ⟨hd, rfl⟩) rfl kk
theorem x_istore8 {l0 l1 l2 l3 l4 l5 l6 l7 : Option zz_V} {o : Option zz_V} (hd : decode cc pc = .ok (.istore 8, 2)) (hi : 8 < nL) (hn : njl (l0 :: l1 :: l2 :: l3 :: l4 :: l5 :: l6 :: l7 :: o :: L) = true) (kk : Ex E cc nL own d Q (pc + 2) (l0 :: l1 :: l2 :: l3 :: l4 :: l5 :: l6 :: l7 :: some (zi z) :: L) S m) : Ex E cc nL own d Q pc (l0 :: l1 :: l2 :: l3 :: l4 :: l5 :: l6 :: l7 :: o :: L) (zi z :: S) m := x_storeG (i := 8) hi hn (Or.inl ⟨z, rfl, Or.inl ⟨hd, rfl⟩⟩) kk
theorem x_aload8 {l0 l1 l2 l3 l4 l5 l6 l7 : Option zz_V} (hd : decode cc pc = .ok (.aload 8, 2)) (kk : Ex E cc nL own d Q (pc + 2) (l0 :: l1 :: l2 :: l3 :: l4 :: l5 :: l6 :: l7 :: some (zr k) :: L) (zr k :: S) m) : Ex E cc nL own d Q pc (l0 :: l1 :: l2 :: l3 :: l4 :: l5 :: l6 :: l7 :: some (zr k) :: L) S m := x_aloadG (i := 8) (Or.inl ⟨hd, rfl⟩) rfl kk
theorem x_astore8 {l0 l1 l2 l3 l4 l5 l6 l7 : Option zz_V} {o : Option zz_V} (hd : decode cc pc = .ok (.astore 8, 2)) (hi : 8 < nL) (hn : njl (l0 :: l1 :: l2 :: l3 :: l4 :: l5 :: l6 :: l7 :: o :: L) = true) (kk : Ex E cc nL own d Q (pc + 2) (l0 :: l1 :: l2 :: l3 :: l4 :: l5 :: l6 :: l7 :: some (zr k) :: L) S m) : Ex E cc nL own d Q pc (l0 :: l1 :: l2 :: l3 :: l4 :: l5 :: l6 :: l7 :: o :: L) (zr k :: S) m := x_storeG (i := 8) hi hn (Or.inr ⟨k, rfl, Or.inl ⟨hd, rfl⟩⟩) kk
theorem x_iinc8 {l0 l1 l2 l3 l4 l5 l6 l7 : Option zz_V} (hd : decode cc pc = .ok (.iinc 8 n, 3)) (hi : 8 < nL) (hn : njl (l0 :: l1 :: l2 :: l3 :: l4 :: l5 :: l6 :: l7 :: some (zi z) :: L) = true) (hv : nrm (z + n) = v) (kk : Ex E cc nL own d Q (pc + 3) (l0 :: l1 :: l2 :: l3 :: l4 :: l5 :: l6 :: l7 :: some (zi v) :: L) S m) : Ex E cc nL own d Q pc (l0 :: l1 :: l2 :: l3 :: l4 :: l5 :: l6 :: l7 :: some (zi z) :: L) S m := x_iincG (i := 8) hi hn hd rfl hv kk
theorem x_iload9 {l0 l1 l2 l3 l4 l5 l6 l7 l8 : Option zz_V} (hd : decode cc pc = .ok (.iload 9, 2)) (kk : Ex E cc nL own d Q (pc + 2) (l0 :: l1 :: l2 :: l3 :: l4 :: l5 :: l6 :: l7 :: l8 :: some (zi z) :: L) (zi z :: S) m) : Ex E cc nL own d Q pc (l0 :: l1 :: l2 :: l3 :: l4 :: l5 :: l6 :: l7 :: l8 :: some (zi z) :: L) S m := x_iloadG (i := 9) (Or.inl ⟨hd, rfl⟩) rfl kk
theorem x_istore9 {l0 l1 l2 l3 l4 l5 l6 l7 l8 : Option zz_V} {o : Option zz_V} (hd : decode cc pc = .ok (.istore 9, 2)) (hi : 9 < nL) (hn : njl (l0 :: l1 :: l2 :: l3 :: l4 :: l5 :: l6 :: l7 :: l8 :: o :: L) = true) (kk : Ex E cc nL own d Q (pc + 2) (l0 :: l1 :: l2 :: l3 :: l4 :: l5 :: l6 :: l7 :: l8 :: some (zi z) :: L) S m) : Ex E cc nL own d Q pc (l0 :: l1 :: l2 :: l3 :: l4 :: l5 :: l6 :: l7 :: l8 :: o :: L) (zi z :: S) m := x_storeG (i := 9) hi hn (Or.inl ⟨z, rfl, Or.inl ⟨hd, rfl⟩⟩) kk
theorem x_aload9 {l0 l1 l2 l3 l4 l5 l6 l7 l8 : Option zz_V} (hd : decode cc pc = .ok (.aload 9, 2)) (kk : Ex E cc nL own d Q (pc + 2) (l0 :: l1 :: l2 :: l3 :: l4 :: l5 :: l6 :: l7 :: l8 :: some (zr k) :: L) (zr k :: S) m) : Ex E cc nL own d Q pc (l0 :: l1 :: l2 :: l3 :: l4 :: l5 :: l6 :: l7 :: l8 :: some (zr k) :: L) S m := x_aloadG (i := 9) (Or.inl ⟨hd, rfl⟩) rfl kk
theorem x_astore9 {l0 l1 l2 l3 l4 l5 l6 l7 l8 : Option zz_V} {o : Option zz_V} (hd : decode cc pc = .ok (.astore 9, 2)) (hi : 9 < nL) (hn : njl (l0 :: l1 :: l2 :: l3 :: l4 :: l5 :: l6 :: l7 :: l8 :: o :: L) = true) (kk : Ex E cc nL own d Q (pc + 2) (l0 :: l1 :: l2 :: l3 :: l4 :: l5 :: l6 :: l7 :: l8 :: some (zr k) :: L) S m) : Ex E cc nL own d Q pc (l0 :: l1 :: l2 :: l3 :: l4 :: l5 :: l6 :: l7 :: l8 :: o :: L) (zr k :: S) m := x_storeG (i := 9) hi hn (Or.inr ⟨k, rfl, Or.inl ⟨hd, rfl⟩⟩) kk
theorem x_iinc9 {l0 l1 l2 l3 l4 l5 l6 l7 l8 : Option zz_V} (hd : decode cc pc = .ok (.iinc 9 n, 3)) (hi : 9 < nL) (hn : njl (l0 :: l1 :: l2 :: l3 :: l4 :: l5 :: l6 :: l7 :: l8 :: some (zi z) :: L) = true) (hv : nrm (z + n) = v) (kk : Ex E cc nL own d Q (pc + 3) (l0 :: l1 :: l2 :: l3 :: l4 :: l5 :: l6 :: l7 :: l8 :: some (zi v) :: L) S m) : Ex E cc nL own d Q pc (l0 :: l1 :: l2 :: l3 :: l4 :: l5 :: l6 :: l7 :: l8 :: some (zi z) :: L) S m := x_iincG (i := 9) hi hn hd rfl hv kk
theorem x_lload0 (hd : decode cc pc = .ok (.lload_n 0, 1)) (kk : Ex E cc nL own d Q (pc + 1) (some (zj z) :: L) (zj z :: S) m) : Ex E cc nL own d Q pc (some (zj z) :: L) S m := x_lloadG (i := 0) (Or.inr ⟨0, hd, rfl, rfl⟩) rfl kk
theorem x_lload2 {l0 l1 : Option zz_V} (hd : decode cc pc = .ok (.lload_n 2, 1)) (kk : Ex E cc nL own d Q (pc + 1) (l0 :: l1 :: some (zj z) :: L) (zj z :: S) m) : Ex E cc nL own d Q pc (l0 :: l1 :: some (zj z) :: L) S m := x_lloadG (i := 2) (Or.inr ⟨2, hd, rfl, rfl⟩) rfl kk
theorem x_lload4 {l0 l1 l2 l3 : Option zz_V} (hd : decode cc pc = .ok (.lload 4, 2)) (kk : Ex E cc nL own d Q (pc + 2) (l0 :: l1 :: l2 :: l3 :: some (zj z) :: L) (zj z :: S) m) : Ex E cc nL own d Q pc (l0 :: l1 :: l2 :: l3 :: some (zj z) :: L) S m := x_lloadG (i := 4) (Or.inl ⟨hd, rfl⟩) rfl kk
end EXL
