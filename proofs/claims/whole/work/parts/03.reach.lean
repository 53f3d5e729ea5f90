/-! ===== what it means that a run from here comes to an end at which Q holds ===== -/
/-- the surroundings of a method's run, the same from its entry to its end -/
def zz_C (E : zz_E) (p : Program) (R : Room) (s : State) (mi : MethodId) (args : Array Value) (meth : Method) (c : Code) (cc : ByteArray) (nL : Nat) (own : String) (A : Nat → Prop) (D : va_G) (cI cY : ClassId) (ad : Nat → Nat) (d cells slots : Nat) : Prop :=
  (p.tables.exec = Jvm.exec ∧ c.code = cc ∧ c.maxLocals = nL ∧ s.vm.findClass own = some mi.cls ∧ ∀ w ∈ zz_T, w.before args s = true) ∧
  va_K D zz_cl (zz_tys cI cY) s ∧ zz_Ro E ad A s s.heap ∧ zz_E.ok E ∧ adok A ad ∧ d ≤ R.frames ∧ 128 * d ≤ R.locals ∧ cells ≤ R.cells ∧ slots ≤ R.slots
/-- the stack at a return -/
def rtat (cc : ByteArray) (pc : Nat) (S : List zz_V) (r : Option zz_V) : Prop := match r with
  | none => S = [] ∧ decode cc pc = .ok (.return_, 1)
  | some (.inl z) => S = [zi z] ∧ decode cc pc = .ok (.ireturn, 1)
  | some (.inr (.inl z)) => S = [zj z] ∧ decode cc pc = .ok (.lreturn, 1)
  | some (.inr (.inr _)) => False
def Ex (E : zz_E) (cc : ByteArray) (nL : Nat) (own : String) (d : Nat) (Q : Option zz_V → zz_M → Prop) (pc : Nat) (L : List (Option zz_V)) (S : List zz_V) (m : zz_M) : Prop :=
  ∀ (p : Program) (l : Launch) (e : Env) (R : Room) (s : State) (mi : MethodId) (args : Array Value) (below : List Frame) (meth : Method) (c : Code) (A : Nat → Prop) (D : va_G) (cI cY : ClassId) (ad : Nat → Nat) (cells slots : Nat) (Qs : State → Prop),
    zz_C E p R s mi args meth c cc nL own A D cI cY ad d cells slots →
    (∀ (r : Option zz_V) (pc' : Nat) (S' : List zz_V) (ls' : Array Slot) (m' : zz_M) (H' : Heap) (locs' : List Loc), rtat cc pc' S' r → Q r m' → (∀ v ∈ S', okv v) → okm m' → va_P D zz_cl (wl ad cI cY m') H' → va_S A s.heap H' locs' →
      W p l e R s mi args below meth c H' locs' cells slots Qs (F0 mi pc' ls' (S'.map (gv ad)))) →
    ∀ (H : Heap) (locs : List Loc) (ls : Array Slot), (∀ v, some v ∈ L → okv v) → (∀ v ∈ S, okv v) → okm m → va_P D zz_cl (wl ad cI cY m) H → va_S A s.heap H locs → lv_has ls nL (gl ad 0 L) →
      W p l e R s mi args below meth c H locs cells slots Qs (F0 mi pc ls (S.map (gv ad)))
/-- a method's contract, in plain words -/
def zz_Pc (E : zz_E) (A : Nat → Prop) (D : va_G) (cI cY : ClassId) (ad : Nat → Nat) (as : List zz_V) (m : zz_M) : Array Value → State → Prop := fun v U =>
  v = (as.map (gv ad)).toArray ∧ va_P D zz_cl (wl ad cI cY m) U.heap ∧ va_K D zz_cl (zz_tys cI cY) U ∧ zz_Ro E ad A U U.heap ∧ zz_N U
def zz_Qc (E : zz_E) (A : Nat → Prop) (D : va_G) (cI cY : ClassId) (ad : Nat → Nat) (Q : Option zz_V → zz_M → Prop) : Array Value → State → Outcome → State → Prop := fun _ st oc t =>
  (∃ (r : Option zz_V) (m' : zz_M), oc = .returned (r.map (gv ad)) ∧ Q r m' ∧ (∀ v, r = some v → okv v) ∧ okm m' ∧ va_P D zz_cl (wl ad cI cY m') t.heap) ∧ va_F A st t
def zz_rm (d : Nat) : Room := { frames := d, cells := 0, slots := 0, locals := 128 * d }
def Mt (E : zz_E) (d : Nat) (y : MethodName) (cc : ByteArray) (nL : Nat) (ret : Option FieldType) (as : List zz_V) (m : zz_M) (Q : Option zz_V → zz_M → Prop) : Prop :=
  zz_E.ok E → (∀ v ∈ as, okv v) → okm m → ∀ (l : Launch) (A : Nat → Prop) (D : va_G) (cI cY : ClassId) (ad : Nat → Nat), adok A ad →
    Met l y (.code y cc nL ret :: zz_G) (zz_rm d) (zz_Pc E A D cI cY ad as m) (zz_Qc E A D cI cY ad Q) 0 0 A
section EXR
variable {E : zz_E} {cc : ByteArray} {nL : Nat} {own : String} {d : Nat} {Q : Option zz_V → zz_M → Prop} {pc : Nat} {L : List (Option zz_V)} {S : List zz_V} {m : zz_M}
theorem Ex.post {Q' : Option zz_V → zz_M → Prop} (h : ∀ r m', Q' r m' → Q r m') (kk : Ex E cc nL own d Q' pc L S m) : Ex E cc nL own d Q pc L S m := by
  intro p l e R s mi args below meth c A D cI cY ad cells slots Qs hC hK
  exact kk p l e R s mi args below meth c A D cI cY ad cells slots Qs hC (fun r pc' S' ls' m' H' locs' h1 h2 => hK r pc' S' ls' m' H' locs' h1 (h r m' h2))
theorem Ex.weak {L' : List (Option zz_V)} (hw : ∀ (i : Nat) (v : zz_V), L'[i]? = some (some v) → L[i]? = some (some v)) (kk : Ex E cc nL own d Q pc L' S m) : Ex E cc nL own d Q pc L S m := by
  intro p l e R s mi args below meth c A D cI cY ad cells slots Qs hC hK H locs ls hL hS hm hP hV hl
  refine kk p l e R s mi args below meth c A D cI cY ad cells slots Qs hC hK H locs ls (fun v hv => ?_) hS hm hP hV (gl_weak hl hw)
  obtain ⟨i, hi⟩ := List.getElem?_of_mem hv
  exact hL v (List.mem_of_getElem? (hw i v hi))
/-- the numbers in memory are ints -/
theorem Ex.okm (kk : okm m → Ex E cc nL own d Q pc L S m) : Ex E cc nL own d Q pc L S m := by
  intro p l e R s mi args below meth c A D cI cY ad cells slots Qs hC hK H locs ls hL hS hm
  exact kk hm p l e R s mi args below meth c A D cI cY ad cells slots Qs hC hK H locs ls hL hS hm
theorem Ex.okL (kk : (∀ v, some v ∈ L → okv v) → Ex E cc nL own d Q pc L S m) : Ex E cc nL own d Q pc L S m := by
  intro p l e R s mi args below meth c A D cI cY ad cells slots Qs hC hK H locs ls hL hS hm
  exact kk hL p l e R s mi args below meth c A D cI cY ad cells slots Qs hC hK H locs ls hL hS hm
theorem Ex.okS (kk : (∀ v ∈ S, okv v) → Ex E cc nL own d Q pc L S m) : Ex E cc nL own d Q pc L S m := by
  intro p l e R s mi args below meth c A D cI cY ad cells slots Qs hC hK H locs ls hL hS hm
  exact kk hS p l e R s mi args below meth c A D cI cY ad cells slots Qs hC hK H locs ls hL hS hm
theorem Ex.okE (kk : zz_E.ok E → Ex E cc nL own d Q pc L S m) : Ex E cc nL own d Q pc L S m := by
  intro p l e R s mi args below meth c A D cI cY ad cells slots Qs hC
  exact kk hC.2.2.2.1 p l e R s mi args below meth c A D cI cY ad cells slots Qs hC
theorem Ex.eq {L' : List (Option zz_V)} {S' : List zz_V} {m' : zz_M} (hL : L = L') (hS : S = S') (hm : m = m') (kk : Ex E cc nL own d Q pc L' S' m') : Ex E cc nL own d Q pc L S m := by
  subst hL hS hm
  exact kk
-- the ends
theorem xe_i {z : Int} (hd : decode cc pc = .ok (.ireturn, 1)) (hq : Q (some (zi z)) m) : Ex E cc nL own d Q pc L [zi z] m := by
  intro p l e R s mi args below meth c A D cI cY ad cells slots Qs hC hK H locs ls hL hS hm hP hV hl
  exact hK (some (zi z)) pc [zi z] ls m H locs ⟨rfl, hd⟩ hq hS hm hP hV
theorem xe_l {z : Int} (hd : decode cc pc = .ok (.lreturn, 1)) (hq : Q (some (zj z)) m) : Ex E cc nL own d Q pc L [zj z] m := by
  intro p l e R s mi args below meth c A D cI cY ad cells slots Qs hC hK H locs ls hL hS hm hP hV hl
  exact hK (some (zj z)) pc [zj z] ls m H locs ⟨rfl, hd⟩ hq hS hm hP hV
theorem xe_v (hd : decode cc pc = .ok (.return_, 1)) (hq : Q none m) : Ex E cc nL own d Q pc L [] m := by
  intro p l e R s mi args below meth c A D cI cY ad cells slots Qs hC hK H locs ls hL hS hm hP hV hl
  exact hK none pc [] ls m H locs ⟨rfl, hd⟩ hq hS hm hP hV
/-- a step that changes the stack alone -/
theorem ex_st {pc' : Nat} {S' : List zz_V} (hok : (∀ v, some v ∈ L → okv v) → (∀ v ∈ S, okv v) → okm m → ∀ v ∈ S', okv v)
    (hw : ∀ (p : Program) (l : Launch) (e : Env) (R : Room) (s : State) (mi : MethodId) (args : Array Value) (below : List Frame) (meth : Method) (c : Code) (A : Nat → Prop) (D : va_G) (cI cY : ClassId) (ad : Nat → Nat) (cells slots : Nat) (Qs : State → Prop) (H : Heap) (locs : List Loc) (ls : Array Slot),
      zz_C E p R s mi args meth c cc nL own A D cI cY ad d cells slots → (∀ v, some v ∈ L → okv v) → (∀ v ∈ S, okv v) → okm m → va_P D zz_cl (wl ad cI cY m) H → va_S A s.heap H locs → lv_has ls nL (gl ad 0 L) →
      W p l e R s mi args below meth c H locs cells slots Qs (F0 mi pc' ls (S'.map (gv ad))) → W p l e R s mi args below meth c H locs cells slots Qs (F0 mi pc ls (S.map (gv ad))))
    (kk : Ex E cc nL own d Q pc' L S' m) : Ex E cc nL own d Q pc L S m := by
  intro p l e R s mi args below meth c A D cI cY ad cells slots Qs hC hK H locs ls hL hS hm hP hV hl
  exact hw p l e R s mi args below meth c A D cI cY ad cells slots Qs H locs ls hC hL hS hm hP hV hl (kk p l e R s mi args below meth c A D cI cY ad cells slots Qs hC hK H locs ls hL (hok hL hS hm) hm hP hV hl)
theorem ok_cons {v : zz_V} {S : List zz_V} (h : okv v) (hS : ∀ w ∈ S, okv w) : ∀ w ∈ v :: S, okv w := by
  intro w hw
  rcases List.mem_cons.mp hw with rfl | q
  · exact h
  · exact hS w q
theorem ok_tl {v : zz_V} {S : List zz_V} (hS : ∀ w ∈ v :: S, okv w) : ∀ w ∈ S, okv w := fun w hw => hS w (List.mem_cons_of_mem _ hw)
theorem ok_hd {v : zz_V} {S : List zz_V} (hS : ∀ w ∈ v :: S, okv w) : okv v := hS v List.mem_cons_self
theorem x_iconst {n : Int} (hd : decode cc pc = .ok (.iconst n, 1)) (hn : -1 ≤ n ∧ n ≤ 5) (kk : Ex E cc nL own d Q (pc + 1) L (zi n :: S) m) : Ex E cc nL own d Q pc L S m :=
  ex_st (fun _ hS _ => ok_cons (v := zi n) (show zz_in n from ⟨by omega, by omega⟩) hS) (fun p l e R s mi args below meth c A D cI cY ad cells slots Qs H locs ls hC hL hS hm hP hV hl k => lv_iconst hC.1.1 hC.1.2.1 hd rfl k) kk
theorem x_bipush {n : Int} (hd : decode cc pc = .ok (.bipush n, 2)) (hn : -128 ≤ n ∧ n ≤ 127) (kk : Ex E cc nL own d Q (pc + 2) L (zi n :: S) m) : Ex E cc nL own d Q pc L S m := by
  refine ex_st (fun _ hS _ => ok_cons (v := zi n) (show zz_in n from ⟨by omega, by omega⟩) hS) (fun p l e R s mi args below meth c A D cI cY ad cells slots Qs H locs ls hC hL hS hm hP hV hl k => lv_bipush hC.1.1 hC.1.2.1 hd ?_ k) kk
  apply Int32.toInt_inj.mp
  rw [Int8.toInt_toInt32, i32_of ⟨by omega, by omega⟩, Int8.toInt_ofInt, show Int8.size = 256 from rfl]
  exact Int.bmod_eq_of_le (by omega) (by omega)
theorem x_sipush {n : Int} (hd : decode cc pc = .ok (.sipush n, 3)) (hn : -32768 ≤ n ∧ n ≤ 32767) (kk : Ex E cc nL own d Q (pc + 3) L (zi n :: S) m) : Ex E cc nL own d Q pc L S m := by
  refine ex_st (fun _ hS _ => ok_cons (v := zi n) (show zz_in n from ⟨by omega, by omega⟩) hS) (fun p l e R s mi args below meth c A D cI cY ad cells slots Qs H locs ls hC hL hS hm hP hV hl k => lv_sipush hC.1.1 hC.1.2.1 hd ?_ k) kk
  apply Int32.toInt_inj.mp
  rw [Int16.toInt_toInt32, i32_of ⟨by omega, by omega⟩, Int16.toInt_ofInt, show Int16.size = 65536 from rfl]
  exact Int.bmod_eq_of_le (by omega) (by omega)
theorem x_lconst {n : Fin 2} {z : Int} (hd : decode cc pc = .ok (.lconst n, 1)) (hz : ((n : Nat) : Int) = z) (kk : Ex E cc nL own d Q (pc + 1) L (zj z :: S) m) : Ex E cc nL own d Q pc L S m := by
  subst hz
  refine ex_st (fun _ hS _ => ok_cons (v := zj ((n : Nat) : Int)) (show zz_inl ((n : Nat) : Int) from ⟨by have := n.isLt; omega, by have := n.isLt; omega⟩) hS) (fun p l e R s mi args below meth c A D cI cY ad cells slots Qs H locs ls hC hL hS hm hP hV hl k => lv_lconst hC.1.1 hC.1.2.1 hd ?_ k) kk
  exact (Int64.ofInt_eq_ofNat).symm
theorem x_ldc {idx : Nat} {v : Int} (hd : decode cc pc = .ok (.ldc idx, 2)) (hv : zz_in v) (hc : Cond.constant own idx (Int32.ofInt v) ∈ zz_T) (kk : Ex E cc nL own d Q (pc + 2) L (zi v :: S) m) : Ex E cc nL own d Q pc L S m :=
  ex_st (fun _ hS _ => ok_cons (v := zi v) (show zz_in v from hv) hS) (fun p l e R s mi args below meth c A D cI cY ad cells slots Qs H locs ls hC hL hS hm hP hV hl k => lv_ldc hC.1.1 hC.1.2.1 hC.1.2.2.2.1 (hC.1.2.2.2.2 _ hc) hd k) kk
theorem x_ldcw {idx : Nat} {v : Int} (hd : decode cc pc = .ok (.ldc_w idx, 3)) (hv : zz_in v) (hc : Cond.constant own idx (Int32.ofInt v) ∈ zz_T) (kk : Ex E cc nL own d Q (pc + 3) L (zi v :: S) m) : Ex E cc nL own d Q pc L S m :=
  ex_st (fun _ hS _ => ok_cons (v := zi v) (show zz_in v from hv) hS) (fun p l e R s mi args below meth c A D cI cY ad cells slots Qs H locs ls hC hL hS hm hP hV hl k => lv_ldcw hC.1.1 hC.1.2.1 hC.1.2.2.2.1 (hC.1.2.2.2.2 _ hc) hd k) kk
theorem x_ldc2 {idx : Nat} {v : Int} (hd : decode cc pc = .ok (.ldc2_w idx, 3)) (hv : zz_inl v) (hc : Cond.constantLong own idx (Int64.ofInt v) ∈ zz_T) (kk : Ex E cc nL own d Q (pc + 3) L (zj v :: S) m) : Ex E cc nL own d Q pc L S m :=
  ex_st (fun _ hS _ => ok_cons (v := zj v) (show zz_inl v from hv) hS) (fun p l e R s mi args below meth c A D cI cY ad cells slots Qs H locs ls hC hL hS hm hP hV hl k => lv_ldc2 hC.1.1 hC.1.2.1 hC.1.2.2.2.1 (hC.1.2.2.2.2 _ hc) hd k) kk
-- locals
theorem x_iloadG {i pc' : Nat} {z : Int} (hd : decode cc pc = .ok (.iload i, 2) ∧ pc' = pc + 2 ∨ ∃ k : Fin 4, decode cc pc = .ok (.iload_n k, 1) ∧ (k : Nat) = i ∧ pc' = pc + 1) (hL : L[i]? = some (some (zi z))) (kk : Ex E cc nL own d Q pc' L (zi z :: S) m) : Ex E cc nL own d Q pc L S m := by
  refine ex_st (fun hl hS _ => ok_cons (hl _ (List.mem_of_getElem? hL)) hS) (fun p l e R s mi args below meth c A D cI cY ad cells slots Qs H locs ls hC _ hS hm hP hV hl k => ?_) kk
  have hv := gl_at hl hL
  rcases hd with ⟨hd, rfl⟩ | ⟨f, hd, hf, rfl⟩
  · exact lv_iload hC.1.1 hC.1.2.1 hd hv k
  · exact lv_iload_n hC.1.1 hC.1.2.1 hd hf hv k
theorem x_aloadG {i pc' : Nat} {z : Nat} (hd : decode cc pc = .ok (.aload i, 2) ∧ pc' = pc + 2 ∨ ∃ k : Fin 4, decode cc pc = .ok (.aload_n k, 1) ∧ (k : Nat) = i ∧ pc' = pc + 1) (hL : L[i]? = some (some (zr z))) (kk : Ex E cc nL own d Q pc' L (zr z :: S) m) : Ex E cc nL own d Q pc L S m := by
  refine ex_st (fun hl hS _ => ok_cons (hl _ (List.mem_of_getElem? hL)) hS) (fun p l e R s mi args below meth c A D cI cY ad cells slots Qs H locs ls hC _ hS hm hP hV hl k => ?_) kk
  have hv := gl_at hl hL
  rcases hd with ⟨hd, rfl⟩ | ⟨f, hd, hf, rfl⟩
  · exact lv_aload hC.1.1 hC.1.2.1 hd hv k
  · exact lv_aload_n hC.1.1 hC.1.2.1 hd hf hv k
theorem x_lloadG {i pc' : Nat} {z : Int} (hd : decode cc pc = .ok (.lload i, 2) ∧ pc' = pc + 2 ∨ ∃ k : Fin 4, decode cc pc = .ok (.lload_n k, 1) ∧ (k : Nat) = i ∧ pc' = pc + 1) (hL : L[i]? = some (some (zj z))) (kk : Ex E cc nL own d Q pc' L (zj z :: S) m) : Ex E cc nL own d Q pc L S m := by
  refine ex_st (fun hl hS _ => ok_cons (hl _ (List.mem_of_getElem? hL)) hS) (fun p l e R s mi args below meth c A D cI cY ad cells slots Qs H locs ls hC _ hS hm hP hV hl k => ?_) kk
  have hv := gl_at hl hL
  rcases hd with ⟨hd, rfl⟩ | ⟨f, hd, hf, rfl⟩
  · exact lv_lload hC.1.1 hC.1.2.1 hd hv k
  · exact lv_lload_n hC.1.1 hC.1.2.1 hd hf hv k
theorem set_rule {i : Nat} {v : zz_V} {L : List (Option zz_V)} : ∀ (k : Nat) (w : zz_V), (L.set i (some v))[k]? = some (some w) → (k = i ∧ w = v) ∨ (k ≠ i ∧ L[k]? = some (some w)) := by
  intro k w h
  by_cases hk : k = i
  · subst hk
    left
    have hl : k < L.length := by
      have := (List.getElem?_eq_some_iff.mp h).1
      simpa using this
    rw [List.getElem?_set_self hl] at h
    cases h
    exact ⟨rfl, rfl⟩
  · right
    rw [List.getElem?_set_ne (Ne.symm hk)] at h
    exact ⟨hk, h⟩
theorem ok_set {i : Nat} {v : zz_V} {L : List (Option zz_V)} (hL : ∀ v, some v ∈ L → okv v) (hv : okv v) : ∀ w, some w ∈ L.set i (some v) → okv w := by
  intro w hw
  rcases List.mem_or_eq_of_mem_set hw with h | h
  · exact hL w h
  · cases h; exact hv
theorem x_storeG {i pc' : Nat} {v : zz_V} (hi : i < nL) (hn : njl L = true)
    (hd : (∃ z, v = zi z ∧ (decode cc pc = .ok (.istore i, 2) ∧ pc' = pc + 2 ∨ ∃ k : Fin 4, decode cc pc = .ok (.istore_n k, 1) ∧ (k : Nat) = i ∧ pc' = pc + 1)) ∨ (∃ z, v = zr z ∧ (decode cc pc = .ok (.astore i, 2) ∧ pc' = pc + 2 ∨ ∃ k : Fin 4, decode cc pc = .ok (.astore_n k, 1) ∧ (k : Nat) = i ∧ pc' = pc + 1)))
    (kk : Ex E cc nL own d Q pc' (L.set i (some v)) S m) : Ex E cc nL own d Q pc L (v :: S) m := by
  intro p l e R s mi args below meth c A D cI cY ad cells slots Qs hC hK H locs ls hL hS hm hP hV hl
  have go : ∀ ls' : Array Slot, lv_has ls' nL ((i, gv ad v) :: (gl ad 0 L).filter (fun q => !(q.1 == i) && !(q.1 + 1 == i && q.2.category == 2))) → W p l e R s mi args below meth c H locs cells slots Qs (F0 mi pc' ls' (S.map (gv ad))) := fun ls' h =>
    kk p l e R s mi args below meth c A D cI cY ad cells slots Qs hC hK H locs ls' (ok_set hL (ok_hd hS)) (ok_tl hS) hm hP hV (gl_store h hn set_rule)
  rcases hd with ⟨z, rfl, hd⟩ | ⟨z, rfl, hd⟩ <;> rcases hd with ⟨hd, rfl⟩ | ⟨f, hd, hf, rfl⟩
  · exact lv_istore hC.1.1 hC.1.2.1 hd hl hi rfl go
  · exact lv_istore_n hC.1.1 hC.1.2.1 hd hf hl hi rfl go
  · exact lv_astore hC.1.1 hC.1.2.1 hd hl hi rfl go
  · exact lv_astore_n hC.1.1 hC.1.2.1 hd hf hl hi rfl go
theorem x_iincG {i : Nat} {n z v : Int} (hi : i < nL) (hn : njl L = true) (hd : decode cc pc = .ok (.iinc i n, 3)) (hL : L[i]? = some (some (zi z))) (hv : nrm (z + n) = v) (kk : Ex E cc nL own d Q (pc + 3) (L.set i (some (zi v))) S m) : Ex E cc nL own d Q pc L S m := by
  subst hv
  intro p l e R s mi args below meth c A D cI cY ad cells slots Qs hC hK H locs ls hLo hS hm hP hV hl
  have hmem : (i, gv ad (zi z)) ∈ gl ad 0 L := gl_mem.mpr ⟨i, _, hL, by simp⟩
  obtain ⟨k, hk⟩ := List.getElem?_of_mem hmem
  refine lv_iinc (v := Int32.ofInt (nrm (z + n))) hC.1.1 hC.1.2.1 hd hl hk ?_ hi rfl (fun ls' h => ?_)
  · rw [i32_nrm, Int32.ofInt_add]
  · exact kk p l e R s mi args below meth c A D cI cY ad cells slots Qs hC hK H locs ls' (ok_set hLo (nrm_in _)) hS hm hP hV (gl_store (v := zi (nrm (z + n))) h hn set_rule)
-- arithmetic
theorem ex_i2 {a b r : Int} {pc' : Nat} (hr : zz_in r) (hw : ∀ (p : Program) (l : Launch) (e : Env) (R : Room) (s : State) (mi : MethodId) (args : Array Value) (below : List Frame) (meth : Method) (c : Code) (cells slots : Nat) (Qs : State → Prop) (H : Heap) (locs : List Loc) (ls : Array Slot) (rest : List Value),
      p.tables.exec = Jvm.exec → c.code = cc → zz_in a → zz_in b → W p l e R s mi args below meth c H locs cells slots Qs (F0 mi pc' ls (.int (Int32.ofInt r) :: rest)) → W p l e R s mi args below meth c H locs cells slots Qs (F0 mi pc ls (.int (Int32.ofInt b) :: .int (Int32.ofInt a) :: rest)))
    (kk : Ex E cc nL own d Q pc' L (zi r :: S) m) : Ex E cc nL own d Q pc L (zi b :: zi a :: S) m :=
  ex_st (fun _ hS _ => ok_cons (v := zi r) hr (ok_tl (ok_tl hS))) (fun p l e R s mi args below meth c A D cI cY ad cells slots Qs H locs ls hC hL hS hm hP hV hl k => hw p l e R s mi args below meth c cells slots Qs H locs ls _ hC.1.1 hC.1.2.1 (ok_hd (ok_tl hS)) (ok_hd hS) k) kk
end EXR
