/-! ===== calls ===== -/
theorem zz_Pc_blind {E : zz_E} {A : Nat → Prop} {D : va_G} {cI cY : ClassId} {ad : Nat → Nat} {as : List zz_V} {m : zz_M} : FrameBlind (zz_Pc E A D cI cY ad as m) :=
  fun a U g mk h => ⟨h.1, h.2.1, va_K.moved (u := U) (U := U.calling g mk a) (Vm.Alike.refl U.vm) h.2.2.1, zz_Ro.moved (u := U) (U := U.calling g mk a) (Vm.Alike.refl U.vm) h.2.2.2.1, zz_N.same (u := U) (U := U.calling g mk a) rfl h.2.2.2.2⟩
def catsum (ad : Nat → Nat) (S : List zz_V) : Nat := ((S.map (gv ad)).map fun v => v.category).sum
def cat8 : List zz_V → Nat
  | [] => 0
  | .inr (.inl _) :: S => 2 + cat8 S
  | _ :: S => 1 + cat8 S
theorem catsum_eq (ad : Nat → Nat) : ∀ S : List zz_V, catsum ad S = cat8 S
  | [] => rfl
  | .inl z :: S => by
    have h := catsum_eq ad S
    unfold catsum at h ⊢
    rw [List.map_cons, List.map_cons, List.sum_cons, h]
    rfl
  | .inr (.inl z) :: S => by
    have h := catsum_eq ad S
    unfold catsum at h ⊢
    rw [List.map_cons, List.map_cons, List.sum_cons, h]
    rfl
  | .inr (.inr z) :: S => by
    have h := catsum_eq ad S
    unfold catsum at h ⊢
    rw [List.map_cons, List.map_cons, List.sum_cons, h]
    rfl
section EXK
variable {E : zz_E} {cc : ByteArray} {nL : Nat} {own : String} {d : Nat} {Q Q' : Option zz_V → zz_M → Prop} {pc tgt : Nat} {L : List (Option zz_V)} {S : List zz_V} {m : zz_M} {z v : Int} {o k n idx ci N d' : Nat}
variable {p : Program} {l : Launch} {e : Env} {R : Room} {s : State} {mi : MethodId} {args : Array Value} {below : List Frame} {meth : Method} {c : Code} {A : Nat → Prop} {D : va_G} {cI cY : ClassId} {ad : Nat → Nat} {cells slots : Nat} {Qs : State → Prop} {H : Heap} {locs : List Loc} {ls : Array Slot}
theorem ex_run {st0 : List Value} {as : Array Value} {pc' : Nat} (hr : va_Run p l e R s mi args below meth c H locs cells slots 0 0 (F0 mi pc ls st0) (S.map (gv ad)) (zz_Qc E A D cI cY ad Q' as) A) (hV : va_S A s.heap H locs)
    (kk : ∀ (r : Option zz_V) (m' : zz_M) (H' : Heap) (locs' : List Loc), Q' r m' → (∀ v, r = some v → okv v) → okm m' → va_P D zz_cl (wl ad cI cY m') H' → va_S A s.heap H' locs' → W p l e R s mi args below meth c H' locs' cells slots Qs (F0 mi (pc + 3) ls ((r.toList ++ S).map (gv ad)))) :
    W p l e R s mi args below meth c H locs cells slots Qs (F0 mi pc ls st0) := by
  intro T hT X
  obtain ⟨v, st₀, t, T', Lc, h0, X', hL, e1, e2, ⟨⟨r, m', hv, hq, hok, hom, hP⟩, hz, hk⟩, st⟩ := hr T hT X
  cases hv
  rw [h0] at hz hk
  obtain ⟨t2, a1, b1⟩ := kk r m' t.heap (locs ++ Lc) hq hok hom hP
    ⟨Nat.le_trans hV.1 hz, fun q h1 h2 => by rw [hk q (Nat.lt_of_lt_of_le h1 hV.1) h2]; exact hV.2.1 q h1 h2, fun q hq => by
      rcases List.mem_append.mp hq with h | h
      · exact hV.2.2 q h
      · exact hL q h⟩ T' e1 X'
  refine ⟨t2, st t2 ?_, b1⟩
  cases r <;> exact a1
/-- a call's words: 'true' of a virtual one -/
def zz_cv (own : String) (idx : Nat) (y : MethodName) (cc' : ByteArray) (nL' : Nat) (ret' : Option FieldType) (n : Nat) : Prop :=
  Cond.methodLink own idx y ∈ zz_T ∧ Cond.initialized y.cls ∈ zz_T ∧ Cond.code y cc' nL' ret' ∈ zz_G ∧ (y.cls ≠ "java/lang/invoke/MethodHandle" ∧ y.cls ≠ "java/lang/invoke/VarHandle") ∧ (parseMethodDescriptor y.desc).map (fun d => d.parameters.length) = some n ∧ nL' ≤ 40
theorem ex_cb {y : MethodName} {cc' : ByteArray} {nL' : Nat} {ret' : Option FieldType} (hw : zz_cv own idx y cc' nL' ret' n) (hd' : d' + 1 ≤ d) (hC : zz_C E p R s mi args meth c cc nL own A D cI cY ad d cells slots) : CallB R s args own idx y cc' nL' ret' (.code y cc' nL' ret' :: zz_G) (zz_rm d') 0 0 n := by
  obtain ⟨h1, h2, h3, h4, h5, h6⟩ := hw
  obtain ⟨⟨hx, hb, hml, hown, hts⟩, -, -, -, -, hR1, hR2, -, -⟩ := hC
  refine callB_of n hts (fun w hw => ?_) rfl rfl rfl (hts _ h2) (hts _ h1) ⟨h4.1, h4.2, h5⟩ ⟨?_, ?_⟩
  · rcases List.mem_cons.mp hw with rfl | h
    · exact ⟨zz_G_T h3, zz_G_good _ h3⟩
    · exact ⟨zz_G_T h, zz_G_good _ h⟩
  · show d' + 1 ≤ R.frames
    omega
  · show 8 + (nL' + 11) + 128 * d' ≤ R.locals
    omega
theorem ex_pre {as : List zz_V} (hC : zz_C E p R s mi args meth c cc nL own A D cI cY ad d cells slots) (hP : va_P D zz_cl (wl ad cI cY m) H) (hV : va_S A s.heap H locs) {U : State} (hU : U.heap = H) (hW : s.WarmedH U.vm) : zz_Pc E A D cI cY ad as m (as.map (gv ad)).toArray U := by
  refine ⟨rfl, by rw [hU]; exact hP, va_K.moved hW.alike hC.2.1, ?_, (zz_N.of hC.1.2.2.2.2).warm hW⟩
  exact (hC.2.2.1.moved hW.alike).kept (fun a h1 h2 => by rw [hU]; exact hV.2.1 a h1 h2)
theorem x_callvG {y : MethodName} {cc' : ByteArray} {nL' : Nat} {ret' : Option FieldType} {As : List zz_V} {T : u_T} {S0 : List zz_V} (hd : decode cc pc = .ok (.invokevirtual idx, 3)) (hw : zz_cv own idx y cc' nL' ret' n) (hi : Cond.instanceMethod y ∈ zz_T ∧ Cond.selects y.cls y y ∈ zz_T) (hn : As.length = n)
    (hk : kd o = (ci + 2, N)) (hcl : zz_cl[ci]? = some (y.cls, T, N)) (hd' : d' + 1 ≤ d) (hS8 : cat8 S ≤ 8) (hS0 : S0 = As.reverse ++ zr o :: S) (hM : Mt E d' y cc' nL' ret' (zr o :: As) m Q') (kk : ∀ r m', Q' r m' → Ex E cc nL own d Q (pc + 3) L (r.toList ++ S) m') : Ex E cc nL own d Q pc L S0 m := by
  subst hS0
  intro p l e R s mi args below meth c A D cI cY ad cells slots Qs hC hK H locs ls hL hS hm hP hV hl
  have hci := (zz_cls hcl).1
  have hokA : ∀ v ∈ zr o :: As, okv v := by
    intro v hv
    rcases List.mem_cons.mp hv with rfl | h
    · trivial
    · exact hS v (List.mem_append_left _ (List.mem_reverse.mpr h))
  have hokS : ∀ v ∈ S, okv v := fun v hv => hS v (List.mem_append_right _ (List.mem_cons_of_mem _ hv))
  have hMm := hM hC.2.2.2.1 hokA hm l A D cI cY ad hC.2.2.2.2.1
  have he := wl_obj (ad := ad) (cI := cI) (cY := cY) (m := m) hk hci
  have hr : va_Run p l e R s mi args below meth c H locs cells slots 0 0 (F0 mi pc ls ((As.reverse ++ zr o :: S).map (gv ad))) (S.map (gv ad)) (zz_Qc E A D cI cY ad Q' (Value.ref (ad o) :: As.map (gv ad)).toArray) A := by
    refine va_runV (As := As.map (gv ad)) (C := y.cls) (Ts := zz_T) ⟨hC.1.1, hC.1.2.1, hC.1.2.2.1, hC.1.2.2.2.1, hC.1.2.2.2.2⟩ hMm ⟨ex_cb hw hd' hC, hC.1.2.2.2.2 _ hi.1, hC.1.2.2.2.2 _ hi.2⟩ ⟨zz_Pc_blind, va_recv hC.2.1 hP hcl he, fun U hU hW => ex_pre (as := zr o :: As) hC hP hV hU hW⟩ rfl (by simpa using hn) hl.1 ?_ ?_ hd ⟨by have := hC.2.2.2.2.2.2.2.1; omega, by have := hC.2.2.2.2.2.2.2.2; omega⟩
    · show (As.reverse ++ zr o :: S).map (gv ad) = _
      rw [List.map_append, List.map_reverse, List.map_cons]
      rfl
    · show 2 * 0 + _ ≤ 8
      have := catsum_eq ad S
      unfold catsum at this
      omega
  refine ex_run (pc' := pc) hr hV (fun r m' H' locs' hq hok hom hP' hV' => ?_)
  exact kk r m' hq p l e R s mi args below meth c A D cI cY ad cells slots Qs hC hK H' locs' ls hL (fun v hv => by
    rcases List.mem_append.mp hv with h | h
    · exact hok v (Option.mem_toList.mp h)
    · exact hokS v h) hom hP' hV' hl
theorem x_callsG {y : MethodName} {cc' : ByteArray} {nL' : Nat} {ret' : Option FieldType} {As : List zz_V} {S0 : List zz_V} (hd : decode cc pc = .ok (.invokestatic idx, 3)) (hw : zz_cv own idx y cc' nL' ret' n) (hi : Cond.static y ∈ zz_T) (hn : As.length = n)
    (hd' : d' + 1 ≤ d) (hS8 : cat8 S ≤ 8) (hS0 : S0 = As.reverse ++ S) (hM : Mt E d' y cc' nL' ret' As m Q') (kk : ∀ r m', Q' r m' → Ex E cc nL own d Q (pc + 3) L (r.toList ++ S) m') : Ex E cc nL own d Q pc L S0 m := by
  subst hS0
  intro p l e R s mi args below meth c A D cI cY ad cells slots Qs hC hK H locs ls hL hS hm hP hV hl
  have hokA : ∀ v ∈ As, okv v := fun v h => hS v (List.mem_append_left _ (List.mem_reverse.mpr h))
  have hokS : ∀ v ∈ S, okv v := fun v hv => hS v (List.mem_append_right _ hv)
  have hMm := hM hC.2.2.2.1 hokA hm l A D cI cY ad hC.2.2.2.2.1
  have hr : va_Run p l e R s mi args below meth c H locs cells slots 0 0 (F0 mi pc ls ((As.reverse ++ S).map (gv ad))) (S.map (gv ad)) (zz_Qc E A D cI cY ad Q' (As.map (gv ad)).toArray) A := by
    refine va_runS (As := As.map (gv ad)) (Ts := zz_T) ⟨hC.1.1, hC.1.2.1, hC.1.2.2.1, hC.1.2.2.2.1, hC.1.2.2.2.2⟩ hMm ⟨ex_cb hw hd' hC, hC.1.2.2.2.2 _ hi⟩ ⟨zz_Pc_blind, fun U hU hW => ex_pre hC hP hV hU hW⟩ rfl (by simpa using hn) hl.1 ?_ ?_ hd ⟨by have := hC.2.2.2.2.2.2.2.1; omega, by have := hC.2.2.2.2.2.2.2.2; omega⟩
    · show (As.reverse ++ S).map (gv ad) = _
      rw [List.map_append, List.map_reverse]
    · show 2 * 0 + _ ≤ 8
      have := catsum_eq ad S
      unfold catsum at this
      omega
  refine ex_run (pc' := pc) hr hV (fun r m' H' locs' hq hok hom hP' hV' => ?_)
  exact kk r m' hq p l e R s mi args below meth c A D cI cY ad cells slots Qs hC hK H' locs' ls hL (fun v hv => by
    rcases List.mem_append.mp hv with h | h
    · exact hok v (Option.mem_toList.mp h)
    · exact hokS v h) hom hP' hV' hl
theorem x_callv0 {y : MethodName} {cc' : ByteArray} {nL' : Nat} {ret' : Option FieldType} {T : u_T} (hd : decode cc pc = .ok (.invokevirtual idx, 3)) (hw : zz_cv own idx y cc' nL' ret' 0) (hi : Cond.instanceMethod y ∈ zz_T ∧ Cond.selects y.cls y y ∈ zz_T)
    (hk : kd o = (ci + 2, N)) (hcl : zz_cl[ci]? = some (y.cls, T, N)) (hd' : d' + 1 ≤ d) (hS8 : cat8 S ≤ 8) (hM : Mt E d' y cc' nL' ret' [zr o] m Q') (kk : ∀ r m', Q' r m' → Ex E cc nL own d Q (pc + 3) L (r.toList ++ S) m') : Ex E cc nL own d Q pc L (zr o :: S) m :=
  x_callvG (As := []) hd hw hi rfl hk hcl hd' hS8 rfl hM kk
theorem x_calls0 {y : MethodName} {cc' : ByteArray} {nL' : Nat} {ret' : Option FieldType} (hd : decode cc pc = .ok (.invokestatic idx, 3)) (hw : zz_cv own idx y cc' nL' ret' 0) (hi : Cond.static y ∈ zz_T) (hd' : d' + 1 ≤ d) (hS8 : cat8 S ≤ 8) (hM : Mt E d' y cc' nL' ret' [] m Q') (kk : ∀ r m', Q' r m' → Ex E cc nL own d Q (pc + 3) L (r.toList ++ S) m') : Ex E cc nL own d Q pc L (S) m :=
  x_callsG (As := []) hd hw hi rfl hd' hS8 rfl hM kk
theorem x_callv1 {v0 : zz_V} {y : MethodName} {cc' : ByteArray} {nL' : Nat} {ret' : Option FieldType} {T : u_T} (hd : decode cc pc = .ok (.invokevirtual idx, 3)) (hw : zz_cv own idx y cc' nL' ret' 1) (hi : Cond.instanceMethod y ∈ zz_T ∧ Cond.selects y.cls y y ∈ zz_T)
    (hk : kd o = (ci + 2, N)) (hcl : zz_cl[ci]? = some (y.cls, T, N)) (hd' : d' + 1 ≤ d) (hS8 : cat8 S ≤ 8) (hM : Mt E d' y cc' nL' ret' [zr o, v0] m Q') (kk : ∀ r m', Q' r m' → Ex E cc nL own d Q (pc + 3) L (r.toList ++ S) m') : Ex E cc nL own d Q pc L (v0 :: zr o :: S) m :=
  x_callvG (As := [v0]) hd hw hi rfl hk hcl hd' hS8 rfl hM kk
theorem x_calls1 {v0 : zz_V} {y : MethodName} {cc' : ByteArray} {nL' : Nat} {ret' : Option FieldType} (hd : decode cc pc = .ok (.invokestatic idx, 3)) (hw : zz_cv own idx y cc' nL' ret' 1) (hi : Cond.static y ∈ zz_T) (hd' : d' + 1 ≤ d) (hS8 : cat8 S ≤ 8) (hM : Mt E d' y cc' nL' ret' [v0] m Q') (kk : ∀ r m', Q' r m' → Ex E cc nL own d Q (pc + 3) L (r.toList ++ S) m') : Ex E cc nL own d Q pc L (v0 :: S) m :=
  x_callsG (As := [v0]) hd hw hi rfl hd' hS8 rfl hM kk
theorem x_callv2 {v0 v1 : zz_V} {y : MethodName} {cc' : ByteArray} {nL' : Nat} {ret' : Option FieldType} {T : u_T} (hd : decode cc pc = .ok (.invokevirtual idx, 3)) (hw : zz_cv own idx y cc' nL' ret' 2) (hi : Cond.instanceMethod y ∈ zz_T ∧ Cond.selects y.cls y y ∈ zz_T)
    (hk : kd o = (ci + 2, N)) (hcl : zz_cl[ci]? = some (y.cls, T, N)) (hd' : d' + 1 ≤ d) (hS8 : cat8 S ≤ 8) (hM : Mt E d' y cc' nL' ret' [zr o, v0, v1] m Q') (kk : ∀ r m', Q' r m' → Ex E cc nL own d Q (pc + 3) L (r.toList ++ S) m') : Ex E cc nL own d Q pc L (v1 :: v0 :: zr o :: S) m :=
  x_callvG (As := [v0, v1]) hd hw hi rfl hk hcl hd' hS8 rfl hM kk
theorem x_calls2 {v0 v1 : zz_V} {y : MethodName} {cc' : ByteArray} {nL' : Nat} {ret' : Option FieldType} (hd : decode cc pc = .ok (.invokestatic idx, 3)) (hw : zz_cv own idx y cc' nL' ret' 2) (hi : Cond.static y ∈ zz_T) (hd' : d' + 1 ≤ d) (hS8 : cat8 S ≤ 8) (hM : Mt E d' y cc' nL' ret' [v0, v1] m Q') (kk : ∀ r m', Q' r m' → Ex E cc nL own d Q (pc + 3) L (r.toList ++ S) m') : Ex E cc nL own d Q pc L (v1 :: v0 :: S) m :=
  x_callsG (As := [v0, v1]) hd hw hi rfl hd' hS8 rfl hM kk
theorem x_callv3 {v0 v1 v2 : zz_V} {y : MethodName} {cc' : ByteArray} {nL' : Nat} {ret' : Option FieldType} {T : u_T} (hd : decode cc pc = .ok (.invokevirtual idx, 3)) (hw : zz_cv own idx y cc' nL' ret' 3) (hi : Cond.instanceMethod y ∈ zz_T ∧ Cond.selects y.cls y y ∈ zz_T)
    (hk : kd o = (ci + 2, N)) (hcl : zz_cl[ci]? = some (y.cls, T, N)) (hd' : d' + 1 ≤ d) (hS8 : cat8 S ≤ 8) (hM : Mt E d' y cc' nL' ret' [zr o, v0, v1, v2] m Q') (kk : ∀ r m', Q' r m' → Ex E cc nL own d Q (pc + 3) L (r.toList ++ S) m') : Ex E cc nL own d Q pc L (v2 :: v1 :: v0 :: zr o :: S) m :=
  x_callvG (As := [v0, v1, v2]) hd hw hi rfl hk hcl hd' hS8 rfl hM kk
theorem x_calls3 {v0 v1 v2 : zz_V} {y : MethodName} {cc' : ByteArray} {nL' : Nat} {ret' : Option FieldType} (hd : decode cc pc = .ok (.invokestatic idx, 3)) (hw : zz_cv own idx y cc' nL' ret' 3) (hi : Cond.static y ∈ zz_T) (hd' : d' + 1 ≤ d) (hS8 : cat8 S ≤ 8) (hM : Mt E d' y cc' nL' ret' [v0, v1, v2] m Q') (kk : ∀ r m', Q' r m' → Ex E cc nL own d Q (pc + 3) L (r.toList ++ S) m') : Ex E cc nL own d Q pc L (v2 :: v1 :: v0 :: S) m :=
  x_callsG (As := [v0, v1, v2]) hd hw hi rfl hd' hS8 rfl hM kk
theorem x_callv4 {v0 v1 v2 v3 : zz_V} {y : MethodName} {cc' : ByteArray} {nL' : Nat} {ret' : Option FieldType} {T : u_T} (hd : decode cc pc = .ok (.invokevirtual idx, 3)) (hw : zz_cv own idx y cc' nL' ret' 4) (hi : Cond.instanceMethod y ∈ zz_T ∧ Cond.selects y.cls y y ∈ zz_T)
    (hk : kd o = (ci + 2, N)) (hcl : zz_cl[ci]? = some (y.cls, T, N)) (hd' : d' + 1 ≤ d) (hS8 : cat8 S ≤ 8) (hM : Mt E d' y cc' nL' ret' [zr o, v0, v1, v2, v3] m Q') (kk : ∀ r m', Q' r m' → Ex E cc nL own d Q (pc + 3) L (r.toList ++ S) m') : Ex E cc nL own d Q pc L (v3 :: v2 :: v1 :: v0 :: zr o :: S) m :=
  x_callvG (As := [v0, v1, v2, v3]) hd hw hi rfl hk hcl hd' hS8 rfl hM kk
theorem x_calls4 {v0 v1 v2 v3 : zz_V} {y : MethodName} {cc' : ByteArray} {nL' : Nat} {ret' : Option FieldType} (hd : decode cc pc = .ok (.invokestatic idx, 3)) (hw : zz_cv own idx y cc' nL' ret' 4) (hi : Cond.static y ∈ zz_T) (hd' : d' + 1 ≤ d) (hS8 : cat8 S ≤ 8) (hM : Mt E d' y cc' nL' ret' [v0, v1, v2, v3] m Q') (kk : ∀ r m', Q' r m' → Ex E cc nL own d Q (pc + 3) L (r.toList ++ S) m') : Ex E cc nL own d Q pc L (v3 :: v2 :: v1 :: v0 :: S) m :=
  x_callsG (As := [v0, v1, v2, v3]) hd hw hi rfl hd' hS8 rfl hM kk
/-- Math.abs, Math.max -/
def zz_ma (own : String) (idx : Nat) : Prop := Cond.methodLink own idx Lib.Math.abs.name ∈ zz_T ∧ Cond.static Lib.Math.abs.name ∈ zz_T ∧ Cond.initialized "java/lang/Math" ∈ zz_T ∧ Cond.code Lib.Math.abs.name Lib.Math.abs.code 1 (some .int) ∈ zz_T
def zz_mx (own : String) (idx : Nat) : Prop := Cond.methodLink own idx Lib.Math.max.name ∈ zz_T ∧ Cond.static Lib.Math.max.name ∈ zz_T ∧ Cond.initialized "java/lang/Math" ∈ zz_T ∧ Cond.code Lib.Math.max.name Lib.Math.max.code 2 (some .int) ∈ zz_T
theorem x_abs {a : Int} (hd : decode cc pc = .ok (.invokestatic idx, 3)) (hw : zz_ma own idx) (hd' : 1 ≤ d) (hS8 : cat8 S ≤ 8) (hv : nrm (if 0 ≤ a then a else -a) = v) (kk : Ex E cc nL own d Q (pc + 3) L (zi v :: S) m) : Ex E cc nL own d Q pc L (zi a :: S) m := by
  subst hv
  refine ex_st (fun _ hS hm => ok_cons (v := zi _) (nrm_in _) (ok_tl hS)) (fun p l e R s mi args below meth c A D cI cY ad cells slots Qs H locs ls hC hL hS hm hP hV hl kq => ?_) kk
  have ha : zz_in a := ok_hd hS
  have hts := hC.1.2.2.2.2
  have h8 := catsum_eq ad S
  unfold catsum at h8
  have hR1 := hC.2.2.2.2.2.1
  have hR2 := hC.2.2.2.2.2.2.1
  refine va_mabs hC.1.1 hC.1.2.1 (hC.1.2.2.1.trans hl.1.symm) hC.1.2.2.2.1 (hts _ hw.1) (hts _ hw.2.1) (hts _ hw.2.2.1) (hts _ hw.2.2.2) (by omega) (by rw [h8]; omega) hC.2.2.2.2.2.2.2.1 hC.2.2.2.2.2.2.2.2 hd ?_
  have e0 : (if 0 ≤ Int32.ofInt a then Int32.ofInt a else 0 - Int32.ofInt a) = Int32.ofInt (nrm (if 0 ≤ a then a else -a)) := by
    rw [i32_nrm]
    have h : (0 : Int32) ≤ Int32.ofInt a ↔ 0 ≤ a := i32_le (a := 0) (b := a) ⟨by decide, by decide⟩ ha
    by_cases h0 : 0 ≤ a
    · rw [if_pos h0, if_pos (h.mpr h0)]
    · rw [if_neg h0, if_neg (fun q => h0 (h.mp q)), Int32.ofInt_neg, Int32.zero_sub]
  rw [e0]
  exact kq
theorem x_max {a b : Int} (hd : decode cc pc = .ok (.invokestatic idx, 3)) (hw : zz_mx own idx) (hd' : 1 ≤ d) (hS8 : cat8 S ≤ 8) (hv : (if a < b then b else a) = v) (kk : Ex E cc nL own d Q (pc + 3) L (zi v :: S) m) : Ex E cc nL own d Q pc L (zi b :: zi a :: S) m := by
  subst hv
  refine ex_st (fun _ hS hm => ok_cons (v := zi _) (by split; exact ok_hd hS; exact ok_hd (ok_tl hS)) (ok_tl (ok_tl hS))) (fun p l e R s mi args below meth c A D cI cY ad cells slots Qs H locs ls hC hL hS hm hP hV hl kq => ?_) kk
  have ha : zz_in a := ok_hd (ok_tl hS)
  have hb : zz_in b := ok_hd hS
  have hts := hC.1.2.2.2.2
  have h8 := catsum_eq ad S
  unfold catsum at h8
  have hR1 := hC.2.2.2.2.2.1
  have hR2 := hC.2.2.2.2.2.2.1
  refine va_mmax hC.1.1 hC.1.2.1 (hC.1.2.2.1.trans hl.1.symm) hC.1.2.2.2.1 (hts _ hw.1) (hts _ hw.2.1) (hts _ hw.2.2.1) (hts _ hw.2.2.2) (by omega) (by rw [h8]; omega) hC.2.2.2.2.2.2.2.1 hC.2.2.2.2.2.2.2.2 hd ?_
  have e0 : (if Int32.ofInt a < Int32.ofInt b then Int32.ofInt b else Int32.ofInt a) = Int32.ofInt (if a < b then b else a) := by
    by_cases h0 : a < b
    · rw [if_pos h0, if_pos ((i32_lt ha hb).mpr h0)]
    · rw [if_neg h0, if_neg (fun q => h0 ((i32_lt ha hb).mp q))]
  rw [e0]
  exact kq
/-- System.arraycopy from the start of one array to the start of another -/
def cpm (m : zz_M) (a b n : Nat) : zz_M := fun k j => if k = b ∧ j < n then m a j else m k j
def zz_ac (own : String) (idx : Nat) : Prop := Cond.methodLink own idx arraycopyName ∈ zz_T ∧ Cond.native arraycopyName ∈ zz_T ∧ Cond.static arraycopyName ∈ zz_T ∧ Cond.initialized "java/lang/System" ∈ zz_T
theorem x_copy {a b na nb len : Nat} {z : Int} (hd : decode cc pc = .ok (.invokestatic idx, 3)) (hw : zz_ac own idx) (hd' : 1 ≤ d) (hS8 : cat8 S ≤ 8) (ha : kd a = (0, na)) (hb : kd b = (0, nb)) (hz : (len : Int) = z) (h1 : len ≤ na) (h2 : len ≤ nb) (kk : Ex E cc nL own d Q (pc + 3) L S (cpm m a b len)) : Ex E cc nL own d Q pc L (zi z :: zi 0 :: zr b :: zi 0 :: zr a :: S) m := by
  subst hz
  intro p l e R s mi args below meth c A D cI cY ad cells slots Qs hC hK H locs ls hL hS hm hP hV hl
  have hzi : zz_in (len : Int) := ok_hd hS
  have h0i : zz_in 0 := ⟨by decide, by decide⟩
  have hts := hC.1.2.2.2.2
  have h8 := catsum_eq ad S
  unfold catsum at h8
  have hR1 := hC.2.2.2.2.2.1
  have hR2 := hC.2.2.2.2.2.2.1
  have e0 : (Int32.ofInt 0).toNatClampNeg = 0 := by decide
  have el : (Int32.ofInt (len : Int)).toNatClampNeg = len := by rw [i32_idx hzi (by omega)]; omega
  have hnn : ¬ Int32.ofInt (len : Int) < 0 := by
    intro q
    have := (i32_lt hzi h0i).mp q
    omega
  have hset : (wl ad cI cY m).set b (ad b, .inl (cI, (nb, .inl (va_cpy (fun j => Int32.ofInt (m a j)) (fun j => Int32.ofInt (m b j)) (Int32.ofInt 0).toNatClampNeg (Int32.ofInt 0).toNatClampNeg (Int32.ofInt (len : Int)).toNatClampNeg)))) = wl ad cI cY (cpm m a b len) := by
    refine wl_set (fun k' h => by funext j; exact if_neg (fun q => h q.1)) ?_
    rw [ce_arr hb, e0, el]
    congr 4
    funext j
    unfold va_cpy cpm
    by_cases hj : j < len
    · rw [if_pos ⟨rfl, hj⟩, if_pos ⟨Nat.zero_le _, by omega⟩]
      simp
    · rw [if_neg (fun q => hj q.2), if_neg (fun q => hj (by omega))]
  refine va_copyi hC.1.1 hC.1.2.1 (hC.1.2.2.1.trans hl.1.symm) hC.1.2.2.2.1 (hts _ hw.1) (hts _ hw.2.1) (hts _ hw.2.2.1) (hts _ hw.2.2.2) hC.2.1 hP (wl_D hC.2.2.2.2.1) hV a b 0 0 (wl_arr ha) (wl_arr hb) rfl rfl rfl (by decide) (by decide) hnn (by rw [e0, el]; omega) (by rw [e0, el]; omega) (fun i hi => rfl) (by omega) (by rw [h8, show nativeFrameWords "java/lang/System" "arraycopy" 5 = 7 from by decide]; omega) hd (fun H1 locs1 hP1 _ hV1 => ?_)
  rw [hset] at hP1
  refine kk p l e R s mi args below meth c A D cI cY ad cells slots Qs hC hK H1 locs1 ls hL (ok_tl (ok_tl (ok_tl (ok_tl (ok_tl hS))))) (fun k j => ?_) hP1 hV1 hl
  unfold cpm
  split
  · exact hm _ _
  · exact hm _ _
end EXK
/-! ===== a method's contract out of its run ===== -/
def entL : List zz_V → List (Option zz_V)
  | [] => []
  | .inr (.inl z) :: as => some (zj z) :: none :: entL as
  | v :: as => some v :: entL as
theorem gl_app_none {ad : Nat → Nat} (n : Nat) : ∀ (i : Nat), gl ad i (List.replicate n none) = [] := by
  induction n with
  | zero => intro i; rfl
  | succ n ih => intro i; rw [List.replicate_succ, gl, ih]
theorem gl_ent {ad : Nat → Nat} (n : Nat) : ∀ (as : List zz_V) (i : Nat), gl ad i (entL as ++ List.replicate n none) = lv_args i (as.map (gv ad))
  | [], i => gl_app_none n i
  | .inl z :: as, i => by
    show _ :: gl ad (i + 1) (entL as ++ List.replicate n none) = _
    rw [gl_ent n as (i + 1)]
    rfl
  | .inr (.inl z) :: as, i => by
    show _ :: gl ad (i + 1 + 1) (entL as ++ List.replicate n none) = _
    rw [gl_ent n as (i + 1 + 1)]
    rfl
  | .inr (.inr z) :: as, i => by
    show _ :: gl ad (i + 1) (entL as ++ List.replicate n none) = _
    rw [gl_ent n as (i + 1)]
    rfl
def lens : List zz_V → Nat
  | [] => 0
  | .inr (.inl _) :: as => 2 + lens as
  | _ :: as => 1 + lens as
theorem lens_eq {ad : Nat → Nat} : ∀ as : List zz_V, (lg_sl (as.map (gv ad))).length = lens as
  | [] => rfl
  | .inl z :: as => by
    have h := lens_eq (ad := ad) as
    unfold lg_sl at h ⊢
    rw [List.map_cons, List.flatMap_cons, List.length_append, h]
    rfl
  | .inr (.inl z) :: as => by
    have h := lens_eq (ad := ad) as
    unfold lg_sl at h ⊢
    rw [List.map_cons, List.flatMap_cons, List.length_append, h]
    rfl
  | .inr (.inr z) :: as => by
    have h := lens_eq (ad := ad) as
    unfold lg_sl at h ⊢
    rw [List.map_cons, List.flatMap_cons, List.length_append, h]
    rfl
theorem Mt.of {E : zz_E} {d : Nat} {y : MethodName} {cc : ByteArray} {nL : Nat} {ret : Option FieldType} {as : List zz_V} {m : zz_M} {Q : Option zz_V → zz_M → Prop} (n : Nat) (hy : plainName y.cls = true) (hn : lens as ≤ nL)
    (hret : ret = some .int ∨ (ret = some .boolean ∧ ∀ z m', Q (some (zi z)) m' → z = 0 ∨ z = 1) ∨ ret = some .long ∨ ret = none) (hrt : ∀ r m', Q r m' → (ret = none ↔ r = none) ∧ (ret = some .long ↔ ∃ z, r = some (zj z)))
    (hex : Ex E cc nL y.cls d Q 0 (entL as ++ List.replicate n none) [] m) : Mt E d y cc nL ret as m Q := by
  intro hE has hm l A D cI cY ad had
  refine Met.ofW (cc := cc) (maxL := nL) (ret := ret) hy rfl ?_
  intro p e s mi args below meth c s₁ B hml hv
  obtain ⟨rfl, hP, hKn, hRo, hNf⟩ := hv
  have hts := atoms_spec (ws := Cond.code y cc nL ret :: zz_G) B.pre
  have hown : s.vm.findClass y.cls = some mi.cls := findClass_of_methodNamed B.named
  have hlocks := B.notSynchronized
  have hr := B.returns
  have hl := lv_entry (as.map (gv ad)) (n := nL) (by rw [lens_eq]; exact hn)
  rw [lg_entry_eq]
  generalize (lg_sl (as.map (gv ad)) ++ List.replicate (nL - (lg_sl (as.map (gv ad))).length) Slot.unset).toArray = ls at hl ⊢
  rw [← gl_ent n as 0] at hl
  have hC : zz_C E p (headSpec (Cond.code y cc nL ret :: zz_G) (zz_rm d)).room s mi (as.map (gv ad)).toArray meth c cc nL y.cls A D cI cY ad d 0 0 :=
    ⟨⟨B.exec, B.bytes, hml, hown, zz_T_of (fun w hw => hts w (List.mem_cons_of_mem _ hw)) hNf⟩, hKn, hRo, hE, had, Nat.le_refl _, Nat.le_refl _, Nat.le_refl _, Nat.le_refl _⟩
  refine hex p l e _ s mi _ below meth c A D cI cY ad 0 0 _ hC ?_ s.heap [] ls ?_ (fun v hv => by cases hv) hm hP va_S.rf hl
  · intro r pc' S' ls' m' H' locs' hrt' hq hS' hm' hP' hV'
    have fin : ∀ t : State, t.heap = H' → s.WarmedH t.vm → zz_Qc E A D cI cY ad Q (as.map (gv ad)).toArray s (.returned (r.map (gv ad))) t := by
      intro t ht hW
      refine ⟨⟨r, m', rfl, hq, fun v hv => ?_, hm', by rw [ht]; exact hP'⟩, hV'.F ht⟩
      subst hv
      match v, hrt' with
      | .inl z, h => exact hS' _ (by rw [h.1]; exact List.mem_cons_self)
      | .inr (.inl z), h => exact hS' _ (by rw [h.1]; exact List.mem_cons_self)
      | .inr (.inr z), h => exact trivial
    have hr1 := hrt r m' hq
    match r, hrt', fin, hr1, hq with
    | none, ⟨h1, h2⟩, fin, hr1, _ =>
      subst h1
      have hr0 : ret = none := hr1.1.mpr rfl
      subst hr0
      exact W.vret B.exec B.bytes hr fin hV'.2.2 h2
    | some (.inl z), ⟨h1, h2⟩, fin, hr1, hq =>
      subst h1
      rcases hret with h | ⟨h, hz⟩ | h | h
      · subst h
        exact W.iret B.exec B.bytes hr fin hV'.2.2 h2
      · subst h
        rcases hz z m' hq with rfl | rfl
        · exact W.zret B.exec B.bytes hr (by decide +kernel : narrow .boolean (.int (Int32.ofInt 0)) = .int (Int32.ofInt 0)) fin hV'.2.2 h2
        · exact W.zret B.exec B.bytes hr (by decide +kernel : narrow .boolean (.int (Int32.ofInt 1)) = .int (Int32.ofInt 1)) fin hV'.2.2 h2
      · obtain ⟨z', hz'⟩ := hr1.2.mp h
        cases hz'
      · exact absurd (hr1.1.mp h) (by simp)
    | some (.inr (.inl z)), ⟨h1, h2⟩, fin, hr1, _ =>
      subst h1
      have hr0 : ret = some .long := hr1.2.mpr ⟨z, rfl⟩
      subst hr0
      exact W.lret B.exec B.bytes hr fin hV'.2.2 h2
  · intro v hv
    have : ∀ (as : List zz_V), (∀ v ∈ as, okv v) → ∀ v, some v ∈ entL as ++ List.replicate n none → okv v := by
      intro as
      induction as with
      | nil =>
        intro _ v hv
        have hv : some v ∈ List.replicate n (none : Option zz_V) := hv
        have := List.eq_of_mem_replicate hv
        cases this
      | cons w as ih =>
        intro h v hv
        have h2 := ih (fun v hv => h v (List.mem_cons_of_mem _ hv))
        have h3 := h w List.mem_cons_self
        match w, hv, h3 with
        | .inl z, hv, h3 =>
          rcases List.mem_cons.mp hv with q | q
          · cases q; exact h3
          · exact h2 v q
        | .inr (.inr z), hv, h3 =>
          rcases List.mem_cons.mp hv with q | q
          · cases q; exact h3
          · exact h2 v q
        | .inr (.inl z), hv, h3 =>
          rcases List.mem_cons.mp hv with q | q
          · cases q; exact h3
          · rcases List.mem_cons.mp q with q | q
            · cases q
            · exact h2 v q
    exact this as has v hv
