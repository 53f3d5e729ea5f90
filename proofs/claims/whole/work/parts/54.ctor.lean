/-! ===== constructors: worlds that grow ===== -/
abbrev z0 : Int32 := Int32.ofInt 0
theorem mem_arrInt : Cond.arrayClass .int ∈ zz_T := zz_T_mem (List.mem_of_getElem? (i := 129) (by decide +kernel)) (by decide +kernel)
/-- words that the constructors need beside zz_T -/
def zz_X (U : State) : Prop := zz_N U ∧ va_Nw (.methodLinkNest RX3 9 yX2_init RX3) U ∧ va_Nw (.methodLinkNest RX3 24 yX1_init RX3) U ∧ va_Nw (.methodLinkNest RX1 11 yX2_init RX3) U ∧ va_Nw (.methodLinkNest RX3 31 yX0_init RX3) U ∧ va_AO RX2 U
theorem zz_X.same {u U : State} (h : u.vm = U.vm) (hX : zz_X u) : zz_X U := by
  obtain ⟨h1, h2, h3, h4, h5, h6⟩ := hX
  exact ⟨zz_N.same h h1, va_Nw.same rfl h h2, va_Nw.same rfl h h3, va_Nw.same rfl h h4, va_Nw.same rfl h h5, va_AO.moved (u := u) (by rw [h]; exact Vm.Alike.refl _) h6⟩
theorem zz_X.warm {s U : State} (hW : s.WarmedH U.vm) (hX : zz_X s) : zz_X U := by
  obtain ⟨h1, h2, h3, h4, h5, h6⟩ := hX
  exact ⟨h1.warm hW, va_Nw.warmM hW h2, va_Nw.warmM hW h3, va_Nw.warmM hW h4, va_Nw.warmM hW h5, va_AO.moved hW.alike h6⟩
theorem zz_X.of {s : State} {args : Array Value} (h : ∀ w ∈ lw_tbl, w.before args s = true) : zz_X s :=
  ⟨zz_N.of (args := args) (fun w hw => h w (zz_T_tbl hw)), va_Nw.of (A := args) rfl (h _ (List.mem_of_getElem? (i := 67) (by decide +kernel))), va_Nw.of (A := args) rfl (h _ (List.mem_of_getElem? (i := 132) (by decide +kernel))), va_Nw.of (A := args) rfl (h _ (List.mem_of_getElem? (i := 138) (by decide +kernel))), va_Nw.of (A := args) rfl (h _ (List.mem_of_getElem? (i := 161) (by decide +kernel))), va_AO.of (A := args) (h _ (List.mem_of_getElem? (i := 137) (by decide +kernel)))⟩
def CC (p : Program) (R : Room) (s : State) (mi : MethodId) (args : Array Value) (c : Code) (cc : ByteArray) (nL : Nat) (own : String) (A : Nat → Prop) (D : va_G) (cI cY : ClassId) (fr K N : Nat) : Prop :=
  (p.tables.exec = Jvm.exec ∧ c.code = cc ∧ c.maxLocals = nL ∧ s.vm.findClass own = some mi.cls ∧ ∀ w ∈ zz_T, w.before args s = true) ∧ va_K D zz_cl (zz_tys cI cY) s ∧ (∀ q, s.heap.size ≤ q → A q) ∧ zz_X s ∧ fr ≤ R.frames ∧ 24 * fr ≤ R.locals ∧ K ≤ R.cells ∧ N ≤ R.slots
def Wx (p : Program) (l : Launch) (e : Env) (R : Room) (s : State) (mi : MethodId) (args : Array Value) (below : List Frame) (meth : Method) (c : Code) (A : Nat → Prop) (D : va_G) (Qs : State → Prop) (ls : Array Slot) (pc : Nat) (S : List Value) (ws : va_W) (k n : Nat) : Prop :=
  ∀ (H : Heap) (locs : List Loc), va_P D zz_cl ws H → va_D A ws → va_S A s.heap H locs → W p l e R s mi args below meth c H locs k n Qs (F0 mi pc ls S)
/-- a constructor's contract: Pk says of the world behind it -/
def Cn (y : MethodName) (cc : ByteArray) (ci : Nat) (fs : List Value) (fr mc ms : Nat) (Pk : ClassId → ClassId → Nat → va_W → Prop) : Prop :=
  ∀ (l : Launch) (D : va_G) (cI cY : ClassId) (h0 sz : Nat),
    Met l y (.code y cc 1 none :: zz_G) ({ frames := fr, cells := mc, slots := ms, locals := 24 * fr })
      (va_Pc [.ref h0] (fun U => U.heap.size = sz ∧ va_P D zz_cl [(h0, .inr (ci, fs))] U.heap ∧ va_K D zz_cl (zz_tys cI cY) U ∧ va_D (fun _ => True) [(h0, .inr (ci, fs))] ∧ zz_X U))
      (va_Qv (fun w : va_W => Pk cI cY h0 w) (fun w t => va_P D zz_cl w t.heap ∧ va_D (va_A [(h0, .inr (ci, fs))] sz) w) (va_A [(h0, .inr (ci, fs))] sz)) mc ms (va_A [(h0, .inr (ci, fs))] sz)
theorem Cn.of {y : MethodName} {cc : ByteArray} {ci : Nat} {fs : List Value} {fr mc ms : Nat} {Pk : ClassId → ClassId → Nat → va_W → Prop} {pcR : Nat} (hy : plainName y.cls = true) (hnm : y.name = "<init>") (hdr : decode cc pcR = .ok (.return_, 1))
    (body : ∀ (p : Program) (l : Launch) (e : Env) (R : Room) (s : State) (mi : MethodId) (args : Array Value) (below : List Frame) (meth : Method) (c : Code) (A : Nat → Prop) (D : va_G) (cI cY : ClassId) (h0 : Nat) (ls : Array Slot) (Qs : State → Prop),
      CC p R s mi args c cc 1 y.cls A D cI cY fr mc ms → meth.name = "<init>" → ls[0]? = some (.val (.ref h0)) → ls.size = 1 →
      (∀ w, Pk cI cY h0 w → Wx p l e R s mi args below meth c A D Qs ls pcR [] w mc ms) → Wx p l e R s mi args below meth c A D Qs ls 0 [] [(h0, .inr (ci, fs))] 0 0) : Cn y cc ci fs fr mc ms Pk := by
  intro l D cI cY h0 sz
  refine Met.ofW (cc := cc) (maxL := 1) (ret := none) hy rfl ?_
  intro p e s mi args below meth c s₁ B hml hv
  obtain ⟨rfl, hsz, hP, hK, hD0, hX⟩ := hv
  have hts := atoms_spec (ws := Cond.code y cc 1 none :: zz_G) B.pre
  have hown : s.vm.findClass y.cls = some mi.cls := findClass_of_methodNamed B.named
  have hin : meth.name = "<init>" := ((name_of_methodNamed B.named B.method).1).trans hnm
  have hlocks := B.notSynchronized
  have hr := B.returns
  subst hsz
  have hD := hD0.self (sz := s.heap.size)
  generalize hAe : va_A [(h0, .inr (ci, fs))] s.heap.size = A at hD ⊢
  have hA : ∀ q : Nat, s.heap.size ≤ q → A q := fun q h => by rw [← hAe]; exact Or.inr h
  have hl := lv_entry ([.ref h0]) (n := 1) (Nat.le_of_ble_eq_true rfl)
  rw [lg_entry_eq]
  generalize (lg_sl ([.ref h0]) ++ List.replicate (1 - (lg_sl ([.ref h0])).length) Slot.unset).toArray = ls at hl ⊢
  have hl : lv_has ls 1 [(0, .ref h0)] := hl
  refine body p l e _ s mi _ below meth c A D cI cY h0 ls _ ⟨⟨B.exec, B.bytes, hml, hown, zz_T_of (fun w hw => hts w (List.mem_cons_of_mem _ hw)) hX.1⟩, hK, hA, hX, Nat.le_refl _, Nat.le_refl _, Nat.le_refl _, Nat.le_refl _⟩ hin (lv_at hl 0 rfl) hl.1 ?_ s.heap [] hP hD va_S.rf
  intro w hw H locs hP1 hD1 hV1
  exact W.vret B.exec B.bytes hr (fun t ht hW => ⟨⟨w, rfl, hw, by rw [ht]; exact hP1, hD1⟩, hV1.F ht⟩) hV1.2.2 hdr
section CTX
variable {p : Program} {l : Launch} {e : Env} {R : Room} {s : State} {mi : MethodId} {args : Array Value} {below : List Frame} {meth : Method} {c : Code} {cc : ByteArray} {nL : Nat} {own : String} {A : Nat → Prop} {D : va_G} {cI cY : ClassId} {fr K N : Nat} {Qs : State → Prop} {ls : Array Slot} {pc k n : Nat} {S : List Value} {ws : va_W}
theorem wx_aload {h : Nat} (hC : CC p R s mi args c cc nL own A D cI cY fr K N) (hl : ls[0]? = some (.val (.ref h))) (hd : decode cc pc = .ok (.aload_n 0, 1)) (kk : Wx p l e R s mi args below meth c A D Qs ls (pc + 1) (.ref h :: S) ws k n) : Wx p l e R s mi args below meth c A D Qs ls pc S ws k n :=
  fun H locs hP hD hV => lv_aload_n hC.1.1 hC.1.2.1 hd rfl hl (kk H locs hP hD hV)
theorem wx_iconst {z : Int} (hC : CC p R s mi args c cc nL own A D cI cY fr K N) (hd : decode cc pc = .ok (.iconst z, 1)) (kk : Wx p l e R s mi args below meth c A D Qs ls (pc + 1) (.int (Int32.ofInt z) :: S) ws k n) : Wx p l e R s mi args below meth c A D Qs ls pc S ws k n :=
  fun H locs hP hD hV => lv_iconst hC.1.1 hC.1.2.1 hd rfl (kk H locs hP hD hV)
theorem wx_bipush {z : Int} (hC : CC p R s mi args c cc nL own A D cI cY fr K N) (hd : decode cc pc = .ok (.bipush z, 2)) (hz : (Int8.ofInt z).toInt32 = Int32.ofInt z) (kk : Wx p l e R s mi args below meth c A D Qs ls (pc + 2) (.int (Int32.ofInt z) :: S) ws k n) : Wx p l e R s mi args below meth c A D Qs ls pc S ws k n :=
  fun H locs hP hD hV => lv_bipush hC.1.1 hC.1.2.1 hd hz (kk H locs hP hD hV)
theorem wx_sipush {z : Int} (hC : CC p R s mi args c cc nL own A D cI cY fr K N) (hd : decode cc pc = .ok (.sipush z, 3)) (hz : (Int16.ofInt z).toInt32 = Int32.ofInt z) (kk : Wx p l e R s mi args below meth c A D Qs ls (pc + 3) (.int (Int32.ofInt z) :: S) ws k n) : Wx p l e R s mi args below meth c A D Qs ls pc S ws k n :=
  fun H locs hP hD hV => lv_sipush hC.1.1 hC.1.2.1 hd hz (kk H locs hP hD hV)
theorem wx_dup {v : Value} (hC : CC p R s mi args c cc nL own A D cI cY fr K N) (hv : v.category = 1) (hd : decode cc pc = .ok (.dup, 1)) (kk : Wx p l e R s mi args below meth c A D Qs ls (pc + 1) (v :: v :: S) ws k n) : Wx p l e R s mi args below meth c A D Qs ls pc (v :: S) ws k n :=
  fun H locs hP hD hV => lv_dup hC.1.1 hC.1.2.1 hd hv (kk H locs hP hD hV)
theorem wx_obj {idx a : Nat} (hC : CC p R s mi args c cc nL own A D cI cY fr K N) (hf : 1 ≤ fr) (hls : ls.size = nL) (hlink : Cond.methodLink own idx Lib.objectInit ∈ zz_T) (hd : decode cc pc = .ok (.invokespecial idx, 3)) (kk : Wx p l e R s mi args below meth c A D Qs ls (pc + 3) [] ws k n) : Wx p l e R s mi args below meth c A D Qs ls pc [.ref a] ws k n := by
  intro H locs hP hD hV
  have hm1 : Cond.instanceMethod Lib.objectInit ∈ zz_T := zz_T_mem (List.mem_of_getElem? (i := 63) (by decide +kernel)) (by decide +kernel)
  have hm2 : Cond.code Lib.objectInit ⟨#[0xb1]⟩ 1 none ∈ zz_T := zz_T_mem (List.mem_of_getElem? (i := 64) (by decide +kernel)) (by decide +kernel)
  have h1 := hC.2.2.2.2.1
  have h2 := hC.2.2.2.2.2.1
  refine W.objInit hC.1.1 hC.1.2.1 hC.1.2.2.2.1 (hC.1.2.2.2.2 _ hlink) (hC.1.2.2.2.2 _ hm1) (hC.1.2.2.2.2 _ hm2) rfl (by rw [hC.1.2.2.1]; exact hls) rfl hd (by omega) ?_ ?_
  · show 2 * 0 + 0 + 12 ≤ R.locals
    omega
  · exact kk H locs hP hD hV
theorem wx_newI {v : Int32} {M : Nat} (hC : CC p R s mi args c cc nL own A D cI cY fr K N) (hd : decode cc pc = .ok (.newarray .int, 2)) (hn : ¬ v < 0) (hM : v.toNatClampNeg = M) (hB : M * 4 ≤ 536870912) (hk : k + 1 ≤ K) (hs : n + M ≤ N)
    (kk : ∀ q : Nat, Wx p l e R s mi args below meth c A D Qs ls (pc + 2) (.ref q :: S) (ws ++ [(q, .inl (cI, (M, .inl fun _ => z0)))]) (k + 1) (n + M)) : Wx p l e R s mi args below meth c A D Qs ls pc (.int v :: S) ws k n := by
  intro H locs hP hD hV
  have hR1 := hC.2.2.2.2.2.2.1
  have hR2 := hC.2.2.2.2.2.2.2
  refine va_newa (atype := .int) (ty := .int) (N' := M) (a0 := (M, .inl fun _ => z0)) hC.1.1 hC.1.2.1 (hC.1.2.2.2.2 _ mem_arrInt) rfl hC.2.1 hP hD hV hC.2.2.1 (fun _ => rfl) hn hM hB (by omega) (by omega) hd (fun q cA H1 hK' hP' hD' hV' => ?_)
  have e1 : s.vm.findClass ("[" ++ (FieldType.int).toString) = some cA := (hK'.2 2 (cA, .int) rfl).2
  have e2 : s.vm.findClass ("[" ++ (FieldType.int).toString) = some cI := (hC.2.1.2 0 (cI, .int) rfl).2
  have e : cA = cI := Option.some.inj (e1.symm.trans e2)
  rw [e] at hP' hD'
  exact kk q H1 locs hP' hD' hV'
theorem wx_newQ {v : Int32} {M idx : Nat} (hC : CC p R s mi args c cc nL own A D cI cY fr K N) (hcl : Cond.classLink own idx RX2 ∈ zz_T) (hd : decode cc pc = .ok (.anewarray idx, 3)) (hn : ¬ v < 0) (hM : v.toNatClampNeg = M) (hB : M * 4 ≤ 536870912) (hk : k + 1 ≤ K) (hs : n + M ≤ N)
    (kk : ∀ q : Nat, Wx p l e R s mi args below meth c A D Qs ls (pc + 3) (.ref q :: S) (ws ++ [(q, .inl (cY, (M, .inr (.inr (.inr (.inr fun _ => none))))))]) (k + 1) (n + M)) : Wx p l e R s mi args below meth c A D Qs ls pc (.int v :: S) ws k n := by
  intro H locs hP hD hV
  have hR1 := hC.2.2.2.2.2.2.1
  have hR2 := hC.2.2.2.2.2.2.2
  refine va_newq (C := RX2) (N' := M) hC.1.1 hC.1.2.1 hC.1.2.2.2.1 (hC.1.2.2.2.2 _ hcl) hC.2.2.2.1.2.2.2.2.2 hC.2.1 hP hD hV hC.2.2.1 hn hM hB (by omega) (by omega) hd (fun q cA H1 hK' hP' hD' hV' => ?_)
  obtain ⟨kA, comp, -, -, -, e1⟩ := (hK'.2 2 (cA, .object RX2) rfl).2
  obtain ⟨kA2, comp2, -, -, -, e2⟩ := (hC.2.1.2 1 (cY, .object RX2) rfl).2
  have e : cA = cY := Option.some.inj (e1.symm.trans e2)
  rw [e] at hP' hD'
  exact kk q H1 locs hP' hD' hV'
theorem wx_new {idx ci M : Nat} {C : String} {T : u_T} {ty : Nat → FieldType} {fs : List Value} (hC : CC p R s mi args c cc nL own A D cI cY fr K N) (hc : zz_cl[ci]? = some (C, T, M)) (hty : ∀ j, j < M → parseFieldDescriptor (T j).2.2.1 = some (ty j)) (hfs : ∀ j, j < M → defaultValue (ty j) = vp_V fs j)
    (hw : Cond.classLink own idx C ∈ zz_T ∧ Cond.instantiable C M ∈ zz_T ∧ Cond.initialized C ∈ zz_T) (hd : decode cc pc = .ok (.new idx, 3)) (hk : k + 1 ≤ K) (hs : n + M ≤ N)
    (kk : ∀ q : Nat, Wx p l e R s mi args below meth c A D Qs ls (pc + 3) (.ref q :: S) (ws ++ [(q, .inr (ci, fs))]) (k + 1) (n + M)) : Wx p l e R s mi args below meth c A D Qs ls pc S ws k n := by
  intro H locs hP hD hV
  have hR1 := hC.2.2.2.2.2.2.1
  have hR2 := hC.2.2.2.2.2.2.2
  exact va_new (ci := ci) (fs := fs) (C := C) (T := T) (N := M) hC.1.1 hC.1.2.1 hC.1.2.2.2.2 (zz_cls hc).2.1 ty hty hC.1.2.2.2.1 (hC.1.2.2.2.2 _ hw.1) (hC.1.2.2.2.2 _ hw.2.1) (hC.1.2.2.2.2 _ hw.2.2) hC.2.1 hP hD hV hC.2.2.1 hc hfs (by omega) (by omega) hd
    (fun q H1 hP' hD' hV' => kk q H1 locs hP' hD' hV')
theorem wx_put {idx ci j M a : Nat} {T : u_T} {ty : FieldType} {v : Value} {fs : List Value} (hC : CC p R s mi args c cc nL own A D cI cY fr K N) (hin : meth.name = "<init>") (hc : zz_cl[ci]? = some (own, T, M)) (hj : j < M) (hlink : Cond.fieldLink own idx own (T j).2.1 (T j).2.2.1 ∈ zz_T)
    (hty : parseFieldDescriptor (T j).2.2.1 = some ty) (hnv : narrow ty v = v) (hfit : fits ty v = true) (hl : j < fs.length) (hd : decode cc pc = .ok (.putfield idx, 3))
    (kk : Wx p l e R s mi args below meth c A D Qs ls (pc + 3) S ((a, .inr (ci, fs.set j v)) :: ws) k n) : Wx p l e R s mi args below meth c A D Qs ls pc (v :: .ref a :: S) ((a, .inr (ci, fs)) :: ws) k n := by
  intro H locs hP hD hV
  obtain ⟨-, hws, ⟨ty0, hty0, -⟩, hnm, hdec⟩ := zz_cls hc
  have hs : ∀ x, s.fieldFound? (T j).1 (T j).2.1 (T j).2.2.1 = some x → s.fieldFound? own (T j).2.1 (T j).2.2.1 = some x := by
    rw [hdec j hj]
    exact fun _ h => h
  cases hfin : (T j).2.2.2 with
  | false => exact va_put hC.1.1 hC.1.2.1 hC.1.2.2.2.2 hws ty0 hty0 hnm hC.1.2.2.2.1 hC.2.1 hP hD hV 0 rfl hc j hj (hC.1.2.2.2.2 _ hlink) hs hfin hty hnv hfit hl hd (fun H1 locs1 hP' hD' hV' => kk H1 locs1 hP' hD' hV')
  | true => exact va_putF hC.1.1 hC.1.2.1 hC.1.2.2.2.2 hws ty0 hty0 hnm hC.1.2.2.2.1 hC.2.1 hP hD hV 0 rfl hc j hj (hC.1.2.2.2.2 _ hlink) hs hfin hin (hdec j hj) hty hnv hfit hl hd (fun H1 locs1 hP' hD' hV' => kk H1 locs1 hP' hD' hV')
theorem wx_iast {i x : Int32} {a M : Nat} {f : Nat → Int32} (hC : CC p R s mi args c cc nL own A D cI cY fr K N) (q0 : Nat) (ha : ws[q0]? = some (a, .inl (cI, M, .inl f))) (hi : vp_in i M) (hd : decode cc pc = .ok (.iastore, 1))
    (kk : Wx p l e R s mi args below meth c A D Qs ls (pc + 1) S (ws.set q0 (a, .inl (cI, M, .inl (upd f i.toNatClampNeg x)))) k n) : Wx p l e R s mi args below meth c A D Qs ls pc (.int x :: .int i :: .ref a :: S) ws k n := by
  intro H locs hP hD hV
  exact va_iast hC.1.1 hC.1.2.1 hC.2.1 hP hD hV q0 0 ha rfl hi hd (fun H1 locs1 hP' hD' hV' => kk H1 locs1 hP' hD' hV')
theorem wx_astq {i : Int32} {a v M : Nat} {vs : List Value} {f : Nat → Option Nat} (hC : CC p R s mi args c cc nL own A D cI cY fr K N) (q0 qk : Nat) (ha : ws[q0]? = some (a, .inl (cY, M, .inr (.inr (.inr (.inr f)))))) (hv : ws[qk]? = some (v, .inr (2, vs))) (hi : vp_in i M) (hd : decode cc pc = .ok (.aastore, 1))
    (kk : Wx p l e R s mi args below meth c A D Qs ls (pc + 1) S (ws.set q0 (a, .inl (cY, M, .inr (.inr (.inr (.inr (va_up f i.toNatClampNeg (some v)))))))) k n) : Wx p l e R s mi args below meth c A D Qs ls pc (.ref v :: .int i :: .ref a :: S) ws k n := by
  intro H locs hP hD hV
  exact va_astq (r := (RX2, TX2, 13)) hC.1.1 hC.1.2.1 hC.2.1 hP hD hV q0 1 qk 2 ha rfl hv rfl hi hd (fun H1 locs1 hP' hD' hV' => kk H1 locs1 hP' hD' hV')
theorem wx_eq {ws' : va_W} (h : ws = ws') (kk : Wx p l e R s mi args below meth c A D Qs ls pc S ws' k n) : Wx p l e R s mi args below meth c A D Qs ls pc S ws k n := by
  subst h
  exact kk
theorem nd_range (n : Nat) : va_nd (List.range n) = true := by
  have key : ∀ l : List Nat, l.Nodup → va_nd l = true := by
    intro l
    induction l with
    | nil => intro _; rfl
    | cons a l ih =>
      intro h
      rw [List.nodup_cons] at h
      unfold va_nd
      rw [ih h.2]
      simp [h.1]
  exact key _ List.nodup_range
theorem wx_join {A0 : Nat → Prop} {w0 w1 : va_W} {x : Nat × va_E} {H H1 : Heap} (hP : va_P D zz_cl (w0 ++ [x]) H) (hD : va_D A0 (w0 ++ [x])) (hk : ∀ q : Nat, q < H.size → ¬ va_A [x] H.size q → H1[q]? = H[q]?) (hF : ∀ q, va_A [x] H.size q → A0 q) (hP1 : va_P D zz_cl w1 H1) (hD1 : va_D (va_A [x] H.size) w1) : va_P D zz_cl (w0 ++ w1) H1 ∧ va_D A0 (w0 ++ w1) := by
  refine va_join hP hD [w0.length] (List.range w0.length) ?_ ?_ (nd_range _) ?_ hk hF hP1 hD1
  · simp
  · apply List.ext_getElem?
    intro i
    by_cases hi : i < w0.length
    · rw [List.getElem?_map, List.getElem?_range hi, List.getElem?_map, Option.map_some, List.getElem?_append_left hi, List.getElem?_eq_getElem hi]
      rfl
    · rw [List.getElem?_eq_none (by simpa using hi), List.getElem?_eq_none (by simpa using hi)]
  · intro i hi
    have := List.mem_range.mp hi
    simp
    omega
abbrev CnL (y : MethodName) (cc' : ByteArray) : Prop := Cond.code y cc' 1 none ∈ zz_G ∧ Cond.initialized y.cls ∈ zz_T ∧ Cond.instanceMethod y ∈ zz_T ∧ (y.cls ≠ "java/lang/invoke/MethodHandle" ∧ y.cls ≠ "java/lang/invoke/VarHandle" ∧ (parseMethodDescriptor y.desc).map (fun d => d.parameters.length) = some 0) ∧ y.name = "<init>"
theorem cn_good {y : MethodName} {cc' : ByteArray} (h : Cond.code y cc' 1 none ∈ zz_G) : GoodIn zz_T (.code y cc' 1 none :: zz_G) := by
  intro w hw
  rcases List.mem_cons.mp hw with rfl | q
  · exact ⟨zz_G_T h, zz_G_good _ h⟩
  · exact ⟨zz_G_T q, zz_G_good _ q⟩
theorem cn_pre {ci h0 : Nat} {fs : List Value} {w0 : va_W} {H : Heap} (hC : CC p R s mi args c cc nL own A D cI cY fr K N) (hP : va_P D zz_cl (w0 ++ [(h0, .inr (ci, fs))]) H) (hD : va_D A (w0 ++ [(h0, .inr (ci, fs))])) :
    PreS s H (va_Pc [.ref h0] (fun U => U.heap.size = H.size ∧ va_P D zz_cl [(h0, .inr (ci, fs))] U.heap ∧ va_K D zz_cl (zz_tys cI cY) U ∧ va_D (fun _ => True) [(h0, .inr (ci, fs))] ∧ zz_X U)) [.ref h0] := by
  have hx : (w0 ++ [(h0, (.inr (ci, fs) : va_E))])[w0.length]? = some (h0, .inr (ci, fs)) := by simp
  have hPc : va_P D zz_cl [(h0, .inr (ci, fs))] H := hP.sub [w0.length] (by simp)
  have hDc : va_D A [(h0, .inr (ci, fs))] := hD.sub [w0.length] rfl (by simp)
  refine ⟨fun a U g mk q => ?_, fun U hU hW => ⟨rfl, by rw [hU], by rw [hU]; exact hPc, va_K.moved hW.alike hC.2.1, hDc.weaken (fun _ _ _ _ => trivial), hC.2.2.2.1.warm hW⟩⟩
  obtain ⟨q0, q1, qP, qK, qD, qX⟩ := q
  exact ⟨q0, q1, qP, va_K.moved (u := U) (U := U.calling g mk a) (Vm.Alike.refl U.vm) qK, qD, zz_X.same (u := U) (U := U.calling g mk a) rfl qX⟩
theorem cn_free {h0 ci : Nat} {fs : List Value} {w0 : va_W} {H0 H : Heap} {locs : List Loc} (hD : va_D A (w0 ++ [(h0, .inr (ci, fs))])) (hV : va_S A H0 H locs) (hA : ∀ q, H0.size ≤ q → A q) : ∀ q, va_A [(h0, .inr (ci, fs))] H.size q → A q :=
  va_free (wc := [(h0, .inr (ci, fs))]) hD hV hA [w0.length] (by simp)
theorem wx_callN {y : MethodName} {cc' : ByteArray} {ci idx h0 fr' mc ms : Nat} {fs : List Value} {w0 : va_W} {host : String} {Pk : ClassId → ClassId → Nat → va_W → Prop} (hC : CC p R s mi args c cc nL own A D cI cY fr K N) (hCn : Cn y cc' ci fs fr' mc ms Pk) (hL : CnL y cc') (hN : zz_X s → va_Nw (.methodLinkNest own idx y host) s) (hls : ls.size = nL) (hS8 : (S.map fun v => v.category).sum ≤ 8) (hf : fr' + 1 ≤ fr) (hk : k + mc ≤ K) (hs : n + ms ≤ N) (hd : decode cc pc = .ok (.invokespecial idx, 3))
    (kk : ∀ w1, Pk cI cY h0 w1 → Wx p l e R s mi args below meth c A D Qs ls (pc + 3) S (w0 ++ w1) (k + mc) (n + ms)) : Wx p l e R s mi args below meth c A D Qs ls pc (.ref h0 :: S) (w0 ++ [(h0, .inr (ci, fs))]) k n := by
  intro H locs hP hD hV
  have hR1 := hC.2.2.2.2.1
  have hR2 := hC.2.2.2.2.2.1
  have hR3 := hC.2.2.2.2.2.2.1
  have hR4 := hC.2.2.2.2.2.2.2
  have hFc := cn_free hD hV hC.2.2.1
  refine va_callv (va_runIN (As := []) (rest := S) (Ts := zz_T) ⟨hC.1.1, hC.1.2.1, hC.1.2.2.1, hC.1.2.2.2.1, hC.1.2.2.2.2⟩ (hCn l D cI cY h0 H.size) ⟨va_cnB 0 hC.1.2.2.2.2 (cn_good hL.1) rfl rfl rfl (hN hC.2.2.2.1) (hC.1.2.2.2.2 _ hL.2.1) hL.2.2.2.1 ⟨by show fr' + 1 ≤ R.frames; omega, by show 8 + (1 + 11) + 24 * fr' ≤ R.locals; omega⟩, hL.2.2.2.2, hC.1.2.2.2.2 _ hL.2.2.1⟩ (cn_pre hC hP hD) rfl rfl hls rfl (lv_room hS8) hd ⟨by omega, by omega⟩) hV (fun q _ h => hFc q h) hFc (fun w1 t H1 locs1 ht hvm hw hB hz1 hk1 hV1 => ?_)
  obtain ⟨hP1, hD1⟩ := hB
  rw [ht] at hP1
  obtain ⟨hP2, hD2⟩ := wx_join hP hD hk1 hFc hP1 hD1
  exact kk w1 hw H1 locs1 hP2 hD2 hV1
theorem wx_callI {y : MethodName} {cc' : ByteArray} {ci idx h0 fr' mc ms : Nat} {fs : List Value} {w0 : va_W} {Pk : ClassId → ClassId → Nat → va_W → Prop} (hC : CC p R s mi args c cc nL own A D cI cY fr K N) (hCn : Cn y cc' ci fs fr' mc ms Pk) (hL : CnL y cc') (hN : Cond.methodLink own idx y ∈ zz_T) (hls : ls.size = nL) (hS8 : (S.map fun v => v.category).sum ≤ 8) (hf : fr' + 1 ≤ fr) (hk : k + mc ≤ K) (hs : n + ms ≤ N) (hd : decode cc pc = .ok (.invokespecial idx, 3))
    (kk : ∀ w1, Pk cI cY h0 w1 → Wx p l e R s mi args below meth c A D Qs ls (pc + 3) S (w0 ++ w1) (k + mc) (n + ms)) : Wx p l e R s mi args below meth c A D Qs ls pc (.ref h0 :: S) (w0 ++ [(h0, .inr (ci, fs))]) k n := by
  intro H locs hP hD hV
  have hR1 := hC.2.2.2.2.1
  have hR2 := hC.2.2.2.2.2.1
  have hR3 := hC.2.2.2.2.2.2.1
  have hR4 := hC.2.2.2.2.2.2.2
  have hFc := cn_free hD hV hC.2.2.1
  refine va_callv (va_runI (As := []) (rest := S) (Ts := zz_T) ⟨hC.1.1, hC.1.2.1, hC.1.2.2.1, hC.1.2.2.2.1, hC.1.2.2.2.2⟩ (hCn l D cI cY h0 H.size) (cwI 0 hC.1.2.2.2.2 (cn_good hL.1) rfl rfl rfl (hC.1.2.2.2.2 _ hL.2.1) (hC.1.2.2.2.2 _ hN) (hC.1.2.2.2.2 _ hL.2.2.1) hL.2.2.2.2 hL.2.2.2.1 ⟨by show fr' + 1 ≤ R.frames; omega, by show 8 + (1 + 11) + 24 * fr' ≤ R.locals; omega⟩) (cn_pre hC hP hD) rfl rfl hls rfl (lv_room hS8) hd ⟨by omega, by omega⟩) hV (fun q _ h => hFc q h) hFc (fun w1 t H1 locs1 ht hvm hw hB hz1 hk1 hV1 => ?_)
  obtain ⟨hP1, hD1⟩ := hB
  rw [ht] at hP1
  obtain ⟨hP2, hD2⟩ := wx_join hP hD hk1 hFc hP1 hD1
  exact kk w1 hw H1 locs1 hP2 hD2 hV1
end CTX
