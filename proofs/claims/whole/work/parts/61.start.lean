/-! THE CLAIM OUT OF ONE WALK OF THE LAW'S BODY. Your part is whole_start (and what it stands on); all else here is the same for every law, but numbers. -/
def R_law : String := "NobodyLookedYesterdayLaw"
def lw_P (b : Addr) (xs : List Int32) (args : Array Value) (s : State) : Prop := args = #[.ref b] ∧ s.IntsAt b xs ∧ xs.length ≤ 2048 ∧ (Jvm.Cond.and given_1 narrow_1).before args s = true
def lw_Q (_ : Array Value) (s : State) (o : Outcome) (t : State) : Prop := o = .returned (some (.int 1)) ∧ Framed s o t [] 600000 7302250
def lw_Z (below : List Frame) (a : Array Value) (s : State) : State → Prop := fun t => ∃ o, t.status = .running ∧ Ended t below o ∧ lw_Q a s o t
/-- the law's own end, with 1 on the stack, nothing written that was there before, its room as the claim has it -/
theorem lw_ret {p : Program} {l : Launch} {e : Env} {s : State} {m : MethodId} {below : List Frame} {meth : Method} {c : Code} {b : Nat} (hx : p.tables.exec = Jvm.exec) (hb : c.code = code) (hr : meth.sig.returnType = ret) (hlocks : meth.locks = false) {pc : Nat} {H : Heap} {ls : Array Slot} (hdg : decode code pc = .ok (.ireturn, 1)) : W p l e room_1 s m #[Value.ref b] below meth c H [] 600000 7302250 (lw_Z below #[Value.ref b] s) (F0 m pc ls [.int 1]) := by
  intro T hT X
  obtain ⟨fs, hret, hrun, hended, hW, hframe⟩ := X.leave (v := some (.int 1)) (hlocks := hlocks) (fun h => by rw [hr] at h; cases h)
  have hmeth' : T.vm.method? m = some meth := X.method'
  refine ⟨T.setFrames fs, ?_, .returned (some (.int 1)), hrun, hended, rfl, ⟨_, rfl⟩, hW, hframe⟩
  jvm_step X.here [X.here.top, hx, hb, hdg, hmeth', hr, ret, narrow_b1]
  (try refine ⟨rfl, ?_⟩); (try refine ⟨rfl, ?_⟩)
  first | (intro acts; rw [hret _ acts rfl rfl rfl]) | rw [hret _ _ rfl rfl rfl]
  exact Steps.refl _
/-- what holds at the law's entry: the machine, the code, the tables' words (any of lw_tbl by 'hts w (by decide +kernel)'), the script of L ints xs at the cell b, what the Statement gives of the start (any of its parts by flat_of_before) -/
def lw_At (p : Program) (s : State) (m : MethodId) (meth : Method) (c : Code) (b L : Nat) (xs : Nat → Int32) : Prop :=
  p.tables.exec = Jvm.exec ∧ c.code = code ∧ meth.sig.returnType = ret ∧ c.maxLocals = 4 ∧ s.vm.findClass R_law = some m.cls ∧ (∀ w ∈ lw_tbl, w.before #[Value.ref b] s = true) ∧ va_X b L xs s s.heap ∧ b < s.heap.size ∧ meth.locks = false ∧ (Jvm.Cond.and given_1 narrow_1).before #[Value.ref b] s = true
theorem mt_57 : Cond.classLink zz_RL 7 RX3 ∈ zz_T := zz_T_mem (List.mem_of_getElem? (i := 57) (by decide +kernel)) (by decide +kernel)
theorem mt_58 : Cond.instantiable RX3 10 ∈ zz_T := zz_T_mem (List.mem_of_getElem? (i := 58) (by decide +kernel)) (by decide +kernel)
theorem mt_49 : Cond.initialized RX3 ∈ zz_T := zz_T_mem (List.mem_of_getElem? (i := 49) (by decide +kernel)) (by decide +kernel)
theorem mt_59 : Cond.methodLink zz_RL 9 yX3_init ∈ zz_T := zz_T_mem (List.mem_of_getElem? (i := 59) (by decide +kernel)) (by decide +kernel)
theorem mt_531 : Cond.classLink zz_RL 10 RX4 ∈ zz_T := zz_T_mem (List.mem_of_getElem? (i := 531) (by decide +kernel)) (by decide +kernel)
theorem mt_532 : Cond.instantiable RX4 40 ∈ zz_T := zz_T_mem (List.mem_of_getElem? (i := 532) (by decide +kernel)) (by decide +kernel)
theorem mt_53 : Cond.initialized RX4 ∈ zz_T := zz_T_mem (List.mem_of_getElem? (i := 53) (by decide +kernel)) (by decide +kernel)
theorem mt_533 : Cond.methodLink zz_RL 12 yX4_init ∈ zz_T := zz_T_mem (List.mem_of_getElem? (i := 533) (by decide +kernel)) (by decide +kernel)
theorem law_K {s : State} {b : Nat} (hts : ∀ w ∈ lw_tbl, w.before #[Value.ref b] s = true) : ∃ (D : va_G) (cI cY : ClassId), va_K D zz_cl (zz_tys cI cY) s := by
  have hT : ∀ w ∈ zz_T, w.before #[Value.ref b] s = true := fun w hw => hts w (zz_T_tbl hw)
  have kn : ∀ (ci N : Nat) (C : String) (T : u_T), zz_cl[ci]? = some (C, T, N) → Cond.instantiable C N ∈ zz_T → ∃ (cC : ClassId) (iS : Nat → Nat), u_Kn s C T N cC iS :=
    fun ci N C T hq hin => u_known (ws := zz_T) hT (zz_cls hq).2.1 (hT _ hin)
  obtain ⟨c0, i0, h0⟩ := kn 0 _ _ _ rfl mt_160
  obtain ⟨c1, i1, h1⟩ := kn 1 _ _ _ rfl mt_131
  obtain ⟨c2, i2, h2⟩ := kn 2 _ _ _ rfl mt_66
  obtain ⟨c3, i3, h3⟩ := kn 3 _ _ _ rfl mt_58
  obtain ⟨c4, i4, h4⟩ := kn 4 _ _ _ rfl mt_532
  obtain ⟨cI, kI, compI, f1, f2, f3⟩ := Cond.arrayClass_spec (hT _ mem_arrInt)
  obtain ⟨comp, cY, kY, g1, -, g3, g4, g5⟩ := Cond.arrayOver_spec (hts (.arrayOver (.object RX2)) (List.mem_of_getElem? (i := 137) (by decide +kernel)))
  refine ⟨(fun k => ([c0, c1, c2, c3, c4] : List ClassId).getD k c0, fun k => ([i0, i1, i2, i3, i4] : List (Nat → Nat)).getD k i0), cI, cY, fun c q hq => ?_, fun k q hq => ?_⟩
  · match c, hq with
    | 0, hq => cases hq; exact h0
    | 1, hq => cases hq; exact h1
    | 2, hq => cases hq; exact h2
    | 3, hq => cases hq; exact h3
    | 4, hq => cases hq; exact h4
    | k + 5, hq => simp [zz_cl] at hq
  · match k, hq with
    | 0, hq => cases hq; exact ⟨fun n z => ⟨fun k h => (by cases h), kI, f2, compI, f3⟩, f1⟩
    | 1, hq => cases hq; exact ⟨fun n z => ⟨fun k h => (by cases h), kY, g3, comp, g4⟩, kY, comp, g3, g4, g1, g5⟩
    | k + 2, hq => simp [zz_tys] at hq
theorem law_T {s : State} {b : Nat} {A : Nat → Prop} (hts : ∀ w ∈ lw_tbl, w.before #[Value.ref b] s = true) (hgv : (Jvm.Cond.and given_1 narrow_1).before #[Value.ref b] s = true) (hA : ∀ a : Nat, a < s.heap.size → ¬ A a) :
    ∃ t7 t8 : Nat, va_T .int t7 4 (fun j => .int (Int32.ofInt (([0, 0, 0, 1] : List Int).getD j 0))) A s s.heap ∧ va_T .int t8 4 (fun j => .int (Int32.ofInt (([5, 9, 40, 9] : List Int).getD j 0))) A s s.heap ∧
      va_Z "NobodyLookedYesterday" "LEAST" "[I" (.ref t7) A s s.heap ∧ va_Z "NobodyLookedYesterday" "GREATEST" "[I" (.ref t8) A s s.heap := by
  have hs := flat_of_before _ hgv
  have hini : (Cond.initialized "NobodyLookedYesterday").before #[Value.ref b] s = true := hts _ (List.mem_of_getElem? (i := 49) (by decide +kernel))
  have hl7 : (Cond.laysStatic "NobodyLookedYesterday" "LEAST" "[I").before #[Value.ref b] s = true := hts _ (List.mem_of_getElem? (i := 267) (by decide +kernel))
  have hl8 : (Cond.laysStatic "NobodyLookedYesterday" "GREATEST" "[I").before #[Value.ref b] s = true := hts _ (List.mem_of_getElem? (i := 269) (by decide +kernel))
  have l7 : (Cond.eq (Term.length (Term.static "NobodyLookedYesterday" "LEAST" "[I")) (.int 4)).before #[Value.ref b] s = true := hs _ (by decide +kernel)
  have r7 : (Cond.arrayOf (Term.static "NobodyLookedYesterday" "LEAST" "[I") .int).before #[Value.ref b] s = true := hs _ (by decide +kernel)
  have e70 : (Cond.eq (Term.elem (Term.static "NobodyLookedYesterday" "LEAST" "[I") (.int 0)) (.int 0)).before #[Value.ref b] s = true := hs _ (by decide +kernel)
  have e71 : (Cond.eq (Term.elem (Term.static "NobodyLookedYesterday" "LEAST" "[I") (.int 1)) (.int 0)).before #[Value.ref b] s = true := hs _ (by decide +kernel)
  have e72 : (Cond.eq (Term.elem (Term.static "NobodyLookedYesterday" "LEAST" "[I") (.int 2)) (.int 0)).before #[Value.ref b] s = true := hs _ (by decide +kernel)
  have e73 : (Cond.eq (Term.elem (Term.static "NobodyLookedYesterday" "LEAST" "[I") (.int 3)) (.int 1)).before #[Value.ref b] s = true := hs _ (by decide +kernel)
  obtain ⟨t7, ht7, hT7⟩ := va_Tof (tm := (Term.static "NobodyLookedYesterday" "LEAST" "[I")) (ty := .int) (N := 4) (f := fun j => .int (Int32.ofInt (([0, 0, 0, 1] : List Int).getD j 0))) (A := A) (by decide) r7 (va_eqt l7) (fun j hj => by
    match j, hj with
    | 0, _ => exact va_eqt e70
    | 1, _ => exact va_eqt e71
    | 2, _ => exact va_eqt e72
    | 3, _ => exact va_eqt e73) hA
  have l8 : (Cond.eq (Term.length (Term.static "NobodyLookedYesterday" "GREATEST" "[I")) (.int 4)).before #[Value.ref b] s = true := hs _ (by decide +kernel)
  have r8 : (Cond.arrayOf (Term.static "NobodyLookedYesterday" "GREATEST" "[I") .int).before #[Value.ref b] s = true := hs _ (by decide +kernel)
  have e80 : (Cond.eq (Term.elem (Term.static "NobodyLookedYesterday" "GREATEST" "[I") (.int 0)) (.int 5)).before #[Value.ref b] s = true := hs _ (by decide +kernel)
  have e81 : (Cond.eq (Term.elem (Term.static "NobodyLookedYesterday" "GREATEST" "[I") (.int 1)) (.int 9)).before #[Value.ref b] s = true := hs _ (by decide +kernel)
  have e82 : (Cond.eq (Term.elem (Term.static "NobodyLookedYesterday" "GREATEST" "[I") (.int 2)) (.int 40)).before #[Value.ref b] s = true := hs _ (by decide +kernel)
  have e83 : (Cond.eq (Term.elem (Term.static "NobodyLookedYesterday" "GREATEST" "[I") (.int 3)) (.int 9)).before #[Value.ref b] s = true := hs _ (by decide +kernel)
  obtain ⟨t8, ht8, hT8⟩ := va_Tof (tm := (Term.static "NobodyLookedYesterday" "GREATEST" "[I")) (ty := .int) (N := 4) (f := fun j => .int (Int32.ofInt (([5, 9, 40, 9] : List Int).getD j 0))) (A := A) (by decide) r8 (va_eqt l8) (fun j hj => by
    match j, hj with
    | 0, _ => exact va_eqt e80
    | 1, _ => exact va_eqt e81
    | 2, _ => exact va_eqt e82
    | 3, _ => exact va_eqt e83) hA
  exact ⟨t7, t8, hT7, hT8, va_Zof hl7 hini ht7 hA, va_Zof hl8 hini ht8 hA⟩
set_option maxHeartbeats 4000000 in
theorem whole_start {p : Program} {e : Env} {s : State} {m : MethodId} {below : List Frame} {meth : Method} {c : Code} (l : Launch) (hflags : l.flags = flags0) {b L : Nat} {xs : Nat → Int32} (hL : L ≤ 2048) (C0 : lw_At p s m meth c b L xs) : W p l e room_1 s m #[Value.ref b] below meth c s.heap [] 0 0 (lw_Z below #[Value.ref b] s) (entryFrame m ([Value.ref b] : List Value).toArray 4) := by
  obtain ⟨hx, hb, hr, hml, hown, hts, hX, hbl, hlocks, hgv⟩ := id C0
  have hT : ∀ w ∈ zz_T, w.before #[Value.ref b] s = true := fun w hw => hts w (zz_T_tbl hw)
  obtain ⟨D, cI, cY, hK⟩ := law_K hts
  obtain ⟨A, hAe⟩ : ∃ A : Nat → Prop, A = fun q => s.heap.size ≤ q := ⟨_, rfl⟩
  have hAin : ∀ q, s.heap.size ≤ q → A q := by rw [hAe]; exact fun _ h => h
  have hAout : ∀ a : Nat, a < s.heap.size → ¬ A a := by rw [hAe]; exact fun a h1 h2 => absurd h1 (Nat.not_lt.mpr h2)
  have hAbase : ∀ q, A q → s.heap.size ≤ q := by rw [hAe]; exact fun _ h => h
  obtain ⟨t7, t8, hT7, hT8, hZ7, hZ8⟩ := law_T hts hgv hAout
  have hC : CC p room_1 s m #[Value.ref b] c cL_law 4 zz_RL A D cI cY 10 600000 7302250 := ⟨⟨hx, hb, hml, hown, hT⟩, hK, hAin, zz_X.of hts, Nat.le_of_ble_eq_true rfl, Nat.le_of_ble_eq_true rfl, Nat.le_refl _, Nat.le_refl _⟩
  have hl := lv_entry ([.ref b]) (n := 4) (Nat.le_of_ble_eq_true rfl)
  rw [lg_entry_eq]
  generalize (lg_sl ([.ref b]) ++ List.replicate (4 - (lg_sl ([.ref b])).length) Slot.unset).toArray = ls at hl ⊢
  have hl : lv_has ls 4 [(0, .ref b)] := hl
  have hP0 : va_P D zz_cl [] s.heap := fun k q h => by simp at h
  have hD0 : va_D A [] := ⟨fun i j p q h => by simp at h, fun k q h => by simp at h⟩
  suffices h : Wx p l e room_1 s m #[Value.ref b] below meth c A D (lw_Z below #[Value.ref b] s) ls 0 [] [] 0 0 from h s.heap [] hP0 hD0 va_S.rf
  refine wx_new (ci := 3) (T := TX3) (M := 10) (ty := tyX3) (fs := [.null, .null, .null, .null, .null, .null, .null, .null, .int z0, .int z0]) hC rfl tyX3_ok bk_X3 ⟨mt_57, mt_58, mt_49⟩ dL_law_0 (Nat.le_of_ble_eq_true rfl) (Nat.le_of_ble_eq_true rfl) (fun h1 => ?_)
  refine wx_dup hC rfl dL_law_3 ?_
  refine wx_callI hC c_X3 cnl_X3 mt_59 hl.1 (Nat.le_of_ble_eq_true rfl) (by decide) (Nat.le_of_ble_eq_true rfl) (Nat.le_of_ble_eq_true rfl) dL_law_4 (fun w1 hw1 => ?_)
  intro H locs hP hD hV
  refine lv_astore_n (lv' := [(1, .ref h1), (0, .ref b)]) hx hb dL_law_7 rfl hl (by decide) rfl (fun ls hl => ?_)
  suffices h : Wx p l e room_1 s m #[Value.ref b] below meth c A D (lw_Z below #[Value.ref b] s) ls 8 [] w1 59 940 from h H locs hP hD hV
  refine wx_new (ci := 4) (T := TX4) (M := 40) (ty := tyX4) (fs := [.int z0, .int z0, .int z0, .int z0, .int z0, .int z0, .int z0, .int z0, .int z0, .int z0, .null, .null, .null, .null, .null, .int z0, .null, .int z0, .null, .int z0, .null, .null, .null, .null, .int z0, .int z0, .int z0, .null, .null, .int z0, .int z0, .int z0, .int z0, .null, .null, .null, .null, .int z0, .null, .int z0]) hC rfl tyX4_ok bk_X4 ⟨mt_531, mt_532, mt_53⟩ dL_law_8 (Nat.le_of_ble_eq_true rfl) (Nat.le_of_ble_eq_true rfl) (fun h2 => ?_)
  refine wx_dup hC rfl dL_law_11 ?_
  refine wx_callI hC c_X4 cnl_X4 mt_533 hl.1 (Nat.le_of_ble_eq_true rfl) (by decide) (Nat.le_of_ble_eq_true rfl) (Nat.le_of_ble_eq_true rfl) dL_law_12 (fun w2 hw2 => ?_)
  intro H locs hP hD hV
  refine lv_astore_n (lv' := [(2, .ref h2), (1, .ref h1), (0, .ref b)]) hx hb dL_law_15 rfl hl (by decide) rfl (fun ls hl => ?_)
  refine lv_iconst (v := Int32.ofInt 0) hx hb dL_law_16 rfl ?_
  refine lv_istore_n (lv' := [(3, .int (Int32.ofInt 0)), (2, .ref h2), (1, .ref h1), (0, .ref b)]) hx hb dL_law_17 rfl hl (by decide) rfl (fun ls hl => ?_)
  obtain ⟨ad, e55, e59, e77, e78, e79, rfl, rfl⟩ := n77_ex hw1 hw2 t7 t8 b
  have had : adok A ad := w77_adok hD
  have hPw := w77_P hP
  refine W.widen (k := 600000) (n := 7302250) (Nat.le_of_ble_eq_true rfl) (Nat.le_of_ble_eq_true rfl) ?_
  have hE : zz_E.ok (L, fun j => (xs j).toInt) := ⟨hL, fun j => i32_in _⟩
  have hex := law_loop (E := (L, fun j => (xs j).toInt)) hE 513 0 s00 m00 cp00 mps00 is00 (by decide) (by decide) (by decide)
  refine hex p l e room_1 s m #[Value.ref b] below meth c A D cI cY ad 600000 7302250 (lw_Z below #[Value.ref b] s) ⟨⟨hx, hb, hml, hown, hT⟩, hK, ⟨fun k k1 k2 => ?_, ?_, ?_⟩, hE, had, Nat.le_of_ble_eq_true rfl, Nat.le_of_ble_eq_true rfl, Nat.le_refl _, Nat.le_refl _⟩ ?_ H locs ls ?_ (fun v hv => by cases hv) ok00 hPw hV ?_
  · rcases (show k = 77 ∨ k = 78 ∨ k = 79 by omega) with rfl | rfl | rfl
    · rw [e77]; exact hT7
    · rw [e78]; exact hT8
    · rw [e79]
      obtain ⟨scr, g1, g2, g3, g4, g5⟩ := hX
      refine ⟨scr, g1, g2, g3, Nat.le_of_eq g4.symm, by rw [g4]; rfl, fun j hj => ?_, hAout b hbl⟩
      rw [g5 j hj]
      show some (Value.int (xs j)) = some (.int (Int32.ofInt (xs j).toInt))
      rw [i32_back]
  · rw [e77]; exact hZ7
  · rw [e78]; exact hZ8
  · intro r pc' S' ls' m' H' locs' hrt hq hS' hm' hP' hV'
    subst hq
    obtain ⟨rfl, hdec⟩ := hrt
    refine va_forget (fun q hq => hAbase _ (hV'.2.2 q hq)) ?_
    have e1 : Int32.ofInt 1 = 1 := by decide
    show W p l e room_1 s m #[Value.ref b] below meth c H' [] 600000 7302250 (lw_Z below #[Value.ref b] s) (F0 m pc' ls' [.int (Int32.ofInt 1)])
    rw [e1]
    exact lw_ret hx hb hr hlocks hdec
  · intro v hv
    simp only [List.mem_cons, Option.some.injEq, List.not_mem_nil, or_false] at hv
    rcases hv with rfl | rfl | rfl | rfl
    · trivial
    · trivial
    · trivial
    · exact ⟨by decide, by decide⟩
  · show lv_has ls 4 [(0, .ref (ad 79)), (1, .ref (ad 55)), (2, .ref (ad 59)), (3, .int (Int32.ofInt 0))]
    rw [e79, e55, e59]
    exact lv_sub hl [3, 2, 1, 0] rfl
