def yw (cI : ClassId) (h0 : Nat) (q : Nat → Nat) : va_W := (h0, .inr (2, [.ref (q 0), .ref (q 1), .ref (q 2), .ref (q 3), .ref (q 4), .ref (q 5), .ref (q 6), .int z0, .int (Int32.ofInt (-9)), .int z0, .int z0, .int z0, .int z0])) :: [((q 0), .inl (cI, (6, .inl fun _ => z0))), ((q 1), .inl (cI, (6, .inl fun _ => z0))), ((q 2), .inl (cI, (6, .inl fun _ => z0))), ((q 3), .inl (cI, (6, .inl fun _ => z0))), ((q 4), .inl (cI, (60, .inl fun _ => z0))), ((q 5), .inl (cI, (4, .inl figs))), ((q 6), .inl (cI, (6, .inl fun _ => z0)))]
def Yk (cI _cY : ClassId) (h0 : Nat) (w : va_W) : Prop := ∃ q : Nat → Nat, w = yw cI h0 q
theorem c_X2 : Cn yX2_init cX2_init 2 [.null, .null, .null, .null, .null, .null, .null, .int z0, .int z0, .int z0, .int z0, .int z0, .int z0] 1 7 94 Yk := by
  refine Cn.of (pcR := 83) (by decide +kernel) rfl dX2_init_83 ?_
  intro p l e R s mi args below meth c A D cI cY h0 ls Qs hC hin hl0 hls hret
  have hC : CC p R s mi args c cX2_init 1 RX2 A D cI cY 1 7 94 := hC
  refine wx_aload hC hl0 dX2_init_0 ?_
  refine wx_obj hC (by decide) hls mt_70 dX2_init_1 ?_
  refine wx_aload hC hl0 dX2_init_4 ?_
  refine wx_bipush hC dX2_init_5 (by decide +kernel) ?_
  refine wx_newI (M := 6) hC dX2_init_7 (by decide +kernel) (by decide +kernel) (by decide) (by decide) (by decide) (fun a1 => ?_)
  show Wx p l e R s mi args below meth c A D Qs ls 9 [.ref a1, .ref h0] ((h0, .inr (2, [.null, .null, .null, .null, .null, .null, .null, .int z0, .int z0, .int z0, .int z0, .int z0, .int z0])) :: [(a1, .inl (cI, (6, .inl fun _ => z0)))]) 1 6
  refine wx_put (ci := 2) (j := 0) (M := 13) (T := TX2) (ty := tyX2 0) hC hin rfl (by decide) mt_71 (tyX2_ok 0 (by decide)) rfl rfl (Nat.le_of_ble_eq_true rfl) dX2_init_9 ?_
  show Wx p l e R s mi args below meth c A D Qs ls 12 [] ((h0, .inr (2, [.ref a1, .null, .null, .null, .null, .null, .null, .int z0, .int z0, .int z0, .int z0, .int z0, .int z0])) :: [(a1, .inl (cI, (6, .inl fun _ => z0)))]) 1 6
  refine wx_aload hC hl0 dX2_init_12 ?_
  refine wx_bipush hC dX2_init_13 (by decide +kernel) ?_
  refine wx_newI (M := 6) hC dX2_init_15 (by decide +kernel) (by decide +kernel) (by decide) (by decide) (by decide) (fun a2 => ?_)
  show Wx p l e R s mi args below meth c A D Qs ls 17 [.ref a2, .ref h0] ((h0, .inr (2, [.ref a1, .null, .null, .null, .null, .null, .null, .int z0, .int z0, .int z0, .int z0, .int z0, .int z0])) :: [(a1, .inl (cI, (6, .inl fun _ => z0))), (a2, .inl (cI, (6, .inl fun _ => z0)))]) 2 12
  refine wx_put (ci := 2) (j := 1) (M := 13) (T := TX2) (ty := tyX2 1) hC hin rfl (by decide) mt_73 (tyX2_ok 1 (by decide)) rfl rfl (Nat.le_of_ble_eq_true rfl) dX2_init_17 ?_
  show Wx p l e R s mi args below meth c A D Qs ls 20 [] ((h0, .inr (2, [.ref a1, .ref a2, .null, .null, .null, .null, .null, .int z0, .int z0, .int z0, .int z0, .int z0, .int z0])) :: [(a1, .inl (cI, (6, .inl fun _ => z0))), (a2, .inl (cI, (6, .inl fun _ => z0)))]) 2 12
  refine wx_aload hC hl0 dX2_init_20 ?_
  refine wx_bipush hC dX2_init_21 (by decide +kernel) ?_
  refine wx_newI (M := 6) hC dX2_init_23 (by decide +kernel) (by decide +kernel) (by decide) (by decide) (by decide) (fun a3 => ?_)
  show Wx p l e R s mi args below meth c A D Qs ls 25 [.ref a3, .ref h0] ((h0, .inr (2, [.ref a1, .ref a2, .null, .null, .null, .null, .null, .int z0, .int z0, .int z0, .int z0, .int z0, .int z0])) :: [(a1, .inl (cI, (6, .inl fun _ => z0))), (a2, .inl (cI, (6, .inl fun _ => z0))), (a3, .inl (cI, (6, .inl fun _ => z0)))]) 3 18
  refine wx_put (ci := 2) (j := 2) (M := 13) (T := TX2) (ty := tyX2 2) hC hin rfl (by decide) mt_75 (tyX2_ok 2 (by decide)) rfl rfl (Nat.le_of_ble_eq_true rfl) dX2_init_25 ?_
  show Wx p l e R s mi args below meth c A D Qs ls 28 [] ((h0, .inr (2, [.ref a1, .ref a2, .ref a3, .null, .null, .null, .null, .int z0, .int z0, .int z0, .int z0, .int z0, .int z0])) :: [(a1, .inl (cI, (6, .inl fun _ => z0))), (a2, .inl (cI, (6, .inl fun _ => z0))), (a3, .inl (cI, (6, .inl fun _ => z0)))]) 3 18
  refine wx_aload hC hl0 dX2_init_28 ?_
  refine wx_bipush hC dX2_init_29 (by decide +kernel) ?_
  refine wx_newI (M := 6) hC dX2_init_31 (by decide +kernel) (by decide +kernel) (by decide) (by decide) (by decide) (fun a4 => ?_)
  show Wx p l e R s mi args below meth c A D Qs ls 33 [.ref a4, .ref h0] ((h0, .inr (2, [.ref a1, .ref a2, .ref a3, .null, .null, .null, .null, .int z0, .int z0, .int z0, .int z0, .int z0, .int z0])) :: [(a1, .inl (cI, (6, .inl fun _ => z0))), (a2, .inl (cI, (6, .inl fun _ => z0))), (a3, .inl (cI, (6, .inl fun _ => z0))), (a4, .inl (cI, (6, .inl fun _ => z0)))]) 4 24
  refine wx_put (ci := 2) (j := 3) (M := 13) (T := TX2) (ty := tyX2 3) hC hin rfl (by decide) mt_77 (tyX2_ok 3 (by decide)) rfl rfl (Nat.le_of_ble_eq_true rfl) dX2_init_33 ?_
  show Wx p l e R s mi args below meth c A D Qs ls 36 [] ((h0, .inr (2, [.ref a1, .ref a2, .ref a3, .ref a4, .null, .null, .null, .int z0, .int z0, .int z0, .int z0, .int z0, .int z0])) :: [(a1, .inl (cI, (6, .inl fun _ => z0))), (a2, .inl (cI, (6, .inl fun _ => z0))), (a3, .inl (cI, (6, .inl fun _ => z0))), (a4, .inl (cI, (6, .inl fun _ => z0)))]) 4 24
  refine wx_aload hC hl0 dX2_init_36 ?_
  refine wx_bipush hC dX2_init_37 (by decide +kernel) ?_
  refine wx_newI (M := 60) hC dX2_init_39 (by decide +kernel) (by decide +kernel) (by decide) (by decide) (by decide) (fun a5 => ?_)
  show Wx p l e R s mi args below meth c A D Qs ls 41 [.ref a5, .ref h0] ((h0, .inr (2, [.ref a1, .ref a2, .ref a3, .ref a4, .null, .null, .null, .int z0, .int z0, .int z0, .int z0, .int z0, .int z0])) :: [(a1, .inl (cI, (6, .inl fun _ => z0))), (a2, .inl (cI, (6, .inl fun _ => z0))), (a3, .inl (cI, (6, .inl fun _ => z0))), (a4, .inl (cI, (6, .inl fun _ => z0))), (a5, .inl (cI, (60, .inl fun _ => z0)))]) 5 84
  refine wx_put (ci := 2) (j := 4) (M := 13) (T := TX2) (ty := tyX2 4) hC hin rfl (by decide) mt_79 (tyX2_ok 4 (by decide)) rfl rfl (Nat.le_of_ble_eq_true rfl) dX2_init_41 ?_
  show Wx p l e R s mi args below meth c A D Qs ls 44 [] ((h0, .inr (2, [.ref a1, .ref a2, .ref a3, .ref a4, .ref a5, .null, .null, .int z0, .int z0, .int z0, .int z0, .int z0, .int z0])) :: [(a1, .inl (cI, (6, .inl fun _ => z0))), (a2, .inl (cI, (6, .inl fun _ => z0))), (a3, .inl (cI, (6, .inl fun _ => z0))), (a4, .inl (cI, (6, .inl fun _ => z0))), (a5, .inl (cI, (60, .inl fun _ => z0)))]) 5 84
  refine wx_aload hC hl0 dX2_init_44 ?_
  refine wx_iconst hC dX2_init_45 ?_
  refine wx_newI (M := 4) hC dX2_init_46 (by decide +kernel) (by decide +kernel) (by decide) (by decide) (by decide) (fun a6 => ?_)
  show Wx p l e R s mi args below meth c A D Qs ls 48 [.ref a6, .ref h0] ((h0, .inr (2, [.ref a1, .ref a2, .ref a3, .ref a4, .ref a5, .null, .null, .int z0, .int z0, .int z0, .int z0, .int z0, .int z0])) :: [(a1, .inl (cI, (6, .inl fun _ => z0))), (a2, .inl (cI, (6, .inl fun _ => z0))), (a3, .inl (cI, (6, .inl fun _ => z0))), (a4, .inl (cI, (6, .inl fun _ => z0))), (a5, .inl (cI, (60, .inl fun _ => z0))), (a6, .inl (cI, (4, .inl fun _ => z0)))]) 6 88
  refine wx_dup hC rfl dX2_init_48 ?_
  refine wx_iconst hC dX2_init_49 ?_
  refine wx_iconst hC dX2_init_50 ?_
  refine wx_iast hC 6 rfl (by unfold vp_in; decide +kernel) dX2_init_51 ?_
  show Wx p l e R s mi args below meth c A D Qs ls 52 [.ref a6, .ref h0] ((h0, .inr (2, [.ref a1, .ref a2, .ref a3, .ref a4, .ref a5, .null, .null, .int z0, .int z0, .int z0, .int z0, .int z0, .int z0])) :: [(a1, .inl (cI, (6, .inl fun _ => z0))), (a2, .inl (cI, (6, .inl fun _ => z0))), (a3, .inl (cI, (6, .inl fun _ => z0))), (a4, .inl (cI, (6, .inl fun _ => z0))), (a5, .inl (cI, (60, .inl fun _ => z0))), (a6, .inl (cI, (4, .inl (upd (fun _ => z0) (Int32.ofInt 0).toNatClampNeg (Int32.ofInt 0)))))]) 6 88
  refine wx_dup hC rfl dX2_init_52 ?_
  refine wx_iconst hC dX2_init_53 ?_
  refine wx_iconst hC dX2_init_54 ?_
  refine wx_iast hC 6 rfl (by unfold vp_in; decide +kernel) dX2_init_55 ?_
  show Wx p l e R s mi args below meth c A D Qs ls 56 [.ref a6, .ref h0] ((h0, .inr (2, [.ref a1, .ref a2, .ref a3, .ref a4, .ref a5, .null, .null, .int z0, .int z0, .int z0, .int z0, .int z0, .int z0])) :: [(a1, .inl (cI, (6, .inl fun _ => z0))), (a2, .inl (cI, (6, .inl fun _ => z0))), (a3, .inl (cI, (6, .inl fun _ => z0))), (a4, .inl (cI, (6, .inl fun _ => z0))), (a5, .inl (cI, (60, .inl fun _ => z0))), (a6, .inl (cI, (4, .inl (upd (upd (fun _ => z0) (Int32.ofInt 0).toNatClampNeg (Int32.ofInt 0)) (Int32.ofInt 1).toNatClampNeg (Int32.ofInt 0)))))]) 6 88
  refine wx_dup hC rfl dX2_init_56 ?_
  refine wx_iconst hC dX2_init_57 ?_
  refine wx_bipush hC dX2_init_58 (by decide +kernel) ?_
  refine wx_iast hC 6 rfl (by unfold vp_in; decide +kernel) dX2_init_60 ?_
  show Wx p l e R s mi args below meth c A D Qs ls 61 [.ref a6, .ref h0] ((h0, .inr (2, [.ref a1, .ref a2, .ref a3, .ref a4, .ref a5, .null, .null, .int z0, .int z0, .int z0, .int z0, .int z0, .int z0])) :: [(a1, .inl (cI, (6, .inl fun _ => z0))), (a2, .inl (cI, (6, .inl fun _ => z0))), (a3, .inl (cI, (6, .inl fun _ => z0))), (a4, .inl (cI, (6, .inl fun _ => z0))), (a5, .inl (cI, (60, .inl fun _ => z0))), (a6, .inl (cI, (4, .inl (upd (upd (upd (fun _ => z0) (Int32.ofInt 0).toNatClampNeg (Int32.ofInt 0)) (Int32.ofInt 1).toNatClampNeg (Int32.ofInt 0)) (Int32.ofInt 2).toNatClampNeg (Int32.ofInt 10)))))]) 6 88
  refine wx_dup hC rfl dX2_init_61 ?_
  refine wx_iconst hC dX2_init_62 ?_
  refine wx_bipush hC dX2_init_63 (by decide +kernel) ?_
  refine wx_iast hC 6 rfl (by unfold vp_in; decide +kernel) dX2_init_65 ?_
  show Wx p l e R s mi args below meth c A D Qs ls 66 [.ref a6, .ref h0] ((h0, .inr (2, [.ref a1, .ref a2, .ref a3, .ref a4, .ref a5, .null, .null, .int z0, .int z0, .int z0, .int z0, .int z0, .int z0])) :: [(a1, .inl (cI, (6, .inl fun _ => z0))), (a2, .inl (cI, (6, .inl fun _ => z0))), (a3, .inl (cI, (6, .inl fun _ => z0))), (a4, .inl (cI, (6, .inl fun _ => z0))), (a5, .inl (cI, (60, .inl fun _ => z0))), (a6, .inl (cI, (4, .inl (upd (upd (upd (upd (fun _ => z0) (Int32.ofInt 0).toNatClampNeg (Int32.ofInt 0)) (Int32.ofInt 1).toNatClampNeg (Int32.ofInt 0)) (Int32.ofInt 2).toNatClampNeg (Int32.ofInt 10)) (Int32.ofInt 3).toNatClampNeg (Int32.ofInt 9)))))]) 6 88
  rw [figs_eq]
  refine wx_put (ci := 2) (j := 5) (M := 13) (T := TX2) (ty := tyX2 5) hC hin rfl (by decide) mt_81 (tyX2_ok 5 (by decide)) rfl rfl (Nat.le_of_ble_eq_true rfl) dX2_init_66 ?_
  show Wx p l e R s mi args below meth c A D Qs ls 69 [] ((h0, .inr (2, [.ref a1, .ref a2, .ref a3, .ref a4, .ref a5, .ref a6, .null, .int z0, .int z0, .int z0, .int z0, .int z0, .int z0])) :: [(a1, .inl (cI, (6, .inl fun _ => z0))), (a2, .inl (cI, (6, .inl fun _ => z0))), (a3, .inl (cI, (6, .inl fun _ => z0))), (a4, .inl (cI, (6, .inl fun _ => z0))), (a5, .inl (cI, (60, .inl fun _ => z0))), (a6, .inl (cI, (4, .inl figs)))]) 6 88
  refine wx_aload hC hl0 dX2_init_69 ?_
  refine wx_bipush hC dX2_init_70 (by decide +kernel) ?_
  refine wx_newI (M := 6) hC dX2_init_72 (by decide +kernel) (by decide +kernel) (by decide) (by decide) (by decide) (fun a7 => ?_)
  show Wx p l e R s mi args below meth c A D Qs ls 74 [.ref a7, .ref h0] ((h0, .inr (2, [.ref a1, .ref a2, .ref a3, .ref a4, .ref a5, .ref a6, .null, .int z0, .int z0, .int z0, .int z0, .int z0, .int z0])) :: [(a1, .inl (cI, (6, .inl fun _ => z0))), (a2, .inl (cI, (6, .inl fun _ => z0))), (a3, .inl (cI, (6, .inl fun _ => z0))), (a4, .inl (cI, (6, .inl fun _ => z0))), (a5, .inl (cI, (60, .inl fun _ => z0))), (a6, .inl (cI, (4, .inl figs))), (a7, .inl (cI, (6, .inl fun _ => z0)))]) 7 94
  refine wx_put (ci := 2) (j := 6) (M := 13) (T := TX2) (ty := tyX2 6) hC hin rfl (by decide) mt_84 (tyX2_ok 6 (by decide)) rfl rfl (Nat.le_of_ble_eq_true rfl) dX2_init_74 ?_
  show Wx p l e R s mi args below meth c A D Qs ls 77 [] ((h0, .inr (2, [.ref a1, .ref a2, .ref a3, .ref a4, .ref a5, .ref a6, .ref a7, .int z0, .int z0, .int z0, .int z0, .int z0, .int z0])) :: [(a1, .inl (cI, (6, .inl fun _ => z0))), (a2, .inl (cI, (6, .inl fun _ => z0))), (a3, .inl (cI, (6, .inl fun _ => z0))), (a4, .inl (cI, (6, .inl fun _ => z0))), (a5, .inl (cI, (60, .inl fun _ => z0))), (a6, .inl (cI, (4, .inl figs))), (a7, .inl (cI, (6, .inl fun _ => z0)))]) 7 94
  refine wx_aload hC hl0 dX2_init_77 ?_
  refine wx_bipush hC dX2_init_78 (by decide +kernel) ?_
  refine wx_put (ci := 2) (j := 8) (M := 13) (T := TX2) (ty := tyX2 8) hC hin rfl (by decide) mt_89 (tyX2_ok 8 (by decide)) rfl rfl (Nat.le_of_ble_eq_true rfl) dX2_init_80 ?_
  show Wx p l e R s mi args below meth c A D Qs ls 83 [] ((h0, .inr (2, [.ref a1, .ref a2, .ref a3, .ref a4, .ref a5, .ref a6, .ref a7, .int z0, .int (Int32.ofInt (-9)), .int z0, .int z0, .int z0, .int z0])) :: [(a1, .inl (cI, (6, .inl fun _ => z0))), (a2, .inl (cI, (6, .inl fun _ => z0))), (a3, .inl (cI, (6, .inl fun _ => z0))), (a4, .inl (cI, (6, .inl fun _ => z0))), (a5, .inl (cI, (60, .inl fun _ => z0))), (a6, .inl (cI, (4, .inl figs))), (a7, .inl (cI, (6, .inl fun _ => z0)))]) 7 94
  exact hret _ ⟨fun i => [a1, a2, a3, a4, a5, a6, a7].getD i 0, rfl⟩
def Tk (cI _cY : ClassId) (h0 : Nat) (w : va_W) : Prop := ∃ a1 : Nat, w = (h0, .inr (0, [.ref a1, .int z0])) :: [(a1, .inl (cI, (80, .inl fun _ => z0)))]
theorem c_X0 : Cn yX0_init cX0_init 0 [.null, .int z0] 1 1 80 Tk := by
  refine Cn.of (pcR := 12) (by decide +kernel) rfl dX0_init_12 ?_
  intro p l e R s mi args below meth c A D cI cY h0 ls Qs hC hin hl0 hls hret
  have hC : CC p R s mi args c cX0_init 1 RX0 A D cI cY 1 1 80 := hC
  refine wx_aload hC hl0 dX0_init_0 ?_
  refine wx_obj hC (by decide) hls mt_164 dX0_init_1 ?_
  refine wx_aload hC hl0 dX0_init_4 ?_
  refine wx_bipush hC dX0_init_5 (by decide +kernel) ?_
  refine wx_newI (M := 80) hC dX0_init_7 (by decide +kernel) (by decide +kernel) (by decide) (by decide) (by decide) (fun a1 => ?_)
  show Wx p l e R s mi args below meth c A D Qs ls 9 [.ref a1, .ref h0] ((h0, .inr (0, [.null, .int z0])) :: [(a1, .inl (cI, (80, .inl fun _ => z0)))]) 1 80
  refine wx_put (ci := 0) (j := 0) (M := 2) (T := TX0) (ty := tyX0 0) hC hin rfl (by decide) mt_165 (tyX0_ok 0 (by decide)) rfl rfl (Nat.le_of_ble_eq_true rfl) dX0_init_9 ?_
  show Wx p l e R s mi args below meth c A D Qs ls 12 [] ((h0, .inr (0, [.ref a1, .int z0])) :: [(a1, .inl (cI, (80, .inl fun _ => z0)))]) 1 80
  exact hret _ ⟨_, rfl⟩
