def Pk (cI cY : ClassId) (h0 : Nat) (w : va_W) : Prop := ∃ (a1 a8 a9 a10 h2 h4 h6 : Nat) (q3 q5 q7 : Nat → Nat), w = (h0, .inr (1, [.ref a1, .ref a8, .ref a9, .ref a10, .int z0, .int z0])) :: (((((([(a1, .inl (cY, (3, .inr (.inr (.inr (.inr (va_up (va_up (va_up (fun _ => none) (Int32.ofInt 0).toNatClampNeg (some h2)) (Int32.ofInt 1).toNatClampNeg (some h4)) (Int32.ofInt 2).toNatClampNeg (some h6))))))))] ++ yw cI h2 q3) ++ yw cI h4 q5) ++ yw cI h6 q7) ++ [(a8, .inl (cI, (64, .inl fun _ => z0)))]) ++ [(a9, .inl (cI, (6, .inl fun _ => z0)))]) ++ [(a10, .inl (cI, (64, .inl fun _ => z0)))])
theorem c_X1 : Cn yX1_init cX1_init 1 [.null, .null, .null, .null, .int z0, .int z0] 2 28 458 Pk := by
  refine Cn.of (pcR := 66) (by decide +kernel) rfl dX1_init_66 ?_
  intro p l e R s mi args below meth c A D cI cY h0 ls Qs hC hin hl0 hls hret
  have hC : CC p R s mi args c cX1_init 1 RX1 A D cI cY 2 28 458 := hC
  refine wx_aload hC hl0 dX1_init_0 ?_
  refine wx_obj hC (by decide) hls mt_135 dX1_init_1 ?_
  refine wx_aload hC hl0 dX1_init_4 ?_
  refine wx_iconst hC dX1_init_5 ?_
  refine wx_newQ (M := 3) hC mt_136 dX1_init_6 (by decide +kernel) (by decide +kernel) (by decide) (by decide) (by decide) (fun a1 => ?_)
  show Wx p l e R s mi args below meth c A D Qs ls 9 [.ref a1, .ref h0] ((h0, .inr (1, [.null, .null, .null, .null, .int z0, .int z0])) :: [(a1, .inl (cY, (3, .inr (.inr (.inr (.inr fun _ => none))))))]) 1 3
  refine wx_dup hC rfl dX1_init_9 ?_
  refine wx_iconst hC dX1_init_10 ?_
  refine wx_new (ci := 2) (T := TX2) (M := 13) (ty := tyX2) (fs := [.null, .null, .null, .null, .null, .null, .null, .int z0, .int z0, .int z0, .int z0, .int z0, .int z0]) hC rfl tyX2_ok (bk_X2) ⟨mt_136, mt_66, mt_50⟩ dX1_init_11 (by decide) (by decide) (fun h2 => ?_)
  refine wx_dup hC rfl dX1_init_14 ?_
  refine wx_callN hC c_X2 cnl_X2 (fun hx => hx.2.2.2.1) hls (Nat.le_of_ble_eq_true rfl) (by decide) (by decide) (by decide) dX1_init_15 (fun w3 hw3 => ?_)
  obtain ⟨q3, rfl⟩ := hw3
  show Wx p l e R s mi args below meth c A D Qs ls 18 [.ref h2, .int (Int32.ofInt 0), .ref a1, .ref a1, .ref h0] ((h0, .inr (1, [.null, .null, .null, .null, .int z0, .int z0])) :: ([(a1, .inl (cY, (3, .inr (.inr (.inr (.inr fun _ => none))))))] ++ yw cI h2 q3)) 9 110
  refine wx_astq hC 1 2 rfl rfl (by unfold vp_in; decide +kernel) dX1_init_18 ?_
  show Wx p l e R s mi args below meth c A D Qs ls 19 [.ref a1, .ref h0] ((h0, .inr (1, [.null, .null, .null, .null, .int z0, .int z0])) :: ([(a1, .inl (cY, (3, .inr (.inr (.inr (.inr (va_up (fun _ => none) (Int32.ofInt 0).toNatClampNeg (some h2))))))))] ++ yw cI h2 q3)) 9 110
  refine wx_dup hC rfl dX1_init_19 ?_
  refine wx_iconst hC dX1_init_20 ?_
  refine wx_new (ci := 2) (T := TX2) (M := 13) (ty := tyX2) (fs := [.null, .null, .null, .null, .null, .null, .null, .int z0, .int z0, .int z0, .int z0, .int z0, .int z0]) hC rfl tyX2_ok (bk_X2) ⟨mt_136, mt_66, mt_50⟩ dX1_init_21 (by decide) (by decide) (fun h4 => ?_)
  refine wx_dup hC rfl dX1_init_24 ?_
  refine wx_callN hC c_X2 cnl_X2 (fun hx => hx.2.2.2.1) hls (Nat.le_of_ble_eq_true rfl) (by decide) (by decide) (by decide) dX1_init_25 (fun w5 hw5 => ?_)
  obtain ⟨q5, rfl⟩ := hw5
  show Wx p l e R s mi args below meth c A D Qs ls 28 [.ref h4, .int (Int32.ofInt 1), .ref a1, .ref a1, .ref h0] ((h0, .inr (1, [.null, .null, .null, .null, .int z0, .int z0])) :: (([(a1, .inl (cY, (3, .inr (.inr (.inr (.inr (va_up (fun _ => none) (Int32.ofInt 0).toNatClampNeg (some h2))))))))] ++ yw cI h2 q3) ++ yw cI h4 q5)) 17 217
  refine wx_astq hC 1 10 rfl rfl (by unfold vp_in; decide +kernel) dX1_init_28 ?_
  show Wx p l e R s mi args below meth c A D Qs ls 29 [.ref a1, .ref h0] ((h0, .inr (1, [.null, .null, .null, .null, .int z0, .int z0])) :: (([(a1, .inl (cY, (3, .inr (.inr (.inr (.inr (va_up (va_up (fun _ => none) (Int32.ofInt 0).toNatClampNeg (some h2)) (Int32.ofInt 1).toNatClampNeg (some h4))))))))] ++ yw cI h2 q3) ++ yw cI h4 q5)) 17 217
  refine wx_dup hC rfl dX1_init_29 ?_
  refine wx_iconst hC dX1_init_30 ?_
  refine wx_new (ci := 2) (T := TX2) (M := 13) (ty := tyX2) (fs := [.null, .null, .null, .null, .null, .null, .null, .int z0, .int z0, .int z0, .int z0, .int z0, .int z0]) hC rfl tyX2_ok (bk_X2) ⟨mt_136, mt_66, mt_50⟩ dX1_init_31 (by decide) (by decide) (fun h6 => ?_)
  refine wx_dup hC rfl dX1_init_34 ?_
  refine wx_callN hC c_X2 cnl_X2 (fun hx => hx.2.2.2.1) hls (Nat.le_of_ble_eq_true rfl) (by decide) (by decide) (by decide) dX1_init_35 (fun w7 hw7 => ?_)
  obtain ⟨q7, rfl⟩ := hw7
  show Wx p l e R s mi args below meth c A D Qs ls 38 [.ref h6, .int (Int32.ofInt 2), .ref a1, .ref a1, .ref h0] ((h0, .inr (1, [.null, .null, .null, .null, .int z0, .int z0])) :: ((([(a1, .inl (cY, (3, .inr (.inr (.inr (.inr (va_up (va_up (fun _ => none) (Int32.ofInt 0).toNatClampNeg (some h2)) (Int32.ofInt 1).toNatClampNeg (some h4))))))))] ++ yw cI h2 q3) ++ yw cI h4 q5) ++ yw cI h6 q7)) 25 324
  refine wx_astq hC 1 18 rfl rfl (by unfold vp_in; decide +kernel) dX1_init_38 ?_
  show Wx p l e R s mi args below meth c A D Qs ls 39 [.ref a1, .ref h0] ((h0, .inr (1, [.null, .null, .null, .null, .int z0, .int z0])) :: ((([(a1, .inl (cY, (3, .inr (.inr (.inr (.inr (va_up (va_up (va_up (fun _ => none) (Int32.ofInt 0).toNatClampNeg (some h2)) (Int32.ofInt 1).toNatClampNeg (some h4)) (Int32.ofInt 2).toNatClampNeg (some h6))))))))] ++ yw cI h2 q3) ++ yw cI h4 q5) ++ yw cI h6 q7)) 25 324
  refine wx_put (ci := 1) (j := 0) (M := 6) (T := TX1) (ty := tyX1 0) hC hin rfl (by decide) mt_139 (tyX1_ok 0 (by decide)) rfl rfl (Nat.le_of_ble_eq_true rfl) dX1_init_39 ?_
  show Wx p l e R s mi args below meth c A D Qs ls 42 [] ((h0, .inr (1, [.ref a1, .null, .null, .null, .int z0, .int z0])) :: ((([(a1, .inl (cY, (3, .inr (.inr (.inr (.inr (va_up (va_up (va_up (fun _ => none) (Int32.ofInt 0).toNatClampNeg (some h2)) (Int32.ofInt 1).toNatClampNeg (some h4)) (Int32.ofInt 2).toNatClampNeg (some h6))))))))] ++ yw cI h2 q3) ++ yw cI h4 q5) ++ yw cI h6 q7)) 25 324
  refine wx_aload hC hl0 dX1_init_42 ?_
  refine wx_bipush hC dX1_init_43 (by decide +kernel) ?_
  refine wx_newI (M := 64) hC dX1_init_45 (by decide +kernel) (by decide +kernel) (by decide) (by decide) (by decide) (fun a8 => ?_)
  show Wx p l e R s mi args below meth c A D Qs ls 47 [.ref a8, .ref h0] ((h0, .inr (1, [.ref a1, .null, .null, .null, .int z0, .int z0])) :: (((([(a1, .inl (cY, (3, .inr (.inr (.inr (.inr (va_up (va_up (va_up (fun _ => none) (Int32.ofInt 0).toNatClampNeg (some h2)) (Int32.ofInt 1).toNatClampNeg (some h4)) (Int32.ofInt 2).toNatClampNeg (some h6))))))))] ++ yw cI h2 q3) ++ yw cI h4 q5) ++ yw cI h6 q7) ++ [(a8, .inl (cI, (64, .inl fun _ => z0)))])) 26 388
  refine wx_put (ci := 1) (j := 1) (M := 6) (T := TX1) (ty := tyX1 1) hC hin rfl (by decide) mt_140 (tyX1_ok 1 (by decide)) rfl rfl (Nat.le_of_ble_eq_true rfl) dX1_init_47 ?_
  show Wx p l e R s mi args below meth c A D Qs ls 50 [] ((h0, .inr (1, [.ref a1, .ref a8, .null, .null, .int z0, .int z0])) :: (((([(a1, .inl (cY, (3, .inr (.inr (.inr (.inr (va_up (va_up (va_up (fun _ => none) (Int32.ofInt 0).toNatClampNeg (some h2)) (Int32.ofInt 1).toNatClampNeg (some h4)) (Int32.ofInt 2).toNatClampNeg (some h6))))))))] ++ yw cI h2 q3) ++ yw cI h4 q5) ++ yw cI h6 q7) ++ [(a8, .inl (cI, (64, .inl fun _ => z0)))])) 26 388
  refine wx_aload hC hl0 dX1_init_50 ?_
  refine wx_bipush hC dX1_init_51 (by decide +kernel) ?_
  refine wx_newI (M := 6) hC dX1_init_53 (by decide +kernel) (by decide +kernel) (by decide) (by decide) (by decide) (fun a9 => ?_)
  show Wx p l e R s mi args below meth c A D Qs ls 55 [.ref a9, .ref h0] ((h0, .inr (1, [.ref a1, .ref a8, .null, .null, .int z0, .int z0])) :: ((((([(a1, .inl (cY, (3, .inr (.inr (.inr (.inr (va_up (va_up (va_up (fun _ => none) (Int32.ofInt 0).toNatClampNeg (some h2)) (Int32.ofInt 1).toNatClampNeg (some h4)) (Int32.ofInt 2).toNatClampNeg (some h6))))))))] ++ yw cI h2 q3) ++ yw cI h4 q5) ++ yw cI h6 q7) ++ [(a8, .inl (cI, (64, .inl fun _ => z0)))]) ++ [(a9, .inl (cI, (6, .inl fun _ => z0)))])) 27 394
  refine wx_put (ci := 1) (j := 2) (M := 6) (T := TX1) (ty := tyX1 2) hC hin rfl (by decide) mt_141 (tyX1_ok 2 (by decide)) rfl rfl (Nat.le_of_ble_eq_true rfl) dX1_init_55 ?_
  show Wx p l e R s mi args below meth c A D Qs ls 58 [] ((h0, .inr (1, [.ref a1, .ref a8, .ref a9, .null, .int z0, .int z0])) :: ((((([(a1, .inl (cY, (3, .inr (.inr (.inr (.inr (va_up (va_up (va_up (fun _ => none) (Int32.ofInt 0).toNatClampNeg (some h2)) (Int32.ofInt 1).toNatClampNeg (some h4)) (Int32.ofInt 2).toNatClampNeg (some h6))))))))] ++ yw cI h2 q3) ++ yw cI h4 q5) ++ yw cI h6 q7) ++ [(a8, .inl (cI, (64, .inl fun _ => z0)))]) ++ [(a9, .inl (cI, (6, .inl fun _ => z0)))])) 27 394
  refine wx_aload hC hl0 dX1_init_58 ?_
  refine wx_bipush hC dX1_init_59 (by decide +kernel) ?_
  refine wx_newI (M := 64) hC dX1_init_61 (by decide +kernel) (by decide +kernel) (by decide) (by decide) (by decide) (fun a10 => ?_)
  show Wx p l e R s mi args below meth c A D Qs ls 63 [.ref a10, .ref h0] ((h0, .inr (1, [.ref a1, .ref a8, .ref a9, .null, .int z0, .int z0])) :: (((((([(a1, .inl (cY, (3, .inr (.inr (.inr (.inr (va_up (va_up (va_up (fun _ => none) (Int32.ofInt 0).toNatClampNeg (some h2)) (Int32.ofInt 1).toNatClampNeg (some h4)) (Int32.ofInt 2).toNatClampNeg (some h6))))))))] ++ yw cI h2 q3) ++ yw cI h4 q5) ++ yw cI h6 q7) ++ [(a8, .inl (cI, (64, .inl fun _ => z0)))]) ++ [(a9, .inl (cI, (6, .inl fun _ => z0)))]) ++ [(a10, .inl (cI, (64, .inl fun _ => z0)))])) 28 458
  refine wx_put (ci := 1) (j := 3) (M := 6) (T := TX1) (ty := tyX1 3) hC hin rfl (by decide) mt_142 (tyX1_ok 3 (by decide)) rfl rfl (Nat.le_of_ble_eq_true rfl) dX1_init_63 ?_
  show Wx p l e R s mi args below meth c A D Qs ls 66 [] ((h0, .inr (1, [.ref a1, .ref a8, .ref a9, .ref a10, .int z0, .int z0])) :: (((((([(a1, .inl (cY, (3, .inr (.inr (.inr (.inr (va_up (va_up (va_up (fun _ => none) (Int32.ofInt 0).toNatClampNeg (some h2)) (Int32.ofInt 1).toNatClampNeg (some h4)) (Int32.ofInt 2).toNatClampNeg (some h6))))))))] ++ yw cI h2 q3) ++ yw cI h4 q5) ++ yw cI h6 q7) ++ [(a8, .inl (cI, (64, .inl fun _ => z0)))]) ++ [(a9, .inl (cI, (6, .inl fun _ => z0)))]) ++ [(a10, .inl (cI, (64, .inl fun _ => z0)))])) 28 458
  exact hret _ ⟨_, _, _, _, _, _, _, _, _, _, rfl⟩
