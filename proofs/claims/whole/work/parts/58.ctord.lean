def Nk (cI cY : ClassId) (h0 : Nat) (w : va_W) : Prop := ∃ (a11 a12 a13 h1 h3 h5 h7 h9 : Nat) (w2 w4 w6 w8 w10 : va_W), Yk cI cY h1 w2 ∧ Yk cI cY h3 w4 ∧ Yk cI cY h5 w6 ∧ Pk cI cY h7 w8 ∧ Tk cI cY h9 w10 ∧ w = (h0, .inr (3, [.ref h1, .ref h3, .ref h5, .ref h7, .ref h9, .ref a11, .ref a12, .ref a13, .int z0, .int z0])) :: (((((((w2 ++ w4) ++ w6) ++ w8) ++ w10) ++ [(a11, .inl (cI, (8, .inl fun _ => z0)))]) ++ [(a12, .inl (cI, (48, .inl fun _ => z0)))]) ++ [(a13, .inl (cI, (7, .inl fun _ => z0)))])
theorem c_X3 : Cn yX3_init cX3_init 3 [.null, .null, .null, .null, .null, .null, .null, .null, .int z0, .int z0] 3 58 930 Nk := by
  refine Cn.of (pcR := 83) (by decide +kernel) rfl dX3_init_83 ?_
  intro p l e R s mi args below meth c A D cI cY h0 ls Qs hC hin hl0 hls hret
  have hC : CC p R s mi args c cX3_init 1 RX3 A D cI cY 3 58 930 := hC
  refine wx_aload hC hl0 dX3_init_0 ?_
  refine wx_obj hC (by decide) hls mt_62 dX3_init_1 ?_
  refine wx_aload hC hl0 dX3_init_4 ?_
  refine wx_new (ci := 2) (T := TX2) (M := 13) (ty := tyX2) (fs := [.null, .null, .null, .null, .null, .null, .null, .int z0, .int z0, .int z0, .int z0, .int z0, .int z0]) hC rfl tyX2_ok (bk_X2) ⟨mt_65, mt_66, mt_50⟩ dX3_init_5 (by decide) (by decide) (fun h1 => ?_)
  refine wx_dup hC rfl dX3_init_8 ?_
  refine wx_callN hC c_X2 cnl_X2 (fun hx => hx.2.1) hls (Nat.le_of_ble_eq_true rfl) (by decide) (by decide) (by decide) dX3_init_9 (fun w2 hw2 => ?_)
  show Wx p l e R s mi args below meth c A D Qs ls 12 [.ref h1, .ref h0] ((h0, .inr (3, [.null, .null, .null, .null, .null, .null, .null, .null, .int z0, .int z0])) :: w2) 8 107
  refine wx_put (ci := 3) (j := 0) (M := 10) (T := TX3) (ty := tyX3 0) hC hin rfl (by decide) mt_173 (tyX3_ok 0 (by decide)) rfl rfl (Nat.le_of_ble_eq_true rfl) dX3_init_12 ?_
  show Wx p l e R s mi args below meth c A D Qs ls 15 [] ((h0, .inr (3, [.ref h1, .null, .null, .null, .null, .null, .null, .null, .int z0, .int z0])) :: w2) 8 107
  refine wx_aload hC hl0 dX3_init_15 ?_
  refine wx_new (ci := 2) (T := TX2) (M := 13) (ty := tyX2) (fs := [.null, .null, .null, .null, .null, .null, .null, .int z0, .int z0, .int z0, .int z0, .int z0, .int z0]) hC rfl tyX2_ok (bk_X2) ⟨mt_65, mt_66, mt_50⟩ dX3_init_16 (by decide) (by decide) (fun h3 => ?_)
  refine wx_dup hC rfl dX3_init_19 ?_
  refine wx_callN hC c_X2 cnl_X2 (fun hx => hx.2.1) hls (Nat.le_of_ble_eq_true rfl) (by decide) (by decide) (by decide) dX3_init_20 (fun w4 hw4 => ?_)
  show Wx p l e R s mi args below meth c A D Qs ls 23 [.ref h3, .ref h0] ((h0, .inr (3, [.ref h1, .null, .null, .null, .null, .null, .null, .null, .int z0, .int z0])) :: (w2 ++ w4)) 16 214
  refine wx_put (ci := 3) (j := 1) (M := 10) (T := TX3) (ty := tyX3 1) hC hin rfl (by decide) mt_174 (tyX3_ok 1 (by decide)) rfl rfl (Nat.le_of_ble_eq_true rfl) dX3_init_23 ?_
  show Wx p l e R s mi args below meth c A D Qs ls 26 [] ((h0, .inr (3, [.ref h1, .ref h3, .null, .null, .null, .null, .null, .null, .int z0, .int z0])) :: (w2 ++ w4)) 16 214
  refine wx_aload hC hl0 dX3_init_26 ?_
  refine wx_new (ci := 2) (T := TX2) (M := 13) (ty := tyX2) (fs := [.null, .null, .null, .null, .null, .null, .null, .int z0, .int z0, .int z0, .int z0, .int z0, .int z0]) hC rfl tyX2_ok (bk_X2) ⟨mt_65, mt_66, mt_50⟩ dX3_init_27 (by decide) (by decide) (fun h5 => ?_)
  refine wx_dup hC rfl dX3_init_30 ?_
  refine wx_callN hC c_X2 cnl_X2 (fun hx => hx.2.1) hls (Nat.le_of_ble_eq_true rfl) (by decide) (by decide) (by decide) dX3_init_31 (fun w6 hw6 => ?_)
  show Wx p l e R s mi args below meth c A D Qs ls 34 [.ref h5, .ref h0] ((h0, .inr (3, [.ref h1, .ref h3, .null, .null, .null, .null, .null, .null, .int z0, .int z0])) :: ((w2 ++ w4) ++ w6)) 24 321
  refine wx_put (ci := 3) (j := 2) (M := 10) (T := TX3) (ty := tyX3 2) hC hin rfl (by decide) mt_175 (tyX3_ok 2 (by decide)) rfl rfl (Nat.le_of_ble_eq_true rfl) dX3_init_34 ?_
  show Wx p l e R s mi args below meth c A D Qs ls 37 [] ((h0, .inr (3, [.ref h1, .ref h3, .ref h5, .null, .null, .null, .null, .null, .int z0, .int z0])) :: ((w2 ++ w4) ++ w6)) 24 321
  refine wx_aload hC hl0 dX3_init_37 ?_
  refine wx_new (ci := 1) (T := TX1) (M := 6) (ty := tyX1) (fs := [.null, .null, .null, .null, .int z0, .int z0]) hC rfl tyX1_ok (bk_X1) ⟨mt_130, mt_131, mt_51⟩ dX3_init_38 (by decide) (by decide) (fun h7 => ?_)
  refine wx_dup hC rfl dX3_init_41 ?_
  refine wx_callN hC c_X1 cnl_X1 (fun hx => hx.2.2.1) hls (Nat.le_of_ble_eq_true rfl) (by decide) (by decide) (by decide) dX3_init_42 (fun w8 hw8 => ?_)
  show Wx p l e R s mi args below meth c A D Qs ls 45 [.ref h7, .ref h0] ((h0, .inr (3, [.ref h1, .ref h3, .ref h5, .null, .null, .null, .null, .null, .int z0, .int z0])) :: (((w2 ++ w4) ++ w6) ++ w8)) 53 785
  refine wx_put (ci := 3) (j := 3) (M := 10) (T := TX3) (ty := tyX3 3) hC hin rfl (by decide) mt_176 (tyX3_ok 3 (by decide)) rfl rfl (Nat.le_of_ble_eq_true rfl) dX3_init_45 ?_
  show Wx p l e R s mi args below meth c A D Qs ls 48 [] ((h0, .inr (3, [.ref h1, .ref h3, .ref h5, .ref h7, .null, .null, .null, .null, .int z0, .int z0])) :: (((w2 ++ w4) ++ w6) ++ w8)) 53 785
  refine wx_aload hC hl0 dX3_init_48 ?_
  refine wx_new (ci := 0) (T := TX0) (M := 2) (ty := tyX0) (fs := [.null, .int z0]) hC rfl tyX0_ok (bk_X0) ⟨mt_159, mt_160, mt_52⟩ dX3_init_49 (by decide) (by decide) (fun h9 => ?_)
  refine wx_dup hC rfl dX3_init_52 ?_
  refine wx_callN hC c_X0 cnl_X0 (fun hx => hx.2.2.2.2.1) hls (Nat.le_of_ble_eq_true rfl) (by decide) (by decide) (by decide) dX3_init_53 (fun w10 hw10 => ?_)
  show Wx p l e R s mi args below meth c A D Qs ls 56 [.ref h9, .ref h0] ((h0, .inr (3, [.ref h1, .ref h3, .ref h5, .ref h7, .null, .null, .null, .null, .int z0, .int z0])) :: ((((w2 ++ w4) ++ w6) ++ w8) ++ w10)) 55 867
  refine wx_put (ci := 3) (j := 4) (M := 10) (T := TX3) (ty := tyX3 4) hC hin rfl (by decide) mt_177 (tyX3_ok 4 (by decide)) rfl rfl (Nat.le_of_ble_eq_true rfl) dX3_init_56 ?_
  show Wx p l e R s mi args below meth c A D Qs ls 59 [] ((h0, .inr (3, [.ref h1, .ref h3, .ref h5, .ref h7, .ref h9, .null, .null, .null, .int z0, .int z0])) :: ((((w2 ++ w4) ++ w6) ++ w8) ++ w10)) 55 867
  refine wx_aload hC hl0 dX3_init_59 ?_
  refine wx_bipush hC dX3_init_60 (by decide +kernel) ?_
  refine wx_newI (M := 8) hC dX3_init_62 (by decide +kernel) (by decide +kernel) (by decide) (by decide) (by decide) (fun a11 => ?_)
  show Wx p l e R s mi args below meth c A D Qs ls 64 [.ref a11, .ref h0] ((h0, .inr (3, [.ref h1, .ref h3, .ref h5, .ref h7, .ref h9, .null, .null, .null, .int z0, .int z0])) :: (((((w2 ++ w4) ++ w6) ++ w8) ++ w10) ++ [(a11, .inl (cI, (8, .inl fun _ => z0)))])) 56 875
  refine wx_put (ci := 3) (j := 5) (M := 10) (T := TX3) (ty := tyX3 5) hC hin rfl (by decide) mt_178 (tyX3_ok 5 (by decide)) rfl rfl (Nat.le_of_ble_eq_true rfl) dX3_init_64 ?_
  show Wx p l e R s mi args below meth c A D Qs ls 67 [] ((h0, .inr (3, [.ref h1, .ref h3, .ref h5, .ref h7, .ref h9, .ref a11, .null, .null, .int z0, .int z0])) :: (((((w2 ++ w4) ++ w6) ++ w8) ++ w10) ++ [(a11, .inl (cI, (8, .inl fun _ => z0)))])) 56 875
  refine wx_aload hC hl0 dX3_init_67 ?_
  refine wx_bipush hC dX3_init_68 (by decide +kernel) ?_
  refine wx_newI (M := 48) hC dX3_init_70 (by decide +kernel) (by decide +kernel) (by decide) (by decide) (by decide) (fun a12 => ?_)
  show Wx p l e R s mi args below meth c A D Qs ls 72 [.ref a12, .ref h0] ((h0, .inr (3, [.ref h1, .ref h3, .ref h5, .ref h7, .ref h9, .ref a11, .null, .null, .int z0, .int z0])) :: ((((((w2 ++ w4) ++ w6) ++ w8) ++ w10) ++ [(a11, .inl (cI, (8, .inl fun _ => z0)))]) ++ [(a12, .inl (cI, (48, .inl fun _ => z0)))])) 57 923
  refine wx_put (ci := 3) (j := 6) (M := 10) (T := TX3) (ty := tyX3 6) hC hin rfl (by decide) mt_179 (tyX3_ok 6 (by decide)) rfl rfl (Nat.le_of_ble_eq_true rfl) dX3_init_72 ?_
  show Wx p l e R s mi args below meth c A D Qs ls 75 [] ((h0, .inr (3, [.ref h1, .ref h3, .ref h5, .ref h7, .ref h9, .ref a11, .ref a12, .null, .int z0, .int z0])) :: ((((((w2 ++ w4) ++ w6) ++ w8) ++ w10) ++ [(a11, .inl (cI, (8, .inl fun _ => z0)))]) ++ [(a12, .inl (cI, (48, .inl fun _ => z0)))])) 57 923
  refine wx_aload hC hl0 dX3_init_75 ?_
  refine wx_bipush hC dX3_init_76 (by decide +kernel) ?_
  refine wx_newI (M := 7) hC dX3_init_78 (by decide +kernel) (by decide +kernel) (by decide) (by decide) (by decide) (fun a13 => ?_)
  show Wx p l e R s mi args below meth c A D Qs ls 80 [.ref a13, .ref h0] ((h0, .inr (3, [.ref h1, .ref h3, .ref h5, .ref h7, .ref h9, .ref a11, .ref a12, .null, .int z0, .int z0])) :: (((((((w2 ++ w4) ++ w6) ++ w8) ++ w10) ++ [(a11, .inl (cI, (8, .inl fun _ => z0)))]) ++ [(a12, .inl (cI, (48, .inl fun _ => z0)))]) ++ [(a13, .inl (cI, (7, .inl fun _ => z0)))])) 58 930
  refine wx_put (ci := 3) (j := 7) (M := 10) (T := TX3) (ty := tyX3 7) hC hin rfl (by decide) mt_180 (tyX3_ok 7 (by decide)) rfl rfl (Nat.le_of_ble_eq_true rfl) dX3_init_80 ?_
  show Wx p l e R s mi args below meth c A D Qs ls 83 [] ((h0, .inr (3, [.ref h1, .ref h3, .ref h5, .ref h7, .ref h9, .ref a11, .ref a12, .ref a13, .int z0, .int z0])) :: (((((((w2 ++ w4) ++ w6) ++ w8) ++ w10) ++ [(a11, .inl (cI, (8, .inl fun _ => z0)))]) ++ [(a12, .inl (cI, (48, .inl fun _ => z0)))]) ++ [(a13, .inl (cI, (7, .inl fun _ => z0)))])) 58 930
  exact hret _ ⟨_, _, _, _, _, _, _, _, _, _, _, _, _, hw2, hw4, hw6, hw8, hw10, rfl⟩
def mw (cI : ClassId) (h0 : Nat) (q : Nat → Nat) : va_W := (h0, .inr (4, [.int z0, .int z0, .int z0, .int (Int32.ofInt 10), .int (Int32.ofInt 9), .int (Int32.ofInt (-1)), .int z0, .int z0, .int z0, .int z0, .ref (q 0), .ref (q 1), .ref (q 2), .ref (q 3), .ref (q 4), .int (Int32.ofInt 0), .ref (q 5), .int (Int32.ofInt (-1)), .ref (q 6), .int z0, .ref (q 7), .ref (q 8), .ref (q 9), .ref (q 10), .int z0, .int z0, .int z0, .null, .ref (q 11), .int z0, .int z0, .int z0, .int z0, .ref (q 12), .ref (q 13), .ref (q 14), .ref (q 15), .int z0, .ref (q 16), .int z0])) :: [((q 0), .inl (cI, (7, .inl fun _ => z0))), ((q 1), .inl (cI, (7, .inl fun _ => z0))), ((q 2), .inl (cI, (7, .inl fun _ => z0))), ((q 3), .inl (cI, (7, .inl fun _ => z0))), ((q 4), .inl (cI, (70, .inl fun _ => z0))), ((q 5), .inl (cI, (7, .inl fun _ => z0))), ((q 6), .inl (cI, (7, .inl fun _ => z0))), ((q 7), .inl (cI, (108, .inl fun _ => z0))), ((q 8), .inl (cI, (108, .inl fun _ => z0))), ((q 9), .inl (cI, (108, .inl fun _ => z0))), ((q 10), .inl (cI, (108, .inl fun _ => z0))), ((q 11), .inl (cI, (80, .inl fun _ => z0))), ((q 12), .inl (cI, (41, .inl fun _ => z0))), ((q 13), .inl (cI, (41, .inl fun _ => z0))), ((q 14), .inl (cI, (164, .inl fun _ => z0))), ((q 15), .inl (cI, (8, .inl fun _ => z0))), ((q 16), .inl (cI, (48, .inl fun _ => z0)))]
def Mk (cI _cY : ClassId) (h0 : Nat) (w : va_W) : Prop := ∃ q : Nat → Nat, w = mw cI h0 q
