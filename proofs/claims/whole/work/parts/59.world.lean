/-! ===== the world behind both constructors, in the machine's order ===== -/
def bw (ad : Nat → Nat) (cI : ClassId) (b : Nat) : va_W := yw cI (ad b) (fun i => ad (b + 1 + i))
def mf49 (ad : Nat → Nat) : Nat → Option Nat := (va_up (va_up (va_up (fun _ => none) (Int32.ofInt 0).toNatClampNeg (some (ad 24))) (Int32.ofInt 1).toNatClampNeg (some (ad 32))) (Int32.ofInt 2).toNatClampNeg (some (ad 40)))
abbrev apw (a b : va_W) : va_W := a ++ b
def pl77 (ad : Nat → Nat) (cI cY : ClassId) : va_W := (ad 48, .inr (1, [.ref (ad 49), .ref (ad 50), .ref (ad 51), .ref (ad 52), .int z0, .int z0])) :: (apw (apw (apw (apw (apw (apw [(ad 49, .inl (cY, (3, .inr (.inr (.inr (.inr (mf49 ad)))))))] (bw ad cI 24)) (bw ad cI 32)) (bw ad cI 40)) [(ad 50, .inl (cI, (64, .inl fun _ => z0)))]) [(ad 51, .inl (cI, (6, .inl fun _ => z0)))]) [(ad 52, .inl (cI, (64, .inl fun _ => z0)))])
def tx77 (ad : Nat → Nat) (cI : ClassId) : va_W := (ad 53, .inr (0, [.ref (ad 54), .int z0])) :: [(ad 54, .inl (cI, (80, .inl fun _ => z0)))]
def n77 (ad : Nat → Nat) (cI cY : ClassId) : va_W := (ad 55, .inr (3, [.ref (ad 0), .ref (ad 8), .ref (ad 16), .ref (ad 48), .ref (ad 53), .ref (ad 56), .ref (ad 57), .ref (ad 58), .int z0, .int z0])) :: (apw (apw (apw (apw (apw (apw (apw (bw ad cI 0) (bw ad cI 8)) (bw ad cI 16)) (pl77 ad cI cY)) (tx77 ad cI)) [(ad 56, .inl (cI, (8, .inl fun _ => z0)))]) [(ad 57, .inl (cI, (48, .inl fun _ => z0)))]) [(ad 58, .inl (cI, (7, .inl fun _ => z0)))])
theorem n77_ex {cI cY : ClassId} {h h' : Nat} {w1 w2 : va_W} (h1 : Nk cI cY h w1) (h2 : Mk cI cY h' w2) (a77 a78 a79 : Nat) : ∃ ad : Nat → Nat, ad 55 = h ∧ ad 59 = h' ∧ ad 77 = a77 ∧ ad 78 = a78 ∧ ad 79 = a79 ∧ w1 = n77 ad cI cY ∧ w2 = mw cI (ad 59) (fun i => ad (60 + i)) := by
  obtain ⟨a11, a12, a13, y0, y8, y16, pl, tx, w2', w4, w6, w8, w10, ⟨q0, rfl⟩, ⟨q8, rfl⟩, ⟨q16, rfl⟩, ⟨a1, a8, a9, a10, y24, y32, y40, q24, q32, q40, rfl⟩, ⟨t1, rfl⟩, rfl⟩ := h1
  obtain ⟨qm, rfl⟩ := h2
  refine ⟨fun k => ([y0, q0 0, q0 1, q0 2, q0 3, q0 4, q0 5, q0 6, y8, q8 0, q8 1, q8 2, q8 3, q8 4, q8 5, q8 6, y16, q16 0, q16 1, q16 2, q16 3, q16 4, q16 5, q16 6, y24, q24 0, q24 1, q24 2, q24 3, q24 4, q24 5, q24 6, y32, q32 0, q32 1, q32 2, q32 3, q32 4, q32 5, q32 6, y40, q40 0, q40 1, q40 2, q40 3, q40 4, q40 5, q40 6, pl, a1, a8, a9, a10, tx, t1, h, a11, a12, a13, h', qm 0, qm 1, qm 2, qm 3, qm 4, qm 5, qm 6, qm 7, qm 8, qm 9, qm 10, qm 11, qm 12, qm 13, qm 14, qm 15, qm 16, a77, a78, a79] : List Nat).getD k 0, rfl, rfl, rfl, rfl, rfl, ?_, ?_⟩
  · rfl
  · rfl
def ps77 : List Nat := [1, 2, 3, 4, 5, 6, 7, 8, 9, 10, 11, 12, 13, 14, 15, 16, 17, 18, 19, 20, 21, 22, 23, 24, 27, 28, 29, 30, 31, 32, 33, 34, 35, 36, 37, 38, 39, 40, 41, 42, 43, 44, 45, 46, 47, 48, 49, 50, 25, 26, 51, 52, 53, 54, 55, 0, 56, 57, 58, 59, 60, 61, 62, 63, 64, 65, 66, 67, 68, 69, 70, 71, 72, 73, 74, 75, 76]
abbrev w77 (ad : Nat → Nat) (cI cY : ClassId) : va_W := n77 ad cI cY ++ mw cI (ad 59) (fun i => ad (60 + i))
section W77
variable {ad : Nat → Nat} {cI cY : ClassId}
theorem w77_0 : (w77 ad cI cY)[1]? = some (ad 0, ce ad cI cY m00 0) := rfl
theorem w77_1 : (w77 ad cI cY)[2]? = some (ad 1, ce ad cI cY m00 1) := rfl
theorem w77_2 : (w77 ad cI cY)[3]? = some (ad 2, ce ad cI cY m00 2) := rfl
theorem w77_3 : (w77 ad cI cY)[4]? = some (ad 3, ce ad cI cY m00 3) := rfl
theorem w77_4 : (w77 ad cI cY)[5]? = some (ad 4, ce ad cI cY m00 4) := rfl
theorem w77_5 : (w77 ad cI cY)[6]? = some (ad 5, ce ad cI cY m00 5) := rfl
theorem w77_6 : (w77 ad cI cY)[7]? = some (ad 6, ce ad cI cY m00 6) := rfl
theorem w77_7 : (w77 ad cI cY)[8]? = some (ad 7, ce ad cI cY m00 7) := rfl
theorem w77_8 : (w77 ad cI cY)[9]? = some (ad 8, ce ad cI cY m00 8) := rfl
theorem w77_9 : (w77 ad cI cY)[10]? = some (ad 9, ce ad cI cY m00 9) := rfl
theorem w77_10 : (w77 ad cI cY)[11]? = some (ad 10, ce ad cI cY m00 10) := rfl
theorem w77_11 : (w77 ad cI cY)[12]? = some (ad 11, ce ad cI cY m00 11) := rfl
theorem w77_12 : (w77 ad cI cY)[13]? = some (ad 12, ce ad cI cY m00 12) := rfl
theorem w77_13 : (w77 ad cI cY)[14]? = some (ad 13, ce ad cI cY m00 13) := rfl
theorem w77_14 : (w77 ad cI cY)[15]? = some (ad 14, ce ad cI cY m00 14) := rfl
theorem w77_15 : (w77 ad cI cY)[16]? = some (ad 15, ce ad cI cY m00 15) := rfl
theorem w77_16 : (w77 ad cI cY)[17]? = some (ad 16, ce ad cI cY m00 16) := rfl
theorem w77_17 : (w77 ad cI cY)[18]? = some (ad 17, ce ad cI cY m00 17) := rfl
theorem w77_18 : (w77 ad cI cY)[19]? = some (ad 18, ce ad cI cY m00 18) := rfl
theorem w77_19 : (w77 ad cI cY)[20]? = some (ad 19, ce ad cI cY m00 19) := rfl
theorem w77_20 : (w77 ad cI cY)[21]? = some (ad 20, ce ad cI cY m00 20) := rfl
theorem w77_21 : (w77 ad cI cY)[22]? = some (ad 21, ce ad cI cY m00 21) := rfl
theorem w77_22 : (w77 ad cI cY)[23]? = some (ad 22, ce ad cI cY m00 22) := rfl
theorem w77_23 : (w77 ad cI cY)[24]? = some (ad 23, ce ad cI cY m00 23) := rfl
theorem w77_24 : (w77 ad cI cY)[27]? = some (ad 24, ce ad cI cY m00 24) := rfl
theorem w77_25 : (w77 ad cI cY)[28]? = some (ad 25, ce ad cI cY m00 25) := rfl
theorem w77_26 : (w77 ad cI cY)[29]? = some (ad 26, ce ad cI cY m00 26) := rfl
theorem w77_27 : (w77 ad cI cY)[30]? = some (ad 27, ce ad cI cY m00 27) := rfl
theorem w77_28 : (w77 ad cI cY)[31]? = some (ad 28, ce ad cI cY m00 28) := rfl
theorem w77_29 : (w77 ad cI cY)[32]? = some (ad 29, ce ad cI cY m00 29) := rfl
theorem w77_30 : (w77 ad cI cY)[33]? = some (ad 30, ce ad cI cY m00 30) := rfl
theorem w77_31 : (w77 ad cI cY)[34]? = some (ad 31, ce ad cI cY m00 31) := rfl
theorem w77_32 : (w77 ad cI cY)[35]? = some (ad 32, ce ad cI cY m00 32) := rfl
theorem w77_33 : (w77 ad cI cY)[36]? = some (ad 33, ce ad cI cY m00 33) := rfl
theorem w77_34 : (w77 ad cI cY)[37]? = some (ad 34, ce ad cI cY m00 34) := rfl
theorem w77_35 : (w77 ad cI cY)[38]? = some (ad 35, ce ad cI cY m00 35) := rfl
theorem w77_36 : (w77 ad cI cY)[39]? = some (ad 36, ce ad cI cY m00 36) := rfl
theorem w77_37 : (w77 ad cI cY)[40]? = some (ad 37, ce ad cI cY m00 37) := rfl
theorem w77_38 : (w77 ad cI cY)[41]? = some (ad 38, ce ad cI cY m00 38) := rfl
theorem w77_39 : (w77 ad cI cY)[42]? = some (ad 39, ce ad cI cY m00 39) := rfl
theorem w77_40 : (w77 ad cI cY)[43]? = some (ad 40, ce ad cI cY m00 40) := rfl
theorem w77_41 : (w77 ad cI cY)[44]? = some (ad 41, ce ad cI cY m00 41) := rfl
theorem w77_42 : (w77 ad cI cY)[45]? = some (ad 42, ce ad cI cY m00 42) := rfl
theorem w77_43 : (w77 ad cI cY)[46]? = some (ad 43, ce ad cI cY m00 43) := rfl
theorem w77_44 : (w77 ad cI cY)[47]? = some (ad 44, ce ad cI cY m00 44) := rfl
theorem w77_45 : (w77 ad cI cY)[48]? = some (ad 45, ce ad cI cY m00 45) := rfl
theorem w77_46 : (w77 ad cI cY)[49]? = some (ad 46, ce ad cI cY m00 46) := rfl
theorem w77_47 : (w77 ad cI cY)[50]? = some (ad 47, ce ad cI cY m00 47) := rfl
theorem w77_48 : (w77 ad cI cY)[25]? = some (ad 48, ce ad cI cY m00 48) := rfl
theorem w77_49 : (w77 ad cI cY)[26]? = some (ad 49, .inl (cY, (3, .inr (.inr (.inr (.inr (mf49 ad))))))) := rfl
theorem w77_50 : (w77 ad cI cY)[51]? = some (ad 50, ce ad cI cY m00 50) := rfl
theorem w77_51 : (w77 ad cI cY)[52]? = some (ad 51, ce ad cI cY m00 51) := rfl
theorem w77_52 : (w77 ad cI cY)[53]? = some (ad 52, ce ad cI cY m00 52) := rfl
theorem w77_53 : (w77 ad cI cY)[54]? = some (ad 53, ce ad cI cY m00 53) := rfl
theorem w77_54 : (w77 ad cI cY)[55]? = some (ad 54, ce ad cI cY m00 54) := rfl
theorem w77_55 : (w77 ad cI cY)[0]? = some (ad 55, ce ad cI cY m00 55) := rfl
theorem w77_56 : (w77 ad cI cY)[56]? = some (ad 56, ce ad cI cY m00 56) := rfl
theorem w77_57 : (w77 ad cI cY)[57]? = some (ad 57, ce ad cI cY m00 57) := rfl
theorem w77_58 : (w77 ad cI cY)[58]? = some (ad 58, ce ad cI cY m00 58) := rfl
theorem w77_59 : (w77 ad cI cY)[59]? = some (ad 59, ce ad cI cY m00 59) := rfl
theorem w77_60 : (w77 ad cI cY)[60]? = some (ad 60, ce ad cI cY m00 60) := rfl
theorem w77_61 : (w77 ad cI cY)[61]? = some (ad 61, ce ad cI cY m00 61) := rfl
theorem w77_62 : (w77 ad cI cY)[62]? = some (ad 62, ce ad cI cY m00 62) := rfl
theorem w77_63 : (w77 ad cI cY)[63]? = some (ad 63, ce ad cI cY m00 63) := rfl
theorem w77_64 : (w77 ad cI cY)[64]? = some (ad 64, ce ad cI cY m00 64) := rfl
theorem w77_65 : (w77 ad cI cY)[65]? = some (ad 65, ce ad cI cY m00 65) := rfl
theorem w77_66 : (w77 ad cI cY)[66]? = some (ad 66, ce ad cI cY m00 66) := rfl
theorem w77_67 : (w77 ad cI cY)[67]? = some (ad 67, ce ad cI cY m00 67) := rfl
theorem w77_68 : (w77 ad cI cY)[68]? = some (ad 68, ce ad cI cY m00 68) := rfl
theorem w77_69 : (w77 ad cI cY)[69]? = some (ad 69, ce ad cI cY m00 69) := rfl
theorem w77_70 : (w77 ad cI cY)[70]? = some (ad 70, ce ad cI cY m00 70) := rfl
theorem w77_71 : (w77 ad cI cY)[71]? = some (ad 71, ce ad cI cY m00 71) := rfl
theorem w77_72 : (w77 ad cI cY)[72]? = some (ad 72, ce ad cI cY m00 72) := rfl
theorem w77_73 : (w77 ad cI cY)[73]? = some (ad 73, ce ad cI cY m00 73) := rfl
theorem w77_74 : (w77 ad cI cY)[74]? = some (ad 74, ce ad cI cY m00 74) := rfl
theorem w77_75 : (w77 ad cI cY)[75]? = some (ad 75, ce ad cI cY m00 75) := rfl
theorem w77_76 : (w77 ad cI cY)[76]? = some (ad 76, ce ad cI cY m00 76) := rfl
theorem w77_at : ∀ k : Nat, k < 77 → k ≠ 49 → (w77 ad cI cY)[ps77.getD k 0]? = some (ad k, ce ad cI cY m00 k)
  | 0, _, _ => w77_0
  | 1, _, _ => w77_1
  | 2, _, _ => w77_2
  | 3, _, _ => w77_3
  | 4, _, _ => w77_4
  | 5, _, _ => w77_5
  | 6, _, _ => w77_6
  | 7, _, _ => w77_7
  | 8, _, _ => w77_8
  | 9, _, _ => w77_9
  | 10, _, _ => w77_10
  | 11, _, _ => w77_11
  | 12, _, _ => w77_12
  | 13, _, _ => w77_13
  | 14, _, _ => w77_14
  | 15, _, _ => w77_15
  | 16, _, _ => w77_16
  | 17, _, _ => w77_17
  | 18, _, _ => w77_18
  | 19, _, _ => w77_19
  | 20, _, _ => w77_20
  | 21, _, _ => w77_21
  | 22, _, _ => w77_22
  | 23, _, _ => w77_23
  | 24, _, _ => w77_24
  | 25, _, _ => w77_25
  | 26, _, _ => w77_26
  | 27, _, _ => w77_27
  | 28, _, _ => w77_28
  | 29, _, _ => w77_29
  | 30, _, _ => w77_30
  | 31, _, _ => w77_31
  | 32, _, _ => w77_32
  | 33, _, _ => w77_33
  | 34, _, _ => w77_34
  | 35, _, _ => w77_35
  | 36, _, _ => w77_36
  | 37, _, _ => w77_37
  | 38, _, _ => w77_38
  | 39, _, _ => w77_39
  | 40, _, _ => w77_40
  | 41, _, _ => w77_41
  | 42, _, _ => w77_42
  | 43, _, _ => w77_43
  | 44, _, _ => w77_44
  | 45, _, _ => w77_45
  | 46, _, _ => w77_46
  | 47, _, _ => w77_47
  | 48, _, _ => w77_48
  | 49, _, h => absurd rfl h
  | 50, _, _ => w77_50
  | 51, _, _ => w77_51
  | 52, _, _ => w77_52
  | 53, _, _ => w77_53
  | 54, _, _ => w77_54
  | 55, _, _ => w77_55
  | 56, _, _ => w77_56
  | 57, _, _ => w77_57
  | 58, _, _ => w77_58
  | 59, _, _ => w77_59
  | 60, _, _ => w77_60
  | 61, _, _ => w77_61
  | 62, _, _ => w77_62
  | 63, _, _ => w77_63
  | 64, _, _ => w77_64
  | 65, _, _ => w77_65
  | 66, _, _ => w77_66
  | 67, _, _ => w77_67
  | 68, _, _ => w77_68
  | 69, _, _ => w77_69
  | 70, _, _ => w77_70
  | 71, _, _ => w77_71
  | 72, _, _ => w77_72
  | 73, _, _ => w77_73
  | 74, _, _ => w77_74
  | 75, _, _ => w77_75
  | 76, _, _ => w77_76
  | n + 77, h, _ => absurd h (by omega)
theorem w77_ad {k : Nat} (hk : k < 77) : ∃ e, (w77 ad cI cY)[ps77.getD k 0]? = some (ad k, e) := by
  by_cases h : k = 49
  · subst h
    exact ⟨_, w77_49⟩
  · exact ⟨_, w77_at k hk h⟩
theorem ps_inj : ∀ i j : Fin 77, ps77.getD i.val 0 = ps77.getD j.val 0 → i = j := by decide +kernel
theorem w77_adok {A : Nat → Prop} (hD : va_D A (w77 ad cI cY)) : adok A ad := by
  refine ⟨fun i j hi hj hij => ?_, fun i hi => ?_⟩
  · obtain ⟨e1, h1⟩ := w77_ad (ad := ad) (cI := cI) (cY := cY) hi
    obtain ⟨e2, h2⟩ := w77_ad (ad := ad) (cI := cI) (cY := cY) hj
    have := ps_inj ⟨i, hi⟩ ⟨j, hj⟩ (hD.1 _ _ _ _ h1 h2 hij)
    exact Fin.mk.inj_iff.mp this
  · obtain ⟨e1, h1⟩ := w77_ad (ad := ad) (cI := cI) (cY := cY) hi
    exact hD.2 _ _ h1
theorem w77_P {D : va_G} {H : Heap} (hP : va_P D zz_cl (w77 ad cI cY) H) : va_P D zz_cl (wl ad cI cY m00) H := by
  intro k q hq
  obtain ⟨hk, -⟩ := wl_inv hq
  rw [wl_get hk] at hq
  obtain rfl := Option.some.inj hq
  by_cases h : k = 49
  · subst h
    have h1 := hP _ _ w77_49
    have h2 : H[ad 49]? = some (vp_cell cY (3, .inr (.inr (.inr (.inr (mf49 ad)))))) := h1
    show H[ad 49]? = some (vp_cell cY (3, .inr (.inr (.inr (.inr fun j => some (ad (24 + 8 * j)))))))
    rw [h2]
    congr 1
  · exact hP _ _ (w77_at k hk h)
end W77
