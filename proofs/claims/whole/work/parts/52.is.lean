/-! ===== what holds of every state ===== -/
section IS1
variable {s : zz_S} {T V W : zz_W} {D : Int}
theorem Is.rf (h : Is s) {k : Int} : Is (rfS s k) := h
theorem Iv.day (h : Iv D V) {D' : Int} (hd : V 0 4 ≤ D') : Iv D' V := by
  obtain ⟨hn, hl, hk0, hd0, hr⟩ := h
  exact ⟨hn, hl, hk0, ⟨hd0.1, hd⟩, hr⟩
theorem is_feed (h : Is s) {l : Int} : Is (o_feed s l).2 := by
  unfold o_feed
  split
  · exact h.rf
  · split
    · exact h.rf
    · have := h.2.2.1
      exact ⟨h.1, h.2.1, ⟨show 0 ≤ s.2.2 0 0 + 1 by omega, show s.2.2 0 0 + 1 ≤ 80 by omega⟩, h.2.2.2.1, h.2.2.2.2⟩
theorem is_nest (h : Is s) {n w : Int} : Is (o_nest s n w).2 := by
  unfold o_nest
  repeat' split
  all_goals first | exact h | exact h.rf
theorem is_set (h : Is s) {q v : Int} : Is (o_set s q v).2 := by
  unfold o_set
  split
  · exact h.rf
  · split
    · exact h.rf
    · split
      · exact h.rf
      · rename_i h1 h2 h3
        refine ⟨?_, h.2⟩
        show Iv 9999 (ux s.1 0 (6 + q) v)
        unfold lo_f at h2
        unfold hi_f at h3
        rcases (show q = 0 ∨ q = 1 ∨ q = 2 ∨ q = 3 by omega) with rfl | rfl | rfl | rfl
        · simp at h2 h3
          exact Iv_ux0 h.1 (Or.inr (Or.inr (Or.inr (Or.inl ⟨rfl, by omega, by omega⟩))))
        · simp at h2 h3
          exact Iv_ux0 h.1 (Or.inr (Or.inr (Or.inr (Or.inr (Or.inl ⟨rfl, by omega, by omega⟩)))))
        · simp at h2 h3
          exact Iv_ux0 h.1 (Or.inr (Or.inr (Or.inr (Or.inr (Or.inr (Or.inl ⟨rfl, by omega, by omega⟩))))))
        · simp at h2 h3
          exact Iv_ux0 h.1 (Or.inr (Or.inr (Or.inr (Or.inr (Or.inr (Or.inr ⟨rfl, by omega, by omega⟩))))))
theorem is_look (h : Is s) {n : Int} : Is (o_look s n).2 := by
  unfold o_look
  split
  · exact h.rf
  · split
    · exact h.rf
    · split
      · exact h.rf
      · have hn := h.1.1
        have hb := bit_bd (n := n) (by omega) (by omega)
        exact ⟨Iv_ux0 (Iv_tak h.1 hb.1 hb.2) (Or.inr (Or.inr (Or.inl rfl))), h.2⟩
theorem is_night (h : Is s) : Is (o_night s).2 := by
  unfold o_night
  split
  · exact h.rf
  · split
    · exact h.rf
    · rename_i h0 h1
      exact ⟨nit_ok (h.1.day (D' := 9998) (by omega)) (by decide) h0, h.2⟩
theorem is_tonight (h : Is s) {w : Int} : Is (o_tonight s w).2 := by
  unfold o_tonight
  repeat' split
  all_goals first | exact h | exact h.rf
theorem is_likely (h : Is s) {n p : Int} : Is (o_likely s n p).2 := by
  unfold o_likely
  repeat' split
  all_goals first | exact h | exact h.rf
theorem is_plan (h : Is s) {n p : Int} : Is (o_plan s n p).2 := by
  unfold o_plan
  repeat' split
  all_goals first | exact h | exact h.rf
theorem is_each (h : Is s) {n p : Int} : Is (o_each s n p).2 := by
  unfold o_each
  repeat' split
  all_goals first | exact h | exact h.rf
theorem is_shut (h : Is s) : Is (o_shut s).2 := by
  unfold o_shut
  repeat' split
  all_goals first | exact h | exact h.rf
theorem is_lead (h : Is s) {n : Int} : Is (o_lead s n).2 := by
  unfold o_lead
  repeat' split
  all_goals first | exact h | exact h.rf
theorem is_row (h : Is s) {n : Int} : Is (o_row s n).2 := by
  unfold o_row
  split
  · exact h.rf
  · split
    · exact h.rf
    · have := h.2.2.2.1
      exact ⟨h.1, h.2.1, h.2.2.1, ⟨show 0 ≤ s.2.2 0 1 + 1 by omega, show s.2.2 0 1 + 1 ≤ 8 by omega⟩, h.2.2.2.2⟩
theorem is_ways (h : Is s) : Is (o_ways s).2 := by
  unfold o_ways
  repeat' split
  all_goals first | exact h | exact h.rf
theorem is_soon (h : Is s) : Is (o_soon s).2 := by
  unfold o_soon
  repeat' split
  all_goals first | exact h | exact h.rf
theorem is_settle (h : Is s) {n : Int} : Is (o_settle s n).2 := by
  unfold o_settle
  repeat' split
  all_goals first | exact h | exact h.rf
theorem is_without (h : Is s) {n : Int} : Is (o_without s n).2 := by
  unfold o_without
  repeat' split
  all_goals first | exact h | exact h.rf
theorem is_put (h : Is s) {x y l : Int} : Is (o_put s x y l).2 := by
  unfold o_put
  repeat' split
  all_goals first | exact h | exact h.rf
theorem is_been (h : Is s) {n : Int} : Is (o_been s n).2 := by
  unfold o_been
  repeat' split
  all_goals first | exact h | exact h.rf
theorem is_row0 (h : Is s) : Is (s.1, s.2.1, ux s.2.2 0 1 0) := ⟨h.1, h.2.1, h.2.2.1, ⟨show (0 : Int) ≤ 0 by decide, show (0 : Int) ≤ 8 by decide⟩, h.2.2.2.2⟩
theorem is_judge (h : Is s) : Is (o_judge s).2 := by
  unfold o_judge
  split
  · exact h.rf
  · exact is_row0 h
theorem is_seeds (h : Is s) {n z : Int} : Is (o_seeds s n z).2 := by
  unfold o_seeds
  repeat' split
  all_goals first | exact h | exact h.rf
theorem is_clear (h : Is s) : Is (o_clear s).2 := is_row0 h
theorem is_image (h : Is s) : Is (o_image s).2 := ⟨h.1, h.1, h.2.2.1, h.2.2.2.1, Or.inr rfl⟩
theorem is_restore (h : Is s) : Is (o_restore s).2 := by
  unfold o_restore
  split
  · exact h.rf
  · exact ⟨h.2.1, h.2⟩
theorem rdl_ok : ∀ (k : Nat) (p n : Int) (W : zz_W), 0 ≤ p → unf T k p = -9 → Iv D W → Iv D (rdl T k p n W).2
  | 0, _, _, W, _, _, h => h
  | k + 1, p, n, W, hp, hu, h => by
    by_cases hlt : T 0 0 ≤ p
    · rw [rdl, if_pos hlt]; exact h
    · obtain ⟨hw, -, hu2⟩ := unf_step hp (by omega) hu
      rw [rdl, if_neg hlt]
      cases hs : stp T W p with
      | none => exact h
      | some V' => exact rdl_ok k _ _ V' (by omega) hu2 (stp_ok hw h hs)
theorem is_farm (h : Is s) : Is (o_farm s).2 := by
  have e : Iv 9999 (rdi s.2.2 s.1).2 := by
    unfold rdi
    split
    · exact h.1
    · rename_i hu
      have hu : ufi s.2.2 = -9 := by omega
      unfold ufi at hu
      split at hu
      · omega
      · exact rdl_ok 81 0 0 s.1 (by decide) hu h.1
  refine ⟨?_, h.2.1, ⟨show (0 : Int) ≤ 0 by decide, show (0 : Int) ≤ 80 by decide⟩, h.2.2.2.1, h.2.2.2.2⟩
  show Iv 9999 (if 0 < (rdi s.2.2 s.1).1 then (rdi s.2.2 s.1).2 else s.1)
  split
  · exact e
  · exact h.1
end IS1
/-! ===== the start ===== -/
def V00 : zz_W := fun a z => if a = 0 then (if z = 1 then -1 else if z = 8 then 10 else if z = 9 then 9 else 0) else 0
def s00 : zz_S := (V00, V00, fun _ _ => 0)
def m00 : zz_M := fun k j =>
  if k = 59 then (if j = 3 then 10 else if j = 4 then 9 else if j = 5 then -1 else if j = 17 then -1 else if j = 27 then -1 else 0) else
  if 48 ≤ k then 0 else if k % 8 = 0 then (if j = 8 then -9 else 0) else if k % 8 = 6 then (if j = 2 then 10 else if j = 3 then 9 else 0) else 0
theorem ok00 : okm m00 := by
  intro k j
  unfold m00
  repeat' split
  all_goals exact ⟨by decide, by decide⟩
theorem iv00 : Iv 9999 V00 := by
  refine ⟨by decide, Or.inr rfl, by decide, by decide, by decide, by decide, by decide, by decide, fun z _ _ => ⟨?_, ?_, ?_, ?_⟩, fun z _ _ => ?_, fun z _ _ => rfl⟩
  · exact ⟨Int.le_refl 0, show (0 : Int) ≤ 9 by decide⟩
  · exact ⟨Int.le_refl 0, show (0 : Int) ≤ 9 by decide⟩
  · exact ⟨Int.le_refl 0, show (0 : Int) ≤ 9 by decide⟩
  · exact ⟨Int.le_refl 0, show (0 : Int) ≤ 9 by decide⟩
  · exact ⟨Int.le_refl 0, show (0 : Int) ≤ 9 by decide⟩
theorem is00 : Is s00 := ⟨iv00, iv00, ⟨Int.le_refl 0, show (0 : Int) ≤ 80 by decide⟩, ⟨Int.le_refl 0, show (0 : Int) ≤ 8 by decide⟩, Or.inl rfl⟩
theorem yp00 {b : Nat} (h : b = 0 ∨ b = 8 ∨ b = 16 ∨ b = 24 ∨ b = 32 ∨ b = 40) : YP m00 b V00 := by
  rcases h with rfl | rfl | rfl | rfl | rfl | rfl <;>
    exact ⟨⟨rfl, rfl, rfl, rfl, rfl, rfl⟩, fun z h0 h1 => by rcases (show z = 0 ∨ z = 1 ∨ z = 2 ∨ z = 3 by omega) with rfl | rfl | rfl | rfl <;> rfl, fun z _ _ => ⟨rfl, rfl, rfl, rfl⟩, fun z _ _ => rfl⟩
theorem cp00 : CP m00 s00 :=
  ⟨⟨yp00 (by decide), yp00 (by decide), ⟨_, yp00 (by decide)⟩, ⟨_, yp00 (by decide)⟩, ⟨_, yp00 (by decide)⟩, ⟨_, yp00 (by decide)⟩, rfl⟩, rfl, fun _ _ _ => rfl, rfl, rfl, fun _ _ _ => rfl, fun _ _ _ => rfl⟩
theorem mps00 : MPS m00 s00 := by
  refine ⟨MP.mk ?_ ?_ ?_, fun h => absurd h (by decide), rfl, fun _ _ _ => rfl, rfl, rfl, fun _ _ _ => rfl, fun _ _ _ => rfl, rfl⟩
  · intro j hj
    have : ∀ j : Fin 10, m00 59 j.val = V00 0 (vf j.val) := by decide
    exact this ⟨j, hj⟩
  · intro a n ha hn
    match a, ha with
    | 0, _ => rfl
    | 1, _ => rfl
    | 2, _ => rfl
    | 3, _ => rfl
  · intro n hn
    rfl
