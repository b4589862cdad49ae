/-! PURE: the start -/
theorem start_R : ∃ oX1 oX2 oM1 oM2, fX_Law_becomePlain 4 gX0 = some oX1 ∧ fX_State_begin 10 oX1 = some oX2 ∧ fM_tellsNothing gM0 = some oM1 ∧ fM_beginsAnew oM1 = some oM2 ∧ R oX2 xX0 oM2 xM0 := by
  have gx : ∀ p i, ¬ (p = 1 ∧ i = 7) → ¬ (p = 2 ∧ i = 1) → ¬ (p = 3 ∧ i = 1) → gX0 p i = i3 0 := fun p i z1 z2 z3 => by
    unfold gX0
    rw [st_at, if_neg z3, st_at, if_neg z2, st_at, if_neg z1]
    rfl
  have gx17 : gX0 1 7 = m1 := by
    unfold gX0
    rw [st_at, if_neg (by omega), st_at, if_neg (by omega), st_eq]
    rfl
  have gx21 : gX0 2 1 = i3 3 := by
    unfold gX0
    rw [st_at, if_neg (by omega), st_eq]
    rfl
  have gm : ∀ p i, ¬ (p = 0 ∧ i = 3) → gM0 p i = i3 0 := fun p i z => by
    unfold gM0
    rw [st_at, if_neg z]
    rfl
  have gm3 : gM0 0 3 = m1 := by
    unfold gM0
    rw [st_eq]
    rfl
  obtain ⟨oX1, a1, a2, a3, a4⟩ := X_plain gX0
  have x20 : oX1 2 0 = i3 0 := (a4 2 0 (by omega) (by omega)).trans (gx 2 0 (by omega) (by omega) (by omega))
  obtain ⟨oX2, b1, b2, b3⟩ := X_begin (n := 0) (D := fun _ => 0) (g := oX1) (by omega) x20 (fun p hp => absurd hp (Nat.not_lt_zero p))
  obtain ⟨oM1, c1, c2, c3, c4, c5⟩ := M_tells gM0
  obtain ⟨oM2, d1, d2, d3, d4, d5, d6, d7, d8, d9⟩ := M_begins (n := 0) (N := 3) (g := oM1) (by omega) c2 c3
  have X : ∀ p i, ¬ p = 23 → ¬ (p = 4 ∧ i = 3) → ¬ (p = 10 ∧ i = 5) → ¬ (37 ≤ p ∧ p ≤ 39) → oX2 p i = gX0 p i := fun p i z1 z2 z3 z4 => (b3 p i z3 z4).trans (a4 p i z1 z2)
  have M : ∀ p i, ¬ p = 3 → ¬ p = 7 → ¬ p = 4 → ¬ p = 8 → ¬ p = 16 → ¬ (34 ≤ p ∧ p < 42) → ¬ (p = 0 ∧ (i = 17 ∨ (31 ≤ i ∧ i ≤ 34))) → oM2 p i = gM0 p i := fun p i z1 z2 z3 z4 z5 z6 z7 => (d9 p i z3 z4 z5 z6 z7).trans (c5 p i z1 z2)
  refine ⟨oX1, oX2, oM1, oM2, a1, b1, c1, d1, ⟨0, fun _ => 0, by omega, ?_, ?_, fun k hk => ⟨(by decide : (0 : Nat) < 256), ?_, ?_⟩⟩, ⟨?_, ?_, ?_⟩, ?_, ?_⟩
  · rw [X 1 1 (by omega) (by omega) (by omega) (by omega)]; exact gx 1 1 (by omega) (by omega) (by omega)
  · rw [M 0 1 (by omega) (by omega) (by omega) (by omega) (by omega) (by omega) (by omega)]; exact gm 0 1 (by omega)
  · rw [X 16 k (by omega) (by omega) (by omega) (by omega)]; exact gx 16 k (by omega) (by omega) (by omega)
  · rw [M 1 k (by omega) (by omega) (by omega) (by omega) (by omega) (by omega) (by omega)]; exact gm 1 k (by omega)
  · rw [X 1 7 (by omega) (by omega) (by omega) (by omega), M 0 3 (by omega) (by omega) (by omega) (by omega) (by omega) (by omega) (by omega), gx17, gm3]
  · rw [X 0 17 (by omega) (by omega) (by omega) (by omega), M 2 0 (by omega) (by omega) (by omega) (by omega) (by omega) (by omega) (by omega), gx 0 17 (by omega) (by omega) (by omega), gm 2 0 (by omega)]
  · rw [X 0 18 (by omega) (by omega) (by omega) (by omega), M 2 1 (by omega) (by omega) (by omega) (by omega) (by omega) (by omega) (by omega), gx 0 18 (by omega) (by omega) (by omega), gm 2 1 (by omega)]
  · show oX2 0 16 = oM2 0 33
    rw [X 0 16 (by omega) (by omega) (by omega) (by omega), d8.2.2.2.1, gx 0 16 (by omega) (by omega) (by omega)]
  · refine anew (gX := gX0) (gM := gM0) (n := 0) (N := 3) (c := 0) (K := fun _ => 0) (F := fun _ => 0) (D := fun _ => 0) ⟨by omega, by omega, by omega, fun p hp => absurd hp (Nat.not_lt_zero p), fun p hp => absurd hp (Nat.not_lt_zero p)⟩ ?_ ?_ (fun p hp => absurd hp (Nat.not_lt_zero p)) (fun p hp => absurd hp (Nat.not_lt_zero p)) b2 ?_ (fun j hj => ?_) ?_ ⟨?_, ?_⟩ d2 d3 (fun p hp => absurd hp (Nat.not_lt_zero p)) (fun p hp => absurd hp (Nat.not_lt_zero p)) (fun p hp => ⟨?_, (d5 p hp).2.2.1, (d5 p hp).2.2.2⟩) d6 d7 d8
    · rw [X 2 0 (by omega) (by omega) (by omega) (by omega)]; exact gx 2 0 (by omega) (by omega) (by omega)
    · rw [X 2 1 (by omega) (by omega) (by omega) (by omega)]; exact gx21
    · rw [b3 4 3 (by omega) (by omega)]; exact a2
    · rw [b3 23 j (by omega) (by omega)]; exact a3 j hj
    · rw [X 8 1 (by omega) (by omega) (by omega) (by omega)]; exact gx 8 1 (by omega) (by omega) (by omega)
    · rw [X 12 2 (by omega) (by omega) (by omega) (by omega)]; exact gx 12 2 (by omega) (by omega) (by omega)
    · rw [X 12 3 (by omega) (by omega) (by omega) (by omega)]; exact gx 12 3 (by omega) (by omega) (by omega)
    · rw [(d5 p hp).2.1, if_neg (Nat.not_lt_zero p), if_neg (Nat.not_lt_zero p)]
theorem all_S : Sims R := ⟨S_feed, S_peninsula, S_law, S_work, S_book, S_fault, S_undo, S_told, S_person, S_will, S_lends, S_would, S_lender, S_ahead, S_truly, S_chain, S_served, S_giver, S_order, S_fits, S_look, S_neighbours, S_home, S_flowers, S_honoured, S_sued, S_free, S_kin, S_willing, S_below, S_debtless, S_after, S_latest, S_century, S_span, S_image, S_restore, S_status, S_count⟩
