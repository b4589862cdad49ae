/-! PURE: the relation of the two sides -/
/-- the tape -/
def R1 (gX gM : St) : Prop := ∃ (len : Nat) (b : Nat → Nat), len ≤ 600 ∧ gX 1 1 = i3 len ∧ gM 0 1 = i3 len ∧ ∀ k, k < 600 → b k < 256 ∧ gX 16 k = i3 (b k) ∧ gM 1 k = i3 (b k)
/-- the place of the fault, how many were refused -/
def R2 (gX gM : St) : Prop := gX 1 7 = gM 0 3 ∧ gX 0 17 = gM 2 0 ∧ gX 0 18 = gM 2 1
def R4 (gX gM : St) : Prop := gX 0 16 = gM 0 33
/-- a state that is kept -/
def KX8 (row off : Nat) (s : AS) (g : St) : Prop := (∀ p, p < 8 → g row (off + p) = i3 (s.1 p) ∧ g row (off + 8 + p) = nm (s.2.1 p) ∧ g row (off + 16 + p) = yr (s.2.2.1 p)) ∧ g row (off + 24) = i3 s.2.2.2
def KM8 (row off n : Nat) (s : AS) (g : St) : Prop := (∀ p, p < 8 → g row (off + p) = i3 (s.1 p) ∧ g row (off + 8 + p) = nm (s.2.1 p) ∧ g row (off + 16 + p) = yr (s.2.2.1 p)) ∧ g row (off + 24) = i3 (msk (fun p => decide (s.2.2.1 p = 0)) n) ∧ g row (off + 25) = i3 s.2.2.2
def good (n : Nat) (s : AS) : Prop := BDs n s ∧ s.2.2.2 ≤ 900 ∧ ∃ d, WF s.2.1 s.2.2.1 d
def KP (rX oX rM oM n : Nat) (gX gM : St) : Prop := ∃ s, KX8 rX oX s gX ∧ KM8 rM oM n s gM ∧ good n s
/-- works and images -/
def R7 (n : Nat) (gX gM : St) : Prop := (∃ w, w ≤ 16 ∧ gX 12 2 = i3 w ∧ gM 0 32 = i3 w ∧ ∀ k, k < w → KP 43 (25 * k) (458 + k) 0 n gX gM) ∧ ∃ m, m ≤ 3 ∧ gX 12 3 = i3 m ∧ gM 0 34 = i3 m ∧ ∀ j, j < m → ∃ w, w ≤ 16 ∧ gX 44 (426 * j) = i3 w ∧ gM (474 + j) 0 = i3 w ∧ KP 44 (426 * j + 1) (474 + j) 1 n gX gM ∧ ∀ k, k < w → KP 44 (426 * j + 26 + 25 * k) (474 + j) (27 + 26 * k) n gX gM
/-- the book -/
def R6 (n : Nat) (gX gM : St) : Prop := ∃ (l : Nat) (A V B : Nat → Nat), l ≤ 8 ∧ gX 8 1 = i3 l ∧ gM 0 31 = i3 l ∧ (∀ k, k < l → gM (362 + k) 0 = i3 (A k) ∧ gM (362 + k) 1 = i3 (V k) ∧ A k < n ∧ V k ≤ 8 ∧ B (A k) = V k + 1) ∧ (0 < l → ∀ p, p < 8 → gX 35 p = yr (B p) ∧ (B p ≠ 0 → ∃ k, k < l ∧ A k = p) ∧ B p ≤ 9)
def R5 (gX gM : St) : Prop := ∃ (W : (Nat → Nat) → Nat) (n N : Nat) (K F D U T : Nat → Nat) (Y : Nat) (d : Nat → Nat), EC W n N K F D U T Y 10 gX ∧ EMd W n N K F D U T Y 16 gM ∧ Y ≤ 900 ∧ WF U T d ∧ R6 n gX gM ∧ R7 n gX gM
def R (gX : St) (_ : Sl) (gM : St) (_ : Sl) : Prop := R1 gX gM ∧ R2 gX gM ∧ R4 gX gM ∧ R5 gX gM
/-- what the relation looks at is kept -/
def KX (g g' : St) : Prop := ∀ p i, (p = 2 ∨ p = 10 ∨ p = 12 ∨ p = 16 ∨ p = 17 ∨ p = 19 ∨ p = 23 ∨ p = 35 ∨ (37 ≤ p ∧ p ≤ 39) ∨ p = 43 ∨ p = 44 ∨ (p = 0 ∧ 16 ≤ i ∧ i ≤ 18) ∨ (p = 1 ∧ (i = 1 ∨ i = 7)) ∨ (p = 4 ∧ i = 3) ∨ (p = 8 ∧ i = 1)) → g' p i = g p i
def KM (g g' : St) : Prop := ∀ p i, (p = 1 ∨ p = 2 ∨ p = 4 ∨ p = 8 ∨ p = 16 ∨ (34 ≤ p ∧ p < 202) ∨ (362 ≤ p ∧ p < 370) ∨ (458 ≤ p ∧ p < 477) ∨ (p = 0 ∧ (i = 1 ∨ i = 3 ∨ i = 17 ∨ (31 ≤ i ∧ i ≤ 34)))) → g' p i = g p i
theorem KX.rf {g : St} : KX g g := fun _ _ _ => rfl
theorem KM.rf {g : St} : KM g g := fun _ _ _ => rfl
theorem KX.tr {g g1 g2 : St} (h : KX g g1) (k : KX g1 g2) : KX g g2 := fun p i a => (k p i a).trans (h p i a)
theorem KM.tr {g g1 g2 : St} (h : KM g g1) (k : KM g1 g2) : KM g g2 := fun p i a => (k p i a).trans (h p i a)
theorem FX1.k {g g' : St} (h : FX1 g g') : KX g g' := fun p i a => by rw [h p (by omega) (by omega)]
theorem FM1.k {g g' : St} (h : FM1 g g') : KM g g' := fun p i a => by rw [h p (by omega) (by omega)]
theorem FX2.k {g g' : St} (h : FX2 11 g g') : KX g g' := fun p i a => by rw [h p (by omega) (by omega) (by omega) (by omega) (by omega) (by omega)]
theorem FM2.k {g g' : St} (h : FM2 17 g g') : KM g g' := fun p i a => by rw [h p (by omega) (by omega) (by omega)]
theorem KM.thrown {g : St} {v : Int32} : KM g (st g 0 0 v) := fun p i a => by rw [st_at, if_neg (by omega)]
theorem KX8.fr {row off : Nat} {s : AS} {g g' : St} (h : KX8 row off s g) (e : ∀ i, g' row i = g row i) : KX8 row off s g' := ⟨fun p hp => by rw [e, e, e]; exact h.1 p hp, by rw [e]; exact h.2⟩
theorem KM8.fr {row off n : Nat} {s : AS} {g g' : St} (h : KM8 row off n s g) (e : ∀ i, g' row i = g row i) : KM8 row off n s g' := ⟨fun p hp => by rw [e, e, e]; exact h.1 p hp, by rw [e]; exact h.2.1, by rw [e]; exact h.2.2⟩
theorem KP.fr {rX oX rM oM n : Nat} {gX gM gX' gM' : St} (h : KP rX oX rM oM n gX gM) (e : ∀ i, gX' rX i = gX rX i) (f : ∀ i, gM' rM i = gM rM i) : KP rX oX rM oM n gX' gM' := by
  obtain ⟨s, a, b, c⟩ := h
  exact ⟨s, a.fr e, b.fr f, c⟩
theorem R7.fr {n : Nat} {gX gM gX' gM' : St} (h : R7 n gX gM) (e : KX gX gX') (f : KM gM gM') : R7 n gX' gM' := by
  obtain ⟨⟨w, w1, w2, w3, w4⟩, m, m1, m2, m3, m4⟩ := h
  refine ⟨⟨w, w1, by rw [e 12 2 (by omega)]; exact w2, by rw [f 0 32 (by omega)]; exact w3, fun k hk => (w4 k hk).fr (fun i => e 43 i (by omega)) (fun i => f _ i (by omega))⟩, m, m1, by rw [e 12 3 (by omega)]; exact m2, by rw [f 0 34 (by omega)]; exact m3, fun j hj => ?_⟩
  obtain ⟨v, v1, v2, v3, v4, v5⟩ := m4 j hj
  exact ⟨v, v1, by rw [e 44 _ (by omega)]; exact v2, by rw [f _ 0 (by omega)]; exact v3, v4.fr (fun i => e 44 i (by omega)) (fun i => f _ i (by omega)), fun k hk => (v5 k hk).fr (fun i => e 44 i (by omega)) (fun i => f _ i (by omega))⟩
theorem R6.fr {n : Nat} {gX gM gX' gM' : St} (h : R6 n gX gM) (e : KX gX gX') (f : KM gM gM') : R6 n gX' gM' := by
  obtain ⟨l, A, V, B, l1, l2, l3, l4, l5⟩ := h
  refine ⟨l, A, V, B, l1, by rw [e 8 1 (by omega)]; exact l2, by rw [f 0 31 (by omega)]; exact l3, fun k hk => ?_, fun h0 p hp => ?_⟩
  · rw [f _ 0 (by omega), f _ 1 (by omega)]; exact l4 k hk
  · rw [e 35 p (by omega)]; exact l5 h0 p hp
theorem EC.frK {W : (Nat → Nat) → Nat} {n N : Nat} {K F D U T : Nat → Nat} {Y : Nat} {g g' : St} (h : EC W n N K F D U T Y 10 g) (e : KX g g') : EC W n N K F D U T Y 10 g' := by
  obtain ⟨hr, hS, hB, hC, hL, hW⟩ := h
  have E : ∀ p, (p = 2 ∨ p = 10 ∨ p = 17 ∨ p = 19 ∨ p = 23 ∨ (37 ≤ p ∧ p ≤ 39)) → g' p = g p := fun p hp => funext fun i => e p i (by omega)
  exact ⟨hr, hS.fr (E 10 (by omega)) (E _ (by omega)) (E _ (by omega)) (E _ (by omega)), hB, hC.fr (E 2 (by omega)) (E 17 (by omega)) (E 19 (by omega)), hL.fr (e 4 3 (by omega)) (E 23 (by omega)), hW⟩
theorem EMd.frK {W : (Nat → Nat) → Nat} {n N : Nat} {K F D U T : Nat → Nat} {Y : Nat} {g g' : St} (h : EMd W n N K F D U T Y 16 g) (e : KM g g') : EMd W n N K F D U T Y 16 g' := by
  obtain ⟨⟨hr, hS, hB, hC, hL, hW⟩, hd⟩ := h
  have E : ∀ p, (p = 4 ∨ p = 8 ∨ p = 16 ∨ (34 ≤ p ∧ p < 202)) → g' p = g p := fun p hp => funext fun i => e p i (by omega)
  refine ⟨⟨hr, hS.fr (E 16 (by omega)), hB, hC.fr hB.1 (E 4 (by omega)) (E 8 (by omega)) (fun p hp => E _ (by omega)), hL.fr (e 0 17 (by omega)) (fun p a b => E p (by omega)), hW⟩, fun p hp => ?_⟩
  rw [E 16 (by omega)]
  exact hd p hp
theorem R5.fr {gX gM gX' gM' : St} (h : R5 gX gM) (e : KX gX gX') (f : KM gM gM') : R5 gX' gM' := by
  obtain ⟨W, n, N, K, F, D, U, T, Y, d, hX, hM, hY, hW, h6, h7⟩ := h
  exact ⟨W, n, N, K, F, D, U, T, Y, d, hX.frK e, hM.frK f, hY, hW, h6.fr e f, h7.fr e f⟩
theorem R1.fr {gX gM gX' gM' : St} (h : R1 gX gM) (e : KX gX gX') (f : KM gM gM') : R1 gX' gM' := by
  obtain ⟨len, b, h1, h2, h3, h4⟩ := h
  exact ⟨len, b, h1, by rw [e 1 1 (by omega)]; exact h2, by rw [f 0 1 (by omega)]; exact h3, fun k hk => by rw [e 16 k (by omega), f 1 k (by omega)]; exact h4 k hk⟩
theorem R2.fr {gX gM gX' gM' : St} (h : R2 gX gM) (e : KX gX gX') (f : KM gM gM') : R2 gX' gM' := by
  obtain ⟨h1, h2, h3⟩ := h
  exact ⟨by rw [e 1 7 (by omega), f 0 3 (by omega)]; exact h1, by rw [e 0 17 (by omega), f 2 0 (by omega)]; exact h2, by rw [e 0 18 (by omega), f 2 1 (by omega)]; exact h3⟩
theorem R4.fr {gX gM gX' gM' : St} (h : R4 gX gM) (e : KX gX gX') (f : KM gM gM') : R4 gX' gM' := by
  unfold R4
  rw [e 0 16 (by omega), f 0 33 (by omega)]
  exact h
theorem R.fr {gX gM gX' gM' : St} {xX xM xX' xM' : Sl} (h : R gX xX gM xM) (e : KX gX gX') (f : KM gM gM') : R gX' xX' gM' xM' := ⟨h.1.fr e f, h.2.1.fr e f, h.2.2.1.fr e f, h.2.2.2.fr e f⟩
/-- refusals -/
theorem R.no0 {gX gM : St} {xX xM : Sl} (h : R gX xX gM xM) {v w : Int32} : R (st gX 0 17 (gX 0 17 + i3 1)) xX (st (st (st gM 0 0 v) 0 0 w) 2 0 (gM 2 0 + i3 1)) xM := by
  obtain ⟨h1, h2, h4, h5⟩ := h
  have e : ∀ p i, ¬ (p = 0 ∧ i = 17) → (st gX 0 17 (gX 0 17 + i3 1)) p i = gX p i := fun p i q => by rw [st_at, if_neg q]
  have f : ∀ p i, ¬ (p = 0 ∧ i = 0) → ¬ (p = 2 ∧ i = 0) → (st (st (st gM 0 0 v) 0 0 w) 2 0 (gM 2 0 + i3 1)) p i = gM p i := fun p i q q2 => by rw [st_at, if_neg q2, st_at, if_neg q, st_at, if_neg q]
  obtain ⟨len, b, a1, a2, a3, a4⟩ := h1
  obtain ⟨b1, b2, b3⟩ := h2
  refine ⟨⟨len, b, a1, by rw [e 1 1 (by omega)]; exact a2, by rw [f 0 1 (by omega) (by omega)]; exact a3, fun k hk => by rw [e 16 k (by omega), f 1 k (by omega) (by omega)]; exact a4 k hk⟩, ⟨by rw [e 1 7 (by omega), f 0 3 (by omega) (by omega)]; exact b1, ?_, by rw [e 0 18 (by omega), f 2 1 (by omega) (by omega)]; exact b3⟩, ?_, ?_⟩
  · rw [st_eq, st_eq, b2]
  · unfold R4
    rw [e 0 16 (by omega), f 0 33 (by omega) (by omega)]
    exact h4
  · obtain ⟨W, n, N, K, F, D, U, T, Y, d, hX, hM, hY, hW, h6, h7⟩ := h5
    refine ⟨W, n, N, K, F, D, U, T, Y, d, ?_, ?_, hY, hW, ?_, ?_⟩
    · obtain ⟨hr, hS, hB, hC, hL, hW2⟩ := hX
      exact ⟨hr, hS.fr (st_ne (by omega)) (st_ne (by omega)) (st_ne (by omega)) (st_ne (by omega)), hB, hC.fr (st_ne (by omega)) (st_ne (by omega)) (st_ne (by omega)), hL.fr (e 4 3 (by omega)) (st_ne (by omega)), hW2⟩
    · obtain ⟨⟨hr, hS, hB, hC, hL, hW2⟩, hd⟩ := hM
      have E : ∀ p, ¬ p = 0 → ¬ p = 2 → (st (st (st gM 0 0 v) 0 0 w) 2 0 (gM 2 0 + i3 1)) p = gM p := fun p q q2 => funext fun i => f p i (by omega) (by omega)
      exact ⟨⟨hr, hS.fr (E 16 (by omega) (by omega)), hB, hC.fr hB.1 (E 4 (by omega) (by omega)) (E 8 (by omega) (by omega)) (fun p hp => E _ (by omega) (by omega)), hL.fr (f 0 17 (by omega) (by omega)) (fun p a b => E p (by omega) (by omega)), hW2⟩, fun p hp => by rw [E 16 (by omega) (by omega)]; exact hd p hp⟩
    · obtain ⟨l, A, V, B, l1, l2, l3, l4, l5⟩ := h6
      refine ⟨l, A, V, B, l1, by rw [e 8 1 (by omega)]; exact l2, by rw [f 0 31 (by omega) (by omega)]; exact l3, fun k hk => ?_, fun h0 p hp => ?_⟩
      · rw [f _ 0 (by omega) (by omega), f _ 1 (by omega) (by omega)]; exact l4 k hk
      · rw [e 35 p (by omega)]; exact l5 h0 p hp
    · obtain ⟨⟨w', w1, w2, w3, w4⟩, m, m1, m2, m3, m4⟩ := h7
      refine ⟨⟨w', w1, by rw [e 12 2 (by omega)]; exact w2, by rw [f 0 32 (by omega) (by omega)]; exact w3, fun k hk => (w4 k hk).fr (fun i => e 43 i (by omega)) (fun i => f _ i (by omega) (by omega))⟩, m, m1, by rw [e 12 3 (by omega)]; exact m2, by rw [f 0 34 (by omega) (by omega)]; exact m3, fun j hj => ?_⟩
      obtain ⟨v, v1, v2, v3, v4, v5⟩ := m4 j hj
      exact ⟨v, v1, by rw [e 44 _ (by omega)]; exact v2, by rw [f _ 0 (by omega) (by omega)]; exact v3, v4.fr (fun i => e 44 i (by omega)) (fun i => f _ i (by omega) (by omega)), fun k hk => (v5 k hk).fr (fun i => e 44 i (by omega)) (fun i => f _ i (by omega) (by omega))⟩
theorem R.no1 {gX gM : St} {xX xM : Sl} (h : R gX xX gM xM) {v w : Int32} : R (st gX 0 18 (gX 0 18 + i3 1)) xX (st (st (st gM 0 0 v) 0 0 w) 2 1 (gM 2 1 + i3 1)) xM := by
  obtain ⟨h1, h2, h4, h5⟩ := h
  have e : ∀ p i, ¬ (p = 0 ∧ i = 18) → (st gX 0 18 (gX 0 18 + i3 1)) p i = gX p i := fun p i q => by rw [st_at, if_neg q]
  have f : ∀ p i, ¬ (p = 0 ∧ i = 0) → ¬ (p = 2 ∧ i = 1) → (st (st (st gM 0 0 v) 0 0 w) 2 1 (gM 2 1 + i3 1)) p i = gM p i := fun p i q q2 => by rw [st_at, if_neg q2, st_at, if_neg q, st_at, if_neg q]
  obtain ⟨len, b, a1, a2, a3, a4⟩ := h1
  obtain ⟨b1, b2, b3⟩ := h2
  refine ⟨⟨len, b, a1, by rw [e 1 1 (by omega)]; exact a2, by rw [f 0 1 (by omega) (by omega)]; exact a3, fun k hk => by rw [e 16 k (by omega), f 1 k (by omega) (by omega)]; exact a4 k hk⟩, ⟨by rw [e 1 7 (by omega), f 0 3 (by omega) (by omega)]; exact b1, by rw [e 0 17 (by omega), f 2 0 (by omega) (by omega)]; exact b2, ?_⟩, ?_, ?_⟩
  · rw [st_eq, st_eq, b3]
  · unfold R4
    rw [e 0 16 (by omega), f 0 33 (by omega) (by omega)]
    exact h4
  · obtain ⟨W, n, N, K, F, D, U, T, Y, d, hX, hM, hY, hW, h6, h7⟩ := h5
    refine ⟨W, n, N, K, F, D, U, T, Y, d, ?_, ?_, hY, hW, ?_, ?_⟩
    · obtain ⟨hr, hS, hB, hC, hL, hW2⟩ := hX
      exact ⟨hr, hS.fr (st_ne (by omega)) (st_ne (by omega)) (st_ne (by omega)) (st_ne (by omega)), hB, hC.fr (st_ne (by omega)) (st_ne (by omega)) (st_ne (by omega)), hL.fr (e 4 3 (by omega)) (st_ne (by omega)), hW2⟩
    · obtain ⟨⟨hr, hS, hB, hC, hL, hW2⟩, hd⟩ := hM
      have E : ∀ p, ¬ p = 0 → ¬ p = 2 → (st (st (st gM 0 0 v) 0 0 w) 2 1 (gM 2 1 + i3 1)) p = gM p := fun p q q2 => funext fun i => f p i (by omega) (by omega)
      exact ⟨⟨hr, hS.fr (E 16 (by omega) (by omega)), hB, hC.fr hB.1 (E 4 (by omega) (by omega)) (E 8 (by omega) (by omega)) (fun p hp => E _ (by omega) (by omega)), hL.fr (f 0 17 (by omega) (by omega)) (fun p a b => E p (by omega) (by omega)), hW2⟩, fun p hp => by rw [E 16 (by omega) (by omega)]; exact hd p hp⟩
    · obtain ⟨l, A, V, B, l1, l2, l3, l4, l5⟩ := h6
      refine ⟨l, A, V, B, l1, by rw [e 8 1 (by omega)]; exact l2, by rw [f 0 31 (by omega) (by omega)]; exact l3, fun k hk => ?_, fun h0 p hp => ?_⟩
      · rw [f _ 0 (by omega) (by omega), f _ 1 (by omega) (by omega)]; exact l4 k hk
      · rw [e 35 p (by omega)]; exact l5 h0 p hp
    · obtain ⟨⟨w', w1, w2, w3, w4⟩, m, m1, m2, m3, m4⟩ := h7
      refine ⟨⟨w', w1, by rw [e 12 2 (by omega)]; exact w2, by rw [f 0 32 (by omega) (by omega)]; exact w3, fun k hk => (w4 k hk).fr (fun i => e 43 i (by omega)) (fun i => f _ i (by omega) (by omega))⟩, m, m1, by rw [e 12 3 (by omega)]; exact m2, by rw [f 0 34 (by omega) (by omega)]; exact m3, fun j hj => ?_⟩
      obtain ⟨v, v1, v2, v3, v4, v5⟩ := m4 j hj
      exact ⟨v, v1, by rw [e 44 _ (by omega)]; exact v2, by rw [f _ 0 (by omega) (by omega)]; exact v3, v4.fr (fun i => e 44 i (by omega)) (fun i => f _ i (by omega) (by omega)), fun k hk => (v5 k hk).fr (fun i => e 44 i (by omega)) (fun i => f _ i (by omega) (by omega))⟩
