/-! PURE: text: digits of the reference -/
theorem M_digs {e c n : Nat} {b : Nat → Nat} {g : St} (h : TMt e b g) (hc : g 0 4 = i3 c) (hr : RUN (dgt b) e c n) (x1 x2 x3 : Int32) : ∃ C g', C = 100000 ∧ lp (fM_number_L44 x1 x2 x3) fuel (i3 0, g) = some (i3 (cp C (dv b c n)), g') ∧ g' 0 4 = i3 (c + n) ∧ ∀ p i, ¬ (p = 0 ∧ i = 4) → g' p i = g p i := by
  obtain ⟨r1, r2, r3⟩ := hr
  have h600 := h.1
  obtain ⟨C, hC⟩ : ∃ C, C = 100000 := ⟨_, rfl⟩
  have step : ∀ (v d k : Nat) (y : St), v ≤ C → 48 ≤ d → d ≤ 57 → y 0 4 = i3 k → fM_byteAt (i3 k) y = some (i3 d) → fM_isDigit (i3 d) = i3 1 → fM_number_L44 x1 x2 x3 (i3 v, y) = some (.inl (i3 (cp C (10 * v + (d - 48))), st y 0 4 (i3 (k + 1)))) := by
    rw [hC]
    exact fun v d k y a1 a2 a3 a4 a5 a6 => M_dstep a1 a2 a3 a4 a5 a6
  have hpos : 0 < C := by omega
  obtain ⟨z, e1, g', hz, h1, f1⟩ : ∃ z, lp (fM_number_L44 x1 x2 x3) fuel (i3 0, g) = some z ∧ ∃ g', z = (i3 (cp C (dv b c n)), g') ∧ g' 0 4 = i3 (c + n) ∧ ∀ p i, ¬ (p = 0 ∧ i = 4) → g' p i = g p i := by
    clear hC
    refine lp_all (fun k z => ∃ y : St, z = (i3 (cp C (dv b c k)), y) ∧ y 0 4 = i3 (c + k) ∧ ∀ p i, ¬ (p = 0 ∧ i = 4) → y p i = g p i) (fun z : Int32 × St => ∃ g', z = (i3 (cp C (dv b c n)), g') ∧ g' 0 4 = i3 (c + n) ∧ ∀ p i, ¬ (p = 0 ∧ i = 4) → g' p i = g p i) n (by omega) ?_ ?_ ⟨g, by rw [show cp C (dv b c 0) = 0 from if_pos hpos], hc, fun _ _ _ => rfl⟩
    · rintro k z hk ⟨y, rfl, z1, z2⟩
      have t5 := ((h.fr z2).2.2 (c + k) (by omega)).1
      have t4 := (h.fr z2).byteAt (k := c + k) (by omega)
      rw [if_pos (by omega)] at t4
      obtain ⟨d1, d2⟩ := r2 k hk
      have t6 := digM (b (c + k)) t5
      rw [if_pos ⟨d1, d2⟩] at t6
      have s : cp C (dv b c (k + 1)) = cp C (10 * cp C (dv b c k) + (b (c + k) - 48)) := (cp_s _ _ _).symm
      exact ⟨_, step _ _ _ y (cp_le C (dv b c k)) d1 d2 z1 t4 t6, st y 0 4 (i3 (c + k + 1)), by rw [s], st_eq _ _ _ _, fun p i w => by rw [st_at, if_neg w]; exact z2 p i w⟩
    · rintro z ⟨y, rfl, z1, z2⟩
      have t4 := (h.fr z2).byteAt (k := c + n) (by omega)
      refine ⟨_, ?_, y, rfl, z1, z2⟩
      show (fM_byteAt (y 0 4) y).bind _ = _
      by_cases q : c + n < e
      · have t5 := ((h.fr z2).2.2 (c + n) (by omega)).1
        have t6 := digM (b (c + n)) t5
        rw [if_neg (show ¬ (48 ≤ b (c + n) ∧ b (c + n) ≤ 57) from r3 q)] at t6
        rw [if_pos q] at t4
        rw [z1, t4, ob_s, t6, if_pos (show i3 0 = (0 : Int32) from rfl)]
      · rw [if_neg q] at t4
        rw [z1, t4, ob_s, digM1, if_pos (show i3 0 = (0 : Int32) from rfl)]
  rw [hz] at e1
  exact ⟨C, g', hC, e1, h1, f1⟩
