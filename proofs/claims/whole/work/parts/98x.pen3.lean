/-! PURE: peninsula: all begins anew; the call -/
theorem st_i {g : St} {p i b : Nat} {v : Int32} (h : ¬ b = i) : st g p i v p b = g p b := by rw [st_at, if_neg (fun z => h z.2)]
def addAll : List Nat → St → Option St
  | [], g => some g
  | c :: L, g => (fX_Law_add 4 (i3 c) g).bind fun g1 => addAll L g1
theorem addAll_ok : ∀ (L : List Nat) (k : Nat) (g : St), g 4 3 = i3 k → k + L.length ≤ 150 → ∃ g', addAll L g = some g' ∧ g' 4 3 = i3 (k + L.length) ∧ (∀ j, j < k → g' 23 j = g 23 j) ∧ (∀ j, j < L.length → g' 23 (k + j) = i3 (L.getD j 0)) ∧ ∀ p i, ¬ p = 23 → ¬ (p = 4 ∧ i = 3) → g' p i = g p i
  | [], k, g, h, _ => ⟨g, rfl, h, fun _ _ => rfl, fun j hj => absurd hj (Nat.not_lt_zero j), fun _ _ _ _ => rfl⟩
  | c :: L, k, g, h, hl => by
    rw [List.length_cons] at hl
    obtain ⟨g1, hg1⟩ : ∃ z, z = st (st g 23 k (i3 c)) 4 3 (i3 (k + 1)) := ⟨_, rfl⟩
    have e1 : fX_Law_add 4 (i3 c) g = some g1 := by
      unfold fX_Law_add
      rw [h]
      show (if i3 150 ≤ i3 k then _ else (fX_Rows_put 23 (i3 k) (i3 c) g).bind _) = _
      rw [if_neg (i3_nle (by omega) (by omega)), pu150 (by omega) (by omega), ob_s]
      show some (st (st g 23 k (i3 c)) 4 3 ((st g 23 k (i3 c)) 4 3 + i3 1)) = _
      rw [st_at, if_neg (by omega), h, i3_add, ← hg1]
    have f1 : ∀ p i, ¬ (p = 23 ∧ i = k) → ¬ (p = 4 ∧ i = 3) → g1 p i = g p i := fun p i z1 z2 => by rw [hg1, st_at, if_neg z2, st_at, if_neg z1]
    obtain ⟨g', a1, a2, a3, a4, a5⟩ := addAll_ok L (k + 1) g1 (by rw [hg1, st_eq]) (by omega)
    refine ⟨g', ?_, by rw [a2, List.length_cons]; congr 1; omega, fun j hj => (a3 j (by omega)).trans (f1 23 j (by omega) (by omega)), fun j hj => ?_, fun p i z1 z2 => (a5 p i z1 z2).trans (f1 p i (by omega) z2)⟩
    · show ((fX_Law_add 4 (i3 c) g).bind fun g1 => addAll L g1) = _
      rw [e1, ob_s, a1]
    · rcases j with _ | j
      · rw [Nat.add_zero, a3 k (by omega), hg1, st_at, if_neg (by omega), st_eq]
        rfl
      · rw [List.length_cons] at hj
        rw [show k + (j + 1) = k + 1 + j by omega, a4 j (by omega)]
        rfl
theorem X_plain (g : St) : ∃ g', fX_Law_becomePlain 4 g = some g' ∧ g' 4 3 = i3 11 ∧ (∀ j, j < 11 → g' 23 j = i3 (plainL.getD j 0)) ∧ ∀ p i, ¬ p = 23 → ¬ (p = 4 ∧ i = 3) → g' p i = g p i := by
  obtain ⟨g', a1, a2, a3, a4, a5⟩ := addAll_ok plainL 0 (st g 4 3 (i3 0)) (st_eq _ _ _ _) (by decide)
  refine ⟨g', ?_, a2, fun j hj => ?_, fun p i z1 z2 => (a5 p i z1 z2).trans (by rw [st_at, if_neg z2])⟩
  · rw [← a1]
    simp only [fX_Law_becomePlain, fX_Law_clear, addAll, plainL, lt1_e, li_0, li_1, li_2, li_3, li_4, li_5, li_6, li_7, li_8, li_9, li_10, li_11, li_12, li_13, li_14, li_15, li_16, li_17, li_18, li_19, li_20, li_21, li_22, li_23, li_24, li_25, li_26, li_27, li_28, li_29, li_30, li_31, li_32, li_33, li_34, li_35, li_36, li_37, li_38, li_39, li_40, li_41, li_42, li_43, li_44, li_45, li_46, li_47, li_48, li_49, li_50, li_51, li_52, li_53, li_54, li_55, li_56, li_57, li_58, li_59, li_60, li_63, li_64, li_72, li_76, li_77, li_91, li_93, li_96, li_97, li_99, li_108, li_109, li_120, li_122, li_150, li_200, li_255, li_400, li_426, li_600, li_900, li_999, li_1000, li_1002, li_1003, li_2000, li_2042, li_2043, li_2045, li_10000, li_32767, li_100000, li_1000000, li_m1, li_m1b]
  · have := a4 j hj
    rw [Nat.zero_add] at this
    exact this
theorem X_begin {n : Nat} {D : Nat → Nat} {g : St} (hn : n ≤ 8) (h0 : g 2 0 = i3 n) (hD : ∀ p, p < n → g 18 p = i3 (D p)) : ∃ g', fX_State_begin 10 g = some g' ∧ SX 10 (fun p => if p < n then D p else 0) (fun _ => 8) (fun _ => 0) 0 g' ∧ ∀ p i, ¬ (p = 10 ∧ i = 5) → ¬ (37 ≤ p ∧ p ≤ 39) → g' p i = g p i := by
  obtain ⟨g1, hg1⟩ : ∃ z, z = st g 10 5 (i3 0) := ⟨_, rfl⟩
  have f1 : ∀ p i, ¬ (p = 10 ∧ i = 5) → g1 p i = g p i := fun p i z => by rw [hg1, st_at, if_neg z]
  have r2 : rX 10 2 = 37 := rfl
  have r3 : rX 10 3 = 38 := rfl
  have r4 : rX 10 4 = 39 := rfl
  obtain ⟨g', e1, k1, k2⟩ : ∃ g', lp (fX_State_begin_L7 10) fuel (i3 0, g1) = some g' ∧ (∀ p, p < 8 → g' 37 p = i3 (if p < n then D p else 0) ∧ g' 38 p = m1 ∧ g' 39 p = m1) ∧ ∀ p i, ¬ (37 ≤ p ∧ p ≤ 39) → g' p i = g1 p i := by
    refine lp_all (fun k z => ∃ s : St, z = (i3 k, s) ∧ (∀ p, p < k → s 37 p = i3 (if p < n then D p else 0) ∧ s 38 p = m1 ∧ s 39 p = m1) ∧ ∀ p i, ¬ (37 ≤ p ∧ p ≤ 39) → s p i = g1 p i) (fun g' : St => (∀ p, p < 8 → g' 37 p = i3 (if p < n then D p else 0) ∧ g' 38 p = m1 ∧ g' 39 p = m1) ∧ ∀ p i, ¬ (37 ≤ p ∧ p ≤ 39) → g' p i = g1 p i) 8 (by omega) ?_ ?_ ⟨g1, rfl, fun p hp => by omega, fun _ _ _ => rfl⟩
    · rintro k z hk ⟨s, rfl, s1, s2⟩
      obtain ⟨s', hs'⟩ : ∃ z, z = st (st (st s 37 k (i3 (if k < n then D k else 0))) 38 k m1) 39 k m1 := ⟨_, rfl⟩
      have hb : ∀ v, v = i3 (if k < n then D k else 0) → fX_State_begin_b44 10 (i3 k) (i3 k) v s = some (.inl (i3 (k + 1), s')) := fun v hv => by
        unfold fX_State_begin_b44
        rw [r2, pu8 (by omega) hk, ob_s]
        show (fX_Rows_put (rX 10 3) (i3 k) m1 _).bind _ = _
        rw [r3, pu8 (by omega) hk, ob_s]
        show (fX_Rows_put (rX 10 4) (i3 k) m1 _).bind _ = _
        rw [r4, pu8 (by omega) hk, ob_s, hv, ← hs']
        show some (Sum.inl (i3 k + i3 1, s')) = _
        rw [i3_add]
      refine ⟨(i3 (k + 1), s'), ?_, s', rfl, fun p hp => ?_, fun p i w => by rw [hs', st_at, if_neg (by omega), st_at, if_neg (by omega), st_at, if_neg (by omega)]; exact s2 p i w⟩
      · unfold fX_State_begin_L7
        show (if i3 8 ≤ i3 k then _ else if s 2 0 ≤ i3 k then fX_State_begin_b44 10 (i3 k) (i3 k) (i3 0) s else (fX_Rows_at 18 (i3 k) s).bind fun r37 => fX_State_begin_b44 10 (i3 k) (i3 k) r37 s) = _
        rw [if_neg (i3_nle (by omega) hk), s2 2 0 (by omega), f1 2 0 (by omega), h0]
        by_cases q : k < n
        · rw [if_neg (i3_nle (by omega) q), at8 (by omega) hk, ob_s, s2 18 k (by omega), f1 18 k (by omega), hD k q]
          exact hb _ (by rw [if_pos q])
        · rw [if_pos (i3_yle (by omega) (by omega))]
          exact hb _ (by rw [if_neg q])
      · rw [hs']
        by_cases w : p = k
        · subst w
          refine ⟨?_, ?_, ?_⟩
          · rw [st_at, if_neg (by omega), st_at, if_neg (by omega), st_eq]
          · rw [st_at, if_neg (by omega), st_eq]
          · rw [st_eq]
        · obtain ⟨t1, t2, t3⟩ := s1 p (by omega)
          refine ⟨?_, ?_, ?_⟩
          · rw [st_ne (by omega), st_ne (by omega), st_i w]
            exact t1
          · rw [st_ne (by omega), st_i w, st_ne (by omega)]
            exact t2
          · rw [st_i w, st_ne (by omega), st_ne (by omega)]
            exact t3
    · rintro z ⟨s, rfl, s1, s2⟩
      refine ⟨s, ?_, s1, s2⟩
      unfold fX_State_begin_L7
      show (if i3 8 ≤ i3 8 then _ else _) = _
      rw [if_pos (i3_yle (by omega) (Nat.le_refl _))]
  refine ⟨g', ?_, ⟨fun p hp => (k1 p hp).1, fun p hp => (k1 p hp).2.1, fun p hp => (k1 p hp).2.2, ?_⟩, fun p i w1 w2 => (k2 p i w2).trans (f1 p i w1)⟩
  · unfold fX_State_begin fX_State_begin_b7
    show (lp (fX_State_begin_L7 10) fuel (i3 0, st g 10 5 (i3 0))).bind _ = _
    rw [← hg1, e1, ob_s]
  · show g' 10 5 = i3 0
    rw [k2 10 5 (by omega), hg1, st_eq]
theorem all1 : ∀ n, n ≤ 8 → ((1 : Int32) <<< (i3 n &&& (31 : Int32))) - (1 : Int32) = i3 (msk (fun p => decide ((fun _ => 0 : Nat → Nat) p = 0)) n) := by decide +kernel
theorem M_tells (g : St) : ∃ g', fM_tellsNothing g = some g' ∧ g' 3 0 = i3 0 ∧ g' 3 1 = i3 3 ∧ (∀ p, p < 8 → g' 7 p = i3 0) ∧ ∀ p i, ¬ p = 3 → ¬ p = 7 → g' p i = g p i := by
  obtain ⟨g1, hg1⟩ : ∃ z, z = st (st g 3 0 (i3 0)) 3 1 (i3 3) := ⟨_, rfl⟩
  obtain ⟨g', e1, k1, k2⟩ : ∃ g', lp fM_tellsNothing_L16 fuel (i3 0, g1) = some g' ∧ (∀ p, p < 8 → g' 7 p = i3 0) ∧ ∀ p i, ¬ p = 7 → g' p i = g1 p i := by
    refine lp_all (fun k z => ∃ s : St, z = (i3 k, s) ∧ (∀ p, p < k → s 7 p = i3 0) ∧ ∀ p i, ¬ p = 7 → s p i = g1 p i) (fun g' : St => (∀ p, p < 8 → g' 7 p = i3 0) ∧ ∀ p i, ¬ p = 7 → g' p i = g1 p i) 8 (by omega) ?_ ?_ ⟨g1, rfl, fun p hp => by omega, fun _ _ _ => rfl⟩
    · rintro k z hk ⟨s, rfl, s1, s2⟩
      refine ⟨(i3 (k + 1), st s 7 k (i3 0)), ?_, _, rfl, fun p hp => ?_, fun p i w => by rw [st_at, if_neg (by omega)]; exact s2 p i w⟩
      · unfold fM_tellsNothing_L16
        show (if i3 8 ≤ i3 k then _ else _) = _
        rw [if_neg (i3_nle (by omega) hk), if_pos (i3_in (by omega) hk), i3_nat (by omega)]
        show some (Sum.inl (i3 k + i3 1, _)) = _
        rw [i3_add]
        rfl
      · rw [st_at]
        by_cases w : p = k
        · rw [if_pos ⟨rfl, w⟩]
        · rw [if_neg (by omega)]
          exact s1 p (by omega)
    · rintro z ⟨s, rfl, s1, s2⟩
      refine ⟨s, ?_, s1, s2⟩
      unfold fM_tellsNothing_L16
      show (if i3 8 ≤ i3 8 then _ else _) = _
      rw [if_pos (i3_yle (by omega) (Nat.le_refl _))]
  refine ⟨g', ?_, ?_, ?_, k1, fun p i w1 w2 => ?_⟩
  · unfold fM_tellsNothing fM_tellsNothing_b16
    show (lp fM_tellsNothing_L16 fuel (i3 0, st (st g 3 0 (i3 0)) 3 1 (i3 3))).bind _ = _
    rw [← hg1, e1, ob_s]
  · rw [k2 3 0 (by omega), hg1, st_at, if_neg (by omega), st_eq]
  · rw [k2 3 1 (by omega), hg1, st_eq]
  · rw [k2 p i w2, hg1, st_at, if_neg (by omega), st_at, if_neg (by omega)]
theorem M_begins {n N : Nat} {g : St} (hn : n ≤ 8) (h0 : g 3 0 = i3 n) (h1 : g 3 1 = i3 N) : ∃ g', fM_beginsAnew g = some g' ∧ g' 4 0 = i3 n ∧ g' 4 1 = i3 N ∧ (∀ p i, p < n → i < 2 → g' (34 + p) i = g (26 + p) i) ∧ (∀ p, p < 8 → g' 8 p = g 7 p ∧ g' 16 p = (if p < n then g (26 + p) 1 else i3 0) ∧ g' 16 (8 + p) = m1 ∧ g' 16 (16 + p) = m1) ∧ g' 16 24 = i3 (msk (fun p => decide ((fun _ => 0 : Nat → Nat) p = 0)) n) ∧ g' 16 25 = i3 0 ∧ (g' 0 17 = i3 0 ∧ g' 0 31 = i3 0 ∧ g' 0 32 = i3 0 ∧ g' 0 33 = i3 0 ∧ g' 0 34 = i3 0) ∧ ∀ p i, ¬ p = 4 → ¬ p = 8 → ¬ p = 16 → ¬ (34 ≤ p ∧ p < 42) → ¬ (p = 0 ∧ (i = 17 ∨ (31 ≤ i ∧ i ≤ 34))) → g' p i = g p i := by
  obtain ⟨g1, hg1⟩ : ∃ z, z = st (st g 4 0 (i3 n)) 4 1 (i3 N) := ⟨_, rfl⟩
  have f1 : ∀ p i, ¬ p = 4 → g1 p i = g p i := fun p i z => by rw [hg1, st_at, if_neg (by omega), st_at, if_neg (by omega)]
  have e2 : lp fM_beginsAnew_L2 fuel (i3 0, g) = some g1 := by
    rw [show fuel = 999997 + 1 + 1 + 1 from rfl]
    have s0 : fM_beginsAnew_L2 (i3 0, g) = some (.inl (i3 1, st g 4 0 (i3 n))) := by
      unfold fM_beginsAnew_L2
      show (if i3 2 ≤ i3 0 then _ else if ¬ (i3 0 < 0 ∨ 2 ≤ (i3 0).toNatClampNeg) then some (Sum.inl (i3 0 + i3 1, st g 4 (i3 0).toNatClampNeg (g 3 (i3 0).toNatClampNeg))) else none) = _
      rw [if_neg (i3_nle (by omega) (by omega)), if_pos (i3_in (by omega) (by omega)), i3_nat (by omega), i3_add, h0]
    have s1 : fM_beginsAnew_L2 (i3 1, st g 4 0 (i3 n)) = some (.inl (i3 2, g1)) := by
      unfold fM_beginsAnew_L2
      show (if i3 2 ≤ i3 1 then _ else if ¬ (i3 1 < 0 ∨ 2 ≤ (i3 1).toNatClampNeg) then some (Sum.inl (i3 1 + i3 1, st (st g 4 0 (i3 n)) 4 (i3 1).toNatClampNeg ((st g 4 0 (i3 n)) 3 (i3 1).toNatClampNeg))) else none) = _
      rw [if_neg (i3_nle (by omega) (by omega)), if_pos (i3_in (by omega) (by omega)), i3_nat (by omega), i3_add, st_at, if_neg (by omega), h1, ← hg1]
    have s2 : fM_beginsAnew_L2 (i3 2, g1) = some (.inr g1) := by
      unfold fM_beginsAnew_L2
      show (if i3 2 ≤ i3 2 then _ else _) = _
      rw [if_pos (i3_yle (by omega) (Nat.le_refl _))]
    rw [lp_inl s0, lp_inl s1, lp_inr s2]
  obtain ⟨g2, hg2⟩ : ∃ z, z = layS g1 26 34 n := ⟨_, rfl⟩
  have e3 : fM_lays 5 6 (i3 n) g1 = some g2 := by
    rw [hg2]
    exact M_lays (a := 26) (b := 34) rfl rfl (by show n ≤ 8; exact hn) (by show n ≤ 8; exact hn) (fun k hk => (ln26 k (by omega)).1) (fun k hk => (ln26 k (by omega)).2.1) (by omega) (by omega) g1
  have f2 : ∀ p i, ¬ (34 ≤ p ∧ p < 42) → g2 p i = g1 p i := fun p i z => by rw [hg2, layS_out (by omega)]
  have l2 : ∀ p i, p < n → i < 2 → g2 (34 + p) i = g (26 + p) i := fun p i hp hi => by rw [hg2, layS_in hp hi, f1 _ i (by omega)]
  have n2 : g2 4 0 = i3 n := by rw [f2 4 0 (by omega), hg1, st_at, if_neg (by omega), st_eq]
  have n3 : g2 4 1 = i3 N := by rw [f2 4 1 (by omega), hg1, st_eq]
  obtain ⟨g3, e4, k1, k2⟩ : ∃ g', lp fM_beginsAnew_L44 fuel (i3 0, g2) = some g' ∧ (∀ p, p < 8 → g' 8 p = g 7 p ∧ g' 16 p = (if p < n then g (26 + p) 1 else i3 0) ∧ g' 16 (8 + p) = m1 ∧ g' 16 (16 + p) = m1) ∧ ∀ p i, ¬ p = 8 → ¬ p = 16 → g' p i = g2 p i := by
    refine lp_all (fun k z => ∃ s : St, z = (i3 k, s) ∧ (∀ p, p < k → s 8 p = g 7 p ∧ s 16 p = (if p < n then g (26 + p) 1 else i3 0) ∧ s 16 (8 + p) = m1 ∧ s 16 (16 + p) = m1) ∧ ∀ p i, ¬ p = 8 → ¬ p = 16 → s p i = g2 p i) (fun g' : St => (∀ p, p < 8 → g' 8 p = g 7 p ∧ g' 16 p = (if p < n then g (26 + p) 1 else i3 0) ∧ g' 16 (8 + p) = m1 ∧ g' 16 (16 + p) = m1) ∧ ∀ p i, ¬ p = 8 → ¬ p = 16 → g' p i = g2 p i) 8 (by omega) ?_ ?_ ⟨g2, rfl, fun p hp => by omega, fun _ _ _ _ => rfl⟩
    · rintro k z hk ⟨s, rfl, s1, s2⟩
      obtain ⟨s0, hs0⟩ : ∃ z, z = st s 8 k (g 7 k) := ⟨_, rfl⟩
      obtain ⟨s', hs'⟩ : ∃ z, z = st (st (st s0 16 k (if k < n then g (26 + k) 1 else i3 0)) 16 (8 + k) m1) 16 (16 + k) m1 := ⟨_, rfl⟩
      have hb : ∀ v, v = (if k < n then g (26 + k) 1 else i3 0) → fM_beginsAnew_b91 (i3 k) (i3 k) v s0 = some (.inl (i3 (k + 1), s')) := fun v hv => by
        unfold fM_beginsAnew_b91
        show (if ¬ (i3 k < 0 ∨ 26 ≤ (i3 k).toNatClampNeg) then (if ¬ ((i3 8 + i3 k) < 0 ∨ 26 ≤ (i3 8 + i3 k).toNatClampNeg) then (if ¬ ((i3 16 + i3 k) < 0 ∨ 26 ≤ (i3 16 + i3 k).toNatClampNeg) then (some (Sum.inl (i3 k + i3 1, st (st (st s0 16 (i3 k).toNatClampNeg v) 16 (i3 8 + i3 k).toNatClampNeg m1) 16 (i3 16 + i3 k).toNatClampNeg m1))) else none) else none) else none) = _
        rw [i3_add, i3_add, i3_add, if_pos (i3_in (by omega) (by omega)), if_pos (i3_in (by omega) (by omega)), if_pos (i3_in (by omega) (by omega)), i3_nat (by omega), i3_nat (by omega), i3_nat (by omega), hv, ← hs']
      refine ⟨(i3 (k + 1), s'), ?_, s', rfl, fun p hp => ?_, fun p i w1 w2 => by rw [hs', st_at, if_neg (by omega), st_at, if_neg (by omega), st_at, if_neg (by omega), hs0, st_at, if_neg (by omega)]; exact s2 p i w1 w2⟩
      · unfold fM_beginsAnew_L44
        show (if i3 8 ≤ i3 k then _ else if ¬ (i3 k < 0 ∨ 8 ≤ (i3 k).toNatClampNeg) then (if s 4 0 ≤ i3 k then fM_beginsAnew_b91 (i3 k) (i3 0 + i3 k) (i3 0) (st s 8 (i3 k).toNatClampNeg (s 7 (i3 k).toNatClampNeg)) else fM_beginsAnew_b91 (i3 k) (i3 0 + i3 k) ((st s 8 (i3 k).toNatClampNeg (s 7 (i3 k).toNatClampNeg)) (34 + (i3 k).toNatClampNeg) 1) (st s 8 (i3 k).toNatClampNeg (s 7 (i3 k).toNatClampNeg))) else none) = _
        rw [if_neg (i3_nle (by omega) hk), if_pos (i3_in (by omega) hk), i3_nat (by omega), i3_add, Nat.zero_add, s2 4 0 (by omega) (by omega), n2, s2 7 k (by omega) (by omega), f2 7 k (by omega), f1 7 k (by omega), ← hs0]
        by_cases q : k < n
        · rw [if_neg (i3_nle (by omega) q)]
          exact hb _ (by rw [if_pos q, hs0, st_at, if_neg (by omega), s2 _ 1 (by omega) (by omega), l2 k 1 q (by omega)])
        · rw [if_pos (i3_yle (by omega) (by omega))]
          exact hb _ (by rw [if_neg q])
      · by_cases w : p = k
        · subst w
          refine ⟨?_, ?_, ?_, ?_⟩
          · rw [hs', st_at, if_neg (by omega), st_at, if_neg (by omega), st_at, if_neg (by omega), hs0, st_eq]
          · rw [hs', st_at, if_neg (by omega), st_at, if_neg (by omega), st_eq]
          · rw [hs', st_at, if_neg (by omega), st_eq]
          · rw [hs', st_eq]
        · obtain ⟨t1, t2, t3, t4⟩ := s1 p (by omega)
          refine ⟨?_, ?_, ?_, ?_⟩
          · rw [hs', st_at, if_neg (by omega), st_at, if_neg (by omega), st_at, if_neg (by omega), hs0, st_at, if_neg (by omega)]
            exact t1
          · rw [hs', st_at, if_neg (by omega), st_at, if_neg (by omega), st_at, if_neg (by omega), hs0, st_at, if_neg (by omega)]
            exact t2
          · rw [hs', st_at, if_neg (by omega), st_at, if_neg (by omega), st_at, if_neg (by omega), hs0, st_at, if_neg (by omega)]
            exact t3
          · rw [hs', st_at, if_neg (by omega), st_at, if_neg (by omega), st_at, if_neg (by omega), hs0, st_at, if_neg (by omega)]
            exact t4
    · rintro z ⟨s, rfl, s1, s2⟩
      refine ⟨s, ?_, s1, s2⟩
      unfold fM_beginsAnew_L44
      show (if i3 8 ≤ i3 8 then _ else _) = _
      rw [if_pos (i3_yle (by omega) (Nat.le_refl _))]
  have n4 : g3 4 0 = i3 n := (k2 4 0 (by omega) (by omega)).trans n2
  obtain ⟨g4, hg4⟩ : ∃ z, z = st (st (st (st (st (st (st g3 16 24 (i3 (msk (fun p => decide ((fun _ => 0 : Nat → Nat) p = 0)) n))) 16 25 (i3 0)) 0 17 (i3 0)) 0 31 (i3 0)) 0 32 (i3 0)) 0 33 (i3 0)) 0 34 (i3 0) := ⟨_, rfl⟩
  have f4 : ∀ p i, ¬ (p = 16 ∧ (i = 24 ∨ i = 25)) → ¬ (p = 0 ∧ (i = 17 ∨ (31 ≤ i ∧ i ≤ 34))) → g4 p i = g3 p i := fun p i z1 z2 => by
    rw [hg4, st_at, if_neg (by omega), st_at, if_neg (by omega), st_at, if_neg (by omega), st_at, if_neg (by omega), st_at, if_neg (by omega), st_at, if_neg (by omega), st_at, if_neg (by omega)]
  have g40 : g4 0 17 = i3 0 ∧ g4 0 31 = i3 0 ∧ g4 0 32 = i3 0 ∧ g4 0 33 = i3 0 ∧ g4 0 34 = i3 0 := by
    rw [hg4]
    simp [st_at]
  have g41 : g4 16 24 = i3 (msk (fun p => decide ((fun _ => 0 : Nat → Nat) p = 0)) n) ∧ g4 16 25 = i3 0 := by
    rw [hg4]
    simp [st_at]
  refine ⟨g4, ?_, (f4 4 0 (by omega) (by omega)).trans n4, (f4 4 1 (by omega) (by omega)).trans ((k2 4 1 (by omega) (by omega)).trans n3), fun p i hp hi => ?_, fun p hp => ?_, g41.1, g41.2, g40, fun p i w1 w2 w3 w4 w5 => ?_⟩
  · unfold fM_beginsAnew fM_beginsAnew_b2
    show (lp fM_beginsAnew_L2 fuel (i3 0, g)).bind _ = _
    rw [e2, ob_s, show g1 4 0 = i3 n by rw [hg1, st_at, if_neg (by omega), st_eq], e3, ob_s]
    unfold fM_beginsAnew_b44
    show (lp fM_beginsAnew_L44 fuel (i3 0, g2)).bind _ = _
    rw [e4, ob_s, n4, all1 n hn, hg4]
    rfl
  · rw [f4 _ i (by omega) (by omega), k2 _ i (by omega) (by omega)]
    exact l2 p i hp hi
  · rw [f4 8 p (by omega) (by omega), f4 16 p (by omega) (by omega), f4 16 _ (by omega) (by omega), f4 16 _ (by omega) (by omega)]
    exact k1 p hp
  · rw [f4 p i (by omega) w5, k2 p i w2 w3, f2 p i w4, f1 p i w1]
theorem wf0 : WF (fun _ => 8) (fun _ => 0) (fun _ => 0) := ⟨fun _ _ _ => rfl, fun p hp => ⟨fun _ => rfl, fun z => absurd rfl z, Nat.zero_le _⟩⟩
theorem bd0 {n : Nat} {D : Nat → Nat} (hn : n ≤ 8) (hD : ∀ p, p < n → D p ≤ 60) : BD n (fun p => if p < n then D p else 0) (fun _ => 8) (fun _ => 0) 0 := by
  refine ⟨hn, fun p hp => ?_, fun p hp => Or.inl rfl, fun p hp => Nat.zero_le _, Nat.zero_le _, fun p h1 h2 => ⟨if_neg (by omega), rfl, rfl⟩⟩
  show (if p < n then D p else 0) ≤ 999
  by_cases q : p < n
  · rw [if_pos q]
    have := hD p q
    omega
  · rw [if_neg q]
    omega
theorem plain_W (f : Nat → Nat) : plainW f ≤ 99 := clp_le _
theorem LX_plain {g : St} (h1 : g 4 3 = i3 11) (h2 : ∀ j, j < 11 → g 23 j = i3 (plainL.getD j 0)) : LX plainW g := by
  have h : LX (lawW plainL) g := LX_of (N := plainL) (by decide) rfl h1 h2
  have e : lawW plainL = plainW := funext plain_eq
  rw [← e]
  exact h
