/-! PURE: images -/
theorem puts0 {g : St} {X s : Nat} {v : Int32} (hX : lenW shM X = 443) (h0 : X ≠ 0) (hs : g 0 35 = i3 s) (h : s < 443) : fM_puts X v (i3 0) g = some (v, st (st g X s v) 0 35 (i3 (s + 1))) := by
  have e0 : st g X s v 0 35 = i3 s := by rw [st_at, if_neg (by omega)]; exact hs
  simp (disch := (first | omega | assumption | trivial)) only [li_0, li_1, li_2, li_3, li_4, li_5, li_6, li_7, li_8, li_9, li_10, li_11, li_12, li_13, li_14, li_15, li_16, li_17, li_18, li_19, li_20, li_21, li_22, li_23, li_24, li_25, li_26, li_27, li_28, li_29, li_30, li_31, li_32, li_33, li_34, li_35, li_36, li_37, li_38, li_39, li_40, li_41, li_42, li_43, li_44, li_45, li_46, li_47, li_48, li_49, li_50, li_51, li_52, li_53, li_54, li_55, li_56, li_57, li_58, li_59, li_60, li_63, li_64, li_72, li_76, li_77, li_91, li_93, li_96, li_97, li_99, li_108, li_109, li_120, li_122, li_150, li_200, li_255, li_400, li_426, li_600, li_900, li_999, li_1000, li_1002, li_1003, li_2000, li_2042, li_2043, li_2045, li_10000, li_32767, li_100000, li_1000000, li_m1, li_m1b, ob_s, lt1_e, se_l, se_r, if_true, if_false, true_and, and_true, false_and, and_false, st_at, i3_add, i3_mul, i3_sub, i3_lt, i3_le, i3_eq, i3_nat, m1_eqi, i3_eqm, m1_lti, m1_lei, i3_ltm, i3_lem, i3_decm, i3_dec0, nm_eqm, yr_eqm, mxor0, Nat.zero_add, if_pos, if_neg, eq_self, ne_eq, not_true_eq_false, not_false_eq_true, fM_puts, fM_puts_b11, hX, hs, e0]
theorem puts1 {g : St} {X s : Nat} {v : Int32} (hX : lenW shM X = 443) (h0 : X ≠ 0) (hs : g 0 35 = i3 s) (h : s < 443) : fM_puts X v (i3 1) g = some (g X s, st g 0 35 (i3 (s + 1))) := by
  simp (disch := (first | omega | assumption | trivial)) only [li_0, li_1, li_2, li_3, li_4, li_5, li_6, li_7, li_8, li_9, li_10, li_11, li_12, li_13, li_14, li_15, li_16, li_17, li_18, li_19, li_20, li_21, li_22, li_23, li_24, li_25, li_26, li_27, li_28, li_29, li_30, li_31, li_32, li_33, li_34, li_35, li_36, li_37, li_38, li_39, li_40, li_41, li_42, li_43, li_44, li_45, li_46, li_47, li_48, li_49, li_50, li_51, li_52, li_53, li_54, li_55, li_56, li_57, li_58, li_59, li_60, li_63, li_64, li_72, li_76, li_77, li_91, li_93, li_96, li_97, li_99, li_108, li_109, li_120, li_122, li_150, li_200, li_255, li_400, li_426, li_600, li_900, li_999, li_1000, li_1002, li_1003, li_2000, li_2042, li_2043, li_2045, li_10000, li_32767, li_100000, li_1000000, li_m1, li_m1b, ob_s, lt1_e, se_l, se_r, if_true, if_false, true_and, and_true, false_and, and_false, st_at, i3_add, i3_mul, i3_sub, i3_lt, i3_le, i3_eq, i3_nat, m1_eqi, i3_eqm, m1_lti, m1_lei, i3_ltm, i3_lem, i3_decm, i3_dec0, nm_eqm, yr_eqm, mxor0, Nat.zero_add, if_pos, if_neg, eq_self, ne_eq, not_true_eq_false, not_false_eq_true, fM_puts, fM_puts_b11, hX, hs, Nat.add_sub_cancel]
def imE (g0 : St) (t : Nat) : Int32 := if t = 0 then g0 0 32 else if t < 27 then g0 16 (t - 1) else g0 (458 + (t - 27) / 26) ((t - 27) % 26)
def imI (g0 : St) (X t : Nat) (g : St) : Prop := g 0 35 = i3 t ∧ (∀ j, j < t → g X j = imE g0 j) ∧ ∀ p i, p ≠ X → ¬ (p = 0 ∧ i = 35) → g p i = g0 p i
theorem imI.step {g0 g : St} {X t p i : Nat} (hX : 474 ≤ X ∧ X < 477) (h : imI g0 X t g) (ht : t < 443) (hp : p ≠ X) (hq : ¬ (p = 0 ∧ i = 35)) (he : imE g0 t = g0 p i) : ∃ g', fM_puts X (g p i) (i3 0) g = some (g p i, g') ∧ imI g0 X (t + 1) (st g' p i (g p i)) := by
  obtain ⟨h1, h2, h3⟩ := h
  have hL : lenW shM X = 443 := by
    have := lnK (j := X - 474) (by omega)
    rw [show 474 + (X - 474) = X by omega] at this
    exact this
  refine ⟨_, puts0 hL (by omega) h1 ht, ?_, fun j hj => ?_, fun a b ha hb => ?_⟩
  · rw [st_at, if_neg (by omega), st_eq]
  · rw [st_at, if_neg (by omega), st_at, if_neg (by omega), st_at]
    by_cases q : j = t
    · subst q
      rw [if_pos ⟨rfl, rfl⟩, he]
      exact h3 p i hp hq
    · rw [if_neg (by omega)]
      exact h2 j (by omega)
  · rw [st_at]
    by_cases q : a = p ∧ b = i
    · rw [if_pos q, q.1, q.2]
      exact h3 p i hp hq
    · rw [if_neg q, st_at, if_neg hb, st_at, if_neg (by omega)]
      exact h3 a b ha hb
theorem imAll {g0 : St} {X : Nat} (hX : 474 ≤ X ∧ X < 477) : ∃ g', fM_putsAll X (i3 0) g0 = some g' ∧ imI g0 X 443 g' := by
  have h0 : imI g0 X 0 (st g0 0 35 (i3 0)) := ⟨st_eq _ _ _ _, fun j hj => by omega, fun p i hp hq => by rw [st_at, if_neg hq]⟩
  obtain ⟨g1, e1, h1⟩ := h0.step hX (p := 0) (i := 32) (by omega) (by omega) (by omega) (by unfold imE; rw [if_pos rfl])
  rw [st_at, if_neg (by omega)] at e1 h1
  obtain ⟨g2, e2, h2⟩ : ∃ g2, lp (fM_putsAll_L21 X (i3 0)) fuel (i3 0, st g1 0 32 (g0 0 32)) = some g2 ∧ imI g0 X 27 g2 := by
    refine lp_all (fun k s => ∃ g3, s = (i3 k, g3) ∧ imI g0 X (1 + k) g3) (fun g3 => imI g0 X 27 g3) 26 (by omega) ?_ ?_ ⟨_, rfl, h1⟩
    · rintro k s hk ⟨g3, rfl, h3⟩
      obtain ⟨g4, e4, h4⟩ := h3.step hX (p := 16) (i := k) (by omega) (by omega) (by omega) (by unfold imE; rw [if_neg (by omega), if_pos (by omega), show 1 + k - 1 = k by omega])
      refine ⟨_, ?_, _, rfl, h4⟩
      simp (disch := (first | omega | assumption | trivial)) only [li_0, li_1, li_2, li_3, li_4, li_5, li_6, li_7, li_8, li_9, li_10, li_11, li_12, li_13, li_14, li_15, li_16, li_17, li_18, li_19, li_20, li_21, li_22, li_23, li_24, li_25, li_26, li_27, li_28, li_29, li_30, li_31, li_32, li_33, li_34, li_35, li_36, li_37, li_38, li_39, li_40, li_41, li_42, li_43, li_44, li_45, li_46, li_47, li_48, li_49, li_50, li_51, li_52, li_53, li_54, li_55, li_56, li_57, li_58, li_59, li_60, li_63, li_64, li_72, li_76, li_77, li_91, li_93, li_96, li_97, li_99, li_108, li_109, li_120, li_122, li_150, li_200, li_255, li_400, li_426, li_600, li_900, li_999, li_1000, li_1002, li_1003, li_2000, li_2042, li_2043, li_2045, li_10000, li_32767, li_100000, li_1000000, li_m1, li_m1b, ob_s, lt1_e, se_l, se_r, if_true, if_false, true_and, and_true, false_and, and_false, st_at, i3_add, i3_mul, i3_sub, i3_lt, i3_le, i3_eq, i3_nat, m1_eqi, i3_eqm, m1_lti, m1_lei, i3_ltm, i3_lem, i3_decm, i3_dec0, nm_eqm, yr_eqm, mxor0, Nat.zero_add, if_pos, if_neg, eq_self, ne_eq, not_true_eq_false, not_false_eq_true, fM_putsAll_L21, e4]
    · rintro s ⟨g3, rfl, h3⟩
      refine ⟨g3, ?_, h3⟩
      simp (disch := (first | omega | assumption | trivial)) only [li_0, li_1, li_2, li_3, li_4, li_5, li_6, li_7, li_8, li_9, li_10, li_11, li_12, li_13, li_14, li_15, li_16, li_17, li_18, li_19, li_20, li_21, li_22, li_23, li_24, li_25, li_26, li_27, li_28, li_29, li_30, li_31, li_32, li_33, li_34, li_35, li_36, li_37, li_38, li_39, li_40, li_41, li_42, li_43, li_44, li_45, li_46, li_47, li_48, li_49, li_50, li_51, li_52, li_53, li_54, li_55, li_56, li_57, li_58, li_59, li_60, li_63, li_64, li_72, li_76, li_77, li_91, li_93, li_96, li_97, li_99, li_108, li_109, li_120, li_122, li_150, li_200, li_255, li_400, li_426, li_600, li_900, li_999, li_1000, li_1002, li_1003, li_2000, li_2042, li_2043, li_2045, li_10000, li_32767, li_100000, li_1000000, li_m1, li_m1b, ob_s, lt1_e, se_l, se_r, if_true, if_false, true_and, and_true, false_and, and_false, st_at, i3_add, i3_mul, i3_sub, i3_lt, i3_le, i3_eq, i3_nat, m1_eqi, i3_eqm, m1_lti, m1_lei, i3_ltm, i3_lem, i3_decm, i3_dec0, nm_eqm, yr_eqm, mxor0, Nat.zero_add, if_pos, if_neg, eq_self, ne_eq, not_true_eq_false, not_false_eq_true, fM_putsAll_L21]
  obtain ⟨g5, e5, h5⟩ : ∃ g5, lp (fM_putsAll_L53 X (i3 0)) fuel (i3 0, g2) = some g5 ∧ imI g0 X 443 g5 := by
    refine lp_all (fun w s => ∃ g3, s = (i3 w, g3) ∧ imI g0 X (27 + 26 * w) g3) (fun g3 => imI g0 X 443 g3) 16 (by omega) ?_ ?_ ⟨_, rfl, h2⟩
    · rintro w s hw ⟨g3, rfl, h3⟩
      obtain ⟨g6, e6, h6⟩ : ∃ g6, lp (fM_putsAll_L62 X (i3 0) (i3 w)) fuel (i3 0, g3) = some g6 ∧ imI g0 X (27 + 26 * (w + 1)) g6 := by
        refine lp_all (fun k s => ∃ g7, s = (i3 k, g7) ∧ imI g0 X (27 + 26 * w + k) g7) (fun g7 => imI g0 X (27 + 26 * (w + 1)) g7) 26 (by omega) ?_ ?_ ⟨_, rfl, h3⟩
        · rintro k s hk ⟨g7, rfl, h7⟩
          obtain ⟨g8, e8, h8⟩ := h7.step hX (p := 458 + w) (i := k) (by omega) (by omega) (by omega) (by
            unfold imE
            rw [if_neg (by omega), if_neg (by omega), show (27 + 26 * w + k - 27) / 26 = w by omega, show (27 + 26 * w + k - 27) % 26 = k by omega])
          refine ⟨_, ?_, _, rfl, h8⟩
          simp (disch := (first | omega | assumption | trivial)) only [li_0, li_1, li_2, li_3, li_4, li_5, li_6, li_7, li_8, li_9, li_10, li_11, li_12, li_13, li_14, li_15, li_16, li_17, li_18, li_19, li_20, li_21, li_22, li_23, li_24, li_25, li_26, li_27, li_28, li_29, li_30, li_31, li_32, li_33, li_34, li_35, li_36, li_37, li_38, li_39, li_40, li_41, li_42, li_43, li_44, li_45, li_46, li_47, li_48, li_49, li_50, li_51, li_52, li_53, li_54, li_55, li_56, li_57, li_58, li_59, li_60, li_63, li_64, li_72, li_76, li_77, li_91, li_93, li_96, li_97, li_99, li_108, li_109, li_120, li_122, li_150, li_200, li_255, li_400, li_426, li_600, li_900, li_999, li_1000, li_1002, li_1003, li_2000, li_2042, li_2043, li_2045, li_10000, li_32767, li_100000, li_1000000, li_m1, li_m1b, ob_s, lt1_e, se_l, se_r, if_true, if_false, true_and, and_true, false_and, and_false, st_at, i3_add, i3_mul, i3_sub, i3_lt, i3_le, i3_eq, i3_nat, m1_eqi, i3_eqm, m1_lti, m1_lei, i3_ltm, i3_lem, i3_decm, i3_dec0, nm_eqm, yr_eqm, mxor0, Nat.zero_add, if_pos, if_neg, eq_self, ne_eq, not_true_eq_false, not_false_eq_true, fM_putsAll_L62, e8]
        · rintro s ⟨g7, rfl, h7⟩
          rw [show 27 + 26 * w + 26 = 27 + 26 * (w + 1) by omega] at h7
          refine ⟨g7, ?_, h7⟩
          simp (disch := (first | omega | assumption | trivial)) only [li_0, li_1, li_2, li_3, li_4, li_5, li_6, li_7, li_8, li_9, li_10, li_11, li_12, li_13, li_14, li_15, li_16, li_17, li_18, li_19, li_20, li_21, li_22, li_23, li_24, li_25, li_26, li_27, li_28, li_29, li_30, li_31, li_32, li_33, li_34, li_35, li_36, li_37, li_38, li_39, li_40, li_41, li_42, li_43, li_44, li_45, li_46, li_47, li_48, li_49, li_50, li_51, li_52, li_53, li_54, li_55, li_56, li_57, li_58, li_59, li_60, li_63, li_64, li_72, li_76, li_77, li_91, li_93, li_96, li_97, li_99, li_108, li_109, li_120, li_122, li_150, li_200, li_255, li_400, li_426, li_600, li_900, li_999, li_1000, li_1002, li_1003, li_2000, li_2042, li_2043, li_2045, li_10000, li_32767, li_100000, li_1000000, li_m1, li_m1b, ob_s, lt1_e, se_l, se_r, if_true, if_false, true_and, and_true, false_and, and_false, st_at, i3_add, i3_mul, i3_sub, i3_lt, i3_le, i3_eq, i3_nat, m1_eqi, i3_eqm, m1_lti, m1_lei, i3_ltm, i3_lem, i3_decm, i3_dec0, nm_eqm, yr_eqm, mxor0, Nat.zero_add, if_pos, if_neg, eq_self, ne_eq, not_true_eq_false, not_false_eq_true, fM_putsAll_L62]
      refine ⟨_, ?_, g6, rfl, h6⟩
      simp (disch := (first | omega | assumption | trivial)) only [li_0, li_1, li_2, li_3, li_4, li_5, li_6, li_7, li_8, li_9, li_10, li_11, li_12, li_13, li_14, li_15, li_16, li_17, li_18, li_19, li_20, li_21, li_22, li_23, li_24, li_25, li_26, li_27, li_28, li_29, li_30, li_31, li_32, li_33, li_34, li_35, li_36, li_37, li_38, li_39, li_40, li_41, li_42, li_43, li_44, li_45, li_46, li_47, li_48, li_49, li_50, li_51, li_52, li_53, li_54, li_55, li_56, li_57, li_58, li_59, li_60, li_63, li_64, li_72, li_76, li_77, li_91, li_93, li_96, li_97, li_99, li_108, li_109, li_120, li_122, li_150, li_200, li_255, li_400, li_426, li_600, li_900, li_999, li_1000, li_1002, li_1003, li_2000, li_2042, li_2043, li_2045, li_10000, li_32767, li_100000, li_1000000, li_m1, li_m1b, ob_s, lt1_e, se_l, se_r, if_true, if_false, true_and, and_true, false_and, and_false, st_at, i3_add, i3_mul, i3_sub, i3_lt, i3_le, i3_eq, i3_nat, m1_eqi, i3_eqm, m1_lti, m1_lei, i3_ltm, i3_lem, i3_decm, i3_dec0, nm_eqm, yr_eqm, mxor0, Nat.zero_add, if_pos, if_neg, eq_self, ne_eq, not_true_eq_false, not_false_eq_true, fM_putsAll_L53, fM_putsAll_b62, e6]
    · rintro s ⟨g3, rfl, h3⟩
      refine ⟨g3, ?_, h3⟩
      simp (disch := (first | omega | assumption | trivial)) only [li_0, li_1, li_2, li_3, li_4, li_5, li_6, li_7, li_8, li_9, li_10, li_11, li_12, li_13, li_14, li_15, li_16, li_17, li_18, li_19, li_20, li_21, li_22, li_23, li_24, li_25, li_26, li_27, li_28, li_29, li_30, li_31, li_32, li_33, li_34, li_35, li_36, li_37, li_38, li_39, li_40, li_41, li_42, li_43, li_44, li_45, li_46, li_47, li_48, li_49, li_50, li_51, li_52, li_53, li_54, li_55, li_56, li_57, li_58, li_59, li_60, li_63, li_64, li_72, li_76, li_77, li_91, li_93, li_96, li_97, li_99, li_108, li_109, li_120, li_122, li_150, li_200, li_255, li_400, li_426, li_600, li_900, li_999, li_1000, li_1002, li_1003, li_2000, li_2042, li_2043, li_2045, li_10000, li_32767, li_100000, li_1000000, li_m1, li_m1b, ob_s, lt1_e, se_l, se_r, if_true, if_false, true_and, and_true, false_and, and_false, st_at, i3_add, i3_mul, i3_sub, i3_lt, i3_le, i3_eq, i3_nat, m1_eqi, i3_eqm, m1_lti, m1_lei, i3_ltm, i3_lem, i3_decm, i3_dec0, nm_eqm, yr_eqm, mxor0, Nat.zero_add, if_pos, if_neg, eq_self, ne_eq, not_true_eq_false, not_false_eq_true, fM_putsAll_L53]
  refine ⟨g5, ?_, h5⟩
  simp (disch := (first | omega | assumption | trivial)) only [li_0, li_1, li_2, li_3, li_4, li_5, li_6, li_7, li_8, li_9, li_10, li_11, li_12, li_13, li_14, li_15, li_16, li_17, li_18, li_19, li_20, li_21, li_22, li_23, li_24, li_25, li_26, li_27, li_28, li_29, li_30, li_31, li_32, li_33, li_34, li_35, li_36, li_37, li_38, li_39, li_40, li_41, li_42, li_43, li_44, li_45, li_46, li_47, li_48, li_49, li_50, li_51, li_52, li_53, li_54, li_55, li_56, li_57, li_58, li_59, li_60, li_63, li_64, li_72, li_76, li_77, li_91, li_93, li_96, li_97, li_99, li_108, li_109, li_120, li_122, li_150, li_200, li_255, li_400, li_426, li_600, li_900, li_999, li_1000, li_1002, li_1003, li_2000, li_2042, li_2043, li_2045, li_10000, li_32767, li_100000, li_1000000, li_m1, li_m1b, ob_s, lt1_e, se_l, se_r, if_true, if_false, true_and, and_true, false_and, and_false, st_at, i3_add, i3_mul, i3_sub, i3_lt, i3_le, i3_eq, i3_nat, m1_eqi, i3_eqm, m1_lti, m1_lei, i3_ltm, i3_lem, i3_decm, i3_dec0, nm_eqm, yr_eqm, mxor0, Nat.zero_add, if_pos, if_neg, eq_self, ne_eq, not_true_eq_false, not_false_eq_true, fM_putsAll, fM_putsAll_b21, fM_putsAll_b53, e1, e2, e5]
/-- an image comes back -/
def rsI (g0 : St) (X t : Nat) (g : St) : Prop := g 0 35 = i3 t ∧ (∀ i, g X i = g0 X i) ∧ (0 < t → g 0 32 = g0 X 0) ∧ (∀ k, k < 26 → 1 + k < t → g 16 k = g0 X (1 + k)) ∧ (∀ w k, w < 16 → k < 26 → 27 + 26 * w + k < t → g (458 + w) k = g0 X (27 + 26 * w + k)) ∧ ∀ p i, p ≠ 16 → ¬ (458 ≤ p ∧ p < 474) → ¬ (p = 0 ∧ (i = 35 ∨ i = 32)) → g p i = g0 p i
theorem rsAll {g0 : St} {X : Nat} (hX : 474 ≤ X ∧ X < 477) : ∃ g', fM_putsAll X (i3 1) g0 = some g' ∧ rsI g0 X 443 g' := by
  have hL : lenW shM X = 443 := by
    have := lnK (j := X - 474) (by omega)
    rw [show 474 + (X - 474) = X by omega] at this
    exact this
  have e1 := puts1 (g := st g0 0 35 (i3 0)) (X := X) (s := 0) (v := g0 0 32) hL (by omega) (st_eq _ _ _ _) (by omega)
  rw [st_ne (show X ≠ 0 by omega)] at e1
  have h1 : rsI g0 X 1 (st (st (st g0 0 35 (i3 0)) 0 35 (i3 1)) 0 32 (g0 X 0)) := by
    refine ⟨?_, fun i => ?_, fun _ => st_eq _ _ _ _, fun k hk h => by omega, fun w k _ _ h => by omega, fun p i a b c => ?_⟩
    · rw [st_at, if_neg (by omega), st_eq]
    · rw [st_ne (by omega), st_ne (by omega), st_ne (by omega)]
    · rw [st_at, if_neg (by omega), st_at, if_neg (by omega), st_at, if_neg (by omega)]
  obtain ⟨g2, e2, h2⟩ : ∃ g2, lp (fM_putsAll_L21 X (i3 1)) fuel (i3 0, st (st (st g0 0 35 (i3 0)) 0 35 (i3 1)) 0 32 (g0 X 0)) = some g2 ∧ rsI g0 X 27 g2 := by
    refine lp_all (fun k s => ∃ g3, s = (i3 k, g3) ∧ rsI g0 X (1 + k) g3) (fun g3 => rsI g0 X 27 g3) 26 (by omega) ?_ ?_ ⟨_, rfl, h1⟩
    · rintro k s hk ⟨g3, rfl, h3, h4, h5, h6, h7, h8⟩
      have e4 := puts1 (v := g3 16 k) hL (by omega) h3 (by omega)
      rw [h4] at e4
      refine ⟨_, ?_, st (st g3 0 35 (i3 (1 + k + 1))) 16 k (g0 X (1 + k)), rfl, ?_, fun i => ?_, fun _ => ?_, fun a ha hb => ?_, fun w a hw ha hb => by omega, fun p i a b c => ?_⟩
      · simp (disch := (first | omega | assumption | trivial)) only [li_0, li_1, li_2, li_3, li_4, li_5, li_6, li_7, li_8, li_9, li_10, li_11, li_12, li_13, li_14, li_15, li_16, li_17, li_18, li_19, li_20, li_21, li_22, li_23, li_24, li_25, li_26, li_27, li_28, li_29, li_30, li_31, li_32, li_33, li_34, li_35, li_36, li_37, li_38, li_39, li_40, li_41, li_42, li_43, li_44, li_45, li_46, li_47, li_48, li_49, li_50, li_51, li_52, li_53, li_54, li_55, li_56, li_57, li_58, li_59, li_60, li_63, li_64, li_72, li_76, li_77, li_91, li_93, li_96, li_97, li_99, li_108, li_109, li_120, li_122, li_150, li_200, li_255, li_400, li_426, li_600, li_900, li_999, li_1000, li_1002, li_1003, li_2000, li_2042, li_2043, li_2045, li_10000, li_32767, li_100000, li_1000000, li_m1, li_m1b, ob_s, lt1_e, se_l, se_r, if_true, if_false, true_and, and_true, false_and, and_false, st_at, i3_add, i3_mul, i3_sub, i3_lt, i3_le, i3_eq, i3_nat, m1_eqi, i3_eqm, m1_lti, m1_lei, i3_ltm, i3_lem, i3_decm, i3_dec0, nm_eqm, yr_eqm, mxor0, Nat.zero_add, if_pos, if_neg, eq_self, ne_eq, not_true_eq_false, not_false_eq_true, fM_putsAll_L21, e4]
      · rw [st_at, if_neg (by omega), st_eq]; rfl
      · rw [st_ne (by omega), st_ne (by omega)]; exact h4 i
      · rw [st_at, if_neg (by omega), st_at, if_neg (by omega)]; exact h5 (by omega)
      · rw [st_at]
        by_cases q : a = k
        · subst q; rw [if_pos ⟨rfl, rfl⟩]
        · rw [if_neg (by omega), st_at, if_neg (by omega)]; exact h6 a ha (by omega)
      · rw [st_at, if_neg (by omega), st_at, if_neg (by omega)]; exact h8 p i a b c
    · rintro s ⟨g3, rfl, h3⟩
      refine ⟨g3, ?_, h3⟩
      simp (disch := (first | omega | assumption | trivial)) only [li_0, li_1, li_2, li_3, li_4, li_5, li_6, li_7, li_8, li_9, li_10, li_11, li_12, li_13, li_14, li_15, li_16, li_17, li_18, li_19, li_20, li_21, li_22, li_23, li_24, li_25, li_26, li_27, li_28, li_29, li_30, li_31, li_32, li_33, li_34, li_35, li_36, li_37, li_38, li_39, li_40, li_41, li_42, li_43, li_44, li_45, li_46, li_47, li_48, li_49, li_50, li_51, li_52, li_53, li_54, li_55, li_56, li_57, li_58, li_59, li_60, li_63, li_64, li_72, li_76, li_77, li_91, li_93, li_96, li_97, li_99, li_108, li_109, li_120, li_122, li_150, li_200, li_255, li_400, li_426, li_600, li_900, li_999, li_1000, li_1002, li_1003, li_2000, li_2042, li_2043, li_2045, li_10000, li_32767, li_100000, li_1000000, li_m1, li_m1b, ob_s, lt1_e, se_l, se_r, if_true, if_false, true_and, and_true, false_and, and_false, st_at, i3_add, i3_mul, i3_sub, i3_lt, i3_le, i3_eq, i3_nat, m1_eqi, i3_eqm, m1_lti, m1_lei, i3_ltm, i3_lem, i3_decm, i3_dec0, nm_eqm, yr_eqm, mxor0, Nat.zero_add, if_pos, if_neg, eq_self, ne_eq, not_true_eq_false, not_false_eq_true, fM_putsAll_L21]
  obtain ⟨g5, e5, h5⟩ : ∃ g5, lp (fM_putsAll_L53 X (i3 1)) fuel (i3 0, g2) = some g5 ∧ rsI g0 X 443 g5 := by
    refine lp_all (fun w s => ∃ g3, s = (i3 w, g3) ∧ rsI g0 X (27 + 26 * w) g3) (fun g3 => rsI g0 X 443 g3) 16 (by omega) ?_ ?_ ⟨_, rfl, h2⟩
    · rintro w s hw ⟨g3, rfl, h3⟩
      obtain ⟨g6, e6, h6⟩ : ∃ g6, lp (fM_putsAll_L62 X (i3 1) (i3 w)) fuel (i3 0, g3) = some g6 ∧ rsI g0 X (27 + 26 * (w + 1)) g6 := by
        refine lp_all (fun k s => ∃ g7, s = (i3 k, g7) ∧ rsI g0 X (27 + 26 * w + k) g7) (fun g7 => rsI g0 X (27 + 26 * (w + 1)) g7) 26 (by omega) ?_ ?_ ⟨_, rfl, h3⟩
        · rintro k s hk ⟨g7, rfl, h3, h4, h5, h6, h7, h8⟩
          have e4 := puts1 (v := g7 (458 + w) k) hL (by omega) h3 (by omega)
          rw [h4] at e4
          refine ⟨_, ?_, st (st g7 0 35 (i3 (27 + 26 * w + k + 1))) (458 + w) k (g0 X (27 + 26 * w + k)), rfl, ?_, fun i => ?_, fun _ => ?_, fun a ha hb => ?_, fun w' a hw' ha hb => ?_, fun p i a b c => ?_⟩
          · simp (disch := (first | omega | assumption | trivial)) only [li_0, li_1, li_2, li_3, li_4, li_5, li_6, li_7, li_8, li_9, li_10, li_11, li_12, li_13, li_14, li_15, li_16, li_17, li_18, li_19, li_20, li_21, li_22, li_23, li_24, li_25, li_26, li_27, li_28, li_29, li_30, li_31, li_32, li_33, li_34, li_35, li_36, li_37, li_38, li_39, li_40, li_41, li_42, li_43, li_44, li_45, li_46, li_47, li_48, li_49, li_50, li_51, li_52, li_53, li_54, li_55, li_56, li_57, li_58, li_59, li_60, li_63, li_64, li_72, li_76, li_77, li_91, li_93, li_96, li_97, li_99, li_108, li_109, li_120, li_122, li_150, li_200, li_255, li_400, li_426, li_600, li_900, li_999, li_1000, li_1002, li_1003, li_2000, li_2042, li_2043, li_2045, li_10000, li_32767, li_100000, li_1000000, li_m1, li_m1b, ob_s, lt1_e, se_l, se_r, if_true, if_false, true_and, and_true, false_and, and_false, st_at, i3_add, i3_mul, i3_sub, i3_lt, i3_le, i3_eq, i3_nat, m1_eqi, i3_eqm, m1_lti, m1_lei, i3_ltm, i3_lem, i3_decm, i3_dec0, nm_eqm, yr_eqm, mxor0, Nat.zero_add, if_pos, if_neg, eq_self, ne_eq, not_true_eq_false, not_false_eq_true, fM_putsAll_L62, e4]
          · rw [st_at, if_neg (by omega), st_eq]; rfl
          · rw [st_ne (by omega), st_ne (by omega)]; exact h4 i
          · rw [st_at, if_neg (by omega), st_at, if_neg (by omega)]; exact h5 (by omega)
          · rw [st_at, if_neg (by omega), st_at, if_neg (by omega)]; exact h6 a ha (by omega)
          · rw [st_at]
            by_cases q : w' = w ∧ a = k
            · rw [q.1, q.2, if_pos ⟨rfl, rfl⟩]
            · rw [if_neg (by omega), st_at, if_neg (by omega)]; exact h7 w' a hw' ha (by omega)
          · rw [st_at, if_neg (by omega), st_at, if_neg (by omega)]; exact h8 p i a b c
        · rintro s ⟨g7, rfl, h7⟩
          rw [show 27 + 26 * w + 26 = 27 + 26 * (w + 1) by omega] at h7
          refine ⟨g7, ?_, h7⟩
          simp (disch := (first | omega | assumption | trivial)) only [li_0, li_1, li_2, li_3, li_4, li_5, li_6, li_7, li_8, li_9, li_10, li_11, li_12, li_13, li_14, li_15, li_16, li_17, li_18, li_19, li_20, li_21, li_22, li_23, li_24, li_25, li_26, li_27, li_28, li_29, li_30, li_31, li_32, li_33, li_34, li_35, li_36, li_37, li_38, li_39, li_40, li_41, li_42, li_43, li_44, li_45, li_46, li_47, li_48, li_49, li_50, li_51, li_52, li_53, li_54, li_55, li_56, li_57, li_58, li_59, li_60, li_63, li_64, li_72, li_76, li_77, li_91, li_93, li_96, li_97, li_99, li_108, li_109, li_120, li_122, li_150, li_200, li_255, li_400, li_426, li_600, li_900, li_999, li_1000, li_1002, li_1003, li_2000, li_2042, li_2043, li_2045, li_10000, li_32767, li_100000, li_1000000, li_m1, li_m1b, ob_s, lt1_e, se_l, se_r, if_true, if_false, true_and, and_true, false_and, and_false, st_at, i3_add, i3_mul, i3_sub, i3_lt, i3_le, i3_eq, i3_nat, m1_eqi, i3_eqm, m1_lti, m1_lei, i3_ltm, i3_lem, i3_decm, i3_dec0, nm_eqm, yr_eqm, mxor0, Nat.zero_add, if_pos, if_neg, eq_self, ne_eq, not_true_eq_false, not_false_eq_true, fM_putsAll_L62]
      refine ⟨_, ?_, g6, rfl, h6⟩
      simp (disch := (first | omega | assumption | trivial)) only [li_0, li_1, li_2, li_3, li_4, li_5, li_6, li_7, li_8, li_9, li_10, li_11, li_12, li_13, li_14, li_15, li_16, li_17, li_18, li_19, li_20, li_21, li_22, li_23, li_24, li_25, li_26, li_27, li_28, li_29, li_30, li_31, li_32, li_33, li_34, li_35, li_36, li_37, li_38, li_39, li_40, li_41, li_42, li_43, li_44, li_45, li_46, li_47, li_48, li_49, li_50, li_51, li_52, li_53, li_54, li_55, li_56, li_57, li_58, li_59, li_60, li_63, li_64, li_72, li_76, li_77, li_91, li_93, li_96, li_97, li_99, li_108, li_109, li_120, li_122, li_150, li_200, li_255, li_400, li_426, li_600, li_900, li_999, li_1000, li_1002, li_1003, li_2000, li_2042, li_2043, li_2045, li_10000, li_32767, li_100000, li_1000000, li_m1, li_m1b, ob_s, lt1_e, se_l, se_r, if_true, if_false, true_and, and_true, false_and, and_false, st_at, i3_add, i3_mul, i3_sub, i3_lt, i3_le, i3_eq, i3_nat, m1_eqi, i3_eqm, m1_lti, m1_lei, i3_ltm, i3_lem, i3_decm, i3_dec0, nm_eqm, yr_eqm, mxor0, Nat.zero_add, if_pos, if_neg, eq_self, ne_eq, not_true_eq_false, not_false_eq_true, fM_putsAll_L53, fM_putsAll_b62, e6]
    · rintro s ⟨g3, rfl, h3⟩
      refine ⟨g3, ?_, h3⟩
      simp (disch := (first | omega | assumption | trivial)) only [li_0, li_1, li_2, li_3, li_4, li_5, li_6, li_7, li_8, li_9, li_10, li_11, li_12, li_13, li_14, li_15, li_16, li_17, li_18, li_19, li_20, li_21, li_22, li_23, li_24, li_25, li_26, li_27, li_28, li_29, li_30, li_31, li_32, li_33, li_34, li_35, li_36, li_37, li_38, li_39, li_40, li_41, li_42, li_43, li_44, li_45, li_46, li_47, li_48, li_49, li_50, li_51, li_52, li_53, li_54, li_55, li_56, li_57, li_58, li_59, li_60, li_63, li_64, li_72, li_76, li_77, li_91, li_93, li_96, li_97, li_99, li_108, li_109, li_120, li_122, li_150, li_200, li_255, li_400, li_426, li_600, li_900, li_999, li_1000, li_1002, li_1003, li_2000, li_2042, li_2043, li_2045, li_10000, li_32767, li_100000, li_1000000, li_m1, li_m1b, ob_s, lt1_e, se_l, se_r, if_true, if_false, true_and, and_true, false_and, and_false, st_at, i3_add, i3_mul, i3_sub, i3_lt, i3_le, i3_eq, i3_nat, m1_eqi, i3_eqm, m1_lti, m1_lei, i3_ltm, i3_lem, i3_decm, i3_dec0, nm_eqm, yr_eqm, mxor0, Nat.zero_add, if_pos, if_neg, eq_self, ne_eq, not_true_eq_false, not_false_eq_true, fM_putsAll_L53]
  refine ⟨g5, ?_, h5⟩
  simp (disch := (first | omega | assumption | trivial)) only [li_0, li_1, li_2, li_3, li_4, li_5, li_6, li_7, li_8, li_9, li_10, li_11, li_12, li_13, li_14, li_15, li_16, li_17, li_18, li_19, li_20, li_21, li_22, li_23, li_24, li_25, li_26, li_27, li_28, li_29, li_30, li_31, li_32, li_33, li_34, li_35, li_36, li_37, li_38, li_39, li_40, li_41, li_42, li_43, li_44, li_45, li_46, li_47, li_48, li_49, li_50, li_51, li_52, li_53, li_54, li_55, li_56, li_57, li_58, li_59, li_60, li_63, li_64, li_72, li_76, li_77, li_91, li_93, li_96, li_97, li_99, li_108, li_109, li_120, li_122, li_150, li_200, li_255, li_400, li_426, li_600, li_900, li_999, li_1000, li_1002, li_1003, li_2000, li_2042, li_2043, li_2045, li_10000, li_32767, li_100000, li_1000000, li_m1, li_m1b, ob_s, lt1_e, se_l, se_r, if_true, if_false, true_and, and_true, false_and, and_false, st_at, i3_add, i3_mul, i3_sub, i3_lt, i3_le, i3_eq, i3_nat, m1_eqi, i3_eqm, m1_lti, m1_lei, i3_ltm, i3_lem, i3_decm, i3_dec0, nm_eqm, yr_eqm, mxor0, Nat.zero_add, if_pos, if_neg, eq_self, ne_eq, not_true_eq_false, not_false_eq_true, fM_putsAll, fM_putsAll_b21, fM_putsAll_b53, e1, e2, e5]
theorem S_image : Sim_image R := by
  intro gX xX gM xM hR
  obtain ⟨g0, hg0⟩ : ∃ g0, g0 = st gM 0 0 (i3 0) := ⟨_, rfl⟩
  have k0 : KM gM g0 := by rw [hg0]; exact KM.thrown
  have hR0 : R gX xX g0 xM := hR.fr KX.rf k0
  obtain ⟨W, n, N, K, F, D, U, T, Y, d, hX, hM, hY, hW, h6, h7⟩ := id hR0.2.2.2
  obtain ⟨⟨w, w1, w2, w3, w4⟩, m, m1', m2, m3, m4⟩ := h7
  have m3' : gM 0 34 = i3 m := by rw [← m3, hg0, st_at, if_neg (by omega)]
  by_cases q : m = 3
  · subst q
    refine ⟨(m1, gX), (m1, g0), ?_, ?_, hR0, rfl⟩
    · simp (disch := (first | omega | assumption | trivial)) only [li_0, li_1, li_2, li_3, li_4, li_5, li_6, li_7, li_8, li_9, li_10, li_11, li_12, li_13, li_14, li_15, li_16, li_17, li_18, li_19, li_20, li_21, li_22, li_23, li_24, li_25, li_26, li_27, li_28, li_29, li_30, li_31, li_32, li_33, li_34, li_35, li_36, li_37, li_38, li_39, li_40, li_41, li_42, li_43, li_44, li_45, li_46, li_47, li_48, li_49, li_50, li_51, li_52, li_53, li_54, li_55, li_56, li_57, li_58, li_59, li_60, li_63, li_64, li_72, li_76, li_77, li_91, li_93, li_96, li_97, li_99, li_108, li_109, li_120, li_122, li_150, li_200, li_255, li_400, li_426, li_600, li_900, li_999, li_1000, li_1002, li_1003, li_2000, li_2042, li_2043, li_2045, li_10000, li_32767, li_100000, li_1000000, li_m1, li_m1b, ob_s, lt1_e, se_l, se_r, if_true, if_false, true_and, and_true, false_and, and_false, st_at, i3_add, i3_mul, i3_sub, i3_lt, i3_le, i3_eq, i3_nat, m1_eqi, i3_eqm, m1_lti, m1_lei, i3_ltm, i3_lem, i3_decm, i3_dec0, nm_eqm, yr_eqm, mxor0, Nat.zero_add, if_pos, if_neg, eq_self, ne_eq, not_true_eq_false, not_false_eq_true, fX_image, m2]
    · simp (disch := (first | omega | assumption | trivial)) only [li_0, li_1, li_2, li_3, li_4, li_5, li_6, li_7, li_8, li_9, li_10, li_11, li_12, li_13, li_14, li_15, li_16, li_17, li_18, li_19, li_20, li_21, li_22, li_23, li_24, li_25, li_26, li_27, li_28, li_29, li_30, li_31, li_32, li_33, li_34, li_35, li_36, li_37, li_38, li_39, li_40, li_41, li_42, li_43, li_44, li_45, li_46, li_47, li_48, li_49, li_50, li_51, li_52, li_53, li_54, li_55, li_56, li_57, li_58, li_59, li_60, li_63, li_64, li_72, li_76, li_77, li_91, li_93, li_96, li_97, li_99, li_108, li_109, li_120, li_122, li_150, li_200, li_255, li_400, li_426, li_600, li_900, li_999, li_1000, li_1002, li_1003, li_2000, li_2042, li_2043, li_2045, li_10000, li_32767, li_100000, li_1000000, li_m1, li_m1b, ob_s, lt1_e, se_l, se_r, if_true, if_false, true_and, and_true, false_and, and_false, st_at, i3_add, i3_mul, i3_sub, i3_lt, i3_le, i3_eq, i3_nat, m1_eqi, i3_eqm, m1_lti, m1_lei, i3_ltm, i3_lem, i3_decm, i3_dec0, nm_eqm, yr_eqm, mxor0, Nat.zero_add, if_pos, if_neg, eq_self, ne_eq, not_true_eq_false, not_false_eq_true, fM_image, hg0.symm, m3']
  · obtain ⟨g1, e1, r1, r2, r3⟩ := imAll (g0 := g0) (X := 474 + m) (by omega)
    have hm := i3_mul m 426
    rw [Nat.mul_comm m 426] at hm
    have c0 := pu44 (k := 426 * m) (g := gX) (v := i3 w) (by omega)
    have c1 := X_write (g := st gX 44 (426 * m) (i3 w)) (row := 44) (o := 426 * m + 1) (Or.inr rfl) (show lenW shX 44 = 1278 from rfl) (by omega) (by omega)
    have c2 := X_copy (a := 43) (b := 44) (s := 0) (p := 426 * m + 1 + 25) (m := 400) (show lenW shX 43 = 400 from rfl) (show lenW shX 44 = 1278 from rfl) (by omega) (by omega) (by omega) (by omega) (by omega) (wtS (st gX 44 (426 * m) (i3 w)) 44 (426 * m + 1))
    have xo : ∀ p i, ¬ (p = 44 ∧ 426 * m ≤ i ∧ i < 426 * m + 426) → ¬ (p = 12 ∧ i = 3) → (st (cpS (wtS (st gX 44 (426 * m) (i3 w)) 44 (426 * m + 1)) 43 0 44 (426 * m + 1 + 25) 400) 12 3 (i3 (m + 1))) p i = gX p i := fun p i a b => by
      rw [st_at, if_neg b, cpS_out (by omega), wtS_out (by omega), st_at, if_neg (by omega)]
    have x12 : cpS (wtS (st gX 44 (426 * m) (i3 w)) 44 (426 * m + 1)) 43 0 44 (426 * m + 1 + 25) 400 12 3 = i3 m := by
      rw [cpS_ne (by omega), wtS_out (by omega), st_ne (by omega)]; exact m2
    have g34 : g1 0 34 = i3 m := by rw [r3 0 34 (by omega) (by omega)]; exact m3
    have mo : ∀ p i, p ≠ 474 + m → ¬ (p = 0 ∧ i = 35) → ¬ (p = 0 ∧ i = 34) → (st g1 0 34 (i3 (m + 1))) p i = g0 p i := fun p i a b c => by
      rw [st_at, if_neg c]; exact r3 p i a b
    have hRR : R (st (cpS (wtS (st gX 44 (426 * m) (i3 w)) 44 (426 * m + 1)) 43 0 44 (426 * m + 1 + 25) 400) 12 3 (i3 (m + 1))) xX (st g1 0 34 (i3 (m + 1))) xM := by
      refine ⟨?_, ?_, ?_, W, n, N, K, F, D, U, T, Y, d, ?_, ?_, hY, hW, ?_, ?_⟩
      · obtain ⟨len, b, l1, l2, l3, l4⟩ := hR0.1
        exact ⟨len, b, l1, by rw [xo 1 1 (by omega) (by omega)]; exact l2, by rw [mo 0 1 (by omega) (by omega) (by omega)]; exact l3, fun k hk => by rw [xo 16 k (by omega) (by omega), mo 1 k (by omega) (by omega) (by omega)]; exact l4 k hk⟩
      · obtain ⟨b1, b2, b3⟩ := hR0.2.1
        exact ⟨by rw [xo 1 7 (by omega) (by omega), mo 0 3 (by omega) (by omega) (by omega)]; exact b1, by rw [xo 0 17 (by omega) (by omega), mo 2 0 (by omega) (by omega) (by omega)]; exact b2, by rw [xo 0 18 (by omega) (by omega), mo 2 1 (by omega) (by omega) (by omega)]; exact b3⟩
      · unfold R4
        rw [xo 0 16 (by omega) (by omega), mo 0 33 (by omega) (by omega) (by omega)]
        exact hR0.2.2.1
      · exact hX.frP (fun p hp => funext fun i => xo p i (by omega) (by omega))
      · exact hM.frP (fun p hp => funext fun i => mo p i (by omega) (by omega) (by omega)) (mo 0 17 (by omega) (by omega) (by omega))
      · obtain ⟨l, A, V, B, l1, l2, l3, l4, l5⟩ := h6
        refine ⟨l, A, V, B, l1, by rw [xo 8 1 (by omega) (by omega)]; exact l2, by rw [mo 0 31 (by omega) (by omega) (by omega)]; exact l3, fun k hk => ?_, fun h0 p hp => ?_⟩
        · rw [mo _ 0 (by omega) (by omega) (by omega), mo _ 1 (by omega) (by omega) (by omega)]; exact l4 k hk
        · rw [xo 35 p (by omega) (by omega)]; exact l5 h0 p hp
      · refine ⟨⟨w, w1, by rw [xo 12 2 (by omega) (by omega)]; exact w2, by rw [mo 0 32 (by omega) (by omega) (by omega)]; exact w3, fun k hk => (w4 k (by omega)).fr (fun i => xo 43 i (by omega) (by omega)) (fun i => mo _ i (by omega) (by omega) (by omega))⟩, m + 1, by omega, st_eq _ _ _ _, st_eq _ _ _ _, fun j hj => ?_⟩
        by_cases qj : j = m
        · subst qj
          refine ⟨w, w1, ?_, ?_, ⟨(D, U, T, Y), ?_, ?_, hX.2.2.1, hY, d, hW⟩, fun k hk => ?_⟩
          · rw [st_at, if_neg (by omega), cpS_out (by omega), wtS_out (by omega), st_eq]
          · rw [st_at, if_neg (by omega), r2 0 (by omega)]
            unfold imE
            rw [if_pos rfl]
            exact w3
          · have hS : SX 10 D U T Y (st gX 44 (426 * j) (i3 w)) := hX.2.1.fr (st_ne (by omega)) (st_ne (by omega)) (st_ne (by omega)) (st_ne (by omega))
            exact (wtS_KX (s := (D, U, T, Y)) (Or.inr rfl) hS).mv 44 (426 * j + 1) (fun i hi => by
              rw [st_at, if_neg (by omega), cpS_out (by omega)])
          · exact hM.km.mv (474 + j) 1 (fun i hi => by
              rw [st_at, if_neg (by omega), r2 (1 + i) (by omega)]
              unfold imE
              rw [if_neg (by omega), if_pos (by omega), show 1 + i - 1 = 0 + i by omega])
          · obtain ⟨s, a1, a2, a3⟩ := w4 k hk
            refine ⟨s, a1.mv 44 (426 * j + 26 + 25 * k) (fun i hi => ?_), a2.mv (474 + j) (27 + 26 * k) (fun i hi => ?_), a3⟩
            · rw [st_at, if_neg (by omega), show 426 * j + 26 + 25 * k + i = (426 * j + 1 + 25) + (25 * k + i) by omega, cpS_in (by omega), wtS_out (by omega), st_ne (by omega), Nat.zero_add]
            · rw [st_at, if_neg (by omega), r2 (27 + 26 * k + i) (by omega)]
              unfold imE
              rw [if_neg (by omega), if_neg (by omega), show (27 + 26 * k + i - 27) / 26 = k by omega, show (27 + 26 * k + i - 27) % 26 = 0 + i by omega]
        · obtain ⟨v, v1, v2, v3, ⟨s, a1, a2, a3⟩, v5⟩ := m4 j (by omega)
          refine ⟨v, v1, by rw [xo 44 _ (by omega) (by omega)]; exact v2, by rw [mo _ 0 (by omega) (by omega) (by omega)]; exact v3, ⟨s, a1.mv 44 _ (fun i hi => xo 44 _ (by omega) (by omega)), a2.fr (fun i => mo _ i (by omega) (by omega) (by omega)), a3⟩, fun k hk => ?_⟩
          obtain ⟨s, a1, a2, a3⟩ := v5 k hk
          exact ⟨s, a1.mv 44 _ (fun i hi => xo 44 _ (by omega) (by omega)), a2.fr (fun i => mo _ i (by omega) (by omega) (by omega)), a3⟩
    refine ⟨(i3 (m + 1), st (cpS (wtS (st gX 44 (426 * m) (i3 w)) 44 (426 * m + 1)) 43 0 44 (426 * m + 1 + 25) 400) 12 3 (i3 (m + 1))), (i3 (m + 1), st g1 0 34 (i3 (m + 1))), ?_, ?_, hRR, rfl⟩
    · simp (disch := (first | omega | assumption | trivial)) only [li_0, li_1, li_2, li_3, li_4, li_5, li_6, li_7, li_8, li_9, li_10, li_11, li_12, li_13, li_14, li_15, li_16, li_17, li_18, li_19, li_20, li_21, li_22, li_23, li_24, li_25, li_26, li_27, li_28, li_29, li_30, li_31, li_32, li_33, li_34, li_35, li_36, li_37, li_38, li_39, li_40, li_41, li_42, li_43, li_44, li_45, li_46, li_47, li_48, li_49, li_50, li_51, li_52, li_53, li_54, li_55, li_56, li_57, li_58, li_59, li_60, li_63, li_64, li_72, li_76, li_77, li_91, li_93, li_96, li_97, li_99, li_108, li_109, li_120, li_122, li_150, li_200, li_255, li_400, li_426, li_600, li_900, li_999, li_1000, li_1002, li_1003, li_2000, li_2042, li_2043, li_2045, li_10000, li_32767, li_100000, li_1000000, li_m1, li_m1b, ob_s, lt1_e, se_l, se_r, if_true, if_false, true_and, and_true, false_and, and_false, st_at, i3_add, i3_mul, i3_sub, i3_lt, i3_le, i3_eq, i3_nat, m1_eqi, i3_eqm, m1_lti, m1_lei, i3_ltm, i3_lem, i3_decm, i3_dec0, nm_eqm, yr_eqm, mxor0, Nat.zero_add, if_pos, if_neg, eq_self, ne_eq, not_true_eq_false, not_false_eq_true, fX_image, fX_Past_keepImage, m2, hm, w2, c0, c1, c2, x12]
    · simp (disch := (first | omega | assumption | trivial)) only [li_0, li_1, li_2, li_3, li_4, li_5, li_6, li_7, li_8, li_9, li_10, li_11, li_12, li_13, li_14, li_15, li_16, li_17, li_18, li_19, li_20, li_21, li_22, li_23, li_24, li_25, li_26, li_27, li_28, li_29, li_30, li_31, li_32, li_33, li_34, li_35, li_36, li_37, li_38, li_39, li_40, li_41, li_42, li_43, li_44, li_45, li_46, li_47, li_48, li_49, li_50, li_51, li_52, li_53, li_54, li_55, li_56, li_57, li_58, li_59, li_60, li_63, li_64, li_72, li_76, li_77, li_91, li_93, li_96, li_97, li_99, li_108, li_109, li_120, li_122, li_150, li_200, li_255, li_400, li_426, li_600, li_900, li_999, li_1000, li_1002, li_1003, li_2000, li_2042, li_2043, li_2045, li_10000, li_32767, li_100000, li_1000000, li_m1, li_m1b, ob_s, lt1_e, se_l, se_r, if_true, if_false, true_and, and_true, false_and, and_false, st_at, i3_add, i3_mul, i3_sub, i3_lt, i3_le, i3_eq, i3_nat, m1_eqi, i3_eqm, m1_lti, m1_lei, i3_ltm, i3_lem, i3_decm, i3_dec0, nm_eqm, yr_eqm, mxor0, Nat.zero_add, if_pos, if_neg, eq_self, ne_eq, not_true_eq_false, not_false_eq_true, fM_image, hg0.symm, m3', e1, g34]
theorem S_restore : Sim_restore R := by
  intro gX xX gM xM hR
  obtain ⟨g0, hg0⟩ : ∃ g0, g0 = st gM 0 0 (i3 0) := ⟨_, rfl⟩
  have k0 : KM gM g0 := by rw [hg0]; exact KM.thrown
  have hR0 : R gX xX g0 xM := hR.fr KX.rf k0
  obtain ⟨W, n, N, K, F, D, U, T, Y, d, hX, hM, hY, hW, h6, h7⟩ := id hR0.2.2.2
  obtain ⟨⟨w, w1, w2, w3, w4⟩, m, m1', m2, m3, m4⟩ := h7
  have m3' : gM 0 34 = i3 m := by rw [← m3, hg0, st_at, if_neg (by omega)]
  by_cases q : m = 0
  · subst q
    refine ⟨(m1, gX), (m1, g0), ?_, ?_, hR0, rfl⟩
    · simp (disch := (first | omega | assumption | trivial)) only [li_0, li_1, li_2, li_3, li_4, li_5, li_6, li_7, li_8, li_9, li_10, li_11, li_12, li_13, li_14, li_15, li_16, li_17, li_18, li_19, li_20, li_21, li_22, li_23, li_24, li_25, li_26, li_27, li_28, li_29, li_30, li_31, li_32, li_33, li_34, li_35, li_36, li_37, li_38, li_39, li_40, li_41, li_42, li_43, li_44, li_45, li_46, li_47, li_48, li_49, li_50, li_51, li_52, li_53, li_54, li_55, li_56, li_57, li_58, li_59, li_60, li_63, li_64, li_72, li_76, li_77, li_91, li_93, li_96, li_97, li_99, li_108, li_109, li_120, li_122, li_150, li_200, li_255, li_400, li_426, li_600, li_900, li_999, li_1000, li_1002, li_1003, li_2000, li_2042, li_2043, li_2045, li_10000, li_32767, li_100000, li_1000000, li_m1, li_m1b, ob_s, lt1_e, se_l, se_r, if_true, if_false, true_and, and_true, false_and, and_false, st_at, i3_add, i3_mul, i3_sub, i3_lt, i3_le, i3_eq, i3_nat, m1_eqi, i3_eqm, m1_lti, m1_lei, i3_ltm, i3_lem, i3_decm, i3_dec0, nm_eqm, yr_eqm, mxor0, Nat.zero_add, if_pos, if_neg, eq_self, ne_eq, not_true_eq_false, not_false_eq_true, fX_restore, m2]
    · simp (disch := (first | omega | assumption | trivial)) only [li_0, li_1, li_2, li_3, li_4, li_5, li_6, li_7, li_8, li_9, li_10, li_11, li_12, li_13, li_14, li_15, li_16, li_17, li_18, li_19, li_20, li_21, li_22, li_23, li_24, li_25, li_26, li_27, li_28, li_29, li_30, li_31, li_32, li_33, li_34, li_35, li_36, li_37, li_38, li_39, li_40, li_41, li_42, li_43, li_44, li_45, li_46, li_47, li_48, li_49, li_50, li_51, li_52, li_53, li_54, li_55, li_56, li_57, li_58, li_59, li_60, li_63, li_64, li_72, li_76, li_77, li_91, li_93, li_96, li_97, li_99, li_108, li_109, li_120, li_122, li_150, li_200, li_255, li_400, li_426, li_600, li_900, li_999, li_1000, li_1002, li_1003, li_2000, li_2042, li_2043, li_2045, li_10000, li_32767, li_100000, li_1000000, li_m1, li_m1b, ob_s, lt1_e, se_l, se_r, if_true, if_false, true_and, and_true, false_and, and_false, st_at, i3_add, i3_mul, i3_sub, i3_lt, i3_le, i3_eq, i3_nat, m1_eqi, i3_eqm, m1_lti, m1_lei, i3_ltm, i3_lem, i3_decm, i3_dec0, nm_eqm, yr_eqm, mxor0, Nat.zero_add, if_pos, if_neg, eq_self, ne_eq, not_true_eq_false, not_false_eq_true, fM_restore, hg0.symm, m3']
  · obtain ⟨v, v1, v2, v3, ⟨s, a1, a2, gB, gY, d', gW⟩, v5⟩ := m4 (m - 1) (by omega)
    obtain ⟨g1, e1, r0, r1, r2, r3, r4, r5⟩ := rsAll (g0 := st g0 0 34 (i3 (m - 1))) (X := 474 + (m - 1)) (by omega)
    have hm := i3_mul (m - 1) 426
    rw [Nat.mul_comm (m - 1) 426] at hm
    have c0 := at44 (k := 426 * (m - 1)) (g := st gX 12 3 (i3 (m - 1))) (by omega)
    rw [st_ne (by omega), v2] at c0
    have c1 := X_read (g := st (st gX 12 3 (i3 (m - 1))) 12 2 (i3 v)) (row := 44) (o := 426 * (m - 1) + 1) (Or.inr rfl) (show lenW shX 44 = 1278 from rfl) (by omega) (by omega)
    have c2 := X_copy (a := 44) (b := 43) (s := 426 * (m - 1) + 1 + 25) (p := 0) (m := 400) (show lenW shX 44 = 1278 from rfl) (show lenW shX 43 = 400 from rfl) (by omega) (by omega) (by omega) (by omega) (by omega) (rdS (st (st gX 12 3 (i3 (m - 1))) 12 2 (i3 v)) 44 (426 * (m - 1) + 1))
    generalize hG : (cpS (rdS (st (st gX 12 3 (i3 (m - 1))) 12 2 (i3 v)) 44 (426 * (m - 1) + 1)) 44 (426 * (m - 1) + 1 + 25) 43 0 400) = G at c2
    have xo' : ∀ p i, ¬ (p = 43 ∨ (37 ≤ p ∧ p ≤ 39)) → ¬ (p = 10 ∧ i = 5) → ¬ (p = 12 ∧ (i = 2 ∨ i = 3)) → G p i = gX p i := fun p i a b c => by
      rw [← hG, cpS_ne (by omega), rdS_out (by omega) b, st_at, if_neg (by omega), st_at, if_neg (by omega)]
    have xo : ∀ p i, ¬ (p = 43 ∨ (37 ≤ p ∧ p ≤ 39)) → ¬ (p = 10 ∧ i = 5) → ¬ (p = 12 ∧ (i = 2 ∨ i = 3)) → ¬ (p = 0 ∧ i = 16) → (st G 0 16 (i3 0)) p i = gX p i := fun p i a b c e => by
      rw [st_at, if_neg e]; exact xo' p i a b c
    have x2 : G 12 2 = i3 v := by rw [← hG, cpS_ne (by omega), rdS_out (by omega) (by omega), st_eq]
    have x3 : G 12 3 = i3 (m - 1) := by rw [← hG, cpS_ne (by omega), rdS_out (by omega) (by omega), st_at, if_neg (by omega), st_eq]
    have ks : KX8 44 (426 * (m - 1) + 1) s (st (st gX 12 3 (i3 (m - 1))) 12 2 (i3 v)) := a1.fr (fun i => by rw [st_ne (by omega), st_ne (by omega)])
    have hS := rdS_SX (Or.inr rfl) ks
    have hS2 : SX 10 s.1 s.2.1 s.2.2.1 s.2.2.2 (st G 0 16 (i3 0)) := hS.fr (by rw [st_ne (by omega), ← hG, cpS_ne (by omega)]) (by rw [st_ne (by omega), ← hG, cpS_ne (by omega)]) (by rw [st_ne (by omega), ← hG, cpS_ne (by omega)]) (by rw [st_ne (by omega), ← hG, cpS_ne (by omega)])
    have mo : ∀ p i, p ≠ 16 → ¬ (458 ≤ p ∧ p < 474) → ¬ (p = 0 ∧ (i = 35 ∨ i = 32 ∨ i = 34 ∨ i = 33)) → (st g1 0 33 (i3 0)) p i = g0 p i := fun p i a b c => by
      rw [st_at, if_neg (by omega), r5 p i a b (by omega), st_at, if_neg (by omega)]
    have g34 : g1 0 34 = i3 (m - 1) := by rw [r5 0 34 (by omega) (by omega) (by omega), st_eq]
    have kM : KM8 16 0 n s (st g1 0 33 (i3 0)) := a2.mv 16 0 (fun i hi => by
      rw [st_ne (by omega), Nat.zero_add, r3 i hi (by omega), st_ne (by omega)])
    have hRR : R (st G 0 16 (i3 0)) xX (st g1 0 33 (i3 0)) xM := by
      refine ⟨?_, ?_, ?_, W, n, N, K, F, s.1, s.2.1, s.2.2.1, s.2.2.2, d', ?_, ?_, gY, gW, ?_, ?_⟩
      · obtain ⟨len, b, l1, l2, l3, l4⟩ := hR0.1
        exact ⟨len, b, l1, by rw [xo 1 1 (by omega) (by omega) (by omega) (by omega)]; exact l2, by rw [mo 0 1 (by omega) (by omega) (by omega)]; exact l3, fun k hk => by rw [xo 16 k (by omega) (by omega) (by omega) (by omega), mo 1 k (by omega) (by omega) (by omega)]; exact l4 k hk⟩
      · obtain ⟨b1, b2, b3⟩ := hR0.2.1
        exact ⟨by rw [xo 1 7 (by omega) (by omega) (by omega) (by omega), mo 0 3 (by omega) (by omega) (by omega)]; exact b1, by rw [xo 0 17 (by omega) (by omega) (by omega) (by omega), mo 2 0 (by omega) (by omega) (by omega)]; exact b2, by rw [xo 0 18 (by omega) (by omega) (by omega) (by omega), mo 2 1 (by omega) (by omega) (by omega)]; exact b3⟩
      · unfold R4
        rw [st_eq, st_eq]
      · exact hX.mk5 hS2 gB (fun p i h => xo p i (by omega) (by omega) (by omega) (by omega))
      · exact hM.mk5 kM gB (fun p i h => mo p i (by omega) (by omega) (by omega))
      · obtain ⟨l, A, V, B, l1, l2, l3, l4, l5⟩ := h6
        refine ⟨l, A, V, B, l1, by rw [xo 8 1 (by omega) (by omega) (by omega) (by omega)]; exact l2, by rw [mo 0 31 (by omega) (by omega) (by omega)]; exact l3, fun k hk => ?_, fun h0 p hp => ?_⟩
        · rw [mo _ 0 (by omega) (by omega) (by omega), mo _ 1 (by omega) (by omega) (by omega)]; exact l4 k hk
        · rw [xo 35 p (by omega) (by omega) (by omega) (by omega)]; exact l5 h0 p hp
      · refine ⟨⟨v, v1, by rw [st_at, if_neg (by omega)]; exact x2, by rw [st_at, if_neg (by omega), r2 (by omega), st_ne (by omega)]; exact v3, fun k hk => ?_⟩, m - 1, by omega, by rw [st_at, if_neg (by omega)]; exact x3, by rw [st_at, if_neg (by omega)]; exact g34, fun j hj => ?_⟩
        · obtain ⟨s2, b1, b2, b3⟩ := v5 k hk
          refine ⟨s2, b1.mv 43 (25 * k) (fun i hi => ?_), b2.mv (458 + k) 0 (fun i hi => ?_), b3⟩
          · rw [st_ne (by omega), ← hG]
            have e := cpS_in (g := rdS (st (st gX 12 3 (i3 (m - 1))) 12 2 (i3 v)) 44 (426 * (m - 1) + 1)) (a := 44) (s := 426 * (m - 1) + 1 + 25) (b := 43) (p := 0) (m := 400) (k := 25 * k + i) (by omega)
            rw [Nat.zero_add] at e
            rw [e, rdS_out (by omega) (by omega), st_ne (by omega), st_ne (by omega), show 426 * (m - 1) + 1 + 25 + (25 * k + i) = 426 * (m - 1) + 26 + 25 * k + i by omega]
          · rw [st_ne (by omega), Nat.zero_add, r4 k i (by omega) hi (by omega), st_ne (by omega)]
        · obtain ⟨u, u1, u2, u3, u4, u5⟩ := m4 j (by omega)
          exact ⟨u, u1, by rw [xo 44 _ (by omega) (by omega) (by omega) (by omega)]; exact u2, by rw [mo _ 0 (by omega) (by omega) (by omega)]; exact u3, u4.fr (fun i => xo 44 i (by omega) (by omega) (by omega) (by omega)) (fun i => mo _ i (by omega) (by omega) (by omega)), fun k hk => (u5 k hk).fr (fun i => xo 44 i (by omega) (by omega) (by omega) (by omega)) (fun i => mo _ i (by omega) (by omega) (by omega))⟩
    refine ⟨(i3 (m - 1), st G 0 16 (i3 0)), (i3 (m - 1), st g1 0 33 (i3 0)), ?_, ?_, hRR, rfl⟩
    · simp (disch := (first | omega | assumption | trivial)) only [li_0, li_1, li_2, li_3, li_4, li_5, li_6, li_7, li_8, li_9, li_10, li_11, li_12, li_13, li_14, li_15, li_16, li_17, li_18, li_19, li_20, li_21, li_22, li_23, li_24, li_25, li_26, li_27, li_28, li_29, li_30, li_31, li_32, li_33, li_34, li_35, li_36, li_37, li_38, li_39, li_40, li_41, li_42, li_43, li_44, li_45, li_46, li_47, li_48, li_49, li_50, li_51, li_52, li_53, li_54, li_55, li_56, li_57, li_58, li_59, li_60, li_63, li_64, li_72, li_76, li_77, li_91, li_93, li_96, li_97, li_99, li_108, li_109, li_120, li_122, li_150, li_200, li_255, li_400, li_426, li_600, li_900, li_999, li_1000, li_1002, li_1003, li_2000, li_2042, li_2043, li_2045, li_10000, li_32767, li_100000, li_1000000, li_m1, li_m1b, ob_s, lt1_e, se_l, se_r, if_true, if_false, true_and, and_true, false_and, and_false, st_at, i3_add, i3_mul, i3_sub, i3_lt, i3_le, i3_eq, i3_nat, m1_eqi, i3_eqm, m1_lti, m1_lei, i3_ltm, i3_lem, i3_decm, i3_dec0, nm_eqm, yr_eqm, mxor0, Nat.zero_add, if_pos, if_neg, eq_self, ne_eq, not_true_eq_false, not_false_eq_true, fX_restore, fX_Past_restoreImage, m2, hm, c0, c1, c2, x3]
    · simp (disch := (first | omega | assumption | trivial)) only [li_0, li_1, li_2, li_3, li_4, li_5, li_6, li_7, li_8, li_9, li_10, li_11, li_12, li_13, li_14, li_15, li_16, li_17, li_18, li_19, li_20, li_21, li_22, li_23, li_24, li_25, li_26, li_27, li_28, li_29, li_30, li_31, li_32, li_33, li_34, li_35, li_36, li_37, li_38, li_39, li_40, li_41, li_42, li_43, li_44, li_45, li_46, li_47, li_48, li_49, li_50, li_51, li_52, li_53, li_54, li_55, li_56, li_57, li_58, li_59, li_60, li_63, li_64, li_72, li_76, li_77, li_91, li_93, li_96, li_97, li_99, li_108, li_109, li_120, li_122, li_150, li_200, li_255, li_400, li_426, li_600, li_900, li_999, li_1000, li_1002, li_1003, li_2000, li_2042, li_2043, li_2045, li_10000, li_32767, li_100000, li_1000000, li_m1, li_m1b, ob_s, lt1_e, se_l, se_r, if_true, if_false, true_and, and_true, false_and, and_false, st_at, i3_add, i3_mul, i3_sub, i3_lt, i3_le, i3_eq, i3_nat, m1_eqi, i3_eqm, m1_lti, m1_lei, i3_ltm, i3_lem, i3_decm, i3_dec0, nm_eqm, yr_eqm, mxor0, Nat.zero_add, if_pos, if_neg, eq_self, ne_eq, not_true_eq_false, not_false_eq_true, fM_restore, hg0.symm, m3', e1, g34]
