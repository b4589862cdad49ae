/-! PURE: text: blanks, letters -/
def TXt (e : Nat) (b : Nat → Nat) (g : St) : Prop := e ≤ 600 ∧ g 1 2 = i3 e ∧ ∀ k, k < 600 → b k < 256 ∧ g 16 k = i3 (b k)
def TMt (e : Nat) (b : Nat → Nat) (g : St) : Prop := e ≤ 600 ∧ g 0 2 = i3 e ∧ ∀ k, k < 600 → b k < 256 ∧ g 1 k = i3 (b k)
/-- a run of places that P holds of -/
def RUN (P : Nat → Prop) (e c m : Nat) : Prop := c + m ≤ e ∧ (∀ j, j < m → P (c + j)) ∧ (c + m < e → ¬ P (c + m))
theorem run_ex (P : Nat → Prop) (e : Nat) : ∀ d c, c + d = e → ∃ m, RUN P e c m
  | 0, c, h => ⟨0, by omega, fun j hj => by omega, fun h2 => by omega⟩
  | d + 1, c, h => by
    by_cases q : P c
    · obtain ⟨m, h1, h2, h3⟩ := run_ex P e d (c + 1) (by omega)
      refine ⟨m + 1, by omega, fun j hj => ?_, fun h4 => ?_⟩
      · rcases j with _ | j
        · exact q
        · have := h2 j (by omega)
          rw [show c + (j + 1) = c + 1 + j by omega]
          exact this
      · rw [show c + (m + 1) = c + 1 + m by omega]
        exact h3 (by omega)
    · exact ⟨0, by omega, fun j hj => by omega, fun _ => q⟩
section TT
variable {e c m : Nat} {b : Nat → Nat} {g : St}
theorem TXt.fr (h : TXt e b g) {g' : St} (f : ∀ p i, ¬ (p = 1 ∧ i = 3) → g' p i = g p i) : TXt e b g' := ⟨h.1, (f 1 2 (by omega)).trans h.2.1, fun k hk => ⟨(h.2.2 k hk).1, (f 16 k (by omega)).trans (h.2.2 k hk).2⟩⟩
theorem TMt.fr (h : TMt e b g) {g' : St} (f : ∀ p i, ¬ (p = 0 ∧ i = 4) → g' p i = g p i) : TMt e b g' := ⟨h.1, (f 0 2 (by omega)).trans h.2.1, fun k hk => ⟨(h.2.2 k hk).1, (f 1 k (by omega)).trans (h.2.2 k hk).2⟩⟩
theorem TMt.byteAt (h : TMt e b g) {k : Nat} (hk : k ≤ 700) : fM_byteAt (i3 k) g = some (if k < e then i3 (b k) else m1) := by
  obtain ⟨h1, h2, h3⟩ := h
  by_cases q : k < e
  · rw [if_pos q]
    have h4 := (h3 k (by omega)).2
    simp (disch := (first | omega | assumption | trivial)) only [li_0, li_1, li_2, li_3, li_4, li_5, li_6, li_7, li_8, li_9, li_10, li_11, li_12, li_13, li_14, li_15, li_16, li_17, li_18, li_19, li_20, li_21, li_22, li_23, li_24, li_25, li_26, li_27, li_28, li_29, li_30, li_31, li_32, li_33, li_34, li_35, li_36, li_37, li_38, li_39, li_40, li_41, li_42, li_43, li_44, li_45, li_46, li_47, li_48, li_49, li_50, li_51, li_52, li_53, li_54, li_55, li_56, li_57, li_58, li_59, li_60, li_63, li_64, li_72, li_76, li_77, li_91, li_93, li_96, li_97, li_99, li_108, li_109, li_120, li_122, li_150, li_200, li_255, li_400, li_426, li_600, li_900, li_999, li_1000, li_1002, li_1003, li_2000, li_2042, li_2043, li_2045, li_10000, li_32767, li_100000, li_1000000, li_m1, li_m1b, ob_s, lt1_e, se_l, se_r, if_true, if_false, true_and, and_true, false_and, and_false, st_at, i3_add, i3_mul, i3_sub, i3_lt, i3_le, i3_eq, i3_nat, m1_eqi, i3_eqm, m1_lti, m1_lei, i3_ltm, i3_lem, i3_decm, i3_dec0, nm_eqm, yr_eqm, mxor0, Nat.zero_add, if_pos, if_neg, eq_self, ne_eq, not_true_eq_false, not_false_eq_true, fM_byteAt, h2, h4]
  · rw [if_neg q]
    simp (disch := (first | omega | assumption | trivial)) only [li_0, li_1, li_2, li_3, li_4, li_5, li_6, li_7, li_8, li_9, li_10, li_11, li_12, li_13, li_14, li_15, li_16, li_17, li_18, li_19, li_20, li_21, li_22, li_23, li_24, li_25, li_26, li_27, li_28, li_29, li_30, li_31, li_32, li_33, li_34, li_35, li_36, li_37, li_38, li_39, li_40, li_41, li_42, li_43, li_44, li_45, li_46, li_47, li_48, li_49, li_50, li_51, li_52, li_53, li_54, li_55, li_56, li_57, li_58, li_59, li_60, li_63, li_64, li_72, li_76, li_77, li_91, li_93, li_96, li_97, li_99, li_108, li_109, li_120, li_122, li_150, li_200, li_255, li_400, li_426, li_600, li_900, li_999, li_1000, li_1002, li_1003, li_2000, li_2042, li_2043, li_2045, li_10000, li_32767, li_100000, li_1000000, li_m1, li_m1b, ob_s, lt1_e, se_l, se_r, if_true, if_false, true_and, and_true, false_and, and_false, st_at, i3_add, i3_mul, i3_sub, i3_lt, i3_le, i3_eq, i3_nat, m1_eqi, i3_eqm, m1_lti, m1_lei, i3_ltm, i3_lem, i3_decm, i3_dec0, nm_eqm, yr_eqm, mxor0, Nat.zero_add, if_pos, if_neg, eq_self, ne_eq, not_true_eq_false, not_false_eq_true, fM_byteAt, h2]
theorem X_blanks (h : TXt e b g) (hc : g 1 3 = i3 c) (hr : RUN (fun k => b k = 32) e c m) : ∃ g', fX_Text_nextByte g = some ((if c + m < e then i3 (b (c + m)) else m1), g') ∧ g' 1 3 = i3 (c + m) ∧ ∀ p i, ¬ (p = 1 ∧ i = 3) → g' p i = g p i := by
  obtain ⟨r1, r2, r3⟩ := hr
  have h600 := h.1
  obtain ⟨g', e1, h1, f1⟩ : ∃ g', lp fX_Text_nextByte_L0 fuel g = some g' ∧ g' 1 3 = i3 (c + m) ∧ ∀ p i, ¬ (p = 1 ∧ i = 3) → g' p i = g p i := by
    refine lp_all (fun k z => z 1 3 = i3 (c + k) ∧ ∀ p i, ¬ (p = 1 ∧ i = 3) → z p i = g p i) (fun z : St => z 1 3 = i3 (c + m) ∧ ∀ p i, ¬ (p = 1 ∧ i = 3) → z p i = g p i) m (by omega) ?_ ?_ ⟨hc, fun _ _ _ => rfl⟩
    · rintro k z hk ⟨z1, z2⟩
      obtain ⟨_, t2, t3⟩ := h.fr z2
      have t4 := (t3 (c + k) (by omega)).2
      have t5 : b (c + k) = 32 := r2 k hk
      rw [t5] at t4
      refine ⟨st z 1 3 (i3 (c + k + 1)), ?_, st_eq _ _ _ _, fun p i w => by rw [st_at, if_neg w]; exact z2 p i w⟩
      simp (disch := (first | omega | assumption | trivial)) only [li_0, li_1, li_2, li_3, li_4, li_5, li_6, li_7, li_8, li_9, li_10, li_11, li_12, li_13, li_14, li_15, li_16, li_17, li_18, li_19, li_20, li_21, li_22, li_23, li_24, li_25, li_26, li_27, li_28, li_29, li_30, li_31, li_32, li_33, li_34, li_35, li_36, li_37, li_38, li_39, li_40, li_41, li_42, li_43, li_44, li_45, li_46, li_47, li_48, li_49, li_50, li_51, li_52, li_53, li_54, li_55, li_56, li_57, li_58, li_59, li_60, li_63, li_64, li_72, li_76, li_77, li_91, li_93, li_96, li_97, li_99, li_108, li_109, li_120, li_122, li_150, li_200, li_255, li_400, li_426, li_600, li_900, li_999, li_1000, li_1002, li_1003, li_2000, li_2042, li_2043, li_2045, li_10000, li_32767, li_100000, li_1000000, li_m1, li_m1b, ob_s, lt1_e, se_l, se_r, if_true, if_false, true_and, and_true, false_and, and_false, st_at, i3_add, i3_mul, i3_sub, i3_lt, i3_le, i3_eq, i3_nat, m1_eqi, i3_eqm, m1_lti, m1_lei, i3_ltm, i3_lem, i3_decm, i3_dec0, nm_eqm, yr_eqm, mxor0, Nat.zero_add, if_pos, if_neg, eq_self, ne_eq, not_true_eq_false, not_false_eq_true, fX_Text_nextByte_L0, t2, z1, at16, t4]
    · rintro z ⟨z1, z2⟩
      obtain ⟨_, t2, t3⟩ := h.fr z2
      refine ⟨z, ?_, z1, z2⟩
      by_cases q : c + m < e
      · have t4 := (t3 (c + m) (by omega)).2
        have t5 := (t3 (c + m) (by omega)).1
        have t6 : ¬ b (c + m) = 32 := r3 q
        simp (disch := (first | omega | assumption | trivial)) only [li_0, li_1, li_2, li_3, li_4, li_5, li_6, li_7, li_8, li_9, li_10, li_11, li_12, li_13, li_14, li_15, li_16, li_17, li_18, li_19, li_20, li_21, li_22, li_23, li_24, li_25, li_26, li_27, li_28, li_29, li_30, li_31, li_32, li_33, li_34, li_35, li_36, li_37, li_38, li_39, li_40, li_41, li_42, li_43, li_44, li_45, li_46, li_47, li_48, li_49, li_50, li_51, li_52, li_53, li_54, li_55, li_56, li_57, li_58, li_59, li_60, li_63, li_64, li_72, li_76, li_77, li_91, li_93, li_96, li_97, li_99, li_108, li_109, li_120, li_122, li_150, li_200, li_255, li_400, li_426, li_600, li_900, li_999, li_1000, li_1002, li_1003, li_2000, li_2042, li_2043, li_2045, li_10000, li_32767, li_100000, li_1000000, li_m1, li_m1b, ob_s, lt1_e, se_l, se_r, if_true, if_false, true_and, and_true, false_and, and_false, st_at, i3_add, i3_mul, i3_sub, i3_lt, i3_le, i3_eq, i3_nat, m1_eqi, i3_eqm, m1_lti, m1_lei, i3_ltm, i3_lem, i3_decm, i3_dec0, nm_eqm, yr_eqm, mxor0, Nat.zero_add, if_pos, if_neg, eq_self, ne_eq, not_true_eq_false, not_false_eq_true, fX_Text_nextByte_L0, t2, z1, at16, t4]
      · simp (disch := (first | omega | assumption | trivial)) only [li_0, li_1, li_2, li_3, li_4, li_5, li_6, li_7, li_8, li_9, li_10, li_11, li_12, li_13, li_14, li_15, li_16, li_17, li_18, li_19, li_20, li_21, li_22, li_23, li_24, li_25, li_26, li_27, li_28, li_29, li_30, li_31, li_32, li_33, li_34, li_35, li_36, li_37, li_38, li_39, li_40, li_41, li_42, li_43, li_44, li_45, li_46, li_47, li_48, li_49, li_50, li_51, li_52, li_53, li_54, li_55, li_56, li_57, li_58, li_59, li_60, li_63, li_64, li_72, li_76, li_77, li_91, li_93, li_96, li_97, li_99, li_108, li_109, li_120, li_122, li_150, li_200, li_255, li_400, li_426, li_600, li_900, li_999, li_1000, li_1002, li_1003, li_2000, li_2042, li_2043, li_2045, li_10000, li_32767, li_100000, li_1000000, li_m1, li_m1b, ob_s, lt1_e, se_l, se_r, if_true, if_false, true_and, and_true, false_and, and_false, st_at, i3_add, i3_mul, i3_sub, i3_lt, i3_le, i3_eq, i3_nat, m1_eqi, i3_eqm, m1_lti, m1_lei, i3_ltm, i3_lem, i3_decm, i3_dec0, nm_eqm, yr_eqm, mxor0, Nat.zero_add, if_pos, if_neg, eq_self, ne_eq, not_true_eq_false, not_false_eq_true, fX_Text_nextByte_L0, t2, z1]
  obtain ⟨_, t2, t3⟩ := h.fr f1
  refine ⟨g', ?_, h1, f1⟩
  by_cases q : c + m < e
  · rw [if_pos q]
    have t4 := (t3 (c + m) (by omega)).2
    simp (disch := (first | omega | assumption | trivial)) only [li_0, li_1, li_2, li_3, li_4, li_5, li_6, li_7, li_8, li_9, li_10, li_11, li_12, li_13, li_14, li_15, li_16, li_17, li_18, li_19, li_20, li_21, li_22, li_23, li_24, li_25, li_26, li_27, li_28, li_29, li_30, li_31, li_32, li_33, li_34, li_35, li_36, li_37, li_38, li_39, li_40, li_41, li_42, li_43, li_44, li_45, li_46, li_47, li_48, li_49, li_50, li_51, li_52, li_53, li_54, li_55, li_56, li_57, li_58, li_59, li_60, li_63, li_64, li_72, li_76, li_77, li_91, li_93, li_96, li_97, li_99, li_108, li_109, li_120, li_122, li_150, li_200, li_255, li_400, li_426, li_600, li_900, li_999, li_1000, li_1002, li_1003, li_2000, li_2042, li_2043, li_2045, li_10000, li_32767, li_100000, li_1000000, li_m1, li_m1b, ob_s, lt1_e, se_l, se_r, if_true, if_false, true_and, and_true, false_and, and_false, st_at, i3_add, i3_mul, i3_sub, i3_lt, i3_le, i3_eq, i3_nat, m1_eqi, i3_eqm, m1_lti, m1_lei, i3_ltm, i3_lem, i3_decm, i3_dec0, nm_eqm, yr_eqm, mxor0, Nat.zero_add, if_pos, if_neg, eq_self, ne_eq, not_true_eq_false, not_false_eq_true, fX_Text_nextByte, fX_Text_nextByte_b0, e1, t2, h1, at16, t4]
  · rw [if_neg q]
    simp (disch := (first | omega | assumption | trivial)) only [li_0, li_1, li_2, li_3, li_4, li_5, li_6, li_7, li_8, li_9, li_10, li_11, li_12, li_13, li_14, li_15, li_16, li_17, li_18, li_19, li_20, li_21, li_22, li_23, li_24, li_25, li_26, li_27, li_28, li_29, li_30, li_31, li_32, li_33, li_34, li_35, li_36, li_37, li_38, li_39, li_40, li_41, li_42, li_43, li_44, li_45, li_46, li_47, li_48, li_49, li_50, li_51, li_52, li_53, li_54, li_55, li_56, li_57, li_58, li_59, li_60, li_63, li_64, li_72, li_76, li_77, li_91, li_93, li_96, li_97, li_99, li_108, li_109, li_120, li_122, li_150, li_200, li_255, li_400, li_426, li_600, li_900, li_999, li_1000, li_1002, li_1003, li_2000, li_2042, li_2043, li_2045, li_10000, li_32767, li_100000, li_1000000, li_m1, li_m1b, ob_s, lt1_e, se_l, se_r, if_true, if_false, true_and, and_true, false_and, and_false, st_at, i3_add, i3_mul, i3_sub, i3_lt, i3_le, i3_eq, i3_nat, m1_eqi, i3_eqm, m1_lti, m1_lei, i3_ltm, i3_lem, i3_decm, i3_dec0, nm_eqm, yr_eqm, mxor0, Nat.zero_add, if_pos, if_neg, eq_self, ne_eq, not_true_eq_false, not_false_eq_true, fX_Text_nextByte, fX_Text_nextByte_b0, e1, t2, h1]
theorem M_blanks (h : TMt e b g) (hc : g 0 4 = i3 c) (hr : RUN (fun k => b k = 32) e c m) : ∃ g', fM_blanks g = some g' ∧ g' 0 4 = i3 (c + m) ∧ ∀ p i, ¬ (p = 0 ∧ i = 4) → g' p i = g p i := by
  obtain ⟨r1, r2, r3⟩ := hr
  have h600 := h.1
  obtain ⟨g', e1, h1, f1⟩ : ∃ g', lp fM_blanks_L0 fuel g = some g' ∧ g' 0 4 = i3 (c + m) ∧ ∀ p i, ¬ (p = 0 ∧ i = 4) → g' p i = g p i := by
    refine lp_all (fun k z => z 0 4 = i3 (c + k) ∧ ∀ p i, ¬ (p = 0 ∧ i = 4) → z p i = g p i) (fun z : St => z 0 4 = i3 (c + m) ∧ ∀ p i, ¬ (p = 0 ∧ i = 4) → z p i = g p i) m (by omega) ?_ ?_ ⟨hc, fun _ _ _ => rfl⟩
    · rintro k z hk ⟨z1, z2⟩
      have t4 := (h.fr z2).byteAt (k := c + k) (by omega)
      have t5 : b (c + k) = 32 := r2 k hk
      rw [if_pos (by omega), t5] at t4
      refine ⟨st z 0 4 (i3 (c + k + 1)), ?_, st_eq _ _ _ _, fun p i w => by rw [st_at, if_neg w]; exact z2 p i w⟩
      simp (disch := (first | omega | assumption | trivial)) only [li_0, li_1, li_2, li_3, li_4, li_5, li_6, li_7, li_8, li_9, li_10, li_11, li_12, li_13, li_14, li_15, li_16, li_17, li_18, li_19, li_20, li_21, li_22, li_23, li_24, li_25, li_26, li_27, li_28, li_29, li_30, li_31, li_32, li_33, li_34, li_35, li_36, li_37, li_38, li_39, li_40, li_41, li_42, li_43, li_44, li_45, li_46, li_47, li_48, li_49, li_50, li_51, li_52, li_53, li_54, li_55, li_56, li_57, li_58, li_59, li_60, li_63, li_64, li_72, li_76, li_77, li_91, li_93, li_96, li_97, li_99, li_108, li_109, li_120, li_122, li_150, li_200, li_255, li_400, li_426, li_600, li_900, li_999, li_1000, li_1002, li_1003, li_2000, li_2042, li_2043, li_2045, li_10000, li_32767, li_100000, li_1000000, li_m1, li_m1b, ob_s, lt1_e, se_l, se_r, if_true, if_false, true_and, and_true, false_and, and_false, st_at, i3_add, i3_mul, i3_sub, i3_lt, i3_le, i3_eq, i3_nat, m1_eqi, i3_eqm, m1_lti, m1_lei, i3_ltm, i3_lem, i3_decm, i3_dec0, nm_eqm, yr_eqm, mxor0, Nat.zero_add, if_pos, if_neg, eq_self, ne_eq, not_true_eq_false, not_false_eq_true, fM_blanks_L0, z1, t4]
    · rintro z ⟨z1, z2⟩
      have t4 := (h.fr z2).byteAt (k := c + m) (by omega)
      refine ⟨z, ?_, z1, z2⟩
      by_cases q : c + m < e
      · have t5 := (h.2.2 (c + m) (by omega)).1
        have t6 : ¬ b (c + m) = 32 := r3 q
        rw [if_pos q] at t4
        simp (disch := (first | omega | assumption | trivial)) only [li_0, li_1, li_2, li_3, li_4, li_5, li_6, li_7, li_8, li_9, li_10, li_11, li_12, li_13, li_14, li_15, li_16, li_17, li_18, li_19, li_20, li_21, li_22, li_23, li_24, li_25, li_26, li_27, li_28, li_29, li_30, li_31, li_32, li_33, li_34, li_35, li_36, li_37, li_38, li_39, li_40, li_41, li_42, li_43, li_44, li_45, li_46, li_47, li_48, li_49, li_50, li_51, li_52, li_53, li_54, li_55, li_56, li_57, li_58, li_59, li_60, li_63, li_64, li_72, li_76, li_77, li_91, li_93, li_96, li_97, li_99, li_108, li_109, li_120, li_122, li_150, li_200, li_255, li_400, li_426, li_600, li_900, li_999, li_1000, li_1002, li_1003, li_2000, li_2042, li_2043, li_2045, li_10000, li_32767, li_100000, li_1000000, li_m1, li_m1b, ob_s, lt1_e, se_l, se_r, if_true, if_false, true_and, and_true, false_and, and_false, st_at, i3_add, i3_mul, i3_sub, i3_lt, i3_le, i3_eq, i3_nat, m1_eqi, i3_eqm, m1_lti, m1_lei, i3_ltm, i3_lem, i3_decm, i3_dec0, nm_eqm, yr_eqm, mxor0, Nat.zero_add, if_pos, if_neg, eq_self, ne_eq, not_true_eq_false, not_false_eq_true, fM_blanks_L0, z1, t4]
      · rw [if_neg q] at t4
        simp (disch := (first | omega | assumption | trivial)) only [li_0, li_1, li_2, li_3, li_4, li_5, li_6, li_7, li_8, li_9, li_10, li_11, li_12, li_13, li_14, li_15, li_16, li_17, li_18, li_19, li_20, li_21, li_22, li_23, li_24, li_25, li_26, li_27, li_28, li_29, li_30, li_31, li_32, li_33, li_34, li_35, li_36, li_37, li_38, li_39, li_40, li_41, li_42, li_43, li_44, li_45, li_46, li_47, li_48, li_49, li_50, li_51, li_52, li_53, li_54, li_55, li_56, li_57, li_58, li_59, li_60, li_63, li_64, li_72, li_76, li_77, li_91, li_93, li_96, li_97, li_99, li_108, li_109, li_120, li_122, li_150, li_200, li_255, li_400, li_426, li_600, li_900, li_999, li_1000, li_1002, li_1003, li_2000, li_2042, li_2043, li_2045, li_10000, li_32767, li_100000, li_1000000, li_m1, li_m1b, ob_s, lt1_e, se_l, se_r, if_true, if_false, true_and, and_true, false_and, and_false, st_at, i3_add, i3_mul, i3_sub, i3_lt, i3_le, i3_eq, i3_nat, m1_eqi, i3_eqm, m1_lti, m1_lei, i3_ltm, i3_lem, i3_decm, i3_dec0, nm_eqm, yr_eqm, mxor0, Nat.zero_add, if_pos, if_neg, eq_self, ne_eq, not_true_eq_false, not_false_eq_true, fM_blanks_L0, z1, t4]
  refine ⟨g', ?_, h1, f1⟩
  simp (disch := (first | omega | assumption | trivial)) only [li_0, li_1, li_2, li_3, li_4, li_5, li_6, li_7, li_8, li_9, li_10, li_11, li_12, li_13, li_14, li_15, li_16, li_17, li_18, li_19, li_20, li_21, li_22, li_23, li_24, li_25, li_26, li_27, li_28, li_29, li_30, li_31, li_32, li_33, li_34, li_35, li_36, li_37, li_38, li_39, li_40, li_41, li_42, li_43, li_44, li_45, li_46, li_47, li_48, li_49, li_50, li_51, li_52, li_53, li_54, li_55, li_56, li_57, li_58, li_59, li_60, li_63, li_64, li_72, li_76, li_77, li_91, li_93, li_96, li_97, li_99, li_108, li_109, li_120, li_122, li_150, li_200, li_255, li_400, li_426, li_600, li_900, li_999, li_1000, li_1002, li_1003, li_2000, li_2042, li_2043, li_2045, li_10000, li_32767, li_100000, li_1000000, li_m1, li_m1b, ob_s, lt1_e, se_l, se_r, if_true, if_false, true_and, and_true, false_and, and_false, st_at, i3_add, i3_mul, i3_sub, i3_lt, i3_le, i3_eq, i3_nat, m1_eqi, i3_eqm, m1_lti, m1_lei, i3_ltm, i3_lem, i3_decm, i3_dec0, nm_eqm, yr_eqm, mxor0, Nat.zero_add, if_pos, if_neg, eq_self, ne_eq, not_true_eq_false, not_false_eq_true, fM_blanks, fM_blanks_b0, e1]
end TT
