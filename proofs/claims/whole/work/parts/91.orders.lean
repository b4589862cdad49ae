/-! PURE: what is found over the orders -/
def rgN (A V U : Nat → Nat) : Nat → Bool
  | 0 => true
  | k + 1 => rgN A V U k && decide (st8 U (A k) = V k)
theorem rgN_all {A V U : Nat → Nat} : ∀ l, rgN A V U l = true ↔ ∀ k, k < l → st8 U (A k) = V k
  | 0 => ⟨fun _ k hk => absurd hk (Nat.not_lt_zero k), fun _ => rfl⟩
  | l + 1 => by
    show (rgN A V U l && decide (st8 U (A l) = V l)) = true ↔ _
    rw [Bool.and_eq_true, rgN_all l, decide_eq_true_eq]
    refine ⟨fun h k hk => ?_, fun h => ⟨fun k hk => h k (by omega), h l (by omega)⟩⟩
    by_cases e : k = l
    · rw [e]; exact h.2
    · exact h.1 k (by omega)
section RI
variable {W : (Nat → Nat) → Nat} {n N : Nat} {K F D U T : Nat → Nat} {Y l : Nat} {A V B : Nat → Nat} {g : St}
theorem rightX (h : EC W n N K F D U T Y 11 g) (hl : g 8 1 = i3 l) (h8 : l ≤ 8) (h1 : ∀ k, k < l → A k < n ∧ B (A k) = V k + 1) (h2 : 0 < l → ∀ p, p < 8 → g 35 p = yr (B p) ∧ (B p ≠ 0 → ∃ k, k < l ∧ A k = p) ∧ B p ≤ 9) : fX_Book_isRightFor 8 11 g = some (i3 (if rgN A V U l = true then 1 else 0)) := by
  have hn8 := h.2.2.1.1
  have ht : ∀ p, p < 8 → fX_Book_tellsOf 8 (i3 p) g = some (i3 (if 0 < l ∧ B p ≠ 0 then 1 else 0)) := fun p hp => by
    by_cases q : 0 < l
    · obtain ⟨b1, b2, b3⟩ := h2 q p hp
      by_cases q2 : B p = 0
      · rw [if_neg (fun z => z.2 q2)]
        simp (disch := (first | omega | assumption | trivial)) only [li_0, li_1, li_2, li_3, li_4, li_5, li_6, li_7, li_8, li_9, li_10, li_11, li_12, li_13, li_14, li_15, li_16, li_17, li_18, li_19, li_20, li_21, li_22, li_23, li_24, li_25, li_26, li_27, li_28, li_29, li_30, li_31, li_32, li_33, li_34, li_35, li_36, li_37, li_38, li_39, li_40, li_41, li_42, li_43, li_44, li_45, li_46, li_47, li_48, li_49, li_50, li_51, li_52, li_53, li_54, li_55, li_56, li_57, li_58, li_59, li_60, li_63, li_64, li_72, li_76, li_77, li_91, li_93, li_96, li_97, li_99, li_108, li_109, li_120, li_122, li_150, li_200, li_255, li_400, li_426, li_600, li_900, li_999, li_1000, li_1002, li_1003, li_2000, li_2042, li_2043, li_2045, li_10000, li_32767, li_100000, li_1000000, li_m1, li_m1b, ob_s, lt1_e, se_l, se_r, if_true, if_false, true_and, and_true, false_and, and_false, st_at, i3_add, i3_mul, i3_sub, i3_lt, i3_le, i3_eq, i3_nat, m1_eqi, i3_eqm, m1_lti, m1_lei, i3_ltm, i3_lem, i3_decm, i3_dec0, nm_eqm, yr_eqm, mxor0, Nat.zero_add, if_pos, if_neg, eq_self, ne_eq, not_true_eq_false, not_false_eq_true, fX_Book_tellsOf, hl, rB80, at8, b1]
      · rw [if_pos ⟨q, q2⟩]
        simp (disch := (first | omega | assumption | trivial)) only [li_0, li_1, li_2, li_3, li_4, li_5, li_6, li_7, li_8, li_9, li_10, li_11, li_12, li_13, li_14, li_15, li_16, li_17, li_18, li_19, li_20, li_21, li_22, li_23, li_24, li_25, li_26, li_27, li_28, li_29, li_30, li_31, li_32, li_33, li_34, li_35, li_36, li_37, li_38, li_39, li_40, li_41, li_42, li_43, li_44, li_45, li_46, li_47, li_48, li_49, li_50, li_51, li_52, li_53, li_54, li_55, li_56, li_57, li_58, li_59, li_60, li_63, li_64, li_72, li_76, li_77, li_91, li_93, li_96, li_97, li_99, li_108, li_109, li_120, li_122, li_150, li_200, li_255, li_400, li_426, li_600, li_900, li_999, li_1000, li_1002, li_1003, li_2000, li_2042, li_2043, li_2045, li_10000, li_32767, li_100000, li_1000000, li_m1, li_m1b, ob_s, lt1_e, se_l, se_r, if_true, if_false, true_and, and_true, false_and, and_false, st_at, i3_add, i3_mul, i3_sub, i3_lt, i3_le, i3_eq, i3_nat, m1_eqi, i3_eqm, m1_lti, m1_lei, i3_ltm, i3_lem, i3_decm, i3_dec0, nm_eqm, yr_eqm, mxor0, Nat.zero_add, if_pos, if_neg, eq_self, ne_eq, not_true_eq_false, not_false_eq_true, fX_Book_tellsOf, hl, rB80, at8, b1]
    · rw [if_neg (fun z => q z.1)]
      simp (disch := (first | omega | assumption | trivial)) only [li_0, li_1, li_2, li_3, li_4, li_5, li_6, li_7, li_8, li_9, li_10, li_11, li_12, li_13, li_14, li_15, li_16, li_17, li_18, li_19, li_20, li_21, li_22, li_23, li_24, li_25, li_26, li_27, li_28, li_29, li_30, li_31, li_32, li_33, li_34, li_35, li_36, li_37, li_38, li_39, li_40, li_41, li_42, li_43, li_44, li_45, li_46, li_47, li_48, li_49, li_50, li_51, li_52, li_53, li_54, li_55, li_56, li_57, li_58, li_59, li_60, li_63, li_64, li_72, li_76, li_77, li_91, li_93, li_96, li_97, li_99, li_108, li_109, li_120, li_122, li_150, li_200, li_255, li_400, li_426, li_600, li_900, li_999, li_1000, li_1002, li_1003, li_2000, li_2042, li_2043, li_2045, li_10000, li_32767, li_100000, li_1000000, li_m1, li_m1b, ob_s, lt1_e, se_l, se_r, if_true, if_false, true_and, and_true, false_and, and_false, st_at, i3_add, i3_mul, i3_sub, i3_lt, i3_le, i3_eq, i3_nat, m1_eqi, i3_eqm, m1_lti, m1_lei, i3_ltm, i3_lem, i3_decm, i3_dec0, nm_eqm, yr_eqm, mxor0, Nat.zero_add, if_pos, if_neg, eq_self, ne_eq, not_true_eq_false, not_false_eq_true, fX_Book_tellsOf, hl]
  have key : ∃ z, lp (fX_Book_isRightFor_L2 8 11 g) fuel (i3 0) = some z ∧ z = (if rgN A V U l = true then (.inr () : Unit ⊕ Unit) else .inl ()) := by
    refine lp_for (fun k s => s = i3 k ∧ (0 < l → ∀ p, p < k → B p ≠ 0 → st8 U p + 1 = B p)) (fun z : Unit ⊕ Unit => z = (if rgN A V U l = true then (.inr () : Unit ⊕ Unit) else .inl ())) 8 (by omega) ?_ ?_ ⟨rfl, fun _ p hp => by omega⟩
    · rintro k s hk ⟨rfl, h3⟩
      have hs := h.stonesOf (a := k) hk
      have hs8 := st8_le U k
      have hk2 := ht k hk
      by_cases q : 0 < l ∧ B k ≠ 0
      · rw [if_pos q] at hk2
        obtain ⟨b1, b2, b3⟩ := h2 q.1 k hk
        rw [yr_s q.2] at b1
        by_cases q3 : st8 U k + 1 = B k
        · refine Or.inl ⟨i3 (k + 1), ?_, rfl, fun hl0 p hp hb => ?_⟩
          · have q4 : st8 U k = B k - 1 := by omega
            simp (disch := (first | omega | assumption | trivial)) only [li_0, li_1, li_2, li_3, li_4, li_5, li_6, li_7, li_8, li_9, li_10, li_11, li_12, li_13, li_14, li_15, li_16, li_17, li_18, li_19, li_20, li_21, li_22, li_23, li_24, li_25, li_26, li_27, li_28, li_29, li_30, li_31, li_32, li_33, li_34, li_35, li_36, li_37, li_38, li_39, li_40, li_41, li_42, li_43, li_44, li_45, li_46, li_47, li_48, li_49, li_50, li_51, li_52, li_53, li_54, li_55, li_56, li_57, li_58, li_59, li_60, li_63, li_64, li_72, li_76, li_77, li_91, li_93, li_96, li_97, li_99, li_108, li_109, li_120, li_122, li_150, li_200, li_255, li_400, li_426, li_600, li_900, li_999, li_1000, li_1002, li_1003, li_2000, li_2042, li_2043, li_2045, li_10000, li_32767, li_100000, li_1000000, li_m1, li_m1b, ob_s, lt1_e, se_l, se_r, if_true, if_false, true_and, and_true, false_and, and_false, st_at, i3_add, i3_mul, i3_sub, i3_lt, i3_le, i3_eq, i3_nat, m1_eqi, i3_eqm, m1_lti, m1_lei, i3_ltm, i3_lem, i3_decm, i3_dec0, nm_eqm, yr_eqm, mxor0, Nat.zero_add, if_pos, if_neg, eq_self, ne_eq, not_true_eq_false, not_false_eq_true, fX_Book_isRightFor_L2, fX_Book_isRightFor_b34, hk2, hs, rB80, at8, b1]
          · by_cases e : p = k
            · rw [e]; exact q3
            · exact h3 hl0 p (by omega) hb
        · refine Or.inr ⟨.inl (), ?_, ?_⟩
          · have q4 : ¬ st8 U k = B k - 1 := by omega
            simp (disch := (first | omega | assumption | trivial)) only [li_0, li_1, li_2, li_3, li_4, li_5, li_6, li_7, li_8, li_9, li_10, li_11, li_12, li_13, li_14, li_15, li_16, li_17, li_18, li_19, li_20, li_21, li_22, li_23, li_24, li_25, li_26, li_27, li_28, li_29, li_30, li_31, li_32, li_33, li_34, li_35, li_36, li_37, li_38, li_39, li_40, li_41, li_42, li_43, li_44, li_45, li_46, li_47, li_48, li_49, li_50, li_51, li_52, li_53, li_54, li_55, li_56, li_57, li_58, li_59, li_60, li_63, li_64, li_72, li_76, li_77, li_91, li_93, li_96, li_97, li_99, li_108, li_109, li_120, li_122, li_150, li_200, li_255, li_400, li_426, li_600, li_900, li_999, li_1000, li_1002, li_1003, li_2000, li_2042, li_2043, li_2045, li_10000, li_32767, li_100000, li_1000000, li_m1, li_m1b, ob_s, lt1_e, se_l, se_r, if_true, if_false, true_and, and_true, false_and, and_false, st_at, i3_add, i3_mul, i3_sub, i3_lt, i3_le, i3_eq, i3_nat, m1_eqi, i3_eqm, m1_lti, m1_lei, i3_ltm, i3_lem, i3_decm, i3_dec0, nm_eqm, yr_eqm, mxor0, Nat.zero_add, if_pos, if_neg, eq_self, ne_eq, not_true_eq_false, not_false_eq_true, fX_Book_isRightFor_L2, fX_Book_isRightFor_b34, hk2, hs, rB80, at8, b1]
          · obtain ⟨j, j1, j2⟩ := b2 q.2
            rw [if_neg]
            intro z
            have z1 := (rgN_all l).mp z j j1
            have z2 := (h1 j j1).2
            rw [j2] at z1 z2
            omega
      · rw [if_neg q] at hk2
        refine Or.inl ⟨i3 (k + 1), ?_, rfl, fun hl0 p hp hb => ?_⟩
        · simp (disch := (first | omega | assumption | trivial)) only [li_0, li_1, li_2, li_3, li_4, li_5, li_6, li_7, li_8, li_9, li_10, li_11, li_12, li_13, li_14, li_15, li_16, li_17, li_18, li_19, li_20, li_21, li_22, li_23, li_24, li_25, li_26, li_27, li_28, li_29, li_30, li_31, li_32, li_33, li_34, li_35, li_36, li_37, li_38, li_39, li_40, li_41, li_42, li_43, li_44, li_45, li_46, li_47, li_48, li_49, li_50, li_51, li_52, li_53, li_54, li_55, li_56, li_57, li_58, li_59, li_60, li_63, li_64, li_72, li_76, li_77, li_91, li_93, li_96, li_97, li_99, li_108, li_109, li_120, li_122, li_150, li_200, li_255, li_400, li_426, li_600, li_900, li_999, li_1000, li_1002, li_1003, li_2000, li_2042, li_2043, li_2045, li_10000, li_32767, li_100000, li_1000000, li_m1, li_m1b, ob_s, lt1_e, se_l, se_r, if_true, if_false, true_and, and_true, false_and, and_false, st_at, i3_add, i3_mul, i3_sub, i3_lt, i3_le, i3_eq, i3_nat, m1_eqi, i3_eqm, m1_lti, m1_lei, i3_ltm, i3_lem, i3_decm, i3_dec0, nm_eqm, yr_eqm, mxor0, Nat.zero_add, if_pos, if_neg, eq_self, ne_eq, not_true_eq_false, not_false_eq_true, fX_Book_isRightFor_L2, fX_Book_isRightFor_b34, hk2]
        · by_cases e : p = k
          · subst e; exact absurd ⟨hl0, hb⟩ q
          · exact h3 hl0 p (by omega) hb
    · rintro s ⟨rfl, h3⟩
      refine ⟨.inr (), ?_, ?_⟩
      · simp (disch := (first | omega | assumption | trivial)) only [li_0, li_1, li_2, li_3, li_4, li_5, li_6, li_7, li_8, li_9, li_10, li_11, li_12, li_13, li_14, li_15, li_16, li_17, li_18, li_19, li_20, li_21, li_22, li_23, li_24, li_25, li_26, li_27, li_28, li_29, li_30, li_31, li_32, li_33, li_34, li_35, li_36, li_37, li_38, li_39, li_40, li_41, li_42, li_43, li_44, li_45, li_46, li_47, li_48, li_49, li_50, li_51, li_52, li_53, li_54, li_55, li_56, li_57, li_58, li_59, li_60, li_63, li_64, li_72, li_76, li_77, li_91, li_93, li_96, li_97, li_99, li_108, li_109, li_120, li_122, li_150, li_200, li_255, li_400, li_426, li_600, li_900, li_999, li_1000, li_1002, li_1003, li_2000, li_2042, li_2043, li_2045, li_10000, li_32767, li_100000, li_1000000, li_m1, li_m1b, ob_s, lt1_e, se_l, se_r, if_true, if_false, true_and, and_true, false_and, and_false, st_at, i3_add, i3_mul, i3_sub, i3_lt, i3_le, i3_eq, i3_nat, m1_eqi, i3_eqm, m1_lti, m1_lei, i3_ltm, i3_lem, i3_decm, i3_dec0, nm_eqm, yr_eqm, mxor0, Nat.zero_add, if_pos, if_neg, eq_self, ne_eq, not_true_eq_false, not_false_eq_true, fX_Book_isRightFor_L2]
      · rw [if_pos]
        rw [rgN_all]
        intro k hk
        obtain ⟨z1, z2⟩ := h1 k hk
        have z3 := h3 (by omega) (A k) (by omega) (by omega)
        omega
  obtain ⟨z, e, hz⟩ := key
  by_cases q : rgN A V U l = true
  · rw [if_pos q] at hz ⊢
    rw [hz] at e
    simp (disch := (first | omega | assumption | trivial)) only [li_0, li_1, li_2, li_3, li_4, li_5, li_6, li_7, li_8, li_9, li_10, li_11, li_12, li_13, li_14, li_15, li_16, li_17, li_18, li_19, li_20, li_21, li_22, li_23, li_24, li_25, li_26, li_27, li_28, li_29, li_30, li_31, li_32, li_33, li_34, li_35, li_36, li_37, li_38, li_39, li_40, li_41, li_42, li_43, li_44, li_45, li_46, li_47, li_48, li_49, li_50, li_51, li_52, li_53, li_54, li_55, li_56, li_57, li_58, li_59, li_60, li_63, li_64, li_72, li_76, li_77, li_91, li_93, li_96, li_97, li_99, li_108, li_109, li_120, li_122, li_150, li_200, li_255, li_400, li_426, li_600, li_900, li_999, li_1000, li_1002, li_1003, li_2000, li_2042, li_2043, li_2045, li_10000, li_32767, li_100000, li_1000000, li_m1, li_m1b, ob_s, lt1_e, se_l, se_r, if_true, if_false, true_and, and_true, false_and, and_false, st_at, i3_add, i3_mul, i3_sub, i3_lt, i3_le, i3_eq, i3_nat, m1_eqi, i3_eqm, m1_lti, m1_lei, i3_ltm, i3_lem, i3_decm, i3_dec0, nm_eqm, yr_eqm, mxor0, Nat.zero_add, if_pos, if_neg, eq_self, ne_eq, not_true_eq_false, not_false_eq_true, fX_Book_isRightFor, fX_Book_isRightFor_b2, e]
  · rw [if_neg q] at hz ⊢
    rw [hz] at e
    simp (disch := (first | omega | assumption | trivial)) only [li_0, li_1, li_2, li_3, li_4, li_5, li_6, li_7, li_8, li_9, li_10, li_11, li_12, li_13, li_14, li_15, li_16, li_17, li_18, li_19, li_20, li_21, li_22, li_23, li_24, li_25, li_26, li_27, li_28, li_29, li_30, li_31, li_32, li_33, li_34, li_35, li_36, li_37, li_38, li_39, li_40, li_41, li_42, li_43, li_44, li_45, li_46, li_47, li_48, li_49, li_50, li_51, li_52, li_53, li_54, li_55, li_56, li_57, li_58, li_59, li_60, li_63, li_64, li_72, li_76, li_77, li_91, li_93, li_96, li_97, li_99, li_108, li_109, li_120, li_122, li_150, li_200, li_255, li_400, li_426, li_600, li_900, li_999, li_1000, li_1002, li_1003, li_2000, li_2042, li_2043, li_2045, li_10000, li_32767, li_100000, li_1000000, li_m1, li_m1b, ob_s, lt1_e, se_l, se_r, if_true, if_false, true_and, and_true, false_and, and_false, st_at, i3_add, i3_mul, i3_sub, i3_lt, i3_le, i3_eq, i3_nat, m1_eqi, i3_eqm, m1_lti, m1_lei, i3_ltm, i3_lem, i3_decm, i3_dec0, nm_eqm, yr_eqm, mxor0, Nat.zero_add, if_pos, if_neg, eq_self, ne_eq, not_true_eq_false, not_false_eq_true, fX_Book_isRightFor, fX_Book_isRightFor_b2, e]
theorem rightM (h : EM W n N K F D U T Y 17 g) (hl : g 0 31 = i3 l) (h8 : l ≤ 8) (h1 : ∀ k, k < l → g (362 + k) 0 = i3 (A k) ∧ g (362 + k) 1 = i3 (V k) ∧ A k < n ∧ V k ≤ 8) : lp (fM_isSo_L6 g) fuel (i3 0) = some (if rgN A V U l = true then (.inr () : Unit ⊕ Unit) else .inl ()) := by
  have hn8 := h.2.2.1.1
  have key : ∃ z, lp (fM_isSo_L6 g) fuel (i3 0) = some z ∧ z = (if rgN A V U l = true then (.inr () : Unit ⊕ Unit) else .inl ()) := by
    refine lp_for (fun k s => s = i3 k ∧ ∀ p, p < k → st8 U (A p) = V p) (fun z : Unit ⊕ Unit => z = (if rgN A V U l = true then (.inr () : Unit ⊕ Unit) else .inl ())) l (by omega) ?_ ?_ ⟨rfl, fun p hp => by omega⟩
    · rintro k s hk ⟨rfl, h3⟩
      obtain ⟨a1, a2, a3, a4⟩ := h1 k hk
      have hs := h.stones (a := A k) (by omega)
      have hs8 := st8_le U (A k)
      by_cases q : st8 U (A k) = V k
      · refine Or.inl ⟨i3 (k + 1), ?_, rfl, fun p hp => ?_⟩
        · simp (disch := (first | omega | assumption | trivial)) only [li_0, li_1, li_2, li_3, li_4, li_5, li_6, li_7, li_8, li_9, li_10, li_11, li_12, li_13, li_14, li_15, li_16, li_17, li_18, li_19, li_20, li_21, li_22, li_23, li_24, li_25, li_26, li_27, li_28, li_29, li_30, li_31, li_32, li_33, li_34, li_35, li_36, li_37, li_38, li_39, li_40, li_41, li_42, li_43, li_44, li_45, li_46, li_47, li_48, li_49, li_50, li_51, li_52, li_53, li_54, li_55, li_56, li_57, li_58, li_59, li_60, li_63, li_64, li_72, li_76, li_77, li_91, li_93, li_96, li_97, li_99, li_108, li_109, li_120, li_122, li_150, li_200, li_255, li_400, li_426, li_600, li_900, li_999, li_1000, li_1002, li_1003, li_2000, li_2042, li_2043, li_2045, li_10000, li_32767, li_100000, li_1000000, li_m1, li_m1b, ob_s, lt1_e, se_l, se_r, if_true, if_false, true_and, and_true, false_and, and_false, st_at, i3_add, i3_mul, i3_sub, i3_lt, i3_le, i3_eq, i3_nat, m1_eqi, i3_eqm, m1_lti, m1_lei, i3_ltm, i3_lem, i3_decm, i3_dec0, nm_eqm, yr_eqm, mxor0, Nat.zero_add, if_pos, if_neg, eq_self, ne_eq, not_true_eq_false, not_false_eq_true, fM_isSo_L6, hl, a1, a2, hs]
        · by_cases e : p = k
          · rw [e]; exact q
          · exact h3 p (by omega)
      · refine Or.inr ⟨.inl (), ?_, ?_⟩
        · simp (disch := (first | omega | assumption | trivial)) only [li_0, li_1, li_2, li_3, li_4, li_5, li_6, li_7, li_8, li_9, li_10, li_11, li_12, li_13, li_14, li_15, li_16, li_17, li_18, li_19, li_20, li_21, li_22, li_23, li_24, li_25, li_26, li_27, li_28, li_29, li_30, li_31, li_32, li_33, li_34, li_35, li_36, li_37, li_38, li_39, li_40, li_41, li_42, li_43, li_44, li_45, li_46, li_47, li_48, li_49, li_50, li_51, li_52, li_53, li_54, li_55, li_56, li_57, li_58, li_59, li_60, li_63, li_64, li_72, li_76, li_77, li_91, li_93, li_96, li_97, li_99, li_108, li_109, li_120, li_122, li_150, li_200, li_255, li_400, li_426, li_600, li_900, li_999, li_1000, li_1002, li_1003, li_2000, li_2042, li_2043, li_2045, li_10000, li_32767, li_100000, li_1000000, li_m1, li_m1b, ob_s, lt1_e, se_l, se_r, if_true, if_false, true_and, and_true, false_and, and_false, st_at, i3_add, i3_mul, i3_sub, i3_lt, i3_le, i3_eq, i3_nat, m1_eqi, i3_eqm, m1_lti, m1_lei, i3_ltm, i3_lem, i3_decm, i3_dec0, nm_eqm, yr_eqm, mxor0, Nat.zero_add, if_pos, if_neg, eq_self, ne_eq, not_true_eq_false, not_false_eq_true, fM_isSo_L6, hl, a1, a2, hs]
        · rw [if_neg]
          intro z
          exact q ((rgN_all l).mp z k hk)
    · rintro s ⟨rfl, h3⟩
      refine ⟨.inr (), ?_, ?_⟩
      · simp (disch := (first | omega | assumption | trivial)) only [li_0, li_1, li_2, li_3, li_4, li_5, li_6, li_7, li_8, li_9, li_10, li_11, li_12, li_13, li_14, li_15, li_16, li_17, li_18, li_19, li_20, li_21, li_22, li_23, li_24, li_25, li_26, li_27, li_28, li_29, li_30, li_31, li_32, li_33, li_34, li_35, li_36, li_37, li_38, li_39, li_40, li_41, li_42, li_43, li_44, li_45, li_46, li_47, li_48, li_49, li_50, li_51, li_52, li_53, li_54, li_55, li_56, li_57, li_58, li_59, li_60, li_63, li_64, li_72, li_76, li_77, li_91, li_93, li_96, li_97, li_99, li_108, li_109, li_120, li_122, li_150, li_200, li_255, li_400, li_426, li_600, li_900, li_999, li_1000, li_1002, li_1003, li_2000, li_2042, li_2043, li_2045, li_10000, li_32767, li_100000, li_1000000, li_m1, li_m1b, ob_s, lt1_e, se_l, se_r, if_true, if_false, true_and, and_true, false_and, and_false, st_at, i3_add, i3_mul, i3_sub, i3_lt, i3_le, i3_eq, i3_nat, m1_eqi, i3_eqm, m1_lti, m1_lei, i3_ltm, i3_lem, i3_decm, i3_dec0, nm_eqm, yr_eqm, mxor0, Nat.zero_add, if_pos, if_neg, eq_self, ne_eq, not_true_eq_false, not_false_eq_true, fM_isSo_L6, hl]
      · rw [if_pos ((rgN_all l).mpr h3)]
  obtain ⟨z, e, hz⟩ := key
  rw [e, hz]
end RI
def fwS (c : Nat → Nat) : Nat → Nat
  | 0 => 9
  | k + 1 => if c k < fwS c k then c k else fwS c k
def bdS (c e : Nat → Nat) : Nat → Nat
  | 0 => 0
  | k + 1 => if c k < fwS c k then e k else bdS c e k
def ctS (r : Nat → Bool) : Nat → Nat
  | 0 => 0
  | k + 1 => ctS r k + if r k = true then 1 else 0
def ffS (r : Nat → Bool) (e : Nat → Nat) : Nat → Nat
  | 0 => 0
  | k + 1 => if r k = true ∧ ctS r k = 0 then e k + 1 else ffS r e k
def ccS (r : Nat → Bool) (sp : Nat → Nat → Nat) (p v : Nat) : Nat → Nat
  | 0 => 0
  | k + 1 => ccS r sp p v k + if r k = true ∧ sp k p = v then 1 else 0
theorem fwS_le (c : Nat → Nat) : ∀ k, fwS c k ≤ 9
  | 0 => Nat.le_refl _
  | k + 1 => by
    have h := fwS_le c k
    show (if c k < fwS c k then c k else fwS c k) ≤ 9
    by_cases q : c k < fwS c k
    · rw [if_pos q]; omega
    · rw [if_neg q]; omega
theorem ctS_le (r : Nat → Bool) : ∀ k, ctS r k ≤ k
  | 0 => Nat.le_refl _
  | k + 1 => by
    have h := ctS_le r k
    show ctS r k + (if r k = true then 1 else 0) ≤ k + 1
    by_cases q : r k = true
    · rw [if_pos q]; omega
    · rw [if_neg q]; omega
theorem ccS_le (r : Nat → Bool) (sp : Nat → Nat → Nat) (p v : Nat) : ∀ k, ccS r sp p v k ≤ k
  | 0 => Nat.le_refl _
  | k + 1 => by
    have h := ccS_le r sp p v k
    show ccS r sp p v k + (if r k = true ∧ sp k p = v then 1 else 0) ≤ k + 1
    by_cases q : r k = true ∧ sp k p = v
    · rw [if_pos q]; omega
    · rw [if_neg q]; omega
def XI (gX0 : St) (m : Nat) (c e : Nat → Nat) (r : Nat → Bool) (sp : Nat → Nat → Nat) (K : Nat) (g : St) : Prop := KX gX0 g ∧ g 13 2 = i3 m ∧ g 13 3 = i3 (fwS c K) ∧ g 13 4 = i3 (bdS c e K) ∧ g 13 5 = i3 (ctS r K) ∧ g 13 6 = yr (ffS r e K) ∧ ∀ p, p < 8 → ∀ v, v < 9 → g 46 (p * 9 + v) = i3 (ccS r sp p v K)
section NO
variable {W : (Nat → Nat) → Nat} {n N : Nat} {K F D U T : Nat → Nat} {Y : Nat} {g : St}
theorem countX (h : EC W n N K F D U T Y 11 g) {q : Nat → Nat → Nat} (hq : ∀ p, p < 8 → ∀ v, v < 9 → g 46 (p * 9 + v) = i3 (q p v)) : ∃ g', fX_Orders_countStones 11 g = some g' ∧ (∀ p, p ≠ 46 → g' p = g p) ∧ ∀ p, p < 8 → ∀ v, v < 9 → g' 46 (p * 9 + v) = i3 (q p v + if st8 U p = v then 1 else 0) := by
  obtain ⟨g', e, h1, h2⟩ : ∃ g' : St, lp (fX_Orders_countStones_L2 11) fuel (i3 0, g) = some g' ∧ (∀ p, p ≠ 46 → g' p = g p) ∧ ∀ p, p < 8 → ∀ v, v < 9 → g' 46 (p * 9 + v) = i3 (q p v + if st8 U p = v then 1 else 0) := by
    refine lp_all (fun k s => ∃ g1 : St, s = (i3 k, g1) ∧ (∀ p, p ≠ 46 → g1 p = g p) ∧ ∀ p, p < 8 → ∀ v, v < 9 → g1 46 (p * 9 + v) = i3 (q p v + if p < k ∧ st8 U p = v then 1 else 0)) (fun g' : St => (∀ p, p ≠ 46 → g' p = g p) ∧ ∀ p, p < 8 → ∀ v, v < 9 → g' 46 (p * 9 + v) = i3 (q p v + if st8 U p = v then 1 else 0)) 8 (by omega) ?_ ?_ ⟨g, rfl, fun _ _ => rfl, fun p hp v hv => by rw [if_neg (by omega), Nat.add_zero]; exact hq p hp v hv⟩
    · rintro k s hk ⟨g1, rfl, h1, h2⟩
      have h3 : EC W n N K F D U T Y 11 g1 := h.frP (fun p hp => h1 p (by omega))
      have hs := h3.stonesOf (a := k) hk
      have hs8 := st8_le U k
      have h4 := h2 k hk (st8 U k) (by omega)
      rw [if_neg (by omega), Nat.add_zero] at h4
      refine ⟨(i3 (k + 1), st g1 46 (k * 9 + st8 U k) (i3 (q k (st8 U k) + 1))), ?_, _, rfl, fun p hp => by rw [st_ne hp]; exact h1 p hp, fun p hp v hv => ?_⟩
      · simp (disch := (first | omega | assumption | trivial)) only [li_0, li_1, li_2, li_3, li_4, li_5, li_6, li_7, li_8, li_9, li_10, li_11, li_12, li_13, li_14, li_15, li_16, li_17, li_18, li_19, li_20, li_21, li_22, li_23, li_24, li_25, li_26, li_27, li_28, li_29, li_30, li_31, li_32, li_33, li_34, li_35, li_36, li_37, li_38, li_39, li_40, li_41, li_42, li_43, li_44, li_45, li_46, li_47, li_48, li_49, li_50, li_51, li_52, li_53, li_54, li_55, li_56, li_57, li_58, li_59, li_60, li_63, li_64, li_72, li_76, li_77, li_91, li_93, li_96, li_97, li_99, li_108, li_109, li_120, li_122, li_150, li_200, li_255, li_400, li_426, li_600, li_900, li_999, li_1000, li_1002, li_1003, li_2000, li_2042, li_2043, li_2045, li_10000, li_32767, li_100000, li_1000000, li_m1, li_m1b, ob_s, lt1_e, se_l, se_r, if_true, if_false, true_and, and_true, false_and, and_false, st_at, i3_add, i3_mul, i3_sub, i3_lt, i3_le, i3_eq, i3_nat, m1_eqi, i3_eqm, m1_lti, m1_lei, i3_ltm, i3_lem, i3_decm, i3_dec0, nm_eqm, yr_eqm, mxor0, Nat.zero_add, if_pos, if_neg, eq_self, ne_eq, not_true_eq_false, not_false_eq_true, fX_Orders_countStones_L2, hs, at46, pu46, h4]
      · rw [st_at]
        by_cases e : p = k ∧ v = st8 U k
        · rw [e.1, e.2, if_pos ⟨rfl, rfl⟩, if_pos ⟨by omega, rfl⟩]
        · rw [if_neg (by omega), h2 p hp v hv]
          by_cases e2 : p < k ∧ st8 U p = v
          · rw [if_pos e2, if_pos ⟨by omega, e2.2⟩]
          · rw [if_neg e2, if_neg]
            rintro ⟨z1, z2⟩
            by_cases e3 : p = k
            · subst e3; exact e ⟨rfl, z2.symm⟩
            · exact e2 ⟨by omega, z2⟩
    · rintro s ⟨g1, rfl, h1, h2⟩
      refine ⟨g1, ?_, h1, fun p hp v hv => ?_⟩
      · simp (disch := (first | omega | assumption | trivial)) only [li_0, li_1, li_2, li_3, li_4, li_5, li_6, li_7, li_8, li_9, li_10, li_11, li_12, li_13, li_14, li_15, li_16, li_17, li_18, li_19, li_20, li_21, li_22, li_23, li_24, li_25, li_26, li_27, li_28, li_29, li_30, li_31, li_32, li_33, li_34, li_35, li_36, li_37, li_38, li_39, li_40, li_41, li_42, li_43, li_44, li_45, li_46, li_47, li_48, li_49, li_50, li_51, li_52, li_53, li_54, li_55, li_56, li_57, li_58, li_59, li_60, li_63, li_64, li_72, li_76, li_77, li_91, li_93, li_96, li_97, li_99, li_108, li_109, li_120, li_122, li_150, li_200, li_255, li_400, li_426, li_600, li_900, li_999, li_1000, li_1002, li_1003, li_2000, li_2042, li_2043, li_2045, li_10000, li_32767, li_100000, li_1000000, li_m1, li_m1b, ob_s, lt1_e, se_l, se_r, if_true, if_false, true_and, and_true, false_and, and_false, st_at, i3_add, i3_mul, i3_sub, i3_lt, i3_le, i3_eq, i3_nat, m1_eqi, i3_eqm, m1_lti, m1_lei, i3_ltm, i3_lem, i3_decm, i3_dec0, nm_eqm, yr_eqm, mxor0, Nat.zero_add, if_pos, if_neg, eq_self, ne_eq, not_true_eq_false, not_false_eq_true, fX_Orders_countStones_L2]
      · rw [h2 p hp v hv]
        by_cases e2 : st8 U p = v
        · rw [if_pos e2, if_pos ⟨hp, e2⟩]
        · rw [if_neg e2, if_neg (fun z => e2 z.2)]
  refine ⟨g', ?_, h1, h2⟩
  simp (disch := (first | omega | assumption | trivial)) only [li_0, li_1, li_2, li_3, li_4, li_5, li_6, li_7, li_8, li_9, li_10, li_11, li_12, li_13, li_14, li_15, li_16, li_17, li_18, li_19, li_20, li_21, li_22, li_23, li_24, li_25, li_26, li_27, li_28, li_29, li_30, li_31, li_32, li_33, li_34, li_35, li_36, li_37, li_38, li_39, li_40, li_41, li_42, li_43, li_44, li_45, li_46, li_47, li_48, li_49, li_50, li_51, li_52, li_53, li_54, li_55, li_56, li_57, li_58, li_59, li_60, li_63, li_64, li_72, li_76, li_77, li_91, li_93, li_96, li_97, li_99, li_108, li_109, li_120, li_122, li_150, li_200, li_255, li_400, li_426, li_600, li_900, li_999, li_1000, li_1002, li_1003, li_2000, li_2042, li_2043, li_2045, li_10000, li_32767, li_100000, li_1000000, li_m1, li_m1b, ob_s, lt1_e, se_l, se_r, if_true, if_false, true_and, and_true, false_and, and_false, st_at, i3_add, i3_mul, i3_sub, i3_lt, i3_le, i3_eq, i3_nat, m1_eqi, i3_eqm, m1_lti, m1_lei, i3_ltm, i3_lem, i3_decm, i3_dec0, nm_eqm, yr_eqm, mxor0, Nat.zero_add, if_pos, if_neg, eq_self, ne_eq, not_true_eq_false, not_false_eq_true, fX_Orders_countStones, fX_Orders_countStones_b2, e]
theorem noteX {gX0 : St} {m k : Nat} {c e : Nat → Nat} {r : Nat → Bool} {sp : Nat → Nat → Nat} {f : Nat → Nat} (h : EC W n N K F D U T Y 11 g) (hI : XI gX0 m c e r sp k g) (hk : k ≤ 200) (hm : m ≤ 5) (ho : ORD 45 m f g) (hc : c k = cntB (fun p => decide (¬ T p = 0 ∧ U p = 8)) n) (he : e k = dgA f m m) (hs : ∀ p, p < 8 → sp k p = st8 U p) : ∃ g', fX_Orders_note 11 (i3 (if r k = true then 1 else 0)) g = some g' ∧ XI gX0 m c e r sp (k + 1) g' ∧ ORD 45 m f g' ∧ ∀ p, p ≠ 13 → p ≠ 46 → g' p = g p := by
  have h8 := h.2.2.1.1
  obtain ⟨i1, i2, i3', i4, i5, i6, i7⟩ := hI
  have hn := h.nameless
  have hb := bc_msk (fun p => decide (¬ T p = 0 ∧ U p = 8)) h8
  rw [← hc] at hb
  have hck : c k ≤ 8 := by rw [hc]; exact Nat.le_trans (cntB_le _ n) h8
  have hfw := fwS_le c k
  have hct := ctS_le r k
  have s1 : fwS c (k + 1) = if c k < fwS c k then c k else fwS c k := rfl
  have s2 : bdS c e (k + 1) = if c k < fwS c k then e k else bdS c e k := rfl
  have s3 : ctS r (k + 1) = ctS r k + if r k = true then 1 else 0 := rfl
  have s4 : ffS r e (k + 1) = if r k = true ∧ ctS r k = 0 then e k + 1 else ffS r e k := rfl
  have s5 : ∀ p v, ccS r sp p v (k + 1) = ccS r sp p v k + if r k = true ∧ sp k p = v then 1 else 0 := fun _ _ => rfl
  -- the fewest
  obtain ⟨gA, eA, a1, a2, a3, a4⟩ : ∃ gA : St, (fX_Orders_note 11 (i3 (if r k = true then 1 else 0)) g = fX_Orders_note_b29 11 (i3 (if r k = true then 1 else 0)) gA) ∧ (∀ p, p ≠ 13 → gA p = g p) ∧ (∀ i, i ≠ 3 → i ≠ 4 → gA 13 i = g 13 i) ∧ gA 13 3 = i3 (fwS c (k + 1)) ∧ gA 13 4 = i3 (bdS c e (k + 1)) := by
    by_cases q : c k < fwS c k
    · rw [if_pos q] at s1 s2
      have hd := X_digits (g := st g 13 3 (i3 (c k))) hm (fun j hj => by rw [st_ne (by omega)]; exact ho j hj) (by rw [st_at, if_neg (by omega)]; exact i2)
      rw [← he] at hd
      refine ⟨st (st g 13 3 (i3 (c k))) 13 4 (i3 (e k)), ?_, fun p hp => by rw [st_ne hp, st_ne hp], fun i h3 h4 => by rw [st_at, if_neg (by omega), st_at, if_neg (by omega)], by rw [st_at, if_neg (by omega), st_eq, s1], by rw [st_eq, s2]⟩
      unfold fX_Orders_note
      rw [hn, ob_s, hb, i3', if_neg (i3_nle (by omega) q), hd, ob_s]
    · rw [if_neg q] at s1 s2
      refine ⟨g, ?_, fun _ _ => rfl, fun _ _ _ => rfl, by rw [s1]; exact i3', by rw [s2]; exact i4⟩
      unfold fX_Orders_note
      rw [hn, ob_s, hb, i3', if_pos (i3_yle (by omega) (by omega))]
  rw [eA]
  have oA : ORD 45 m f gA := fun j hj => by rw [a1 45 (by omega)]; exact ho j hj
  have dA : gA 13 2 = i3 m := by rw [a2 2 (by omega) (by omega)]; exact i2
  have cA : gA 13 5 = i3 (ctS r k) := by rw [a2 5 (by omega) (by omega)]; exact i5
  have fA : gA 13 6 = yr (ffS r e k) := by rw [a2 6 (by omega) (by omega)]; exact i6
  have kA : KX gX0 gA := i1.tr (fun p i q => by rw [a1 p (by omega)])
  by_cases q : r k = true
  · rw [if_pos q] at s3
    rw [if_pos q]
    obtain ⟨v6, eB, hv⟩ : ∃ v6, fX_Orders_note_b29 11 (i3 1) gA = fX_Orders_note_b52 11 v6 gA ∧ v6 = yr (ffS r e (k + 1)) := by
      by_cases q2 : ctS r k = 0
      · have hd := X_digits hm oA dA
        rw [← he] at hd
        rw [if_pos ⟨q, q2⟩] at s4
        refine ⟨i3 (e k), ?_, by rw [s4, yr_s1]⟩
        unfold fX_Orders_note_b29
        rw [if_neg (show ¬ i3 1 = (0 : Int32) by decide), cA, q2, if_pos (show i3 0 = (0 : Int32) from rfl), hd, ob_s]
      · rw [if_neg (fun z => q2 z.2)] at s4
        refine ⟨yr (ffS r e k), ?_, by rw [s4]⟩
        unfold fX_Orders_note_b29
        rw [if_neg (show ¬ i3 1 = (0 : Int32) by decide), cA, if_neg (show ¬ i3 (ctS r k) = (0 : Int32) from fun z => by
          have z2 : i3 (ctS r k) = i3 0 := z
          rw [i3_eq (by omega) (by omega)] at z2
          exact q2 z2), fA]
    rw [eB, hv]
    have hX : EC W n N K F D U T Y 11 (st (st gA 13 6 (yr (ffS r e (k + 1)))) 13 5 (i3 (ctS r (k + 1)))) := h.frP (fun p hp => by rw [st_ne (by omega), st_ne (by omega), a1 p (by omega)])
    obtain ⟨g', e1, f1, f2⟩ := countX (q := fun p v => ccS r sp p v k) hX (fun p hp v hv => by
      rw [st_ne (by omega), st_ne (by omega), a1 46 (by omega)]
      exact i7 p hp v hv)
    refine ⟨g', ?_, ⟨kA.tr (fun p i z => by rw [f1 p (by omega), st_at, if_neg (by omega), st_at, if_neg (by omega)]), ?_, ?_, ?_, ?_, ?_, fun p hp v hv => ?_⟩, fun j hj => ?_, fun p h1 h2 => ?_⟩
    · unfold fX_Orders_note_b52
      have z : gA 13 5 + (1 : Int32) = i3 (ctS r (k + 1)) := by rw [cA, s3]; exact i3_add _ 1
      rw [z, e1]
      rfl
    · rw [f1 13 (by omega), st_at, if_neg (by omega), st_at, if_neg (by omega)]; exact dA
    · rw [f1 13 (by omega), st_at, if_neg (by omega), st_at, if_neg (by omega)]; exact a3
    · rw [f1 13 (by omega), st_at, if_neg (by omega), st_at, if_neg (by omega)]; exact a4
    · rw [f1 13 (by omega), st_eq]
    · rw [f1 13 (by omega), st_at, if_neg (by omega), st_eq]
    · rw [f2 p hp v hv, s5, hs p hp]
      by_cases z : st8 U p = v
      · rw [if_pos z, if_pos ⟨q, z⟩]
      · rw [if_neg z, if_neg (fun y => z y.2)]
    · rw [f1 45 (by omega), st_ne (by omega), st_ne (by omega)]; exact oA j hj
    · rw [f1 p h2, st_ne h1, st_ne h1, a1 p h1]
  · rw [if_neg q] at s3
    rw [if_neg q]
    rw [if_neg (fun z => q z.1)] at s4
    refine ⟨gA, ?_, ⟨kA, dA, a3, a4, by rw [s3]; exact cA, by rw [s4]; exact fA, fun p hp v hv => ?_⟩, oA, fun p h1 h2 => a1 p h1⟩
    · unfold fX_Orders_note_b29
      rw [if_pos (show i3 0 = (0 : Int32) from rfl)]
    · rw [s5, if_neg (fun z => q z.1), a1 46 (by omega)]
      exact i7 p hp v hv
end NO
