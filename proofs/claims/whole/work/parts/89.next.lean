/-! PURE: the next order, on both sides -/
def ORD (row m : Nat) (f : Nat → Nat) (g : St) : Prop := ∀ k, k < m → g row k = i3 (f k) ∧ f k < 8
theorem swp_lt {f : Nat → Nat} {m i j : Nat} (h : ∀ k, k < m → f k < 8) (hi : i < m) (hj : j < m) : ∀ k, k < m → swp f i j k < 8 := fun k hk => by
  unfold swp updN
  by_cases q : k = j
  · rw [if_pos q]; exact h i hi
  · rw [if_neg q]
    by_cases q2 : k = i
    · rw [if_pos q2]; exact h j hj
    · rw [if_neg q2]; exact h k hk
theorem ORD.swap {row m i j : Nat} {f : Nat → Nat} {g : St} (h : ORD row m f g) (hi : i < m) (hj : j < m) : ORD row m (swp f i j) (st (st g row i (g row j)) row j (g row i)) := fun k hk => by
  refine ⟨?_, swp_lt (fun k hk => (h k hk).2) hi hj k hk⟩
  unfold swp updN
  rw [st_at]
  by_cases q : k = j
  · rw [if_pos ⟨rfl, q⟩, if_pos q]; exact (h i hi).1
  · rw [if_neg (fun z => q z.2), if_neg q, st_at]
    by_cases q2 : k = i
    · rw [if_pos ⟨rfl, q2⟩, if_pos q2]; exact (h j hj).1
    · rw [if_neg (fun z => q2 z.2), if_neg q2]; exact (h k hk).1
theorem fiI_le (f : Nat → Nat) : ∀ k, fiI f k ≤ k
  | 0 => Nat.le_refl _
  | k + 1 => by
    have h := fiI_le f k
    show (if f (k + 1) < f k then fiI f k else k + 1) ≤ k + 1
    by_cases q : f (k + 1) < f k
    · rw [if_pos q]; omega
    · rw [if_neg q]; omega
theorem fiI_is (f : Nat → Nat) : ∀ k, fiI f k ≠ 0 → ¬ f (fiI f k) < f (fiI f k - 1)
  | 0, h => absurd rfl h
  | k + 1, h => by
    have e : fiI f (k + 1) = if f (k + 1) < f k then fiI f k else k + 1 := rfl
    by_cases q : f (k + 1) < f k
    · rw [if_pos q] at e
      rw [e] at h ⊢
      exact fiI_is f k h
    · rw [if_neg q] at e
      rw [e]
      exact q
theorem fjI_b {f : Nat → Nat} {i : Nat} (h : ¬ f (i + 1) < f i) : ∀ d, i + 1 ≤ fjI f i (i + 1 + d) ∧ fjI f i (i + 1 + d) ≤ i + 1 + d
  | 0 => by
    have e : fjI f i (i + 1) = if f (i + 1) < f i then fjI f i i else i + 1 := rfl
    rw [if_neg h] at e
    rw [Nat.add_zero, e]
    exact ⟨Nat.le_refl _, Nat.le_refl _⟩
  | d + 1 => by
    have h1 := fjI_b h d
    have e : fjI f i (i + 1 + (d + 1)) = if f (i + 1 + d + 1) < f i then fjI f i (i + 1 + d) else i + 1 + d + 1 := rfl
    by_cases q : f (i + 1 + d + 1) < f i
    · rw [if_pos q] at e; omega
    · rw [if_neg q] at e; omega
section NM
variable {m : Nat} {f : Nat → Nat} {g : St}
theorem M_fi (hm : m ≤ 5) (h : ORD 23 m f g) : ∀ k u, k < m → k < u → lp (fM_nextOrder_L7 g) u (yr k) = some (yr (fiI f k))
  | 0, u, hk, hu => by
    obtain ⟨u, rfl⟩ : ∃ j, u = j + 1 := ⟨u - 1, by omega⟩
    refine lp_inr ?_
    rw [yr_0]
    simp (disch := (first | omega | assumption | trivial)) only [li_0, li_1, li_2, li_3, li_4, li_5, li_6, li_7, li_8, li_9, li_10, li_11, li_12, li_13, li_14, li_15, li_16, li_17, li_18, li_19, li_20, li_21, li_22, li_23, li_24, li_25, li_26, li_27, li_28, li_29, li_30, li_31, li_32, li_33, li_34, li_35, li_36, li_37, li_38, li_39, li_40, li_41, li_42, li_43, li_44, li_45, li_46, li_47, li_48, li_49, li_50, li_51, li_52, li_53, li_54, li_55, li_56, li_57, li_58, li_59, li_60, li_63, li_64, li_72, li_76, li_77, li_91, li_93, li_96, li_97, li_99, li_108, li_109, li_120, li_122, li_150, li_200, li_255, li_400, li_426, li_600, li_900, li_999, li_1000, li_1002, li_1003, li_2000, li_2042, li_2043, li_2045, li_10000, li_32767, li_100000, li_1000000, li_m1, li_m1b, ob_s, lt1_e, se_l, se_r, if_true, if_false, true_and, and_true, false_and, and_false, st_at, i3_add, i3_mul, i3_sub, i3_lt, i3_le, i3_eq, i3_nat, m1_eqi, i3_eqm, m1_lti, m1_lei, i3_ltm, i3_lem, i3_decm, i3_dec0, nm_eqm, yr_eqm, mxor0, Nat.zero_add, if_pos, if_neg, eq_self, ne_eq, not_true_eq_false, not_false_eq_true, fM_nextOrder_L7]
    rfl
  | k + 1, u, hk, hu => by
    obtain ⟨u, rfl⟩ : ∃ j, u = j + 1 := ⟨u - 1, by omega⟩
    obtain ⟨h1, h1'⟩ := h k (by omega)
    obtain ⟨h2, h2'⟩ := h (k + 1) (by omega)
    have e : fiI f (k + 1) = if f (k + 1) < f k then fiI f k else k + 1 := rfl
    by_cases q : f (k + 1) < f k
    · rw [if_pos q] at e
      have s : fM_nextOrder_L7 g (yr (k + 1)) = some (.inl (yr k)) := by
        rw [yr_s1]
        by_cases q0 : k = 0
        · have e0 : yr k = m1 := by rw [q0]; rfl
          have e1 : i3 k + m1 = m1 := by rw [q0]; decide
          rw [e0]
          simp (disch := (first | omega | assumption | trivial)) only [li_0, li_1, li_2, li_3, li_4, li_5, li_6, li_7, li_8, li_9, li_10, li_11, li_12, li_13, li_14, li_15, li_16, li_17, li_18, li_19, li_20, li_21, li_22, li_23, li_24, li_25, li_26, li_27, li_28, li_29, li_30, li_31, li_32, li_33, li_34, li_35, li_36, li_37, li_38, li_39, li_40, li_41, li_42, li_43, li_44, li_45, li_46, li_47, li_48, li_49, li_50, li_51, li_52, li_53, li_54, li_55, li_56, li_57, li_58, li_59, li_60, li_63, li_64, li_72, li_76, li_77, li_91, li_93, li_96, li_97, li_99, li_108, li_109, li_120, li_122, li_150, li_200, li_255, li_400, li_426, li_600, li_900, li_999, li_1000, li_1002, li_1003, li_2000, li_2042, li_2043, li_2045, li_10000, li_32767, li_100000, li_1000000, li_m1, li_m1b, ob_s, lt1_e, se_l, se_r, if_true, if_false, true_and, and_true, false_and, and_false, st_at, i3_add, i3_mul, i3_sub, i3_lt, i3_le, i3_eq, i3_nat, m1_eqi, i3_eqm, m1_lti, m1_lei, i3_ltm, i3_lem, i3_decm, i3_dec0, nm_eqm, yr_eqm, mxor0, Nat.zero_add, if_pos, if_neg, eq_self, ne_eq, not_true_eq_false, not_false_eq_true, fM_nextOrder_L7, h1, h2, e1]
        · rw [yr_s q0]
          simp (disch := (first | omega | assumption | trivial)) only [li_0, li_1, li_2, li_3, li_4, li_5, li_6, li_7, li_8, li_9, li_10, li_11, li_12, li_13, li_14, li_15, li_16, li_17, li_18, li_19, li_20, li_21, li_22, li_23, li_24, li_25, li_26, li_27, li_28, li_29, li_30, li_31, li_32, li_33, li_34, li_35, li_36, li_37, li_38, li_39, li_40, li_41, li_42, li_43, li_44, li_45, li_46, li_47, li_48, li_49, li_50, li_51, li_52, li_53, li_54, li_55, li_56, li_57, li_58, li_59, li_60, li_63, li_64, li_72, li_76, li_77, li_91, li_93, li_96, li_97, li_99, li_108, li_109, li_120, li_122, li_150, li_200, li_255, li_400, li_426, li_600, li_900, li_999, li_1000, li_1002, li_1003, li_2000, li_2042, li_2043, li_2045, li_10000, li_32767, li_100000, li_1000000, li_m1, li_m1b, ob_s, lt1_e, se_l, se_r, if_true, if_false, true_and, and_true, false_and, and_false, st_at, i3_add, i3_mul, i3_sub, i3_lt, i3_le, i3_eq, i3_nat, m1_eqi, i3_eqm, m1_lti, m1_lei, i3_ltm, i3_lem, i3_decm, i3_dec0, nm_eqm, yr_eqm, mxor0, Nat.zero_add, if_pos, if_neg, eq_self, ne_eq, not_true_eq_false, not_false_eq_true, fM_nextOrder_L7, h1, h2]
      rw [lp_inl s, e]
      exact M_fi hm h k u (by omega) (by omega)
    · rw [if_neg q] at e
      rw [e]
      refine lp_inr ?_
      rw [yr_s1]
      simp (disch := (first | omega | assumption | trivial)) only [li_0, li_1, li_2, li_3, li_4, li_5, li_6, li_7, li_8, li_9, li_10, li_11, li_12, li_13, li_14, li_15, li_16, li_17, li_18, li_19, li_20, li_21, li_22, li_23, li_24, li_25, li_26, li_27, li_28, li_29, li_30, li_31, li_32, li_33, li_34, li_35, li_36, li_37, li_38, li_39, li_40, li_41, li_42, li_43, li_44, li_45, li_46, li_47, li_48, li_49, li_50, li_51, li_52, li_53, li_54, li_55, li_56, li_57, li_58, li_59, li_60, li_63, li_64, li_72, li_76, li_77, li_91, li_93, li_96, li_97, li_99, li_108, li_109, li_120, li_122, li_150, li_200, li_255, li_400, li_426, li_600, li_900, li_999, li_1000, li_1002, li_1003, li_2000, li_2042, li_2043, li_2045, li_10000, li_32767, li_100000, li_1000000, li_m1, li_m1b, ob_s, lt1_e, se_l, se_r, if_true, if_false, true_and, and_true, false_and, and_false, st_at, i3_add, i3_mul, i3_sub, i3_lt, i3_le, i3_eq, i3_nat, m1_eqi, i3_eqm, m1_lti, m1_lei, i3_ltm, i3_lem, i3_decm, i3_dec0, nm_eqm, yr_eqm, mxor0, Nat.zero_add, if_pos, if_neg, eq_self, ne_eq, not_true_eq_false, not_false_eq_true, fM_nextOrder_L7, h1, h2]
theorem M_fj (hm : m ≤ 5) (h : ORD 23 m f g) {i : Nat} (hi : i + 1 < m) (hf : ¬ f (i + 1) < f i) : ∀ d u, i + 1 + d < m → d < u → lp (fM_nextOrder_L47 (i3 i) g) u (i3 (i + 1 + d)) = some (i3 (fjI f i (i + 1 + d)))
  | 0, u, hk, hu => by
    obtain ⟨u, rfl⟩ : ∃ j, u = j + 1 := ⟨u - 1, by omega⟩
    obtain ⟨h1, h1'⟩ := h i (by omega)
    obtain ⟨h2, h2'⟩ := h (i + 1) (by omega)
    have e : fjI f i (i + 1) = if f (i + 1) < f i then fjI f i i else i + 1 := rfl
    rw [if_neg hf] at e
    rw [Nat.add_zero, e]
    refine lp_inr ?_
    simp (disch := (first | omega | assumption | trivial)) only [li_0, li_1, li_2, li_3, li_4, li_5, li_6, li_7, li_8, li_9, li_10, li_11, li_12, li_13, li_14, li_15, li_16, li_17, li_18, li_19, li_20, li_21, li_22, li_23, li_24, li_25, li_26, li_27, li_28, li_29, li_30, li_31, li_32, li_33, li_34, li_35, li_36, li_37, li_38, li_39, li_40, li_41, li_42, li_43, li_44, li_45, li_46, li_47, li_48, li_49, li_50, li_51, li_52, li_53, li_54, li_55, li_56, li_57, li_58, li_59, li_60, li_63, li_64, li_72, li_76, li_77, li_91, li_93, li_96, li_97, li_99, li_108, li_109, li_120, li_122, li_150, li_200, li_255, li_400, li_426, li_600, li_900, li_999, li_1000, li_1002, li_1003, li_2000, li_2042, li_2043, li_2045, li_10000, li_32767, li_100000, li_1000000, li_m1, li_m1b, ob_s, lt1_e, se_l, se_r, if_true, if_false, true_and, and_true, false_and, and_false, st_at, i3_add, i3_mul, i3_sub, i3_lt, i3_le, i3_eq, i3_nat, m1_eqi, i3_eqm, m1_lti, m1_lei, i3_ltm, i3_lem, i3_decm, i3_dec0, nm_eqm, yr_eqm, mxor0, Nat.zero_add, if_pos, if_neg, eq_self, ne_eq, not_true_eq_false, not_false_eq_true, fM_nextOrder_L47, h1, h2]
  | d + 1, u, hk, hu => by
    obtain ⟨u, rfl⟩ : ∃ j, u = j + 1 := ⟨u - 1, by omega⟩
    obtain ⟨h1, h1'⟩ := h i (by omega)
    obtain ⟨h2, h2'⟩ := h (i + 1 + (d + 1)) (by omega)
    have e : fjI f i (i + 1 + (d + 1)) = if f (i + 1 + (d + 1)) < f i then fjI f i (i + 1 + d) else i + 1 + (d + 1) := rfl
    by_cases q : f (i + 1 + (d + 1)) < f i
    · rw [if_pos q] at e
      have s : fM_nextOrder_L47 (i3 i) g (i3 (i + 1 + (d + 1))) = some (.inl (i3 (i + 1 + d))) := by
        have e9 : i + 1 + (d + 1) - 1 = i + 1 + d := by omega
        simp (disch := (first | omega | assumption | trivial)) only [li_0, li_1, li_2, li_3, li_4, li_5, li_6, li_7, li_8, li_9, li_10, li_11, li_12, li_13, li_14, li_15, li_16, li_17, li_18, li_19, li_20, li_21, li_22, li_23, li_24, li_25, li_26, li_27, li_28, li_29, li_30, li_31, li_32, li_33, li_34, li_35, li_36, li_37, li_38, li_39, li_40, li_41, li_42, li_43, li_44, li_45, li_46, li_47, li_48, li_49, li_50, li_51, li_52, li_53, li_54, li_55, li_56, li_57, li_58, li_59, li_60, li_63, li_64, li_72, li_76, li_77, li_91, li_93, li_96, li_97, li_99, li_108, li_109, li_120, li_122, li_150, li_200, li_255, li_400, li_426, li_600, li_900, li_999, li_1000, li_1002, li_1003, li_2000, li_2042, li_2043, li_2045, li_10000, li_32767, li_100000, li_1000000, li_m1, li_m1b, ob_s, lt1_e, se_l, se_r, if_true, if_false, true_and, and_true, false_and, and_false, st_at, i3_add, i3_mul, i3_sub, i3_lt, i3_le, i3_eq, i3_nat, m1_eqi, i3_eqm, m1_lti, m1_lei, i3_ltm, i3_lem, i3_decm, i3_dec0, nm_eqm, yr_eqm, mxor0, Nat.zero_add, if_pos, if_neg, eq_self, ne_eq, not_true_eq_false, not_false_eq_true, fM_nextOrder_L47, h1, h2, e9]
      rw [lp_inl s, e]
      exact M_fj hm h hi hf d u (by omega) (by omega)
    · rw [if_neg q] at e
      rw [e]
      refine lp_inr ?_
      simp (disch := (first | omega | assumption | trivial)) only [li_0, li_1, li_2, li_3, li_4, li_5, li_6, li_7, li_8, li_9, li_10, li_11, li_12, li_13, li_14, li_15, li_16, li_17, li_18, li_19, li_20, li_21, li_22, li_23, li_24, li_25, li_26, li_27, li_28, li_29, li_30, li_31, li_32, li_33, li_34, li_35, li_36, li_37, li_38, li_39, li_40, li_41, li_42, li_43, li_44, li_45, li_46, li_47, li_48, li_49, li_50, li_51, li_52, li_53, li_54, li_55, li_56, li_57, li_58, li_59, li_60, li_63, li_64, li_72, li_76, li_77, li_91, li_93, li_96, li_97, li_99, li_108, li_109, li_120, li_122, li_150, li_200, li_255, li_400, li_426, li_600, li_900, li_999, li_1000, li_1002, li_1003, li_2000, li_2042, li_2043, li_2045, li_10000, li_32767, li_100000, li_1000000, li_m1, li_m1b, ob_s, lt1_e, se_l, se_r, if_true, if_false, true_and, and_true, false_and, and_false, st_at, i3_add, i3_mul, i3_sub, i3_lt, i3_le, i3_eq, i3_nat, m1_eqi, i3_eqm, m1_lti, m1_lei, i3_ltm, i3_lem, i3_decm, i3_dec0, nm_eqm, yr_eqm, mxor0, Nat.zero_add, if_pos, if_neg, eq_self, ne_eq, not_true_eq_false, not_false_eq_true, fM_nextOrder_L47, h1, h2]
theorem M_rv (hm : m ≤ 5) : ∀ d a b f g u, a ≤ m → b ≤ a + 2 * d → b < m → ORD 23 m f g → d < u → ∃ g', lp fM_nextOrder_L86 u (i3 a, i3 b, g) = some g' ∧ ORD 23 m (rvN d f a b) g' ∧ ∀ p, p ≠ 23 → g' p = g p
  | 0, a, b, f, g, u, ha, hb, hbm, h, hu => by
    obtain ⟨u, rfl⟩ : ∃ j, u = j + 1 := ⟨u - 1, by omega⟩
    refine ⟨g, lp_inr ?_, h, fun _ _ => rfl⟩
    simp (disch := (first | omega | assumption | trivial)) only [li_0, li_1, li_2, li_3, li_4, li_5, li_6, li_7, li_8, li_9, li_10, li_11, li_12, li_13, li_14, li_15, li_16, li_17, li_18, li_19, li_20, li_21, li_22, li_23, li_24, li_25, li_26, li_27, li_28, li_29, li_30, li_31, li_32, li_33, li_34, li_35, li_36, li_37, li_38, li_39, li_40, li_41, li_42, li_43, li_44, li_45, li_46, li_47, li_48, li_49, li_50, li_51, li_52, li_53, li_54, li_55, li_56, li_57, li_58, li_59, li_60, li_63, li_64, li_72, li_76, li_77, li_91, li_93, li_96, li_97, li_99, li_108, li_109, li_120, li_122, li_150, li_200, li_255, li_400, li_426, li_600, li_900, li_999, li_1000, li_1002, li_1003, li_2000, li_2042, li_2043, li_2045, li_10000, li_32767, li_100000, li_1000000, li_m1, li_m1b, ob_s, lt1_e, se_l, se_r, if_true, if_false, true_and, and_true, false_and, and_false, st_at, i3_add, i3_mul, i3_sub, i3_lt, i3_le, i3_eq, i3_nat, m1_eqi, i3_eqm, m1_lti, m1_lei, i3_ltm, i3_lem, i3_decm, i3_dec0, nm_eqm, yr_eqm, mxor0, Nat.zero_add, if_pos, if_neg, eq_self, ne_eq, not_true_eq_false, not_false_eq_true, fM_nextOrder_L86]
  | d + 1, a, b, f, g, u, ha, hb, hbm, h, hu => by
    obtain ⟨u, rfl⟩ : ∃ j, u = j + 1 := ⟨u - 1, by omega⟩
    have e : rvN (d + 1) f a b = if a < b then rvN d (swp f a b) (a + 1) (b - 1) else f := rfl
    by_cases q : a < b
    · rw [if_pos q] at e
      obtain ⟨g', e2, h2, f2⟩ := M_rv hm d (a + 1) (b - 1) (swp f a b) (st (st g 23 a (g 23 b)) 23 b (g 23 a)) u (by omega) (by omega) (by omega) (h.swap (by omega) hbm) (by omega)
      refine ⟨g', ?_, by rw [e]; exact h2, fun p hp => by rw [f2 p hp, st_ne hp, st_ne hp]⟩
      have s : fM_nextOrder_L86 (i3 a, i3 b, g) = some (.inl (i3 (a + 1), i3 (b - 1), st (st g 23 a (g 23 b)) 23 b (g 23 a))) := by
        simp (disch := (first | omega | assumption | trivial)) only [li_0, li_1, li_2, li_3, li_4, li_5, li_6, li_7, li_8, li_9, li_10, li_11, li_12, li_13, li_14, li_15, li_16, li_17, li_18, li_19, li_20, li_21, li_22, li_23, li_24, li_25, li_26, li_27, li_28, li_29, li_30, li_31, li_32, li_33, li_34, li_35, li_36, li_37, li_38, li_39, li_40, li_41, li_42, li_43, li_44, li_45, li_46, li_47, li_48, li_49, li_50, li_51, li_52, li_53, li_54, li_55, li_56, li_57, li_58, li_59, li_60, li_63, li_64, li_72, li_76, li_77, li_91, li_93, li_96, li_97, li_99, li_108, li_109, li_120, li_122, li_150, li_200, li_255, li_400, li_426, li_600, li_900, li_999, li_1000, li_1002, li_1003, li_2000, li_2042, li_2043, li_2045, li_10000, li_32767, li_100000, li_1000000, li_m1, li_m1b, ob_s, lt1_e, se_l, se_r, if_true, if_false, true_and, and_true, false_and, and_false, st_at, i3_add, i3_mul, i3_sub, i3_lt, i3_le, i3_eq, i3_nat, m1_eqi, i3_eqm, m1_lti, m1_lei, i3_ltm, i3_lem, i3_decm, i3_dec0, nm_eqm, yr_eqm, mxor0, Nat.zero_add, if_pos, if_neg, eq_self, ne_eq, not_true_eq_false, not_false_eq_true, fM_nextOrder_L86, fM_swaps]
      rw [lp_inl s]
      exact e2
    · rw [if_neg q] at e
      refine ⟨g, lp_inr ?_, by rw [e]; exact h, fun _ _ => rfl⟩
      simp (disch := (first | omega | assumption | trivial)) only [li_0, li_1, li_2, li_3, li_4, li_5, li_6, li_7, li_8, li_9, li_10, li_11, li_12, li_13, li_14, li_15, li_16, li_17, li_18, li_19, li_20, li_21, li_22, li_23, li_24, li_25, li_26, li_27, li_28, li_29, li_30, li_31, li_32, li_33, li_34, li_35, li_36, li_37, li_38, li_39, li_40, li_41, li_42, li_43, li_44, li_45, li_46, li_47, li_48, li_49, li_50, li_51, li_52, li_53, li_54, li_55, li_56, li_57, li_58, li_59, li_60, li_63, li_64, li_72, li_76, li_77, li_91, li_93, li_96, li_97, li_99, li_108, li_109, li_120, li_122, li_150, li_200, li_255, li_400, li_426, li_600, li_900, li_999, li_1000, li_1002, li_1003, li_2000, li_2042, li_2043, li_2045, li_10000, li_32767, li_100000, li_1000000, li_m1, li_m1b, ob_s, lt1_e, se_l, se_r, if_true, if_false, true_and, and_true, false_and, and_false, st_at, i3_add, i3_mul, i3_sub, i3_lt, i3_le, i3_eq, i3_nat, m1_eqi, i3_eqm, m1_lti, m1_lei, i3_ltm, i3_lem, i3_decm, i3_dec0, nm_eqm, yr_eqm, mxor0, Nat.zero_add, if_pos, if_neg, eq_self, ne_eq, not_true_eq_false, not_false_eq_true, fM_nextOrder_L86]
theorem M_next (hm : m ≤ 5) (h : ORD 23 m f g) (hd : g 0 45 = i3 m) : (fiI f (m - 1) = 0 ∧ fM_nextOrder g = some (i3 0, g)) ∨ (fiI f (m - 1) ≠ 0 ∧ ∃ g', fM_nextOrder g = some (i3 1, g') ∧ ORD 23 m (nxF m f) g' ∧ ∀ p, p ≠ 23 → g' p = g p) := by
  by_cases m0 : m = 0
  · refine Or.inl ⟨by rw [m0]; rfl, ?_⟩
    have e0 : i3 m - i3 2 < i3 0 := by rw [m0]; decide
    have s : fM_nextOrder_L7 g (i3 m - i3 2) = some (.inr (i3 m - i3 2)) := by
      unfold fM_nextOrder_L7
      exact if_pos e0
    have s2 : lp (fM_nextOrder_L7 g) fuel (i3 m - i3 2) = some (i3 m - i3 2) := lp_inrF s
    have e1 : ¬ i3 0 ≤ i3 m - i3 2 := Int32.not_le.mpr e0
    simp (disch := (first | omega | assumption | trivial)) only [li_0, li_1, li_2, li_3, li_4, li_5, li_6, li_7, li_8, li_9, li_10, li_11, li_12, li_13, li_14, li_15, li_16, li_17, li_18, li_19, li_20, li_21, li_22, li_23, li_24, li_25, li_26, li_27, li_28, li_29, li_30, li_31, li_32, li_33, li_34, li_35, li_36, li_37, li_38, li_39, li_40, li_41, li_42, li_43, li_44, li_45, li_46, li_47, li_48, li_49, li_50, li_51, li_52, li_53, li_54, li_55, li_56, li_57, li_58, li_59, li_60, li_63, li_64, li_72, li_76, li_77, li_91, li_93, li_96, li_97, li_99, li_108, li_109, li_120, li_122, li_150, li_200, li_255, li_400, li_426, li_600, li_900, li_999, li_1000, li_1002, li_1003, li_2000, li_2042, li_2043, li_2045, li_10000, li_32767, li_100000, li_1000000, li_m1, li_m1b, ob_s, lt1_e, se_l, se_r, if_true, if_false, true_and, and_true, false_and, and_false, st_at, i3_add, i3_mul, i3_sub, i3_lt, i3_le, i3_eq, i3_nat, m1_eqi, i3_eqm, m1_lti, m1_lei, i3_ltm, i3_lem, i3_decm, i3_dec0, nm_eqm, yr_eqm, mxor0, Nat.zero_add, if_pos, if_neg, eq_self, ne_eq, not_true_eq_false, not_false_eq_true, fM_nextOrder, fM_nextOrder_b7, hd, s2, e1]
  · have e0 : i3 m - i3 2 = yr (m - 1) := by
      by_cases m1' : m = 1
      · rw [m1']; decide
      · rw [yr_s (by omega), i3_sub (by omega)]
        rfl
    have s := M_fi hm h (m - 1) fuel (by omega) (by rw [fuel_eq]; omega)
    by_cases q : fiI f (m - 1) = 0
    · refine Or.inl ⟨q, ?_⟩
      rw [q, yr_0] at s
      simp (disch := (first | omega | assumption | trivial)) only [li_0, li_1, li_2, li_3, li_4, li_5, li_6, li_7, li_8, li_9, li_10, li_11, li_12, li_13, li_14, li_15, li_16, li_17, li_18, li_19, li_20, li_21, li_22, li_23, li_24, li_25, li_26, li_27, li_28, li_29, li_30, li_31, li_32, li_33, li_34, li_35, li_36, li_37, li_38, li_39, li_40, li_41, li_42, li_43, li_44, li_45, li_46, li_47, li_48, li_49, li_50, li_51, li_52, li_53, li_54, li_55, li_56, li_57, li_58, li_59, li_60, li_63, li_64, li_72, li_76, li_77, li_91, li_93, li_96, li_97, li_99, li_108, li_109, li_120, li_122, li_150, li_200, li_255, li_400, li_426, li_600, li_900, li_999, li_1000, li_1002, li_1003, li_2000, li_2042, li_2043, li_2045, li_10000, li_32767, li_100000, li_1000000, li_m1, li_m1b, ob_s, lt1_e, se_l, se_r, if_true, if_false, true_and, and_true, false_and, and_false, st_at, i3_add, i3_mul, i3_sub, i3_lt, i3_le, i3_eq, i3_nat, m1_eqi, i3_eqm, m1_lti, m1_lei, i3_ltm, i3_lem, i3_decm, i3_dec0, nm_eqm, yr_eqm, mxor0, Nat.zero_add, if_pos, if_neg, eq_self, ne_eq, not_true_eq_false, not_false_eq_true, fM_nextOrder, fM_nextOrder_b7, hd, e0, s]
    · refine Or.inr ⟨q, ?_⟩
      have hle := fiI_le f (m - 1)
      have his := fiI_is f (m - 1) q
      rw [yr_s q] at s
      have hnx : nxF m f = rvN 3 (swp f (fiI f (m - 1) - 1) (fjI f (fiI f (m - 1) - 1) (m - 1))) (fiI f (m - 1)) (m - 1) := rfl
      generalize fiI f (m - 1) = w at *
      have hf : ¬ f (w - 1 + 1) < f (w - 1) := by rw [show w - 1 + 1 = w by omega]; exact his
      have s2 := M_fj hm h (i := w - 1) (by omega) hf (m - 1 - w) fuel (by omega) (by rw [fuel_eq]; omega)
      have hb := fjI_b hf (m - 1 - w)
      rw [show w - 1 + 1 + (m - 1 - w) = m - 1 by omega] at s2 hb
      generalize fjI f (w - 1) (m - 1) = j at *
      obtain ⟨g', e2, h2, f2⟩ := M_rv hm 3 w (m - 1) (swp f (w - 1) j) (st (st g 23 (w - 1) (g 23 j)) 23 j (g 23 (w - 1))) fuel (by omega) (by omega) (by omega) (h.swap (by omega) (by omega)) (by rw [fuel_eq]; omega)
      refine ⟨g', ?_, by rw [hnx]; exact h2, fun p hp => by rw [f2 p hp, st_ne hp, st_ne hp]⟩
      have e3 : w - 1 + 1 = w := by omega
      simp (disch := (first | omega | assumption | trivial)) only [li_0, li_1, li_2, li_3, li_4, li_5, li_6, li_7, li_8, li_9, li_10, li_11, li_12, li_13, li_14, li_15, li_16, li_17, li_18, li_19, li_20, li_21, li_22, li_23, li_24, li_25, li_26, li_27, li_28, li_29, li_30, li_31, li_32, li_33, li_34, li_35, li_36, li_37, li_38, li_39, li_40, li_41, li_42, li_43, li_44, li_45, li_46, li_47, li_48, li_49, li_50, li_51, li_52, li_53, li_54, li_55, li_56, li_57, li_58, li_59, li_60, li_63, li_64, li_72, li_76, li_77, li_91, li_93, li_96, li_97, li_99, li_108, li_109, li_120, li_122, li_150, li_200, li_255, li_400, li_426, li_600, li_900, li_999, li_1000, li_1002, li_1003, li_2000, li_2042, li_2043, li_2045, li_10000, li_32767, li_100000, li_1000000, li_m1, li_m1b, ob_s, lt1_e, se_l, se_r, if_true, if_false, true_and, and_true, false_and, and_false, st_at, i3_add, i3_mul, i3_sub, i3_lt, i3_le, i3_eq, i3_nat, m1_eqi, i3_eqm, m1_lti, m1_lei, i3_ltm, i3_lem, i3_decm, i3_dec0, nm_eqm, yr_eqm, mxor0, Nat.zero_add, if_pos, if_neg, eq_self, ne_eq, not_true_eq_false, not_false_eq_true, fM_nextOrder, fM_nextOrder_b7, fM_nextOrder_b47, fM_nextOrder_b86, hd, e0, s, s2, fM_swaps, e3, e2]
end NM
section NX
variable {m : Nat} {f : Nat → Nat} {g : St}
theorem X_fi (hm : m ≤ 5) (h : ORD 45 m f g) : ∀ k u, k < m → k < u → lp (fX_Orders_step_L7 g) u (yr k) = some (yr (fiI f k))
  | 0, u, hk, hu => by
    obtain ⟨u, rfl⟩ : ∃ j, u = j + 1 := ⟨u - 1, by omega⟩
    refine lp_inr ?_
    rw [yr_0]
    simp (disch := (first | omega | assumption | trivial)) only [li_0, li_1, li_2, li_3, li_4, li_5, li_6, li_7, li_8, li_9, li_10, li_11, li_12, li_13, li_14, li_15, li_16, li_17, li_18, li_19, li_20, li_21, li_22, li_23, li_24, li_25, li_26, li_27, li_28, li_29, li_30, li_31, li_32, li_33, li_34, li_35, li_36, li_37, li_38, li_39, li_40, li_41, li_42, li_43, li_44, li_45, li_46, li_47, li_48, li_49, li_50, li_51, li_52, li_53, li_54, li_55, li_56, li_57, li_58, li_59, li_60, li_63, li_64, li_72, li_76, li_77, li_91, li_93, li_96, li_97, li_99, li_108, li_109, li_120, li_122, li_150, li_200, li_255, li_400, li_426, li_600, li_900, li_999, li_1000, li_1002, li_1003, li_2000, li_2042, li_2043, li_2045, li_10000, li_32767, li_100000, li_1000000, li_m1, li_m1b, ob_s, lt1_e, se_l, se_r, if_true, if_false, true_and, and_true, false_and, and_false, st_at, i3_add, i3_mul, i3_sub, i3_lt, i3_le, i3_eq, i3_nat, m1_eqi, i3_eqm, m1_lti, m1_lei, i3_ltm, i3_lem, i3_decm, i3_dec0, nm_eqm, yr_eqm, mxor0, Nat.zero_add, if_pos, if_neg, eq_self, ne_eq, not_true_eq_false, not_false_eq_true, fX_Orders_step_L7, at45]
    rfl
  | k + 1, u, hk, hu => by
    obtain ⟨u, rfl⟩ : ∃ j, u = j + 1 := ⟨u - 1, by omega⟩
    obtain ⟨h1, h1'⟩ := h k (by omega)
    obtain ⟨h2, h2'⟩ := h (k + 1) (by omega)
    have e : fiI f (k + 1) = if f (k + 1) < f k then fiI f k else k + 1 := rfl
    by_cases q : f (k + 1) < f k
    · rw [if_pos q] at e
      have s : fX_Orders_step_L7 g (yr (k + 1)) = some (.inl (yr k)) := by
        rw [yr_s1]
        by_cases q0 : k = 0
        · have e0 : yr k = m1 := by rw [q0]; rfl
          have e1 : i3 k + m1 = m1 := by rw [q0]; decide
          rw [e0]
          simp (disch := (first | omega | assumption | trivial)) only [li_0, li_1, li_2, li_3, li_4, li_5, li_6, li_7, li_8, li_9, li_10, li_11, li_12, li_13, li_14, li_15, li_16, li_17, li_18, li_19, li_20, li_21, li_22, li_23, li_24, li_25, li_26, li_27, li_28, li_29, li_30, li_31, li_32, li_33, li_34, li_35, li_36, li_37, li_38, li_39, li_40, li_41, li_42, li_43, li_44, li_45, li_46, li_47, li_48, li_49, li_50, li_51, li_52, li_53, li_54, li_55, li_56, li_57, li_58, li_59, li_60, li_63, li_64, li_72, li_76, li_77, li_91, li_93, li_96, li_97, li_99, li_108, li_109, li_120, li_122, li_150, li_200, li_255, li_400, li_426, li_600, li_900, li_999, li_1000, li_1002, li_1003, li_2000, li_2042, li_2043, li_2045, li_10000, li_32767, li_100000, li_1000000, li_m1, li_m1b, ob_s, lt1_e, se_l, se_r, if_true, if_false, true_and, and_true, false_and, and_false, st_at, i3_add, i3_mul, i3_sub, i3_lt, i3_le, i3_eq, i3_nat, m1_eqi, i3_eqm, m1_lti, m1_lei, i3_ltm, i3_lem, i3_decm, i3_dec0, nm_eqm, yr_eqm, mxor0, Nat.zero_add, if_pos, if_neg, eq_self, ne_eq, not_true_eq_false, not_false_eq_true, fX_Orders_step_L7, at45, h1, h2, e1]
        · rw [yr_s q0]
          simp (disch := (first | omega | assumption | trivial)) only [li_0, li_1, li_2, li_3, li_4, li_5, li_6, li_7, li_8, li_9, li_10, li_11, li_12, li_13, li_14, li_15, li_16, li_17, li_18, li_19, li_20, li_21, li_22, li_23, li_24, li_25, li_26, li_27, li_28, li_29, li_30, li_31, li_32, li_33, li_34, li_35, li_36, li_37, li_38, li_39, li_40, li_41, li_42, li_43, li_44, li_45, li_46, li_47, li_48, li_49, li_50, li_51, li_52, li_53, li_54, li_55, li_56, li_57, li_58, li_59, li_60, li_63, li_64, li_72, li_76, li_77, li_91, li_93, li_96, li_97, li_99, li_108, li_109, li_120, li_122, li_150, li_200, li_255, li_400, li_426, li_600, li_900, li_999, li_1000, li_1002, li_1003, li_2000, li_2042, li_2043, li_2045, li_10000, li_32767, li_100000, li_1000000, li_m1, li_m1b, ob_s, lt1_e, se_l, se_r, if_true, if_false, true_and, and_true, false_and, and_false, st_at, i3_add, i3_mul, i3_sub, i3_lt, i3_le, i3_eq, i3_nat, m1_eqi, i3_eqm, m1_lti, m1_lei, i3_ltm, i3_lem, i3_decm, i3_dec0, nm_eqm, yr_eqm, mxor0, Nat.zero_add, if_pos, if_neg, eq_self, ne_eq, not_true_eq_false, not_false_eq_true, fX_Orders_step_L7, at45, h1, h2]
      rw [lp_inl s, e]
      exact X_fi hm h k u (by omega) (by omega)
    · rw [if_neg q] at e
      rw [e]
      refine lp_inr ?_
      rw [yr_s1]
      simp (disch := (first | omega | assumption | trivial)) only [li_0, li_1, li_2, li_3, li_4, li_5, li_6, li_7, li_8, li_9, li_10, li_11, li_12, li_13, li_14, li_15, li_16, li_17, li_18, li_19, li_20, li_21, li_22, li_23, li_24, li_25, li_26, li_27, li_28, li_29, li_30, li_31, li_32, li_33, li_34, li_35, li_36, li_37, li_38, li_39, li_40, li_41, li_42, li_43, li_44, li_45, li_46, li_47, li_48, li_49, li_50, li_51, li_52, li_53, li_54, li_55, li_56, li_57, li_58, li_59, li_60, li_63, li_64, li_72, li_76, li_77, li_91, li_93, li_96, li_97, li_99, li_108, li_109, li_120, li_122, li_150, li_200, li_255, li_400, li_426, li_600, li_900, li_999, li_1000, li_1002, li_1003, li_2000, li_2042, li_2043, li_2045, li_10000, li_32767, li_100000, li_1000000, li_m1, li_m1b, ob_s, lt1_e, se_l, se_r, if_true, if_false, true_and, and_true, false_and, and_false, st_at, i3_add, i3_mul, i3_sub, i3_lt, i3_le, i3_eq, i3_nat, m1_eqi, i3_eqm, m1_lti, m1_lei, i3_ltm, i3_lem, i3_decm, i3_dec0, nm_eqm, yr_eqm, mxor0, Nat.zero_add, if_pos, if_neg, eq_self, ne_eq, not_true_eq_false, not_false_eq_true, fX_Orders_step_L7, at45, h1, h2]
theorem X_fj (hm : m ≤ 5) (h : ORD 45 m f g) {i : Nat} (hi : i + 1 < m) (hf : ¬ f (i + 1) < f i) : ∀ d u, i + 1 + d < m → d < u → lp (fX_Orders_step_L51 (i3 i) g) u (i3 (i + 1 + d)) = some (i3 (fjI f i (i + 1 + d)))
  | 0, u, hk, hu => by
    obtain ⟨u, rfl⟩ : ∃ j, u = j + 1 := ⟨u - 1, by omega⟩
    obtain ⟨h1, h1'⟩ := h i (by omega)
    obtain ⟨h2, h2'⟩ := h (i + 1) (by omega)
    have e : fjI f i (i + 1) = if f (i + 1) < f i then fjI f i i else i + 1 := rfl
    rw [if_neg hf] at e
    rw [Nat.add_zero, e]
    refine lp_inr ?_
    simp (disch := (first | omega | assumption | trivial)) only [li_0, li_1, li_2, li_3, li_4, li_5, li_6, li_7, li_8, li_9, li_10, li_11, li_12, li_13, li_14, li_15, li_16, li_17, li_18, li_19, li_20, li_21, li_22, li_23, li_24, li_25, li_26, li_27, li_28, li_29, li_30, li_31, li_32, li_33, li_34, li_35, li_36, li_37, li_38, li_39, li_40, li_41, li_42, li_43, li_44, li_45, li_46, li_47, li_48, li_49, li_50, li_51, li_52, li_53, li_54, li_55, li_56, li_57, li_58, li_59, li_60, li_63, li_64, li_72, li_76, li_77, li_91, li_93, li_96, li_97, li_99, li_108, li_109, li_120, li_122, li_150, li_200, li_255, li_400, li_426, li_600, li_900, li_999, li_1000, li_1002, li_1003, li_2000, li_2042, li_2043, li_2045, li_10000, li_32767, li_100000, li_1000000, li_m1, li_m1b, ob_s, lt1_e, se_l, se_r, if_true, if_false, true_and, and_true, false_and, and_false, st_at, i3_add, i3_mul, i3_sub, i3_lt, i3_le, i3_eq, i3_nat, m1_eqi, i3_eqm, m1_lti, m1_lei, i3_ltm, i3_lem, i3_decm, i3_dec0, nm_eqm, yr_eqm, mxor0, Nat.zero_add, if_pos, if_neg, eq_self, ne_eq, not_true_eq_false, not_false_eq_true, fX_Orders_step_L51, at45, h1, h2]
  | d + 1, u, hk, hu => by
    obtain ⟨u, rfl⟩ : ∃ j, u = j + 1 := ⟨u - 1, by omega⟩
    obtain ⟨h1, h1'⟩ := h i (by omega)
    obtain ⟨h2, h2'⟩ := h (i + 1 + (d + 1)) (by omega)
    have e : fjI f i (i + 1 + (d + 1)) = if f (i + 1 + (d + 1)) < f i then fjI f i (i + 1 + d) else i + 1 + (d + 1) := rfl
    by_cases q : f (i + 1 + (d + 1)) < f i
    · rw [if_pos q] at e
      have s : fX_Orders_step_L51 (i3 i) g (i3 (i + 1 + (d + 1))) = some (.inl (i3 (i + 1 + d))) := by
        have e9 : i + 1 + (d + 1) - 1 = i + 1 + d := by omega
        simp (disch := (first | omega | assumption | trivial)) only [li_0, li_1, li_2, li_3, li_4, li_5, li_6, li_7, li_8, li_9, li_10, li_11, li_12, li_13, li_14, li_15, li_16, li_17, li_18, li_19, li_20, li_21, li_22, li_23, li_24, li_25, li_26, li_27, li_28, li_29, li_30, li_31, li_32, li_33, li_34, li_35, li_36, li_37, li_38, li_39, li_40, li_41, li_42, li_43, li_44, li_45, li_46, li_47, li_48, li_49, li_50, li_51, li_52, li_53, li_54, li_55, li_56, li_57, li_58, li_59, li_60, li_63, li_64, li_72, li_76, li_77, li_91, li_93, li_96, li_97, li_99, li_108, li_109, li_120, li_122, li_150, li_200, li_255, li_400, li_426, li_600, li_900, li_999, li_1000, li_1002, li_1003, li_2000, li_2042, li_2043, li_2045, li_10000, li_32767, li_100000, li_1000000, li_m1, li_m1b, ob_s, lt1_e, se_l, se_r, if_true, if_false, true_and, and_true, false_and, and_false, st_at, i3_add, i3_mul, i3_sub, i3_lt, i3_le, i3_eq, i3_nat, m1_eqi, i3_eqm, m1_lti, m1_lei, i3_ltm, i3_lem, i3_decm, i3_dec0, nm_eqm, yr_eqm, mxor0, Nat.zero_add, if_pos, if_neg, eq_self, ne_eq, not_true_eq_false, not_false_eq_true, fX_Orders_step_L51, at45, h1, h2, e9]
      rw [lp_inl s, e]
      exact X_fj hm h hi hf d u (by omega) (by omega)
    · rw [if_neg q] at e
      rw [e]
      refine lp_inr ?_
      simp (disch := (first | omega | assumption | trivial)) only [li_0, li_1, li_2, li_3, li_4, li_5, li_6, li_7, li_8, li_9, li_10, li_11, li_12, li_13, li_14, li_15, li_16, li_17, li_18, li_19, li_20, li_21, li_22, li_23, li_24, li_25, li_26, li_27, li_28, li_29, li_30, li_31, li_32, li_33, li_34, li_35, li_36, li_37, li_38, li_39, li_40, li_41, li_42, li_43, li_44, li_45, li_46, li_47, li_48, li_49, li_50, li_51, li_52, li_53, li_54, li_55, li_56, li_57, li_58, li_59, li_60, li_63, li_64, li_72, li_76, li_77, li_91, li_93, li_96, li_97, li_99, li_108, li_109, li_120, li_122, li_150, li_200, li_255, li_400, li_426, li_600, li_900, li_999, li_1000, li_1002, li_1003, li_2000, li_2042, li_2043, li_2045, li_10000, li_32767, li_100000, li_1000000, li_m1, li_m1b, ob_s, lt1_e, se_l, se_r, if_true, if_false, true_and, and_true, false_and, and_false, st_at, i3_add, i3_mul, i3_sub, i3_lt, i3_le, i3_eq, i3_nat, m1_eqi, i3_eqm, m1_lti, m1_lei, i3_ltm, i3_lem, i3_decm, i3_dec0, nm_eqm, yr_eqm, mxor0, Nat.zero_add, if_pos, if_neg, eq_self, ne_eq, not_true_eq_false, not_false_eq_true, fX_Orders_step_L51, at45, h1, h2]
theorem X_rv (hm : m ≤ 5) : ∀ d a b f g u, a ≤ m → b ≤ a + 2 * d → b < m → ORD 45 m f g → d < u → ∃ g', lp fX_Orders_step_L99 u (i3 a, i3 b, g) = some g' ∧ ORD 45 m (rvN d f a b) g' ∧ ∀ p, p ≠ 45 → g' p = g p
  | 0, a, b, f, g, u, ha, hb, hbm, h, hu => by
    obtain ⟨u, rfl⟩ : ∃ j, u = j + 1 := ⟨u - 1, by omega⟩
    refine ⟨g, lp_inr ?_, h, fun _ _ => rfl⟩
    simp (disch := (first | omega | assumption | trivial)) only [li_0, li_1, li_2, li_3, li_4, li_5, li_6, li_7, li_8, li_9, li_10, li_11, li_12, li_13, li_14, li_15, li_16, li_17, li_18, li_19, li_20, li_21, li_22, li_23, li_24, li_25, li_26, li_27, li_28, li_29, li_30, li_31, li_32, li_33, li_34, li_35, li_36, li_37, li_38, li_39, li_40, li_41, li_42, li_43, li_44, li_45, li_46, li_47, li_48, li_49, li_50, li_51, li_52, li_53, li_54, li_55, li_56, li_57, li_58, li_59, li_60, li_63, li_64, li_72, li_76, li_77, li_91, li_93, li_96, li_97, li_99, li_108, li_109, li_120, li_122, li_150, li_200, li_255, li_400, li_426, li_600, li_900, li_999, li_1000, li_1002, li_1003, li_2000, li_2042, li_2043, li_2045, li_10000, li_32767, li_100000, li_1000000, li_m1, li_m1b, ob_s, lt1_e, se_l, se_r, if_true, if_false, true_and, and_true, false_and, and_false, st_at, i3_add, i3_mul, i3_sub, i3_lt, i3_le, i3_eq, i3_nat, m1_eqi, i3_eqm, m1_lti, m1_lei, i3_ltm, i3_lem, i3_decm, i3_dec0, nm_eqm, yr_eqm, mxor0, Nat.zero_add, if_pos, if_neg, eq_self, ne_eq, not_true_eq_false, not_false_eq_true, fX_Orders_step_L99]
  | d + 1, a, b, f, g, u, ha, hb, hbm, h, hu => by
    obtain ⟨u, rfl⟩ : ∃ j, u = j + 1 := ⟨u - 1, by omega⟩
    have e : rvN (d + 1) f a b = if a < b then rvN d (swp f a b) (a + 1) (b - 1) else f := rfl
    by_cases q : a < b
    · rw [if_pos q] at e
      obtain ⟨g', e2, h2, f2⟩ := X_rv hm d (a + 1) (b - 1) (swp f a b) (st (st g 45 a (g 45 b)) 45 b (g 45 a)) u (by omega) (by omega) (by omega) (h.swap (by omega) hbm) (by omega)
      refine ⟨g', ?_, by rw [e]; exact h2, fun p hp => by rw [f2 p hp, st_ne hp, st_ne hp]⟩
      have e45 : st g 45 a (g 45 b) 45 a = g 45 b := st_eq _ _ _ _
      have s : fX_Orders_step_L99 (i3 a, i3 b, g) = some (.inl (i3 (a + 1), i3 (b - 1), st (st g 45 a (g 45 b)) 45 b (g 45 a))) := by
        simp (disch := (first | omega | assumption | trivial)) only [li_0, li_1, li_2, li_3, li_4, li_5, li_6, li_7, li_8, li_9, li_10, li_11, li_12, li_13, li_14, li_15, li_16, li_17, li_18, li_19, li_20, li_21, li_22, li_23, li_24, li_25, li_26, li_27, li_28, li_29, li_30, li_31, li_32, li_33, li_34, li_35, li_36, li_37, li_38, li_39, li_40, li_41, li_42, li_43, li_44, li_45, li_46, li_47, li_48, li_49, li_50, li_51, li_52, li_53, li_54, li_55, li_56, li_57, li_58, li_59, li_60, li_63, li_64, li_72, li_76, li_77, li_91, li_93, li_96, li_97, li_99, li_108, li_109, li_120, li_122, li_150, li_200, li_255, li_400, li_426, li_600, li_900, li_999, li_1000, li_1002, li_1003, li_2000, li_2042, li_2043, li_2045, li_10000, li_32767, li_100000, li_1000000, li_m1, li_m1b, ob_s, lt1_e, se_l, se_r, if_true, if_false, true_and, and_true, false_and, and_false, st_at, i3_add, i3_mul, i3_sub, i3_lt, i3_le, i3_eq, i3_nat, m1_eqi, i3_eqm, m1_lti, m1_lei, i3_ltm, i3_lem, i3_decm, i3_dec0, nm_eqm, yr_eqm, mxor0, Nat.zero_add, if_pos, if_neg, eq_self, ne_eq, not_true_eq_false, not_false_eq_true, fX_Orders_step_L99, fX_Orders_swap, at45, pu45, e45]
      rw [lp_inl s]
      exact e2
    · rw [if_neg q] at e
      refine ⟨g, lp_inr ?_, by rw [e]; exact h, fun _ _ => rfl⟩
      simp (disch := (first | omega | assumption | trivial)) only [li_0, li_1, li_2, li_3, li_4, li_5, li_6, li_7, li_8, li_9, li_10, li_11, li_12, li_13, li_14, li_15, li_16, li_17, li_18, li_19, li_20, li_21, li_22, li_23, li_24, li_25, li_26, li_27, li_28, li_29, li_30, li_31, li_32, li_33, li_34, li_35, li_36, li_37, li_38, li_39, li_40, li_41, li_42, li_43, li_44, li_45, li_46, li_47, li_48, li_49, li_50, li_51, li_52, li_53, li_54, li_55, li_56, li_57, li_58, li_59, li_60, li_63, li_64, li_72, li_76, li_77, li_91, li_93, li_96, li_97, li_99, li_108, li_109, li_120, li_122, li_150, li_200, li_255, li_400, li_426, li_600, li_900, li_999, li_1000, li_1002, li_1003, li_2000, li_2042, li_2043, li_2045, li_10000, li_32767, li_100000, li_1000000, li_m1, li_m1b, ob_s, lt1_e, se_l, se_r, if_true, if_false, true_and, and_true, false_and, and_false, st_at, i3_add, i3_mul, i3_sub, i3_lt, i3_le, i3_eq, i3_nat, m1_eqi, i3_eqm, m1_lti, m1_lei, i3_ltm, i3_lem, i3_decm, i3_dec0, nm_eqm, yr_eqm, mxor0, Nat.zero_add, if_pos, if_neg, eq_self, ne_eq, not_true_eq_false, not_false_eq_true, fX_Orders_step_L99]
theorem X_step (hm : m ≤ 5) (h : ORD 45 m f g) (hd : g 13 2 = i3 m) : (fiI f (m - 1) = 0 ∧ fX_Orders_step g = some (i3 0, g)) ∨ (fiI f (m - 1) ≠ 0 ∧ ∃ g', fX_Orders_step g = some (i3 1, g') ∧ ORD 45 m (nxF m f) g' ∧ ∀ p, p ≠ 45 → g' p = g p) := by
  by_cases m0 : m = 0
  · refine Or.inl ⟨by rw [m0]; rfl, ?_⟩
    have e0 : i3 m - i3 2 < i3 0 := by rw [m0]; decide
    have s : fX_Orders_step_L7 g (i3 m - i3 2) = some (.inr (i3 m - i3 2)) := by
      unfold fX_Orders_step_L7
      exact if_pos e0
    have s2 : lp (fX_Orders_step_L7 g) fuel (i3 m - i3 2) = some (i3 m - i3 2) := lp_inrF s
    have e1 : ¬ i3 0 ≤ i3 m - i3 2 := Int32.not_le.mpr e0
    simp (disch := (first | omega | assumption | trivial)) only [li_0, li_1, li_2, li_3, li_4, li_5, li_6, li_7, li_8, li_9, li_10, li_11, li_12, li_13, li_14, li_15, li_16, li_17, li_18, li_19, li_20, li_21, li_22, li_23, li_24, li_25, li_26, li_27, li_28, li_29, li_30, li_31, li_32, li_33, li_34, li_35, li_36, li_37, li_38, li_39, li_40, li_41, li_42, li_43, li_44, li_45, li_46, li_47, li_48, li_49, li_50, li_51, li_52, li_53, li_54, li_55, li_56, li_57, li_58, li_59, li_60, li_63, li_64, li_72, li_76, li_77, li_91, li_93, li_96, li_97, li_99, li_108, li_109, li_120, li_122, li_150, li_200, li_255, li_400, li_426, li_600, li_900, li_999, li_1000, li_1002, li_1003, li_2000, li_2042, li_2043, li_2045, li_10000, li_32767, li_100000, li_1000000, li_m1, li_m1b, ob_s, lt1_e, se_l, se_r, if_true, if_false, true_and, and_true, false_and, and_false, st_at, i3_add, i3_mul, i3_sub, i3_lt, i3_le, i3_eq, i3_nat, m1_eqi, i3_eqm, m1_lti, m1_lei, i3_ltm, i3_lem, i3_decm, i3_dec0, nm_eqm, yr_eqm, mxor0, Nat.zero_add, if_pos, if_neg, eq_self, ne_eq, not_true_eq_false, not_false_eq_true, fX_Orders_step, fX_Orders_step_b7, hd, s2, e1]
  · have e0 : i3 m - i3 2 = yr (m - 1) := by
      by_cases m1' : m = 1
      · rw [m1']; decide
      · rw [yr_s (by omega), i3_sub (by omega)]
        rfl
    have s := X_fi hm h (m - 1) fuel (by omega) (by rw [fuel_eq]; omega)
    by_cases q : fiI f (m - 1) = 0
    · refine Or.inl ⟨q, ?_⟩
      rw [q, yr_0] at s
      simp (disch := (first | omega | assumption | trivial)) only [li_0, li_1, li_2, li_3, li_4, li_5, li_6, li_7, li_8, li_9, li_10, li_11, li_12, li_13, li_14, li_15, li_16, li_17, li_18, li_19, li_20, li_21, li_22, li_23, li_24, li_25, li_26, li_27, li_28, li_29, li_30, li_31, li_32, li_33, li_34, li_35, li_36, li_37, li_38, li_39, li_40, li_41, li_42, li_43, li_44, li_45, li_46, li_47, li_48, li_49, li_50, li_51, li_52, li_53, li_54, li_55, li_56, li_57, li_58, li_59, li_60, li_63, li_64, li_72, li_76, li_77, li_91, li_93, li_96, li_97, li_99, li_108, li_109, li_120, li_122, li_150, li_200, li_255, li_400, li_426, li_600, li_900, li_999, li_1000, li_1002, li_1003, li_2000, li_2042, li_2043, li_2045, li_10000, li_32767, li_100000, li_1000000, li_m1, li_m1b, ob_s, lt1_e, se_l, se_r, if_true, if_false, true_and, and_true, false_and, and_false, st_at, i3_add, i3_mul, i3_sub, i3_lt, i3_le, i3_eq, i3_nat, m1_eqi, i3_eqm, m1_lti, m1_lei, i3_ltm, i3_lem, i3_decm, i3_dec0, nm_eqm, yr_eqm, mxor0, Nat.zero_add, if_pos, if_neg, eq_self, ne_eq, not_true_eq_false, not_false_eq_true, fX_Orders_step, fX_Orders_step_b7, hd, e0, s]
    · refine Or.inr ⟨q, ?_⟩
      have hle := fiI_le f (m - 1)
      have his := fiI_is f (m - 1) q
      rw [yr_s q] at s
      have hnx : nxF m f = rvN 3 (swp f (fiI f (m - 1) - 1) (fjI f (fiI f (m - 1) - 1) (m - 1))) (fiI f (m - 1)) (m - 1) := rfl
      generalize fiI f (m - 1) = w at *
      have hf : ¬ f (w - 1 + 1) < f (w - 1) := by rw [show w - 1 + 1 = w by omega]; exact his
      have s2 := X_fj hm h (i := w - 1) (by omega) hf (m - 1 - w) fuel (by omega) (by rw [fuel_eq]; omega)
      have hb := fjI_b hf (m - 1 - w)
      rw [show w - 1 + 1 + (m - 1 - w) = m - 1 by omega] at s2 hb
      generalize fjI f (w - 1) (m - 1) = j at *
      obtain ⟨g', e2, h2, f2⟩ := X_rv hm 3 w (m - 1) (swp f (w - 1) j) (st (st g 45 (w - 1) (g 45 j)) 45 j (g 45 (w - 1))) fuel (by omega) (by omega) (by omega) (h.swap (by omega) (by omega)) (by rw [fuel_eq]; omega)
      refine ⟨g', ?_, by rw [hnx]; exact h2, fun p hp => by rw [f2 p hp, st_ne hp, st_ne hp]⟩
      have e3 : w - 1 + 1 = w := by omega
      have e45 : st g 45 (w - 1) (g 45 j) 45 (w - 1) = g 45 j := st_eq _ _ _ _
      simp (disch := (first | omega | assumption | trivial)) only [li_0, li_1, li_2, li_3, li_4, li_5, li_6, li_7, li_8, li_9, li_10, li_11, li_12, li_13, li_14, li_15, li_16, li_17, li_18, li_19, li_20, li_21, li_22, li_23, li_24, li_25, li_26, li_27, li_28, li_29, li_30, li_31, li_32, li_33, li_34, li_35, li_36, li_37, li_38, li_39, li_40, li_41, li_42, li_43, li_44, li_45, li_46, li_47, li_48, li_49, li_50, li_51, li_52, li_53, li_54, li_55, li_56, li_57, li_58, li_59, li_60, li_63, li_64, li_72, li_76, li_77, li_91, li_93, li_96, li_97, li_99, li_108, li_109, li_120, li_122, li_150, li_200, li_255, li_400, li_426, li_600, li_900, li_999, li_1000, li_1002, li_1003, li_2000, li_2042, li_2043, li_2045, li_10000, li_32767, li_100000, li_1000000, li_m1, li_m1b, ob_s, lt1_e, se_l, se_r, if_true, if_false, true_and, and_true, false_and, and_false, st_at, i3_add, i3_mul, i3_sub, i3_lt, i3_le, i3_eq, i3_nat, m1_eqi, i3_eqm, m1_lti, m1_lei, i3_ltm, i3_lem, i3_decm, i3_dec0, nm_eqm, yr_eqm, mxor0, Nat.zero_add, if_pos, if_neg, eq_self, ne_eq, not_true_eq_false, not_false_eq_true, fX_Orders_step, fX_Orders_step_b7, fX_Orders_step_b51, fX_Orders_step_b99, hd, e0, s, s2, fX_Orders_swap, at45, pu45, e45, e3, e2]
end NX
/-- an order as a number -/
def dgA (f : Nat → Nat) (m : Nat) : Nat → Nat
  | 0 => 0
  | d + 1 => 8 * dgA f m d + f (m - 1 - d)
theorem M_digits {m : Nat} {f : Nat → Nat} {g : St} (hm : m ≤ 5) (h : ORD 23 m f g) (hd : g 0 45 = i3 m) : fM_digits g = some (i3 (dgA f m m)) := by
  have e : lp (fM_digits_L9 g) fuel (i3 0, yr m) = some (i3 (dgA f m m)) := by
    refine lp_cnt0 (fun k => (i3 (dgA f m k), yr (m - k))) (by show (i3 (dgA f m 0), yr (m - 0)) = _; rw [Nat.sub_zero]; rfl) m (by omega) (fun k hk => ?_) ?_
    · have h1 := (h (m - 1 - k) (by omega)).1
      show fM_digits_L9 g (i3 (dgA f m k), yr (m - k)) = some (.inl (i3 (8 * dgA f m k + f (m - 1 - k)), yr (m - (k + 1))))
      rw [yr_s (show m - k ≠ 0 by omega), show m - k - 1 = m - 1 - k by omega]
      by_cases q : m - (k + 1) = 0
      · have e1 : i3 (m - 1 - k) + m1 = m1 := by rw [show m - 1 - k = 0 by omega]; decide
        rw [q, yr_0]
        simp (disch := (first | omega | assumption | trivial)) only [li_0, li_1, li_2, li_3, li_4, li_5, li_6, li_7, li_8, li_9, li_10, li_11, li_12, li_13, li_14, li_15, li_16, li_17, li_18, li_19, li_20, li_21, li_22, li_23, li_24, li_25, li_26, li_27, li_28, li_29, li_30, li_31, li_32, li_33, li_34, li_35, li_36, li_37, li_38, li_39, li_40, li_41, li_42, li_43, li_44, li_45, li_46, li_47, li_48, li_49, li_50, li_51, li_52, li_53, li_54, li_55, li_56, li_57, li_58, li_59, li_60, li_63, li_64, li_72, li_76, li_77, li_91, li_93, li_96, li_97, li_99, li_108, li_109, li_120, li_122, li_150, li_200, li_255, li_400, li_426, li_600, li_900, li_999, li_1000, li_1002, li_1003, li_2000, li_2042, li_2043, li_2045, li_10000, li_32767, li_100000, li_1000000, li_m1, li_m1b, ob_s, lt1_e, se_l, se_r, if_true, if_false, true_and, and_true, false_and, and_false, st_at, i3_add, i3_mul, i3_sub, i3_lt, i3_le, i3_eq, i3_nat, m1_eqi, i3_eqm, m1_lti, m1_lei, i3_ltm, i3_lem, i3_decm, i3_dec0, nm_eqm, yr_eqm, mxor0, Nat.zero_add, if_pos, if_neg, eq_self, ne_eq, not_true_eq_false, not_false_eq_true, fM_digits_L9, h1, e1]
      · rw [yr_s q, show m - (k + 1) - 1 = m - 1 - k - 1 by omega]
        simp (disch := (first | omega | assumption | trivial)) only [li_0, li_1, li_2, li_3, li_4, li_5, li_6, li_7, li_8, li_9, li_10, li_11, li_12, li_13, li_14, li_15, li_16, li_17, li_18, li_19, li_20, li_21, li_22, li_23, li_24, li_25, li_26, li_27, li_28, li_29, li_30, li_31, li_32, li_33, li_34, li_35, li_36, li_37, li_38, li_39, li_40, li_41, li_42, li_43, li_44, li_45, li_46, li_47, li_48, li_49, li_50, li_51, li_52, li_53, li_54, li_55, li_56, li_57, li_58, li_59, li_60, li_63, li_64, li_72, li_76, li_77, li_91, li_93, li_96, li_97, li_99, li_108, li_109, li_120, li_122, li_150, li_200, li_255, li_400, li_426, li_600, li_900, li_999, li_1000, li_1002, li_1003, li_2000, li_2042, li_2043, li_2045, li_10000, li_32767, li_100000, li_1000000, li_m1, li_m1b, ob_s, lt1_e, se_l, se_r, if_true, if_false, true_and, and_true, false_and, and_false, st_at, i3_add, i3_mul, i3_sub, i3_lt, i3_le, i3_eq, i3_nat, m1_eqi, i3_eqm, m1_lti, m1_lei, i3_ltm, i3_lem, i3_decm, i3_dec0, nm_eqm, yr_eqm, mxor0, Nat.zero_add, if_pos, if_neg, eq_self, ne_eq, not_true_eq_false, not_false_eq_true, fM_digits_L9, h1]
    · show fM_digits_L9 g (i3 (dgA f m m), yr (m - m)) = _
      rw [Nat.sub_self, yr_0]
      simp (disch := (first | omega | assumption | trivial)) only [li_0, li_1, li_2, li_3, li_4, li_5, li_6, li_7, li_8, li_9, li_10, li_11, li_12, li_13, li_14, li_15, li_16, li_17, li_18, li_19, li_20, li_21, li_22, li_23, li_24, li_25, li_26, li_27, li_28, li_29, li_30, li_31, li_32, li_33, li_34, li_35, li_36, li_37, li_38, li_39, li_40, li_41, li_42, li_43, li_44, li_45, li_46, li_47, li_48, li_49, li_50, li_51, li_52, li_53, li_54, li_55, li_56, li_57, li_58, li_59, li_60, li_63, li_64, li_72, li_76, li_77, li_91, li_93, li_96, li_97, li_99, li_108, li_109, li_120, li_122, li_150, li_200, li_255, li_400, li_426, li_600, li_900, li_999, li_1000, li_1002, li_1003, li_2000, li_2042, li_2043, li_2045, li_10000, li_32767, li_100000, li_1000000, li_m1, li_m1b, ob_s, lt1_e, se_l, se_r, if_true, if_false, true_and, and_true, false_and, and_false, st_at, i3_add, i3_mul, i3_sub, i3_lt, i3_le, i3_eq, i3_nat, m1_eqi, i3_eqm, m1_lti, m1_lei, i3_ltm, i3_lem, i3_decm, i3_dec0, nm_eqm, yr_eqm, mxor0, Nat.zero_add, if_pos, if_neg, eq_self, ne_eq, not_true_eq_false, not_false_eq_true, fM_digits_L9]
  have e0 : i3 m - i3 1 = yr m := by
    by_cases m0 : m = 0
    · rw [m0]; decide
    · rw [yr_s m0, i3_sub (by omega)]
  simp (disch := (first | omega | assumption | trivial)) only [li_0, li_1, li_2, li_3, li_4, li_5, li_6, li_7, li_8, li_9, li_10, li_11, li_12, li_13, li_14, li_15, li_16, li_17, li_18, li_19, li_20, li_21, li_22, li_23, li_24, li_25, li_26, li_27, li_28, li_29, li_30, li_31, li_32, li_33, li_34, li_35, li_36, li_37, li_38, li_39, li_40, li_41, li_42, li_43, li_44, li_45, li_46, li_47, li_48, li_49, li_50, li_51, li_52, li_53, li_54, li_55, li_56, li_57, li_58, li_59, li_60, li_63, li_64, li_72, li_76, li_77, li_91, li_93, li_96, li_97, li_99, li_108, li_109, li_120, li_122, li_150, li_200, li_255, li_400, li_426, li_600, li_900, li_999, li_1000, li_1002, li_1003, li_2000, li_2042, li_2043, li_2045, li_10000, li_32767, li_100000, li_1000000, li_m1, li_m1b, ob_s, lt1_e, se_l, se_r, if_true, if_false, true_and, and_true, false_and, and_false, st_at, i3_add, i3_mul, i3_sub, i3_lt, i3_le, i3_eq, i3_nat, m1_eqi, i3_eqm, m1_lti, m1_lei, i3_ltm, i3_lem, i3_decm, i3_dec0, nm_eqm, yr_eqm, mxor0, Nat.zero_add, if_pos, if_neg, eq_self, ne_eq, not_true_eq_false, not_false_eq_true, fM_digits, fM_digits_b9, hd, e0, e]
theorem X_digits {m : Nat} {f : Nat → Nat} {g : St} (hm : m ≤ 5) (h : ORD 45 m f g) (hd : g 13 2 = i3 m) : fX_Orders_digits g = some (i3 (dgA f m m)) := by
  have e : lp (fX_Orders_digits_L9 g) fuel (i3 0, yr m) = some (i3 (dgA f m m)) := by
    refine lp_cnt0 (fun k => (i3 (dgA f m k), yr (m - k))) (by show (i3 (dgA f m 0), yr (m - 0)) = _; rw [Nat.sub_zero]; rfl) m (by omega) (fun k hk => ?_) ?_
    · have h1 := (h (m - 1 - k) (by omega)).1
      show fX_Orders_digits_L9 g (i3 (dgA f m k), yr (m - k)) = some (.inl (i3 (8 * dgA f m k + f (m - 1 - k)), yr (m - (k + 1))))
      rw [yr_s (show m - k ≠ 0 by omega), show m - k - 1 = m - 1 - k by omega, Nat.mul_comm 8]
      by_cases q : m - (k + 1) = 0
      · have e1 : i3 (m - 1 - k) + m1 = m1 := by rw [show m - 1 - k = 0 by omega]; decide
        rw [q, yr_0]
        simp (disch := (first | omega | assumption | trivial)) only [li_0, li_1, li_2, li_3, li_4, li_5, li_6, li_7, li_8, li_9, li_10, li_11, li_12, li_13, li_14, li_15, li_16, li_17, li_18, li_19, li_20, li_21, li_22, li_23, li_24, li_25, li_26, li_27, li_28, li_29, li_30, li_31, li_32, li_33, li_34, li_35, li_36, li_37, li_38, li_39, li_40, li_41, li_42, li_43, li_44, li_45, li_46, li_47, li_48, li_49, li_50, li_51, li_52, li_53, li_54, li_55, li_56, li_57, li_58, li_59, li_60, li_63, li_64, li_72, li_76, li_77, li_91, li_93, li_96, li_97, li_99, li_108, li_109, li_120, li_122, li_150, li_200, li_255, li_400, li_426, li_600, li_900, li_999, li_1000, li_1002, li_1003, li_2000, li_2042, li_2043, li_2045, li_10000, li_32767, li_100000, li_1000000, li_m1, li_m1b, ob_s, lt1_e, se_l, se_r, if_true, if_false, true_and, and_true, false_and, and_false, st_at, i3_add, i3_mul, i3_sub, i3_lt, i3_le, i3_eq, i3_nat, m1_eqi, i3_eqm, m1_lti, m1_lei, i3_ltm, i3_lem, i3_decm, i3_dec0, nm_eqm, yr_eqm, mxor0, Nat.zero_add, if_pos, if_neg, eq_self, ne_eq, not_true_eq_false, not_false_eq_true, fX_Orders_digits_L9, at45, h1, e1]
      · rw [yr_s q, show m - (k + 1) - 1 = m - 1 - k - 1 by omega]
        simp (disch := (first | omega | assumption | trivial)) only [li_0, li_1, li_2, li_3, li_4, li_5, li_6, li_7, li_8, li_9, li_10, li_11, li_12, li_13, li_14, li_15, li_16, li_17, li_18, li_19, li_20, li_21, li_22, li_23, li_24, li_25, li_26, li_27, li_28, li_29, li_30, li_31, li_32, li_33, li_34, li_35, li_36, li_37, li_38, li_39, li_40, li_41, li_42, li_43, li_44, li_45, li_46, li_47, li_48, li_49, li_50, li_51, li_52, li_53, li_54, li_55, li_56, li_57, li_58, li_59, li_60, li_63, li_64, li_72, li_76, li_77, li_91, li_93, li_96, li_97, li_99, li_108, li_109, li_120, li_122, li_150, li_200, li_255, li_400, li_426, li_600, li_900, li_999, li_1000, li_1002, li_1003, li_2000, li_2042, li_2043, li_2045, li_10000, li_32767, li_100000, li_1000000, li_m1, li_m1b, ob_s, lt1_e, se_l, se_r, if_true, if_false, true_and, and_true, false_and, and_false, st_at, i3_add, i3_mul, i3_sub, i3_lt, i3_le, i3_eq, i3_nat, m1_eqi, i3_eqm, m1_lti, m1_lei, i3_ltm, i3_lem, i3_decm, i3_dec0, nm_eqm, yr_eqm, mxor0, Nat.zero_add, if_pos, if_neg, eq_self, ne_eq, not_true_eq_false, not_false_eq_true, fX_Orders_digits_L9, at45, h1]
    · show fX_Orders_digits_L9 g (i3 (dgA f m m), yr (m - m)) = _
      rw [Nat.sub_self, yr_0]
      simp (disch := (first | omega | assumption | trivial)) only [li_0, li_1, li_2, li_3, li_4, li_5, li_6, li_7, li_8, li_9, li_10, li_11, li_12, li_13, li_14, li_15, li_16, li_17, li_18, li_19, li_20, li_21, li_22, li_23, li_24, li_25, li_26, li_27, li_28, li_29, li_30, li_31, li_32, li_33, li_34, li_35, li_36, li_37, li_38, li_39, li_40, li_41, li_42, li_43, li_44, li_45, li_46, li_47, li_48, li_49, li_50, li_51, li_52, li_53, li_54, li_55, li_56, li_57, li_58, li_59, li_60, li_63, li_64, li_72, li_76, li_77, li_91, li_93, li_96, li_97, li_99, li_108, li_109, li_120, li_122, li_150, li_200, li_255, li_400, li_426, li_600, li_900, li_999, li_1000, li_1002, li_1003, li_2000, li_2042, li_2043, li_2045, li_10000, li_32767, li_100000, li_1000000, li_m1, li_m1b, ob_s, lt1_e, se_l, se_r, if_true, if_false, true_and, and_true, false_and, and_false, st_at, i3_add, i3_mul, i3_sub, i3_lt, i3_le, i3_eq, i3_nat, m1_eqi, i3_eqm, m1_lti, m1_lei, i3_ltm, i3_lem, i3_decm, i3_dec0, nm_eqm, yr_eqm, mxor0, Nat.zero_add, if_pos, if_neg, eq_self, ne_eq, not_true_eq_false, not_false_eq_true, fX_Orders_digits_L9]
  have e0 : i3 m - i3 1 = yr m := by
    by_cases m0 : m = 0
    · rw [m0]; decide
    · rw [yr_s m0, i3_sub (by omega)]
  simp (disch := (first | omega | assumption | trivial)) only [li_0, li_1, li_2, li_3, li_4, li_5, li_6, li_7, li_8, li_9, li_10, li_11, li_12, li_13, li_14, li_15, li_16, li_17, li_18, li_19, li_20, li_21, li_22, li_23, li_24, li_25, li_26, li_27, li_28, li_29, li_30, li_31, li_32, li_33, li_34, li_35, li_36, li_37, li_38, li_39, li_40, li_41, li_42, li_43, li_44, li_45, li_46, li_47, li_48, li_49, li_50, li_51, li_52, li_53, li_54, li_55, li_56, li_57, li_58, li_59, li_60, li_63, li_64, li_72, li_76, li_77, li_91, li_93, li_96, li_97, li_99, li_108, li_109, li_120, li_122, li_150, li_200, li_255, li_400, li_426, li_600, li_900, li_999, li_1000, li_1002, li_1003, li_2000, li_2042, li_2043, li_2045, li_10000, li_32767, li_100000, li_1000000, li_m1, li_m1b, ob_s, lt1_e, se_l, se_r, if_true, if_false, true_and, and_true, false_and, and_false, st_at, i3_add, i3_mul, i3_sub, i3_lt, i3_le, i3_eq, i3_nat, m1_eqi, i3_eqm, m1_lti, m1_lei, i3_ltm, i3_lem, i3_decm, i3_dec0, nm_eqm, yr_eqm, mxor0, Nat.zero_add, if_pos, if_neg, eq_self, ne_eq, not_true_eq_false, not_false_eq_true, fX_Orders_digits, fX_Orders_digits_b9, hd, e0, e]
