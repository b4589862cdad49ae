/-! PURE: how likely enough come home, asked -/
section HY
variable {n2 q w v : Nat} {g : St} {x : Sl}
theorem weighX (hq : q ≤ 16) (hn : n2 ≤ 12) (x : Sl) : ∃ x', fX_weighNames (i3 n2) (i3 q) g x = some x' ∧ ∀ j, j < 13 → x' 15 j = i6 (wN q n2 j) := by
  obtain ⟨y0, e0, h0⟩ := initX (q := q) (g := g) (i3 n2) (i3 q) x
  obtain ⟨y1, e1, h1⟩ : ∃ y1, lp (fX_weighNames_L34 (i3 n2) (i3 q) g) fuel (i3 0, y0) = some y1 ∧ ∀ j, j < 13 → y1 15 j = i6 (wN q n2 j) := by
    refine lp_all (fun k z => ∃ y : Sl, z = (i3 k, y) ∧ ∀ j, j < 13 → y 15 j = i6 (wN q k j)) (fun y : Sl => ∀ j, j < 13 → y 15 j = i6 (wN q n2 j)) n2 (by omega) ?_ ?_ ⟨y0, rfl, h0⟩
    · rintro k z hk ⟨y, rfl, hy⟩
      obtain ⟨y2, e2, h2⟩ := rowHX (g := g) hq (i3 n2) (i3 k) hy
      refine ⟨(i3 (k + 1), y2), ?_, _, rfl, h2⟩
      simp (disch := (first | omega | assumption | trivial)) only [li_0, li_1, li_2, li_3, li_4, li_5, li_6, li_7, li_8, li_9, li_10, li_11, li_12, li_13, li_14, li_15, li_16, li_17, li_18, li_19, li_20, li_21, li_22, li_23, li_24, li_25, li_26, li_27, li_28, li_29, li_30, li_31, li_32, li_33, li_34, li_35, li_36, li_37, li_38, li_39, li_40, li_41, li_42, li_43, li_44, li_45, li_46, li_47, li_48, li_49, li_50, li_51, li_52, li_53, li_54, li_55, li_56, li_57, li_58, li_59, li_60, li_63, li_64, li_72, li_76, li_77, li_91, li_93, li_96, li_97, li_99, li_108, li_109, li_120, li_122, li_150, li_200, li_255, li_400, li_426, li_600, li_900, li_999, li_1000, li_1002, li_1003, li_2000, li_2042, li_2043, li_2045, li_10000, li_32767, li_100000, li_1000000, li_m1, li_m1b, ob_s, lt1_e, se_l, se_r, if_true, if_false, true_and, and_true, false_and, and_false, st_at, i3_add, i3_mul, i3_sub, i3_lt, i3_le, i3_eq, i3_nat, m1_eqi, i3_eqm, m1_lti, m1_lei, i3_ltm, i3_lem, i3_decm, i3_dec0, nm_eqm, yr_eqm, mxor0, Nat.zero_add, if_pos, if_neg, eq_self, ne_eq, not_true_eq_false, not_false_eq_true, fX_weighNames_L34, fX_weighNames_b48, e2]
    · rintro z ⟨y, rfl, hy⟩
      refine ⟨y, ?_, hy⟩
      simp (disch := (first | omega | assumption | trivial)) only [li_0, li_1, li_2, li_3, li_4, li_5, li_6, li_7, li_8, li_9, li_10, li_11, li_12, li_13, li_14, li_15, li_16, li_17, li_18, li_19, li_20, li_21, li_22, li_23, li_24, li_25, li_26, li_27, li_28, li_29, li_30, li_31, li_32, li_33, li_34, li_35, li_36, li_37, li_38, li_39, li_40, li_41, li_42, li_43, li_44, li_45, li_46, li_47, li_48, li_49, li_50, li_51, li_52, li_53, li_54, li_55, li_56, li_57, li_58, li_59, li_60, li_63, li_64, li_72, li_76, li_77, li_91, li_93, li_96, li_97, li_99, li_108, li_109, li_120, li_122, li_150, li_200, li_255, li_400, li_426, li_600, li_900, li_999, li_1000, li_1002, li_1003, li_2000, li_2042, li_2043, li_2045, li_10000, li_32767, li_100000, li_1000000, li_m1, li_m1b, ob_s, lt1_e, se_l, se_r, if_true, if_false, true_and, and_true, false_and, and_false, st_at, i3_add, i3_mul, i3_sub, i3_lt, i3_le, i3_eq, i3_nat, m1_eqi, i3_eqm, m1_lti, m1_lei, i3_ltm, i3_lem, i3_decm, i3_dec0, nm_eqm, yr_eqm, mxor0, Nat.zero_add, if_pos, if_neg, eq_self, ne_eq, not_true_eq_false, not_false_eq_true, fX_weighNames_L34]
  refine ⟨y1, ?_, h1⟩
  simp (disch := (first | omega | assumption | trivial)) only [li_0, li_1, li_2, li_3, li_4, li_5, li_6, li_7, li_8, li_9, li_10, li_11, li_12, li_13, li_14, li_15, li_16, li_17, li_18, li_19, li_20, li_21, li_22, li_23, li_24, li_25, li_26, li_27, li_28, li_29, li_30, li_31, li_32, li_33, li_34, li_35, li_36, li_37, li_38, li_39, li_40, li_41, li_42, li_43, li_44, li_45, li_46, li_47, li_48, li_49, li_50, li_51, li_52, li_53, li_54, li_55, li_56, li_57, li_58, li_59, li_60, li_63, li_64, li_72, li_76, li_77, li_91, li_93, li_96, li_97, li_99, li_108, li_109, li_120, li_122, li_150, li_200, li_255, li_400, li_426, li_600, li_900, li_999, li_1000, li_1002, li_1003, li_2000, li_2042, li_2043, li_2045, li_10000, li_32767, li_100000, li_1000000, li_m1, li_m1b, ob_s, lt1_e, se_l, se_r, if_true, if_false, true_and, and_true, false_and, and_false, st_at, i3_add, i3_mul, i3_sub, i3_lt, i3_le, i3_eq, i3_nat, m1_eqi, i3_eqm, m1_lti, m1_lei, i3_ltm, i3_lem, i3_decm, i3_dec0, nm_eqm, yr_eqm, mxor0, Nat.zero_add, if_pos, if_neg, eq_self, ne_eq, not_true_eq_false, not_false_eq_true, fX_weighNames, fX_weighNames_b2, e0, fX_weighNames_b34, e1]
theorem weighM (hq : q ≤ 16) (hn : n2 ≤ 12) (x2 x4 : Int32) (x : Sl) : ∃ y0 x', lp (fM_home_L64 (i3 n2) x2 (i3 q) x4 g) fuel (i3 0, x) = some y0 ∧ lp (fM_home_L97 (i3 n2) x2 (i3 q) x4 g) fuel (i3 0, y0) = some x' ∧ ∀ j, j < 14 → x' 25 j = i6 (wN q n2 j) := by
  obtain ⟨y0, e0, h0⟩ := initM (q := q) (g := g) (i3 n2) x2 (i3 q) x4 x
  obtain ⟨y1, e1, h1⟩ : ∃ y1, lp (fM_home_L97 (i3 n2) x2 (i3 q) x4 g) fuel (i3 0, y0) = some y1 ∧ ∀ j, j < 14 → y1 25 j = i6 (wN q n2 j) := by
    refine lp_all (fun k z => ∃ y : Sl, z = (i3 k, y) ∧ ∀ j, j < 14 → y 25 j = i6 (wN q k j)) (fun y : Sl => ∀ j, j < 14 → y 25 j = i6 (wN q n2 j)) n2 (by omega) ?_ ?_ ⟨y0, rfl, h0⟩
    · rintro k z hk ⟨y, rfl, hy⟩
      obtain ⟨y2, e2, h2⟩ := rowHM (g := g) hq (i3 n2) x2 x4 (i3 k) hy
      refine ⟨(i3 (k + 1), y2), ?_, _, rfl, h2⟩
      simp (disch := (first | omega | assumption | trivial)) only [li_0, li_1, li_2, li_3, li_4, li_5, li_6, li_7, li_8, li_9, li_10, li_11, li_12, li_13, li_14, li_15, li_16, li_17, li_18, li_19, li_20, li_21, li_22, li_23, li_24, li_25, li_26, li_27, li_28, li_29, li_30, li_31, li_32, li_33, li_34, li_35, li_36, li_37, li_38, li_39, li_40, li_41, li_42, li_43, li_44, li_45, li_46, li_47, li_48, li_49, li_50, li_51, li_52, li_53, li_54, li_55, li_56, li_57, li_58, li_59, li_60, li_63, li_64, li_72, li_76, li_77, li_91, li_93, li_96, li_97, li_99, li_108, li_109, li_120, li_122, li_150, li_200, li_255, li_400, li_426, li_600, li_900, li_999, li_1000, li_1002, li_1003, li_2000, li_2042, li_2043, li_2045, li_10000, li_32767, li_100000, li_1000000, li_m1, li_m1b, ob_s, lt1_e, se_l, se_r, if_true, if_false, true_and, and_true, false_and, and_false, st_at, i3_add, i3_mul, i3_sub, i3_lt, i3_le, i3_eq, i3_nat, m1_eqi, i3_eqm, m1_lti, m1_lei, i3_ltm, i3_lem, i3_decm, i3_dec0, nm_eqm, yr_eqm, mxor0, Nat.zero_add, if_pos, if_neg, eq_self, ne_eq, not_true_eq_false, not_false_eq_true, fM_home_L97, fM_home_b107, e2]
    · rintro z ⟨y, rfl, hy⟩
      refine ⟨y, ?_, hy⟩
      simp (disch := (first | omega | assumption | trivial)) only [li_0, li_1, li_2, li_3, li_4, li_5, li_6, li_7, li_8, li_9, li_10, li_11, li_12, li_13, li_14, li_15, li_16, li_17, li_18, li_19, li_20, li_21, li_22, li_23, li_24, li_25, li_26, li_27, li_28, li_29, li_30, li_31, li_32, li_33, li_34, li_35, li_36, li_37, li_38, li_39, li_40, li_41, li_42, li_43, li_44, li_45, li_46, li_47, li_48, li_49, li_50, li_51, li_52, li_53, li_54, li_55, li_56, li_57, li_58, li_59, li_60, li_63, li_64, li_72, li_76, li_77, li_91, li_93, li_96, li_97, li_99, li_108, li_109, li_120, li_122, li_150, li_200, li_255, li_400, li_426, li_600, li_900, li_999, li_1000, li_1002, li_1003, li_2000, li_2042, li_2043, li_2045, li_10000, li_32767, li_100000, li_1000000, li_m1, li_m1b, ob_s, lt1_e, se_l, se_r, if_true, if_false, true_and, and_true, false_and, and_false, st_at, i3_add, i3_mul, i3_sub, i3_lt, i3_le, i3_eq, i3_nat, m1_eqi, i3_eqm, m1_lti, m1_lei, i3_ltm, i3_lem, i3_decm, i3_dec0, nm_eqm, yr_eqm, mxor0, Nat.zero_add, if_pos, if_neg, eq_self, ne_eq, not_true_eq_false, not_false_eq_true, fM_home_L97]
  exact ⟨y0, y1, e0, e1, h1⟩
theorem sumX (hn : n2 ≤ 12) (hw : w ≤ 13) (x4 : Int32) (hx : ∀ j, j < 13 → x 15 j = i6 (wN q n2 j)) : lp (fX_home_L71 (i3 n2) x4 g x) fuel (0, i3 w) = some (i6 (tW (wN q n2) w (n2 + 1 - w))) := by
  obtain ⟨z, e, hz⟩ : ∃ z : Int64, lp (fX_home_L71 (i3 n2) x4 g x) fuel (0, i3 w) = some z ∧ z = i6 (tW (wN q n2) w (n2 + 1 - w)) := by
    refine lp_all (fun k z => z = (i6 (tW (wN q n2) w k), i3 (w + k))) (fun z : Int64 => z = i6 (tW (wN q n2) w (n2 + 1 - w))) (n2 + 1 - w) (by omega) ?_ ?_ rfl
    · rintro k z hk rfl
      refine ⟨_, ?_, rfl⟩
      have h1 := hx (w + k) (by omega)
      have h2 : i6 (tW (wN q n2) w k) + i6 (wN q n2 (w + k)) = i6 (tW (wN q n2) w (k + 1)) := i6_add _ _
      have h3 : w + k + 1 = w + (k + 1) := by omega
      simp (disch := (first | omega | assumption | trivial)) only [li_0, li_1, li_2, li_3, li_4, li_5, li_6, li_7, li_8, li_9, li_10, li_11, li_12, li_13, li_14, li_15, li_16, li_17, li_18, li_19, li_20, li_21, li_22, li_23, li_24, li_25, li_26, li_27, li_28, li_29, li_30, li_31, li_32, li_33, li_34, li_35, li_36, li_37, li_38, li_39, li_40, li_41, li_42, li_43, li_44, li_45, li_46, li_47, li_48, li_49, li_50, li_51, li_52, li_53, li_54, li_55, li_56, li_57, li_58, li_59, li_60, li_63, li_64, li_72, li_76, li_77, li_91, li_93, li_96, li_97, li_99, li_108, li_109, li_120, li_122, li_150, li_200, li_255, li_400, li_426, li_600, li_900, li_999, li_1000, li_1002, li_1003, li_2000, li_2042, li_2043, li_2045, li_10000, li_32767, li_100000, li_1000000, li_m1, li_m1b, ob_s, lt1_e, se_l, se_r, if_true, if_false, true_and, and_true, false_and, and_false, st_at, i3_add, i3_mul, i3_sub, i3_lt, i3_le, i3_eq, i3_nat, m1_eqi, i3_eqm, m1_lti, m1_lei, i3_ltm, i3_lem, i3_decm, i3_dec0, nm_eqm, yr_eqm, mxor0, Nat.zero_add, if_pos, if_neg, eq_self, ne_eq, not_true_eq_false, not_false_eq_true, fX_home_L71, h1, h2, h3]
    · rintro z rfl
      refine ⟨_, ?_, rfl⟩
      by_cases q0 : n2 < w
      · rw [show n2 + 1 - w = 0 by omega]
        simp (disch := (first | omega | assumption | trivial)) only [li_0, li_1, li_2, li_3, li_4, li_5, li_6, li_7, li_8, li_9, li_10, li_11, li_12, li_13, li_14, li_15, li_16, li_17, li_18, li_19, li_20, li_21, li_22, li_23, li_24, li_25, li_26, li_27, li_28, li_29, li_30, li_31, li_32, li_33, li_34, li_35, li_36, li_37, li_38, li_39, li_40, li_41, li_42, li_43, li_44, li_45, li_46, li_47, li_48, li_49, li_50, li_51, li_52, li_53, li_54, li_55, li_56, li_57, li_58, li_59, li_60, li_63, li_64, li_72, li_76, li_77, li_91, li_93, li_96, li_97, li_99, li_108, li_109, li_120, li_122, li_150, li_200, li_255, li_400, li_426, li_600, li_900, li_999, li_1000, li_1002, li_1003, li_2000, li_2042, li_2043, li_2045, li_10000, li_32767, li_100000, li_1000000, li_m1, li_m1b, ob_s, lt1_e, se_l, se_r, if_true, if_false, true_and, and_true, false_and, and_false, st_at, i3_add, i3_mul, i3_sub, i3_lt, i3_le, i3_eq, i3_nat, m1_eqi, i3_eqm, m1_lti, m1_lei, i3_ltm, i3_lem, i3_decm, i3_dec0, nm_eqm, yr_eqm, mxor0, Nat.zero_add, if_pos, if_neg, eq_self, ne_eq, not_true_eq_false, not_false_eq_true, fX_home_L71, Nat.add_zero]
      · rw [show w + (n2 + 1 - w) = n2 + 1 by omega]
        simp (disch := (first | omega | assumption | trivial)) only [li_0, li_1, li_2, li_3, li_4, li_5, li_6, li_7, li_8, li_9, li_10, li_11, li_12, li_13, li_14, li_15, li_16, li_17, li_18, li_19, li_20, li_21, li_22, li_23, li_24, li_25, li_26, li_27, li_28, li_29, li_30, li_31, li_32, li_33, li_34, li_35, li_36, li_37, li_38, li_39, li_40, li_41, li_42, li_43, li_44, li_45, li_46, li_47, li_48, li_49, li_50, li_51, li_52, li_53, li_54, li_55, li_56, li_57, li_58, li_59, li_60, li_63, li_64, li_72, li_76, li_77, li_91, li_93, li_96, li_97, li_99, li_108, li_109, li_120, li_122, li_150, li_200, li_255, li_400, li_426, li_600, li_900, li_999, li_1000, li_1002, li_1003, li_2000, li_2042, li_2043, li_2045, li_10000, li_32767, li_100000, li_1000000, li_m1, li_m1b, ob_s, lt1_e, se_l, se_r, if_true, if_false, true_and, and_true, false_and, and_false, st_at, i3_add, i3_mul, i3_sub, i3_lt, i3_le, i3_eq, i3_nat, m1_eqi, i3_eqm, m1_lti, m1_lei, i3_ltm, i3_lem, i3_decm, i3_dec0, nm_eqm, yr_eqm, mxor0, Nat.zero_add, if_pos, if_neg, eq_self, ne_eq, not_true_eq_false, not_false_eq_true, fX_home_L71]
  rw [hz] at e
  exact e
theorem sumM (hw : w ≤ 13) (x4 : Int32) (y : Int64) (hx : ∀ j, j < 14 → x 25 j = i6 (wN q n2 j)) : lp (fM_home_L179 x4 y g x) fuel (0, i3 w) = some (i6 (tW (wN q n2) w (14 - w))) := by
  obtain ⟨z, e, hz⟩ : ∃ z : Int64, lp (fM_home_L179 x4 y g x) fuel (0, i3 w) = some z ∧ z = i6 (tW (wN q n2) w (14 - w)) := by
    refine lp_all (fun k z => z = (i6 (tW (wN q n2) w k), i3 (w + k))) (fun z : Int64 => z = i6 (tW (wN q n2) w (14 - w))) (14 - w) (by omega) ?_ ?_ rfl
    · rintro k z hk rfl
      refine ⟨_, ?_, rfl⟩
      have h1 := hx (w + k) (by omega)
      have h2 : i6 (tW (wN q n2) w k) + i6 (wN q n2 (w + k)) = i6 (tW (wN q n2) w (k + 1)) := i6_add _ _
      have h3 : w + k + 1 = w + (k + 1) := by omega
      simp (disch := (first | omega | assumption | trivial)) only [li_0, li_1, li_2, li_3, li_4, li_5, li_6, li_7, li_8, li_9, li_10, li_11, li_12, li_13, li_14, li_15, li_16, li_17, li_18, li_19, li_20, li_21, li_22, li_23, li_24, li_25, li_26, li_27, li_28, li_29, li_30, li_31, li_32, li_33, li_34, li_35, li_36, li_37, li_38, li_39, li_40, li_41, li_42, li_43, li_44, li_45, li_46, li_47, li_48, li_49, li_50, li_51, li_52, li_53, li_54, li_55, li_56, li_57, li_58, li_59, li_60, li_63, li_64, li_72, li_76, li_77, li_91, li_93, li_96, li_97, li_99, li_108, li_109, li_120, li_122, li_150, li_200, li_255, li_400, li_426, li_600, li_900, li_999, li_1000, li_1002, li_1003, li_2000, li_2042, li_2043, li_2045, li_10000, li_32767, li_100000, li_1000000, li_m1, li_m1b, ob_s, lt1_e, se_l, se_r, if_true, if_false, true_and, and_true, false_and, and_false, st_at, i3_add, i3_mul, i3_sub, i3_lt, i3_le, i3_eq, i3_nat, m1_eqi, i3_eqm, m1_lti, m1_lei, i3_ltm, i3_lem, i3_decm, i3_dec0, nm_eqm, yr_eqm, mxor0, Nat.zero_add, if_pos, if_neg, eq_self, ne_eq, not_true_eq_false, not_false_eq_true, fM_home_L179, h1, h2, h3]
    · rintro z rfl
      refine ⟨_, ?_, rfl⟩
      rw [show w + (14 - w) = 14 by omega]
      simp (disch := (first | omega | assumption | trivial)) only [li_0, li_1, li_2, li_3, li_4, li_5, li_6, li_7, li_8, li_9, li_10, li_11, li_12, li_13, li_14, li_15, li_16, li_17, li_18, li_19, li_20, li_21, li_22, li_23, li_24, li_25, li_26, li_27, li_28, li_29, li_30, li_31, li_32, li_33, li_34, li_35, li_36, li_37, li_38, li_39, li_40, li_41, li_42, li_43, li_44, li_45, li_46, li_47, li_48, li_49, li_50, li_51, li_52, li_53, li_54, li_55, li_56, li_57, li_58, li_59, li_60, li_63, li_64, li_72, li_76, li_77, li_91, li_93, li_96, li_97, li_99, li_108, li_109, li_120, li_122, li_150, li_200, li_255, li_400, li_426, li_600, li_900, li_999, li_1000, li_1002, li_1003, li_2000, li_2042, li_2043, li_2045, li_10000, li_32767, li_100000, li_1000000, li_m1, li_m1b, ob_s, lt1_e, se_l, se_r, if_true, if_false, true_and, and_true, false_and, and_false, st_at, i3_add, i3_mul, i3_sub, i3_lt, i3_le, i3_eq, i3_nat, m1_eqi, i3_eqm, m1_lti, m1_lei, i3_ltm, i3_lem, i3_decm, i3_dec0, nm_eqm, yr_eqm, mxor0, Nat.zero_add, if_pos, if_neg, eq_self, ne_eq, not_true_eq_false, not_false_eq_true, fM_home_L179]
  rw [hz] at e
  exact e
theorem pw : ∀ k, k ≤ 12 → (1 : Int64) <<< ((i3 4 * i3 k).toInt64 &&& 63) = i6 (2 ^ (4 * k)) := by
  intro k hk
  rcases (show k = 0 ∨ k = 1 ∨ k = 2 ∨ k = 3 ∨ k = 4 ∨ k = 5 ∨ k = 6 ∨ k = 7 ∨ k = 8 ∨ k = 9 ∨ k = 10 ∨ k = 11 ∨ k = 12 by omega) with rfl | rfl | rfl | rfl | rfl | rfl | rfl | rfl | rfl | rfl | rfl | rfl | rfl <;> decide +kernel
theorem homeX (hq : q ≤ 16) (hn : n2 ≤ 12) (hw : w ≤ 13) (hv : v ≤ 1) (g : St) (x : Sl) : ∃ x', fX_home_b56 (i3 n2) (i3 w) (i3 q) (i3 v) (i3 1) g x = some (.inr (i6 (if v = 0 then tW (wN q n2) w (n2 + 1 - w) / Nat.gcd (2 ^ (4 * n2)) (tW (wN q n2) w (n2 + 1 - w)) else 2 ^ (4 * n2) / Nat.gcd (2 ^ (4 * n2)) (tW (wN q n2) w (n2 + 1 - w)))), g, x') := by
  obtain ⟨x', e1, h1⟩ := weighX (g := g) hq hn x
  have e2 := sumX (g := g) (w := w) hn hw (i3 v) h1
  have hle : tW (wN q n2) w (n2 + 1 - w) ≤ 16 ^ n2 := by
    have a := tW_s (wN q n2) w (n2 + 1 - w)
    have b := sW_le hq n2 (w + (n2 + 1 - w))
    omega
  have hpp : 16 ^ n2 ≤ 16 ^ 12 := Nat.pow_le_pow_right (by omega) hn
  have h63 : tW (wN q n2) w (n2 + 1 - w) < 9223372036854775808 := Nat.lt_of_le_of_lt (Nat.le_trans hle hpp) (by decide)
  have e3 := halfX (x4 := i3 v) (g := g) (x := x') (4 * n2) (tW (wN q n2) w (n2 + 1 - w)) 0 fuel (by omega) h63 (Nat.le_trans (show 4 * n2 + 1 ≤ 100 by omega) (by decide))
  have e4 := pw n2 hn
  generalize tW (wN q n2) w (n2 + 1 - w) = t at *
  refine ⟨x', ?_⟩
  unfold fX_home_b56
  rw [needY]
  show (fX_weighNames (i3 n2) (i3 q) g x).bind _ = _
  rw [e1, ob_s]
  show (lp (fX_home_L71 (i3 n2) (i3 v) g x') fuel (0, i3 w)).bind _ = _
  rw [e2, ob_s]
  show (lp (fX_home_L115 (i3 v) g x') fuel (i6 t, (1 : Int64) <<< ((i3 4 * i3 n2).toInt64 &&& 63), i3 0)).bind _ = _
  rw [e4, e3, ob_s]
  rcases (show v = 0 ∨ v = 1 by omega) with rfl | rfl
  · rfl
  · rfl
theorem homeM (hq : q ≤ 16) (hn : n2 ≤ 12) (hw : w ≤ 13) (hv : v ≤ 1) (g : St) (x : Sl) : ∃ x', fM_home_b64 (i3 n2) (i3 w) (i3 q) (i3 v) (i3 0) g x = some (i6 (if v = 0 then tW (wN q n2) w (n2 + 1 - w) / Nat.gcd (2 ^ (4 * n2)) (tW (wN q n2) w (n2 + 1 - w)) else 2 ^ (4 * n2) / Nat.gcd (2 ^ (4 * n2)) (tW (wN q n2) w (n2 + 1 - w))), g, x') := by
  obtain ⟨y0, x', e0, e1, h1⟩ := weighM (g := g) hq hn (i3 w) (i3 v) x
  have e2 := sumM (g := g) (w := w) hw (i3 v) (i6 (2 ^ (4 * n2))) h1
  have hend : tW (wN q n2) w (14 - w) = tW (wN q n2) w (n2 + 1 - w) := by
    by_cases q0 : n2 < w
    · have a := tW_end (f := wN q n2) (w := w) (a := 0) (fun i hi => wN_0 n2 i (by omega)) (14 - w)
      rw [Nat.zero_add] at a
      rw [a, show n2 + 1 - w = 0 by omega]
    · have a := tW_end (f := wN q n2) (w := w) (a := n2 + 1 - w) (fun i hi => wN_0 n2 i (by omega)) (13 - n2)
      rw [show n2 + 1 - w + (13 - n2) = 14 - w by omega] at a
      exact a
  rw [hend] at e2
  have hle : tW (wN q n2) w (n2 + 1 - w) ≤ 16 ^ n2 := by
    have a := tW_s (wN q n2) w (n2 + 1 - w)
    have b := sW_le hq n2 (w + (n2 + 1 - w))
    omega
  have e16 : 16 ^ n2 = 2 ^ (4 * n2) := by rw [Nat.pow_mul]
  have hpp : 2 ^ (4 * n2) ≤ 2 ^ 48 := Nat.pow_le_pow_right (by omega) (by omega)
  have h48 : (2 : Nat) ^ 48 < 2 ^ 49 := by decide
  have h49 : (2 : Nat) ^ 49 < 9223372036854775808 := by decide
  have hpos : 0 < 2 ^ (4 * n2) := Nat.pow_pos (by decide)
  rw [e16] at hle
  have e3 := gcdM (x4 := i3 v) (y := i6 (tW (wN q n2) w (n2 + 1 - w))) (z := i6 (2 ^ (4 * n2))) (g := g) (x := x') 49 (2 ^ (4 * n2)) (tW (wN q n2) w (n2 + 1 - w)) fuel hle (by omega) (by omega) (by decide)
  have e4 := pw n2 hn
  generalize tW (wN q n2) w (n2 + 1 - w) = t at *
  have hgp : 0 < Nat.gcd (2 ^ (4 * n2)) t := Nat.gcd_pos_of_pos_left _ hpos
  have hgl : Nat.gcd (2 ^ (4 * n2)) t ≤ 2 ^ (4 * n2) := Nat.gcd_le_left _ hpos
  generalize Nat.gcd (2 ^ (4 * n2)) t = d at *
  generalize 2 ^ (4 * n2) = b at *
  refine ⟨x', ?_⟩
  unfold fM_home_b64
  rw [e0, ob_s]
  show (lp (fM_home_L97 (i3 n2) (i3 w) (i3 q) (i3 v) g) fuel (i3 0, y0)).bind _ = _
  rw [e1, ob_s]
  show fM_home_b179 (i3 v) 0 ((1 : Int64) <<< ((i3 4 * i3 n2).toInt64 &&& 63)) (i3 w) g x' = _
  rw [e4]
  unfold fM_home_b179
  rw [e2, ob_s]
  show (lp (fM_home_L212 (i3 v) (i6 t) (i6 b) g x') fuel (i6 b, i6 t)).bind _ = _
  rw [e3, ob_s]
  have hd : ¬ i6 d = 0 := fun z => by have := (i6_eq0 (by omega)).mp z; omega
  rcases (show v = 0 ∨ v = 1 by omega) with rfl | rfl
  · show (if ¬ i6 d = 0 then some (i6 t / i6 d, g, x') else none) = _
    rw [if_pos hd, i6_div (by omega) (by omega)]
    rfl
  · show (if ¬ i6 d = 0 then some (i6 b / i6 d, g, x') else none) = _
    rw [if_pos hd, i6_div (by omega) (by omega)]
    rfl
end HY

theorem S_home : Sim_home R := by
  intro gX xX gM xM x1 x2 x3 x4 hR
  obtain ⟨W, n, N, K, F, D, U, T, Y, d, hX, hM, hY, hW, h6, h7⟩ := id hR.2.2.2
  have h8 := hX.2.2.1.1
  have nX := hX.2.2.2.1.1
  obtain ⟨g0, hg0⟩ : ∃ g0, g0 = st gM 0 0 (i3 0) := ⟨_, rfl⟩
  have t0 : g0 0 0 = i3 0 := by rw [hg0, st_eq]
  have k0 : KM gM g0 := by rw [hg0]; exact KM.thrown
  have hR0 : R gX xX g0 xM := hR.fr KX.rf k0
  have hM0 : EMd W n N K F D U T Y 16 g0 := hM.frK k0
  have nM := hM0.1.2.2.2.1.1
  have eN : ∀ z1 z2 z3 z4 : Int32, fX_home_b26 z1 z2 z3 z4 (i3 0) gX xX = some (.inl 1, st gX 0 18 (gX 0 18 + i3 1), xX) := fun z1 z2 z3 z4 => by
    unfold fX_home_b26
    rw [needN]
    rfl
  have eN2 : ∀ z1 z2 z3 z4 : Int32, fX_home_b56 z1 z2 z3 z4 (i3 0) gX xX = some (.inl 1, st gX 0 18 (gX 0 18 + i3 1), xX) := fun z1 z2 z3 z4 => by
    unfold fX_home_b56
    rw [needN]
    rfl
  have eM : ∀ z1 z2 z3 z4 : Int32, fM_home_b46 z1 z2 z3 z4 g0 xM = some ((0 : Int64), st (st g0 0 0 (i3 1)) 2 1 (g0 2 1 + i3 1), xM) := fun z1 z2 z3 z4 => by
    simp (disch := (first | omega | assumption | trivial)) only [li_0, li_1, li_2, li_3, li_4, li_5, li_6, li_7, li_8, li_9, li_10, li_11, li_12, li_13, li_14, li_15, li_16, li_17, li_18, li_19, li_20, li_21, li_22, li_23, li_24, li_25, li_26, li_27, li_28, li_29, li_30, li_31, li_32, li_33, li_34, li_35, li_36, li_37, li_38, li_39, li_40, li_41, li_42, li_43, li_44, li_45, li_46, li_47, li_48, li_49, li_50, li_51, li_52, li_53, li_54, li_55, li_56, li_57, li_58, li_59, li_60, li_63, li_64, li_72, li_76, li_77, li_91, li_93, li_96, li_97, li_99, li_108, li_109, li_120, li_122, li_150, li_200, li_255, li_400, li_426, li_600, li_900, li_999, li_1000, li_1002, li_1003, li_2000, li_2042, li_2043, li_2045, li_10000, li_32767, li_100000, li_1000000, li_m1, li_m1b, ob_s, lt1_e, se_l, se_r, if_true, if_false, true_and, and_true, false_and, and_false, st_at, i3_add, i3_mul, i3_sub, i3_lt, i3_le, i3_eq, i3_nat, m1_eqi, i3_eqm, m1_lti, m1_lei, i3_ltm, i3_lem, i3_decm, i3_dec0, nm_eqm, yr_eqm, mxor0, Nat.zero_add, if_pos, if_neg, eq_self, ne_eq, not_true_eq_false, not_false_eq_true, fM_home_b46, fM_home_b51, badN, t0]
  have eY : ∀ z1 z2 z3 z4 : Int32, fX_home_b26 z1 z2 z3 z4 (i3 1) gX xX = (if z3 < 0 then fX_home_b55 z1 z2 z3 z4 gX xX else if (16 : Int32) < z3 then fX_home_b55 z1 z2 z3 z4 gX xX else if z4 = 0 then fX_home_b51 z1 z2 z3 z4 gX xX else if z4 = (1 : Int32) then fX_home_b51 z1 z2 z3 z4 gX xX else fX_home_b55 z1 z2 z3 z4 gX xX) := fun z1 z2 z3 z4 => by
    unfold fX_home_b26
    rw [needY]
    rfl
  rcases rg 12 (by omega) x1 with ⟨n2, hn, rfl⟩ | ⟨p1, p2, p3⟩
  · have i1 := inY (k := n2) (lo := 0) (hi := 12) (by omega) hn (by omega)
    rcases rg 13 (by omega) x2 with ⟨w, hw, rfl⟩ | ⟨p1, p2, p3⟩
    · have i2 := inY (k := w) (lo := 0) (hi := 13) (by omega) hw (by omega)
      rcases rg 16 (by omega) x3 with ⟨q, hq, rfl⟩ | ⟨p1, p2, p3⟩
      · have i3' := inY (k := q) (lo := 0) (hi := 16) (by omega) hq (by omega)
        rcases rg 1 (by omega) x4 with ⟨v, hv, rfl⟩ | ⟨p1, p2, p3⟩
        · have i4 := inY (k := v) (lo := 0) (hi := 1) (by omega) hv (by omega)
          obtain ⟨a1, b1⟩ := homeX hq hn hw hv gX xX
          obtain ⟨a2, b2⟩ := homeM hq hn hw hv g0 xM
          generalize (if v = 0 then tW (wN q n2) w (n2 + 1 - w) / Nat.gcd (2 ^ (4 * n2)) (tW (wN q n2) w (n2 + 1 - w)) else 2 ^ (4 * n2) / Nat.gcd (2 ^ (4 * n2)) (tW (wN q n2) w (n2 + 1 - w))) = r at *
          refine ⟨(.inr (i6 r), gX, a1), (i6 r, g0, a2), ?_, ?_, hR0, okR t0⟩
          · rcases (show v = 0 ∨ v = 1 by omega) with rfl | rfl
            · simp (disch := (first | omega | assumption | trivial)) only [li_0, li_1, li_2, li_3, li_4, li_5, li_6, li_7, li_8, li_9, li_10, li_11, li_12, li_13, li_14, li_15, li_16, li_17, li_18, li_19, li_20, li_21, li_22, li_23, li_24, li_25, li_26, li_27, li_28, li_29, li_30, li_31, li_32, li_33, li_34, li_35, li_36, li_37, li_38, li_39, li_40, li_41, li_42, li_43, li_44, li_45, li_46, li_47, li_48, li_49, li_50, li_51, li_52, li_53, li_54, li_55, li_56, li_57, li_58, li_59, li_60, li_63, li_64, li_72, li_76, li_77, li_91, li_93, li_96, li_97, li_99, li_108, li_109, li_120, li_122, li_150, li_200, li_255, li_400, li_426, li_600, li_900, li_999, li_1000, li_1002, li_1003, li_2000, li_2042, li_2043, li_2045, li_10000, li_32767, li_100000, li_1000000, li_m1, li_m1b, ob_s, lt1_e, se_l, se_r, if_true, if_false, true_and, and_true, false_and, and_false, st_at, i3_add, i3_mul, i3_sub, i3_lt, i3_le, i3_eq, i3_nat, m1_eqi, i3_eqm, m1_lti, m1_lei, i3_ltm, i3_lem, i3_decm, i3_dec0, nm_eqm, yr_eqm, mxor0, Nat.zero_add, if_pos, if_neg, eq_self, ne_eq, not_true_eq_false, not_false_eq_true, fX_home, eY, fX_home_b51, b1]
            · simp (disch := (first | omega | assumption | trivial)) only [li_0, li_1, li_2, li_3, li_4, li_5, li_6, li_7, li_8, li_9, li_10, li_11, li_12, li_13, li_14, li_15, li_16, li_17, li_18, li_19, li_20, li_21, li_22, li_23, li_24, li_25, li_26, li_27, li_28, li_29, li_30, li_31, li_32, li_33, li_34, li_35, li_36, li_37, li_38, li_39, li_40, li_41, li_42, li_43, li_44, li_45, li_46, li_47, li_48, li_49, li_50, li_51, li_52, li_53, li_54, li_55, li_56, li_57, li_58, li_59, li_60, li_63, li_64, li_72, li_76, li_77, li_91, li_93, li_96, li_97, li_99, li_108, li_109, li_120, li_122, li_150, li_200, li_255, li_400, li_426, li_600, li_900, li_999, li_1000, li_1002, li_1003, li_2000, li_2042, li_2043, li_2045, li_10000, li_32767, li_100000, li_1000000, li_m1, li_m1b, ob_s, lt1_e, se_l, se_r, if_true, if_false, true_and, and_true, false_and, and_false, st_at, i3_add, i3_mul, i3_sub, i3_lt, i3_le, i3_eq, i3_nat, m1_eqi, i3_eqm, m1_lti, m1_lei, i3_ltm, i3_lem, i3_decm, i3_dec0, nm_eqm, yr_eqm, mxor0, Nat.zero_add, if_pos, if_neg, eq_self, ne_eq, not_true_eq_false, not_false_eq_true, fX_home, eY, fX_home_b51, b1]
          · simp (disch := (first | omega | assumption | trivial)) only [li_0, li_1, li_2, li_3, li_4, li_5, li_6, li_7, li_8, li_9, li_10, li_11, li_12, li_13, li_14, li_15, li_16, li_17, li_18, li_19, li_20, li_21, li_22, li_23, li_24, li_25, li_26, li_27, li_28, li_29, li_30, li_31, li_32, li_33, li_34, li_35, li_36, li_37, li_38, li_39, li_40, li_41, li_42, li_43, li_44, li_45, li_46, li_47, li_48, li_49, li_50, li_51, li_52, li_53, li_54, li_55, li_56, li_57, li_58, li_59, li_60, li_63, li_64, li_72, li_76, li_77, li_91, li_93, li_96, li_97, li_99, li_108, li_109, li_120, li_122, li_150, li_200, li_255, li_400, li_426, li_600, li_900, li_999, li_1000, li_1002, li_1003, li_2000, li_2042, li_2043, li_2045, li_10000, li_32767, li_100000, li_1000000, li_m1, li_m1b, ob_s, lt1_e, se_l, se_r, if_true, if_false, true_and, and_true, false_and, and_false, st_at, i3_add, i3_mul, i3_sub, i3_lt, i3_le, i3_eq, i3_nat, m1_eqi, i3_eqm, m1_lti, m1_lei, i3_ltm, i3_lem, i3_decm, i3_dec0, nm_eqm, yr_eqm, mxor0, Nat.zero_add, if_pos, if_neg, eq_self, ne_eq, not_true_eq_false, not_false_eq_true, fM_home, hg0.symm, i1, i2, i3', i4, fM_home_b51, badY, t0, b2]
        · have z0 := p2 0 (by omega)
          have z1 := p2 1 (by omega)
          refine ⟨(.inl 1, st gX 0 18 (gX 0 18 + i3 1), xX), ((0 : Int64), st (st g0 0 0 (i3 1)) 2 1 (g0 2 1 + i3 1), xM), ?_, ?_, ref11 hR0 _⟩
          · simp (disch := (first | omega | assumption | trivial)) only [li_0, li_1, li_2, li_3, li_4, li_5, li_6, li_7, li_8, li_9, li_10, li_11, li_12, li_13, li_14, li_15, li_16, li_17, li_18, li_19, li_20, li_21, li_22, li_23, li_24, li_25, li_26, li_27, li_28, li_29, li_30, li_31, li_32, li_33, li_34, li_35, li_36, li_37, li_38, li_39, li_40, li_41, li_42, li_43, li_44, li_45, li_46, li_47, li_48, li_49, li_50, li_51, li_52, li_53, li_54, li_55, li_56, li_57, li_58, li_59, li_60, li_63, li_64, li_72, li_76, li_77, li_91, li_93, li_96, li_97, li_99, li_108, li_109, li_120, li_122, li_150, li_200, li_255, li_400, li_426, li_600, li_900, li_999, li_1000, li_1002, li_1003, li_2000, li_2042, li_2043, li_2045, li_10000, li_32767, li_100000, li_1000000, li_m1, li_m1b, ob_s, lt1_e, se_l, se_r, if_true, if_false, true_and, and_true, false_and, and_false, st_at, i3_add, i3_mul, i3_sub, i3_lt, i3_le, i3_eq, i3_nat, m1_eqi, i3_eqm, m1_lti, m1_lei, i3_ltm, i3_lem, i3_decm, i3_dec0, nm_eqm, yr_eqm, mxor0, Nat.zero_add, if_pos, if_neg, eq_self, ne_eq, not_true_eq_false, not_false_eq_true, fX_home, eY, fX_home_b55, eN2, z0, z1]
          · simp (disch := (first | omega | assumption | trivial)) only [li_0, li_1, li_2, li_3, li_4, li_5, li_6, li_7, li_8, li_9, li_10, li_11, li_12, li_13, li_14, li_15, li_16, li_17, li_18, li_19, li_20, li_21, li_22, li_23, li_24, li_25, li_26, li_27, li_28, li_29, li_30, li_31, li_32, li_33, li_34, li_35, li_36, li_37, li_38, li_39, li_40, li_41, li_42, li_43, li_44, li_45, li_46, li_47, li_48, li_49, li_50, li_51, li_52, li_53, li_54, li_55, li_56, li_57, li_58, li_59, li_60, li_63, li_64, li_72, li_76, li_77, li_91, li_93, li_96, li_97, li_99, li_108, li_109, li_120, li_122, li_150, li_200, li_255, li_400, li_426, li_600, li_900, li_999, li_1000, li_1002, li_1003, li_2000, li_2042, li_2043, li_2045, li_10000, li_32767, li_100000, li_1000000, li_m1, li_m1b, ob_s, lt1_e, se_l, se_r, if_true, if_false, true_and, and_true, false_and, and_false, st_at, i3_add, i3_mul, i3_sub, i3_lt, i3_le, i3_eq, i3_nat, m1_eqi, i3_eqm, m1_lti, m1_lei, i3_ltm, i3_lem, i3_decm, i3_dec0, nm_eqm, yr_eqm, mxor0, Nat.zero_add, if_pos, if_neg, eq_self, ne_eq, not_true_eq_false, not_false_eq_true, fM_home, hg0.symm, i1, i2, i3', p1, eM]
      · refine ⟨(.inl 1, st gX 0 18 (gX 0 18 + i3 1), xX), ((0 : Int64), st (st g0 0 0 (i3 1)) 2 1 (g0 2 1 + i3 1), xM), ?_, ?_, ref11 hR0 _⟩
        · rcases p3 with p3 | ⟨k, k1, k2, rfl⟩
          · simp (disch := (first | omega | assumption | trivial)) only [li_0, li_1, li_2, li_3, li_4, li_5, li_6, li_7, li_8, li_9, li_10, li_11, li_12, li_13, li_14, li_15, li_16, li_17, li_18, li_19, li_20, li_21, li_22, li_23, li_24, li_25, li_26, li_27, li_28, li_29, li_30, li_31, li_32, li_33, li_34, li_35, li_36, li_37, li_38, li_39, li_40, li_41, li_42, li_43, li_44, li_45, li_46, li_47, li_48, li_49, li_50, li_51, li_52, li_53, li_54, li_55, li_56, li_57, li_58, li_59, li_60, li_63, li_64, li_72, li_76, li_77, li_91, li_93, li_96, li_97, li_99, li_108, li_109, li_120, li_122, li_150, li_200, li_255, li_400, li_426, li_600, li_900, li_999, li_1000, li_1002, li_1003, li_2000, li_2042, li_2043, li_2045, li_10000, li_32767, li_100000, li_1000000, li_m1, li_m1b, ob_s, lt1_e, se_l, se_r, if_true, if_false, true_and, and_true, false_and, and_false, st_at, i3_add, i3_mul, i3_sub, i3_lt, i3_le, i3_eq, i3_nat, m1_eqi, i3_eqm, m1_lti, m1_lei, i3_ltm, i3_lem, i3_decm, i3_dec0, nm_eqm, yr_eqm, mxor0, Nat.zero_add, if_pos, if_neg, eq_self, ne_eq, not_true_eq_false, not_false_eq_true, fX_home, eY, fX_home_b55, eN2, p3]
          · simp (disch := (first | omega | assumption | trivial)) only [li_0, li_1, li_2, li_3, li_4, li_5, li_6, li_7, li_8, li_9, li_10, li_11, li_12, li_13, li_14, li_15, li_16, li_17, li_18, li_19, li_20, li_21, li_22, li_23, li_24, li_25, li_26, li_27, li_28, li_29, li_30, li_31, li_32, li_33, li_34, li_35, li_36, li_37, li_38, li_39, li_40, li_41, li_42, li_43, li_44, li_45, li_46, li_47, li_48, li_49, li_50, li_51, li_52, li_53, li_54, li_55, li_56, li_57, li_58, li_59, li_60, li_63, li_64, li_72, li_76, li_77, li_91, li_93, li_96, li_97, li_99, li_108, li_109, li_120, li_122, li_150, li_200, li_255, li_400, li_426, li_600, li_900, li_999, li_1000, li_1002, li_1003, li_2000, li_2042, li_2043, li_2045, li_10000, li_32767, li_100000, li_1000000, li_m1, li_m1b, ob_s, lt1_e, se_l, se_r, if_true, if_false, true_and, and_true, false_and, and_false, st_at, i3_add, i3_mul, i3_sub, i3_lt, i3_le, i3_eq, i3_nat, m1_eqi, i3_eqm, m1_lti, m1_lei, i3_ltm, i3_lem, i3_decm, i3_dec0, nm_eqm, yr_eqm, mxor0, Nat.zero_add, if_pos, if_neg, eq_self, ne_eq, not_true_eq_false, not_false_eq_true, fX_home, eY, fX_home_b55, eN2]
        · simp (disch := (first | omega | assumption | trivial)) only [li_0, li_1, li_2, li_3, li_4, li_5, li_6, li_7, li_8, li_9, li_10, li_11, li_12, li_13, li_14, li_15, li_16, li_17, li_18, li_19, li_20, li_21, li_22, li_23, li_24, li_25, li_26, li_27, li_28, li_29, li_30, li_31, li_32, li_33, li_34, li_35, li_36, li_37, li_38, li_39, li_40, li_41, li_42, li_43, li_44, li_45, li_46, li_47, li_48, li_49, li_50, li_51, li_52, li_53, li_54, li_55, li_56, li_57, li_58, li_59, li_60, li_63, li_64, li_72, li_76, li_77, li_91, li_93, li_96, li_97, li_99, li_108, li_109, li_120, li_122, li_150, li_200, li_255, li_400, li_426, li_600, li_900, li_999, li_1000, li_1002, li_1003, li_2000, li_2042, li_2043, li_2045, li_10000, li_32767, li_100000, li_1000000, li_m1, li_m1b, ob_s, lt1_e, se_l, se_r, if_true, if_false, true_and, and_true, false_and, and_false, st_at, i3_add, i3_mul, i3_sub, i3_lt, i3_le, i3_eq, i3_nat, m1_eqi, i3_eqm, m1_lti, m1_lei, i3_ltm, i3_lem, i3_decm, i3_dec0, nm_eqm, yr_eqm, mxor0, Nat.zero_add, if_pos, if_neg, eq_self, ne_eq, not_true_eq_false, not_false_eq_true, fM_home, hg0.symm, i1, i2, p1, eM]
    · refine ⟨(.inl 1, st gX 0 18 (gX 0 18 + i3 1), xX), ((0 : Int64), st (st g0 0 0 (i3 1)) 2 1 (g0 2 1 + i3 1), xM), ?_, ?_, ref11 hR0 _⟩
      · rcases p3 with p3 | ⟨k, k1, k2, rfl⟩
        · simp (disch := (first | omega | assumption | trivial)) only [li_0, li_1, li_2, li_3, li_4, li_5, li_6, li_7, li_8, li_9, li_10, li_11, li_12, li_13, li_14, li_15, li_16, li_17, li_18, li_19, li_20, li_21, li_22, li_23, li_24, li_25, li_26, li_27, li_28, li_29, li_30, li_31, li_32, li_33, li_34, li_35, li_36, li_37, li_38, li_39, li_40, li_41, li_42, li_43, li_44, li_45, li_46, li_47, li_48, li_49, li_50, li_51, li_52, li_53, li_54, li_55, li_56, li_57, li_58, li_59, li_60, li_63, li_64, li_72, li_76, li_77, li_91, li_93, li_96, li_97, li_99, li_108, li_109, li_120, li_122, li_150, li_200, li_255, li_400, li_426, li_600, li_900, li_999, li_1000, li_1002, li_1003, li_2000, li_2042, li_2043, li_2045, li_10000, li_32767, li_100000, li_1000000, li_m1, li_m1b, ob_s, lt1_e, se_l, se_r, if_true, if_false, true_and, and_true, false_and, and_false, st_at, i3_add, i3_mul, i3_sub, i3_lt, i3_le, i3_eq, i3_nat, m1_eqi, i3_eqm, m1_lti, m1_lei, i3_ltm, i3_lem, i3_decm, i3_dec0, nm_eqm, yr_eqm, mxor0, Nat.zero_add, if_pos, if_neg, eq_self, ne_eq, not_true_eq_false, not_false_eq_true, fX_home, fX_home_b25, eN, p3]
        · simp (disch := (first | omega | assumption | trivial)) only [li_0, li_1, li_2, li_3, li_4, li_5, li_6, li_7, li_8, li_9, li_10, li_11, li_12, li_13, li_14, li_15, li_16, li_17, li_18, li_19, li_20, li_21, li_22, li_23, li_24, li_25, li_26, li_27, li_28, li_29, li_30, li_31, li_32, li_33, li_34, li_35, li_36, li_37, li_38, li_39, li_40, li_41, li_42, li_43, li_44, li_45, li_46, li_47, li_48, li_49, li_50, li_51, li_52, li_53, li_54, li_55, li_56, li_57, li_58, li_59, li_60, li_63, li_64, li_72, li_76, li_77, li_91, li_93, li_96, li_97, li_99, li_108, li_109, li_120, li_122, li_150, li_200, li_255, li_400, li_426, li_600, li_900, li_999, li_1000, li_1002, li_1003, li_2000, li_2042, li_2043, li_2045, li_10000, li_32767, li_100000, li_1000000, li_m1, li_m1b, ob_s, lt1_e, se_l, se_r, if_true, if_false, true_and, and_true, false_and, and_false, st_at, i3_add, i3_mul, i3_sub, i3_lt, i3_le, i3_eq, i3_nat, m1_eqi, i3_eqm, m1_lti, m1_lei, i3_ltm, i3_lem, i3_decm, i3_dec0, nm_eqm, yr_eqm, mxor0, Nat.zero_add, if_pos, if_neg, eq_self, ne_eq, not_true_eq_false, not_false_eq_true, fX_home, fX_home_b25, eN]
      · simp (disch := (first | omega | assumption | trivial)) only [li_0, li_1, li_2, li_3, li_4, li_5, li_6, li_7, li_8, li_9, li_10, li_11, li_12, li_13, li_14, li_15, li_16, li_17, li_18, li_19, li_20, li_21, li_22, li_23, li_24, li_25, li_26, li_27, li_28, li_29, li_30, li_31, li_32, li_33, li_34, li_35, li_36, li_37, li_38, li_39, li_40, li_41, li_42, li_43, li_44, li_45, li_46, li_47, li_48, li_49, li_50, li_51, li_52, li_53, li_54, li_55, li_56, li_57, li_58, li_59, li_60, li_63, li_64, li_72, li_76, li_77, li_91, li_93, li_96, li_97, li_99, li_108, li_109, li_120, li_122, li_150, li_200, li_255, li_400, li_426, li_600, li_900, li_999, li_1000, li_1002, li_1003, li_2000, li_2042, li_2043, li_2045, li_10000, li_32767, li_100000, li_1000000, li_m1, li_m1b, ob_s, lt1_e, se_l, se_r, if_true, if_false, true_and, and_true, false_and, and_false, st_at, i3_add, i3_mul, i3_sub, i3_lt, i3_le, i3_eq, i3_nat, m1_eqi, i3_eqm, m1_lti, m1_lei, i3_ltm, i3_lem, i3_decm, i3_dec0, nm_eqm, yr_eqm, mxor0, Nat.zero_add, if_pos, if_neg, eq_self, ne_eq, not_true_eq_false, not_false_eq_true, fM_home, hg0.symm, i1, p1, eM]
  · refine ⟨(.inl 1, st gX 0 18 (gX 0 18 + i3 1), xX), ((0 : Int64), st (st g0 0 0 (i3 1)) 2 1 (g0 2 1 + i3 1), xM), ?_, ?_, ref11 hR0 _⟩
    · rcases p3 with p3 | ⟨k, k1, k2, rfl⟩
      · simp (disch := (first | omega | assumption | trivial)) only [li_0, li_1, li_2, li_3, li_4, li_5, li_6, li_7, li_8, li_9, li_10, li_11, li_12, li_13, li_14, li_15, li_16, li_17, li_18, li_19, li_20, li_21, li_22, li_23, li_24, li_25, li_26, li_27, li_28, li_29, li_30, li_31, li_32, li_33, li_34, li_35, li_36, li_37, li_38, li_39, li_40, li_41, li_42, li_43, li_44, li_45, li_46, li_47, li_48, li_49, li_50, li_51, li_52, li_53, li_54, li_55, li_56, li_57, li_58, li_59, li_60, li_63, li_64, li_72, li_76, li_77, li_91, li_93, li_96, li_97, li_99, li_108, li_109, li_120, li_122, li_150, li_200, li_255, li_400, li_426, li_600, li_900, li_999, li_1000, li_1002, li_1003, li_2000, li_2042, li_2043, li_2045, li_10000, li_32767, li_100000, li_1000000, li_m1, li_m1b, ob_s, lt1_e, se_l, se_r, if_true, if_false, true_and, and_true, false_and, and_false, st_at, i3_add, i3_mul, i3_sub, i3_lt, i3_le, i3_eq, i3_nat, m1_eqi, i3_eqm, m1_lti, m1_lei, i3_ltm, i3_lem, i3_decm, i3_dec0, nm_eqm, yr_eqm, mxor0, Nat.zero_add, if_pos, if_neg, eq_self, ne_eq, not_true_eq_false, not_false_eq_true, fX_home, fX_home_b25, eN, p3]
      · simp (disch := (first | omega | assumption | trivial)) only [li_0, li_1, li_2, li_3, li_4, li_5, li_6, li_7, li_8, li_9, li_10, li_11, li_12, li_13, li_14, li_15, li_16, li_17, li_18, li_19, li_20, li_21, li_22, li_23, li_24, li_25, li_26, li_27, li_28, li_29, li_30, li_31, li_32, li_33, li_34, li_35, li_36, li_37, li_38, li_39, li_40, li_41, li_42, li_43, li_44, li_45, li_46, li_47, li_48, li_49, li_50, li_51, li_52, li_53, li_54, li_55, li_56, li_57, li_58, li_59, li_60, li_63, li_64, li_72, li_76, li_77, li_91, li_93, li_96, li_97, li_99, li_108, li_109, li_120, li_122, li_150, li_200, li_255, li_400, li_426, li_600, li_900, li_999, li_1000, li_1002, li_1003, li_2000, li_2042, li_2043, li_2045, li_10000, li_32767, li_100000, li_1000000, li_m1, li_m1b, ob_s, lt1_e, se_l, se_r, if_true, if_false, true_and, and_true, false_and, and_false, st_at, i3_add, i3_mul, i3_sub, i3_lt, i3_le, i3_eq, i3_nat, m1_eqi, i3_eqm, m1_lti, m1_lei, i3_ltm, i3_lem, i3_decm, i3_dec0, nm_eqm, yr_eqm, mxor0, Nat.zero_add, if_pos, if_neg, eq_self, ne_eq, not_true_eq_false, not_false_eq_true, fX_home, fX_home_b25, eN]
    · simp (disch := (first | omega | assumption | trivial)) only [li_0, li_1, li_2, li_3, li_4, li_5, li_6, li_7, li_8, li_9, li_10, li_11, li_12, li_13, li_14, li_15, li_16, li_17, li_18, li_19, li_20, li_21, li_22, li_23, li_24, li_25, li_26, li_27, li_28, li_29, li_30, li_31, li_32, li_33, li_34, li_35, li_36, li_37, li_38, li_39, li_40, li_41, li_42, li_43, li_44, li_45, li_46, li_47, li_48, li_49, li_50, li_51, li_52, li_53, li_54, li_55, li_56, li_57, li_58, li_59, li_60, li_63, li_64, li_72, li_76, li_77, li_91, li_93, li_96, li_97, li_99, li_108, li_109, li_120, li_122, li_150, li_200, li_255, li_400, li_426, li_600, li_900, li_999, li_1000, li_1002, li_1003, li_2000, li_2042, li_2043, li_2045, li_10000, li_32767, li_100000, li_1000000, li_m1, li_m1b, ob_s, lt1_e, se_l, se_r, if_true, if_false, true_and, and_true, false_and, and_false, st_at, i3_add, i3_mul, i3_sub, i3_lt, i3_le, i3_eq, i3_nat, m1_eqi, i3_eqm, m1_lti, m1_lei, i3_ltm, i3_lem, i3_decm, i3_dec0, nm_eqm, yr_eqm, mxor0, Nat.zero_add, if_pos, if_neg, eq_self, ne_eq, not_true_eq_false, not_false_eq_true, fM_home, hg0.symm, p1, eM]
