/-! PURE: copies, years ahead, centuries -/
def cpS (g : St) (a s b p m : Nat) : St := fun x y => if x = b ∧ p ≤ y ∧ y < p + m then g a (s + (y - p)) else g x y
theorem cpS_0 (g : St) (a s b p : Nat) : cpS g a s b p 0 = g := by
  funext x y
  unfold cpS
  rw [if_neg (by omega)]
theorem cpS_ne {g : St} {a s b p m x : Nat} (h : x ≠ b) : cpS g a s b p m x = g x := by
  funext y
  unfold cpS
  rw [if_neg (fun z => h z.1)]
theorem cpS_in {g : St} {a s b p m k : Nat} (h : k < m) : cpS g a s b p m b (p + k) = g a (s + k) := by
  unfold cpS
  rw [if_pos ⟨rfl, by omega, by omega⟩, show p + k - p = k by omega]
theorem cpS_out {g : St} {a s b p m x y : Nat} (h : ¬ (x = b ∧ p ≤ y ∧ y < p + m)) : cpS g a s b p m x y = g x y := by
  unfold cpS
  rw [if_neg h]
theorem cpS_s (g : St) (a s b p k : Nat) : st (cpS g a s b p k) b (p + k) (g a (s + k)) = cpS g a s b p (k + 1) := by
  funext x y
  rw [st_at]
  unfold cpS
  by_cases q : x = b ∧ y = p + k
  · rw [if_pos q, if_pos ⟨q.1, by omega, by omega⟩, q.2, show p + k - p = k by omega]
  · rw [if_neg q]
    by_cases q2 : x = b ∧ p ≤ y ∧ y < p + k
    · rw [if_pos q2, if_pos ⟨q2.1, q2.2.1, by omega⟩]
    · rw [if_neg q2, if_neg (fun z => by omega)]
theorem X_copy {a s b p m la lb : Nat} (hla : lenW shX a = la) (hlb : lenW shX b = lb) (hab : a ≠ b) (h1 : s + m ≤ la) (h2 : p + m ≤ lb) (h3 : la < 100000) (h4 : lb < 100000) (g : St) : fX_Rows_copy a (i3 s) b (i3 p) (i3 m) g = some (cpS g a s b p m) := by
  simp only [fX_Rows_copy, fX_Rows_copy_b3, li_0, li_1, li_2, li_3, li_4, li_5, li_6, li_7, li_8, li_9, li_10, li_11, li_12, li_13, li_14, li_15, li_16, li_17, li_18, li_19, li_20, li_21, li_22, li_23, li_24, li_25, li_26, li_27, li_28, li_29, li_30, li_31, li_32, li_33, li_34, li_35, li_36, li_37, li_38, li_39, li_40, li_41, li_42, li_43, li_44, li_45, li_46, li_47, li_48, li_49, li_50, li_51, li_52, li_53, li_54, li_55, li_56, li_57, li_58, li_59, li_60, li_63, li_64, li_72, li_76, li_77, li_91, li_93, li_96, li_97, li_99, li_108, li_109, li_120, li_122, li_150, li_200, li_255, li_400, li_426, li_600, li_900, li_999, li_1000, li_1002, li_1003, li_2000, li_2042, li_2043, li_2045, li_10000, li_32767, li_100000, li_1000000, li_m1, li_m1b]
  rw [show lp (fX_Rows_copy_L3 a b (i3 s) (i3 p) (i3 m)) fuel (i3 0, g) = some (cpS g a s b p m) from ?_]
  · rfl
  · refine lp_cnt0 (fun k => (i3 k, cpS g a s b p k)) (by show (i3 0, cpS g a s b p 0) = _; rw [cpS_0]) m (by omega) (fun k hk => ?_) ?_
    · have e1 : fX_Rows_at a (i3 (s + k)) (cpS g a s b p k) = some (g a (s + k)) := by
        rw [X_at hla (by omega) h3, cpS_ne hab]
      have e2 : fX_Rows_put b (i3 (p + k)) (g a (s + k)) (cpS g a s b p k) = some (cpS g a s b p (k + 1)) := by
        rw [X_put hlb (by omega) h4, cpS_s]
      simp (disch := (first | omega | assumption | trivial)) only [li_0, li_1, li_2, li_3, li_4, li_5, li_6, li_7, li_8, li_9, li_10, li_11, li_12, li_13, li_14, li_15, li_16, li_17, li_18, li_19, li_20, li_21, li_22, li_23, li_24, li_25, li_26, li_27, li_28, li_29, li_30, li_31, li_32, li_33, li_34, li_35, li_36, li_37, li_38, li_39, li_40, li_41, li_42, li_43, li_44, li_45, li_46, li_47, li_48, li_49, li_50, li_51, li_52, li_53, li_54, li_55, li_56, li_57, li_58, li_59, li_60, li_63, li_64, li_72, li_76, li_77, li_91, li_93, li_96, li_97, li_99, li_108, li_109, li_120, li_122, li_150, li_200, li_255, li_400, li_426, li_600, li_900, li_999, li_1000, li_1002, li_1003, li_2000, li_2042, li_2043, li_2045, li_10000, li_32767, li_100000, li_1000000, li_m1, li_m1b, ob_s, lt1_e, se_l, se_r, if_true, if_false, true_and, and_true, false_and, and_false, st_at, i3_add, i3_mul, i3_sub, i3_lt, i3_le, i3_eq, i3_nat, m1_eqi, i3_eqm, m1_lti, m1_lei, i3_ltm, i3_lem, i3_decm, i3_dec0, nm_eqm, yr_eqm, mxor0, Nat.zero_add, if_pos, if_neg, eq_self, ne_eq, not_true_eq_false, not_false_eq_true, fX_Rows_copy_L3, e1, e2]
    · simp (disch := (first | omega | assumption | trivial)) only [li_0, li_1, li_2, li_3, li_4, li_5, li_6, li_7, li_8, li_9, li_10, li_11, li_12, li_13, li_14, li_15, li_16, li_17, li_18, li_19, li_20, li_21, li_22, li_23, li_24, li_25, li_26, li_27, li_28, li_29, li_30, li_31, li_32, li_33, li_34, li_35, li_36, li_37, li_38, li_39, li_40, li_41, li_42, li_43, li_44, li_45, li_46, li_47, li_48, li_49, li_50, li_51, li_52, li_53, li_54, li_55, li_56, li_57, li_58, li_59, li_60, li_63, li_64, li_72, li_76, li_77, li_91, li_93, li_96, li_97, li_99, li_108, li_109, li_120, li_122, li_150, li_200, li_255, li_400, li_426, li_600, li_900, li_999, li_1000, li_1002, li_1003, li_2000, li_2042, li_2043, li_2045, li_10000, li_32767, li_100000, li_1000000, li_m1, li_m1b, ob_s, lt1_e, se_l, se_r, if_true, if_false, true_and, and_true, false_and, and_false, st_at, i3_add, i3_mul, i3_sub, i3_lt, i3_le, i3_eq, i3_nat, m1_eqi, i3_eqm, m1_lti, m1_lei, i3_ltm, i3_lem, i3_decm, i3_dec0, nm_eqm, yr_eqm, mxor0, Nat.zero_add, if_pos, if_neg, eq_self, ne_eq, not_true_eq_false, not_false_eq_true, fX_Rows_copy_L3]
theorem M_copies {a b : Nat} (hla : lenW shM a = 26) (hlb : lenW shM b = 26) (hab : a ≠ b) (g : St) : fM_copies a b g = some (cpS g a 0 b 0 26) := by
  simp only [fM_copies, fM_copies_b2, li_0, li_1, li_2, li_3, li_4, li_5, li_6, li_7, li_8, li_9, li_10, li_11, li_12, li_13, li_14, li_15, li_16, li_17, li_18, li_19, li_20, li_21, li_22, li_23, li_24, li_25, li_26, li_27, li_28, li_29, li_30, li_31, li_32, li_33, li_34, li_35, li_36, li_37, li_38, li_39, li_40, li_41, li_42, li_43, li_44, li_45, li_46, li_47, li_48, li_49, li_50, li_51, li_52, li_53, li_54, li_55, li_56, li_57, li_58, li_59, li_60, li_63, li_64, li_72, li_76, li_77, li_91, li_93, li_96, li_97, li_99, li_108, li_109, li_120, li_122, li_150, li_200, li_255, li_400, li_426, li_600, li_900, li_999, li_1000, li_1002, li_1003, li_2000, li_2042, li_2043, li_2045, li_10000, li_32767, li_100000, li_1000000, li_m1, li_m1b]
  rw [show lp (fM_copies_L2 a b) fuel (i3 0, g) = some (cpS g a 0 b 0 26) from ?_]
  · rfl
  · refine lp_cnt0 (fun k => (i3 k, cpS g a 0 b 0 k)) (by show (i3 0, cpS g a 0 b 0 0) = _; rw [cpS_0]) 26 (by omega) (fun k hk => ?_) ?_
    · have e1 : cpS g a 0 b 0 k a k = g a k := by rw [cpS_ne hab]
      have e2 := cpS_s g a 0 b 0 k
      rw [Nat.zero_add] at e2
      simp (disch := (first | omega | assumption | trivial)) only [li_0, li_1, li_2, li_3, li_4, li_5, li_6, li_7, li_8, li_9, li_10, li_11, li_12, li_13, li_14, li_15, li_16, li_17, li_18, li_19, li_20, li_21, li_22, li_23, li_24, li_25, li_26, li_27, li_28, li_29, li_30, li_31, li_32, li_33, li_34, li_35, li_36, li_37, li_38, li_39, li_40, li_41, li_42, li_43, li_44, li_45, li_46, li_47, li_48, li_49, li_50, li_51, li_52, li_53, li_54, li_55, li_56, li_57, li_58, li_59, li_60, li_63, li_64, li_72, li_76, li_77, li_91, li_93, li_96, li_97, li_99, li_108, li_109, li_120, li_122, li_150, li_200, li_255, li_400, li_426, li_600, li_900, li_999, li_1000, li_1002, li_1003, li_2000, li_2042, li_2043, li_2045, li_10000, li_32767, li_100000, li_1000000, li_m1, li_m1b, ob_s, lt1_e, se_l, se_r, if_true, if_false, true_and, and_true, false_and, and_false, st_at, i3_add, i3_mul, i3_sub, i3_lt, i3_le, i3_eq, i3_nat, m1_eqi, i3_eqm, m1_lti, m1_lei, i3_ltm, i3_lem, i3_decm, i3_dec0, nm_eqm, yr_eqm, mxor0, Nat.zero_add, if_pos, if_neg, eq_self, ne_eq, not_true_eq_false, not_false_eq_true, fM_copies_L2, hla, hlb, e1, e2]
    · simp (disch := (first | omega | assumption | trivial)) only [li_0, li_1, li_2, li_3, li_4, li_5, li_6, li_7, li_8, li_9, li_10, li_11, li_12, li_13, li_14, li_15, li_16, li_17, li_18, li_19, li_20, li_21, li_22, li_23, li_24, li_25, li_26, li_27, li_28, li_29, li_30, li_31, li_32, li_33, li_34, li_35, li_36, li_37, li_38, li_39, li_40, li_41, li_42, li_43, li_44, li_45, li_46, li_47, li_48, li_49, li_50, li_51, li_52, li_53, li_54, li_55, li_56, li_57, li_58, li_59, li_60, li_63, li_64, li_72, li_76, li_77, li_91, li_93, li_96, li_97, li_99, li_108, li_109, li_120, li_122, li_150, li_200, li_255, li_400, li_426, li_600, li_900, li_999, li_1000, li_1002, li_1003, li_2000, li_2042, li_2043, li_2045, li_10000, li_32767, li_100000, li_1000000, li_m1, li_m1b, ob_s, lt1_e, se_l, se_r, if_true, if_false, true_and, and_true, false_and, and_false, st_at, i3_add, i3_mul, i3_sub, i3_lt, i3_le, i3_eq, i3_nat, m1_eqi, i3_eqm, m1_lti, m1_lei, i3_ltm, i3_lem, i3_decm, i3_dec0, nm_eqm, yr_eqm, mxor0, Nat.zero_add, if_pos, if_neg, eq_self, ne_eq, not_true_eq_false, not_false_eq_true, fM_copies_L2]
section TR
variable {W : (Nat → Nat) → Nat} {n N : Nat} {K F D U T : Nat → Nat} {Y r th : Nat} {g : St}
theorem EC.frP (h : EC W n N K F D U T Y th g) {g' : St} (e : ∀ p, (p = 2 ∨ p = 4 ∨ p = 17 ∨ p = 19 ∨ p = 23 ∨ p = th ∨ p = 3 * th + 7 ∨ p = 3 * th + 8 ∨ p = 3 * th + 9) → g' p = g p) : EC W n N K F D U T Y th g' := by
  obtain ⟨hr, hS, hB, hC, hL, hW⟩ := h
  exact ⟨hr, hS.fr (e _ (by omega)) (e _ (by omega)) (e _ (by omega)) (e _ (by omega)), hB, hC.fr (e 2 (by omega)) (e 17 (by omega)) (e 19 (by omega)), hL.fr (by rw [e 4 (by omega)]) (e 23 (by omega)), hW⟩
theorem EMd.frP (h : EMd W n N K F D U T Y r g) {g' : St} (e : ∀ p, (p = 4 ∨ p = 8 ∨ p = r ∨ (34 ≤ p ∧ p < 202)) → g' p = g p) (e0 : g' 0 17 = g 0 17) : EMd W n N K F D U T Y r g' := by
  obtain ⟨⟨hr, hS, hB, hC, hL, hW⟩, hd⟩ := h
  refine ⟨⟨hr, hS.fr (e r (by omega)), hB, hC.fr hB.1 (e 4 (by omega)) (e 8 (by omega)) (fun p hp => e _ (by omega)), hL.fr e0 (fun p a b => e p (by omega)), hW⟩, fun p hp => ?_⟩
  rw [e r (by omega)]
  exact hd p hp
theorem EC.take11 (h : EC W n N K F D U T Y 10 g) : ∃ g', fX_State_take 11 10 g = some g' ∧ EC W n N K F D U T Y 11 g' ∧ FX2 11 g g' := by
  obtain ⟨hr, ⟨s1, s2, s3, s4⟩, hB, hC, hL, hW⟩ := h
  have c1 := X_copy (a := 37) (b := 40) (s := 0) (p := 0) (m := 8) (ln8 (by omega)) (ln8 (by omega)) (by omega) (by omega) (by omega) (by omega) (by omega) (st g 11 5 (g 10 5))
  have c2 := X_copy (a := 38) (b := 41) (s := 0) (p := 0) (m := 8) (ln8 (by omega)) (ln8 (by omega)) (by omega) (by omega) (by omega) (by omega) (by omega) (cpS (st g 11 5 (g 10 5)) 37 0 40 0 8)
  have c3 := X_copy (a := 39) (b := 42) (s := 0) (p := 0) (m := 8) (ln8 (by omega)) (ln8 (by omega)) (by omega) (by omega) (by omega) (by omega) (by omega) (cpS (cpS (st g 11 5 (g 10 5)) 37 0 40 0 8) 38 0 41 0 8)
  have f : FX2 11 g (cpS (cpS (cpS (st g 11 5 (g 10 5)) 37 0 40 0 8) 38 0 41 0 8) 39 0 42 0 8) := fun p a b c d e f => by
    rw [cpS_ne f, cpS_ne e, cpS_ne d, st_ne c]
  have q1 : ∀ p, p < 8 → cpS (cpS (cpS (st g 11 5 (g 10 5)) 37 0 40 0 8) 38 0 41 0 8) 39 0 42 0 8 40 p = g 37 p := fun p hp => by
    rw [cpS_ne (by omega), cpS_ne (by omega)]
    have e := cpS_in (g := st g 11 5 (g 10 5)) (a := 37) (s := 0) (b := 40) (p := 0) hp
    rw [Nat.zero_add, st_ne (by omega)] at e
    exact e
  have q2 : ∀ p, p < 8 → cpS (cpS (cpS (st g 11 5 (g 10 5)) 37 0 40 0 8) 38 0 41 0 8) 39 0 42 0 8 41 p = g 38 p := fun p hp => by
    rw [cpS_ne (by omega)]
    have e := cpS_in (g := cpS (st g 11 5 (g 10 5)) 37 0 40 0 8) (a := 38) (s := 0) (b := 41) (p := 0) hp
    rw [Nat.zero_add] at e
    rw [e, cpS_ne (by omega), st_ne (by omega)]
  have q3 : ∀ p, p < 8 → cpS (cpS (cpS (st g 11 5 (g 10 5)) 37 0 40 0 8) 38 0 41 0 8) 39 0 42 0 8 42 p = g 39 p := fun p hp => by
    have e := cpS_in (g := cpS (cpS (st g 11 5 (g 10 5)) 37 0 40 0 8) 38 0 41 0 8) (a := 39) (s := 0) (b := 42) (p := 0) hp
    rw [Nat.zero_add] at e
    rw [e, cpS_ne (by omega), cpS_ne (by omega), st_ne (by omega)]
  refine ⟨_, ?_, ⟨Or.inr rfl, ⟨fun p hp => (q1 p hp).trans (s1 p hp), fun p hp => (q2 p hp).trans (s2 p hp), fun p hp => (q3 p hp).trans (s3 p hp), ?_⟩, hB, hC.fr (f 2 (by omega) (by omega) (by omega) (by omega) (by omega) (by omega)) (f 17 (by omega) (by omega) (by omega) (by omega) (by omega) (by omega)) (f 19 (by omega) (by omega) (by omega) (by omega) (by omega) (by omega)), hL.fr ?_ (f 23 (by omega) (by omega) (by omega) (by omega) (by omega) (by omega)), hW⟩, f⟩
  · simp (disch := (first | omega | assumption | trivial)) only [li_0, li_1, li_2, li_3, li_4, li_5, li_6, li_7, li_8, li_9, li_10, li_11, li_12, li_13, li_14, li_15, li_16, li_17, li_18, li_19, li_20, li_21, li_22, li_23, li_24, li_25, li_26, li_27, li_28, li_29, li_30, li_31, li_32, li_33, li_34, li_35, li_36, li_37, li_38, li_39, li_40, li_41, li_42, li_43, li_44, li_45, li_46, li_47, li_48, li_49, li_50, li_51, li_52, li_53, li_54, li_55, li_56, li_57, li_58, li_59, li_60, li_63, li_64, li_72, li_76, li_77, li_91, li_93, li_96, li_97, li_99, li_108, li_109, li_120, li_122, li_150, li_200, li_255, li_400, li_426, li_600, li_900, li_999, li_1000, li_1002, li_1003, li_2000, li_2042, li_2043, li_2045, li_10000, li_32767, li_100000, li_1000000, li_m1, li_m1b, ob_s, lt1_e, se_l, se_r, if_true, if_false, true_and, and_true, false_and, and_false, st_at, i3_add, i3_mul, i3_sub, i3_lt, i3_le, i3_eq, i3_nat, m1_eqi, i3_eqm, m1_lti, m1_lei, i3_ltm, i3_lem, i3_decm, i3_dec0, nm_eqm, yr_eqm, mxor0, Nat.zero_add, if_pos, if_neg, eq_self, ne_eq, not_true_eq_false, not_false_eq_true, fX_State_take, rS2, rS3, rS4, c1, c2, c3]
  · rw [cpS_ne (by omega), cpS_ne (by omega), cpS_ne (by omega), st_eq]; exact s4
  · rw [f 4 (by omega) (by omega) (by omega) (by omega) (by omega) (by omega)]
theorem EMd.copy17 (h : EMd W n N K F D U T Y 16 g) : ∃ g', fM_copies 16 17 g = some g' ∧ EMd W n N K F D U T Y 17 g' ∧ FM2 17 g g' := by
  have c1 := M_copies (a := 16) (b := 17) rfl rfl (by omega) g
  have f : FM2 17 g (cpS g 16 0 17 0 26) := fun p a b c => cpS_ne c
  have q : ∀ p, p < 26 → cpS g 16 0 17 0 26 17 p = g 16 p := fun p hp => by
    have e := cpS_in (g := g) (a := 16) (s := 0) (b := 17) (p := 0) hp
    rw [Nat.zero_add] at e
    exact e
  obtain ⟨⟨hr, ⟨s1, s2, s3, s4⟩, hB, hC, hL, hW⟩, hd⟩ := h
  refine ⟨_, c1, ⟨⟨Or.inr rfl, ⟨fun p hp => (q p (by omega)).trans (s1 p hp), fun p hp => (q _ (by omega)).trans (s2 p hp), (q 24 (by omega)).trans s3, (q 25 (by omega)).trans s4⟩, hB, hC.fr hB.1 (f 4 (by omega) (by omega) (by omega)) (f 8 (by omega) (by omega) (by omega)) (fun p hp => f _ (by omega) (by omega) (by omega)), hL.fr ?_ (fun p a b => f p (by omega) (by omega) (by omega)), hW⟩, fun p hp => (q _ (by omega)).trans (hd p hp)⟩, f⟩
  rw [f 0 (by omega) (by omega) (by omega)]
/-- debts after k years -/
def yD (D U T : Nat → Nat) (n : Nat) : Nat → Nat → Nat
  | 0 => D
  | k + 1 => yrD (yD D U T n k) U T n
theorem EC.years (h : EC W n N K F D U T Y 11 g) (y : Nat) (hy : Y + y ≤ 1800) (x2 : Int32) : ∃ g', lp (fX_ahead_L41 (i3 y) x2) fuel (i3 0, g) = some g' ∧ EC W n N K F (yD D U T n y) U T (Y + y) 11 g' ∧ FX2 11 g g' := by
  refine lp_all (fun k s => ∃ g1, s = (i3 k, g1) ∧ EC W n N K F (yD D U T n k) U T (Y + k) 11 g1 ∧ FX2 11 g g1) (fun g1 => EC W n N K F (yD D U T n y) U T (Y + y) 11 g1 ∧ FX2 11 g g1) y (by omega) ?_ ?_ ⟨g, rfl, h, FX2.rf⟩
  · rintro k s hk ⟨g1, rfl, h1, f1⟩
    obtain ⟨g2, e2, h2, f2⟩ := h1.passYear (by omega)
    refine ⟨_, ?_, g2, rfl, h2, f1.tr f2⟩
    simp (disch := (first | omega | assumption | trivial)) only [li_0, li_1, li_2, li_3, li_4, li_5, li_6, li_7, li_8, li_9, li_10, li_11, li_12, li_13, li_14, li_15, li_16, li_17, li_18, li_19, li_20, li_21, li_22, li_23, li_24, li_25, li_26, li_27, li_28, li_29, li_30, li_31, li_32, li_33, li_34, li_35, li_36, li_37, li_38, li_39, li_40, li_41, li_42, li_43, li_44, li_45, li_46, li_47, li_48, li_49, li_50, li_51, li_52, li_53, li_54, li_55, li_56, li_57, li_58, li_59, li_60, li_63, li_64, li_72, li_76, li_77, li_91, li_93, li_96, li_97, li_99, li_108, li_109, li_120, li_122, li_150, li_200, li_255, li_400, li_426, li_600, li_900, li_999, li_1000, li_1002, li_1003, li_2000, li_2042, li_2043, li_2045, li_10000, li_32767, li_100000, li_1000000, li_m1, li_m1b, ob_s, lt1_e, se_l, se_r, if_true, if_false, true_and, and_true, false_and, and_false, st_at, i3_add, i3_mul, i3_sub, i3_lt, i3_le, i3_eq, i3_nat, m1_eqi, i3_eqm, m1_lti, m1_lei, i3_ltm, i3_lem, i3_decm, i3_dec0, nm_eqm, yr_eqm, mxor0, Nat.zero_add, if_pos, if_neg, eq_self, ne_eq, not_true_eq_false, not_false_eq_true, fX_ahead_L41, e2]
  · rintro s ⟨g1, rfl, h1, f1⟩
    refine ⟨g1, ?_, h1, f1⟩
    simp (disch := (first | omega | assumption | trivial)) only [li_0, li_1, li_2, li_3, li_4, li_5, li_6, li_7, li_8, li_9, li_10, li_11, li_12, li_13, li_14, li_15, li_16, li_17, li_18, li_19, li_20, li_21, li_22, li_23, li_24, li_25, li_26, li_27, li_28, li_29, li_30, li_31, li_32, li_33, li_34, li_35, li_36, li_37, li_38, li_39, li_40, li_41, li_42, li_43, li_44, li_45, li_46, li_47, li_48, li_49, li_50, li_51, li_52, li_53, li_54, li_55, li_56, li_57, li_58, li_59, li_60, li_63, li_64, li_72, li_76, li_77, li_91, li_93, li_96, li_97, li_99, li_108, li_109, li_120, li_122, li_150, li_200, li_255, li_400, li_426, li_600, li_900, li_999, li_1000, li_1002, li_1003, li_2000, li_2042, li_2043, li_2045, li_10000, li_32767, li_100000, li_1000000, li_m1, li_m1b, ob_s, lt1_e, se_l, se_r, if_true, if_false, true_and, and_true, false_and, and_false, st_at, i3_add, i3_mul, i3_sub, i3_lt, i3_le, i3_eq, i3_nat, m1_eqi, i3_eqm, m1_lti, m1_lei, i3_ltm, i3_lem, i3_decm, i3_dec0, nm_eqm, yr_eqm, mxor0, Nat.zero_add, if_pos, if_neg, eq_self, ne_eq, not_true_eq_false, not_false_eq_true, fX_ahead_L41]
theorem EMd.years (h : EMd W n N K F D U T Y 17 g) (y : Nat) (hy : Y + y ≤ 1800) (x2 : Int32) : ∃ g', lp (fM_ahead_L53 (i3 y) x2) fuel (i3 0, g) = some g' ∧ EMd W n N K F (yD D U T n y) U T (Y + y) 17 g' ∧ FM2 17 g g' := by
  refine lp_all (fun k s => ∃ g1, s = (i3 k, g1) ∧ EMd W n N K F (yD D U T n k) U T (Y + k) 17 g1 ∧ FM2 17 g g1) (fun g1 => EMd W n N K F (yD D U T n y) U T (Y + y) 17 g1 ∧ FM2 17 g g1) y (by omega) ?_ ?_ ⟨g, rfl, h, FM2.rf⟩
  · rintro k s hk ⟨g1, rfl, h1, f1⟩
    obtain ⟨g2, e2, h2, f2⟩ := h1.yearEnds (by omega)
    refine ⟨_, ?_, g2, rfl, h2, f1.tr f2⟩
    simp (disch := (first | omega | assumption | trivial)) only [li_0, li_1, li_2, li_3, li_4, li_5, li_6, li_7, li_8, li_9, li_10, li_11, li_12, li_13, li_14, li_15, li_16, li_17, li_18, li_19, li_20, li_21, li_22, li_23, li_24, li_25, li_26, li_27, li_28, li_29, li_30, li_31, li_32, li_33, li_34, li_35, li_36, li_37, li_38, li_39, li_40, li_41, li_42, li_43, li_44, li_45, li_46, li_47, li_48, li_49, li_50, li_51, li_52, li_53, li_54, li_55, li_56, li_57, li_58, li_59, li_60, li_63, li_64, li_72, li_76, li_77, li_91, li_93, li_96, li_97, li_99, li_108, li_109, li_120, li_122, li_150, li_200, li_255, li_400, li_426, li_600, li_900, li_999, li_1000, li_1002, li_1003, li_2000, li_2042, li_2043, li_2045, li_10000, li_32767, li_100000, li_1000000, li_m1, li_m1b, ob_s, lt1_e, se_l, se_r, if_true, if_false, true_and, and_true, false_and, and_false, st_at, i3_add, i3_mul, i3_sub, i3_lt, i3_le, i3_eq, i3_nat, m1_eqi, i3_eqm, m1_lti, m1_lei, i3_ltm, i3_lem, i3_decm, i3_dec0, nm_eqm, yr_eqm, mxor0, Nat.zero_add, if_pos, if_neg, eq_self, ne_eq, not_true_eq_false, not_false_eq_true, fM_ahead_L53, e2]
  · rintro s ⟨g1, rfl, h1, f1⟩
    refine ⟨g1, ?_, h1, f1⟩
    simp (disch := (first | omega | assumption | trivial)) only [li_0, li_1, li_2, li_3, li_4, li_5, li_6, li_7, li_8, li_9, li_10, li_11, li_12, li_13, li_14, li_15, li_16, li_17, li_18, li_19, li_20, li_21, li_22, li_23, li_24, li_25, li_26, li_27, li_28, li_29, li_30, li_31, li_32, li_33, li_34, li_35, li_36, li_37, li_38, li_39, li_40, li_41, li_42, li_43, li_44, li_45, li_46, li_47, li_48, li_49, li_50, li_51, li_52, li_53, li_54, li_55, li_56, li_57, li_58, li_59, li_60, li_63, li_64, li_72, li_76, li_77, li_91, li_93, li_96, li_97, li_99, li_108, li_109, li_120, li_122, li_150, li_200, li_255, li_400, li_426, li_600, li_900, li_999, li_1000, li_1002, li_1003, li_2000, li_2042, li_2043, li_2045, li_10000, li_32767, li_100000, li_1000000, li_m1, li_m1b, ob_s, lt1_e, se_l, se_r, if_true, if_false, true_and, and_true, false_and, and_false, st_at, i3_add, i3_mul, i3_sub, i3_lt, i3_le, i3_eq, i3_nat, m1_eqi, i3_eqm, m1_lti, m1_lei, i3_ltm, i3_lem, i3_decm, i3_dec0, nm_eqm, yr_eqm, mxor0, Nat.zero_add, if_pos, if_neg, eq_self, ne_eq, not_true_eq_false, not_false_eq_true, fM_ahead_L53]
theorem EM.heiredL (h : EM W n N K F D U T Y 17 g) : ∃ g', lp fM_ahead_L107 fuel (i3 0, i3 0, g) = some (i3 (msk (fun p => decide (T p = 0 ∧ ¬ heir W n N K F D U T Y p = 8)) n), g') ∧ FM1 g g' := by
  have h8 := h.2.2.1.1
  have hY := h.2.2.1.2.2.2.2.1
  have hL : ∀ p, heir W n N K F D U T Y p = 8 ∨ heir W n N K F D U T Y p < 8 := fun p => heir_lt h8 h.2.2.2.2.2
  have key : ∃ z : Int32 × St, lp fM_ahead_L107 fuel (i3 0, i3 0, g) = some z ∧ z.1 = i3 (msk (fun p => decide (T p = 0 ∧ ¬ heir W n N K F D U T Y p = 8)) n) ∧ FM1 g z.2 := by
    refine lp_all (fun k s => ∃ g1, s = (i3 (msk (fun p => decide (T p = 0 ∧ ¬ heir W n N K F D U T Y p = 8)) k), i3 k, g1) ∧ FM1 g g1) (fun z : Int32 × St => z.1 = i3 (msk (fun p => decide (T p = 0 ∧ ¬ heir W n N K F D U T Y p = 8)) n) ∧ FM1 g z.2) n (by omega) ?_ ?_ ⟨g, rfl, FM1.rf⟩
    · rintro k s hk ⟨g1, rfl, f1⟩
      have h1 := h.fr f1
      have hn := h1.2.2.2.1.1
      have hl := h1.has hk
      have hk8 := hL k
      by_cases q : T k = 0
      · rw [if_pos q] at hl
        obtain ⟨g2, e2, f2⟩ := h1.lenderIf hk q (v := Y + 1) (by omega) (by omega)
        have e3 : fM_lenderIf 17 (i3 k) g1 = some (nm (heir W n N K F D U T Y k), g2) := e2
        by_cases q2 : heir W n N K F D U T Y k = 8
        · refine ⟨_, ?_, g2, by rw [msk_F (fun z => (of_decide_eq_true z).2 q2)], f1.tr f2⟩
          rw [nm_no (by omega)] at e3
          simp (disch := (first | omega | assumption | trivial)) only [li_0, li_1, li_2, li_3, li_4, li_5, li_6, li_7, li_8, li_9, li_10, li_11, li_12, li_13, li_14, li_15, li_16, li_17, li_18, li_19, li_20, li_21, li_22, li_23, li_24, li_25, li_26, li_27, li_28, li_29, li_30, li_31, li_32, li_33, li_34, li_35, li_36, li_37, li_38, li_39, li_40, li_41, li_42, li_43, li_44, li_45, li_46, li_47, li_48, li_49, li_50, li_51, li_52, li_53, li_54, li_55, li_56, li_57, li_58, li_59, li_60, li_63, li_64, li_72, li_76, li_77, li_91, li_93, li_96, li_97, li_99, li_108, li_109, li_120, li_122, li_150, li_200, li_255, li_400, li_426, li_600, li_900, li_999, li_1000, li_1002, li_1003, li_2000, li_2042, li_2043, li_2045, li_10000, li_32767, li_100000, li_1000000, li_m1, li_m1b, ob_s, lt1_e, se_l, se_r, if_true, if_false, true_and, and_true, false_and, and_false, st_at, i3_add, i3_mul, i3_sub, i3_lt, i3_le, i3_eq, i3_nat, m1_eqi, i3_eqm, m1_lti, m1_lei, i3_ltm, i3_lem, i3_decm, i3_dec0, nm_eqm, yr_eqm, mxor0, Nat.zero_add, if_pos, if_neg, eq_self, ne_eq, not_true_eq_false, not_false_eq_true, fM_ahead_L107, fM_ahead_b155, fM_ahead_b156, hn, hl, e3]
        · refine ⟨_, ?_, g2, by rw [msk_T (decide_eq_true ⟨q, q2⟩), ← bit_or _ (msk_lt8 _ (by omega)) k (by omega)], f1.tr f2⟩
          rw [nm_lt (by omega)] at e3
          simp (disch := (first | omega | assumption | trivial)) only [li_0, li_1, li_2, li_3, li_4, li_5, li_6, li_7, li_8, li_9, li_10, li_11, li_12, li_13, li_14, li_15, li_16, li_17, li_18, li_19, li_20, li_21, li_22, li_23, li_24, li_25, li_26, li_27, li_28, li_29, li_30, li_31, li_32, li_33, li_34, li_35, li_36, li_37, li_38, li_39, li_40, li_41, li_42, li_43, li_44, li_45, li_46, li_47, li_48, li_49, li_50, li_51, li_52, li_53, li_54, li_55, li_56, li_57, li_58, li_59, li_60, li_63, li_64, li_72, li_76, li_77, li_91, li_93, li_96, li_97, li_99, li_108, li_109, li_120, li_122, li_150, li_200, li_255, li_400, li_426, li_600, li_900, li_999, li_1000, li_1002, li_1003, li_2000, li_2042, li_2043, li_2045, li_10000, li_32767, li_100000, li_1000000, li_m1, li_m1b, ob_s, lt1_e, se_l, se_r, if_true, if_false, true_and, and_true, false_and, and_false, st_at, i3_add, i3_mul, i3_sub, i3_lt, i3_le, i3_eq, i3_nat, m1_eqi, i3_eqm, m1_lti, m1_lei, i3_ltm, i3_lem, i3_decm, i3_dec0, nm_eqm, yr_eqm, mxor0, Nat.zero_add, if_pos, if_neg, eq_self, ne_eq, not_true_eq_false, not_false_eq_true, fM_ahead_L107, fM_ahead_b155, fM_ahead_b156, hn, hl, e3, bit_sh]
      · rw [if_neg q] at hl
        refine ⟨_, ?_, g1, by rw [msk_F (fun z => q (of_decide_eq_true z).1)], f1⟩
        simp (disch := (first | omega | assumption | trivial)) only [li_0, li_1, li_2, li_3, li_4, li_5, li_6, li_7, li_8, li_9, li_10, li_11, li_12, li_13, li_14, li_15, li_16, li_17, li_18, li_19, li_20, li_21, li_22, li_23, li_24, li_25, li_26, li_27, li_28, li_29, li_30, li_31, li_32, li_33, li_34, li_35, li_36, li_37, li_38, li_39, li_40, li_41, li_42, li_43, li_44, li_45, li_46, li_47, li_48, li_49, li_50, li_51, li_52, li_53, li_54, li_55, li_56, li_57, li_58, li_59, li_60, li_63, li_64, li_72, li_76, li_77, li_91, li_93, li_96, li_97, li_99, li_108, li_109, li_120, li_122, li_150, li_200, li_255, li_400, li_426, li_600, li_900, li_999, li_1000, li_1002, li_1003, li_2000, li_2042, li_2043, li_2045, li_10000, li_32767, li_100000, li_1000000, li_m1, li_m1b, ob_s, lt1_e, se_l, se_r, if_true, if_false, true_and, and_true, false_and, and_false, st_at, i3_add, i3_mul, i3_sub, i3_lt, i3_le, i3_eq, i3_nat, m1_eqi, i3_eqm, m1_lti, m1_lei, i3_ltm, i3_lem, i3_decm, i3_dec0, nm_eqm, yr_eqm, mxor0, Nat.zero_add, if_pos, if_neg, eq_self, ne_eq, not_true_eq_false, not_false_eq_true, fM_ahead_L107, fM_ahead_b155, fM_ahead_b156, hn, hl]
    · rintro s ⟨g1, rfl, f1⟩
      have hn := (h.fr f1).2.2.2.1.1
      refine ⟨(i3 (msk (fun p => decide (T p = 0 ∧ ¬ heir W n N K F D U T Y p = 8)) n), g1), ?_, rfl, f1⟩
      simp (disch := (first | omega | assumption | trivial)) only [li_0, li_1, li_2, li_3, li_4, li_5, li_6, li_7, li_8, li_9, li_10, li_11, li_12, li_13, li_14, li_15, li_16, li_17, li_18, li_19, li_20, li_21, li_22, li_23, li_24, li_25, li_26, li_27, li_28, li_29, li_30, li_31, li_32, li_33, li_34, li_35, li_36, li_37, li_38, li_39, li_40, li_41, li_42, li_43, li_44, li_45, li_46, li_47, li_48, li_49, li_50, li_51, li_52, li_53, li_54, li_55, li_56, li_57, li_58, li_59, li_60, li_63, li_64, li_72, li_76, li_77, li_91, li_93, li_96, li_97, li_99, li_108, li_109, li_120, li_122, li_150, li_200, li_255, li_400, li_426, li_600, li_900, li_999, li_1000, li_1002, li_1003, li_2000, li_2042, li_2043, li_2045, li_10000, li_32767, li_100000, li_1000000, li_m1, li_m1b, ob_s, lt1_e, se_l, se_r, if_true, if_false, true_and, and_true, false_and, and_false, st_at, i3_add, i3_mul, i3_sub, i3_lt, i3_le, i3_eq, i3_nat, m1_eqi, i3_eqm, m1_lti, m1_lei, i3_ltm, i3_lem, i3_decm, i3_dec0, nm_eqm, yr_eqm, mxor0, Nat.zero_add, if_pos, if_neg, eq_self, ne_eq, not_true_eq_false, not_false_eq_true, fM_ahead_L107, hn]
  obtain ⟨⟨z1, g1⟩, e, rfl, f1⟩ := key
  exact ⟨g1, e, f1⟩
end TR
/-- what is drawn -/
def drS (x : Int32) : Int32 := x * 1103515245 + 12345
def drV (x : Int32) : Nat := (((x >>> ((16 : Int32) &&& 31)) &&& 32767).toBitVec).toNat
theorem drV_eq (x : Int32) : (x >>> (i3 16 &&& i3 31)) &&& i3 32767 = i3 (drV x) := by
  apply Int32.toBitVec_inj.mp
  show (((x >>> ((16 : Int32) &&& 31)) &&& 32767)).toBitVec = BitVec.ofNat 32 (drV x)
  unfold drV
  rw [BitVec.ofNat_toNat, BitVec.setWidth_eq]
theorem drV_lt (x : Int32) : drV x < 32768 := by
  unfold drV
  rw [Int32.toBitVec_and, BitVec.toNat_and]
  exact Nat.lt_of_le_of_lt Nat.and_le_right (by decide)
theorem i3_div {a b : Nat} (ha : a < 2147483648) (hb : b < 2147483648) : i3 a / i3 b = i3 (a / b) := by
  have h0 : a / b ≤ a := Nat.div_le_self a b
  apply Int32.toInt_inj.mp
  rw [Int32.toInt_div, i3_int ha, i3_int hb, i3_int (by omega), Int.tdiv_eq_ediv_of_nonneg (by omega)]
  have e : ((a : Int) / (b : Int)) = ((a / b : Nat) : Int) := (Int.natCast_ediv a b).symm
  rw [e]
  generalize a / b = c at h0 ⊢
  rw [Int.bmod_eq_of_le (by omega) (by omega)]
theorem i3_rem {a b : Nat} (ha : a < 2147483648) (hb : b < 2147483648) : i3 a - i3 a / i3 b * i3 b = i3 (a % b) := by
  have h0 : a / b * b ≤ a := Nat.div_mul_le_self a b
  rw [i3_div ha hb, i3_mul, i3_sub h0]
  have h1 := Nat.div_add_mod a b
  rw [Nat.mul_comm] at h1
  congr 1
  omega
theorem shr16 (x : Int32) : ((x.toUInt32 >>> ((i3 16).toUInt32 &&& Int32.toUInt32 (i3 31))).toInt32) &&& i3 32767 = (x >>> (i3 16 &&& i3 31)) &&& i3 32767 := by
  apply Int32.toBitVec_inj.mp
  rw [Int32.toBitVec_and, Int32.toBitVec_and, Int32.toBitVec_shiftRight]
  have e1 : ((x.toUInt32 >>> ((i3 16).toUInt32 &&& Int32.toUInt32 (i3 31))).toInt32).toBitVec = x.toBitVec >>> (16 : Nat) := rfl
  have e2 : (x.toBitVec.sshiftRight' ((i3 16 &&& i3 31).toBitVec.smod 32)) = x.toBitVec.sshiftRight 16 := by
    have e3 : ((i3 16 &&& i3 31).toBitVec.smod 32) = 16#32 := by decide
    rw [e3]
    rfl
  have e4 : (i3 32767).toBitVec = 32767#32 := rfl
  rw [e1, e2, e4]
  apply BitVec.eq_of_getLsbD_eq
  intro i hi
  rw [BitVec.getLsbD_and, BitVec.getLsbD_and]
  by_cases q : i < 15
  · rw [BitVec.getLsbD_ushiftRight, BitVec.getLsbD_sshiftRight]
    rw [if_pos (by omega), decide_eq_false (show ¬ 32 ≤ i by omega)]
    rfl
  · have e5 : (32767#32).getLsbD i = false := by
      rcases (show i = 15 ∨ i = 16 ∨ i = 17 ∨ i = 18 ∨ i = 19 ∨ i = 20 ∨ i = 21 ∨ i = 22 ∨ i = 23 ∨ i = 24 ∨ i = 25 ∨ i = 26 ∨ i = 27 ∨ i = 28 ∨ i = 29 ∨ i = 30 ∨ i = 31 by omega) with rfl | rfl | rfl | rfl | rfl | rfl | rfl | rfl | rfl | rfl | rfl | rfl | rfl | rfl | rfl | rfl | rfl <;> decide
    rw [e5, Bool.and_false, Bool.and_false]
theorem X_drawn {g : St} {n : Nat} (h0 : 0 < n) (h1 : n < 1000) : fX_drawn (i3 n) g = some (i3 (drV (drS (g 0 15)) % n), st g 0 15 (drS (g 0 15))) := by
  have e0 : g 0 15 * 1103515245 + i3 12345 = drS (g 0 15) := rfl
  have e1 := shr16 (drS (g 0 15))
  have e2 := drV_eq (drS (g 0 15))
  have e3 := drV_lt (drS (g 0 15))
  have e4 := i3_rem (a := drV (drS (g 0 15))) (b := n) (by omega) (by omega)
  have e5 : (12345 : Int32) = i3 12345 := rfl
  simp (disch := (first | omega | assumption | trivial)) only [li_0, li_1, li_2, li_3, li_4, li_5, li_6, li_7, li_8, li_9, li_10, li_11, li_12, li_13, li_14, li_15, li_16, li_17, li_18, li_19, li_20, li_21, li_22, li_23, li_24, li_25, li_26, li_27, li_28, li_29, li_30, li_31, li_32, li_33, li_34, li_35, li_36, li_37, li_38, li_39, li_40, li_41, li_42, li_43, li_44, li_45, li_46, li_47, li_48, li_49, li_50, li_51, li_52, li_53, li_54, li_55, li_56, li_57, li_58, li_59, li_60, li_63, li_64, li_72, li_76, li_77, li_91, li_93, li_96, li_97, li_99, li_108, li_109, li_120, li_122, li_150, li_200, li_255, li_400, li_426, li_600, li_900, li_999, li_1000, li_1002, li_1003, li_2000, li_2042, li_2043, li_2045, li_10000, li_32767, li_100000, li_1000000, li_m1, li_m1b, ob_s, lt1_e, se_l, se_r, if_true, if_false, true_and, and_true, false_and, and_false, st_at, i3_add, i3_mul, i3_sub, i3_lt, i3_le, i3_eq, i3_nat, m1_eqi, i3_eqm, m1_lti, m1_lei, i3_ltm, i3_lem, i3_decm, i3_dec0, nm_eqm, yr_eqm, mxor0, Nat.zero_add, if_pos, if_neg, eq_self, ne_eq, not_true_eq_false, not_false_eq_true, fX_drawn, e5, e0, e1, e2, e4]
theorem M_draw {g : St} {n : Nat} (h0 : 0 < n) (h1 : n < 1000) : fM_draw (i3 n) g = some (i3 (drV (drS (g 0 47)) % n), st g 0 47 (drS (g 0 47))) := by
  have e0 : g 0 47 * 1103515245 + i3 12345 = drS (g 0 47) := rfl
  have e2 := drV_eq (drS (g 0 47))
  have e3 := drV_lt (drS (g 0 47))
  have e4 := i3_rem (a := drV (drS (g 0 47))) (b := n) (by omega) (by omega)
  have e5 : (12345 : Int32) = i3 12345 := rfl
  simp (disch := (first | omega | assumption | trivial)) only [li_0, li_1, li_2, li_3, li_4, li_5, li_6, li_7, li_8, li_9, li_10, li_11, li_12, li_13, li_14, li_15, li_16, li_17, li_18, li_19, li_20, li_21, li_22, li_23, li_24, li_25, li_26, li_27, li_28, li_29, li_30, li_31, li_32, li_33, li_34, li_35, li_36, li_37, li_38, li_39, li_40, li_41, li_42, li_43, li_44, li_45, li_46, li_47, li_48, li_49, li_50, li_51, li_52, li_53, li_54, li_55, li_56, li_57, li_58, li_59, li_60, li_63, li_64, li_72, li_76, li_77, li_91, li_93, li_96, li_97, li_99, li_108, li_109, li_120, li_122, li_150, li_200, li_255, li_400, li_426, li_600, li_900, li_999, li_1000, li_1002, li_1003, li_2000, li_2042, li_2043, li_2045, li_10000, li_32767, li_100000, li_1000000, li_m1, li_m1b, ob_s, lt1_e, se_l, se_r, if_true, if_false, true_and, and_true, false_and, and_false, st_at, i3_add, i3_mul, i3_sub, i3_lt, i3_le, i3_eq, i3_nat, m1_eqi, i3_eqm, m1_lti, m1_lei, i3_ltm, i3_lem, i3_decm, i3_dec0, nm_eqm, yr_eqm, mxor0, Nat.zero_add, if_pos, if_neg, eq_self, ne_eq, not_true_eq_false, not_false_eq_true, fM_draw, e5, e0, e2, e4]
