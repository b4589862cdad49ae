/-! PURE: how likely enough come home -/
def wN (q : Nat) : Nat → Nat → Nat
  | 0, k => if k = 0 then 1 else 0
  | r + 1, 0 => wN q r 0 * q + 0 * (16 - q)
  | r + 1, k + 1 => wN q r (k + 1) * q + wN q r k * (16 - q)
def sW (f : Nat → Nat) : Nat → Nat
  | 0 => 0
  | k + 1 => sW f k + f k
def tW (f : Nat → Nat) (w : Nat) : Nat → Nat
  | 0 => 0
  | k + 1 => tW f w k + f (w + k)
theorem wN_0 {q : Nat} : ∀ r k, r < k → wN q r k = 0
  | 0, k, h => if_neg (by omega)
  | r + 1, 0, h => by omega
  | r + 1, k + 1, h => by
    show wN q r (k + 1) * q + wN q r k * (16 - q) = 0
    rw [wN_0 r (k + 1) (by omega), wN_0 r k (by omega), Nat.zero_mul, Nat.zero_mul]
theorem sW_s {q : Nat} (r : Nat) : ∀ k, sW (wN q (r + 1)) (k + 1) = sW (wN q r) (k + 1) * q + sW (wN q r) k * (16 - q)
  | 0 => by
    show 0 + (wN q r 0 * q + 0 * (16 - q)) = (0 + wN q r 0) * q + 0 * (16 - q)
    rw [Nat.zero_add, Nat.zero_add]
  | k + 1 => by
    have ih := sW_s (q := q) r k
    show sW (wN q (r + 1)) (k + 1) + (wN q r (k + 1) * q + wN q r k * (16 - q)) = (sW (wN q r) (k + 1) + wN q r (k + 1)) * q + (sW (wN q r) k + wN q r k) * (16 - q)
    rw [ih, Nat.add_mul, Nat.add_mul]
    omega
theorem sW_mono (f : Nat → Nat) (k : Nat) : sW f k ≤ sW f (k + 1) := Nat.le_add_right _ _
theorem sW_le {q : Nat} (hq : q ≤ 16) : ∀ r k, sW (wN q r) k ≤ 16 ^ r
  | 0, 0 => Nat.zero_le _
  | 0, k + 1 => by
    have ih := sW_le hq 0 k
    have e : ∀ j, sW (wN q 0) (j + 1) = 1 := fun j => by
      induction j with
      | zero => rfl
      | succ j ih2 =>
        show sW (wN q 0) (j + 1) + wN q 0 (j + 1) = 1
        rw [ih2]
        rfl
    rw [e]
    decide
  | r + 1, 0 => Nat.zero_le _
  | r + 1, k + 1 => by
    have h1 := sW_le hq r (k + 1)
    have h2 := sW_mono (wN q r) k
    rw [sW_s]
    have h3 : sW (wN q r) (k + 1) * q ≤ 16 ^ r * q := Nat.mul_le_mul_right _ h1
    have h4 : sW (wN q r) k * (16 - q) ≤ 16 ^ r * (16 - q) := Nat.mul_le_mul_right _ (by omega)
    have h5 : 16 ^ r * q + 16 ^ r * (16 - q) = 16 ^ (r + 1) := by
      rw [← Nat.mul_add, show q + (16 - q) = 16 by omega, Nat.pow_succ]
    omega
theorem tW_s (f : Nat → Nat) (w : Nat) : ∀ k, sW f w + tW f w k = sW f (w + k)
  | 0 => rfl
  | k + 1 => by
    have ih := tW_s f w k
    show sW f w + (tW f w k + f (w + k)) = sW f (w + k) + f (w + k)
    omega
theorem tW_end {f : Nat → Nat} {w a : Nat} (h : ∀ i, w + a ≤ i → f i = 0) : ∀ b, tW f w (a + b) = tW f w a
  | 0 => rfl
  | b + 1 => by
    have ih := tW_end h b
    show tW f w (a + b) + f (w + (a + b)) = tW f w a
    rw [h _ (by omega), ih, Nat.add_zero]
theorem i6_of {k : Nat} (h : k ≤ 16) : (i3 k).toInt64 = i6 k := by
  apply Int64.toInt_inj.mp
  rw [Int32.toInt_toInt64, i3_int (by omega), i6_int (by omega)]
theorem yr_dn : ∀ c, c ≤ 100 → i3 c + m1 = yr c
  | 0, _ => by decide
  | c + 1, h => by
    show i3 (c + 1) + m1 = i3 c
    rw [← i3_add c 1, Int32.add_assoc, show i3 1 + m1 = 0 by decide, Int32.add_zero]
section HX
variable {n2 q : Nat} {g : St} {x : Sl}
theorem initX (x1 x2 : Int32) (x : Sl) : ∃ x', lp (fX_weighNames_L2 x1 x2 g) fuel (i3 0, x) = some x' ∧ ∀ j, j < 13 → x' 15 j = i6 (wN q 0 j) := by
  refine lp_all (fun k z => ∃ y : Sl, z = (i3 k, y) ∧ ∀ j, j < k → y 15 j = i6 (wN q 0 j)) (fun y : Sl => ∀ j, j < 13 → y 15 j = i6 (wN q 0 j)) 13 (by omega) ?_ ?_ ⟨x, rfl, fun j hj => by omega⟩
  · rintro k z hk ⟨y, rfl, hy⟩
    refine ⟨(i3 (k + 1), sl y 15 k (i6 (wN q 0 k))), ?_, _, rfl, fun j hj => ?_⟩
    · by_cases e : k = 0
      · subst e
        show fX_weighNames_L2 x1 x2 g (i3 0, y) = some (.inl (i3 (0 + 1), sl y 15 0 (1 : Int64)))
        simp (disch := (first | omega | assumption | trivial)) only [li_0, li_1, li_2, li_3, li_4, li_5, li_6, li_7, li_8, li_9, li_10, li_11, li_12, li_13, li_14, li_15, li_16, li_17, li_18, li_19, li_20, li_21, li_22, li_23, li_24, li_25, li_26, li_27, li_28, li_29, li_30, li_31, li_32, li_33, li_34, li_35, li_36, li_37, li_38, li_39, li_40, li_41, li_42, li_43, li_44, li_45, li_46, li_47, li_48, li_49, li_50, li_51, li_52, li_53, li_54, li_55, li_56, li_57, li_58, li_59, li_60, li_63, li_64, li_72, li_76, li_77, li_91, li_93, li_96, li_97, li_99, li_108, li_109, li_120, li_122, li_150, li_200, li_255, li_400, li_426, li_600, li_900, li_999, li_1000, li_1002, li_1003, li_2000, li_2042, li_2043, li_2045, li_10000, li_32767, li_100000, li_1000000, li_m1, li_m1b, ob_s, lt1_e, se_l, se_r, if_true, if_false, true_and, and_true, false_and, and_false, st_at, i3_add, i3_mul, i3_sub, i3_lt, i3_le, i3_eq, i3_nat, m1_eqi, i3_eqm, m1_lti, m1_lei, i3_ltm, i3_lem, i3_decm, i3_dec0, nm_eqm, yr_eqm, mxor0, Nat.zero_add, if_pos, if_neg, eq_self, ne_eq, not_true_eq_false, not_false_eq_true, fX_weighNames_L2, fX_weighNames_b25]
      · rw [wN_0 0 k (by omega)]
        show fX_weighNames_L2 x1 x2 g (i3 k, y) = some (.inl (i3 (k + 1), sl y 15 k (0 : Int64)))
        simp (disch := (first | omega | assumption | trivial)) only [li_0, li_1, li_2, li_3, li_4, li_5, li_6, li_7, li_8, li_9, li_10, li_11, li_12, li_13, li_14, li_15, li_16, li_17, li_18, li_19, li_20, li_21, li_22, li_23, li_24, li_25, li_26, li_27, li_28, li_29, li_30, li_31, li_32, li_33, li_34, li_35, li_36, li_37, li_38, li_39, li_40, li_41, li_42, li_43, li_44, li_45, li_46, li_47, li_48, li_49, li_50, li_51, li_52, li_53, li_54, li_55, li_56, li_57, li_58, li_59, li_60, li_63, li_64, li_72, li_76, li_77, li_91, li_93, li_96, li_97, li_99, li_108, li_109, li_120, li_122, li_150, li_200, li_255, li_400, li_426, li_600, li_900, li_999, li_1000, li_1002, li_1003, li_2000, li_2042, li_2043, li_2045, li_10000, li_32767, li_100000, li_1000000, li_m1, li_m1b, ob_s, lt1_e, se_l, se_r, if_true, if_false, true_and, and_true, false_and, and_false, st_at, i3_add, i3_mul, i3_sub, i3_lt, i3_le, i3_eq, i3_nat, m1_eqi, i3_eqm, m1_lti, m1_lei, i3_ltm, i3_lem, i3_decm, i3_dec0, nm_eqm, yr_eqm, mxor0, Nat.zero_add, if_pos, if_neg, eq_self, ne_eq, not_true_eq_false, not_false_eq_true, fX_weighNames_L2, fX_weighNames_b25]
    · rw [sl_at]
      by_cases e : j = k
      · rw [if_pos ⟨rfl, e⟩, e]
      · rw [if_neg (fun z => e z.2)]; exact hy j (by omega)
  · rintro z ⟨y, rfl, hy⟩
    refine ⟨y, ?_, hy⟩
    simp (disch := (first | omega | assumption | trivial)) only [li_0, li_1, li_2, li_3, li_4, li_5, li_6, li_7, li_8, li_9, li_10, li_11, li_12, li_13, li_14, li_15, li_16, li_17, li_18, li_19, li_20, li_21, li_22, li_23, li_24, li_25, li_26, li_27, li_28, li_29, li_30, li_31, li_32, li_33, li_34, li_35, li_36, li_37, li_38, li_39, li_40, li_41, li_42, li_43, li_44, li_45, li_46, li_47, li_48, li_49, li_50, li_51, li_52, li_53, li_54, li_55, li_56, li_57, li_58, li_59, li_60, li_63, li_64, li_72, li_76, li_77, li_91, li_93, li_96, li_97, li_99, li_108, li_109, li_120, li_122, li_150, li_200, li_255, li_400, li_426, li_600, li_900, li_999, li_1000, li_1002, li_1003, li_2000, li_2042, li_2043, li_2045, li_10000, li_32767, li_100000, li_1000000, li_m1, li_m1b, ob_s, lt1_e, se_l, se_r, if_true, if_false, true_and, and_true, false_and, and_false, st_at, i3_add, i3_mul, i3_sub, i3_lt, i3_le, i3_eq, i3_nat, m1_eqi, i3_eqm, m1_lti, m1_lei, i3_ltm, i3_lem, i3_decm, i3_dec0, nm_eqm, yr_eqm, mxor0, Nat.zero_add, if_pos, if_neg, eq_self, ne_eq, not_true_eq_false, not_false_eq_true, fX_weighNames_L2]
theorem initM (x1 x2 x3 x4 : Int32) (x : Sl) : ∃ x', lp (fM_home_L64 x1 x2 x3 x4 g) fuel (i3 0, x) = some x' ∧ ∀ j, j < 14 → x' 25 j = i6 (wN q 0 j) := by
  refine lp_all (fun k z => ∃ y : Sl, z = (i3 k, y) ∧ ∀ j, j < k → y 25 j = i6 (wN q 0 j)) (fun y : Sl => ∀ j, j < 14 → y 25 j = i6 (wN q 0 j)) 14 (by omega) ?_ ?_ ⟨x, rfl, fun j hj => by omega⟩
  · rintro k z hk ⟨y, rfl, hy⟩
    refine ⟨(i3 (k + 1), sl y 25 k (i6 (wN q 0 k))), ?_, _, rfl, fun j hj => ?_⟩
    · by_cases e : k = 0
      · subst e
        show fM_home_L64 x1 x2 x3 x4 g (i3 0, y) = some (.inl (i3 (0 + 1), sl y 25 0 (1 : Int64)))
        simp (disch := (first | omega | assumption | trivial)) only [li_0, li_1, li_2, li_3, li_4, li_5, li_6, li_7, li_8, li_9, li_10, li_11, li_12, li_13, li_14, li_15, li_16, li_17, li_18, li_19, li_20, li_21, li_22, li_23, li_24, li_25, li_26, li_27, li_28, li_29, li_30, li_31, li_32, li_33, li_34, li_35, li_36, li_37, li_38, li_39, li_40, li_41, li_42, li_43, li_44, li_45, li_46, li_47, li_48, li_49, li_50, li_51, li_52, li_53, li_54, li_55, li_56, li_57, li_58, li_59, li_60, li_63, li_64, li_72, li_76, li_77, li_91, li_93, li_96, li_97, li_99, li_108, li_109, li_120, li_122, li_150, li_200, li_255, li_400, li_426, li_600, li_900, li_999, li_1000, li_1002, li_1003, li_2000, li_2042, li_2043, li_2045, li_10000, li_32767, li_100000, li_1000000, li_m1, li_m1b, ob_s, lt1_e, se_l, se_r, if_true, if_false, true_and, and_true, false_and, and_false, st_at, i3_add, i3_mul, i3_sub, i3_lt, i3_le, i3_eq, i3_nat, m1_eqi, i3_eqm, m1_lti, m1_lei, i3_ltm, i3_lem, i3_decm, i3_dec0, nm_eqm, yr_eqm, mxor0, Nat.zero_add, if_pos, if_neg, eq_self, ne_eq, not_true_eq_false, not_false_eq_true, fM_home_L64, fM_home_b87]
      · rw [wN_0 0 k (by omega)]
        show fM_home_L64 x1 x2 x3 x4 g (i3 k, y) = some (.inl (i3 (k + 1), sl y 25 k (0 : Int64)))
        simp (disch := (first | omega | assumption | trivial)) only [li_0, li_1, li_2, li_3, li_4, li_5, li_6, li_7, li_8, li_9, li_10, li_11, li_12, li_13, li_14, li_15, li_16, li_17, li_18, li_19, li_20, li_21, li_22, li_23, li_24, li_25, li_26, li_27, li_28, li_29, li_30, li_31, li_32, li_33, li_34, li_35, li_36, li_37, li_38, li_39, li_40, li_41, li_42, li_43, li_44, li_45, li_46, li_47, li_48, li_49, li_50, li_51, li_52, li_53, li_54, li_55, li_56, li_57, li_58, li_59, li_60, li_63, li_64, li_72, li_76, li_77, li_91, li_93, li_96, li_97, li_99, li_108, li_109, li_120, li_122, li_150, li_200, li_255, li_400, li_426, li_600, li_900, li_999, li_1000, li_1002, li_1003, li_2000, li_2042, li_2043, li_2045, li_10000, li_32767, li_100000, li_1000000, li_m1, li_m1b, ob_s, lt1_e, se_l, se_r, if_true, if_false, true_and, and_true, false_and, and_false, st_at, i3_add, i3_mul, i3_sub, i3_lt, i3_le, i3_eq, i3_nat, m1_eqi, i3_eqm, m1_lti, m1_lei, i3_ltm, i3_lem, i3_decm, i3_dec0, nm_eqm, yr_eqm, mxor0, Nat.zero_add, if_pos, if_neg, eq_self, ne_eq, not_true_eq_false, not_false_eq_true, fM_home_L64, fM_home_b87]
    · rw [sl_at]
      by_cases e : j = k
      · rw [if_pos ⟨rfl, e⟩, e]
      · rw [if_neg (fun z => e z.2)]; exact hy j (by omega)
  · rintro z ⟨y, rfl, hy⟩
    refine ⟨y, ?_, hy⟩
    simp (disch := (first | omega | assumption | trivial)) only [li_0, li_1, li_2, li_3, li_4, li_5, li_6, li_7, li_8, li_9, li_10, li_11, li_12, li_13, li_14, li_15, li_16, li_17, li_18, li_19, li_20, li_21, li_22, li_23, li_24, li_25, li_26, li_27, li_28, li_29, li_30, li_31, li_32, li_33, li_34, li_35, li_36, li_37, li_38, li_39, li_40, li_41, li_42, li_43, li_44, li_45, li_46, li_47, li_48, li_49, li_50, li_51, li_52, li_53, li_54, li_55, li_56, li_57, li_58, li_59, li_60, li_63, li_64, li_72, li_76, li_77, li_91, li_93, li_96, li_97, li_99, li_108, li_109, li_120, li_122, li_150, li_200, li_255, li_400, li_426, li_600, li_900, li_999, li_1000, li_1002, li_1003, li_2000, li_2042, li_2043, li_2045, li_10000, li_32767, li_100000, li_1000000, li_m1, li_m1b, ob_s, lt1_e, se_l, se_r, if_true, if_false, true_and, and_true, false_and, and_false, st_at, i3_add, i3_mul, i3_sub, i3_lt, i3_le, i3_eq, i3_nat, m1_eqi, i3_eqm, m1_lti, m1_lei, i3_ltm, i3_lem, i3_decm, i3_dec0, nm_eqm, yr_eqm, mxor0, Nat.zero_add, if_pos, if_neg, eq_self, ne_eq, not_true_eq_false, not_false_eq_true, fM_home_L64]
theorem rowHX {r : Nat} (hq : q ≤ 16) (x1 x3 : Int32) (hx : ∀ j, j < 13 → x 15 j = i6 (wN q r j)) : ∃ x', lp (fX_weighNames_L48 x1 (i3 q) x3 g) fuel (i3 12, x) = some x' ∧ ∀ j, j < 13 → x' 15 j = i6 (wN q (r + 1) j) := by
  refine lp_all (fun k z => ∃ y : Sl, z = (yr (13 - k), y) ∧ ∀ j, j < 13 → y 15 j = i6 (wN q (if 13 - k ≤ j then r + 1 else r) j)) (fun y : Sl => ∀ j, j < 13 → y 15 j = i6 (wN q (r + 1) j)) 13 (by omega) ?_ ?_ ⟨x, rfl, fun j hj => by rw [if_neg (by omega)]; exact hx j hj⟩
  · rintro k z hk ⟨y, rfl, hy⟩
    obtain ⟨c, hc⟩ : ∃ c, 13 - k = c + 1 := ⟨12 - k, by omega⟩
    have hc2 : 13 - (k + 1) = c := by omega
    rw [hc] at hy
    rw [hc, hc2]
    have q1 := i6_of (show q ≤ 16 from hq)
    have q2 := i6_of (show 16 - q ≤ 16 by omega)
    have yc := hy c (by omega)
    rw [if_neg (by omega)] at yc
    have hdn := yr_dn c (by omega)
    have key : fX_weighNames_L48 x1 (i3 q) x3 g (i3 c, y) = some (.inl (i3 c + m1, sl y 15 c (i6 (wN q (r + 1) c)))) := by
      rcases c with _ | c
      · have e : i6 (wN q r 0) * i6 q + (0 : Int64) * i6 (16 - q) = i6 (wN q (r + 1) 0) := by
          show i6 (wN q r 0) * i6 q + i6 0 * i6 (16 - q) = i6 (wN q r 0 * q + 0 * (16 - q))
          rw [i6_mul, i6_mul, i6_add]
        simp (disch := (first | omega | assumption | trivial)) only [li_0, li_1, li_2, li_3, li_4, li_5, li_6, li_7, li_8, li_9, li_10, li_11, li_12, li_13, li_14, li_15, li_16, li_17, li_18, li_19, li_20, li_21, li_22, li_23, li_24, li_25, li_26, li_27, li_28, li_29, li_30, li_31, li_32, li_33, li_34, li_35, li_36, li_37, li_38, li_39, li_40, li_41, li_42, li_43, li_44, li_45, li_46, li_47, li_48, li_49, li_50, li_51, li_52, li_53, li_54, li_55, li_56, li_57, li_58, li_59, li_60, li_63, li_64, li_72, li_76, li_77, li_91, li_93, li_96, li_97, li_99, li_108, li_109, li_120, li_122, li_150, li_200, li_255, li_400, li_426, li_600, li_900, li_999, li_1000, li_1002, li_1003, li_2000, li_2042, li_2043, li_2045, li_10000, li_32767, li_100000, li_1000000, li_m1, li_m1b, ob_s, lt1_e, se_l, se_r, if_true, if_false, true_and, and_true, false_and, and_false, st_at, i3_add, i3_mul, i3_sub, i3_lt, i3_le, i3_eq, i3_nat, m1_eqi, i3_eqm, m1_lti, m1_lei, i3_ltm, i3_lem, i3_decm, i3_dec0, nm_eqm, yr_eqm, mxor0, Nat.zero_add, if_pos, if_neg, eq_self, ne_eq, not_true_eq_false, not_false_eq_true, fX_weighNames_L48, fX_weighNames_b71, yc, q1, q2, e]
      · have yb := hy c (by omega)
        have hcc : c + 1 - 1 = c := rfl
        rw [if_neg (by omega)] at yb
        have e : i6 (wN q r (c + 1)) * i6 q + i6 (wN q r c) * i6 (16 - q) = i6 (wN q (r + 1) (c + 1)) := by
          show _ = i6 (wN q r (c + 1) * q + wN q r c * (16 - q))
          rw [i6_mul, i6_mul, i6_add]
        simp (disch := (first | omega | assumption | trivial)) only [li_0, li_1, li_2, li_3, li_4, li_5, li_6, li_7, li_8, li_9, li_10, li_11, li_12, li_13, li_14, li_15, li_16, li_17, li_18, li_19, li_20, li_21, li_22, li_23, li_24, li_25, li_26, li_27, li_28, li_29, li_30, li_31, li_32, li_33, li_34, li_35, li_36, li_37, li_38, li_39, li_40, li_41, li_42, li_43, li_44, li_45, li_46, li_47, li_48, li_49, li_50, li_51, li_52, li_53, li_54, li_55, li_56, li_57, li_58, li_59, li_60, li_63, li_64, li_72, li_76, li_77, li_91, li_93, li_96, li_97, li_99, li_108, li_109, li_120, li_122, li_150, li_200, li_255, li_400, li_426, li_600, li_900, li_999, li_1000, li_1002, li_1003, li_2000, li_2042, li_2043, li_2045, li_10000, li_32767, li_100000, li_1000000, li_m1, li_m1b, ob_s, lt1_e, se_l, se_r, if_true, if_false, true_and, and_true, false_and, and_false, st_at, i3_add, i3_mul, i3_sub, i3_lt, i3_le, i3_eq, i3_nat, m1_eqi, i3_eqm, m1_lti, m1_lei, i3_ltm, i3_lem, i3_decm, i3_dec0, nm_eqm, yr_eqm, mxor0, Nat.zero_add, if_pos, if_neg, eq_self, ne_eq, not_true_eq_false, not_false_eq_true, fX_weighNames_L48, fX_weighNames_b71, yc, hcc, yb, q1, q2, e]
    rw [hdn] at key
    refine ⟨_, key, _, rfl, fun j hj => ?_⟩
    rw [sl_at]
    by_cases e : j = c
    · rw [if_pos ⟨rfl, e⟩, e, if_pos (Nat.le_refl c)]
    · rw [if_neg (fun z => e z.2), hy j hj]
      by_cases e2 : c + 1 ≤ j
      · rw [if_pos e2, if_pos (by omega)]
      · rw [if_neg e2, if_neg (by omega)]
  · rintro z ⟨y, rfl, hy⟩
    refine ⟨y, ?_, fun j hj => by rw [hy j hj, if_pos (by omega)]⟩
    show fX_weighNames_L48 x1 (i3 q) x3 g (m1, y) = _
    simp (disch := (first | omega | assumption | trivial)) only [li_0, li_1, li_2, li_3, li_4, li_5, li_6, li_7, li_8, li_9, li_10, li_11, li_12, li_13, li_14, li_15, li_16, li_17, li_18, li_19, li_20, li_21, li_22, li_23, li_24, li_25, li_26, li_27, li_28, li_29, li_30, li_31, li_32, li_33, li_34, li_35, li_36, li_37, li_38, li_39, li_40, li_41, li_42, li_43, li_44, li_45, li_46, li_47, li_48, li_49, li_50, li_51, li_52, li_53, li_54, li_55, li_56, li_57, li_58, li_59, li_60, li_63, li_64, li_72, li_76, li_77, li_91, li_93, li_96, li_97, li_99, li_108, li_109, li_120, li_122, li_150, li_200, li_255, li_400, li_426, li_600, li_900, li_999, li_1000, li_1002, li_1003, li_2000, li_2042, li_2043, li_2045, li_10000, li_32767, li_100000, li_1000000, li_m1, li_m1b, ob_s, lt1_e, se_l, se_r, if_true, if_false, true_and, and_true, false_and, and_false, st_at, i3_add, i3_mul, i3_sub, i3_lt, i3_le, i3_eq, i3_nat, m1_eqi, i3_eqm, m1_lti, m1_lei, i3_ltm, i3_lem, i3_decm, i3_dec0, nm_eqm, yr_eqm, mxor0, Nat.zero_add, if_pos, if_neg, eq_self, ne_eq, not_true_eq_false, not_false_eq_true, fX_weighNames_L48]
theorem rowHM {r : Nat} (hq : q ≤ 16) (x1 x2 x4 x5 : Int32) (hx : ∀ j, j < 14 → x 25 j = i6 (wN q r j)) : ∃ x', lp (fM_home_L107 x1 x2 (i3 q) x4 x5 g) fuel (i3 13, x) = some x' ∧ ∀ j, j < 14 → x' 25 j = i6 (wN q (r + 1) j) := by
  refine lp_all (fun k z => ∃ y : Sl, z = (yr (14 - k), y) ∧ ∀ j, j < 14 → y 25 j = i6 (wN q (if 14 - k ≤ j then r + 1 else r) j)) (fun y : Sl => ∀ j, j < 14 → y 25 j = i6 (wN q (r + 1) j)) 14 (by omega) ?_ ?_ ⟨x, rfl, fun j hj => by rw [if_neg (by omega)]; exact hx j hj⟩
  · rintro k z hk ⟨y, rfl, hy⟩
    obtain ⟨c, hc⟩ : ∃ c, 14 - k = c + 1 := ⟨13 - k, by omega⟩
    have hc2 : 14 - (k + 1) = c := by omega
    rw [hc] at hy
    rw [hc, hc2]
    have q1 := i6_of (show q ≤ 16 from hq)
    have q2 := i6_of (show 16 - q ≤ 16 by omega)
    have yc := hy c (by omega)
    rw [if_neg (by omega)] at yc
    have hdn := yr_dn c (by omega)
    have key : fM_home_L107 x1 x2 (i3 q) x4 x5 g (i3 c, y) = some (.inl (i3 c + m1, sl y 25 c (i6 (wN q (r + 1) c)))) := by
      rcases c with _ | c
      · have e : i6 (wN q r 0) * i6 q + (0 : Int64) = i6 (wN q (r + 1) 0) := by
          show i6 (wN q r 0) * i6 q + i6 0 = i6 (wN q r 0 * q + 0 * (16 - q))
          rw [i6_mul, i6_add, Nat.zero_mul]
        simp (disch := (first | omega | assumption | trivial)) only [li_0, li_1, li_2, li_3, li_4, li_5, li_6, li_7, li_8, li_9, li_10, li_11, li_12, li_13, li_14, li_15, li_16, li_17, li_18, li_19, li_20, li_21, li_22, li_23, li_24, li_25, li_26, li_27, li_28, li_29, li_30, li_31, li_32, li_33, li_34, li_35, li_36, li_37, li_38, li_39, li_40, li_41, li_42, li_43, li_44, li_45, li_46, li_47, li_48, li_49, li_50, li_51, li_52, li_53, li_54, li_55, li_56, li_57, li_58, li_59, li_60, li_63, li_64, li_72, li_76, li_77, li_91, li_93, li_96, li_97, li_99, li_108, li_109, li_120, li_122, li_150, li_200, li_255, li_400, li_426, li_600, li_900, li_999, li_1000, li_1002, li_1003, li_2000, li_2042, li_2043, li_2045, li_10000, li_32767, li_100000, li_1000000, li_m1, li_m1b, ob_s, lt1_e, se_l, se_r, if_true, if_false, true_and, and_true, false_and, and_false, st_at, i3_add, i3_mul, i3_sub, i3_lt, i3_le, i3_eq, i3_nat, m1_eqi, i3_eqm, m1_lti, m1_lei, i3_ltm, i3_lem, i3_decm, i3_dec0, nm_eqm, yr_eqm, mxor0, Nat.zero_add, if_pos, if_neg, eq_self, ne_eq, not_true_eq_false, not_false_eq_true, fM_home_L107, fM_home_b152, yc, q1, q2, e]
      · have yb := hy c (by omega)
        have hcc : c + 1 - 1 = c := rfl
        rw [if_neg (by omega)] at yb
        have e : i6 (wN q r (c + 1)) * i6 q + i6 (wN q r c) * i6 (16 - q) = i6 (wN q (r + 1) (c + 1)) := by
          show _ = i6 (wN q r (c + 1) * q + wN q r c * (16 - q))
          rw [i6_mul, i6_mul, i6_add]
        simp (disch := (first | omega | assumption | trivial)) only [li_0, li_1, li_2, li_3, li_4, li_5, li_6, li_7, li_8, li_9, li_10, li_11, li_12, li_13, li_14, li_15, li_16, li_17, li_18, li_19, li_20, li_21, li_22, li_23, li_24, li_25, li_26, li_27, li_28, li_29, li_30, li_31, li_32, li_33, li_34, li_35, li_36, li_37, li_38, li_39, li_40, li_41, li_42, li_43, li_44, li_45, li_46, li_47, li_48, li_49, li_50, li_51, li_52, li_53, li_54, li_55, li_56, li_57, li_58, li_59, li_60, li_63, li_64, li_72, li_76, li_77, li_91, li_93, li_96, li_97, li_99, li_108, li_109, li_120, li_122, li_150, li_200, li_255, li_400, li_426, li_600, li_900, li_999, li_1000, li_1002, li_1003, li_2000, li_2042, li_2043, li_2045, li_10000, li_32767, li_100000, li_1000000, li_m1, li_m1b, ob_s, lt1_e, se_l, se_r, if_true, if_false, true_and, and_true, false_and, and_false, st_at, i3_add, i3_mul, i3_sub, i3_lt, i3_le, i3_eq, i3_nat, m1_eqi, i3_eqm, m1_lti, m1_lei, i3_ltm, i3_lem, i3_decm, i3_dec0, nm_eqm, yr_eqm, mxor0, Nat.zero_add, if_pos, if_neg, eq_self, ne_eq, not_true_eq_false, not_false_eq_true, fM_home_L107, fM_home_b152, yc, hcc, yb, q1, q2, e]
    rw [hdn] at key
    refine ⟨_, key, _, rfl, fun j hj => ?_⟩
    rw [sl_at]
    by_cases e : j = c
    · rw [if_pos ⟨rfl, e⟩, e, if_pos (Nat.le_refl c)]
    · rw [if_neg (fun z => e z.2), hy j hj]
      by_cases e2 : c + 1 ≤ j
      · rw [if_pos e2, if_pos (by omega)]
      · rw [if_neg e2, if_neg (by omega)]
  · rintro z ⟨y, rfl, hy⟩
    refine ⟨y, ?_, fun j hj => by rw [hy j hj, if_pos (by omega)]⟩
    show fM_home_L107 x1 x2 (i3 q) x4 x5 g (m1, y) = _
    simp (disch := (first | omega | assumption | trivial)) only [li_0, li_1, li_2, li_3, li_4, li_5, li_6, li_7, li_8, li_9, li_10, li_11, li_12, li_13, li_14, li_15, li_16, li_17, li_18, li_19, li_20, li_21, li_22, li_23, li_24, li_25, li_26, li_27, li_28, li_29, li_30, li_31, li_32, li_33, li_34, li_35, li_36, li_37, li_38, li_39, li_40, li_41, li_42, li_43, li_44, li_45, li_46, li_47, li_48, li_49, li_50, li_51, li_52, li_53, li_54, li_55, li_56, li_57, li_58, li_59, li_60, li_63, li_64, li_72, li_76, li_77, li_91, li_93, li_96, li_97, li_99, li_108, li_109, li_120, li_122, li_150, li_200, li_255, li_400, li_426, li_600, li_900, li_999, li_1000, li_1002, li_1003, li_2000, li_2042, li_2043, li_2045, li_10000, li_32767, li_100000, li_1000000, li_m1, li_m1b, ob_s, lt1_e, se_l, se_r, if_true, if_false, true_and, and_true, false_and, and_false, st_at, i3_add, i3_mul, i3_sub, i3_lt, i3_le, i3_eq, i3_nat, m1_eqi, i3_eqm, m1_lti, m1_lei, i3_ltm, i3_lem, i3_decm, i3_dec0, nm_eqm, yr_eqm, mxor0, Nat.zero_add, if_pos, if_neg, eq_self, ne_eq, not_true_eq_false, not_false_eq_true, fM_home_L107]
end HX
