/-! PURE: sums and sets for the calls that ask -/
theorem sumN_add (f h : Nat → Nat) : ∀ n, sumN (fun a => f a + h a) n = sumN f n + sumN h n
  | 0 => rfl
  | n + 1 => by
    show sumN (fun a => f a + h a) n + (f n + h n) = (sumN f n + f n) + (sumN h n + h n)
    rw [sumN_add f h n]
    omega
theorem sumN_delta (u : Nat) : ∀ n, sumN (fun a => if u = a then 1 else 0) n = if u < n then 1 else 0
  | 0 => rfl
  | n + 1 => by
    show sumN (fun a => if u = a then 1 else 0) n + (if u = n then 1 else 0) = _
    rw [sumN_delta u n]
    by_cases q : u = n
    · rw [if_pos q, if_neg (by omega), if_pos (by omega)]
    · by_cases q2 : u < n
      · rw [if_neg q, if_pos q2, if_pos (by omega)]
      · rw [if_neg q, if_neg q2, if_neg (by omega)]
theorem sum_cnt (U : Nat → Nat) (n : Nat) : ∀ m, sumN (fun a => cntB (fun p => decide (U p = a)) m) n = cntB (fun p => decide (U p < n)) m
  | 0 => by
    show sumN (fun _ => 0) n = 0
    have h := sumN_le (f := fun _ => 0) (B := 0) n (fun _ _ => Nat.le_refl _)
    omega
  | m + 1 => by
    have e : (fun a => cntB (fun p => decide (U p = a)) (m + 1)) = fun a => cntB (fun p => decide (U p = a)) m + if U m = a then 1 else 0 := by
      funext a
      by_cases q : U m = a
      · rw [cnt_T (by simp [q]), if_pos q]
      · rw [cnt_F (by simp [q]), if_neg q, Nat.add_zero]
    rw [e, sumN_add, sum_cnt U n m, sumN_delta]
    by_cases q : U m < n
    · rw [if_pos q, cnt_T (by simp [q])]
    · rw [if_neg q, cnt_F (by simp [q]), Nat.add_zero]
theorem named_eq {n : Nat} {D U T : Nat → Nat} {Y : Nat} (hB : BD n D U T Y) : sumN (st8 U) n = cntB (fun p => decide (¬ U p = 8)) 8 := by
  have e := sum_cnt U n 8
  refine e.trans (cnt_congr 8 (fun p hp => decide_eq_decide.mpr ?_))
  have h1 := hB.2.2.1 p hp
  have h2 := hB.1
  omega
/-- whose names those who live would have -/
def hrs (L : Nat → Nat) (T : Nat → Nat) : Nat → Nat
  | 0 => 0
  | k + 1 => if T k = 0 ∧ ¬ L k = 8 then hrs L T k ||| 1 <<< L k else hrs L T k
theorem one_lt {a n : Nat} (h : a < n) : 1 <<< a < 2 ^ n := by
  rw [Nat.one_shiftLeft]
  exact Nat.pow_lt_pow_right (by decide) h
theorem hrs_lt {L T : Nat → Nat} (hL : ∀ p, L p = 8 ∨ L p < 8) : ∀ k, hrs L T k < 256
  | 0 => by show 0 < 256; omega
  | k + 1 => by
    have h := hrs_lt (T := T) hL k
    have h2 := hL k
    show (if T k = 0 ∧ ¬ L k = 8 then hrs L T k ||| 1 <<< L k else hrs L T k) < 256
    by_cases q : T k = 0 ∧ ¬ L k = 8
    · rw [if_pos q]
      exact Nat.or_lt_two_pow (n := 8) h (one_lt (by omega))
    · rw [if_neg q]; exact h
/-- the lender of each, did it die now -/
def heir (W : (Nat → Nat) → Nat) (n N : Nat) (K F D U T : Nat → Nat) (Y : Nat) (b : Nat) : Nat := lnd W n N K F D U (updN T b (Y + 1)) Y b
theorem heir_lt {W : (Nat → Nat) → Nat} {n N : Nat} {K F D U T : Nat → Nat} {Y b : Nat} (h8 : n ≤ 8) (hW : ∀ f, W f ≤ 99) : heir W n N K F D U T Y b = 8 ∨ heir W n N K F D U T Y b < 8 := by
  have h := lnd_lt (W := W) (n := n) (N := N) (K := K) (F := F) (D := D) (U := U) (T := updN T b (Y + 1)) (Y := Y) (b := b) hW
  unfold heir
  omega
section HE
variable {W : (Nat → Nat) → Nat} {n N : Nat} {K F D U T : Nat → Nat} {Y r th : Nat} {g : St}
theorem EC.heirs (h : EC W n N K F D U T Y th g) : ∃ g', fX_State_heirs th g = some (i3 (hrs (heir W n N K F D U T Y) T n), g') ∧ FX1 g g' := by
  have h8 := h.2.2.1.1
  have hL : ∀ p, heir W n N K F D U T Y p = 8 ∨ heir W n N K F D U T Y p < 8 := fun p => heir_lt h8 h.2.2.2.2.2
  have key : ∃ z : Int32 × St, lp (fX_State_heirs_L4 th) fuel (i3 0, i3 0, g) = some z ∧ z.1 = i3 (hrs (heir W n N K F D U T Y) T n) ∧ FX1 g z.2 := by
    refine lp_all (fun k s => ∃ g1, s = (i3 (hrs (heir W n N K F D U T Y) T k), i3 k, g1) ∧ FX1 g g1) (fun z : Int32 × St => z.1 = i3 (hrs (heir W n N K F D U T Y) T n) ∧ FX1 g z.2) n (by omega) ?_ ?_ ⟨g, rfl, FX1.rf⟩
    · rintro k s hk ⟨g1, rfl, f1⟩
      have h1 := h.fr f1
      have hn := h1.2.2.2.1.1
      have hl := h1.lives hk
      have hm := hrs_lt (T := T) hL k
      have hk8 := hL k
      have es : hrs (heir W n N K F D U T Y) T (k + 1) = if T k = 0 ∧ ¬ heir W n N K F D U T Y k = 8 then hrs (heir W n N K F D U T Y) T k ||| 1 <<< heir W n N K F D U T Y k else hrs (heir W n N K F D U T Y) T k := rfl
      by_cases q : T k = 0
      · rw [if_pos q] at hl
        obtain ⟨g2, e2, f2⟩ := h1.heirOf hk
        have e3 : fX_State_heirOf th (i3 k) g1 = some (nm (heir W n N K F D U T Y k), g2) := e2
        by_cases q2 : heir W n N K F D U T Y k = 8
        · rw [if_neg (fun z => z.2 q2)] at es
          refine ⟨_, ?_, g2, by rw [es], f1.tr f2⟩
          rw [nm_no (by omega)] at e3
          simp (disch := (first | omega | assumption | trivial)) only [li_0, li_1, li_2, li_3, li_4, li_5, li_6, li_7, li_8, li_9, li_10, li_11, li_12, li_13, li_14, li_15, li_16, li_17, li_18, li_19, li_20, li_21, li_22, li_23, li_24, li_25, li_26, li_27, li_28, li_29, li_30, li_31, li_32, li_33, li_34, li_35, li_36, li_37, li_38, li_39, li_40, li_41, li_42, li_43, li_44, li_45, li_46, li_47, li_48, li_49, li_50, li_51, li_52, li_53, li_54, li_55, li_56, li_57, li_58, li_59, li_60, li_63, li_64, li_72, li_76, li_77, li_91, li_93, li_96, li_97, li_99, li_108, li_109, li_120, li_122, li_150, li_200, li_255, li_400, li_426, li_600, li_900, li_999, li_1000, li_1002, li_1003, li_2000, li_2042, li_2043, li_2045, li_10000, li_32767, li_100000, li_1000000, li_m1, li_m1b, ob_s, lt1_e, se_l, se_r, if_true, if_false, true_and, and_true, false_and, and_false, st_at, i3_add, i3_mul, i3_sub, i3_lt, i3_le, i3_eq, i3_nat, m1_eqi, i3_eqm, m1_lti, m1_lei, i3_ltm, i3_lem, i3_decm, i3_dec0, nm_eqm, yr_eqm, mxor0, Nat.zero_add, if_pos, if_neg, eq_self, ne_eq, not_true_eq_false, not_false_eq_true, fX_State_heirs_L4, fX_State_heirs_b32, fX_State_heirs_b44, hn, hl, e3]
        · rw [if_pos ⟨q, q2⟩] at es
          refine ⟨_, ?_, g2, by rw [es, ← bit_or _ hm _ (by omega)], f1.tr f2⟩
          rw [nm_lt (by omega)] at e3
          simp (disch := (first | omega | assumption | trivial)) only [li_0, li_1, li_2, li_3, li_4, li_5, li_6, li_7, li_8, li_9, li_10, li_11, li_12, li_13, li_14, li_15, li_16, li_17, li_18, li_19, li_20, li_21, li_22, li_23, li_24, li_25, li_26, li_27, li_28, li_29, li_30, li_31, li_32, li_33, li_34, li_35, li_36, li_37, li_38, li_39, li_40, li_41, li_42, li_43, li_44, li_45, li_46, li_47, li_48, li_49, li_50, li_51, li_52, li_53, li_54, li_55, li_56, li_57, li_58, li_59, li_60, li_63, li_64, li_72, li_76, li_77, li_91, li_93, li_96, li_97, li_99, li_108, li_109, li_120, li_122, li_150, li_200, li_255, li_400, li_426, li_600, li_900, li_999, li_1000, li_1002, li_1003, li_2000, li_2042, li_2043, li_2045, li_10000, li_32767, li_100000, li_1000000, li_m1, li_m1b, ob_s, lt1_e, se_l, se_r, if_true, if_false, true_and, and_true, false_and, and_false, st_at, i3_add, i3_mul, i3_sub, i3_lt, i3_le, i3_eq, i3_nat, m1_eqi, i3_eqm, m1_lti, m1_lei, i3_ltm, i3_lem, i3_decm, i3_dec0, nm_eqm, yr_eqm, mxor0, Nat.zero_add, if_pos, if_neg, eq_self, ne_eq, not_true_eq_false, not_false_eq_true, fX_State_heirs_L4, fX_State_heirs_b32, fX_State_heirs_b44, hn, hl, e3, bit_sh]
      · rw [if_neg q] at hl
        rw [if_neg (fun z => q z.1)] at es
        refine ⟨_, ?_, g1, by rw [es], f1⟩
        simp (disch := (first | omega | assumption | trivial)) only [li_0, li_1, li_2, li_3, li_4, li_5, li_6, li_7, li_8, li_9, li_10, li_11, li_12, li_13, li_14, li_15, li_16, li_17, li_18, li_19, li_20, li_21, li_22, li_23, li_24, li_25, li_26, li_27, li_28, li_29, li_30, li_31, li_32, li_33, li_34, li_35, li_36, li_37, li_38, li_39, li_40, li_41, li_42, li_43, li_44, li_45, li_46, li_47, li_48, li_49, li_50, li_51, li_52, li_53, li_54, li_55, li_56, li_57, li_58, li_59, li_60, li_63, li_64, li_72, li_76, li_77, li_91, li_93, li_96, li_97, li_99, li_108, li_109, li_120, li_122, li_150, li_200, li_255, li_400, li_426, li_600, li_900, li_999, li_1000, li_1002, li_1003, li_2000, li_2042, li_2043, li_2045, li_10000, li_32767, li_100000, li_1000000, li_m1, li_m1b, ob_s, lt1_e, se_l, se_r, if_true, if_false, true_and, and_true, false_and, and_false, st_at, i3_add, i3_mul, i3_sub, i3_lt, i3_le, i3_eq, i3_nat, m1_eqi, i3_eqm, m1_lti, m1_lei, i3_ltm, i3_lem, i3_decm, i3_dec0, nm_eqm, yr_eqm, mxor0, Nat.zero_add, if_pos, if_neg, eq_self, ne_eq, not_true_eq_false, not_false_eq_true, fX_State_heirs_L4, fX_State_heirs_b32, fX_State_heirs_b44, hn, hl]
    · rintro s ⟨g1, rfl, f1⟩
      have hn := (h.fr f1).2.2.2.1.1
      refine ⟨(i3 (hrs (heir W n N K F D U T Y) T n), g1), ?_, rfl, f1⟩
      simp (disch := (first | omega | assumption | trivial)) only [li_0, li_1, li_2, li_3, li_4, li_5, li_6, li_7, li_8, li_9, li_10, li_11, li_12, li_13, li_14, li_15, li_16, li_17, li_18, li_19, li_20, li_21, li_22, li_23, li_24, li_25, li_26, li_27, li_28, li_29, li_30, li_31, li_32, li_33, li_34, li_35, li_36, li_37, li_38, li_39, li_40, li_41, li_42, li_43, li_44, li_45, li_46, li_47, li_48, li_49, li_50, li_51, li_52, li_53, li_54, li_55, li_56, li_57, li_58, li_59, li_60, li_63, li_64, li_72, li_76, li_77, li_91, li_93, li_96, li_97, li_99, li_108, li_109, li_120, li_122, li_150, li_200, li_255, li_400, li_426, li_600, li_900, li_999, li_1000, li_1002, li_1003, li_2000, li_2042, li_2043, li_2045, li_10000, li_32767, li_100000, li_1000000, li_m1, li_m1b, ob_s, lt1_e, se_l, se_r, if_true, if_false, true_and, and_true, false_and, and_false, st_at, i3_add, i3_mul, i3_sub, i3_lt, i3_le, i3_eq, i3_nat, m1_eqi, i3_eqm, m1_lti, m1_lei, i3_ltm, i3_lem, i3_decm, i3_dec0, nm_eqm, yr_eqm, mxor0, Nat.zero_add, if_pos, if_neg, eq_self, ne_eq, not_true_eq_false, not_false_eq_true, fX_State_heirs_L4, hn]
  obtain ⟨⟨z1, g1⟩, e, rfl, f1⟩ := key
  refine ⟨g1, ?_, f1⟩
  simp only [fX_State_heirs, fX_State_heirs_b4, li_0, li_1, li_2, li_3, li_4, li_5, li_6, li_7, li_8, li_9, li_10, li_11, li_12, li_13, li_14, li_15, li_16, li_17, li_18, li_19, li_20, li_21, li_22, li_23, li_24, li_25, li_26, li_27, li_28, li_29, li_30, li_31, li_32, li_33, li_34, li_35, li_36, li_37, li_38, li_39, li_40, li_41, li_42, li_43, li_44, li_45, li_46, li_47, li_48, li_49, li_50, li_51, li_52, li_53, li_54, li_55, li_56, li_57, li_58, li_59, li_60, li_63, li_64, li_72, li_76, li_77, li_91, li_93, li_96, li_97, li_99, li_108, li_109, li_120, li_122, li_150, li_200, li_255, li_400, li_426, li_600, li_900, li_999, li_1000, li_1002, li_1003, li_2000, li_2042, li_2043, li_2045, li_10000, li_32767, li_100000, li_1000000, li_m1, li_m1b]
  rw [e]
  rfl
theorem EC.heired (h : EC W n N K F D U T Y th g) : ∃ g', fX_State_heired th g = some (i3 (msk (fun p => decide (T p = 0 ∧ ¬ heir W n N K F D U T Y p = 8)) n), g') ∧ FX1 g g' := by
  have h8 := h.2.2.1.1
  have hL : ∀ p, heir W n N K F D U T Y p = 8 ∨ heir W n N K F D U T Y p < 8 := fun p => heir_lt h8 h.2.2.2.2.2
  have key : ∃ z : Int32 × St, lp (fX_State_heired_L4 th) fuel (i3 0, i3 0, g) = some z ∧ z.1 = i3 (msk (fun p => decide (T p = 0 ∧ ¬ heir W n N K F D U T Y p = 8)) n) ∧ FX1 g z.2 := by
    refine lp_all (fun k s => ∃ g1, s = (i3 (msk (fun p => decide (T p = 0 ∧ ¬ heir W n N K F D U T Y p = 8)) k), i3 k, g1) ∧ FX1 g g1) (fun z : Int32 × St => z.1 = i3 (msk (fun p => decide (T p = 0 ∧ ¬ heir W n N K F D U T Y p = 8)) n) ∧ FX1 g z.2) n (by omega) ?_ ?_ ⟨g, rfl, FX1.rf⟩
    · rintro k s hk ⟨g1, rfl, f1⟩
      have h1 := h.fr f1
      have hn := h1.2.2.2.1.1
      have hl := h1.lives hk
      have hk8 := hL k
      by_cases q : T k = 0
      · rw [if_pos q] at hl
        obtain ⟨g2, e2, f2⟩ := h1.heirOf hk
        have e3 : fX_State_heirOf th (i3 k) g1 = some (nm (heir W n N K F D U T Y k), g2) := e2
        by_cases q2 : heir W n N K F D U T Y k = 8
        · refine ⟨_, ?_, g2, by rw [msk_F (fun z => (of_decide_eq_true z).2 q2)], f1.tr f2⟩
          rw [nm_no (by omega)] at e3
          simp (disch := (first | omega | assumption | trivial)) only [li_0, li_1, li_2, li_3, li_4, li_5, li_6, li_7, li_8, li_9, li_10, li_11, li_12, li_13, li_14, li_15, li_16, li_17, li_18, li_19, li_20, li_21, li_22, li_23, li_24, li_25, li_26, li_27, li_28, li_29, li_30, li_31, li_32, li_33, li_34, li_35, li_36, li_37, li_38, li_39, li_40, li_41, li_42, li_43, li_44, li_45, li_46, li_47, li_48, li_49, li_50, li_51, li_52, li_53, li_54, li_55, li_56, li_57, li_58, li_59, li_60, li_63, li_64, li_72, li_76, li_77, li_91, li_93, li_96, li_97, li_99, li_108, li_109, li_120, li_122, li_150, li_200, li_255, li_400, li_426, li_600, li_900, li_999, li_1000, li_1002, li_1003, li_2000, li_2042, li_2043, li_2045, li_10000, li_32767, li_100000, li_1000000, li_m1, li_m1b, ob_s, lt1_e, se_l, se_r, if_true, if_false, true_and, and_true, false_and, and_false, st_at, i3_add, i3_mul, i3_sub, i3_lt, i3_le, i3_eq, i3_nat, m1_eqi, i3_eqm, m1_lti, m1_lei, i3_ltm, i3_lem, i3_decm, i3_dec0, nm_eqm, yr_eqm, mxor0, Nat.zero_add, if_pos, if_neg, eq_self, ne_eq, not_true_eq_false, not_false_eq_true, fX_State_heired_L4, fX_State_heired_b38, hn, hl, e3]
        · refine ⟨_, ?_, g2, by rw [msk_T (decide_eq_true ⟨q, q2⟩), ← bit_or _ (msk_lt8 _ (by omega)) k (by omega)], f1.tr f2⟩
          rw [nm_lt (by omega)] at e3
          simp (disch := (first | omega | assumption | trivial)) only [li_0, li_1, li_2, li_3, li_4, li_5, li_6, li_7, li_8, li_9, li_10, li_11, li_12, li_13, li_14, li_15, li_16, li_17, li_18, li_19, li_20, li_21, li_22, li_23, li_24, li_25, li_26, li_27, li_28, li_29, li_30, li_31, li_32, li_33, li_34, li_35, li_36, li_37, li_38, li_39, li_40, li_41, li_42, li_43, li_44, li_45, li_46, li_47, li_48, li_49, li_50, li_51, li_52, li_53, li_54, li_55, li_56, li_57, li_58, li_59, li_60, li_63, li_64, li_72, li_76, li_77, li_91, li_93, li_96, li_97, li_99, li_108, li_109, li_120, li_122, li_150, li_200, li_255, li_400, li_426, li_600, li_900, li_999, li_1000, li_1002, li_1003, li_2000, li_2042, li_2043, li_2045, li_10000, li_32767, li_100000, li_1000000, li_m1, li_m1b, ob_s, lt1_e, se_l, se_r, if_true, if_false, true_and, and_true, false_and, and_false, st_at, i3_add, i3_mul, i3_sub, i3_lt, i3_le, i3_eq, i3_nat, m1_eqi, i3_eqm, m1_lti, m1_lei, i3_ltm, i3_lem, i3_decm, i3_dec0, nm_eqm, yr_eqm, mxor0, Nat.zero_add, if_pos, if_neg, eq_self, ne_eq, not_true_eq_false, not_false_eq_true, fX_State_heired_L4, fX_State_heired_b38, hn, hl, e3, bit_sh]
      · rw [if_neg q] at hl
        refine ⟨_, ?_, g1, by rw [msk_F (fun z => q (of_decide_eq_true z).1)], f1⟩
        simp (disch := (first | omega | assumption | trivial)) only [li_0, li_1, li_2, li_3, li_4, li_5, li_6, li_7, li_8, li_9, li_10, li_11, li_12, li_13, li_14, li_15, li_16, li_17, li_18, li_19, li_20, li_21, li_22, li_23, li_24, li_25, li_26, li_27, li_28, li_29, li_30, li_31, li_32, li_33, li_34, li_35, li_36, li_37, li_38, li_39, li_40, li_41, li_42, li_43, li_44, li_45, li_46, li_47, li_48, li_49, li_50, li_51, li_52, li_53, li_54, li_55, li_56, li_57, li_58, li_59, li_60, li_63, li_64, li_72, li_76, li_77, li_91, li_93, li_96, li_97, li_99, li_108, li_109, li_120, li_122, li_150, li_200, li_255, li_400, li_426, li_600, li_900, li_999, li_1000, li_1002, li_1003, li_2000, li_2042, li_2043, li_2045, li_10000, li_32767, li_100000, li_1000000, li_m1, li_m1b, ob_s, lt1_e, se_l, se_r, if_true, if_false, true_and, and_true, false_and, and_false, st_at, i3_add, i3_mul, i3_sub, i3_lt, i3_le, i3_eq, i3_nat, m1_eqi, i3_eqm, m1_lti, m1_lei, i3_ltm, i3_lem, i3_decm, i3_dec0, nm_eqm, yr_eqm, mxor0, Nat.zero_add, if_pos, if_neg, eq_self, ne_eq, not_true_eq_false, not_false_eq_true, fX_State_heired_L4, fX_State_heired_b38, hn, hl]
    · rintro s ⟨g1, rfl, f1⟩
      have hn := (h.fr f1).2.2.2.1.1
      refine ⟨(i3 (msk (fun p => decide (T p = 0 ∧ ¬ heir W n N K F D U T Y p = 8)) n), g1), ?_, rfl, f1⟩
      simp (disch := (first | omega | assumption | trivial)) only [li_0, li_1, li_2, li_3, li_4, li_5, li_6, li_7, li_8, li_9, li_10, li_11, li_12, li_13, li_14, li_15, li_16, li_17, li_18, li_19, li_20, li_21, li_22, li_23, li_24, li_25, li_26, li_27, li_28, li_29, li_30, li_31, li_32, li_33, li_34, li_35, li_36, li_37, li_38, li_39, li_40, li_41, li_42, li_43, li_44, li_45, li_46, li_47, li_48, li_49, li_50, li_51, li_52, li_53, li_54, li_55, li_56, li_57, li_58, li_59, li_60, li_63, li_64, li_72, li_76, li_77, li_91, li_93, li_96, li_97, li_99, li_108, li_109, li_120, li_122, li_150, li_200, li_255, li_400, li_426, li_600, li_900, li_999, li_1000, li_1002, li_1003, li_2000, li_2042, li_2043, li_2045, li_10000, li_32767, li_100000, li_1000000, li_m1, li_m1b, ob_s, lt1_e, se_l, se_r, if_true, if_false, true_and, and_true, false_and, and_false, st_at, i3_add, i3_mul, i3_sub, i3_lt, i3_le, i3_eq, i3_nat, m1_eqi, i3_eqm, m1_lti, m1_lei, i3_ltm, i3_lem, i3_decm, i3_dec0, nm_eqm, yr_eqm, mxor0, Nat.zero_add, if_pos, if_neg, eq_self, ne_eq, not_true_eq_false, not_false_eq_true, fX_State_heired_L4, hn]
  obtain ⟨⟨z1, g1⟩, e, rfl, f1⟩ := key
  refine ⟨g1, ?_, f1⟩
  simp only [fX_State_heired, fX_State_heired_b4, li_0, li_1, li_2, li_3, li_4, li_5, li_6, li_7, li_8, li_9, li_10, li_11, li_12, li_13, li_14, li_15, li_16, li_17, li_18, li_19, li_20, li_21, li_22, li_23, li_24, li_25, li_26, li_27, li_28, li_29, li_30, li_31, li_32, li_33, li_34, li_35, li_36, li_37, li_38, li_39, li_40, li_41, li_42, li_43, li_44, li_45, li_46, li_47, li_48, li_49, li_50, li_51, li_52, li_53, li_54, li_55, li_56, li_57, li_58, li_59, li_60, li_63, li_64, li_72, li_76, li_77, li_91, li_93, li_96, li_97, li_99, li_108, li_109, li_120, li_122, li_150, li_200, li_255, li_400, li_426, li_600, li_900, li_999, li_1000, li_1002, li_1003, li_2000, li_2042, li_2043, li_2045, li_10000, li_32767, li_100000, li_1000000, li_m1, li_m1b]
  rw [e]
  rfl
theorem EM.toldL (h : EM W n N K F D U T Y 16 g) (x1 : Int32) : ∃ g', lp (fM_told_L38 x1) fuel (i3 0, i3 0, i3 0, g) = some (i3 (sumN (st8 U) n), i3 (hrs (heir W n N K F D U T Y) T n), g') ∧ FM1 g g' := by
  have h8 := h.2.2.1.1
  have hY := h.2.2.1.2.2.2.2.1
  have hL : ∀ p, heir W n N K F D U T Y p = 8 ∨ heir W n N K F D U T Y p < 8 := fun p => heir_lt h8 h.2.2.2.2.2
  have key : ∃ z : Int32 × Int32 × St, lp (fM_told_L38 x1) fuel (i3 0, i3 0, i3 0, g) = some z ∧ z.1 = i3 (sumN (st8 U) n) ∧ z.2.1 = i3 (hrs (heir W n N K F D U T Y) T n) ∧ FM1 g z.2.2 := by
    refine lp_all (fun k s => ∃ g1, s = (i3 (sumN (st8 U) k), i3 (hrs (heir W n N K F D U T Y) T k), i3 k, g1) ∧ FM1 g g1) (fun z : Int32 × Int32 × St => z.1 = i3 (sumN (st8 U) n) ∧ z.2.1 = i3 (hrs (heir W n N K F D U T Y) T n) ∧ FM1 g z.2.2) n (by omega) ?_ ?_ ⟨g, rfl, FM1.rf⟩
    · rintro k s hk ⟨g1, rfl, f1⟩
      have h1 := h.fr f1
      have hn := h1.2.2.2.1.1
      have hl := h1.has hk
      have hm := hrs_lt (T := T) hL k
      have hk8 := hL k
      have es : hrs (heir W n N K F D U T Y) T (k + 1) = if T k = 0 ∧ ¬ heir W n N K F D U T Y k = 8 then hrs (heir W n N K F D U T Y) T k ||| 1 <<< heir W n N K F D U T Y k else hrs (heir W n N K F D U T Y) T k := rfl
      have es2 : sumN (st8 U) (k + 1) = sumN (st8 U) k + st8 U k := rfl
      by_cases q : T k = 0
      · rw [if_pos q] at hl
        obtain ⟨g2, e2, f2⟩ := h1.lenderIf hk q (v := Y + 1) (by omega) (by omega)
        have e3 : fM_lenderIf 16 (i3 k) g1 = some (nm (heir W n N K F D U T Y k), g2) := e2
        have hs := (h1.fr f2).stones (a := k) (by omega)
        by_cases q2 : heir W n N K F D U T Y k = 8
        · rw [if_neg (fun z => z.2 q2)] at es
          refine ⟨_, ?_, g2, by rw [es, es2], f1.tr f2⟩
          rw [nm_no (by omega)] at e3
          simp (disch := (first | omega | assumption | trivial)) only [li_0, li_1, li_2, li_3, li_4, li_5, li_6, li_7, li_8, li_9, li_10, li_11, li_12, li_13, li_14, li_15, li_16, li_17, li_18, li_19, li_20, li_21, li_22, li_23, li_24, li_25, li_26, li_27, li_28, li_29, li_30, li_31, li_32, li_33, li_34, li_35, li_36, li_37, li_38, li_39, li_40, li_41, li_42, li_43, li_44, li_45, li_46, li_47, li_48, li_49, li_50, li_51, li_52, li_53, li_54, li_55, li_56, li_57, li_58, li_59, li_60, li_63, li_64, li_72, li_76, li_77, li_91, li_93, li_96, li_97, li_99, li_108, li_109, li_120, li_122, li_150, li_200, li_255, li_400, li_426, li_600, li_900, li_999, li_1000, li_1002, li_1003, li_2000, li_2042, li_2043, li_2045, li_10000, li_32767, li_100000, li_1000000, li_m1, li_m1b, ob_s, lt1_e, se_l, se_r, if_true, if_false, true_and, and_true, false_and, and_false, st_at, i3_add, i3_mul, i3_sub, i3_lt, i3_le, i3_eq, i3_nat, m1_eqi, i3_eqm, m1_lti, m1_lei, i3_ltm, i3_lem, i3_decm, i3_dec0, nm_eqm, yr_eqm, mxor0, Nat.zero_add, if_pos, if_neg, eq_self, ne_eq, not_true_eq_false, not_false_eq_true, fM_told_L38, fM_told_b78, fM_told_b108, hn, hl, e3, hs]
        · rw [if_pos ⟨q, q2⟩] at es
          refine ⟨_, ?_, g2, by rw [es, es2, ← bit_or _ hm _ (by omega)], f1.tr f2⟩
          rw [nm_lt (by omega)] at e3
          simp (disch := (first | omega | assumption | trivial)) only [li_0, li_1, li_2, li_3, li_4, li_5, li_6, li_7, li_8, li_9, li_10, li_11, li_12, li_13, li_14, li_15, li_16, li_17, li_18, li_19, li_20, li_21, li_22, li_23, li_24, li_25, li_26, li_27, li_28, li_29, li_30, li_31, li_32, li_33, li_34, li_35, li_36, li_37, li_38, li_39, li_40, li_41, li_42, li_43, li_44, li_45, li_46, li_47, li_48, li_49, li_50, li_51, li_52, li_53, li_54, li_55, li_56, li_57, li_58, li_59, li_60, li_63, li_64, li_72, li_76, li_77, li_91, li_93, li_96, li_97, li_99, li_108, li_109, li_120, li_122, li_150, li_200, li_255, li_400, li_426, li_600, li_900, li_999, li_1000, li_1002, li_1003, li_2000, li_2042, li_2043, li_2045, li_10000, li_32767, li_100000, li_1000000, li_m1, li_m1b, ob_s, lt1_e, se_l, se_r, if_true, if_false, true_and, and_true, false_and, and_false, st_at, i3_add, i3_mul, i3_sub, i3_lt, i3_le, i3_eq, i3_nat, m1_eqi, i3_eqm, m1_lti, m1_lei, i3_ltm, i3_lem, i3_decm, i3_dec0, nm_eqm, yr_eqm, mxor0, Nat.zero_add, if_pos, if_neg, eq_self, ne_eq, not_true_eq_false, not_false_eq_true, fM_told_L38, fM_told_b78, fM_told_b108, hn, hl, e3, hs, bit_sh]
      · rw [if_neg q] at hl
        rw [if_neg (fun z => q z.1)] at es
        have hs := h1.stones (a := k) (by omega)
        refine ⟨_, ?_, g1, by rw [es, es2], f1⟩
        simp (disch := (first | omega | assumption | trivial)) only [li_0, li_1, li_2, li_3, li_4, li_5, li_6, li_7, li_8, li_9, li_10, li_11, li_12, li_13, li_14, li_15, li_16, li_17, li_18, li_19, li_20, li_21, li_22, li_23, li_24, li_25, li_26, li_27, li_28, li_29, li_30, li_31, li_32, li_33, li_34, li_35, li_36, li_37, li_38, li_39, li_40, li_41, li_42, li_43, li_44, li_45, li_46, li_47, li_48, li_49, li_50, li_51, li_52, li_53, li_54, li_55, li_56, li_57, li_58, li_59, li_60, li_63, li_64, li_72, li_76, li_77, li_91, li_93, li_96, li_97, li_99, li_108, li_109, li_120, li_122, li_150, li_200, li_255, li_400, li_426, li_600, li_900, li_999, li_1000, li_1002, li_1003, li_2000, li_2042, li_2043, li_2045, li_10000, li_32767, li_100000, li_1000000, li_m1, li_m1b, ob_s, lt1_e, se_l, se_r, if_true, if_false, true_and, and_true, false_and, and_false, st_at, i3_add, i3_mul, i3_sub, i3_lt, i3_le, i3_eq, i3_nat, m1_eqi, i3_eqm, m1_lti, m1_lei, i3_ltm, i3_lem, i3_decm, i3_dec0, nm_eqm, yr_eqm, mxor0, Nat.zero_add, if_pos, if_neg, eq_self, ne_eq, not_true_eq_false, not_false_eq_true, fM_told_L38, fM_told_b78, fM_told_b108, hn, hl, hs]
    · rintro s ⟨g1, rfl, f1⟩
      have hn := (h.fr f1).2.2.2.1.1
      refine ⟨(i3 (sumN (st8 U) n), i3 (hrs (heir W n N K F D U T Y) T n), g1), ?_, rfl, rfl, f1⟩
      simp (disch := (first | omega | assumption | trivial)) only [li_0, li_1, li_2, li_3, li_4, li_5, li_6, li_7, li_8, li_9, li_10, li_11, li_12, li_13, li_14, li_15, li_16, li_17, li_18, li_19, li_20, li_21, li_22, li_23, li_24, li_25, li_26, li_27, li_28, li_29, li_30, li_31, li_32, li_33, li_34, li_35, li_36, li_37, li_38, li_39, li_40, li_41, li_42, li_43, li_44, li_45, li_46, li_47, li_48, li_49, li_50, li_51, li_52, li_53, li_54, li_55, li_56, li_57, li_58, li_59, li_60, li_63, li_64, li_72, li_76, li_77, li_91, li_93, li_96, li_97, li_99, li_108, li_109, li_120, li_122, li_150, li_200, li_255, li_400, li_426, li_600, li_900, li_999, li_1000, li_1002, li_1003, li_2000, li_2042, li_2043, li_2045, li_10000, li_32767, li_100000, li_1000000, li_m1, li_m1b, ob_s, lt1_e, se_l, se_r, if_true, if_false, true_and, and_true, false_and, and_false, st_at, i3_add, i3_mul, i3_sub, i3_lt, i3_le, i3_eq, i3_nat, m1_eqi, i3_eqm, m1_lti, m1_lei, i3_ltm, i3_lem, i3_decm, i3_dec0, nm_eqm, yr_eqm, mxor0, Nat.zero_add, if_pos, if_neg, eq_self, ne_eq, not_true_eq_false, not_false_eq_true, fM_told_L38, hn]
  obtain ⟨⟨z1, z2, g1⟩, e, rfl, rfl, f1⟩ := key
  exact ⟨g1, e, f1⟩
/-- the first of most stones -/
def mxs (U : Nat → Nat) : Nat → Nat × Nat
  | 0 => (8, 0)
  | k + 1 => if (mxs U k).2 < st8 U k then (k, st8 U k) else mxs U k
theorem mxs_ok (U : Nat → Nat) : ∀ k, k ≤ 8 → (((mxs U k).1 = 8 ∧ (mxs U k).2 = 0) ∨ (mxs U k).1 < k) ∧ (mxs U k).2 ≤ 8
  | 0, _ => ⟨Or.inl ⟨rfl, rfl⟩, by show 0 ≤ 8; omega⟩
  | k + 1, h => by
    have h1 := mxs_ok U k (by omega)
    have h2 := st8_le U k
    rw [show mxs U (k + 1) = if (mxs U k).2 < st8 U k then (k, st8 U k) else mxs U k from rfl]
    by_cases q : (mxs U k).2 < st8 U k
    · rw [if_pos q]; exact ⟨Or.inr (by show k < k + 1; omega), h2⟩
    · rw [if_neg q]; exact ⟨by omega, h1.2⟩
theorem EC.honL (h : EC W n N K F D U T Y 10 g) (x1 : Int32) : lp (fX_honoured_L25 x1 g) fuel (m1, i3 0, i3 0) = some (nm (mxs U n).1, i3 (mxs U n).2) := by
  have h8 := h.2.2.1.1
  have hn := h.2.2.2.1.1
  refine lp_cnt0 (fun k => (nm (mxs U k).1, i3 (mxs U k).2, i3 k)) rfl n (by omega) (fun k hk => ?_) ?_
  · have e := h.stonesOf (a := k) (by omega)
    have h1 := mxs_ok U k (by omega)
    have h2 := st8_le U k
    have es : mxs U (k + 1) = if (mxs U k).2 < st8 U k then (k, st8 U k) else mxs U k := rfl
    by_cases q : (mxs U k).2 < st8 U k
    · rw [if_pos q] at es
      rw [es]
      simp (disch := (first | omega | assumption | trivial)) only [li_0, li_1, li_2, li_3, li_4, li_5, li_6, li_7, li_8, li_9, li_10, li_11, li_12, li_13, li_14, li_15, li_16, li_17, li_18, li_19, li_20, li_21, li_22, li_23, li_24, li_25, li_26, li_27, li_28, li_29, li_30, li_31, li_32, li_33, li_34, li_35, li_36, li_37, li_38, li_39, li_40, li_41, li_42, li_43, li_44, li_45, li_46, li_47, li_48, li_49, li_50, li_51, li_52, li_53, li_54, li_55, li_56, li_57, li_58, li_59, li_60, li_63, li_64, li_72, li_76, li_77, li_91, li_93, li_96, li_97, li_99, li_108, li_109, li_120, li_122, li_150, li_200, li_255, li_400, li_426, li_600, li_900, li_999, li_1000, li_1002, li_1003, li_2000, li_2042, li_2043, li_2045, li_10000, li_32767, li_100000, li_1000000, li_m1, li_m1b, ob_s, lt1_e, se_l, se_r, if_true, if_false, true_and, and_true, false_and, and_false, st_at, i3_add, i3_mul, i3_sub, i3_lt, i3_le, i3_eq, i3_nat, m1_eqi, i3_eqm, m1_lti, m1_lei, i3_ltm, i3_lem, i3_decm, i3_dec0, nm_eqm, yr_eqm, mxor0, Nat.zero_add, if_pos, if_neg, eq_self, ne_eq, not_true_eq_false, not_false_eq_true, fX_honoured_L25, fX_honoured_b60, hn, e, nm_lt]
    · rw [if_neg q] at es
      rw [es]
      simp (disch := (first | omega | assumption | trivial)) only [li_0, li_1, li_2, li_3, li_4, li_5, li_6, li_7, li_8, li_9, li_10, li_11, li_12, li_13, li_14, li_15, li_16, li_17, li_18, li_19, li_20, li_21, li_22, li_23, li_24, li_25, li_26, li_27, li_28, li_29, li_30, li_31, li_32, li_33, li_34, li_35, li_36, li_37, li_38, li_39, li_40, li_41, li_42, li_43, li_44, li_45, li_46, li_47, li_48, li_49, li_50, li_51, li_52, li_53, li_54, li_55, li_56, li_57, li_58, li_59, li_60, li_63, li_64, li_72, li_76, li_77, li_91, li_93, li_96, li_97, li_99, li_108, li_109, li_120, li_122, li_150, li_200, li_255, li_400, li_426, li_600, li_900, li_999, li_1000, li_1002, li_1003, li_2000, li_2042, li_2043, li_2045, li_10000, li_32767, li_100000, li_1000000, li_m1, li_m1b, ob_s, lt1_e, se_l, se_r, if_true, if_false, true_and, and_true, false_and, and_false, st_at, i3_add, i3_mul, i3_sub, i3_lt, i3_le, i3_eq, i3_nat, m1_eqi, i3_eqm, m1_lti, m1_lei, i3_ltm, i3_lem, i3_decm, i3_dec0, nm_eqm, yr_eqm, mxor0, Nat.zero_add, if_pos, if_neg, eq_self, ne_eq, not_true_eq_false, not_false_eq_true, fX_honoured_L25, fX_honoured_b60, hn, e]
  · simp (disch := (first | omega | assumption | trivial)) only [li_0, li_1, li_2, li_3, li_4, li_5, li_6, li_7, li_8, li_9, li_10, li_11, li_12, li_13, li_14, li_15, li_16, li_17, li_18, li_19, li_20, li_21, li_22, li_23, li_24, li_25, li_26, li_27, li_28, li_29, li_30, li_31, li_32, li_33, li_34, li_35, li_36, li_37, li_38, li_39, li_40, li_41, li_42, li_43, li_44, li_45, li_46, li_47, li_48, li_49, li_50, li_51, li_52, li_53, li_54, li_55, li_56, li_57, li_58, li_59, li_60, li_63, li_64, li_72, li_76, li_77, li_91, li_93, li_96, li_97, li_99, li_108, li_109, li_120, li_122, li_150, li_200, li_255, li_400, li_426, li_600, li_900, li_999, li_1000, li_1002, li_1003, li_2000, li_2042, li_2043, li_2045, li_10000, li_32767, li_100000, li_1000000, li_m1, li_m1b, ob_s, lt1_e, se_l, se_r, if_true, if_false, true_and, and_true, false_and, and_false, st_at, i3_add, i3_mul, i3_sub, i3_lt, i3_le, i3_eq, i3_nat, m1_eqi, i3_eqm, m1_lti, m1_lei, i3_ltm, i3_lem, i3_decm, i3_dec0, nm_eqm, yr_eqm, mxor0, Nat.zero_add, if_pos, if_neg, eq_self, ne_eq, not_true_eq_false, not_false_eq_true, fX_honoured_L25, hn]
theorem EM.honL (h : EM W n N K F D U T Y 16 g) (x1 : Int32) : lp (fM_honoured_L37 x1 g) fuel (m1, i3 0, i3 0) = some (nm (mxs U n).1, i3 (mxs U n).2) := by
  have h8 := h.2.2.1.1
  have hn := h.2.2.2.1.1
  refine lp_cnt0 (fun k => (nm (mxs U k).1, i3 (mxs U k).2, i3 k)) rfl n (by omega) (fun k hk => ?_) ?_
  · have e := h.stones (a := k) (by omega)
    have h1 := mxs_ok U k (by omega)
    have h2 := st8_le U k
    have es : mxs U (k + 1) = if (mxs U k).2 < st8 U k then (k, st8 U k) else mxs U k := rfl
    by_cases q : (mxs U k).2 < st8 U k
    · rw [if_pos q] at es
      rw [es]
      simp (disch := (first | omega | assumption | trivial)) only [li_0, li_1, li_2, li_3, li_4, li_5, li_6, li_7, li_8, li_9, li_10, li_11, li_12, li_13, li_14, li_15, li_16, li_17, li_18, li_19, li_20, li_21, li_22, li_23, li_24, li_25, li_26, li_27, li_28, li_29, li_30, li_31, li_32, li_33, li_34, li_35, li_36, li_37, li_38, li_39, li_40, li_41, li_42, li_43, li_44, li_45, li_46, li_47, li_48, li_49, li_50, li_51, li_52, li_53, li_54, li_55, li_56, li_57, li_58, li_59, li_60, li_63, li_64, li_72, li_76, li_77, li_91, li_93, li_96, li_97, li_99, li_108, li_109, li_120, li_122, li_150, li_200, li_255, li_400, li_426, li_600, li_900, li_999, li_1000, li_1002, li_1003, li_2000, li_2042, li_2043, li_2045, li_10000, li_32767, li_100000, li_1000000, li_m1, li_m1b, ob_s, lt1_e, se_l, se_r, if_true, if_false, true_and, and_true, false_and, and_false, st_at, i3_add, i3_mul, i3_sub, i3_lt, i3_le, i3_eq, i3_nat, m1_eqi, i3_eqm, m1_lti, m1_lei, i3_ltm, i3_lem, i3_decm, i3_dec0, nm_eqm, yr_eqm, mxor0, Nat.zero_add, if_pos, if_neg, eq_self, ne_eq, not_true_eq_false, not_false_eq_true, fM_honoured_L37, fM_honoured_b79, hn, e, nm_lt]
    · rw [if_neg q] at es
      rw [es]
      simp (disch := (first | omega | assumption | trivial)) only [li_0, li_1, li_2, li_3, li_4, li_5, li_6, li_7, li_8, li_9, li_10, li_11, li_12, li_13, li_14, li_15, li_16, li_17, li_18, li_19, li_20, li_21, li_22, li_23, li_24, li_25, li_26, li_27, li_28, li_29, li_30, li_31, li_32, li_33, li_34, li_35, li_36, li_37, li_38, li_39, li_40, li_41, li_42, li_43, li_44, li_45, li_46, li_47, li_48, li_49, li_50, li_51, li_52, li_53, li_54, li_55, li_56, li_57, li_58, li_59, li_60, li_63, li_64, li_72, li_76, li_77, li_91, li_93, li_96, li_97, li_99, li_108, li_109, li_120, li_122, li_150, li_200, li_255, li_400, li_426, li_600, li_900, li_999, li_1000, li_1002, li_1003, li_2000, li_2042, li_2043, li_2045, li_10000, li_32767, li_100000, li_1000000, li_m1, li_m1b, ob_s, lt1_e, se_l, se_r, if_true, if_false, true_and, and_true, false_and, and_false, st_at, i3_add, i3_mul, i3_sub, i3_lt, i3_le, i3_eq, i3_nat, m1_eqi, i3_eqm, m1_lti, m1_lei, i3_ltm, i3_lem, i3_decm, i3_dec0, nm_eqm, yr_eqm, mxor0, Nat.zero_add, if_pos, if_neg, eq_self, ne_eq, not_true_eq_false, not_false_eq_true, fM_honoured_L37, fM_honoured_b79, hn, e]
  · simp (disch := (first | omega | assumption | trivial)) only [li_0, li_1, li_2, li_3, li_4, li_5, li_6, li_7, li_8, li_9, li_10, li_11, li_12, li_13, li_14, li_15, li_16, li_17, li_18, li_19, li_20, li_21, li_22, li_23, li_24, li_25, li_26, li_27, li_28, li_29, li_30, li_31, li_32, li_33, li_34, li_35, li_36, li_37, li_38, li_39, li_40, li_41, li_42, li_43, li_44, li_45, li_46, li_47, li_48, li_49, li_50, li_51, li_52, li_53, li_54, li_55, li_56, li_57, li_58, li_59, li_60, li_63, li_64, li_72, li_76, li_77, li_91, li_93, li_96, li_97, li_99, li_108, li_109, li_120, li_122, li_150, li_200, li_255, li_400, li_426, li_600, li_900, li_999, li_1000, li_1002, li_1003, li_2000, li_2042, li_2043, li_2045, li_10000, li_32767, li_100000, li_1000000, li_m1, li_m1b, ob_s, lt1_e, se_l, se_r, if_true, if_false, true_and, and_true, false_and, and_false, st_at, i3_add, i3_mul, i3_sub, i3_lt, i3_le, i3_eq, i3_nat, m1_eqi, i3_eqm, m1_lti, m1_lei, i3_ltm, i3_lem, i3_decm, i3_dec0, nm_eqm, yr_eqm, mxor0, Nat.zero_add, if_pos, if_neg, eq_self, ne_eq, not_true_eq_false, not_false_eq_true, fM_honoured_L37, hn]
/-- the first of the latest dead -/
def lat (T : Nat → Nat) : Nat → Nat
  | 0 => 8
  | k + 1 => if ¬ T k = 0 ∧ (lat T k = 8 ∨ T (lat T k) < T k) then k else lat T k
theorem lat_s (T : Nat → Nat) (k : Nat) : lat T (k + 1) = if ¬ T k = 0 ∧ (lat T k = 8 ∨ T (lat T k) < T k) then k else lat T k := rfl
theorem lat_ok (T : Nat → Nat) : ∀ k, k ≤ 8 → lat T k = 8 ∨ (lat T k < k ∧ ¬ T (lat T k) = 0)
  | 0, _ => Or.inl rfl
  | k + 1, h => by
    have h1 := lat_ok T k (by omega)
    rw [lat_s]
    by_cases q : ¬ T k = 0 ∧ (lat T k = 8 ∨ T (lat T k) < T k)
    · rw [if_pos q]; exact Or.inr ⟨by omega, q.1⟩
    · rw [if_neg q]
      rcases h1 with h1 | h1
      · exact Or.inl h1
      · exact Or.inr ⟨by omega, h1.2⟩
theorem EC.latL (h : EC W n N K F D U T Y 10 g) (x1 : Int32) : lp (fX_latest_L25 x1 g) fuel (m1, m1, i3 0) = some (nm (lat T n), yr (if lat T n = 8 then 0 else T (lat T n))) := by
  have h8 := h.2.2.1.1
  have hn := h.2.2.2.1.1
  have hT := h.2.2.1.2.2.2.1
  have s3 : ∀ p, p < 8 → g 39 p = yr (T p) := h.2.1.2.2.1
  refine lp_cnt0 (fun k => (nm (lat T k), yr (if lat T k = 8 then 0 else T (lat T k)), i3 k)) rfl n (by omega) (fun k hk => ?_) ?_
  · have h1 := lat_ok T k (by omega)
    have t1 := hT k (by omega)
    show fX_latest_L25 x1 g (nm (lat T k), yr (if lat T k = 8 then 0 else T (lat T k)), i3 k) = some (.inl (nm (lat T (k + 1)), yr (if lat T (k + 1) = 8 then 0 else T (lat T (k + 1))), i3 (k + 1)))
    rw [lat_s]
    by_cases q : ¬ T k = 0 ∧ (lat T k = 8 ∨ T (lat T k) < T k)
    · rw [if_pos q, if_neg (show ¬ k = 8 by omega)]
      by_cases q2 : lat T k = 8
      · rw [if_pos q2]
        simp (disch := (first | omega | assumption | trivial)) only [li_0, li_1, li_2, li_3, li_4, li_5, li_6, li_7, li_8, li_9, li_10, li_11, li_12, li_13, li_14, li_15, li_16, li_17, li_18, li_19, li_20, li_21, li_22, li_23, li_24, li_25, li_26, li_27, li_28, li_29, li_30, li_31, li_32, li_33, li_34, li_35, li_36, li_37, li_38, li_39, li_40, li_41, li_42, li_43, li_44, li_45, li_46, li_47, li_48, li_49, li_50, li_51, li_52, li_53, li_54, li_55, li_56, li_57, li_58, li_59, li_60, li_63, li_64, li_72, li_76, li_77, li_91, li_93, li_96, li_97, li_99, li_108, li_109, li_120, li_122, li_150, li_200, li_255, li_400, li_426, li_600, li_900, li_999, li_1000, li_1002, li_1003, li_2000, li_2042, li_2043, li_2045, li_10000, li_32767, li_100000, li_1000000, li_m1, li_m1b, ob_s, lt1_e, se_l, se_r, if_true, if_false, true_and, and_true, false_and, and_false, st_at, i3_add, i3_mul, i3_sub, i3_lt, i3_le, i3_eq, i3_nat, m1_eqi, i3_eqm, m1_lti, m1_lei, i3_ltm, i3_lem, i3_decm, i3_dec0, nm_eqm, yr_eqm, mxor0, Nat.zero_add, if_pos, if_neg, eq_self, ne_eq, not_true_eq_false, not_false_eq_true, fX_latest_L25, fX_latest_b69, hn, at8, s3, yr_le, nm_lt]
      · have t2 := hT (lat T k) (by omega)
        rw [if_neg q2]
        simp (disch := (first | omega | assumption | trivial)) only [li_0, li_1, li_2, li_3, li_4, li_5, li_6, li_7, li_8, li_9, li_10, li_11, li_12, li_13, li_14, li_15, li_16, li_17, li_18, li_19, li_20, li_21, li_22, li_23, li_24, li_25, li_26, li_27, li_28, li_29, li_30, li_31, li_32, li_33, li_34, li_35, li_36, li_37, li_38, li_39, li_40, li_41, li_42, li_43, li_44, li_45, li_46, li_47, li_48, li_49, li_50, li_51, li_52, li_53, li_54, li_55, li_56, li_57, li_58, li_59, li_60, li_63, li_64, li_72, li_76, li_77, li_91, li_93, li_96, li_97, li_99, li_108, li_109, li_120, li_122, li_150, li_200, li_255, li_400, li_426, li_600, li_900, li_999, li_1000, li_1002, li_1003, li_2000, li_2042, li_2043, li_2045, li_10000, li_32767, li_100000, li_1000000, li_m1, li_m1b, ob_s, lt1_e, se_l, se_r, if_true, if_false, true_and, and_true, false_and, and_false, st_at, i3_add, i3_mul, i3_sub, i3_lt, i3_le, i3_eq, i3_nat, m1_eqi, i3_eqm, m1_lti, m1_lei, i3_ltm, i3_lem, i3_decm, i3_dec0, nm_eqm, yr_eqm, mxor0, Nat.zero_add, if_pos, if_neg, eq_self, ne_eq, not_true_eq_false, not_false_eq_true, fX_latest_L25, fX_latest_b69, hn, at8, s3, yr_le, nm_lt]
    · rw [if_neg q]
      by_cases q2 : lat T k = 8
      · rw [if_pos q2]
        simp (disch := (first | omega | assumption | trivial)) only [li_0, li_1, li_2, li_3, li_4, li_5, li_6, li_7, li_8, li_9, li_10, li_11, li_12, li_13, li_14, li_15, li_16, li_17, li_18, li_19, li_20, li_21, li_22, li_23, li_24, li_25, li_26, li_27, li_28, li_29, li_30, li_31, li_32, li_33, li_34, li_35, li_36, li_37, li_38, li_39, li_40, li_41, li_42, li_43, li_44, li_45, li_46, li_47, li_48, li_49, li_50, li_51, li_52, li_53, li_54, li_55, li_56, li_57, li_58, li_59, li_60, li_63, li_64, li_72, li_76, li_77, li_91, li_93, li_96, li_97, li_99, li_108, li_109, li_120, li_122, li_150, li_200, li_255, li_400, li_426, li_600, li_900, li_999, li_1000, li_1002, li_1003, li_2000, li_2042, li_2043, li_2045, li_10000, li_32767, li_100000, li_1000000, li_m1, li_m1b, ob_s, lt1_e, se_l, se_r, if_true, if_false, true_and, and_true, false_and, and_false, st_at, i3_add, i3_mul, i3_sub, i3_lt, i3_le, i3_eq, i3_nat, m1_eqi, i3_eqm, m1_lti, m1_lei, i3_ltm, i3_lem, i3_decm, i3_dec0, nm_eqm, yr_eqm, mxor0, Nat.zero_add, if_pos, if_neg, eq_self, ne_eq, not_true_eq_false, not_false_eq_true, fX_latest_L25, fX_latest_b69, hn, at8, s3, yr_le]
      · have t2 := hT (lat T k) (by omega)
        rw [if_neg q2]
        simp (disch := (first | omega | assumption | trivial)) only [li_0, li_1, li_2, li_3, li_4, li_5, li_6, li_7, li_8, li_9, li_10, li_11, li_12, li_13, li_14, li_15, li_16, li_17, li_18, li_19, li_20, li_21, li_22, li_23, li_24, li_25, li_26, li_27, li_28, li_29, li_30, li_31, li_32, li_33, li_34, li_35, li_36, li_37, li_38, li_39, li_40, li_41, li_42, li_43, li_44, li_45, li_46, li_47, li_48, li_49, li_50, li_51, li_52, li_53, li_54, li_55, li_56, li_57, li_58, li_59, li_60, li_63, li_64, li_72, li_76, li_77, li_91, li_93, li_96, li_97, li_99, li_108, li_109, li_120, li_122, li_150, li_200, li_255, li_400, li_426, li_600, li_900, li_999, li_1000, li_1002, li_1003, li_2000, li_2042, li_2043, li_2045, li_10000, li_32767, li_100000, li_1000000, li_m1, li_m1b, ob_s, lt1_e, se_l, se_r, if_true, if_false, true_and, and_true, false_and, and_false, st_at, i3_add, i3_mul, i3_sub, i3_lt, i3_le, i3_eq, i3_nat, m1_eqi, i3_eqm, m1_lti, m1_lei, i3_ltm, i3_lem, i3_decm, i3_dec0, nm_eqm, yr_eqm, mxor0, Nat.zero_add, if_pos, if_neg, eq_self, ne_eq, not_true_eq_false, not_false_eq_true, fX_latest_L25, fX_latest_b69, hn, at8, s3, yr_le]
  · show fX_latest_L25 x1 g (nm (lat T n), yr (if lat T n = 8 then 0 else T (lat T n)), i3 n) = _
    simp (disch := (first | omega | assumption | trivial)) only [li_0, li_1, li_2, li_3, li_4, li_5, li_6, li_7, li_8, li_9, li_10, li_11, li_12, li_13, li_14, li_15, li_16, li_17, li_18, li_19, li_20, li_21, li_22, li_23, li_24, li_25, li_26, li_27, li_28, li_29, li_30, li_31, li_32, li_33, li_34, li_35, li_36, li_37, li_38, li_39, li_40, li_41, li_42, li_43, li_44, li_45, li_46, li_47, li_48, li_49, li_50, li_51, li_52, li_53, li_54, li_55, li_56, li_57, li_58, li_59, li_60, li_63, li_64, li_72, li_76, li_77, li_91, li_93, li_96, li_97, li_99, li_108, li_109, li_120, li_122, li_150, li_200, li_255, li_400, li_426, li_600, li_900, li_999, li_1000, li_1002, li_1003, li_2000, li_2042, li_2043, li_2045, li_10000, li_32767, li_100000, li_1000000, li_m1, li_m1b, ob_s, lt1_e, se_l, se_r, if_true, if_false, true_and, and_true, false_and, and_false, st_at, i3_add, i3_mul, i3_sub, i3_lt, i3_le, i3_eq, i3_nat, m1_eqi, i3_eqm, m1_lti, m1_lei, i3_ltm, i3_lem, i3_decm, i3_dec0, nm_eqm, yr_eqm, mxor0, Nat.zero_add, if_pos, if_neg, eq_self, ne_eq, not_true_eq_false, not_false_eq_true, fX_latest_L25, hn]
theorem EMd.latL (h : EMd W n N K F D U T Y 16 g) (x1 : Int32) : lp (fM_latest_L34 x1 g) fuel (m1, i3 0) = some (nm (lat T n)) := by
  have h8 := h.1.2.2.1.1
  have hn := h.1.2.2.2.1.1
  have hT := h.1.2.2.1.2.2.2.1
  have s5 := h.2
  refine lp_cnt0 (fun k => (nm (lat T k), i3 k)) rfl n (by omega) (fun k hk => ?_) ?_
  · have h1 := lat_ok T k (by omega)
    have t1 := hT k (by omega)
    have hh := h.1.has hk
    show fM_latest_L34 x1 g (nm (lat T k), i3 k) = some (.inl (nm (lat T (k + 1)), i3 (k + 1)))
    rw [lat_s]
    by_cases q0 : T k = 0
    · rw [if_neg (fun z => z.1 q0)]
      rw [if_pos q0] at hh
      simp (disch := (first | omega | assumption | trivial)) only [li_0, li_1, li_2, li_3, li_4, li_5, li_6, li_7, li_8, li_9, li_10, li_11, li_12, li_13, li_14, li_15, li_16, li_17, li_18, li_19, li_20, li_21, li_22, li_23, li_24, li_25, li_26, li_27, li_28, li_29, li_30, li_31, li_32, li_33, li_34, li_35, li_36, li_37, li_38, li_39, li_40, li_41, li_42, li_43, li_44, li_45, li_46, li_47, li_48, li_49, li_50, li_51, li_52, li_53, li_54, li_55, li_56, li_57, li_58, li_59, li_60, li_63, li_64, li_72, li_76, li_77, li_91, li_93, li_96, li_97, li_99, li_108, li_109, li_120, li_122, li_150, li_200, li_255, li_400, li_426, li_600, li_900, li_999, li_1000, li_1002, li_1003, li_2000, li_2042, li_2043, li_2045, li_10000, li_32767, li_100000, li_1000000, li_m1, li_m1b, ob_s, lt1_e, se_l, se_r, if_true, if_false, true_and, and_true, false_and, and_false, st_at, i3_add, i3_mul, i3_sub, i3_lt, i3_le, i3_eq, i3_nat, m1_eqi, i3_eqm, m1_lti, m1_lei, i3_ltm, i3_lem, i3_decm, i3_dec0, nm_eqm, yr_eqm, mxor0, Nat.zero_add, if_pos, if_neg, eq_self, ne_eq, not_true_eq_false, not_false_eq_true, fM_latest_L34, fM_latest_b88, fM_latest_b89, hn, hh]
    · rw [if_neg q0] at hh
      by_cases q2 : lat T k = 8
      · rw [if_pos ⟨q0, Or.inl q2⟩, q2, nm_no (k := 8) (by omega)]
        simp (disch := (first | omega | assumption | trivial)) only [li_0, li_1, li_2, li_3, li_4, li_5, li_6, li_7, li_8, li_9, li_10, li_11, li_12, li_13, li_14, li_15, li_16, li_17, li_18, li_19, li_20, li_21, li_22, li_23, li_24, li_25, li_26, li_27, li_28, li_29, li_30, li_31, li_32, li_33, li_34, li_35, li_36, li_37, li_38, li_39, li_40, li_41, li_42, li_43, li_44, li_45, li_46, li_47, li_48, li_49, li_50, li_51, li_52, li_53, li_54, li_55, li_56, li_57, li_58, li_59, li_60, li_63, li_64, li_72, li_76, li_77, li_91, li_93, li_96, li_97, li_99, li_108, li_109, li_120, li_122, li_150, li_200, li_255, li_400, li_426, li_600, li_900, li_999, li_1000, li_1002, li_1003, li_2000, li_2042, li_2043, li_2045, li_10000, li_32767, li_100000, li_1000000, li_m1, li_m1b, ob_s, lt1_e, se_l, se_r, if_true, if_false, true_and, and_true, false_and, and_false, st_at, i3_add, i3_mul, i3_sub, i3_lt, i3_le, i3_eq, i3_nat, m1_eqi, i3_eqm, m1_lti, m1_lei, i3_ltm, i3_lem, i3_decm, i3_dec0, nm_eqm, yr_eqm, mxor0, Nat.zero_add, if_pos, if_neg, eq_self, ne_eq, not_true_eq_false, not_false_eq_true, fM_latest_L34, fM_latest_b88, fM_latest_b89, fM_latest_b84, hn, hh, nm_lt]
      · have t2 := hT (lat T k) (by omega)
        by_cases q3 : T (lat T k) < T k
        · rw [if_pos ⟨q0, Or.inr q3⟩, nm_lt (k := lat T k) (by omega)]
          simp (disch := (first | omega | assumption | trivial)) only [li_0, li_1, li_2, li_3, li_4, li_5, li_6, li_7, li_8, li_9, li_10, li_11, li_12, li_13, li_14, li_15, li_16, li_17, li_18, li_19, li_20, li_21, li_22, li_23, li_24, li_25, li_26, li_27, li_28, li_29, li_30, li_31, li_32, li_33, li_34, li_35, li_36, li_37, li_38, li_39, li_40, li_41, li_42, li_43, li_44, li_45, li_46, li_47, li_48, li_49, li_50, li_51, li_52, li_53, li_54, li_55, li_56, li_57, li_58, li_59, li_60, li_63, li_64, li_72, li_76, li_77, li_91, li_93, li_96, li_97, li_99, li_108, li_109, li_120, li_122, li_150, li_200, li_255, li_400, li_426, li_600, li_900, li_999, li_1000, li_1002, li_1003, li_2000, li_2042, li_2043, li_2045, li_10000, li_32767, li_100000, li_1000000, li_m1, li_m1b, ob_s, lt1_e, se_l, se_r, if_true, if_false, true_and, and_true, false_and, and_false, st_at, i3_add, i3_mul, i3_sub, i3_lt, i3_le, i3_eq, i3_nat, m1_eqi, i3_eqm, m1_lti, m1_lei, i3_ltm, i3_lem, i3_decm, i3_dec0, nm_eqm, yr_eqm, mxor0, Nat.zero_add, if_pos, if_neg, eq_self, ne_eq, not_true_eq_false, not_false_eq_true, fM_latest_L34, fM_latest_b88, fM_latest_b89, fM_latest_b84, hn, hh, nm_lt, s5, yr_le]
        · rw [if_neg (fun z => by omega), nm_lt (k := lat T k) (by omega)]
          simp (disch := (first | omega | assumption | trivial)) only [li_0, li_1, li_2, li_3, li_4, li_5, li_6, li_7, li_8, li_9, li_10, li_11, li_12, li_13, li_14, li_15, li_16, li_17, li_18, li_19, li_20, li_21, li_22, li_23, li_24, li_25, li_26, li_27, li_28, li_29, li_30, li_31, li_32, li_33, li_34, li_35, li_36, li_37, li_38, li_39, li_40, li_41, li_42, li_43, li_44, li_45, li_46, li_47, li_48, li_49, li_50, li_51, li_52, li_53, li_54, li_55, li_56, li_57, li_58, li_59, li_60, li_63, li_64, li_72, li_76, li_77, li_91, li_93, li_96, li_97, li_99, li_108, li_109, li_120, li_122, li_150, li_200, li_255, li_400, li_426, li_600, li_900, li_999, li_1000, li_1002, li_1003, li_2000, li_2042, li_2043, li_2045, li_10000, li_32767, li_100000, li_1000000, li_m1, li_m1b, ob_s, lt1_e, se_l, se_r, if_true, if_false, true_and, and_true, false_and, and_false, st_at, i3_add, i3_mul, i3_sub, i3_lt, i3_le, i3_eq, i3_nat, m1_eqi, i3_eqm, m1_lti, m1_lei, i3_ltm, i3_lem, i3_decm, i3_dec0, nm_eqm, yr_eqm, mxor0, Nat.zero_add, if_pos, if_neg, eq_self, ne_eq, not_true_eq_false, not_false_eq_true, fM_latest_L34, fM_latest_b88, fM_latest_b89, fM_latest_b84, hn, hh, s5, yr_le]
  · show fM_latest_L34 x1 g (nm (lat T n), i3 n) = _
    simp (disch := (first | omega | assumption | trivial)) only [li_0, li_1, li_2, li_3, li_4, li_5, li_6, li_7, li_8, li_9, li_10, li_11, li_12, li_13, li_14, li_15, li_16, li_17, li_18, li_19, li_20, li_21, li_22, li_23, li_24, li_25, li_26, li_27, li_28, li_29, li_30, li_31, li_32, li_33, li_34, li_35, li_36, li_37, li_38, li_39, li_40, li_41, li_42, li_43, li_44, li_45, li_46, li_47, li_48, li_49, li_50, li_51, li_52, li_53, li_54, li_55, li_56, li_57, li_58, li_59, li_60, li_63, li_64, li_72, li_76, li_77, li_91, li_93, li_96, li_97, li_99, li_108, li_109, li_120, li_122, li_150, li_200, li_255, li_400, li_426, li_600, li_900, li_999, li_1000, li_1002, li_1003, li_2000, li_2042, li_2043, li_2045, li_10000, li_32767, li_100000, li_1000000, li_m1, li_m1b, ob_s, lt1_e, se_l, se_r, if_true, if_false, true_and, and_true, false_and, and_false, st_at, i3_add, i3_mul, i3_sub, i3_lt, i3_le, i3_eq, i3_nat, m1_eqi, i3_eqm, m1_lti, m1_lei, i3_ltm, i3_lem, i3_decm, i3_dec0, nm_eqm, yr_eqm, mxor0, Nat.zero_add, if_pos, if_neg, eq_self, ne_eq, not_true_eq_false, not_false_eq_true, fM_latest_L34, hn]
end HE
