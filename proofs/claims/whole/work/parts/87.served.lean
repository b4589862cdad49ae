/-! PURE: names for many at once, asked -/
section WS
variable {gX0 gM0 : St} {W : (Nat → Nat) → Nat} {n N : Nat} {K F D U T : Nat → Nat} {Y P S : Nat} {g : St}
theorem EC.lendsNo (h : EC W n N K F D U T Y 10 g) {a b : Nat} (ha : n ≤ a) (ha8 : a < 8) (hb : b < n) : fX_State_lendsTo 10 (i3 a) (i3 b) g = some (i3 0, g) := by
  have hn := h.2.2.2.1.1
  simp (disch := (first | omega | assumption | trivial)) only [li_0, li_1, li_2, li_3, li_4, li_5, li_6, li_7, li_8, li_9, li_10, li_11, li_12, li_13, li_14, li_15, li_16, li_17, li_18, li_19, li_20, li_21, li_22, li_23, li_24, li_25, li_26, li_27, li_28, li_29, li_30, li_31, li_32, li_33, li_34, li_35, li_36, li_37, li_38, li_39, li_40, li_41, li_42, li_43, li_44, li_45, li_46, li_47, li_48, li_49, li_50, li_51, li_52, li_53, li_54, li_55, li_56, li_57, li_58, li_59, li_60, li_63, li_64, li_72, li_76, li_77, li_91, li_93, li_96, li_97, li_99, li_108, li_109, li_120, li_122, li_150, li_200, li_255, li_400, li_426, li_600, li_900, li_999, li_1000, li_1002, li_1003, li_2000, li_2042, li_2043, li_2045, li_10000, li_32767, li_100000, li_1000000, li_m1, li_m1b, ob_s, lt1_e, se_l, se_r, if_true, if_false, true_and, and_true, false_and, and_false, st_at, i3_add, i3_mul, i3_sub, i3_lt, i3_le, i3_eq, i3_nat, m1_eqi, i3_eqm, m1_lti, m1_lei, i3_ltm, i3_lem, i3_decm, i3_dec0, nm_eqm, yr_eqm, mxor0, Nat.zero_add, if_pos, if_neg, eq_self, ne_eq, not_true_eq_false, not_false_eq_true, fX_State_lendsTo, fX_State_couldLend, fX_State_lives, hn]
theorem offersW (hX : EC W n N K F D U T Y 10 gX0) (hP : P < 256) {q r : Nat} (hq : q < n) (hr : r < 8) (h : KX gX0 g) (h47 : g 47 r = i3 q) : ∃ g', fX_Ways_takeOffers 10 (i3 r) (i3 P) g = some g' ∧ KX gX0 g' ∧ (∀ p i, p ≠ 24 → p ≠ 25 → ¬ (p = 48 ∧ 8 * r ≤ i ∧ i < 8 * r + 8) → g' p i = g p i) ∧ ∀ a, a < 8 → g' 48 (8 * r + a) = if a < n ∧ ¬ P.testBit a = true ∧ ldb W n N K F D U T Y a q then i3 (wl W n K F D U T Y a q) else m1 := by
  have h8 := hX.2.2.1.1
  have key : ∃ z : St, lp (fX_Ways_takeOffers_L13 10 (i3 r) (i3 P) (i3 q)) fuel (i3 0, g) = some z ∧ KX gX0 z ∧ (∀ p i, p ≠ 24 → p ≠ 25 → ¬ (p = 48 ∧ 8 * r ≤ i ∧ i < 8 * r + 8) → z p i = g p i) ∧ ∀ a, a < 8 → z 48 (8 * r + a) = if a < n ∧ ¬ P.testBit a = true ∧ ldb W n N K F D U T Y a q then i3 (wl W n K F D U T Y a q) else m1 := by
    refine lp_all (fun k s => ∃ g1, s = (i3 k, g1) ∧ KX gX0 g1 ∧ (∀ p i, p ≠ 24 → p ≠ 25 → ¬ (p = 48 ∧ 8 * r ≤ i ∧ i < 8 * r + 8) → g1 p i = g p i) ∧ ∀ a, a < k → g1 48 (8 * r + a) = if a < n ∧ ¬ P.testBit a = true ∧ ldb W n N K F D U T Y a q then i3 (wl W n K F D U T Y a q) else m1) (fun z => KX gX0 z ∧ (∀ p i, p ≠ 24 → p ≠ 25 → ¬ (p = 48 ∧ 8 * r ≤ i ∧ i < 8 * r + 8) → z p i = g p i) ∧ ∀ a, a < 8 → z 48 (8 * r + a) = if a < n ∧ ¬ P.testBit a = true ∧ ldb W n N K F D U T Y a q then i3 (wl W n K F D U T Y a q) else m1) 8 (by omega) ?_ ?_ ⟨g, rfl, h, fun _ _ _ _ _ => rfl, fun a ha => by omega⟩
    · rintro k s hk ⟨g1, rfl, h1, h2, h3⟩
      have hX1 := hX.frK h1
      have hb := bit_in (m := P) (k := k) hP hk
      have fin : ∀ g2 v, FX1 g1 g2 → v = (if k < n ∧ ¬ P.testBit k = true ∧ ldb W n N K F D U T Y k q then i3 (wl W n K F D U T Y k q) else m1) → KX gX0 (st g2 48 (r * 8 + k) v) ∧ (∀ p i, p ≠ 24 → p ≠ 25 → ¬ (p = 48 ∧ 8 * r ≤ i ∧ i < 8 * r + 8) → st g2 48 (r * 8 + k) v p i = g p i) ∧ ∀ a, a < k + 1 → st g2 48 (r * 8 + k) v 48 (8 * r + a) = if a < n ∧ ¬ P.testBit a = true ∧ ldb W n N K F D U T Y a q then i3 (wl W n K F D U T Y a q) else m1 := fun g2 v f hv => by
        refine ⟨(h1.tr f.k).tr (kxW (by omega)), fun p i a b c => ?_, fun a ha => ?_⟩
        · rw [st_at, if_neg (by omega), f p a b]; exact h2 p i a b c
        · by_cases e : a = k
          · subst e
            rw [Nat.mul_comm 8, st_eq]; exact hv
          · rw [st_at, if_neg (by omega), f 48 (by omega) (by omega)]; exact h3 a (by omega)
      by_cases q1 : P.testBit k = true
      · rw [if_pos q1] at hb
        refine ⟨(i3 (k + 1), st g1 48 (r * 8 + k) m1), ?_, _, rfl, fin g1 m1 FX1.rf (by rw [if_neg (fun z => z.2.1 q1)])⟩
        simp (disch := (first | omega | assumption | trivial)) only [li_0, li_1, li_2, li_3, li_4, li_5, li_6, li_7, li_8, li_9, li_10, li_11, li_12, li_13, li_14, li_15, li_16, li_17, li_18, li_19, li_20, li_21, li_22, li_23, li_24, li_25, li_26, li_27, li_28, li_29, li_30, li_31, li_32, li_33, li_34, li_35, li_36, li_37, li_38, li_39, li_40, li_41, li_42, li_43, li_44, li_45, li_46, li_47, li_48, li_49, li_50, li_51, li_52, li_53, li_54, li_55, li_56, li_57, li_58, li_59, li_60, li_63, li_64, li_72, li_76, li_77, li_91, li_93, li_96, li_97, li_99, li_108, li_109, li_120, li_122, li_150, li_200, li_255, li_400, li_426, li_600, li_900, li_999, li_1000, li_1002, li_1003, li_2000, li_2042, li_2043, li_2045, li_10000, li_32767, li_100000, li_1000000, li_m1, li_m1b, ob_s, lt1_e, se_l, se_r, if_true, if_false, true_and, and_true, false_and, and_false, st_at, i3_add, i3_mul, i3_sub, i3_lt, i3_le, i3_eq, i3_nat, m1_eqi, i3_eqm, m1_lti, m1_lei, i3_ltm, i3_lem, i3_decm, i3_dec0, nm_eqm, yr_eqm, mxor0, Nat.zero_add, if_pos, if_neg, eq_self, ne_eq, not_true_eq_false, not_false_eq_true, fX_Ways_takeOffers_L13, fX_Ways_takeOffers_b44, fX_Ways_takeOffers_b45, fX_Ways_takeOffers_b75, hb, pu48]
      · rw [if_neg q1] at hb
        by_cases q2 : k < n
        · obtain ⟨g2, e2, f2⟩ := hX1.lendsTo q2 hq
          by_cases q3 : ldb W n N K F D U T Y k q
          · rw [if_pos q3] at e2
            obtain ⟨g3, e3, f3⟩ := (hX1.fr f2).willOf q2 hq
            refine ⟨(i3 (k + 1), st g3 48 (r * 8 + k) (i3 (wl W n K F D U T Y k q))), ?_, _, rfl, fin g3 _ (f2.tr f3) (by rw [if_pos ⟨q2, q1, q3⟩])⟩
            simp (disch := (first | omega | assumption | trivial)) only [li_0, li_1, li_2, li_3, li_4, li_5, li_6, li_7, li_8, li_9, li_10, li_11, li_12, li_13, li_14, li_15, li_16, li_17, li_18, li_19, li_20, li_21, li_22, li_23, li_24, li_25, li_26, li_27, li_28, li_29, li_30, li_31, li_32, li_33, li_34, li_35, li_36, li_37, li_38, li_39, li_40, li_41, li_42, li_43, li_44, li_45, li_46, li_47, li_48, li_49, li_50, li_51, li_52, li_53, li_54, li_55, li_56, li_57, li_58, li_59, li_60, li_63, li_64, li_72, li_76, li_77, li_91, li_93, li_96, li_97, li_99, li_108, li_109, li_120, li_122, li_150, li_200, li_255, li_400, li_426, li_600, li_900, li_999, li_1000, li_1002, li_1003, li_2000, li_2042, li_2043, li_2045, li_10000, li_32767, li_100000, li_1000000, li_m1, li_m1b, ob_s, lt1_e, se_l, se_r, if_true, if_false, true_and, and_true, false_and, and_false, st_at, i3_add, i3_mul, i3_sub, i3_lt, i3_le, i3_eq, i3_nat, m1_eqi, i3_eqm, m1_lti, m1_lei, i3_ltm, i3_lem, i3_decm, i3_dec0, nm_eqm, yr_eqm, mxor0, Nat.zero_add, if_pos, if_neg, eq_self, ne_eq, not_true_eq_false, not_false_eq_true, fX_Ways_takeOffers_L13, fX_Ways_takeOffers_b44, fX_Ways_takeOffers_b45, fX_Ways_takeOffers_b75, hb, e2, e3, pu48]
          · rw [if_neg q3] at e2
            refine ⟨(i3 (k + 1), st g2 48 (r * 8 + k) m1), ?_, _, rfl, fin g2 m1 f2 (by rw [if_neg (fun z => q3 z.2.2)])⟩
            simp (disch := (first | omega | assumption | trivial)) only [li_0, li_1, li_2, li_3, li_4, li_5, li_6, li_7, li_8, li_9, li_10, li_11, li_12, li_13, li_14, li_15, li_16, li_17, li_18, li_19, li_20, li_21, li_22, li_23, li_24, li_25, li_26, li_27, li_28, li_29, li_30, li_31, li_32, li_33, li_34, li_35, li_36, li_37, li_38, li_39, li_40, li_41, li_42, li_43, li_44, li_45, li_46, li_47, li_48, li_49, li_50, li_51, li_52, li_53, li_54, li_55, li_56, li_57, li_58, li_59, li_60, li_63, li_64, li_72, li_76, li_77, li_91, li_93, li_96, li_97, li_99, li_108, li_109, li_120, li_122, li_150, li_200, li_255, li_400, li_426, li_600, li_900, li_999, li_1000, li_1002, li_1003, li_2000, li_2042, li_2043, li_2045, li_10000, li_32767, li_100000, li_1000000, li_m1, li_m1b, ob_s, lt1_e, se_l, se_r, if_true, if_false, true_and, and_true, false_and, and_false, st_at, i3_add, i3_mul, i3_sub, i3_lt, i3_le, i3_eq, i3_nat, m1_eqi, i3_eqm, m1_lti, m1_lei, i3_ltm, i3_lem, i3_decm, i3_dec0, nm_eqm, yr_eqm, mxor0, Nat.zero_add, if_pos, if_neg, eq_self, ne_eq, not_true_eq_false, not_false_eq_true, fX_Ways_takeOffers_L13, fX_Ways_takeOffers_b44, fX_Ways_takeOffers_b45, fX_Ways_takeOffers_b75, hb, e2, pu48]
        · have e2 := hX1.lendsNo (a := k) (by omega) hk hq
          refine ⟨(i3 (k + 1), st g1 48 (r * 8 + k) m1), ?_, _, rfl, fin g1 m1 FX1.rf (by rw [if_neg (fun z => q2 z.1)])⟩
          simp (disch := (first | omega | assumption | trivial)) only [li_0, li_1, li_2, li_3, li_4, li_5, li_6, li_7, li_8, li_9, li_10, li_11, li_12, li_13, li_14, li_15, li_16, li_17, li_18, li_19, li_20, li_21, li_22, li_23, li_24, li_25, li_26, li_27, li_28, li_29, li_30, li_31, li_32, li_33, li_34, li_35, li_36, li_37, li_38, li_39, li_40, li_41, li_42, li_43, li_44, li_45, li_46, li_47, li_48, li_49, li_50, li_51, li_52, li_53, li_54, li_55, li_56, li_57, li_58, li_59, li_60, li_63, li_64, li_72, li_76, li_77, li_91, li_93, li_96, li_97, li_99, li_108, li_109, li_120, li_122, li_150, li_200, li_255, li_400, li_426, li_600, li_900, li_999, li_1000, li_1002, li_1003, li_2000, li_2042, li_2043, li_2045, li_10000, li_32767, li_100000, li_1000000, li_m1, li_m1b, ob_s, lt1_e, se_l, se_r, if_true, if_false, true_and, and_true, false_and, and_false, st_at, i3_add, i3_mul, i3_sub, i3_lt, i3_le, i3_eq, i3_nat, m1_eqi, i3_eqm, m1_lti, m1_lei, i3_ltm, i3_lem, i3_decm, i3_dec0, nm_eqm, yr_eqm, mxor0, Nat.zero_add, if_pos, if_neg, eq_self, ne_eq, not_true_eq_false, not_false_eq_true, fX_Ways_takeOffers_L13, fX_Ways_takeOffers_b44, fX_Ways_takeOffers_b45, fX_Ways_takeOffers_b75, hb, e2, pu48]
    · rintro s ⟨g1, rfl, h1⟩
      refine ⟨g1, ?_, h1⟩
      simp (disch := (first | omega | assumption | trivial)) only [li_0, li_1, li_2, li_3, li_4, li_5, li_6, li_7, li_8, li_9, li_10, li_11, li_12, li_13, li_14, li_15, li_16, li_17, li_18, li_19, li_20, li_21, li_22, li_23, li_24, li_25, li_26, li_27, li_28, li_29, li_30, li_31, li_32, li_33, li_34, li_35, li_36, li_37, li_38, li_39, li_40, li_41, li_42, li_43, li_44, li_45, li_46, li_47, li_48, li_49, li_50, li_51, li_52, li_53, li_54, li_55, li_56, li_57, li_58, li_59, li_60, li_63, li_64, li_72, li_76, li_77, li_91, li_93, li_96, li_97, li_99, li_108, li_109, li_120, li_122, li_150, li_200, li_255, li_400, li_426, li_600, li_900, li_999, li_1000, li_1002, li_1003, li_2000, li_2042, li_2043, li_2045, li_10000, li_32767, li_100000, li_1000000, li_m1, li_m1b, ob_s, lt1_e, se_l, se_r, if_true, if_false, true_and, and_true, false_and, and_false, st_at, i3_add, i3_mul, i3_sub, i3_lt, i3_le, i3_eq, i3_nat, m1_eqi, i3_eqm, m1_lti, m1_lei, i3_ltm, i3_lem, i3_decm, i3_dec0, nm_eqm, yr_eqm, mxor0, Nat.zero_add, if_pos, if_neg, eq_self, ne_eq, not_true_eq_false, not_false_eq_true, fX_Ways_takeOffers_L13]
  obtain ⟨z, e, hz⟩ := key
  refine ⟨z, ?_, hz⟩
  simp (disch := (first | omega | assumption | trivial)) only [li_0, li_1, li_2, li_3, li_4, li_5, li_6, li_7, li_8, li_9, li_10, li_11, li_12, li_13, li_14, li_15, li_16, li_17, li_18, li_19, li_20, li_21, li_22, li_23, li_24, li_25, li_26, li_27, li_28, li_29, li_30, li_31, li_32, li_33, li_34, li_35, li_36, li_37, li_38, li_39, li_40, li_41, li_42, li_43, li_44, li_45, li_46, li_47, li_48, li_49, li_50, li_51, li_52, li_53, li_54, li_55, li_56, li_57, li_58, li_59, li_60, li_63, li_64, li_72, li_76, li_77, li_91, li_93, li_96, li_97, li_99, li_108, li_109, li_120, li_122, li_150, li_200, li_255, li_400, li_426, li_600, li_900, li_999, li_1000, li_1002, li_1003, li_2000, li_2042, li_2043, li_2045, li_10000, li_32767, li_100000, li_1000000, li_m1, li_m1b, ob_s, lt1_e, se_l, se_r, if_true, if_false, true_and, and_true, false_and, and_false, st_at, i3_add, i3_mul, i3_sub, i3_lt, i3_le, i3_eq, i3_nat, m1_eqi, i3_eqm, m1_lti, m1_lei, i3_ltm, i3_lem, i3_decm, i3_dec0, nm_eqm, yr_eqm, mxor0, Nat.zero_add, if_pos, if_neg, eq_self, ne_eq, not_true_eq_false, not_false_eq_true, fX_Ways_takeOffers, fX_Ways_takeOffers_b13, at8, h47, e]
theorem searchW (hX : EC W n N K F D U T Y 10 gX0) (hP : P < 256) (hPn : ∀ q, n ≤ q → P.testBit q = false) (hS : ∀ q, S.testBit q = true ↔ (q < n ∧ P.testBit q = true ∧ T q = 0)) : ∃ g', lp (fX_Ways_search_L17 10 (i3 P)) fuel (i3 0, st (st (st gX0 14 5 (i3 0)) 14 6 m1) 14 7 m1) = some g' ∧ KX gX0 g' ∧ g' 14 5 = i3 (rkk S n) ∧ g' 14 6 = m1 ∧ g' 14 7 = m1 ∧ (∀ a, a < n → st8 U a < N → g' 49 a = i3 (N - st8 U a)) ∧ OFF W n N K F D U T Y P S n g' := by
  have h8 := hX.2.2.1.1
  have hS0 : ∀ d, rkk S (n + d) = rkk S n := fun d => by
    induction d with
    | zero => rfl
    | succ d ih =>
      have q : ¬ S.testBit (n + d) = true := fun z => by have := ((hS _).mp z).1; omega
      have := rkk_F q
      rw [Nat.add_assoc] at this
      omega
  have h80 := hS0 (8 - n)
  rw [show n + (8 - n) = 8 by omega] at h80
  refine lp_all (fun k s => ∃ g1, s = (i3 k, g1) ∧ KX gX0 g1 ∧ g1 14 5 = i3 (rkk S k) ∧ g1 14 6 = m1 ∧ g1 14 7 = m1 ∧ (∀ a, a < k → a < n → st8 U a < N → g1 49 a = i3 (N - st8 U a)) ∧ OFF W n N K F D U T Y P S k g1) (fun g' => KX gX0 g' ∧ g' 14 5 = i3 (rkk S n) ∧ g' 14 6 = m1 ∧ g' 14 7 = m1 ∧ (∀ a, a < n → st8 U a < N → g' 49 a = i3 (N - st8 U a)) ∧ OFF W n N K F D U T Y P S n g') 8 (by omega) ?_ ?_ ⟨_, rfl, ((kxW (by omega)).tr (kxW (by omega))).tr (kxW (by omega)), by rw [st_at, if_neg (by omega), st_at, if_neg (by omega), st_eq]; rfl, by rw [st_at, if_neg (by omega), st_eq], st_eq _ _ _ _, fun a ha => by omega, fun q hq => by omega⟩
  · rintro k s hk ⟨g1, rfl, h1, h2, h3, h4, h5, h6⟩
    have hX1 := hX.frK h1
    have hs := hX1.stonesOf (a := k) (by omega)
    have hN := hX1.2.2.2.1.2.1
    have hb := bit_in (m := P) (k := k) hP hk
    have hrk := rkk_le S k
    have k2 : KX gX0 (st g1 49 k (i3 N - i3 (st8 U k))) := h1.tr (kxW (by omega))
    have hX2 := hX.frK k2
    have r49 : ∀ a, a < k + 1 → a < n → st8 U a < N → st g1 49 k (i3 N - i3 (st8 U k)) 49 a = i3 (N - st8 U a) := fun a ha hn hst => by
      by_cases e : a = k
      · subst e
        rw [st_eq, i3_sub (by omega)]
      · rw [st_at, if_neg (by omega)]; exact h5 a (by omega) hn hst
    have skip : ¬ S.testBit k = true → KX gX0 (st g1 49 k (i3 N - i3 (st8 U k))) ∧ st g1 49 k (i3 N - i3 (st8 U k)) 14 5 = i3 (rkk S (k + 1)) ∧ st g1 49 k (i3 N - i3 (st8 U k)) 14 6 = m1 ∧ st g1 49 k (i3 N - i3 (st8 U k)) 14 7 = m1 ∧ (∀ a, a < k + 1 → a < n → st8 U a < N → st g1 49 k (i3 N - i3 (st8 U k)) 49 a = i3 (N - st8 U a)) ∧ OFF W n N K F D U T Y P S (k + 1) (st g1 49 k (i3 N - i3 (st8 U k))) := fun z => by
      refine ⟨k2, by rw [st_ne (by omega), rkk_F z]; exact h2, by rw [st_ne (by omega)]; exact h3, by rw [st_ne (by omega)]; exact h4, r49, fun q hq hq2 => ?_⟩
      rw [st_ne (by omega), st_ne (by omega)]
      by_cases e : q = k
      · subst e; exact absurd hq2 z
      · exact h6 q (by omega) hq2
    by_cases q1 : P.testBit k = true
    · rw [if_pos q1] at hb
      have qn : k < n := Classical.byContradiction fun z => by
        have := hPn k (by omega)
        rw [q1] at this
        cases this
      have hl := hX2.lives qn
      by_cases q2 : T k = 0
      · rw [if_pos q2] at hl
        have qS : S.testBit k = true := (hS k).mpr ⟨qn, q1, q2⟩
        have rk1 := rkk_T qS
        have k3 : KX gX0 (st (st g1 49 k (i3 N - i3 (st8 U k))) 47 (rkk S k) (i3 k)) := k2.tr (kxW (by omega))
        obtain ⟨g3, e3, f3, f4, f5⟩ := offersW (g := st (st g1 49 k (i3 N - i3 (st8 U k))) 47 (rkk S k) (i3 k)) hX hP qn (show rkk S k < 8 by omega) k3 (st_eq _ _ _ _)
        have g35 : g3 14 5 = i3 (rkk S k) := by
          rw [f4 14 5 (by omega) (by omega) (by omega), st_ne (by omega), st_ne (by omega)]; exact h2
        refine ⟨(i3 (k + 1), st g3 14 5 (i3 (rkk S k + 1))), ?_, _, rfl, f3.tr (kxW (by omega)), by rw [st_eq, rk1], ?_, ?_, fun a ha hn hst => ?_, fun q hq hq2 => ?_⟩
        · have h2' : st g1 49 k (i3 N - i3 (st8 U k)) 14 5 = i3 (rkk S k) := by rw [st_ne (by omega)]; exact h2
          have h2'' : st (st g1 49 k (i3 N - i3 (st8 U k))) 47 (rkk S k) (i3 k) 14 5 = i3 (rkk S k) := by rw [st_ne (by omega)]; exact h2'
          unfold fX_Ways_search_L17 fX_State_roomOf
          dsimp only
          rw [if_neg (show ¬ (8 : Int32) ≤ i3 k from i3_nle (a := 8) (by omega) hk), hs, ob_s, ob_s, hN, pu8 (by omega) hk, ob_s, if_pos (show (i3 P >>> (i3 k &&& 31)) &&& (1 : Int32) = (1 : Int32) from hb), hl, ob_s, if_neg (show ¬ i3 1 = (0 : Int32) by decide), h2', pu8 (by omega) (by omega), ob_s, h2'', e3, ob_s, g35]
          unfold fX_Ways_search_b85
          rw [show i3 (rkk S k) + (1 : Int32) = i3 (rkk S k + 1) from i3_add _ 1, show i3 k + (1 : Int32) = i3 (k + 1) from i3_add k 1]
        · rw [st_at, if_neg (by omega), f4 14 6 (by omega) (by omega) (by omega), st_ne (by omega), st_ne (by omega)]; exact h3
        · rw [st_at, if_neg (by omega), f4 14 7 (by omega) (by omega) (by omega), st_ne (by omega), st_ne (by omega)]; exact h4
        · rw [st_ne (by omega), f4 49 a (by omega) (by omega) (by omega), st_ne (by omega)]; exact r49 a ha hn hst
        · rw [st_ne (by omega), st_ne (by omega)]
          by_cases e : q = k
          · subst e
            refine ⟨?_, f5⟩
            rw [f4 47 _ (by omega) (by omega) (by omega), st_eq]
          · have hlt := rkk_lt hq2 (show q < k by omega)
            obtain ⟨u1, u2⟩ := h6 q (by omega) hq2
            refine ⟨?_, fun a ha => ?_⟩
            · rw [f4 47 _ (by omega) (by omega) (by omega), st_at, if_neg (by omega), st_ne (by omega)]; exact u1
            · rw [f4 48 _ (by omega) (by omega) (by omega), st_ne (by omega), st_ne (by omega)]; exact u2 a ha
      · rw [if_neg q2] at hl
        refine ⟨(i3 (k + 1), st g1 49 k (i3 N - i3 (st8 U k))), ?_, _, rfl, skip (fun z => q2 ((hS k).mp z).2.2)⟩
        unfold fX_Ways_search_L17 fX_State_roomOf
        dsimp only
        rw [if_neg (show ¬ (8 : Int32) ≤ i3 k from i3_nle (a := 8) (by omega) hk), hs, ob_s, ob_s, hN, pu8 (by omega) hk, ob_s, if_pos (show (i3 P >>> (i3 k &&& 31)) &&& (1 : Int32) = (1 : Int32) from hb), hl, ob_s, if_pos (show i3 0 = (0 : Int32) from rfl)]
        unfold fX_Ways_search_b85
        rw [show i3 k + (1 : Int32) = i3 (k + 1) from i3_add k 1]
    · rw [if_neg q1] at hb
      refine ⟨(i3 (k + 1), st g1 49 k (i3 N - i3 (st8 U k))), ?_, _, rfl, skip (fun z => q1 ((hS k).mp z).2.1)⟩
      unfold fX_Ways_search_L17 fX_State_roomOf
      dsimp only
      rw [if_neg (show ¬ (8 : Int32) ≤ i3 k from i3_nle (a := 8) (by omega) hk), hs, ob_s, ob_s, hN, pu8 (by omega) hk, ob_s, if_neg (show ¬ (i3 P >>> (i3 k &&& 31)) &&& (1 : Int32) = (1 : Int32) from fun z => by rw [show (i3 P >>> (i3 k &&& 31)) &&& (1 : Int32) = i3 0 from hb] at z; exact absurd z (by decide))]
      unfold fX_Ways_search_b85
      rw [show i3 k + (1 : Int32) = i3 (k + 1) from i3_add k 1]
  · rintro s ⟨g1, rfl, h1, h2, h3, h4, h5, h6⟩
    rw [h80] at h2
    refine ⟨g1, ?_, h1, h2, h3, h4, fun a ha => h5 a (by omega) ha, fun q hq => h6 q (by omega)⟩
    simp (disch := (first | omega | assumption | trivial)) only [li_0, li_1, li_2, li_3, li_4, li_5, li_6, li_7, li_8, li_9, li_10, li_11, li_12, li_13, li_14, li_15, li_16, li_17, li_18, li_19, li_20, li_21, li_22, li_23, li_24, li_25, li_26, li_27, li_28, li_29, li_30, li_31, li_32, li_33, li_34, li_35, li_36, li_37, li_38, li_39, li_40, li_41, li_42, li_43, li_44, li_45, li_46, li_47, li_48, li_49, li_50, li_51, li_52, li_53, li_54, li_55, li_56, li_57, li_58, li_59, li_60, li_63, li_64, li_72, li_76, li_77, li_91, li_93, li_96, li_97, li_99, li_108, li_109, li_120, li_122, li_150, li_200, li_255, li_400, li_426, li_600, li_900, li_999, li_1000, li_1002, li_1003, li_2000, li_2042, li_2043, li_2045, li_10000, li_32767, li_100000, li_1000000, li_m1, li_m1b, ob_s, lt1_e, se_l, se_r, if_true, if_false, true_and, and_true, false_and, and_false, st_at, i3_add, i3_mul, i3_sub, i3_lt, i3_le, i3_eq, i3_nat, m1_eqi, i3_eqm, m1_lti, m1_lei, i3_ltm, i3_lem, i3_decm, i3_dec0, nm_eqm, yr_eqm, mxor0, Nat.zero_add, if_pos, if_neg, eq_self, ne_eq, not_true_eq_false, not_false_eq_true, fX_Ways_search_L17]
theorem waysBoth (hX : EC W n N K F D U T Y 10 gX0) (hM : EMd W n N K F D U T Y 16 gM0) (t0 : gM0 0 0 = i3 0) (hP : P < 256) (hPn : ∀ q, n ≤ q → P.testBit q = false) : ∃ gX' gM' bs bw b t c, fX_Ways_search 10 (i3 P) gX0 = some gX' ∧ fM_laysGifts (i3 P) gM0 = some gM' ∧ IV gX0 gM0 W n N K F D U T Y P (P &&& msk (fun p => decide (T p = 0)) n) 0 t c bs bw b gX' gM' ∧ bs ≠ 0 := by
  have h8 := hX.2.2.1.1
  have hS : ∀ q, (P &&& msk (fun p => decide (T p = 0)) n).testBit q = true ↔ (q < n ∧ P.testBit q = true ∧ T q = 0) := fun q => by
    rw [Nat.testBit_and, msk_bit]
    by_cases a : P.testBit q = true <;> by_cases b : q < n <;> by_cases c : T q = 0 <;> simp [a, b, c]
  have hS8 : P &&& msk (fun p => decide (T p = 0)) n < 256 := and_lt hP
  obtain ⟨g1, e1, a1, a2, a3, a4, a5, a6⟩ := searchW (gX0 := gX0) hX hP hPn hS
  have hL := hM.1.2.1.2.2.1
  obtain ⟨g2, e2, b1, b2, b3, b4, b5⟩ : ∃ g2, lp (fM_laysGifts_L12 (i3 P)) fuel (i3 0, st (st gM0 0 41 m1) 0 42 m1) = some g2 ∧ KM gM0 g2 ∧ g2 0 0 = i3 0 ∧ g2 0 41 = m1 ∧ g2 0 42 = m1 ∧ ∀ a, a < 8 → g2 22 a = i3 0 := by
    refine lp_all (fun k s => ∃ g2, s = (i3 k, g2) ∧ KM gM0 g2 ∧ g2 0 0 = i3 0 ∧ g2 0 41 = m1 ∧ g2 0 42 = m1 ∧ ∀ a, a < k → g2 22 a = i3 0) (fun g2 => KM gM0 g2 ∧ g2 0 0 = i3 0 ∧ g2 0 41 = m1 ∧ g2 0 42 = m1 ∧ ∀ a, a < 8 → g2 22 a = i3 0) 8 (by omega) ?_ ?_ ⟨_, rfl, (kmW (by omega)).tr (kmW (by omega)), by rw [st_at, if_neg (by omega), st_at, if_neg (by omega)]; exact t0, by rw [st_at, if_neg (by omega), st_eq], st_eq _ _ _ _, fun a ha => by omega⟩
    · rintro k s hk ⟨g2, rfl, b1, b2, b3, b4, b5⟩
      refine ⟨(i3 (k + 1), st g2 22 k (i3 0)), ?_, _, rfl, b1.tr (kmW (by omega)), by rw [st_ne (by omega)]; exact b2, by rw [st_ne (by omega)]; exact b3, by rw [st_ne (by omega)]; exact b4, fun a ha => ?_⟩
      · simp (disch := (first | omega | assumption | trivial)) only [li_0, li_1, li_2, li_3, li_4, li_5, li_6, li_7, li_8, li_9, li_10, li_11, li_12, li_13, li_14, li_15, li_16, li_17, li_18, li_19, li_20, li_21, li_22, li_23, li_24, li_25, li_26, li_27, li_28, li_29, li_30, li_31, li_32, li_33, li_34, li_35, li_36, li_37, li_38, li_39, li_40, li_41, li_42, li_43, li_44, li_45, li_46, li_47, li_48, li_49, li_50, li_51, li_52, li_53, li_54, li_55, li_56, li_57, li_58, li_59, li_60, li_63, li_64, li_72, li_76, li_77, li_91, li_93, li_96, li_97, li_99, li_108, li_109, li_120, li_122, li_150, li_200, li_255, li_400, li_426, li_600, li_900, li_999, li_1000, li_1002, li_1003, li_2000, li_2042, li_2043, li_2045, li_10000, li_32767, li_100000, li_1000000, li_m1, li_m1b, ob_s, lt1_e, se_l, se_r, if_true, if_false, true_and, and_true, false_and, and_false, st_at, i3_add, i3_mul, i3_sub, i3_lt, i3_le, i3_eq, i3_nat, m1_eqi, i3_eqm, m1_lti, m1_lei, i3_ltm, i3_lem, i3_decm, i3_dec0, nm_eqm, yr_eqm, mxor0, Nat.zero_add, if_pos, if_neg, eq_self, ne_eq, not_true_eq_false, not_false_eq_true, fM_laysGifts_L12]
      · by_cases e : a = k
        · subst e; exact st_eq _ _ _ _
        · rw [st_at, if_neg (by omega)]; exact b5 a (by omega)
    · rintro s ⟨g2, rfl, h⟩
      refine ⟨g2, ?_, h⟩
      simp (disch := (first | omega | assumption | trivial)) only [li_0, li_1, li_2, li_3, li_4, li_5, li_6, li_7, li_8, li_9, li_10, li_11, li_12, li_13, li_14, li_15, li_16, li_17, li_18, li_19, li_20, li_21, li_22, li_23, li_24, li_25, li_26, li_27, li_28, li_29, li_30, li_31, li_32, li_33, li_34, li_35, li_36, li_37, li_38, li_39, li_40, li_41, li_42, li_43, li_44, li_45, li_46, li_47, li_48, li_49, li_50, li_51, li_52, li_53, li_54, li_55, li_56, li_57, li_58, li_59, li_60, li_63, li_64, li_72, li_76, li_77, li_91, li_93, li_96, li_97, li_99, li_108, li_109, li_120, li_122, li_150, li_200, li_255, li_400, li_426, li_600, li_900, li_999, li_1000, li_1002, li_1003, li_2000, li_2042, li_2043, li_2045, li_10000, li_32767, li_100000, li_1000000, li_m1, li_m1b, ob_s, lt1_e, se_l, se_r, if_true, if_false, true_and, and_true, false_and, and_false, st_at, i3_add, i3_mul, i3_sub, i3_lt, i3_le, i3_eq, i3_nat, m1_eqi, i3_eqm, m1_lti, m1_lei, i3_ltm, i3_lem, i3_decm, i3_dec0, nm_eqm, yr_eqm, mxor0, Nat.zero_add, if_pos, if_neg, eq_self, ne_eq, not_true_eq_false, not_false_eq_true, fM_laysGifts_L12]
  have hI : IV gX0 gM0 W n N K F D U T Y P (P &&& msk (fun p => decide (T p = 0)) n) 0 (fun _ => 0) (fun _ => 8) 0 0 (fun _ => 8) g1 g2 := by
    refine ⟨a1, b1, b2, fun a ha => b5 a (by omega), fun a ha h => ⟨a5 a ha h, by dsimp only; omega⟩, fun q hq => by omega, fun q hq => by omega, ⟨a2, a6⟩, b3, a3, b4, a4, fun z => absurd rfl z, by omega, by omega⟩
  obtain ⟨gX', gM', bs, bw, b, eX, eM, h, hb⟩ := recW hX hM hS hS8 n 0 (by omega) 12 20 (by omega) (by omega) _ _ _ _ _ _ _ 0 0 hI (by omega) (by omega)
  have eX' : fX_Ways_give 12 (i3 0) (i3 0) (i3 0) g1 = some gX' := eX
  refine ⟨gX', gM', bs, bw, b, _, _, ?_, ?_, h, hb⟩
  · simp (disch := (first | omega | assumption | trivial)) only [li_0, li_1, li_2, li_3, li_4, li_5, li_6, li_7, li_8, li_9, li_10, li_11, li_12, li_13, li_14, li_15, li_16, li_17, li_18, li_19, li_20, li_21, li_22, li_23, li_24, li_25, li_26, li_27, li_28, li_29, li_30, li_31, li_32, li_33, li_34, li_35, li_36, li_37, li_38, li_39, li_40, li_41, li_42, li_43, li_44, li_45, li_46, li_47, li_48, li_49, li_50, li_51, li_52, li_53, li_54, li_55, li_56, li_57, li_58, li_59, li_60, li_63, li_64, li_72, li_76, li_77, li_91, li_93, li_96, li_97, li_99, li_108, li_109, li_120, li_122, li_150, li_200, li_255, li_400, li_426, li_600, li_900, li_999, li_1000, li_1002, li_1003, li_2000, li_2042, li_2043, li_2045, li_10000, li_32767, li_100000, li_1000000, li_m1, li_m1b, ob_s, lt1_e, se_l, se_r, if_true, if_false, true_and, and_true, false_and, and_false, st_at, i3_add, i3_mul, i3_sub, i3_lt, i3_le, i3_eq, i3_nat, m1_eqi, i3_eqm, m1_lti, m1_lei, i3_ltm, i3_lem, i3_decm, i3_dec0, nm_eqm, yr_eqm, mxor0, Nat.zero_add, if_pos, if_neg, eq_self, ne_eq, not_true_eq_false, not_false_eq_true, fX_Ways_search, fX_Ways_search_b17, e1, eX']
  · have hL2 : g2 16 24 = i3 (msk (fun p => decide (T p = 0)) n) := (b1 16 24 (by omega)).trans hL
    have hand := i3_and P (msk (fun p => decide (T p = 0)) n)
    simp (disch := (first | omega | assumption | trivial)) only [li_0, li_1, li_2, li_3, li_4, li_5, li_6, li_7, li_8, li_9, li_10, li_11, li_12, li_13, li_14, li_15, li_16, li_17, li_18, li_19, li_20, li_21, li_22, li_23, li_24, li_25, li_26, li_27, li_28, li_29, li_30, li_31, li_32, li_33, li_34, li_35, li_36, li_37, li_38, li_39, li_40, li_41, li_42, li_43, li_44, li_45, li_46, li_47, li_48, li_49, li_50, li_51, li_52, li_53, li_54, li_55, li_56, li_57, li_58, li_59, li_60, li_63, li_64, li_72, li_76, li_77, li_91, li_93, li_96, li_97, li_99, li_108, li_109, li_120, li_122, li_150, li_200, li_255, li_400, li_426, li_600, li_900, li_999, li_1000, li_1002, li_1003, li_2000, li_2042, li_2043, li_2045, li_10000, li_32767, li_100000, li_1000000, li_m1, li_m1b, ob_s, lt1_e, se_l, se_r, if_true, if_false, true_and, and_true, false_and, and_false, st_at, i3_add, i3_mul, i3_sub, i3_lt, i3_le, i3_eq, i3_nat, m1_eqi, i3_eqm, m1_lti, m1_lei, i3_ltm, i3_lem, i3_decm, i3_dec0, nm_eqm, yr_eqm, mxor0, Nat.zero_add, if_pos, if_neg, eq_self, ne_eq, not_true_eq_false, not_false_eq_true, fM_laysGifts, fM_laysGifts_b12, e2, hL2, hand, eM]
end WS

theorem S_served : Sim_served R := by
  intro gX xX gM xM x1 x2 hR
  obtain ⟨W, n, N, K, F, D, U, T, Y, d, hX, hM, hY, hW, h6, h7⟩ := id hR.2.2.2
  have h8 := hX.2.2.1.1
  have nX := hX.2.2.2.1.1
  obtain ⟨g0, hg0⟩ : ∃ g0, g0 = st gM 0 0 (i3 0) := ⟨_, rfl⟩
  have t0 : g0 0 0 = i3 0 := by rw [hg0, st_eq]
  have k0 : KM gM g0 := by rw [hg0]; exact KM.thrown
  have hR0 : R gX xX g0 xM := hR.fr KX.rf k0
  have hM0 : EMd W n N K F D U T Y 16 g0 := hM.frK k0
  have nM := hM0.1.2.2.2.1.1
  have eN : ∀ z1 z2 : Int32, fX_served_b23 z1 z2 (i3 0) gX = some (.inl 1, st gX 0 18 (gX 0 18 + i3 1)) := fun z1 z2 => by
    unfold fX_served_b23
    rw [needN]
    rfl
  have ev := evY nM h8
  rcases clsT h8 x1 with ⟨P, hP, rfl⟩ | q1
  · have e1 := areY nX h8 hP
    have e2 := inY (k := P) (lo := 0) (hi := 1 <<< n - 1) (by omega) (by omega) (by have := pow_le8 h8; omega)
    rcases rg 1 (by omega) x2 with ⟨w, hw, rfl⟩ | q1
    · have e3 := inY (k := w) (lo := 0) (hi := 1) (by omega) hw (by omega)
      obtain ⟨a1, a2, bs, bw, b, t, c, b1, b2, hI, hb⟩ := waysBoth hX hM0 t0 (told_lt h8 hP) (fun q hq => told_bit hP hq)
      have hR2 : R a1 xX a2 xM := hR0.fr hI.1 hI.2.1
      have t2 := hI.2.2.1
      obtain ⟨_, _, _, _, _, _, _, _, i9, i10, i11, i12, _⟩ := hI
      rcases (show w = 0 ∨ w = 1 by omega) with rfl | rfl
      · refine ⟨(.inr (yr bs), a1), (yr bs, a2), ?_, ?_, hR2, okR t2⟩
        · simp (disch := (first | omega | assumption | trivial)) only [li_0, li_1, li_2, li_3, li_4, li_5, li_6, li_7, li_8, li_9, li_10, li_11, li_12, li_13, li_14, li_15, li_16, li_17, li_18, li_19, li_20, li_21, li_22, li_23, li_24, li_25, li_26, li_27, li_28, li_29, li_30, li_31, li_32, li_33, li_34, li_35, li_36, li_37, li_38, li_39, li_40, li_41, li_42, li_43, li_44, li_45, li_46, li_47, li_48, li_49, li_50, li_51, li_52, li_53, li_54, li_55, li_56, li_57, li_58, li_59, li_60, li_63, li_64, li_72, li_76, li_77, li_91, li_93, li_96, li_97, li_99, li_108, li_109, li_120, li_122, li_150, li_200, li_255, li_400, li_426, li_600, li_900, li_999, li_1000, li_1002, li_1003, li_2000, li_2042, li_2043, li_2045, li_10000, li_32767, li_100000, li_1000000, li_m1, li_m1b, ob_s, lt1_e, se_l, se_r, if_true, if_false, true_and, and_true, false_and, and_false, st_at, i3_add, i3_mul, i3_sub, i3_lt, i3_le, i3_eq, i3_nat, m1_eqi, i3_eqm, m1_lti, m1_lei, i3_ltm, i3_lem, i3_decm, i3_dec0, nm_eqm, yr_eqm, mxor0, Nat.zero_add, if_pos, if_neg, eq_self, ne_eq, not_true_eq_false, not_false_eq_true, fX_served, fX_served_b18, fX_served_b23, e1, needY, b1, i10]
        · simp (disch := (first | omega | assumption | trivial)) only [li_0, li_1, li_2, li_3, li_4, li_5, li_6, li_7, li_8, li_9, li_10, li_11, li_12, li_13, li_14, li_15, li_16, li_17, li_18, li_19, li_20, li_21, li_22, li_23, li_24, li_25, li_26, li_27, li_28, li_29, li_30, li_31, li_32, li_33, li_34, li_35, li_36, li_37, li_38, li_39, li_40, li_41, li_42, li_43, li_44, li_45, li_46, li_47, li_48, li_49, li_50, li_51, li_52, li_53, li_54, li_55, li_56, li_57, li_58, li_59, li_60, li_63, li_64, li_72, li_76, li_77, li_91, li_93, li_96, li_97, li_99, li_108, li_109, li_120, li_122, li_150, li_200, li_255, li_400, li_426, li_600, li_900, li_999, li_1000, li_1002, li_1003, li_2000, li_2042, li_2043, li_2045, li_10000, li_32767, li_100000, li_1000000, li_m1, li_m1b, ob_s, lt1_e, se_l, se_r, if_true, if_false, true_and, and_true, false_and, and_false, st_at, i3_add, i3_mul, i3_sub, i3_lt, i3_le, i3_eq, i3_nat, m1_eqi, i3_eqm, m1_lti, m1_lei, i3_ltm, i3_lem, i3_decm, i3_dec0, nm_eqm, yr_eqm, mxor0, Nat.zero_add, if_pos, if_neg, eq_self, ne_eq, not_true_eq_false, not_false_eq_true, fM_served, hg0.symm, fM_served_b32, ev, e2, e3, badY, t0, b2, i9]
      · refine ⟨(.inr (yr bw), a1), (yr bw, a2), ?_, ?_, hR2, okR t2⟩
        · simp (disch := (first | omega | assumption | trivial)) only [li_0, li_1, li_2, li_3, li_4, li_5, li_6, li_7, li_8, li_9, li_10, li_11, li_12, li_13, li_14, li_15, li_16, li_17, li_18, li_19, li_20, li_21, li_22, li_23, li_24, li_25, li_26, li_27, li_28, li_29, li_30, li_31, li_32, li_33, li_34, li_35, li_36, li_37, li_38, li_39, li_40, li_41, li_42, li_43, li_44, li_45, li_46, li_47, li_48, li_49, li_50, li_51, li_52, li_53, li_54, li_55, li_56, li_57, li_58, li_59, li_60, li_63, li_64, li_72, li_76, li_77, li_91, li_93, li_96, li_97, li_99, li_108, li_109, li_120, li_122, li_150, li_200, li_255, li_400, li_426, li_600, li_900, li_999, li_1000, li_1002, li_1003, li_2000, li_2042, li_2043, li_2045, li_10000, li_32767, li_100000, li_1000000, li_m1, li_m1b, ob_s, lt1_e, se_l, se_r, if_true, if_false, true_and, and_true, false_and, and_false, st_at, i3_add, i3_mul, i3_sub, i3_lt, i3_le, i3_eq, i3_nat, m1_eqi, i3_eqm, m1_lti, m1_lei, i3_ltm, i3_lem, i3_decm, i3_dec0, nm_eqm, yr_eqm, mxor0, Nat.zero_add, if_pos, if_neg, eq_self, ne_eq, not_true_eq_false, not_false_eq_true, fX_served, fX_served_b18, fX_served_b23, e1, needY, b1, i12]
        · simp (disch := (first | omega | assumption | trivial)) only [li_0, li_1, li_2, li_3, li_4, li_5, li_6, li_7, li_8, li_9, li_10, li_11, li_12, li_13, li_14, li_15, li_16, li_17, li_18, li_19, li_20, li_21, li_22, li_23, li_24, li_25, li_26, li_27, li_28, li_29, li_30, li_31, li_32, li_33, li_34, li_35, li_36, li_37, li_38, li_39, li_40, li_41, li_42, li_43, li_44, li_45, li_46, li_47, li_48, li_49, li_50, li_51, li_52, li_53, li_54, li_55, li_56, li_57, li_58, li_59, li_60, li_63, li_64, li_72, li_76, li_77, li_91, li_93, li_96, li_97, li_99, li_108, li_109, li_120, li_122, li_150, li_200, li_255, li_400, li_426, li_600, li_900, li_999, li_1000, li_1002, li_1003, li_2000, li_2042, li_2043, li_2045, li_10000, li_32767, li_100000, li_1000000, li_m1, li_m1b, ob_s, lt1_e, se_l, se_r, if_true, if_false, true_and, and_true, false_and, and_false, st_at, i3_add, i3_mul, i3_sub, i3_lt, i3_le, i3_eq, i3_nat, m1_eqi, i3_eqm, m1_lti, m1_lei, i3_ltm, i3_lem, i3_decm, i3_dec0, nm_eqm, yr_eqm, mxor0, Nat.zero_add, if_pos, if_neg, eq_self, ne_eq, not_true_eq_false, not_false_eq_true, fM_served, hg0.symm, fM_served_b32, ev, e2, e3, badY, t0, b2, i11]
    · obtain ⟨e3, n3, _⟩ := q1
      have z0 := n3 0 (by omega)
      have z1 := n3 1 (by omega)
      refine ⟨(.inl 1, st gX 0 18 (gX 0 18 + i3 1)), (i3 0, st (st g0 0 0 (i3 1)) 2 1 (g0 2 1 + i3 1)), ?_, ?_, ref11 hR0 _⟩
      · simp (disch := (first | omega | assumption | trivial)) only [li_0, li_1, li_2, li_3, li_4, li_5, li_6, li_7, li_8, li_9, li_10, li_11, li_12, li_13, li_14, li_15, li_16, li_17, li_18, li_19, li_20, li_21, li_22, li_23, li_24, li_25, li_26, li_27, li_28, li_29, li_30, li_31, li_32, li_33, li_34, li_35, li_36, li_37, li_38, li_39, li_40, li_41, li_42, li_43, li_44, li_45, li_46, li_47, li_48, li_49, li_50, li_51, li_52, li_53, li_54, li_55, li_56, li_57, li_58, li_59, li_60, li_63, li_64, li_72, li_76, li_77, li_91, li_93, li_96, li_97, li_99, li_108, li_109, li_120, li_122, li_150, li_200, li_255, li_400, li_426, li_600, li_900, li_999, li_1000, li_1002, li_1003, li_2000, li_2042, li_2043, li_2045, li_10000, li_32767, li_100000, li_1000000, li_m1, li_m1b, ob_s, lt1_e, se_l, se_r, if_true, if_false, true_and, and_true, false_and, and_false, st_at, i3_add, i3_mul, i3_sub, i3_lt, i3_le, i3_eq, i3_nat, m1_eqi, i3_eqm, m1_lti, m1_lei, i3_ltm, i3_lem, i3_decm, i3_dec0, nm_eqm, yr_eqm, mxor0, Nat.zero_add, if_pos, if_neg, eq_self, ne_eq, not_true_eq_false, not_false_eq_true, fX_served, fX_served_b22, e1, eN, z0, z1]
      · simp (disch := (first | omega | assumption | trivial)) only [li_0, li_1, li_2, li_3, li_4, li_5, li_6, li_7, li_8, li_9, li_10, li_11, li_12, li_13, li_14, li_15, li_16, li_17, li_18, li_19, li_20, li_21, li_22, li_23, li_24, li_25, li_26, li_27, li_28, li_29, li_30, li_31, li_32, li_33, li_34, li_35, li_36, li_37, li_38, li_39, li_40, li_41, li_42, li_43, li_44, li_45, li_46, li_47, li_48, li_49, li_50, li_51, li_52, li_53, li_54, li_55, li_56, li_57, li_58, li_59, li_60, li_63, li_64, li_72, li_76, li_77, li_91, li_93, li_96, li_97, li_99, li_108, li_109, li_120, li_122, li_150, li_200, li_255, li_400, li_426, li_600, li_900, li_999, li_1000, li_1002, li_1003, li_2000, li_2042, li_2043, li_2045, li_10000, li_32767, li_100000, li_1000000, li_m1, li_m1b, ob_s, lt1_e, se_l, se_r, if_true, if_false, true_and, and_true, false_and, and_false, st_at, i3_add, i3_mul, i3_sub, i3_lt, i3_le, i3_eq, i3_nat, m1_eqi, i3_eqm, m1_lti, m1_lei, i3_ltm, i3_lem, i3_decm, i3_dec0, nm_eqm, yr_eqm, mxor0, Nat.zero_add, if_pos, if_neg, eq_self, ne_eq, not_true_eq_false, not_false_eq_true, fM_served, hg0.symm, fM_served_b27, fM_served_b32, ev, e2, e3, badN, t0]
  · have e1 := q1.1 gX nX
    have e2 := q1.2
    refine ⟨(.inl 1, st gX 0 18 (gX 0 18 + i3 1)), (i3 0, st (st g0 0 0 (i3 1)) 2 1 (g0 2 1 + i3 1)), ?_, ?_, ref11 hR0 _⟩
    · simp (disch := (first | omega | assumption | trivial)) only [li_0, li_1, li_2, li_3, li_4, li_5, li_6, li_7, li_8, li_9, li_10, li_11, li_12, li_13, li_14, li_15, li_16, li_17, li_18, li_19, li_20, li_21, li_22, li_23, li_24, li_25, li_26, li_27, li_28, li_29, li_30, li_31, li_32, li_33, li_34, li_35, li_36, li_37, li_38, li_39, li_40, li_41, li_42, li_43, li_44, li_45, li_46, li_47, li_48, li_49, li_50, li_51, li_52, li_53, li_54, li_55, li_56, li_57, li_58, li_59, li_60, li_63, li_64, li_72, li_76, li_77, li_91, li_93, li_96, li_97, li_99, li_108, li_109, li_120, li_122, li_150, li_200, li_255, li_400, li_426, li_600, li_900, li_999, li_1000, li_1002, li_1003, li_2000, li_2042, li_2043, li_2045, li_10000, li_32767, li_100000, li_1000000, li_m1, li_m1b, ob_s, lt1_e, se_l, se_r, if_true, if_false, true_and, and_true, false_and, and_false, st_at, i3_add, i3_mul, i3_sub, i3_lt, i3_le, i3_eq, i3_nat, m1_eqi, i3_eqm, m1_lti, m1_lei, i3_ltm, i3_lem, i3_decm, i3_dec0, nm_eqm, yr_eqm, mxor0, Nat.zero_add, if_pos, if_neg, eq_self, ne_eq, not_true_eq_false, not_false_eq_true, fX_served, fX_served_b22, e1, eN]
    · simp (disch := (first | omega | assumption | trivial)) only [li_0, li_1, li_2, li_3, li_4, li_5, li_6, li_7, li_8, li_9, li_10, li_11, li_12, li_13, li_14, li_15, li_16, li_17, li_18, li_19, li_20, li_21, li_22, li_23, li_24, li_25, li_26, li_27, li_28, li_29, li_30, li_31, li_32, li_33, li_34, li_35, li_36, li_37, li_38, li_39, li_40, li_41, li_42, li_43, li_44, li_45, li_46, li_47, li_48, li_49, li_50, li_51, li_52, li_53, li_54, li_55, li_56, li_57, li_58, li_59, li_60, li_63, li_64, li_72, li_76, li_77, li_91, li_93, li_96, li_97, li_99, li_108, li_109, li_120, li_122, li_150, li_200, li_255, li_400, li_426, li_600, li_900, li_999, li_1000, li_1002, li_1003, li_2000, li_2042, li_2043, li_2045, li_10000, li_32767, li_100000, li_1000000, li_m1, li_m1b, ob_s, lt1_e, se_l, se_r, if_true, if_false, true_and, and_true, false_and, and_false, st_at, i3_add, i3_mul, i3_sub, i3_lt, i3_le, i3_eq, i3_nat, m1_eqi, i3_eqm, m1_lti, m1_lei, i3_ltm, i3_lem, i3_decm, i3_dec0, nm_eqm, yr_eqm, mxor0, Nat.zero_add, if_pos, if_neg, eq_self, ne_eq, not_true_eq_false, not_false_eq_true, fM_served, hg0.symm, fM_served_b27, fM_served_b32, ev, e2, badN, t0]

theorem S_giver : Sim_giver R := by
  intro gX xX gM xM x1 x2 hR
  obtain ⟨W, n, N, K, F, D, U, T, Y, d, hX, hM, hY, hW, h6, h7⟩ := id hR.2.2.2
  have h8 := hX.2.2.1.1
  have nX := hX.2.2.2.1.1
  obtain ⟨g0, hg0⟩ : ∃ g0, g0 = st gM 0 0 (i3 0) := ⟨_, rfl⟩
  have t0 : g0 0 0 = i3 0 := by rw [hg0, st_eq]
  have k0 : KM gM g0 := by rw [hg0]; exact KM.thrown
  have hR0 : R gX xX g0 xM := hR.fr KX.rf k0
  have hM0 : EMd W n N K F D U T Y 16 g0 := hM.frK k0
  have nM := hM0.1.2.2.2.1.1
  have ev := evY nM h8
  rcases cls h8 x1 with ⟨a, ha, rfl⟩ | q1
  · have e1 := npY nX h8 ha
    have e2 := ipY nM h8 ha
    rcases clsT h8 x2 with ⟨P, hP, rfl⟩ | q1
    · have e3 := areY nX h8 hP
      have e4 := inY (k := P) (lo := 0) (hi := 1 <<< n - 1) (by omega) (by omega) (by have := pow_le8 h8; omega)
      obtain ⟨a1, a2, bs, bw, b, t, c, b1, b2, hI, hb⟩ := waysBoth hX hM0 t0 (told_lt h8 hP) (fun q hq => told_bit hP hq)
      have hR2 : R a1 xX a2 xM := hR0.fr hI.1 hI.2.1
      have t2 := hI.2.2.1
      obtain ⟨_, _, _, _, _, _, _, ⟨i8, i8'⟩, _, _, _, _, i13, _⟩ := hI
      obtain ⟨c1, c2, c3⟩ := i13 hb a ha
      have hS : ∀ q, (P &&& msk (fun p => decide (T p = 0)) n).testBit q = true → q < n := fun q z => by
        rw [Nat.testBit_and, msk_bit] at z
        simp at z
        exact z.2.1
      generalize (P &&& msk (fun p => decide (T p = 0)) n) = S at *
      have hrn := rkk_le S n
      have hra := rkk_le S a
      have eL : fX_Ways_lenderOf (i3 a) a1 = some (nm (b a)) := by
        have key : ∃ z, lp (fX_Ways_lenderOf_L2 (i3 a) a1) fuel (i3 0) = some z ∧ z = (if S.testBit a = true then .inl (i3 (rkk S a)) else .inr ()) := by
          refine lp_for (fun k s => s = i3 k ∧ (S.testBit a = true → k ≤ rkk S a)) (fun z : Int32 ⊕ Unit => z = (if S.testBit a = true then .inl (i3 (rkk S a)) else .inr ())) (rkk S n) (by omega) ?_ ?_ ⟨rfl, fun _ => Nat.zero_le _⟩
          · rintro k s hk ⟨rfl, hk2⟩
            obtain ⟨q, hq, hq2, hq3⟩ : ∃ q, q < n ∧ S.testBit q = true ∧ rkk S q = k := by
              have key2 : ∀ m, k < rkk S m → ∃ q, q < m ∧ S.testBit q = true ∧ rkk S q = k := by
                intro m
                induction m with
                | zero => intro h; exact absurd h (Nat.not_lt_zero k)
                | succ m ih =>
                  intro h
                  by_cases q : S.testBit m = true
                  · have := rkk_T q
                    by_cases e : rkk S m = k
                    · exact ⟨m, by omega, q, e⟩
                    · obtain ⟨x, y1, y2, y3⟩ := ih (by omega)
                      exact ⟨x, by omega, y2, y3⟩
                  · have := rkk_F q
                    obtain ⟨x, y1, y2, y3⟩ := ih (by omega)
                    exact ⟨x, by omega, y2, y3⟩
              exact key2 n hk
            have h47 := (i8' q hq hq2).1
            rw [hq3] at h47
            by_cases e : q = a
            · subst e
              refine Or.inr ⟨.inl (i3 k), ?_, by rw [if_pos hq2, hq3]⟩
              simp (disch := (first | omega | assumption | trivial)) only [li_0, li_1, li_2, li_3, li_4, li_5, li_6, li_7, li_8, li_9, li_10, li_11, li_12, li_13, li_14, li_15, li_16, li_17, li_18, li_19, li_20, li_21, li_22, li_23, li_24, li_25, li_26, li_27, li_28, li_29, li_30, li_31, li_32, li_33, li_34, li_35, li_36, li_37, li_38, li_39, li_40, li_41, li_42, li_43, li_44, li_45, li_46, li_47, li_48, li_49, li_50, li_51, li_52, li_53, li_54, li_55, li_56, li_57, li_58, li_59, li_60, li_63, li_64, li_72, li_76, li_77, li_91, li_93, li_96, li_97, li_99, li_108, li_109, li_120, li_122, li_150, li_200, li_255, li_400, li_426, li_600, li_900, li_999, li_1000, li_1002, li_1003, li_2000, li_2042, li_2043, li_2045, li_10000, li_32767, li_100000, li_1000000, li_m1, li_m1b, ob_s, lt1_e, se_l, se_r, if_true, if_false, true_and, and_true, false_and, and_false, st_at, i3_add, i3_mul, i3_sub, i3_lt, i3_le, i3_eq, i3_nat, m1_eqi, i3_eqm, m1_lti, m1_lei, i3_ltm, i3_lem, i3_decm, i3_dec0, nm_eqm, yr_eqm, mxor0, Nat.zero_add, if_pos, if_neg, eq_self, ne_eq, not_true_eq_false, not_false_eq_true, fX_Ways_lenderOf_L2, i8, at8, h47]
            · refine Or.inl ⟨i3 (k + 1), ?_, rfl, fun z => ?_⟩
              · simp (disch := (first | omega | assumption | trivial)) only [li_0, li_1, li_2, li_3, li_4, li_5, li_6, li_7, li_8, li_9, li_10, li_11, li_12, li_13, li_14, li_15, li_16, li_17, li_18, li_19, li_20, li_21, li_22, li_23, li_24, li_25, li_26, li_27, li_28, li_29, li_30, li_31, li_32, li_33, li_34, li_35, li_36, li_37, li_38, li_39, li_40, li_41, li_42, li_43, li_44, li_45, li_46, li_47, li_48, li_49, li_50, li_51, li_52, li_53, li_54, li_55, li_56, li_57, li_58, li_59, li_60, li_63, li_64, li_72, li_76, li_77, li_91, li_93, li_96, li_97, li_99, li_108, li_109, li_120, li_122, li_150, li_200, li_255, li_400, li_426, li_600, li_900, li_999, li_1000, li_1002, li_1003, li_2000, li_2042, li_2043, li_2045, li_10000, li_32767, li_100000, li_1000000, li_m1, li_m1b, ob_s, lt1_e, se_l, se_r, if_true, if_false, true_and, and_true, false_and, and_false, st_at, i3_add, i3_mul, i3_sub, i3_lt, i3_le, i3_eq, i3_nat, m1_eqi, i3_eqm, m1_lti, m1_lei, i3_ltm, i3_lem, i3_decm, i3_dec0, nm_eqm, yr_eqm, mxor0, Nat.zero_add, if_pos, if_neg, eq_self, ne_eq, not_true_eq_false, not_false_eq_true, fX_Ways_lenderOf_L2, i8, at8, h47]
              · have h1 := hk2 z
                by_cases e2 : k = rkk S a
                · exact absurd (rkk_inj hq2 z (hq3.trans e2)) e
                · omega
          · rintro s ⟨rfl, hk2⟩
            have qS : ¬ S.testBit a = true := fun z => by
              have := hk2 z
              have := rkk_lt z ha
              omega
            refine ⟨.inr (), ?_, by rw [if_neg qS]⟩
            simp (disch := (first | omega | assumption | trivial)) only [li_0, li_1, li_2, li_3, li_4, li_5, li_6, li_7, li_8, li_9, li_10, li_11, li_12, li_13, li_14, li_15, li_16, li_17, li_18, li_19, li_20, li_21, li_22, li_23, li_24, li_25, li_26, li_27, li_28, li_29, li_30, li_31, li_32, li_33, li_34, li_35, li_36, li_37, li_38, li_39, li_40, li_41, li_42, li_43, li_44, li_45, li_46, li_47, li_48, li_49, li_50, li_51, li_52, li_53, li_54, li_55, li_56, li_57, li_58, li_59, li_60, li_63, li_64, li_72, li_76, li_77, li_91, li_93, li_96, li_97, li_99, li_108, li_109, li_120, li_122, li_150, li_200, li_255, li_400, li_426, li_600, li_900, li_999, li_1000, li_1002, li_1003, li_2000, li_2042, li_2043, li_2045, li_10000, li_32767, li_100000, li_1000000, li_m1, li_m1b, ob_s, lt1_e, se_l, se_r, if_true, if_false, true_and, and_true, false_and, and_false, st_at, i3_add, i3_mul, i3_sub, i3_lt, i3_le, i3_eq, i3_nat, m1_eqi, i3_eqm, m1_lti, m1_lei, i3_ltm, i3_lem, i3_decm, i3_dec0, nm_eqm, yr_eqm, mxor0, Nat.zero_add, if_pos, if_neg, eq_self, ne_eq, not_true_eq_false, not_false_eq_true, fX_Ways_lenderOf_L2, i8]
        obtain ⟨z, ez, hz⟩ := key
        by_cases qS : S.testBit a = true
        · rw [if_pos qS] at hz
          rw [hz] at ez
          have c4 := c2 qS
          simp (disch := (first | omega | assumption | trivial)) only [li_0, li_1, li_2, li_3, li_4, li_5, li_6, li_7, li_8, li_9, li_10, li_11, li_12, li_13, li_14, li_15, li_16, li_17, li_18, li_19, li_20, li_21, li_22, li_23, li_24, li_25, li_26, li_27, li_28, li_29, li_30, li_31, li_32, li_33, li_34, li_35, li_36, li_37, li_38, li_39, li_40, li_41, li_42, li_43, li_44, li_45, li_46, li_47, li_48, li_49, li_50, li_51, li_52, li_53, li_54, li_55, li_56, li_57, li_58, li_59, li_60, li_63, li_64, li_72, li_76, li_77, li_91, li_93, li_96, li_97, li_99, li_108, li_109, li_120, li_122, li_150, li_200, li_255, li_400, li_426, li_600, li_900, li_999, li_1000, li_1002, li_1003, li_2000, li_2042, li_2043, li_2045, li_10000, li_32767, li_100000, li_1000000, li_m1, li_m1b, ob_s, lt1_e, se_l, se_r, if_true, if_false, true_and, and_true, false_and, and_false, st_at, i3_add, i3_mul, i3_sub, i3_lt, i3_le, i3_eq, i3_nat, m1_eqi, i3_eqm, m1_lti, m1_lei, i3_ltm, i3_lem, i3_decm, i3_dec0, nm_eqm, yr_eqm, mxor0, Nat.zero_add, if_pos, if_neg, eq_self, ne_eq, not_true_eq_false, not_false_eq_true, fX_Ways_lenderOf, fX_Ways_lenderOf_b2, ez, at8, c4]
        · rw [if_neg qS] at hz
          rw [hz] at ez
          rw [c3 qS, nm_no (by omega)]
          simp (disch := (first | omega | assumption | trivial)) only [li_0, li_1, li_2, li_3, li_4, li_5, li_6, li_7, li_8, li_9, li_10, li_11, li_12, li_13, li_14, li_15, li_16, li_17, li_18, li_19, li_20, li_21, li_22, li_23, li_24, li_25, li_26, li_27, li_28, li_29, li_30, li_31, li_32, li_33, li_34, li_35, li_36, li_37, li_38, li_39, li_40, li_41, li_42, li_43, li_44, li_45, li_46, li_47, li_48, li_49, li_50, li_51, li_52, li_53, li_54, li_55, li_56, li_57, li_58, li_59, li_60, li_63, li_64, li_72, li_76, li_77, li_91, li_93, li_96, li_97, li_99, li_108, li_109, li_120, li_122, li_150, li_200, li_255, li_400, li_426, li_600, li_900, li_999, li_1000, li_1002, li_1003, li_2000, li_2042, li_2043, li_2045, li_10000, li_32767, li_100000, li_1000000, li_m1, li_m1b, ob_s, lt1_e, se_l, se_r, if_true, if_false, true_and, and_true, false_and, and_false, st_at, i3_add, i3_mul, i3_sub, i3_lt, i3_le, i3_eq, i3_nat, m1_eqi, i3_eqm, m1_lti, m1_lei, i3_ltm, i3_lem, i3_decm, i3_dec0, nm_eqm, yr_eqm, mxor0, Nat.zero_add, if_pos, if_neg, eq_self, ne_eq, not_true_eq_false, not_false_eq_true, fX_Ways_lenderOf, fX_Ways_lenderOf_b2, ez]
      refine ⟨(.inr (nm (b a)), a1), (nm (b a), a2), ?_, ?_, hR2, okR t2⟩
      · simp (disch := (first | omega | assumption | trivial)) only [li_0, li_1, li_2, li_3, li_4, li_5, li_6, li_7, li_8, li_9, li_10, li_11, li_12, li_13, li_14, li_15, li_16, li_17, li_18, li_19, li_20, li_21, li_22, li_23, li_24, li_25, li_26, li_27, li_28, li_29, li_30, li_31, li_32, li_33, li_34, li_35, li_36, li_37, li_38, li_39, li_40, li_41, li_42, li_43, li_44, li_45, li_46, li_47, li_48, li_49, li_50, li_51, li_52, li_53, li_54, li_55, li_56, li_57, li_58, li_59, li_60, li_63, li_64, li_72, li_76, li_77, li_91, li_93, li_96, li_97, li_99, li_108, li_109, li_120, li_122, li_150, li_200, li_255, li_400, li_426, li_600, li_900, li_999, li_1000, li_1002, li_1003, li_2000, li_2042, li_2043, li_2045, li_10000, li_32767, li_100000, li_1000000, li_m1, li_m1b, ob_s, lt1_e, se_l, se_r, if_true, if_false, true_and, and_true, false_and, and_false, st_at, i3_add, i3_mul, i3_sub, i3_lt, i3_le, i3_eq, i3_nat, m1_eqi, i3_eqm, m1_lti, m1_lei, i3_ltm, i3_lem, i3_decm, i3_dec0, nm_eqm, yr_eqm, mxor0, Nat.zero_add, if_pos, if_neg, eq_self, ne_eq, not_true_eq_false, not_false_eq_true, fX_giver, e1, e3, needY, b1, eL]
      · simp (disch := (first | omega | assumption | trivial)) only [li_0, li_1, li_2, li_3, li_4, li_5, li_6, li_7, li_8, li_9, li_10, li_11, li_12, li_13, li_14, li_15, li_16, li_17, li_18, li_19, li_20, li_21, li_22, li_23, li_24, li_25, li_26, li_27, li_28, li_29, li_30, li_31, li_32, li_33, li_34, li_35, li_36, li_37, li_38, li_39, li_40, li_41, li_42, li_43, li_44, li_45, li_46, li_47, li_48, li_49, li_50, li_51, li_52, li_53, li_54, li_55, li_56, li_57, li_58, li_59, li_60, li_63, li_64, li_72, li_76, li_77, li_91, li_93, li_96, li_97, li_99, li_108, li_109, li_120, li_122, li_150, li_200, li_255, li_400, li_426, li_600, li_900, li_999, li_1000, li_1002, li_1003, li_2000, li_2042, li_2043, li_2045, li_10000, li_32767, li_100000, li_1000000, li_m1, li_m1b, ob_s, lt1_e, se_l, se_r, if_true, if_false, true_and, and_true, false_and, and_false, st_at, i3_add, i3_mul, i3_sub, i3_lt, i3_le, i3_eq, i3_nat, m1_eqi, i3_eqm, m1_lti, m1_lei, i3_ltm, i3_lem, i3_decm, i3_dec0, nm_eqm, yr_eqm, mxor0, Nat.zero_add, if_pos, if_neg, eq_self, ne_eq, not_true_eq_false, not_false_eq_true, fM_giver, hg0.symm, fM_giver_b19, fM_giver_b45, e2, ev, e4, badY, t0, b2, c1]
    · have e3 := q1.1 gX nX
      have e4 := q1.2
      refine ⟨(.inl 1, st gX 0 18 (gX 0 18 + i3 1)), (i3 0, st (st g0 0 0 (i3 2)) 2 1 (g0 2 1 + i3 1)), ?_, ?_, ref12 hR0 _⟩
      · simp (disch := (first | omega | assumption | trivial)) only [li_0, li_1, li_2, li_3, li_4, li_5, li_6, li_7, li_8, li_9, li_10, li_11, li_12, li_13, li_14, li_15, li_16, li_17, li_18, li_19, li_20, li_21, li_22, li_23, li_24, li_25, li_26, li_27, li_28, li_29, li_30, li_31, li_32, li_33, li_34, li_35, li_36, li_37, li_38, li_39, li_40, li_41, li_42, li_43, li_44, li_45, li_46, li_47, li_48, li_49, li_50, li_51, li_52, li_53, li_54, li_55, li_56, li_57, li_58, li_59, li_60, li_63, li_64, li_72, li_76, li_77, li_91, li_93, li_96, li_97, li_99, li_108, li_109, li_120, li_122, li_150, li_200, li_255, li_400, li_426, li_600, li_900, li_999, li_1000, li_1002, li_1003, li_2000, li_2042, li_2043, li_2045, li_10000, li_32767, li_100000, li_1000000, li_m1, li_m1b, ob_s, lt1_e, se_l, se_r, if_true, if_false, true_and, and_true, false_and, and_false, st_at, i3_add, i3_mul, i3_sub, i3_lt, i3_le, i3_eq, i3_nat, m1_eqi, i3_eqm, m1_lti, m1_lei, i3_ltm, i3_lem, i3_decm, i3_dec0, nm_eqm, yr_eqm, mxor0, Nat.zero_add, if_pos, if_neg, eq_self, ne_eq, not_true_eq_false, not_false_eq_true, fX_giver, e1, e3, needN]
      · simp (disch := (first | omega | assumption | trivial)) only [li_0, li_1, li_2, li_3, li_4, li_5, li_6, li_7, li_8, li_9, li_10, li_11, li_12, li_13, li_14, li_15, li_16, li_17, li_18, li_19, li_20, li_21, li_22, li_23, li_24, li_25, li_26, li_27, li_28, li_29, li_30, li_31, li_32, li_33, li_34, li_35, li_36, li_37, li_38, li_39, li_40, li_41, li_42, li_43, li_44, li_45, li_46, li_47, li_48, li_49, li_50, li_51, li_52, li_53, li_54, li_55, li_56, li_57, li_58, li_59, li_60, li_63, li_64, li_72, li_76, li_77, li_91, li_93, li_96, li_97, li_99, li_108, li_109, li_120, li_122, li_150, li_200, li_255, li_400, li_426, li_600, li_900, li_999, li_1000, li_1002, li_1003, li_2000, li_2042, li_2043, li_2045, li_10000, li_32767, li_100000, li_1000000, li_m1, li_m1b, ob_s, lt1_e, se_l, se_r, if_true, if_false, true_and, and_true, false_and, and_false, st_at, i3_add, i3_mul, i3_sub, i3_lt, i3_le, i3_eq, i3_nat, m1_eqi, i3_eqm, m1_lti, m1_lei, i3_ltm, i3_lem, i3_decm, i3_dec0, nm_eqm, yr_eqm, mxor0, Nat.zero_add, if_pos, if_neg, eq_self, ne_eq, not_true_eq_false, not_false_eq_true, fM_giver, hg0.symm, fM_giver_b19, fM_giver_b45, e2, ev, e4, badY, badN, t0]
  · have e1 := q1.1 gX nX
    have e2 := q1.2 _ nM
    refine ⟨(.inl 0, st gX 0 17 (gX 0 17 + i3 1)), (i3 0, st (st g0 0 0 (i3 1)) 2 0 (g0 2 0 + i3 1)), ?_, ?_, ref02 hR0 _⟩
    · simp (disch := (first | omega | assumption | trivial)) only [li_0, li_1, li_2, li_3, li_4, li_5, li_6, li_7, li_8, li_9, li_10, li_11, li_12, li_13, li_14, li_15, li_16, li_17, li_18, li_19, li_20, li_21, li_22, li_23, li_24, li_25, li_26, li_27, li_28, li_29, li_30, li_31, li_32, li_33, li_34, li_35, li_36, li_37, li_38, li_39, li_40, li_41, li_42, li_43, li_44, li_45, li_46, li_47, li_48, li_49, li_50, li_51, li_52, li_53, li_54, li_55, li_56, li_57, li_58, li_59, li_60, li_63, li_64, li_72, li_76, li_77, li_91, li_93, li_96, li_97, li_99, li_108, li_109, li_120, li_122, li_150, li_200, li_255, li_400, li_426, li_600, li_900, li_999, li_1000, li_1002, li_1003, li_2000, li_2042, li_2043, li_2045, li_10000, li_32767, li_100000, li_1000000, li_m1, li_m1b, ob_s, lt1_e, se_l, se_r, if_true, if_false, true_and, and_true, false_and, and_false, st_at, i3_add, i3_mul, i3_sub, i3_lt, i3_le, i3_eq, i3_nat, m1_eqi, i3_eqm, m1_lti, m1_lei, i3_ltm, i3_lem, i3_decm, i3_dec0, nm_eqm, yr_eqm, mxor0, Nat.zero_add, if_pos, if_neg, eq_self, ne_eq, not_true_eq_false, not_false_eq_true, fX_giver, e1]
    · simp (disch := (first | omega | assumption | trivial)) only [li_0, li_1, li_2, li_3, li_4, li_5, li_6, li_7, li_8, li_9, li_10, li_11, li_12, li_13, li_14, li_15, li_16, li_17, li_18, li_19, li_20, li_21, li_22, li_23, li_24, li_25, li_26, li_27, li_28, li_29, li_30, li_31, li_32, li_33, li_34, li_35, li_36, li_37, li_38, li_39, li_40, li_41, li_42, li_43, li_44, li_45, li_46, li_47, li_48, li_49, li_50, li_51, li_52, li_53, li_54, li_55, li_56, li_57, li_58, li_59, li_60, li_63, li_64, li_72, li_76, li_77, li_91, li_93, li_96, li_97, li_99, li_108, li_109, li_120, li_122, li_150, li_200, li_255, li_400, li_426, li_600, li_900, li_999, li_1000, li_1002, li_1003, li_2000, li_2042, li_2043, li_2045, li_10000, li_32767, li_100000, li_1000000, li_m1, li_m1b, ob_s, lt1_e, se_l, se_r, if_true, if_false, true_and, and_true, false_and, and_false, st_at, i3_add, i3_mul, i3_sub, i3_lt, i3_le, i3_eq, i3_nat, m1_eqi, i3_eqm, m1_lti, m1_lei, i3_ltm, i3_lem, i3_decm, i3_dec0, nm_eqm, yr_eqm, mxor0, Nat.zero_add, if_pos, if_neg, eq_self, ne_eq, not_true_eq_false, not_false_eq_true, fM_giver, fM_giver_b19, hg0.symm, e2, badN]
