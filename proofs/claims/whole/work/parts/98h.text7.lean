/-! PURE: text: words -/
def ltr (b : Nat → Nat) (k : Nat) : Prop := 97 ≤ b k ∧ b k ≤ 122
abbrev isW (b : Nat → Nat) (t n : Nat) (W : List Nat) : Prop := n = W.length ∧ ∀ j, j < n → b (t + j) = W.getD j 0
def wd (k : Nat) : List Nat := [[112, 101, 114, 115, 111, 110], [102, 114, 105, 101, 110, 100], [109, 111, 115, 116], [108, 101, 97, 115, 116], [109, 111, 115, 116], [107, 105, 110, 100], [100, 101, 98, 116, 115], [115, 116, 111, 110, 101, 115], [102, 114, 105, 101, 110, 100], [111, 119, 101, 100], [100, 101, 97, 100], [121, 101, 97, 114], [112, 101, 114, 115, 111, 110], [97, 103, 97, 105, 110], [100, 105, 101], [108, 101, 110, 100], [112, 97, 121], [111, 119, 101], [121, 101, 97, 114]].getD k []
theorem wd_str : ∀ k, k < 19 → (strB k).length = (wd k).length ∧ (∀ j, j < (wd k).length → (strB k).getD j 0 = i3 ((wd k).getD j 0)) := by decide +kernel
theorem wd_ok : ∀ k, k < 19 → (wd k).length ≤ 6 ∧ ∀ j, j < (wd k).length → 97 ≤ (wd k).getD j 0 ∧ (wd k).getD j 0 ≤ 122 := by decide +kernel
theorem isW_inj {b : Nat → Nat} {t n : Nat} {W W' : List Nat} (h : isW b t n W) (h' : isW b t n W') : W = W' := by
  obtain ⟨h1, h2⟩ := h
  obtain ⟨k1, k2⟩ := h'
  refine List.ext_getElem (by omega) (fun i a1 a2 => ?_)
  have e1 : b (t + i) = W[i] := (h2 i (by omega)).trans (by simp [List.getD_eq_getElem?_getD, a1])
  have e2 : b (t + i) = W'[i] := (k2 i (by omega)).trans (by simp [List.getD_eq_getElem?_getD, a2])
  exact e1.symm.trans e2
def bvf (f : Nat → Nat) : Nat → Nat
  | 0 => 0
  | k + 1 => 27 * bvf f k + f k
theorem bvf_lt {f : Nat → Nat} : ∀ k, (∀ j, j < k → f j ≤ 26) → bvf f k < 27 ^ k
  | 0, _ => by show 0 < 1; omega
  | k + 1, h => by
    have h1 := bvf_lt k (fun j hj => h j (by omega))
    have h2 := h k (by omega)
    show 27 * bvf f k + f k < 27 ^ (k + 1)
    rw [Nat.pow_succ]
    omega
theorem bvf_inj {f g : Nat → Nat} : ∀ m n, (∀ j, j < m → 1 ≤ f j ∧ f j ≤ 26) → (∀ j, j < n → 1 ≤ g j ∧ g j ≤ 26) → bvf f m = bvf g n → m = n ∧ ∀ j, j < m → f j = g j
  | 0, 0, _, _, _ => ⟨rfl, fun j hj => by omega⟩
  | 0, n + 1, _, hg, h => by
    have h1 : 0 = 27 * bvf g n + g n := h
    have := hg n (by omega)
    omega
  | m + 1, 0, hf, _, h => by
    have h1 : 27 * bvf f m + f m = 0 := h
    have := hf m (by omega)
    omega
  | m + 1, n + 1, hf, hg, h => by
    have h1 : 27 * bvf f m + f m = 27 * bvf g n + g n := h
    have a1 := hf m (by omega)
    have a2 := hg n (by omega)
    have h2 : bvf f m = bvf g n := by omega
    obtain ⟨e, h3⟩ := bvf_inj m n (fun j hj => hf j (by omega)) (fun j hj => hg j (by omega)) h2
    subst e
    refine ⟨rfl, fun j hj => ?_⟩
    by_cases q : j = m
    · subst q; omega
    · exact h3 j (by omega)
theorem bvf_congr {f g : Nat → Nat} : ∀ k, (∀ j, j < k → f j = g j) → bvf f k = bvf g k
  | 0, _ => rfl
  | k + 1, h => by
    show 27 * bvf f k + f k = 27 * bvf g k + g k
    rw [bvf_congr k (fun j hj => h j (by omega)), h k (by omega)]
theorem p27 {k : Nat} (h : k ≤ 6) : 27 ^ k ≤ 387420489 := Nat.le_trans (Nat.pow_le_pow_right (by omega) h) (by decide)
section WW
variable {e ft fp t n : Nat} {b : Nat → Nat} {g : St}
theorem ltrX (x : Nat) (h : x < 256) : fX_Text_isLetter (i3 x) = i3 (if 97 ≤ x ∧ x ≤ 122 then 1 else 0) := by
  by_cases q : 97 ≤ x ∧ x ≤ 122
  · rw [if_pos q]
    obtain ⟨q1, q2⟩ := q
    simp (disch := (first | omega | assumption | trivial)) only [li_0, li_1, li_2, li_3, li_4, li_5, li_6, li_7, li_8, li_9, li_10, li_11, li_12, li_13, li_14, li_15, li_16, li_17, li_18, li_19, li_20, li_21, li_22, li_23, li_24, li_25, li_26, li_27, li_28, li_29, li_30, li_31, li_32, li_33, li_34, li_35, li_36, li_37, li_38, li_39, li_40, li_41, li_42, li_43, li_44, li_45, li_46, li_47, li_48, li_49, li_50, li_51, li_52, li_53, li_54, li_55, li_56, li_57, li_58, li_59, li_60, li_63, li_64, li_72, li_76, li_77, li_91, li_93, li_96, li_97, li_99, li_108, li_109, li_120, li_122, li_150, li_200, li_255, li_400, li_426, li_600, li_900, li_999, li_1000, li_1002, li_1003, li_2000, li_2042, li_2043, li_2045, li_10000, li_32767, li_100000, li_1000000, li_m1, li_m1b, ob_s, lt1_e, se_l, se_r, if_true, if_false, true_and, and_true, false_and, and_false, st_at, i3_add, i3_mul, i3_sub, i3_lt, i3_le, i3_eq, i3_nat, m1_eqi, i3_eqm, m1_lti, m1_lei, i3_ltm, i3_lem, i3_decm, i3_dec0, nm_eqm, yr_eqm, mxor0, Nat.zero_add, if_pos, if_neg, eq_self, ne_eq, not_true_eq_false, not_false_eq_true, fX_Text_isLetter]
  · rw [if_neg q]
    by_cases q1 : x < 97
    · simp (disch := (first | omega | assumption | trivial)) only [li_0, li_1, li_2, li_3, li_4, li_5, li_6, li_7, li_8, li_9, li_10, li_11, li_12, li_13, li_14, li_15, li_16, li_17, li_18, li_19, li_20, li_21, li_22, li_23, li_24, li_25, li_26, li_27, li_28, li_29, li_30, li_31, li_32, li_33, li_34, li_35, li_36, li_37, li_38, li_39, li_40, li_41, li_42, li_43, li_44, li_45, li_46, li_47, li_48, li_49, li_50, li_51, li_52, li_53, li_54, li_55, li_56, li_57, li_58, li_59, li_60, li_63, li_64, li_72, li_76, li_77, li_91, li_93, li_96, li_97, li_99, li_108, li_109, li_120, li_122, li_150, li_200, li_255, li_400, li_426, li_600, li_900, li_999, li_1000, li_1002, li_1003, li_2000, li_2042, li_2043, li_2045, li_10000, li_32767, li_100000, li_1000000, li_m1, li_m1b, ob_s, lt1_e, se_l, se_r, if_true, if_false, true_and, and_true, false_and, and_false, st_at, i3_add, i3_mul, i3_sub, i3_lt, i3_le, i3_eq, i3_nat, m1_eqi, i3_eqm, m1_lti, m1_lei, i3_ltm, i3_lem, i3_decm, i3_dec0, nm_eqm, yr_eqm, mxor0, Nat.zero_add, if_pos, if_neg, eq_self, ne_eq, not_true_eq_false, not_false_eq_true, fX_Text_isLetter]
    · have q2 : 122 < x := by omega
      simp (disch := (first | omega | assumption | trivial)) only [li_0, li_1, li_2, li_3, li_4, li_5, li_6, li_7, li_8, li_9, li_10, li_11, li_12, li_13, li_14, li_15, li_16, li_17, li_18, li_19, li_20, li_21, li_22, li_23, li_24, li_25, li_26, li_27, li_28, li_29, li_30, li_31, li_32, li_33, li_34, li_35, li_36, li_37, li_38, li_39, li_40, li_41, li_42, li_43, li_44, li_45, li_46, li_47, li_48, li_49, li_50, li_51, li_52, li_53, li_54, li_55, li_56, li_57, li_58, li_59, li_60, li_63, li_64, li_72, li_76, li_77, li_91, li_93, li_96, li_97, li_99, li_108, li_109, li_120, li_122, li_150, li_200, li_255, li_400, li_426, li_600, li_900, li_999, li_1000, li_1002, li_1003, li_2000, li_2042, li_2043, li_2045, li_10000, li_32767, li_100000, li_1000000, li_m1, li_m1b, ob_s, lt1_e, se_l, se_r, if_true, if_false, true_and, and_true, false_and, and_false, st_at, i3_add, i3_mul, i3_sub, i3_lt, i3_le, i3_eq, i3_nat, m1_eqi, i3_eqm, m1_lti, m1_lei, i3_ltm, i3_lem, i3_decm, i3_dec0, nm_eqm, yr_eqm, mxor0, Nat.zero_add, if_pos, if_neg, eq_self, ne_eq, not_true_eq_false, not_false_eq_true, fX_Text_isLetter]
theorem ltrM (x : Nat) (h : x < 256) : fM_isSmall (i3 x) = i3 (if 97 ≤ x ∧ x ≤ 122 then 1 else 0) := by
  by_cases q : 97 ≤ x ∧ x ≤ 122
  · rw [if_pos q]
    obtain ⟨q1, q2⟩ := q
    simp (disch := (first | omega | assumption | trivial)) only [li_0, li_1, li_2, li_3, li_4, li_5, li_6, li_7, li_8, li_9, li_10, li_11, li_12, li_13, li_14, li_15, li_16, li_17, li_18, li_19, li_20, li_21, li_22, li_23, li_24, li_25, li_26, li_27, li_28, li_29, li_30, li_31, li_32, li_33, li_34, li_35, li_36, li_37, li_38, li_39, li_40, li_41, li_42, li_43, li_44, li_45, li_46, li_47, li_48, li_49, li_50, li_51, li_52, li_53, li_54, li_55, li_56, li_57, li_58, li_59, li_60, li_63, li_64, li_72, li_76, li_77, li_91, li_93, li_96, li_97, li_99, li_108, li_109, li_120, li_122, li_150, li_200, li_255, li_400, li_426, li_600, li_900, li_999, li_1000, li_1002, li_1003, li_2000, li_2042, li_2043, li_2045, li_10000, li_32767, li_100000, li_1000000, li_m1, li_m1b, ob_s, lt1_e, se_l, se_r, if_true, if_false, true_and, and_true, false_and, and_false, st_at, i3_add, i3_mul, i3_sub, i3_lt, i3_le, i3_eq, i3_nat, m1_eqi, i3_eqm, m1_lti, m1_lei, i3_ltm, i3_lem, i3_decm, i3_dec0, nm_eqm, yr_eqm, mxor0, Nat.zero_add, if_pos, if_neg, eq_self, ne_eq, not_true_eq_false, not_false_eq_true, fM_isSmall]
  · rw [if_neg q]
    by_cases q1 : x < 97
    · simp (disch := (first | omega | assumption | trivial)) only [li_0, li_1, li_2, li_3, li_4, li_5, li_6, li_7, li_8, li_9, li_10, li_11, li_12, li_13, li_14, li_15, li_16, li_17, li_18, li_19, li_20, li_21, li_22, li_23, li_24, li_25, li_26, li_27, li_28, li_29, li_30, li_31, li_32, li_33, li_34, li_35, li_36, li_37, li_38, li_39, li_40, li_41, li_42, li_43, li_44, li_45, li_46, li_47, li_48, li_49, li_50, li_51, li_52, li_53, li_54, li_55, li_56, li_57, li_58, li_59, li_60, li_63, li_64, li_72, li_76, li_77, li_91, li_93, li_96, li_97, li_99, li_108, li_109, li_120, li_122, li_150, li_200, li_255, li_400, li_426, li_600, li_900, li_999, li_1000, li_1002, li_1003, li_2000, li_2042, li_2043, li_2045, li_10000, li_32767, li_100000, li_1000000, li_m1, li_m1b, ob_s, lt1_e, se_l, se_r, if_true, if_false, true_and, and_true, false_and, and_false, st_at, i3_add, i3_mul, i3_sub, i3_lt, i3_le, i3_eq, i3_nat, m1_eqi, i3_eqm, m1_lti, m1_lei, i3_ltm, i3_lem, i3_decm, i3_dec0, nm_eqm, yr_eqm, mxor0, Nat.zero_add, if_pos, if_neg, eq_self, ne_eq, not_true_eq_false, not_false_eq_true, fM_isSmall]
    · have q2 : 122 < x := by omega
      simp (disch := (first | omega | assumption | trivial)) only [li_0, li_1, li_2, li_3, li_4, li_5, li_6, li_7, li_8, li_9, li_10, li_11, li_12, li_13, li_14, li_15, li_16, li_17, li_18, li_19, li_20, li_21, li_22, li_23, li_24, li_25, li_26, li_27, li_28, li_29, li_30, li_31, li_32, li_33, li_34, li_35, li_36, li_37, li_38, li_39, li_40, li_41, li_42, li_43, li_44, li_45, li_46, li_47, li_48, li_49, li_50, li_51, li_52, li_53, li_54, li_55, li_56, li_57, li_58, li_59, li_60, li_63, li_64, li_72, li_76, li_77, li_91, li_93, li_96, li_97, li_99, li_108, li_109, li_120, li_122, li_150, li_200, li_255, li_400, li_426, li_600, li_900, li_999, li_1000, li_1002, li_1003, li_2000, li_2042, li_2043, li_2045, li_10000, li_32767, li_100000, li_1000000, li_m1, li_m1b, ob_s, lt1_e, se_l, se_r, if_true, if_false, true_and, and_true, false_and, and_false, st_at, i3_add, i3_mul, i3_sub, i3_lt, i3_le, i3_eq, i3_nat, m1_eqi, i3_eqm, m1_lti, m1_lei, i3_ltm, i3_lem, i3_decm, i3_dec0, nm_eqm, yr_eqm, mxor0, Nat.zero_add, if_pos, if_neg, eq_self, ne_eq, not_true_eq_false, not_false_eq_true, fM_isSmall]
theorem ltrM1 : fM_isSmall m1 = i3 0 := by decide
theorem X_word {t' : Nat} (h : Xt e b 0 fp t g) (r : RUN (ltr b) e t n) (hn : nb e b (t + n) t') : ∃ g', fX_Text_word g = some g' ∧ g' 1 3 = i3 (t + n) ∧ g' 1 4 = i3 t ∧ Xt e b 0 fp t' g' ∧ FRX g g' := by
  obtain ⟨g1, e1, e2, f1, _, h1⟩ := X_next h
  have h0 := h.2.1
  have h600 := h.c600
  obtain ⟨r1, r2, r3⟩ := r
  have k4 : FRX g1 (st g1 1 4 (i3 t)) := fun p i w => by rw [st_at, if_neg (by omega)]
  have hT : TXt e b (st g1 1 4 (i3 t)) := h1.1.fr5 k4
  obtain ⟨g2, e4, e5, f2⟩ : ∃ g', lp fX_Text_word_L21 fuel (st g1 1 4 (i3 t)) = some g' ∧ g' 1 3 = i3 (t + n) ∧ ∀ p i, ¬ (p = 1 ∧ i = 3) → g' p i = (st g1 1 4 (i3 t)) p i := by
    refine lp_all (fun k z => z 1 3 = i3 (t + k) ∧ ∀ p i, ¬ (p = 1 ∧ i = 3) → z p i = (st g1 1 4 (i3 t)) p i) (fun z : St => z 1 3 = i3 (t + n) ∧ ∀ p i, ¬ (p = 1 ∧ i = 3) → z p i = (st g1 1 4 (i3 t)) p i) n (by omega) ?_ ?_ ⟨by rw [st_at, if_neg (by omega)]; exact e2, fun _ _ _ => rfl⟩
    · rintro k z hk ⟨z1, z2⟩
      obtain ⟨_, t2, t3⟩ := hT.fr z2
      obtain ⟨t5, t4⟩ := t3 (t + k) (by omega)
      have t6 := ltrX (b (t + k)) t5
      rw [if_pos (show 97 ≤ b (t + k) ∧ b (t + k) ≤ 122 from r2 k hk)] at t6
      refine ⟨st z 1 3 (i3 (t + k + 1)), ?_, st_eq _ _ _ _, fun p i w => by rw [st_at, if_neg w]; exact z2 p i w⟩
      simp (disch := (first | omega | assumption | trivial)) only [li_0, li_1, li_2, li_3, li_4, li_5, li_6, li_7, li_8, li_9, li_10, li_11, li_12, li_13, li_14, li_15, li_16, li_17, li_18, li_19, li_20, li_21, li_22, li_23, li_24, li_25, li_26, li_27, li_28, li_29, li_30, li_31, li_32, li_33, li_34, li_35, li_36, li_37, li_38, li_39, li_40, li_41, li_42, li_43, li_44, li_45, li_46, li_47, li_48, li_49, li_50, li_51, li_52, li_53, li_54, li_55, li_56, li_57, li_58, li_59, li_60, li_63, li_64, li_72, li_76, li_77, li_91, li_93, li_96, li_97, li_99, li_108, li_109, li_120, li_122, li_150, li_200, li_255, li_400, li_426, li_600, li_900, li_999, li_1000, li_1002, li_1003, li_2000, li_2042, li_2043, li_2045, li_10000, li_32767, li_100000, li_1000000, li_m1, li_m1b, ob_s, lt1_e, se_l, se_r, if_true, if_false, true_and, and_true, false_and, and_false, st_at, i3_add, i3_mul, i3_sub, i3_lt, i3_le, i3_eq, i3_nat, m1_eqi, i3_eqm, m1_lti, m1_lei, i3_ltm, i3_lem, i3_decm, i3_dec0, nm_eqm, yr_eqm, mxor0, Nat.zero_add, if_pos, if_neg, eq_self, ne_eq, not_true_eq_false, not_false_eq_true, fX_Text_word_L21, t2, z1, at16, t4, t6]
    · rintro z ⟨z1, z2⟩
      obtain ⟨_, t2, t3⟩ := hT.fr z2
      refine ⟨z, ?_, z1, z2⟩
      by_cases q : t + n < e
      · obtain ⟨t5, t4⟩ := t3 (t + n) (by omega)
        have t6 := ltrX (b (t + n)) t5
        rw [if_neg (show ¬ (97 ≤ b (t + n) ∧ b (t + n) ≤ 122) from r3 q)] at t6
        simp (disch := (first | omega | assumption | trivial)) only [li_0, li_1, li_2, li_3, li_4, li_5, li_6, li_7, li_8, li_9, li_10, li_11, li_12, li_13, li_14, li_15, li_16, li_17, li_18, li_19, li_20, li_21, li_22, li_23, li_24, li_25, li_26, li_27, li_28, li_29, li_30, li_31, li_32, li_33, li_34, li_35, li_36, li_37, li_38, li_39, li_40, li_41, li_42, li_43, li_44, li_45, li_46, li_47, li_48, li_49, li_50, li_51, li_52, li_53, li_54, li_55, li_56, li_57, li_58, li_59, li_60, li_63, li_64, li_72, li_76, li_77, li_91, li_93, li_96, li_97, li_99, li_108, li_109, li_120, li_122, li_150, li_200, li_255, li_400, li_426, li_600, li_900, li_999, li_1000, li_1002, li_1003, li_2000, li_2042, li_2043, li_2045, li_10000, li_32767, li_100000, li_1000000, li_m1, li_m1b, ob_s, lt1_e, se_l, se_r, if_true, if_false, true_and, and_true, false_and, and_false, st_at, i3_add, i3_mul, i3_sub, i3_lt, i3_le, i3_eq, i3_nat, m1_eqi, i3_eqm, m1_lti, m1_lei, i3_ltm, i3_lem, i3_decm, i3_dec0, nm_eqm, yr_eqm, mxor0, Nat.zero_add, if_pos, if_neg, eq_self, ne_eq, not_true_eq_false, not_false_eq_true, fX_Text_word_L21, t2, z1, at16, t4, t6]
      · simp (disch := (first | omega | assumption | trivial)) only [li_0, li_1, li_2, li_3, li_4, li_5, li_6, li_7, li_8, li_9, li_10, li_11, li_12, li_13, li_14, li_15, li_16, li_17, li_18, li_19, li_20, li_21, li_22, li_23, li_24, li_25, li_26, li_27, li_28, li_29, li_30, li_31, li_32, li_33, li_34, li_35, li_36, li_37, li_38, li_39, li_40, li_41, li_42, li_43, li_44, li_45, li_46, li_47, li_48, li_49, li_50, li_51, li_52, li_53, li_54, li_55, li_56, li_57, li_58, li_59, li_60, li_63, li_64, li_72, li_76, li_77, li_91, li_93, li_96, li_97, li_99, li_108, li_109, li_120, li_122, li_150, li_200, li_255, li_400, li_426, li_600, li_900, li_999, li_1000, li_1002, li_1003, li_2000, li_2042, li_2043, li_2045, li_10000, li_32767, li_100000, li_1000000, li_m1, li_m1b, ob_s, lt1_e, se_l, se_r, if_true, if_false, true_and, and_true, false_and, and_false, st_at, i3_add, i3_mul, i3_sub, i3_lt, i3_le, i3_eq, i3_nat, m1_eqi, i3_eqm, m1_lti, m1_lei, i3_ltm, i3_lem, i3_decm, i3_dec0, nm_eqm, yr_eqm, mxor0, Nat.zero_add, if_pos, if_neg, eq_self, ne_eq, not_true_eq_false, not_false_eq_true, fX_Text_word_L21, t2, z1]
  have F2 : FRX g g2 := fun p i w => ((f2 p i (by omega)).trans (k4 p i w)).trans (f1 p i (by omega))
  refine ⟨g2, ?_, e5, (f2 1 4 (by omega)).trans (st_eq _ _ _ _), ⟨h.1.fr5 F2, ?_, by omega, (nb_le hn).2, fun _ => ⟨_, e5, hn⟩, (f2 1 7 (by omega)).trans ((by rw [st_at, if_neg (by omega)] : (st g1 1 4 (i3 t)) 1 7 = g1 1 7).trans h1.2.2.2.2.2)⟩, F2⟩
  · unfold fX_Text_word
    rw [if_pos (show g 1 6 = 0 from h0), e1, ob_s]
    show fX_Text_word_b21 (st g1 1 4 (g1 1 3)) = _
    rw [e2]
    unfold fX_Text_word_b21
    rw [e4, ob_s]
  · exact (f2 1 6 (by omega)).trans ((show (st g1 1 4 (i3 t)) 1 6 = g1 1 6 by rw [st_at, if_neg (by omega)]).trans h1.2.1)
theorem X_isWord {x : Nat} (hx : x < 19) (hT : TXt e b g) (h0 : g 1 6 = i3 0) (h3 : g 1 3 = i3 (t + n)) (h4 : g 1 4 = i3 t) (hn : t + n ≤ e) : fX_Text_isWord x g = some (if isW b t n (wd x) then i3 1 else i3 0) := by
  have h600 := hT.1
  obtain ⟨s1, s2⟩ := wd_str x hx
  obtain ⟨o1, o2⟩ := wd_ok x hx
  have hlen : fX_J_length x = i3 (wd x).length := by
    show Int32.ofNat _ = _
    rw [s1]; rfl
  have hd : g 1 3 - g 1 4 = i3 n := by
    rw [h3, h4, i3_sub (by omega), show t + n - t = n by omega]
  generalize wd x = W at *
  unfold fX_Text_isWord
  rw [if_pos (show g 1 6 = 0 from h0), hd, hlen]
  by_cases q : n = W.length
  · rw [if_pos (show i3 n = i3 W.length by rw [q])]
    unfold fX_Text_isWord_b27
    obtain ⟨r, e1, e2⟩ : ∃ r, lp (fX_Text_isWord_L27 x g) fuel (i3 0) = some r ∧ ((isW b t n W ∧ r = .inr ()) ∨ (¬ isW b t n W ∧ r = .inl ())) := by
      refine lp_for (fun k s => s = i3 k ∧ ∀ j, j < k → b (t + j) = W.getD j 0) (fun r : Unit ⊕ Unit => (isW b t n W ∧ r = .inr ()) ∨ (¬ isW b t n W ∧ r = .inl ())) n (by omega) ?_ ?_ ⟨rfl, fun j hj => by omega⟩
      · rintro k s hk ⟨rfl, hj⟩
        obtain ⟨t5, t4⟩ := hT.2.2 (t + k) (by omega)
        have c1 : fX_J_charAt x (i3 k) = some (i3 (W.getD k 0)) := by
          unfold fX_J_charAt
          rw [i3_nat (by omega), s2 k (by omega), if_pos (by
            rw [show ((0 : Int32)) = i3 0 from rfl, i3_lt (by omega) (by omega)]
            omega)]
        have c2 := (o2 k (by omega)).2
        have E : fX_Text_isWord_L27 x g (i3 k) = if b (t + k) = W.getD k 0 then some (.inl (i3 (k + 1))) else some (.inr (.inl ())) := by
          unfold fX_Text_isWord_L27
          rw [hlen, if_neg (i3_nle (by omega) (by omega)), h4, i3_add, at16 (by omega), ob_s, c1, ob_s, t4]
          by_cases w : b (t + k) = W.getD k 0
          · rw [if_pos w, if_pos (by rw [w])]
            show some (Sum.inl (i3 k + i3 1)) = _
            rw [i3_add]
          · rw [if_neg w, if_neg (by rw [i3_eq (by omega) (by omega)]; exact w)]
        by_cases w : b (t + k) = W.getD k 0
        · rw [if_pos w] at E
          refine Or.inl ⟨_, E, rfl, fun j hj2 => ?_⟩
          by_cases w2 : j = k
          · subst w2; exact w
          · exact hj j (by omega)
        · rw [if_neg w] at E
          exact Or.inr ⟨_, E, Or.inr ⟨fun z => w (z.2 k hk), rfl⟩⟩
      · rintro s ⟨rfl, hj⟩
        refine ⟨.inr (), ?_, Or.inl ⟨⟨q, hj⟩, rfl⟩⟩
        unfold fX_Text_isWord_L27
        rw [hlen, if_pos (i3_yle (by omega) (by omega))]
    show (lp (fX_Text_isWord_L27 x g) fuel (i3 0)).bind _ = _
    rw [e1, ob_s]
    rcases e2 with ⟨w, rfl⟩ | ⟨w, rfl⟩
    · rw [if_pos w]; rfl
    · rw [if_neg w]; rfl
  · rw [if_neg (by rw [i3_eq (by omega) (by omega)]; exact q), if_neg (fun z => q z.1)]
    rfl
theorem X_isWordF {x : Nat} (h : ¬ ft = 0) (h3 : ft ≤ 3) (h0 : g 1 6 = i3 ft) : fX_Text_isWord x g = some (i3 0) := by
  simp (disch := (first | omega | assumption | trivial)) only [li_0, li_1, li_2, li_3, li_4, li_5, li_6, li_7, li_8, li_9, li_10, li_11, li_12, li_13, li_14, li_15, li_16, li_17, li_18, li_19, li_20, li_21, li_22, li_23, li_24, li_25, li_26, li_27, li_28, li_29, li_30, li_31, li_32, li_33, li_34, li_35, li_36, li_37, li_38, li_39, li_40, li_41, li_42, li_43, li_44, li_45, li_46, li_47, li_48, li_49, li_50, li_51, li_52, li_53, li_54, li_55, li_56, li_57, li_58, li_59, li_60, li_63, li_64, li_72, li_76, li_77, li_91, li_93, li_96, li_97, li_99, li_108, li_109, li_120, li_122, li_150, li_200, li_255, li_400, li_426, li_600, li_900, li_999, li_1000, li_1002, li_1003, li_2000, li_2042, li_2043, li_2045, li_10000, li_32767, li_100000, li_1000000, li_m1, li_m1b, ob_s, lt1_e, se_l, se_r, if_true, if_false, true_and, and_true, false_and, and_false, st_at, i3_add, i3_mul, i3_sub, i3_lt, i3_le, i3_eq, i3_nat, m1_eqi, i3_eqm, m1_lti, m1_lei, i3_ltm, i3_lem, i3_decm, i3_dec0, nm_eqm, yr_eqm, mxor0, Nat.zero_add, if_pos, if_neg, eq_self, ne_eq, not_true_eq_false, not_false_eq_true, fX_Text_isWord, h0]
theorem M_isWord {x : Nat} (hx : x < 19) (h : Mt e b 0 fp t g) (r : RUN (ltr b) e t n) {x1 x2 x3 x4 x5 x6 : Int32} (hs : fM_six x1 x2 x3 x4 x5 x6 = i3 (bvf (fun j => (wd x).getD j 0 - 96) (wd x).length)) : ∃ g', fM_isWord x1 x2 x3 x4 x5 x6 g = some ((if isW b t n (wd x) then i3 1 else i3 0), g') ∧ Mt e b 0 fp t g' ∧ FRM g g' ∧ g' 0 4 = i3 t := by
  obtain ⟨g1, c1, c2, c3, f1, _, h1⟩ := M_next0 h
  have h0 := h.2.1
  have h600 := h.c600
  obtain ⟨o1, o2⟩ := wd_ok x hx
  obtain ⟨r1, r2, r3⟩ := r
  generalize wd x = W at *
  have hb : ∀ k, k < n → 97 ≤ b (t + k) ∧ b (t + k) ≤ 122 := fun k hk => r2 k hk
  have hlp : lp (fM_wordHere_L8 g1) fuel (i3 0, i3 0) = some (i3 (bvf (fun j => b (t + j) - 96) (if n ≤ 6 then n else 6)), i3 n) := by
    refine lp_cnt0 (fun k => (i3 (bvf (fun j => b (t + j) - 96) (if k ≤ 6 then k else 6)), i3 k)) rfl n (by omega) (fun k hk => ?_) ?_
    · have t4 := (h1.1).byteAt (k := t + k) (by omega)
      rw [if_pos (by omega)] at t4
      have t5 := (h1.1.2.2 (t + k) (by omega)).1
      have t6 := ltrM (b (t + k)) t5
      have t7 := hb k hk
      rw [if_pos t7] at t6
      show fM_wordHere_L8 g1 (i3 (bvf (fun j => b (t + j) - 96) (if k ≤ 6 then k else 6)), i3 k) = some (.inl (i3 (bvf (fun j => b (t + j) - 96) (if k + 1 ≤ 6 then k + 1 else 6)), i3 (k + 1)))
      unfold fM_wordHere_L8
      show (fM_byteAt (g1 0 4 + i3 k) g1).bind _ = _
      rw [c2, i3_add, t4, ob_s, t6, if_neg (show ¬ i3 1 = (0 : Int32) by decide)]
      show (if i3 6 ≤ i3 k then _ else (some (i3 (b (t + k)))).bind _) = _
      by_cases q : 6 ≤ k
      · rw [if_pos (i3_yle (a := 6) (by omega) q), if_neg (show ¬ k + 1 ≤ 6 by omega)]
        have e6 : (if k ≤ 6 then k else 6) = 6 := by
          by_cases q2 : k ≤ 6
          · rw [if_pos q2]; omega
          · rw [if_neg q2]
        rw [e6]
        show some (Sum.inl (_, i3 k + i3 1)) = _
        rw [i3_add]
      · rw [if_neg (i3_nle (a := 6) (by omega) (by omega)), if_pos (show k + 1 ≤ 6 by omega), if_pos (show k ≤ 6 by omega), ob_s]
        show some (Sum.inl (i3 27 * i3 (bvf (fun j => b (t + j) - 96) k) + i3 (b (t + k)) - i3 97 + i3 1, i3 k + i3 1)) = _
        have e9 : i3 27 * i3 (bvf (fun j => b (t + j) - 96) k) + i3 (b (t + k)) - i3 97 + i3 1 = i3 (bvf (fun j => b (t + j) - 96) (k + 1)) := by
          rw [i3_mul, i3_add, i3_sub (by omega), i3_add]
          show i3 _ = i3 (27 * bvf (fun j => b (t + j) - 96) k + (b (t + k) - 96))
          congr 1
          omega
        rw [e9, i3_add]
    · have t4 := (h1.1).byteAt (k := t + n) (by omega)
      show fM_wordHere_L8 g1 (_, i3 n) = _
      unfold fM_wordHere_L8
      show (fM_byteAt (g1 0 4 + i3 n) g1).bind _ = _
      rw [c2, i3_add, t4, ob_s]
      by_cases q : t + n < e
      · have t5 := (h1.1.2.2 (t + n) (by omega)).1
        have t6 := ltrM (b (t + n)) t5
        rw [if_neg (show ¬ (97 ≤ b (t + n) ∧ b (t + n) ≤ 122) from r3 q)] at t6
        rw [if_pos q, t6, if_pos (show i3 0 = (0 : Int32) from rfl)]
      · rw [if_neg q, ltrM1, if_pos (show i3 0 = (0 : Int32) from rfl)]
  refine ⟨g1, ?_, h1, fun p i w => f1 p i (by omega), c2⟩
  unfold fM_isWord fM_wordHere
  rw [if_pos (show g 0 5 = 0 from h0), c1, ob_s]
  unfold fM_wordHere_b8
  show (Option.bind ((lp (fM_wordHere_L8 g1) fuel (i3 0, i3 0)).bind _) _) = _
  rw [hlp, ob_s, hs]
  have v27 : bvf (fun j => W.getD j 0 - 96) W.length < 27 ^ W.length := bvf_lt _ (fun j hj => by have := o2 j hj; show W.getD j 0 - 96 ≤ 26; omega)
  have := p27 o1
  by_cases q : n ≤ 6
  · rw [if_pos q]
    show (Option.bind (if i3 n ≤ i3 6 then some (i3 _, g1) else some (m1, g1)) _) = _
    rw [if_pos (i3_yle (by omega) q), ob_s]
    have u27 : bvf (fun j => b (t + j) - 96) n < 27 ^ n := bvf_lt _ (fun j hj => by have := hb j hj; show b (t + j) - 96 ≤ 26; omega)
    have := p27 q
    show (if i3 (bvf (fun j => b (t + j) - 96) n) = i3 (bvf (fun j => W.getD j 0 - 96) W.length) then some (i3 1, g1) else some (i3 0, g1)) = _
    by_cases w : isW b t n W
    · rw [if_pos w]
      have e5 : bvf (fun j => b (t + j) - 96) n = bvf (fun j => W.getD j 0 - 96) W.length := by
        obtain ⟨w1, w2⟩ := w
        subst w1
        exact bvf_congr _ (fun j hj => by show b (t + j) - 96 = W.getD j 0 - 96; rw [w2 j hj])
      rw [if_pos (by rw [e5])]
    · rw [if_neg w, if_neg]
      rw [i3_eq (by omega) (by omega)]
      intro z
      obtain ⟨z1, z2⟩ := bvf_inj _ _ (fun j hj => by have := hb j hj; show 1 ≤ b (t + j) - 96 ∧ b (t + j) - 96 ≤ 26; omega) (fun j hj => by have := o2 j hj; show 1 ≤ W.getD j 0 - 96 ∧ W.getD j 0 - 96 ≤ 26; omega) z
      refine w ⟨z1, fun j hj => ?_⟩
      have z3 : b (t + j) - 96 = W.getD j 0 - 96 := z2 j hj
      have := hb j hj
      have := o2 j (by omega)
      omega
  · rw [if_neg q]
    show (Option.bind (if i3 n ≤ i3 6 then some (i3 _, g1) else some (m1, g1)) _) = _
    rw [if_neg (i3_nle (by omega) (by omega)), ob_s, if_neg (fun w : isW b t n W => q (by have := w.1; omega))]
    show (if m1 = i3 (bvf (fun j => W.getD j 0 - 96) W.length) then some (i3 1, g1) else some (i3 0, g1)) = _
    rw [if_neg (by rw [m1_eqi (by omega)]; exact fun z => z)]
theorem M_isWordF {x1 x2 x3 x4 x5 x6 : Int32} (h : ¬ ft = 0) (h3 : ft ≤ 3) (h0 : g 0 5 = i3 ft) : fM_isWord x1 x2 x3 x4 x5 x6 g = some (i3 0, g) := by
  simp (disch := (first | omega | assumption | trivial)) only [li_0, li_1, li_2, li_3, li_4, li_5, li_6, li_7, li_8, li_9, li_10, li_11, li_12, li_13, li_14, li_15, li_16, li_17, li_18, li_19, li_20, li_21, li_22, li_23, li_24, li_25, li_26, li_27, li_28, li_29, li_30, li_31, li_32, li_33, li_34, li_35, li_36, li_37, li_38, li_39, li_40, li_41, li_42, li_43, li_44, li_45, li_46, li_47, li_48, li_49, li_50, li_51, li_52, li_53, li_54, li_55, li_56, li_57, li_58, li_59, li_60, li_63, li_64, li_72, li_76, li_77, li_91, li_93, li_96, li_97, li_99, li_108, li_109, li_120, li_122, li_150, li_200, li_255, li_400, li_426, li_600, li_900, li_999, li_1000, li_1002, li_1003, li_2000, li_2042, li_2043, li_2045, li_10000, li_32767, li_100000, li_1000000, li_m1, li_m1b, ob_s, lt1_e, se_l, se_r, if_true, if_false, true_and, and_true, false_and, and_false, st_at, i3_add, i3_mul, i3_sub, i3_lt, i3_le, i3_eq, i3_nat, m1_eqi, i3_eqm, m1_lti, m1_lei, i3_ltm, i3_lem, i3_decm, i3_dec0, nm_eqm, yr_eqm, mxor0, Nat.zero_add, if_pos, if_neg, eq_self, ne_eq, not_true_eq_false, not_false_eq_true, fM_isWord, h0]
theorem M_skip {t' : Nat} (h : Mt e b 0 fp t g) (h4 : g 0 4 = i3 t) (r : RUN (ltr b) e t n) (hn : nb e b (t + n) t') : ∃ g', fM_skipWord g = some g' ∧ Mt e b 0 fp t' g' ∧ FRM g g' := by
  obtain ⟨r1, r2, r3⟩ := r
  have h600 := h.c600
  have hT := h.1
  obtain ⟨g2, e4, e5, f2⟩ : ∃ g', lp fM_skipWord_L0 fuel g = some g' ∧ g' 0 4 = i3 (t + n) ∧ ∀ p i, ¬ (p = 0 ∧ i = 4) → g' p i = g p i := by
    refine lp_all (fun k z => z 0 4 = i3 (t + k) ∧ ∀ p i, ¬ (p = 0 ∧ i = 4) → z p i = g p i) (fun z : St => z 0 4 = i3 (t + n) ∧ ∀ p i, ¬ (p = 0 ∧ i = 4) → z p i = g p i) n (by omega) ?_ ?_ ⟨h4, fun _ _ _ => rfl⟩
    · rintro k z hk ⟨z1, z2⟩
      have t4 := (hT.fr z2).byteAt (k := t + k) (by omega)
      rw [if_pos (by omega)] at t4
      have t5 := (hT.2.2 (t + k) (by omega)).1
      have t6 := ltrM (b (t + k)) t5
      rw [if_pos (show 97 ≤ b (t + k) ∧ b (t + k) ≤ 122 from r2 k hk)] at t6
      refine ⟨st z 0 4 (i3 (t + k + 1)), ?_, st_eq _ _ _ _, fun p i w => by rw [st_at, if_neg w]; exact z2 p i w⟩
      simp (disch := (first | omega | assumption | trivial)) only [li_0, li_1, li_2, li_3, li_4, li_5, li_6, li_7, li_8, li_9, li_10, li_11, li_12, li_13, li_14, li_15, li_16, li_17, li_18, li_19, li_20, li_21, li_22, li_23, li_24, li_25, li_26, li_27, li_28, li_29, li_30, li_31, li_32, li_33, li_34, li_35, li_36, li_37, li_38, li_39, li_40, li_41, li_42, li_43, li_44, li_45, li_46, li_47, li_48, li_49, li_50, li_51, li_52, li_53, li_54, li_55, li_56, li_57, li_58, li_59, li_60, li_63, li_64, li_72, li_76, li_77, li_91, li_93, li_96, li_97, li_99, li_108, li_109, li_120, li_122, li_150, li_200, li_255, li_400, li_426, li_600, li_900, li_999, li_1000, li_1002, li_1003, li_2000, li_2042, li_2043, li_2045, li_10000, li_32767, li_100000, li_1000000, li_m1, li_m1b, ob_s, lt1_e, se_l, se_r, if_true, if_false, true_and, and_true, false_and, and_false, st_at, i3_add, i3_mul, i3_sub, i3_lt, i3_le, i3_eq, i3_nat, m1_eqi, i3_eqm, m1_lti, m1_lei, i3_ltm, i3_lem, i3_decm, i3_dec0, nm_eqm, yr_eqm, mxor0, Nat.zero_add, if_pos, if_neg, eq_self, ne_eq, not_true_eq_false, not_false_eq_true, fM_skipWord_L0, z1, t4, t6]
    · rintro z ⟨z1, z2⟩
      have t4 := (hT.fr z2).byteAt (k := t + n) (by omega)
      refine ⟨z, ?_, z1, z2⟩
      by_cases q : t + n < e
      · have t5 := (hT.2.2 (t + n) (by omega)).1
        have t6 := ltrM (b (t + n)) t5
        rw [if_neg (show ¬ (97 ≤ b (t + n) ∧ b (t + n) ≤ 122) from r3 q)] at t6
        rw [if_pos q] at t4
        simp (disch := (first | omega | assumption | trivial)) only [li_0, li_1, li_2, li_3, li_4, li_5, li_6, li_7, li_8, li_9, li_10, li_11, li_12, li_13, li_14, li_15, li_16, li_17, li_18, li_19, li_20, li_21, li_22, li_23, li_24, li_25, li_26, li_27, li_28, li_29, li_30, li_31, li_32, li_33, li_34, li_35, li_36, li_37, li_38, li_39, li_40, li_41, li_42, li_43, li_44, li_45, li_46, li_47, li_48, li_49, li_50, li_51, li_52, li_53, li_54, li_55, li_56, li_57, li_58, li_59, li_60, li_63, li_64, li_72, li_76, li_77, li_91, li_93, li_96, li_97, li_99, li_108, li_109, li_120, li_122, li_150, li_200, li_255, li_400, li_426, li_600, li_900, li_999, li_1000, li_1002, li_1003, li_2000, li_2042, li_2043, li_2045, li_10000, li_32767, li_100000, li_1000000, li_m1, li_m1b, ob_s, lt1_e, se_l, se_r, if_true, if_false, true_and, and_true, false_and, and_false, st_at, i3_add, i3_mul, i3_sub, i3_lt, i3_le, i3_eq, i3_nat, m1_eqi, i3_eqm, m1_lti, m1_lei, i3_ltm, i3_lem, i3_decm, i3_dec0, nm_eqm, yr_eqm, mxor0, Nat.zero_add, if_pos, if_neg, eq_self, ne_eq, not_true_eq_false, not_false_eq_true, fM_skipWord_L0, z1, t4, t6]
      · rw [if_neg q] at t4
        simp (disch := (first | omega | assumption | trivial)) only [li_0, li_1, li_2, li_3, li_4, li_5, li_6, li_7, li_8, li_9, li_10, li_11, li_12, li_13, li_14, li_15, li_16, li_17, li_18, li_19, li_20, li_21, li_22, li_23, li_24, li_25, li_26, li_27, li_28, li_29, li_30, li_31, li_32, li_33, li_34, li_35, li_36, li_37, li_38, li_39, li_40, li_41, li_42, li_43, li_44, li_45, li_46, li_47, li_48, li_49, li_50, li_51, li_52, li_53, li_54, li_55, li_56, li_57, li_58, li_59, li_60, li_63, li_64, li_72, li_76, li_77, li_91, li_93, li_96, li_97, li_99, li_108, li_109, li_120, li_122, li_150, li_200, li_255, li_400, li_426, li_600, li_900, li_999, li_1000, li_1002, li_1003, li_2000, li_2042, li_2043, li_2045, li_10000, li_32767, li_100000, li_1000000, li_m1, li_m1b, ob_s, lt1_e, se_l, se_r, if_true, if_false, true_and, and_true, false_and, and_false, st_at, i3_add, i3_mul, i3_sub, i3_lt, i3_le, i3_eq, i3_nat, m1_eqi, i3_eqm, m1_lti, m1_lei, i3_ltm, i3_lem, i3_decm, i3_dec0, nm_eqm, yr_eqm, mxor0, Nat.zero_add, if_pos, if_neg, eq_self, ne_eq, not_true_eq_false, not_false_eq_true, fM_skipWord_L0, z1, t4, ltrM1]
  have F2 : FRM g g2 := fun p i w => f2 p i (by omega)
  refine ⟨g2, ?_, ⟨h.1.fr5 F2, (f2 0 5 (by omega)).trans h.2.1, by omega, (nb_le hn).2, ⟨_, e5, r1, fun _ => hn⟩, fun z => absurd rfl z⟩, F2⟩
  simp (disch := (first | omega | assumption | trivial)) only [li_0, li_1, li_2, li_3, li_4, li_5, li_6, li_7, li_8, li_9, li_10, li_11, li_12, li_13, li_14, li_15, li_16, li_17, li_18, li_19, li_20, li_21, li_22, li_23, li_24, li_25, li_26, li_27, li_28, li_29, li_30, li_31, li_32, li_33, li_34, li_35, li_36, li_37, li_38, li_39, li_40, li_41, li_42, li_43, li_44, li_45, li_46, li_47, li_48, li_49, li_50, li_51, li_52, li_53, li_54, li_55, li_56, li_57, li_58, li_59, li_60, li_63, li_64, li_72, li_76, li_77, li_91, li_93, li_96, li_97, li_99, li_108, li_109, li_120, li_122, li_150, li_200, li_255, li_400, li_426, li_600, li_900, li_999, li_1000, li_1002, li_1003, li_2000, li_2042, li_2043, li_2045, li_10000, li_32767, li_100000, li_1000000, li_m1, li_m1b, ob_s, lt1_e, se_l, se_r, if_true, if_false, true_and, and_true, false_and, and_false, st_at, i3_add, i3_mul, i3_sub, i3_lt, i3_le, i3_eq, i3_nat, m1_eqi, i3_eqm, m1_lti, m1_lei, i3_ltm, i3_lem, i3_decm, i3_dec0, nm_eqm, yr_eqm, mxor0, Nat.zero_add, if_pos, if_neg, eq_self, ne_eq, not_true_eq_false, not_false_eq_true, fM_skipWord, fM_skipWord_b0, e4]
end WW
