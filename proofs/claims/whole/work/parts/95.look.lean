/-! PURE: whose stones to count next -/
def isMax (q : Nat → Nat) (x : Nat) : Prop := (∀ v, v < 9 → q v ≤ x) ∧ (x = 0 ∨ ∃ v, v < 9 ∧ x = q v)
def mxS (q : Nat → Nat) : Nat → Nat
  | 0 => 0
  | k + 1 => if mxS q k < q k then q k else mxS q k
theorem mxS_is (q : Nat → Nat) : ∀ k, k ≤ 9 → (∀ v, v < k → q v ≤ mxS q k) ∧ (mxS q k = 0 ∨ ∃ v, v < 9 ∧ mxS q k = q v)
  | 0, _ => ⟨fun v hv => absurd hv (Nat.not_lt_zero v), Or.inl rfl⟩
  | k + 1, h => by
    obtain ⟨h1, h2⟩ := mxS_is q k (by omega)
    rw [show mxS q (k + 1) = if mxS q k < q k then q k else mxS q k from rfl]
    by_cases z : mxS q k < q k
    · rw [if_pos z]
      refine ⟨fun v hv => ?_, Or.inr ⟨k, by omega, rfl⟩⟩
      by_cases e : v = k
      · rw [e]; exact Nat.le_refl _
      · have := h1 v (by omega)
        omega
    · rw [if_neg z]
      refine ⟨fun v hv => ?_, h2⟩
      by_cases e : v = k
      · rw [e]; omega
      · exact h1 v (by omega)
theorem isMax_eq {q : Nat → Nat} {x : Nat} (h : isMax q x) : x = mxS q 9 := by
  obtain ⟨h1, h2⟩ := mxS_is q 9 (by omega)
  obtain ⟨h3, h4⟩ := h
  have a : x ≤ mxS q 9 := by
    rcases h4 with h4 | ⟨v, hv, h4⟩
    · omega
    · rw [h4]; exact h1 v hv
  have b : mxS q 9 ≤ x := by
    rcases h2 with h2 | ⟨v, hv, h2⟩
    · omega
    · rw [h2]; exact h3 v hv
  omega
theorem mxS_le {q : Nat → Nat} {b : Nat} (h : ∀ v, q v ≤ b) : ∀ k, mxS q k ≤ b
  | 0 => Nat.zero_le _
  | k + 1 => by
    have h1 := h k
    have h2 := mxS_le h k
    rw [show mxS q (k + 1) = if mxS q k < q k then q k else mxS q k from rfl]
    by_cases z : mxS q k < q k
    · rw [if_pos z]; exact h1
    · rw [if_neg z]; exact h2
def lkS (tl : Nat → Bool) (mx : Nat → Nat) : Nat → Nat × Nat
  | 0 => (0, 0)
  | k + 1 => if tl k = true then lkS tl mx k else if (lkS tl mx k).1 = 0 ∨ mx k < (lkS tl mx k).2 then (k + 1, mx k) else lkS tl mx k
theorem lkS_le {tl : Nat → Bool} {mx : Nat → Nat} {b : Nat} (h : ∀ k, mx k ≤ b) : ∀ k, (lkS tl mx k).1 ≤ k ∧ (lkS tl mx k).2 ≤ b
  | 0 => ⟨Nat.le_refl _, Nat.zero_le _⟩
  | k + 1 => by
    obtain ⟨h1, h2⟩ := lkS_le h k
    rw [show lkS tl mx (k + 1) = if tl k = true then lkS tl mx k else if (lkS tl mx k).1 = 0 ∨ mx k < (lkS tl mx k).2 then (k + 1, mx k) else lkS tl mx k from rfl]
    by_cases z : tl k = true
    · rw [if_pos z]; exact ⟨by omega, h2⟩
    · rw [if_neg z]
      by_cases z2 : (lkS tl mx k).1 = 0 ∨ mx k < (lkS tl mx k).2
      · rw [if_pos z2]; exact ⟨Nat.le_refl _, h k⟩
      · rw [if_neg z2]; exact ⟨by omega, h2⟩
def lkC (w : Nat × Nat) : Int32 := if w.1 = 0 then m1 else i3 w.2
theorem more_nat {a b : Nat} (ha : a < 1000) (hb : b < 1000) : fM_more (i3 a) (i3 b) = i3 (if a ≤ b then b else a) := by
  unfold fM_more
  by_cases q : a ≤ b
  · rw [if_pos (i3_yle (by omega) q), if_pos q]
  · rw [if_neg (i3_nle (by omega) (by omega)), if_neg q]
theorem mostX {g : St} {p : Nat} {q : Nat → Nat} (hp : p < 8) (h : ∀ v, v < 9 → g 46 (p * 9 + v) = i3 (q v)) (hq : ∀ v, q v ≤ 200) : fX_Orders_mostAlike (i3 p) g = some (i3 (mxS q 9)) := by
  have key : ∃ z : Int32, lp (fX_Orders_mostAlike_L4 (i3 p) g) fuel (i3 0, i3 0) = some z ∧ z = i3 (mxS q 9) := by
    refine lp_all (fun k s => s = (i3 (mxS q k), i3 k)) (fun z : Int32 => z = i3 (mxS q 9)) 9 (by omega) ?_ ?_ rfl
    · rintro k s hk rfl
      have h1 := h k hk
      have h2 := hq k
      have h3 := mxS_le hq k
      have s1 : mxS q (k + 1) = if mxS q k < q k then q k else mxS q k := rfl
      refine ⟨_, ?_, rfl⟩
      by_cases z : mxS q k < q k
      · rw [if_pos z] at s1
        rw [s1]
        simp (disch := (first | omega | assumption | trivial)) only [li_0, li_1, li_2, li_3, li_4, li_5, li_6, li_7, li_8, li_9, li_10, li_11, li_12, li_13, li_14, li_15, li_16, li_17, li_18, li_19, li_20, li_21, li_22, li_23, li_24, li_25, li_26, li_27, li_28, li_29, li_30, li_31, li_32, li_33, li_34, li_35, li_36, li_37, li_38, li_39, li_40, li_41, li_42, li_43, li_44, li_45, li_46, li_47, li_48, li_49, li_50, li_51, li_52, li_53, li_54, li_55, li_56, li_57, li_58, li_59, li_60, li_63, li_64, li_72, li_76, li_77, li_91, li_93, li_96, li_97, li_99, li_108, li_109, li_120, li_122, li_150, li_200, li_255, li_400, li_426, li_600, li_900, li_999, li_1000, li_1002, li_1003, li_2000, li_2042, li_2043, li_2045, li_10000, li_32767, li_100000, li_1000000, li_m1, li_m1b, ob_s, lt1_e, se_l, se_r, if_true, if_false, true_and, and_true, false_and, and_false, st_at, i3_add, i3_mul, i3_sub, i3_lt, i3_le, i3_eq, i3_nat, m1_eqi, i3_eqm, m1_lti, m1_lei, i3_ltm, i3_lem, i3_decm, i3_dec0, nm_eqm, yr_eqm, mxor0, Nat.zero_add, if_pos, if_neg, eq_self, ne_eq, not_true_eq_false, not_false_eq_true, fX_Orders_mostAlike_L4, at46, h1]
      · rw [if_neg z] at s1
        rw [s1]
        simp (disch := (first | omega | assumption | trivial)) only [li_0, li_1, li_2, li_3, li_4, li_5, li_6, li_7, li_8, li_9, li_10, li_11, li_12, li_13, li_14, li_15, li_16, li_17, li_18, li_19, li_20, li_21, li_22, li_23, li_24, li_25, li_26, li_27, li_28, li_29, li_30, li_31, li_32, li_33, li_34, li_35, li_36, li_37, li_38, li_39, li_40, li_41, li_42, li_43, li_44, li_45, li_46, li_47, li_48, li_49, li_50, li_51, li_52, li_53, li_54, li_55, li_56, li_57, li_58, li_59, li_60, li_63, li_64, li_72, li_76, li_77, li_91, li_93, li_96, li_97, li_99, li_108, li_109, li_120, li_122, li_150, li_200, li_255, li_400, li_426, li_600, li_900, li_999, li_1000, li_1002, li_1003, li_2000, li_2042, li_2043, li_2045, li_10000, li_32767, li_100000, li_1000000, li_m1, li_m1b, ob_s, lt1_e, se_l, se_r, if_true, if_false, true_and, and_true, false_and, and_false, st_at, i3_add, i3_mul, i3_sub, i3_lt, i3_le, i3_eq, i3_nat, m1_eqi, i3_eqm, m1_lti, m1_lei, i3_ltm, i3_lem, i3_decm, i3_dec0, nm_eqm, yr_eqm, mxor0, Nat.zero_add, if_pos, if_neg, eq_self, ne_eq, not_true_eq_false, not_false_eq_true, fX_Orders_mostAlike_L4, at46, h1]
    · rintro s rfl
      refine ⟨_, ?_, rfl⟩
      simp (disch := (first | omega | assumption | trivial)) only [li_0, li_1, li_2, li_3, li_4, li_5, li_6, li_7, li_8, li_9, li_10, li_11, li_12, li_13, li_14, li_15, li_16, li_17, li_18, li_19, li_20, li_21, li_22, li_23, li_24, li_25, li_26, li_27, li_28, li_29, li_30, li_31, li_32, li_33, li_34, li_35, li_36, li_37, li_38, li_39, li_40, li_41, li_42, li_43, li_44, li_45, li_46, li_47, li_48, li_49, li_50, li_51, li_52, li_53, li_54, li_55, li_56, li_57, li_58, li_59, li_60, li_63, li_64, li_72, li_76, li_77, li_91, li_93, li_96, li_97, li_99, li_108, li_109, li_120, li_122, li_150, li_200, li_255, li_400, li_426, li_600, li_900, li_999, li_1000, li_1002, li_1003, li_2000, li_2042, li_2043, li_2045, li_10000, li_32767, li_100000, li_1000000, li_m1, li_m1b, ob_s, lt1_e, se_l, se_r, if_true, if_false, true_and, and_true, false_and, and_false, st_at, i3_add, i3_mul, i3_sub, i3_lt, i3_le, i3_eq, i3_nat, m1_eqi, i3_eqm, m1_lti, m1_lei, i3_ltm, i3_lem, i3_decm, i3_dec0, nm_eqm, yr_eqm, mxor0, Nat.zero_add, if_pos, if_neg, eq_self, ne_eq, not_true_eq_false, not_false_eq_true, fX_Orders_mostAlike_L4]
  obtain ⟨z, e, hz⟩ := key
  rw [hz] at e
  simp (disch := (first | omega | assumption | trivial)) only [li_0, li_1, li_2, li_3, li_4, li_5, li_6, li_7, li_8, li_9, li_10, li_11, li_12, li_13, li_14, li_15, li_16, li_17, li_18, li_19, li_20, li_21, li_22, li_23, li_24, li_25, li_26, li_27, li_28, li_29, li_30, li_31, li_32, li_33, li_34, li_35, li_36, li_37, li_38, li_39, li_40, li_41, li_42, li_43, li_44, li_45, li_46, li_47, li_48, li_49, li_50, li_51, li_52, li_53, li_54, li_55, li_56, li_57, li_58, li_59, li_60, li_63, li_64, li_72, li_76, li_77, li_91, li_93, li_96, li_97, li_99, li_108, li_109, li_120, li_122, li_150, li_200, li_255, li_400, li_426, li_600, li_900, li_999, li_1000, li_1002, li_1003, li_2000, li_2042, li_2043, li_2045, li_10000, li_32767, li_100000, li_1000000, li_m1, li_m1b, ob_s, lt1_e, se_l, se_r, if_true, if_false, true_and, and_true, false_and, and_false, st_at, i3_add, i3_mul, i3_sub, i3_lt, i3_le, i3_eq, i3_nat, m1_eqi, i3_eqm, m1_lti, m1_lei, i3_ltm, i3_lem, i3_decm, i3_dec0, nm_eqm, yr_eqm, mxor0, Nat.zero_add, if_pos, if_neg, eq_self, ne_eq, not_true_eq_false, not_false_eq_true, fX_Orders_mostAlike, fX_Orders_mostAlike_b4, e]
section LT
variable {g : St} {l n : Nat} {A V B : Nat → Nat}
theorem tellsX (hl : g 8 1 = i3 l) (h8 : l ≤ 8) (h2 : 0 < l → ∀ p, p < 8 → g 35 p = yr (B p) ∧ (B p ≠ 0 → ∃ k, k < l ∧ A k = p) ∧ B p ≤ 9) {p : Nat} (hp : p < 8) : fX_Book_tellsOf 8 (i3 p) g = some (i3 (if 0 < l ∧ B p ≠ 0 then 1 else 0)) := by
  by_cases q : 0 < l
  · obtain ⟨b1, b2, b3⟩ := h2 q p hp
    by_cases q2 : B p = 0
    · rw [if_neg (fun z => z.2 q2)]
      simp (disch := (first | omega | assumption | trivial)) only [li_0, li_1, li_2, li_3, li_4, li_5, li_6, li_7, li_8, li_9, li_10, li_11, li_12, li_13, li_14, li_15, li_16, li_17, li_18, li_19, li_20, li_21, li_22, li_23, li_24, li_25, li_26, li_27, li_28, li_29, li_30, li_31, li_32, li_33, li_34, li_35, li_36, li_37, li_38, li_39, li_40, li_41, li_42, li_43, li_44, li_45, li_46, li_47, li_48, li_49, li_50, li_51, li_52, li_53, li_54, li_55, li_56, li_57, li_58, li_59, li_60, li_63, li_64, li_72, li_76, li_77, li_91, li_93, li_96, li_97, li_99, li_108, li_109, li_120, li_122, li_150, li_200, li_255, li_400, li_426, li_600, li_900, li_999, li_1000, li_1002, li_1003, li_2000, li_2042, li_2043, li_2045, li_10000, li_32767, li_100000, li_1000000, li_m1, li_m1b, ob_s, lt1_e, se_l, se_r, if_true, if_false, true_and, and_true, false_and, and_false, st_at, i3_add, i3_mul, i3_sub, i3_lt, i3_le, i3_eq, i3_nat, m1_eqi, i3_eqm, m1_lti, m1_lei, i3_ltm, i3_lem, i3_decm, i3_dec0, nm_eqm, yr_eqm, mxor0, Nat.zero_add, if_pos, if_neg, eq_self, ne_eq, not_true_eq_false, not_false_eq_true, fX_Book_tellsOf, hl, rB80, at8, b1]
    · rw [if_pos ⟨q, q2⟩]
      simp (disch := (first | omega | assumption | trivial)) only [li_0, li_1, li_2, li_3, li_4, li_5, li_6, li_7, li_8, li_9, li_10, li_11, li_12, li_13, li_14, li_15, li_16, li_17, li_18, li_19, li_20, li_21, li_22, li_23, li_24, li_25, li_26, li_27, li_28, li_29, li_30, li_31, li_32, li_33, li_34, li_35, li_36, li_37, li_38, li_39, li_40, li_41, li_42, li_43, li_44, li_45, li_46, li_47, li_48, li_49, li_50, li_51, li_52, li_53, li_54, li_55, li_56, li_57, li_58, li_59, li_60, li_63, li_64, li_72, li_76, li_77, li_91, li_93, li_96, li_97, li_99, li_108, li_109, li_120, li_122, li_150, li_200, li_255, li_400, li_426, li_600, li_900, li_999, li_1000, li_1002, li_1003, li_2000, li_2042, li_2043, li_2045, li_10000, li_32767, li_100000, li_1000000, li_m1, li_m1b, ob_s, lt1_e, se_l, se_r, if_true, if_false, true_and, and_true, false_and, and_false, st_at, i3_add, i3_mul, i3_sub, i3_lt, i3_le, i3_eq, i3_nat, m1_eqi, i3_eqm, m1_lti, m1_lei, i3_ltm, i3_lem, i3_decm, i3_dec0, nm_eqm, yr_eqm, mxor0, Nat.zero_add, if_pos, if_neg, eq_self, ne_eq, not_true_eq_false, not_false_eq_true, fX_Book_tellsOf, hl, rB80, at8, b1]
  · rw [if_neg (fun z => q z.1)]
    simp (disch := (first | omega | assumption | trivial)) only [li_0, li_1, li_2, li_3, li_4, li_5, li_6, li_7, li_8, li_9, li_10, li_11, li_12, li_13, li_14, li_15, li_16, li_17, li_18, li_19, li_20, li_21, li_22, li_23, li_24, li_25, li_26, li_27, li_28, li_29, li_30, li_31, li_32, li_33, li_34, li_35, li_36, li_37, li_38, li_39, li_40, li_41, li_42, li_43, li_44, li_45, li_46, li_47, li_48, li_49, li_50, li_51, li_52, li_53, li_54, li_55, li_56, li_57, li_58, li_59, li_60, li_63, li_64, li_72, li_76, li_77, li_91, li_93, li_96, li_97, li_99, li_108, li_109, li_120, li_122, li_150, li_200, li_255, li_400, li_426, li_600, li_900, li_999, li_1000, li_1002, li_1003, li_2000, li_2042, li_2043, li_2045, li_10000, li_32767, li_100000, li_1000000, li_m1, li_m1b, ob_s, lt1_e, se_l, se_r, if_true, if_false, true_and, and_true, false_and, and_false, st_at, i3_add, i3_mul, i3_sub, i3_lt, i3_le, i3_eq, i3_nat, m1_eqi, i3_eqm, m1_lti, m1_lei, i3_ltm, i3_lem, i3_decm, i3_dec0, nm_eqm, yr_eqm, mxor0, Nat.zero_add, if_pos, if_neg, eq_self, ne_eq, not_true_eq_false, not_false_eq_true, fX_Book_tellsOf, hl]
theorem toldM (hl : g 0 31 = i3 l) (h8 : l ≤ 8) (hn : n ≤ 8) (h1 : ∀ k, k < l → g (362 + k) 0 = i3 (A k) ∧ A k < n ∧ B (A k) = V k + 1) {p : Nat} (hp : p < 8) (h2 : 0 < l → B p ≠ 0 → ∃ k, k < l ∧ A k = p) : fM_isTold (i3 p) g = some (i3 (if 0 < l ∧ B p ≠ 0 then 1 else 0)) := by
  have key : ∃ z, lp (fM_isTold_L2 (i3 p) g) fuel (i3 0) = some z ∧ z = (if 0 < l ∧ B p ≠ 0 then (.inl () : Unit ⊕ Unit) else .inr ()) := by
    refine lp_for (fun k s => s = i3 k ∧ ∀ j, j < k → A j ≠ p) (fun z : Unit ⊕ Unit => z = (if 0 < l ∧ B p ≠ 0 then (.inl () : Unit ⊕ Unit) else .inr ())) l (by omega) ?_ ?_ ⟨rfl, fun j hj => by omega⟩
    · rintro k s hk ⟨rfl, h3⟩
      obtain ⟨a1, a2, a3⟩ := h1 k hk
      by_cases q : A k = p
      · refine Or.inr ⟨.inl (), ?_, by rw [if_pos ⟨by omega, by rw [← q]; omega⟩]⟩
        simp (disch := (first | omega | assumption | trivial)) only [li_0, li_1, li_2, li_3, li_4, li_5, li_6, li_7, li_8, li_9, li_10, li_11, li_12, li_13, li_14, li_15, li_16, li_17, li_18, li_19, li_20, li_21, li_22, li_23, li_24, li_25, li_26, li_27, li_28, li_29, li_30, li_31, li_32, li_33, li_34, li_35, li_36, li_37, li_38, li_39, li_40, li_41, li_42, li_43, li_44, li_45, li_46, li_47, li_48, li_49, li_50, li_51, li_52, li_53, li_54, li_55, li_56, li_57, li_58, li_59, li_60, li_63, li_64, li_72, li_76, li_77, li_91, li_93, li_96, li_97, li_99, li_108, li_109, li_120, li_122, li_150, li_200, li_255, li_400, li_426, li_600, li_900, li_999, li_1000, li_1002, li_1003, li_2000, li_2042, li_2043, li_2045, li_10000, li_32767, li_100000, li_1000000, li_m1, li_m1b, ob_s, lt1_e, se_l, se_r, if_true, if_false, true_and, and_true, false_and, and_false, st_at, i3_add, i3_mul, i3_sub, i3_lt, i3_le, i3_eq, i3_nat, m1_eqi, i3_eqm, m1_lti, m1_lei, i3_ltm, i3_lem, i3_decm, i3_dec0, nm_eqm, yr_eqm, mxor0, Nat.zero_add, if_pos, if_neg, eq_self, ne_eq, not_true_eq_false, not_false_eq_true, fM_isTold_L2, hl, a1, q]
      · refine Or.inl ⟨i3 (k + 1), ?_, rfl, fun j hj => ?_⟩
        · simp (disch := (first | omega | assumption | trivial)) only [li_0, li_1, li_2, li_3, li_4, li_5, li_6, li_7, li_8, li_9, li_10, li_11, li_12, li_13, li_14, li_15, li_16, li_17, li_18, li_19, li_20, li_21, li_22, li_23, li_24, li_25, li_26, li_27, li_28, li_29, li_30, li_31, li_32, li_33, li_34, li_35, li_36, li_37, li_38, li_39, li_40, li_41, li_42, li_43, li_44, li_45, li_46, li_47, li_48, li_49, li_50, li_51, li_52, li_53, li_54, li_55, li_56, li_57, li_58, li_59, li_60, li_63, li_64, li_72, li_76, li_77, li_91, li_93, li_96, li_97, li_99, li_108, li_109, li_120, li_122, li_150, li_200, li_255, li_400, li_426, li_600, li_900, li_999, li_1000, li_1002, li_1003, li_2000, li_2042, li_2043, li_2045, li_10000, li_32767, li_100000, li_1000000, li_m1, li_m1b, ob_s, lt1_e, se_l, se_r, if_true, if_false, true_and, and_true, false_and, and_false, st_at, i3_add, i3_mul, i3_sub, i3_lt, i3_le, i3_eq, i3_nat, m1_eqi, i3_eqm, m1_lti, m1_lei, i3_ltm, i3_lem, i3_decm, i3_dec0, nm_eqm, yr_eqm, mxor0, Nat.zero_add, if_pos, if_neg, eq_self, ne_eq, not_true_eq_false, not_false_eq_true, fM_isTold_L2, hl, a1, q]
        · by_cases e : j = k
          · rw [e]; exact q
          · exact h3 j (by omega)
    · rintro s ⟨rfl, h3⟩
      refine ⟨.inr (), ?_, ?_⟩
      · simp (disch := (first | omega | assumption | trivial)) only [li_0, li_1, li_2, li_3, li_4, li_5, li_6, li_7, li_8, li_9, li_10, li_11, li_12, li_13, li_14, li_15, li_16, li_17, li_18, li_19, li_20, li_21, li_22, li_23, li_24, li_25, li_26, li_27, li_28, li_29, li_30, li_31, li_32, li_33, li_34, li_35, li_36, li_37, li_38, li_39, li_40, li_41, li_42, li_43, li_44, li_45, li_46, li_47, li_48, li_49, li_50, li_51, li_52, li_53, li_54, li_55, li_56, li_57, li_58, li_59, li_60, li_63, li_64, li_72, li_76, li_77, li_91, li_93, li_96, li_97, li_99, li_108, li_109, li_120, li_122, li_150, li_200, li_255, li_400, li_426, li_600, li_900, li_999, li_1000, li_1002, li_1003, li_2000, li_2042, li_2043, li_2045, li_10000, li_32767, li_100000, li_1000000, li_m1, li_m1b, ob_s, lt1_e, se_l, se_r, if_true, if_false, true_and, and_true, false_and, and_false, st_at, i3_add, i3_mul, i3_sub, i3_lt, i3_le, i3_eq, i3_nat, m1_eqi, i3_eqm, m1_lti, m1_lei, i3_ltm, i3_lem, i3_decm, i3_dec0, nm_eqm, yr_eqm, mxor0, Nat.zero_add, if_pos, if_neg, eq_self, ne_eq, not_true_eq_false, not_false_eq_true, fM_isTold_L2, hl]
      · rw [if_neg]
        rintro ⟨z1, z2⟩
        obtain ⟨k, k1, k2⟩ := h2 z1 z2
        exact h3 k k1 k2
  obtain ⟨z, e, hz⟩ := key
  by_cases q : 0 < l ∧ B p ≠ 0
  · rw [if_pos q] at hz ⊢
    rw [hz] at e
    unfold fM_isTold fM_isTold_b2
    show (lp (fM_isTold_L2 (i3 p) g) fuel (i3 0)).bind _ = _
    rw [e]
    rfl
  · rw [if_neg q] at hz ⊢
    rw [hz] at e
    unfold fM_isTold fM_isTold_b2
    show (lp (fM_isTold_L2 (i3 p) g) fuel (i3 0)).bind _ = _
    rw [e]
    rfl
end LT
section WM
variable {W : (Nat → Nat) → Nat} {n N : Nat} {K F : Nat → Nat} {g : St} {s : AS} {S P m l t : Nat} {A V : Nat → Nat}
theorem worstM (h : EMs W n N K F s 16 g) (hP : P < 256) (hS : S = P &&& msk (fun p => decide (s.2.2.1 p = 0)) n) (hmS : rkk S 8 = m) (hm : m ≤ 5) (hfn : ∀ k, k < m → oF (firstL S) k < n) (hl : g 0 31 = i3 l) (h8 : l ≤ 8) (h1 : ∀ k, k < l → g (362 + k) 0 = i3 (A k) ∧ g (362 + k) 1 = i3 (V k) ∧ A k < n ∧ V k ≤ 8) (ht0 : fiI (oF (seqL m (firstL S) t)) (m - 1) = 0) (ht1 : ∀ j, j < t → fiI (oF (seqL m (firstL S) j)) (m - 1) ≠ 0) (ht : t < 120) {p : Nat} (hp : p < 8) : ∃ g', fM_worstAt (i3 P) (i3 p) g = some (i3 (mxS (fun v => ccS (rO W n N K F s S m A V l) (pO W n N K F s S m) p v (t + 1)) 9), g') ∧ KM g g' ∧ g' 0 0 = g 0 0 := by
  obtain ⟨gZ, eZ, fZ, zZ⟩ : ∃ g' : St, lp (fM_worstAt_L5 (i3 P) (i3 p) (i3 0)) fuel (i3 0, g) = some g' ∧ (∀ p, p ≠ 24 → g' p = g p) ∧ ∀ x, x < 9 → g' 24 x = i3 0 := by
    refine lp_all (fun k z => ∃ g1 : St, z = (i3 k, g1) ∧ (∀ p, p ≠ 24 → g1 p = g p) ∧ ∀ x, x < k → g1 24 x = i3 0) (fun g1 : St => (∀ p, p ≠ 24 → g1 p = g p) ∧ ∀ x, x < 9 → g1 24 x = i3 0) 9 (by omega) ?_ ?_ ⟨g, rfl, fun _ _ => rfl, fun x hx => by omega⟩
    · rintro k z hk ⟨g1, rfl, f1, z1⟩
      refine ⟨(i3 (k + 1), st g1 24 k (i3 0)), ?_, _, rfl, fun p hp => by rw [st_ne hp]; exact f1 p hp, fun x hx => ?_⟩
      · simp (disch := (first | omega | assumption | trivial)) only [li_0, li_1, li_2, li_3, li_4, li_5, li_6, li_7, li_8, li_9, li_10, li_11, li_12, li_13, li_14, li_15, li_16, li_17, li_18, li_19, li_20, li_21, li_22, li_23, li_24, li_25, li_26, li_27, li_28, li_29, li_30, li_31, li_32, li_33, li_34, li_35, li_36, li_37, li_38, li_39, li_40, li_41, li_42, li_43, li_44, li_45, li_46, li_47, li_48, li_49, li_50, li_51, li_52, li_53, li_54, li_55, li_56, li_57, li_58, li_59, li_60, li_63, li_64, li_72, li_76, li_77, li_91, li_93, li_96, li_97, li_99, li_108, li_109, li_120, li_122, li_150, li_200, li_255, li_400, li_426, li_600, li_900, li_999, li_1000, li_1002, li_1003, li_2000, li_2042, li_2043, li_2045, li_10000, li_32767, li_100000, li_1000000, li_m1, li_m1b, ob_s, lt1_e, se_l, se_r, if_true, if_false, true_and, and_true, false_and, and_false, st_at, i3_add, i3_mul, i3_sub, i3_lt, i3_le, i3_eq, i3_nat, m1_eqi, i3_eqm, m1_lti, m1_lei, i3_ltm, i3_lem, i3_decm, i3_dec0, nm_eqm, yr_eqm, mxor0, Nat.zero_add, if_pos, if_neg, eq_self, ne_eq, not_true_eq_false, not_false_eq_true, fM_worstAt_L5]
      · rw [st_at]
        by_cases q : x = k
        · rw [if_pos ⟨rfl, q⟩]
        · rw [if_neg (fun z => q z.2)]; exact z1 x (by omega)
    · rintro z ⟨g1, rfl, f1, z1⟩
      refine ⟨g1, ?_, f1, z1⟩
      simp (disch := (first | omega | assumption | trivial)) only [li_0, li_1, li_2, li_3, li_4, li_5, li_6, li_7, li_8, li_9, li_10, li_11, li_12, li_13, li_14, li_15, li_16, li_17, li_18, li_19, li_20, li_21, li_22, li_23, li_24, li_25, li_26, li_27, li_28, li_29, li_30, li_31, li_32, li_33, li_34, li_35, li_36, li_37, li_38, li_39, li_40, li_41, li_42, li_43, li_44, li_45, li_46, li_47, li_48, li_49, li_50, li_51, li_52, li_53, li_54, li_55, li_56, li_57, li_58, li_59, li_60, li_63, li_64, li_72, li_76, li_77, li_91, li_93, li_96, li_97, li_99, li_108, li_109, li_120, li_122, li_150, li_200, li_255, li_400, li_426, li_600, li_900, li_999, li_1000, li_1002, li_1003, li_2000, li_2042, li_2043, li_2045, li_10000, li_32767, li_100000, li_1000000, li_m1, li_m1b, ob_s, lt1_e, se_l, se_r, if_true, if_false, true_and, and_true, false_and, and_false, st_at, i3_add, i3_mul, i3_sub, i3_lt, i3_le, i3_eq, i3_nat, m1_eqi, i3_eqm, m1_lti, m1_lei, i3_ltm, i3_lem, i3_decm, i3_dec0, nm_eqm, yr_eqm, mxor0, Nat.zero_add, if_pos, if_neg, eq_self, ne_eq, not_true_eq_false, not_false_eq_true, fM_worstAt_L5]
  have kZ : KM g gZ := fun p i q => by rw [fZ p (by omega)]
  have hMZ : EMd W n N K F s.1 s.2.1 s.2.2.1 s.2.2.2 16 gZ := EMd.frK h kZ
  obtain ⟨gF, a1, a2, a3, a4, a5⟩ := firstM hMZ hP hS hmS hm
  have kF : KM g gF := kZ.tr a2
  obtain ⟨r, hr⟩ : ∃ r, r = rO W n N K F s S m A V l := ⟨_, rfl⟩
  rw [← hr]
  have s5 : ∀ v k, ccS r (pO W n N K F s S m) p v (k + 1) = ccS r (pO W n N K F s S m) p v k + if r k = true ∧ pO W n N K F s S m k p = v then 1 else 0 := fun _ _ => rfl
  have cle := fun v k => ccS_le r (pO W n N K F s S m) p v k
  obtain ⟨z, e, g', hz, hk, hr0⟩ : ∃ z, lp (fM_worstAt_L31 (i3 p)) fuel (i3 0, gF) = some z ∧ ∃ g', z = (i3 (mxS (fun v => ccS r (pO W n N K F s S m) p v (t + 1)) 9), g') ∧ KM g g' ∧ g' 0 = gF 0 := by
    refine lp_for (fun k z => k ≤ t ∧ ∃ g1 x, z = (i3 x, g1) ∧ KM g g1 ∧ g1 0 = gF 0 ∧ ORD 23 m (oF (seqL m (firstL S) k)) g1 ∧ (∀ v, v < 9 → g1 24 v = i3 (ccS r (pO W n N K F s S m) p v k)) ∧ isMax (fun v => ccS r (pO W n N K F s S m) p v k) x) (fun z : Int32 × St => ∃ g', z = (i3 (mxS (fun v => ccS r (pO W n N K F s S m) p v (t + 1)) 9), g') ∧ KM g g' ∧ g' 0 = gF 0) (t + 1) (by omega) ?_ ?_ ⟨Nat.zero_le _, gF, 0, rfl, kF, rfl, a5, fun v hv => by rw [a3 24 v (by omega) (by omega), zZ v hv]; rfl, fun v _ => Nat.zero_le _, Or.inl rfl⟩
    · rintro k z hk ⟨_, g1, x, rfl, k1, r1, o1, c1, mx⟩
      have d1 : g1 0 45 = i3 m := by rw [r1]; exact a4
      obtain ⟨g2, e2, E2, f2⟩ := isSoM (A := A) (V := V) (EMd.frK h k1) hm hfn k o1 d1 (by rw [k1 0 31 (by omega)]; exact hl) h8 (fun j hj => by rw [k1 (362 + j) 0 (by omega), k1 (362 + j) 1 (by omega)]; exact h1 j hj)
      rw [← hr] at e2
      have E2' : EMd W n N K F (zO W n N K F s S m k).1 (zO W n N K F s S m k).2.1 (zO W n N K F s S m k).2.2.1 (zO W n N K F s S m k).2.2.2 17 g2 := E2
      have es : fM_stones 17 (i3 p) g2 = some (i3 (pO W n N K F s S m k p)) := E2'.1.stones hp
      have hp8 : pO W n N K F s S m k p ≤ 8 := st8_le _ _
      have r2 : g2 0 = gF 0 := by rw [f2 0 (by omega) (by omega) (by omega)]; exact r1
      have d2 : g2 0 45 = i3 m := by rw [r2]; exact a4
      have o2 : ORD 23 m (oF (seqL m (firstL S) k)) g2 := fun j hj => by rw [f2 23 (by omega) (by omega) (by omega)]; exact o1 j hj
      have k2 : KM g g2 := k1.tr f2.k
      have c2 : ∀ v, v < 9 → g2 24 v = i3 (ccS r (pO W n N K F s S m) p v k) := fun v hv => by rw [f2 24 (by omega) (by omega) (by omega)]; exact c1 v hv
      have hx : x ≤ 200 := by
        rcases mx.2 with q | ⟨v, _, q⟩
        · omega
        · have y : x = ccS r (pO W n N K F s S m) p v k := q
          have := cle v k
          omega
      obtain ⟨g3, x3, eA, k3, r3, o3, c3, mx3⟩ : ∃ g3 x3, fM_worstAt_L31 (i3 p) (i3 x, g1) = fM_worstAt_b75 (i3 p) (i3 x3) g3 ∧ KM g g3 ∧ g3 0 = gF 0 ∧ ORD 23 m (oF (seqL m (firstL S) k)) g3 ∧ (∀ v, v < 9 → g3 24 v = i3 (ccS r (pO W n N K F s S m) p v (k + 1))) ∧ isMax (fun v => ccS r (pO W n N K F s S m) p v (k + 1)) x3 := by
        by_cases q : r k = true
        · rw [if_pos q] at e2
          generalize hu : pO W n N K F s S m k p = u at *
          have c2u := c2 u (by omega)
          have cu := cle u k
          have e5 := more_nat (a := x) (b := ccS r (pO W n N K F s S m) p u k + 1) (by omega) (by omega)
          refine ⟨st g2 24 u (i3 (ccS r (pO W n N K F s S m) p u k + 1)), if x ≤ ccS r (pO W n N K F s S m) p u k + 1 then ccS r (pO W n N K F s S m) p u k + 1 else x, ?_, k2.tr (fun p i w => by rw [st_ne (by omega)]), by rw [st_ne (by omega)]; exact r2, fun j hj => by rw [st_ne (by omega)]; exact o2 j hj, fun v hv => ?_, fun v hv => ?_, ?_⟩
          · rw [← e5]
            simp (disch := (first | omega | assumption | trivial)) only [li_0, li_1, li_2, li_3, li_4, li_5, li_6, li_7, li_8, li_9, li_10, li_11, li_12, li_13, li_14, li_15, li_16, li_17, li_18, li_19, li_20, li_21, li_22, li_23, li_24, li_25, li_26, li_27, li_28, li_29, li_30, li_31, li_32, li_33, li_34, li_35, li_36, li_37, li_38, li_39, li_40, li_41, li_42, li_43, li_44, li_45, li_46, li_47, li_48, li_49, li_50, li_51, li_52, li_53, li_54, li_55, li_56, li_57, li_58, li_59, li_60, li_63, li_64, li_72, li_76, li_77, li_91, li_93, li_96, li_97, li_99, li_108, li_109, li_120, li_122, li_150, li_200, li_255, li_400, li_426, li_600, li_900, li_999, li_1000, li_1002, li_1003, li_2000, li_2042, li_2043, li_2045, li_10000, li_32767, li_100000, li_1000000, li_m1, li_m1b, ob_s, lt1_e, se_l, se_r, if_true, if_false, true_and, and_true, false_and, and_false, st_at, i3_add, i3_mul, i3_sub, i3_lt, i3_le, i3_eq, i3_nat, m1_eqi, i3_eqm, m1_lti, m1_lei, i3_ltm, i3_lem, i3_decm, i3_dec0, nm_eqm, yr_eqm, mxor0, Nat.zero_add, if_pos, if_neg, eq_self, ne_eq, not_true_eq_false, not_false_eq_true, fM_worstAt_L31, e2, es, c2u, st_eq]
          · rw [s5, st_at, hu]
            by_cases z : v = u
            · rw [if_pos ⟨rfl, z⟩, if_pos ⟨q, z.symm⟩, z]
            · rw [if_neg (fun y => z y.2), if_neg (fun y => z y.2.symm)]; exact c2 v hv
          · have z1 : ccS r (pO W n N K F s S m) p v k ≤ x := mx.1 v hv
            show ccS r (pO W n N K F s S m) p v (k + 1) ≤ _
            rw [s5, hu]
            by_cases z : v = u
            · rw [if_pos ⟨q, z.symm⟩, z]
              by_cases z2 : x ≤ ccS r (pO W n N K F s S m) p u k + 1
              · rw [if_pos z2]; omega
              · rw [if_neg z2]; omega
            · rw [if_neg (fun y => z y.2.symm)]
              by_cases z2 : x ≤ ccS r (pO W n N K F s S m) p u k + 1
              · rw [if_pos z2]; omega
              · rw [if_neg z2]; omega
          · by_cases z2 : x ≤ ccS r (pO W n N K F s S m) p u k + 1
            · rw [if_pos z2]
              refine Or.inr ⟨u, by omega, ?_⟩
              show _ = ccS r (pO W n N K F s S m) p u (k + 1)
              rw [s5, hu, if_pos ⟨q, rfl⟩]
            · rw [if_neg z2]
              rcases mx.2 with y | ⟨v, hv, y⟩
              · omega
              · refine Or.inr ⟨v, hv, ?_⟩
                show _ = ccS r (pO W n N K F s S m) p v (k + 1)
                have y2 : x = ccS r (pO W n N K F s S m) p v k := y
                rw [s5, hu, if_neg (fun w => by rw [← w.2] at y2; omega)]
                exact y2
        · rw [if_neg q] at e2
          have s6 : ∀ v, ccS r (pO W n N K F s S m) p v (k + 1) = ccS r (pO W n N K F s S m) p v k := fun v => by rw [s5, if_neg (fun z => q z.1)]; rfl
          refine ⟨g2, x, ?_, k2, r2, o2, fun v hv => by rw [s6]; exact c2 v hv, fun v hv => ?_, ?_⟩
          · simp (disch := (first | omega | assumption | trivial)) only [li_0, li_1, li_2, li_3, li_4, li_5, li_6, li_7, li_8, li_9, li_10, li_11, li_12, li_13, li_14, li_15, li_16, li_17, li_18, li_19, li_20, li_21, li_22, li_23, li_24, li_25, li_26, li_27, li_28, li_29, li_30, li_31, li_32, li_33, li_34, li_35, li_36, li_37, li_38, li_39, li_40, li_41, li_42, li_43, li_44, li_45, li_46, li_47, li_48, li_49, li_50, li_51, li_52, li_53, li_54, li_55, li_56, li_57, li_58, li_59, li_60, li_63, li_64, li_72, li_76, li_77, li_91, li_93, li_96, li_97, li_99, li_108, li_109, li_120, li_122, li_150, li_200, li_255, li_400, li_426, li_600, li_900, li_999, li_1000, li_1002, li_1003, li_2000, li_2042, li_2043, li_2045, li_10000, li_32767, li_100000, li_1000000, li_m1, li_m1b, ob_s, lt1_e, se_l, se_r, if_true, if_false, true_and, and_true, false_and, and_false, st_at, i3_add, i3_mul, i3_sub, i3_lt, i3_le, i3_eq, i3_nat, m1_eqi, i3_eqm, m1_lti, m1_lei, i3_ltm, i3_lem, i3_decm, i3_dec0, nm_eqm, yr_eqm, mxor0, Nat.zero_add, if_pos, if_neg, eq_self, ne_eq, not_true_eq_false, not_false_eq_true, fM_worstAt_L31, e2]
          · show ccS r (pO W n N K F s S m) p v (k + 1) ≤ x
            rw [s6]; exact mx.1 v hv
          · rcases mx.2 with y | ⟨v, hv, y⟩
            · exact Or.inl y
            · refine Or.inr ⟨v, hv, ?_⟩
              show _ = ccS r (pO W n N K F s S m) p v (k + 1)
              rw [s6]; exact y
      rw [eA]
      unfold fM_worstAt_b75
      have d3 : g3 0 45 = i3 m := by rw [r3]; exact a4
      rcases M_next hm o3 d3 with ⟨z1, e6⟩ | ⟨z1, g6, e6, o6, f6⟩
      · have q : k = t := by
          by_cases q : k < t
          · exact absurd z1 (ht1 k q)
          · omega
        subst q
        refine Or.inr ⟨(i3 x3, g3), ?_, g3, by rw [isMax_eq mx3], k3, r3⟩
        rw [e6, ob_s]
        rfl
      · have q : k < t := by
          by_cases q : k = t
          · subst q; exact absurd ht0 z1
          · omega
        refine Or.inl ⟨(i3 x3, g6), ?_, by omega, g6, x3, rfl, k3.tr (fun p i w => by rw [f6 p (by omega)]), by rw [f6 0 (by omega)]; exact r3, o6.cg (fun j hj => (oF_nx (by omega)).symm), fun v hv => by rw [f6 24 (by omega)]; exact c3 v hv, mx3⟩
        rw [e6, ob_s]
        rfl
    · rintro z ⟨h1, _⟩
      omega
  rw [hz] at e
  refine ⟨g', ?_, hk, by rw [hr0, a3 0 0 (by omega) (by omega), fZ 0 (by omega)]⟩
  generalize mxS (fun v => ccS r (pO W n N K F s S m) p v (t + 1)) 9 = x at *
  simp (disch := (first | omega | assumption | trivial)) only [li_0, li_1, li_2, li_3, li_4, li_5, li_6, li_7, li_8, li_9, li_10, li_11, li_12, li_13, li_14, li_15, li_16, li_17, li_18, li_19, li_20, li_21, li_22, li_23, li_24, li_25, li_26, li_27, li_28, li_29, li_30, li_31, li_32, li_33, li_34, li_35, li_36, li_37, li_38, li_39, li_40, li_41, li_42, li_43, li_44, li_45, li_46, li_47, li_48, li_49, li_50, li_51, li_52, li_53, li_54, li_55, li_56, li_57, li_58, li_59, li_60, li_63, li_64, li_72, li_76, li_77, li_91, li_93, li_96, li_97, li_99, li_108, li_109, li_120, li_122, li_150, li_200, li_255, li_400, li_426, li_600, li_900, li_999, li_1000, li_1002, li_1003, li_2000, li_2042, li_2043, li_2045, li_10000, li_32767, li_100000, li_1000000, li_m1, li_m1b, ob_s, lt1_e, se_l, se_r, if_true, if_false, true_and, and_true, false_and, and_false, st_at, i3_add, i3_mul, i3_sub, i3_lt, i3_le, i3_eq, i3_nat, m1_eqi, i3_eqm, m1_lti, m1_lei, i3_ltm, i3_lem, i3_decm, i3_dec0, nm_eqm, yr_eqm, mxor0, Nat.zero_add, if_pos, if_neg, eq_self, ne_eq, not_true_eq_false, not_false_eq_true, fM_worstAt, fM_worstAt_b5, eZ, a1, fM_worstAt_b31, e]
end WM
section LB
variable {n P w : Nat} {gX g0 : St} {tl : Nat → Bool} {mx : Nat → Nat}
theorem lookBoth (h8 : n ≤ 8) (nX : gX 2 0 = i3 n) (nM : g0 4 0 = i3 n) (XT : ∀ a, a < 8 → fX_Book_tellsOf 8 (i3 a) gX = some (i3 (if tl a = true then 1 else 0))) (XM : ∀ a, a < 8 → fX_Orders_mostAlike (i3 a) gX = some (i3 (mx a))) (MT : ∀ g1, KM g0 g1 → ∀ a, a < 8 → fM_isTold (i3 a) g1 = some (i3 (if tl a = true then 1 else 0))) (MM : ∀ g1, KM g0 g1 → ∀ a, a < 8 → ∃ g2, fM_worstAt (i3 P) (i3 a) g1 = some (i3 (mx a), g2) ∧ KM g1 g2 ∧ g2 0 0 = g1 0 0) (mxle : ∀ a, mx a ≤ 200) : lp (fX_look_L18 (i3 w) gX) fuel (m1, m1, i3 0) = some (yr (lkS tl mx n).1, lkC (lkS tl mx n)) ∧ ∃ g8, lp (fM_look_L46 (i3 P) (i3 w)) fuel (m1, m1, i3 0, g0) = some (yr (lkS tl mx n).1, lkC (lkS tl mx n), g8) ∧ KM g0 g8 ∧ g8 0 0 = g0 0 0 := by
  have step : ∀ k, lkS tl mx (k + 1) = if tl k = true then lkS tl mx k else if (lkS tl mx k).1 = 0 ∨ mx k < (lkS tl mx k).2 then (k + 1, mx k) else lkS tl mx k := fun _ => rfl
  constructor
  · obtain ⟨z, e, hz⟩ : ∃ z : Int32 × Int32, lp (fX_look_L18 (i3 w) gX) fuel (m1, m1, i3 0) = some z ∧ z = (yr (lkS tl mx n).1, lkC (lkS tl mx n)) := by
      refine lp_all (fun k z => z = (yr (lkS tl mx k).1, lkC (lkS tl mx k), i3 k)) (fun z : Int32 × Int32 => z = (yr (lkS tl mx n).1, lkC (lkS tl mx n))) n (by omega) ?_ ?_ rfl
      · rintro k z hk rfl
        refine ⟨_, ?_, rfl⟩
        have hb := lkS_le (tl := tl) mxle k
        have hm := mxle k
        have a1 := XT k (by omega)
        have a2 := XM k (by omega)
        rw [step]
        generalize lkS tl mx k = v at *
        by_cases q : tl k = true
        · rw [if_pos q] at a1 ⊢
          simp (disch := (first | omega | assumption | trivial)) only [li_0, li_1, li_2, li_3, li_4, li_5, li_6, li_7, li_8, li_9, li_10, li_11, li_12, li_13, li_14, li_15, li_16, li_17, li_18, li_19, li_20, li_21, li_22, li_23, li_24, li_25, li_26, li_27, li_28, li_29, li_30, li_31, li_32, li_33, li_34, li_35, li_36, li_37, li_38, li_39, li_40, li_41, li_42, li_43, li_44, li_45, li_46, li_47, li_48, li_49, li_50, li_51, li_52, li_53, li_54, li_55, li_56, li_57, li_58, li_59, li_60, li_63, li_64, li_72, li_76, li_77, li_91, li_93, li_96, li_97, li_99, li_108, li_109, li_120, li_122, li_150, li_200, li_255, li_400, li_426, li_600, li_900, li_999, li_1000, li_1002, li_1003, li_2000, li_2042, li_2043, li_2045, li_10000, li_32767, li_100000, li_1000000, li_m1, li_m1b, ob_s, lt1_e, se_l, se_r, if_true, if_false, true_and, and_true, false_and, and_false, st_at, i3_add, i3_mul, i3_sub, i3_lt, i3_le, i3_eq, i3_nat, m1_eqi, i3_eqm, m1_lti, m1_lei, i3_ltm, i3_lem, i3_decm, i3_dec0, nm_eqm, yr_eqm, mxor0, Nat.zero_add, if_pos, if_neg, eq_self, ne_eq, not_true_eq_false, not_false_eq_true, fX_look_L18, fX_look_b72, nX, a1]
        · rw [if_neg q] at a1 ⊢
          obtain ⟨v1, v2⟩ := v
          by_cases q0 : v1 = 0
          · rw [if_pos (Or.inl q0)]
            subst q0
            show fX_look_L18 (i3 w) gX (m1, m1, i3 k) = some (.inl (i3 k, i3 (mx k), i3 (k + 1)))
            simp (disch := (first | omega | assumption | trivial)) only [li_0, li_1, li_2, li_3, li_4, li_5, li_6, li_7, li_8, li_9, li_10, li_11, li_12, li_13, li_14, li_15, li_16, li_17, li_18, li_19, li_20, li_21, li_22, li_23, li_24, li_25, li_26, li_27, li_28, li_29, li_30, li_31, li_32, li_33, li_34, li_35, li_36, li_37, li_38, li_39, li_40, li_41, li_42, li_43, li_44, li_45, li_46, li_47, li_48, li_49, li_50, li_51, li_52, li_53, li_54, li_55, li_56, li_57, li_58, li_59, li_60, li_63, li_64, li_72, li_76, li_77, li_91, li_93, li_96, li_97, li_99, li_108, li_109, li_120, li_122, li_150, li_200, li_255, li_400, li_426, li_600, li_900, li_999, li_1000, li_1002, li_1003, li_2000, li_2042, li_2043, li_2045, li_10000, li_32767, li_100000, li_1000000, li_m1, li_m1b, ob_s, lt1_e, se_l, se_r, if_true, if_false, true_and, and_true, false_and, and_false, st_at, i3_add, i3_mul, i3_sub, i3_lt, i3_le, i3_eq, i3_nat, m1_eqi, i3_eqm, m1_lti, m1_lei, i3_ltm, i3_lem, i3_decm, i3_dec0, nm_eqm, yr_eqm, mxor0, Nat.zero_add, if_pos, if_neg, eq_self, ne_eq, not_true_eq_false, not_false_eq_true, fX_look_L18, fX_look_b72, fX_look_b65, nX, a1, a2]
          · obtain ⟨u, rfl⟩ : ∃ u, v1 = u + 1 := ⟨v1 - 1, by omega⟩
            have hb1 : u + 1 ≤ k := hb.1
            have hb2 : v2 ≤ 200 := hb.2
            by_cases q1 : mx k < v2
            · rw [if_pos (Or.inr q1)]
              show fX_look_L18 (i3 w) gX (i3 u, i3 v2, i3 k) = some (.inl (i3 k, i3 (mx k), i3 (k + 1)))
              simp (disch := (first | omega | assumption | trivial)) only [li_0, li_1, li_2, li_3, li_4, li_5, li_6, li_7, li_8, li_9, li_10, li_11, li_12, li_13, li_14, li_15, li_16, li_17, li_18, li_19, li_20, li_21, li_22, li_23, li_24, li_25, li_26, li_27, li_28, li_29, li_30, li_31, li_32, li_33, li_34, li_35, li_36, li_37, li_38, li_39, li_40, li_41, li_42, li_43, li_44, li_45, li_46, li_47, li_48, li_49, li_50, li_51, li_52, li_53, li_54, li_55, li_56, li_57, li_58, li_59, li_60, li_63, li_64, li_72, li_76, li_77, li_91, li_93, li_96, li_97, li_99, li_108, li_109, li_120, li_122, li_150, li_200, li_255, li_400, li_426, li_600, li_900, li_999, li_1000, li_1002, li_1003, li_2000, li_2042, li_2043, li_2045, li_10000, li_32767, li_100000, li_1000000, li_m1, li_m1b, ob_s, lt1_e, se_l, se_r, if_true, if_false, true_and, and_true, false_and, and_false, st_at, i3_add, i3_mul, i3_sub, i3_lt, i3_le, i3_eq, i3_nat, m1_eqi, i3_eqm, m1_lti, m1_lei, i3_ltm, i3_lem, i3_decm, i3_dec0, nm_eqm, yr_eqm, mxor0, Nat.zero_add, if_pos, if_neg, eq_self, ne_eq, not_true_eq_false, not_false_eq_true, fX_look_L18, fX_look_b72, fX_look_b65, nX, a1, a2]
            · rw [if_neg (fun z => z.elim q0 q1)]
              show fX_look_L18 (i3 w) gX (i3 u, i3 v2, i3 k) = some (.inl (i3 u, i3 v2, i3 (k + 1)))
              simp (disch := (first | omega | assumption | trivial)) only [li_0, li_1, li_2, li_3, li_4, li_5, li_6, li_7, li_8, li_9, li_10, li_11, li_12, li_13, li_14, li_15, li_16, li_17, li_18, li_19, li_20, li_21, li_22, li_23, li_24, li_25, li_26, li_27, li_28, li_29, li_30, li_31, li_32, li_33, li_34, li_35, li_36, li_37, li_38, li_39, li_40, li_41, li_42, li_43, li_44, li_45, li_46, li_47, li_48, li_49, li_50, li_51, li_52, li_53, li_54, li_55, li_56, li_57, li_58, li_59, li_60, li_63, li_64, li_72, li_76, li_77, li_91, li_93, li_96, li_97, li_99, li_108, li_109, li_120, li_122, li_150, li_200, li_255, li_400, li_426, li_600, li_900, li_999, li_1000, li_1002, li_1003, li_2000, li_2042, li_2043, li_2045, li_10000, li_32767, li_100000, li_1000000, li_m1, li_m1b, ob_s, lt1_e, se_l, se_r, if_true, if_false, true_and, and_true, false_and, and_false, st_at, i3_add, i3_mul, i3_sub, i3_lt, i3_le, i3_eq, i3_nat, m1_eqi, i3_eqm, m1_lti, m1_lei, i3_ltm, i3_lem, i3_decm, i3_dec0, nm_eqm, yr_eqm, mxor0, Nat.zero_add, if_pos, if_neg, eq_self, ne_eq, not_true_eq_false, not_false_eq_true, fX_look_L18, fX_look_b72, fX_look_b65, nX, a1, a2]
      · rintro z rfl
        refine ⟨_, ?_, rfl⟩
        simp (disch := (first | omega | assumption | trivial)) only [li_0, li_1, li_2, li_3, li_4, li_5, li_6, li_7, li_8, li_9, li_10, li_11, li_12, li_13, li_14, li_15, li_16, li_17, li_18, li_19, li_20, li_21, li_22, li_23, li_24, li_25, li_26, li_27, li_28, li_29, li_30, li_31, li_32, li_33, li_34, li_35, li_36, li_37, li_38, li_39, li_40, li_41, li_42, li_43, li_44, li_45, li_46, li_47, li_48, li_49, li_50, li_51, li_52, li_53, li_54, li_55, li_56, li_57, li_58, li_59, li_60, li_63, li_64, li_72, li_76, li_77, li_91, li_93, li_96, li_97, li_99, li_108, li_109, li_120, li_122, li_150, li_200, li_255, li_400, li_426, li_600, li_900, li_999, li_1000, li_1002, li_1003, li_2000, li_2042, li_2043, li_2045, li_10000, li_32767, li_100000, li_1000000, li_m1, li_m1b, ob_s, lt1_e, se_l, se_r, if_true, if_false, true_and, and_true, false_and, and_false, st_at, i3_add, i3_mul, i3_sub, i3_lt, i3_le, i3_eq, i3_nat, m1_eqi, i3_eqm, m1_lti, m1_lei, i3_ltm, i3_lem, i3_decm, i3_dec0, nm_eqm, yr_eqm, mxor0, Nat.zero_add, if_pos, if_neg, eq_self, ne_eq, not_true_eq_false, not_false_eq_true, fX_look_L18, nX]
    rw [hz] at e
    exact e
  · obtain ⟨z, e, g8, hz, k8, t8⟩ : ∃ z, lp (fM_look_L46 (i3 P) (i3 w)) fuel (m1, m1, i3 0, g0) = some z ∧ ∃ g8, z = (yr (lkS tl mx n).1, lkC (lkS tl mx n), g8) ∧ KM g0 g8 ∧ g8 0 0 = g0 0 0 := by
      refine lp_all (fun k z => ∃ g1, z = (yr (lkS tl mx k).1, lkC (lkS tl mx k), i3 k, g1) ∧ KM g0 g1 ∧ g1 0 0 = g0 0 0) (fun z : Int32 × Int32 × St => ∃ g8, z = (yr (lkS tl mx n).1, lkC (lkS tl mx n), g8) ∧ KM g0 g8 ∧ g8 0 0 = g0 0 0) n (by omega) ?_ ?_ ⟨g0, rfl, KM.rf, rfl⟩
      · rintro k z hk ⟨g1, rfl, k1, t1⟩
        have hb := lkS_le (tl := tl) mxle k
        have hm := mxle k
        have a1 := MT g1 k1 k (by omega)
        obtain ⟨g2, a2, k2, t2⟩ := MM g1 k1 k (by omega)
        have n1 : g1 4 0 = i3 n := (k1 4 0 (by omega)).trans nM
        rw [step]
        generalize lkS tl mx k = v at *
        by_cases q : tl k = true
        · rw [if_pos q] at a1 ⊢
          refine ⟨_, ?_, g1, rfl, k1, t1⟩
          simp (disch := (first | omega | assumption | trivial)) only [li_0, li_1, li_2, li_3, li_4, li_5, li_6, li_7, li_8, li_9, li_10, li_11, li_12, li_13, li_14, li_15, li_16, li_17, li_18, li_19, li_20, li_21, li_22, li_23, li_24, li_25, li_26, li_27, li_28, li_29, li_30, li_31, li_32, li_33, li_34, li_35, li_36, li_37, li_38, li_39, li_40, li_41, li_42, li_43, li_44, li_45, li_46, li_47, li_48, li_49, li_50, li_51, li_52, li_53, li_54, li_55, li_56, li_57, li_58, li_59, li_60, li_63, li_64, li_72, li_76, li_77, li_91, li_93, li_96, li_97, li_99, li_108, li_109, li_120, li_122, li_150, li_200, li_255, li_400, li_426, li_600, li_900, li_999, li_1000, li_1002, li_1003, li_2000, li_2042, li_2043, li_2045, li_10000, li_32767, li_100000, li_1000000, li_m1, li_m1b, ob_s, lt1_e, se_l, se_r, if_true, if_false, true_and, and_true, false_and, and_false, st_at, i3_add, i3_mul, i3_sub, i3_lt, i3_le, i3_eq, i3_nat, m1_eqi, i3_eqm, m1_lti, m1_lei, i3_ltm, i3_lem, i3_decm, i3_dec0, nm_eqm, yr_eqm, mxor0, Nat.zero_add, if_pos, if_neg, eq_self, ne_eq, not_true_eq_false, not_false_eq_true, fM_look_L46, fM_look_b100, n1, a1]
        · rw [if_neg q] at a1 ⊢
          obtain ⟨v1, v2⟩ := v
          refine ⟨_, ?_, g2, rfl, k1.tr k2, t2.trans t1⟩
          by_cases q0 : v1 = 0
          · rw [if_pos (Or.inl q0)]
            subst q0
            show fM_look_L46 (i3 P) (i3 w) (m1, m1, i3 k, g1) = some (.inl (i3 k, i3 (mx k), i3 (k + 1), g2))
            simp (disch := (first | omega | assumption | trivial)) only [li_0, li_1, li_2, li_3, li_4, li_5, li_6, li_7, li_8, li_9, li_10, li_11, li_12, li_13, li_14, li_15, li_16, li_17, li_18, li_19, li_20, li_21, li_22, li_23, li_24, li_25, li_26, li_27, li_28, li_29, li_30, li_31, li_32, li_33, li_34, li_35, li_36, li_37, li_38, li_39, li_40, li_41, li_42, li_43, li_44, li_45, li_46, li_47, li_48, li_49, li_50, li_51, li_52, li_53, li_54, li_55, li_56, li_57, li_58, li_59, li_60, li_63, li_64, li_72, li_76, li_77, li_91, li_93, li_96, li_97, li_99, li_108, li_109, li_120, li_122, li_150, li_200, li_255, li_400, li_426, li_600, li_900, li_999, li_1000, li_1002, li_1003, li_2000, li_2042, li_2043, li_2045, li_10000, li_32767, li_100000, li_1000000, li_m1, li_m1b, ob_s, lt1_e, se_l, se_r, if_true, if_false, true_and, and_true, false_and, and_false, st_at, i3_add, i3_mul, i3_sub, i3_lt, i3_le, i3_eq, i3_nat, m1_eqi, i3_eqm, m1_lti, m1_lei, i3_ltm, i3_lem, i3_decm, i3_dec0, nm_eqm, yr_eqm, mxor0, Nat.zero_add, if_pos, if_neg, eq_self, ne_eq, not_true_eq_false, not_false_eq_true, fM_look_L46, fM_look_b100, fM_look_b93, n1, a1, a2]
          · obtain ⟨u, rfl⟩ : ∃ u, v1 = u + 1 := ⟨v1 - 1, by omega⟩
            have hb1 : u + 1 ≤ k := hb.1
            have hb2 : v2 ≤ 200 := hb.2
            by_cases q1 : mx k < v2
            · rw [if_pos (Or.inr q1)]
              show fM_look_L46 (i3 P) (i3 w) (i3 u, i3 v2, i3 k, g1) = some (.inl (i3 k, i3 (mx k), i3 (k + 1), g2))
              simp (disch := (first | omega | assumption | trivial)) only [li_0, li_1, li_2, li_3, li_4, li_5, li_6, li_7, li_8, li_9, li_10, li_11, li_12, li_13, li_14, li_15, li_16, li_17, li_18, li_19, li_20, li_21, li_22, li_23, li_24, li_25, li_26, li_27, li_28, li_29, li_30, li_31, li_32, li_33, li_34, li_35, li_36, li_37, li_38, li_39, li_40, li_41, li_42, li_43, li_44, li_45, li_46, li_47, li_48, li_49, li_50, li_51, li_52, li_53, li_54, li_55, li_56, li_57, li_58, li_59, li_60, li_63, li_64, li_72, li_76, li_77, li_91, li_93, li_96, li_97, li_99, li_108, li_109, li_120, li_122, li_150, li_200, li_255, li_400, li_426, li_600, li_900, li_999, li_1000, li_1002, li_1003, li_2000, li_2042, li_2043, li_2045, li_10000, li_32767, li_100000, li_1000000, li_m1, li_m1b, ob_s, lt1_e, se_l, se_r, if_true, if_false, true_and, and_true, false_and, and_false, st_at, i3_add, i3_mul, i3_sub, i3_lt, i3_le, i3_eq, i3_nat, m1_eqi, i3_eqm, m1_lti, m1_lei, i3_ltm, i3_lem, i3_decm, i3_dec0, nm_eqm, yr_eqm, mxor0, Nat.zero_add, if_pos, if_neg, eq_self, ne_eq, not_true_eq_false, not_false_eq_true, fM_look_L46, fM_look_b100, fM_look_b93, n1, a1, a2]
            · rw [if_neg (fun z => z.elim q0 q1)]
              show fM_look_L46 (i3 P) (i3 w) (i3 u, i3 v2, i3 k, g1) = some (.inl (i3 u, i3 v2, i3 (k + 1), g2))
              simp (disch := (first | omega | assumption | trivial)) only [li_0, li_1, li_2, li_3, li_4, li_5, li_6, li_7, li_8, li_9, li_10, li_11, li_12, li_13, li_14, li_15, li_16, li_17, li_18, li_19, li_20, li_21, li_22, li_23, li_24, li_25, li_26, li_27, li_28, li_29, li_30, li_31, li_32, li_33, li_34, li_35, li_36, li_37, li_38, li_39, li_40, li_41, li_42, li_43, li_44, li_45, li_46, li_47, li_48, li_49, li_50, li_51, li_52, li_53, li_54, li_55, li_56, li_57, li_58, li_59, li_60, li_63, li_64, li_72, li_76, li_77, li_91, li_93, li_96, li_97, li_99, li_108, li_109, li_120, li_122, li_150, li_200, li_255, li_400, li_426, li_600, li_900, li_999, li_1000, li_1002, li_1003, li_2000, li_2042, li_2043, li_2045, li_10000, li_32767, li_100000, li_1000000, li_m1, li_m1b, ob_s, lt1_e, se_l, se_r, if_true, if_false, true_and, and_true, false_and, and_false, st_at, i3_add, i3_mul, i3_sub, i3_lt, i3_le, i3_eq, i3_nat, m1_eqi, i3_eqm, m1_lti, m1_lei, i3_ltm, i3_lem, i3_decm, i3_dec0, nm_eqm, yr_eqm, mxor0, Nat.zero_add, if_pos, if_neg, eq_self, ne_eq, not_true_eq_false, not_false_eq_true, fM_look_L46, fM_look_b100, fM_look_b93, n1, a1, a2]
      · rintro z ⟨g1, rfl, k1, t1⟩
        have n1 : g1 4 0 = i3 n := (k1 4 0 (by omega)).trans nM
        refine ⟨_, ?_, g1, rfl, k1, t1⟩
        simp (disch := (first | omega | assumption | trivial)) only [li_0, li_1, li_2, li_3, li_4, li_5, li_6, li_7, li_8, li_9, li_10, li_11, li_12, li_13, li_14, li_15, li_16, li_17, li_18, li_19, li_20, li_21, li_22, li_23, li_24, li_25, li_26, li_27, li_28, li_29, li_30, li_31, li_32, li_33, li_34, li_35, li_36, li_37, li_38, li_39, li_40, li_41, li_42, li_43, li_44, li_45, li_46, li_47, li_48, li_49, li_50, li_51, li_52, li_53, li_54, li_55, li_56, li_57, li_58, li_59, li_60, li_63, li_64, li_72, li_76, li_77, li_91, li_93, li_96, li_97, li_99, li_108, li_109, li_120, li_122, li_150, li_200, li_255, li_400, li_426, li_600, li_900, li_999, li_1000, li_1002, li_1003, li_2000, li_2042, li_2043, li_2045, li_10000, li_32767, li_100000, li_1000000, li_m1, li_m1b, ob_s, lt1_e, se_l, se_r, if_true, if_false, true_and, and_true, false_and, and_false, st_at, i3_add, i3_mul, i3_sub, i3_lt, i3_le, i3_eq, i3_nat, m1_eqi, i3_eqm, m1_lti, m1_lei, i3_ltm, i3_lem, i3_decm, i3_dec0, nm_eqm, yr_eqm, mxor0, Nat.zero_add, if_pos, if_neg, eq_self, ne_eq, not_true_eq_false, not_false_eq_true, fM_look_L46, n1]
    rw [hz] at e
    exact ⟨g8, e, k8, t8⟩
end LB
theorem S_look : Sim_look R := by
  intro gX xX gM xM x1 x2 hR
  obtain ⟨W, n, N, K, F, D, U, T, Y, d, hX, hM, hY, hW, h6, h7⟩ := id hR.2.2.2
  have h8 := hX.2.2.1.1
  have nX := hX.2.2.2.1.1
  obtain ⟨g0, hg0⟩ : ∃ g0, g0 = st gM 0 0 (i3 0) := ⟨_, rfl⟩
  have t0 : g0 0 0 = i3 0 := by rw [hg0, st_eq]
  have k0 : KM gM g0 := by rw [hg0]; exact KM.thrown
  have hR0 : R gX xX g0 xM := hR.fr KX.rf k0
  have hM0 : EMd W n N K F D U T Y 16 g0 := hM.frK k0
  have nM := hM0.1.2.2.2.1.1
  obtain ⟨l, A, V, B, l8, lX, lM, b1, b2⟩ := id h6
  rcases ordCls hX hM0 x1 x2 with ⟨P, S, m, w, hP, hS, hmS, hm, hw, rfl, rfl, eO', eI, gA, eA, kA, dA, oA⟩ | ⟨⟨gA, kA, eA⟩, hO⟩
  · have hXA : ECs W n N K F (D, U, T, Y) 10 gA := hX.frK kA
    have hok := firstL_ok hmS hm
    have hfS := hok.2
    have hfn : ∀ k, k < m → oF (firstL S) k < n := fun k hk => by
      have z := hfS k hk
      have z2 : (P &&& msk (fun p => decide (T p = 0)) n).testBit (oF (firstL S) k) = true := by rw [← hS]; exact z
      rw [Nat.testBit_and, msk_bit, Bool.and_eq_true, Bool.and_eq_true] at z2
      exact of_decide_eq_true z2.2.1
    obtain ⟨t, ht, ht0, ht1⟩ := seq_end hm ⟨_, _, _, _, _, rfl⟩ hok.1
    obtain ⟨g7, e7, I7⟩ := tryX (s := (D, U, T, Y)) (A := A) (V := V) (B := B) hXA hm dA oA hfn (by rw [kA 8 1 (by omega)]; exact lX) l8 (fun k hk => ⟨(b1 k hk).2.2.1, (b1 k hk).2.2.2.2⟩) (fun q p hp => by rw [kA 35 p (by omega)]; exact b2 q p hp) ht ht0 ht1
    have k7 : KX gX g7 := kA.tr I7.1
    have lM0 : g0 0 31 = i3 l := (k0 0 31 (by omega)).trans lM
    have b1M : ∀ k, k < l → g0 (362 + k) 0 = i3 (A k) ∧ g0 (362 + k) 1 = i3 (V k) ∧ A k < n ∧ V k ≤ 8 := fun k hk => ⟨(k0 _ _ (by omega)).trans (b1 k hk).1, (k0 _ _ (by omega)).trans (b1 k hk).2.1, (b1 k hk).2.2.1, (b1 k hk).2.2.2.1⟩
    have hMs : EMs W n N K F (D, U, T, Y) 16 g0 := hM0
    have hS0 : fM_look (i3 P) (i3 w) gM = fM_look_b46 (i3 P) (i3 w) m1 m1 (i3 0) g0 := by
      simp (disch := (first | omega | assumption | trivial)) only [li_0, li_1, li_2, li_3, li_4, li_5, li_6, li_7, li_8, li_9, li_10, li_11, li_12, li_13, li_14, li_15, li_16, li_17, li_18, li_19, li_20, li_21, li_22, li_23, li_24, li_25, li_26, li_27, li_28, li_29, li_30, li_31, li_32, li_33, li_34, li_35, li_36, li_37, li_38, li_39, li_40, li_41, li_42, li_43, li_44, li_45, li_46, li_47, li_48, li_49, li_50, li_51, li_52, li_53, li_54, li_55, li_56, li_57, li_58, li_59, li_60, li_63, li_64, li_72, li_76, li_77, li_91, li_93, li_96, li_97, li_99, li_108, li_109, li_120, li_122, li_150, li_200, li_255, li_400, li_426, li_600, li_900, li_999, li_1000, li_1002, li_1003, li_2000, li_2042, li_2043, li_2045, li_10000, li_32767, li_100000, li_1000000, li_m1, li_m1b, ob_s, lt1_e, se_l, se_r, if_true, if_false, true_and, and_true, false_and, and_false, st_at, i3_add, i3_mul, i3_sub, i3_lt, i3_le, i3_eq, i3_nat, m1_eqi, i3_eqm, m1_lti, m1_lei, i3_ltm, i3_lem, i3_decm, i3_dec0, nm_eqm, yr_eqm, mxor0, Nat.zero_add, if_pos, if_neg, eq_self, ne_eq, not_true_eq_false, not_false_eq_true, fM_look, hg0.symm, eO', eI, fM_look_b28, badY, t0]
    have hS1 : fX_look (i3 P) (i3 w) gX = fX_look_b18 (i3 w) m1 m1 (i3 0) g7 := by
      simp (disch := (first | omega | assumption | trivial)) only [li_0, li_1, li_2, li_3, li_4, li_5, li_6, li_7, li_8, li_9, li_10, li_11, li_12, li_13, li_14, li_15, li_16, li_17, li_18, li_19, li_20, li_21, li_22, li_23, li_24, li_25, li_26, li_27, li_28, li_29, li_30, li_31, li_32, li_33, li_34, li_35, li_36, li_37, li_38, li_39, li_40, li_41, li_42, li_43, li_44, li_45, li_46, li_47, li_48, li_49, li_50, li_51, li_52, li_53, li_54, li_55, li_56, li_57, li_58, li_59, li_60, li_63, li_64, li_72, li_76, li_77, li_91, li_93, li_96, li_97, li_99, li_108, li_109, li_120, li_122, li_150, li_200, li_255, li_400, li_426, li_600, li_900, li_999, li_1000, li_1002, li_1003, li_2000, li_2042, li_2043, li_2045, li_10000, li_32767, li_100000, li_1000000, li_m1, li_m1b, ob_s, lt1_e, se_l, se_r, if_true, if_false, true_and, and_true, false_and, and_false, st_at, i3_add, i3_mul, i3_sub, i3_lt, i3_le, i3_eq, i3_nat, m1_eqi, i3_eqm, m1_lti, m1_lei, i3_ltm, i3_lem, i3_decm, i3_dec0, nm_eqm, yr_eqm, mxor0, Nat.zero_add, if_pos, if_neg, eq_self, ne_eq, not_true_eq_false, not_false_eq_true, fX_look, eA, e7]
    obtain ⟨mx, hmx⟩ : ∃ mx : Nat → Nat, mx = fun a => mxS (fun v => ccS (rO W n N K F (D, U, T, Y) S m A V l) (pO W n N K F (D, U, T, Y) S m) a v (t + 1)) 9 := ⟨_, rfl⟩
    obtain ⟨tl, htl⟩ : ∃ tl : Nat → Bool, tl = fun a => decide (0 < l ∧ B a ≠ 0) := ⟨_, rfl⟩
    have mxle : ∀ a, mx a ≤ 200 := fun a => by
      rw [hmx]
      exact mxS_le (fun v => Nat.le_trans (ccS_le _ _ _ _ _) (by omega)) 9
    have n7 : g7 2 0 = i3 n := (k7 2 0 (by omega)).trans nX
    have XT : ∀ a, a < 8 → fX_Book_tellsOf 8 (i3 a) g7 = some (i3 (if tl a = true then 1 else 0)) := fun a ha => by
      rw [tellsX (A := A) (B := B) (by rw [k7 8 1 (by omega)]; exact lX) l8 (fun q p hp => by rw [k7 35 p (by omega)]; exact b2 q p hp) ha, htl]
      by_cases q : 0 < l ∧ B a ≠ 0
      · rw [if_pos q, if_pos (decide_eq_true q)]
      · rw [if_neg q, if_neg (fun z => q (of_decide_eq_true z))]
    have XM : ∀ a, a < 8 → fX_Orders_mostAlike (i3 a) g7 = some (i3 (mx a)) := fun a ha => by
      rw [hmx]
      exact mostX ha (fun v hv => I7.2.2.2.2.2.2 a ha v hv) (fun v => Nat.le_trans (ccS_le _ _ _ _ _) (by omega))
    have MT : ∀ g1, KM g0 g1 → ∀ a, a < 8 → fM_isTold (i3 a) g1 = some (i3 (if tl a = true then 1 else 0)) := fun g1 k1 a ha => by
      rw [toldM (A := A) (B := B) (V := V) (n := n) (l := l) (by rw [k1 0 31 (by omega)]; exact lM0) l8 h8 (fun k hk => ⟨by rw [k1 (362 + k) 0 (by omega)]; exact (b1M k hk).1, (b1 k hk).2.2.1, (b1 k hk).2.2.2.2⟩) ha (fun q => (b2 q a ha).2.1), htl]
      by_cases q : 0 < l ∧ B a ≠ 0
      · rw [if_pos q, if_pos (decide_eq_true q)]
      · rw [if_neg q, if_neg (fun z => q (of_decide_eq_true z))]
    have MM : ∀ g1, KM g0 g1 → ∀ a, a < 8 → ∃ g2, fM_worstAt (i3 P) (i3 a) g1 = some (i3 (mx a), g2) ∧ KM g1 g2 ∧ g2 0 0 = g1 0 0 := fun g1 k1 a ha => by
      rw [hmx]
      have hMk : EMs W n N K F (D, U, T, Y) 16 g1 := hM0.frK k1
      exact worstM (s := (D, U, T, Y)) (A := A) (V := V) (t := t) hMk hP hS hmS hm hfn (by rw [k1 0 31 (by omega)]; exact lM0) l8 (fun k hk => by rw [k1 (362 + k) 0 (by omega), k1 (362 + k) 1 (by omega)]; exact b1M k hk) ht0 ht1 ht ha
    have tR : R g7 xX g0 xM := hR0.fr k7 KM.rf
    clear I7 eO' eI htl hmx e7 oA
    obtain ⟨eX, g8, eM8, k8, t8⟩ := lookBoth (w := w) h8 n7 nM XT XM MT MM mxle
    have hRR : R g7 xX g8 xM := tR.fr KX.rf k8
    have t8' : g8 0 0 = i3 0 := by rw [t8]; exact t0
    generalize lkS tl mx n = v at *
    rcases (show w = 0 ∨ w = 1 by omega) with rfl | rfl
    · refine ⟨(.inr (yr v.1), g7), (yr v.1, g8), ?_, ?_, hRR, okR t8'⟩
      · rw [hS1]
        simp (disch := (first | omega | assumption | trivial)) only [li_0, li_1, li_2, li_3, li_4, li_5, li_6, li_7, li_8, li_9, li_10, li_11, li_12, li_13, li_14, li_15, li_16, li_17, li_18, li_19, li_20, li_21, li_22, li_23, li_24, li_25, li_26, li_27, li_28, li_29, li_30, li_31, li_32, li_33, li_34, li_35, li_36, li_37, li_38, li_39, li_40, li_41, li_42, li_43, li_44, li_45, li_46, li_47, li_48, li_49, li_50, li_51, li_52, li_53, li_54, li_55, li_56, li_57, li_58, li_59, li_60, li_63, li_64, li_72, li_76, li_77, li_91, li_93, li_96, li_97, li_99, li_108, li_109, li_120, li_122, li_150, li_200, li_255, li_400, li_426, li_600, li_900, li_999, li_1000, li_1002, li_1003, li_2000, li_2042, li_2043, li_2045, li_10000, li_32767, li_100000, li_1000000, li_m1, li_m1b, ob_s, lt1_e, se_l, se_r, if_true, if_false, true_and, and_true, false_and, and_false, st_at, i3_add, i3_mul, i3_sub, i3_lt, i3_le, i3_eq, i3_nat, m1_eqi, i3_eqm, m1_lti, m1_lei, i3_ltm, i3_lem, i3_decm, i3_dec0, nm_eqm, yr_eqm, mxor0, Nat.zero_add, if_pos, if_neg, eq_self, ne_eq, not_true_eq_false, not_false_eq_true, fX_look_b18, eX]
      · rw [hS0]
        simp (disch := (first | omega | assumption | trivial)) only [li_0, li_1, li_2, li_3, li_4, li_5, li_6, li_7, li_8, li_9, li_10, li_11, li_12, li_13, li_14, li_15, li_16, li_17, li_18, li_19, li_20, li_21, li_22, li_23, li_24, li_25, li_26, li_27, li_28, li_29, li_30, li_31, li_32, li_33, li_34, li_35, li_36, li_37, li_38, li_39, li_40, li_41, li_42, li_43, li_44, li_45, li_46, li_47, li_48, li_49, li_50, li_51, li_52, li_53, li_54, li_55, li_56, li_57, li_58, li_59, li_60, li_63, li_64, li_72, li_76, li_77, li_91, li_93, li_96, li_97, li_99, li_108, li_109, li_120, li_122, li_150, li_200, li_255, li_400, li_426, li_600, li_900, li_999, li_1000, li_1002, li_1003, li_2000, li_2042, li_2043, li_2045, li_10000, li_32767, li_100000, li_1000000, li_m1, li_m1b, ob_s, lt1_e, se_l, se_r, if_true, if_false, true_and, and_true, false_and, and_false, st_at, i3_add, i3_mul, i3_sub, i3_lt, i3_le, i3_eq, i3_nat, m1_eqi, i3_eqm, m1_lti, m1_lei, i3_ltm, i3_lem, i3_decm, i3_dec0, nm_eqm, yr_eqm, mxor0, Nat.zero_add, if_pos, if_neg, eq_self, ne_eq, not_true_eq_false, not_false_eq_true, fM_look_b46, eM8]
    · refine ⟨(.inr (lkC v), g7), (lkC v, g8), ?_, ?_, hRR, okR t8'⟩
      · rw [hS1]
        simp (disch := (first | omega | assumption | trivial)) only [li_0, li_1, li_2, li_3, li_4, li_5, li_6, li_7, li_8, li_9, li_10, li_11, li_12, li_13, li_14, li_15, li_16, li_17, li_18, li_19, li_20, li_21, li_22, li_23, li_24, li_25, li_26, li_27, li_28, li_29, li_30, li_31, li_32, li_33, li_34, li_35, li_36, li_37, li_38, li_39, li_40, li_41, li_42, li_43, li_44, li_45, li_46, li_47, li_48, li_49, li_50, li_51, li_52, li_53, li_54, li_55, li_56, li_57, li_58, li_59, li_60, li_63, li_64, li_72, li_76, li_77, li_91, li_93, li_96, li_97, li_99, li_108, li_109, li_120, li_122, li_150, li_200, li_255, li_400, li_426, li_600, li_900, li_999, li_1000, li_1002, li_1003, li_2000, li_2042, li_2043, li_2045, li_10000, li_32767, li_100000, li_1000000, li_m1, li_m1b, ob_s, lt1_e, se_l, se_r, if_true, if_false, true_and, and_true, false_and, and_false, st_at, i3_add, i3_mul, i3_sub, i3_lt, i3_le, i3_eq, i3_nat, m1_eqi, i3_eqm, m1_lti, m1_lei, i3_ltm, i3_lem, i3_decm, i3_dec0, nm_eqm, yr_eqm, mxor0, Nat.zero_add, if_pos, if_neg, eq_self, ne_eq, not_true_eq_false, not_false_eq_true, fX_look_b18, eX]
      · rw [hS0]
        simp (disch := (first | omega | assumption | trivial)) only [li_0, li_1, li_2, li_3, li_4, li_5, li_6, li_7, li_8, li_9, li_10, li_11, li_12, li_13, li_14, li_15, li_16, li_17, li_18, li_19, li_20, li_21, li_22, li_23, li_24, li_25, li_26, li_27, li_28, li_29, li_30, li_31, li_32, li_33, li_34, li_35, li_36, li_37, li_38, li_39, li_40, li_41, li_42, li_43, li_44, li_45, li_46, li_47, li_48, li_49, li_50, li_51, li_52, li_53, li_54, li_55, li_56, li_57, li_58, li_59, li_60, li_63, li_64, li_72, li_76, li_77, li_91, li_93, li_96, li_97, li_99, li_108, li_109, li_120, li_122, li_150, li_200, li_255, li_400, li_426, li_600, li_900, li_999, li_1000, li_1002, li_1003, li_2000, li_2042, li_2043, li_2045, li_10000, li_32767, li_100000, li_1000000, li_m1, li_m1b, ob_s, lt1_e, se_l, se_r, if_true, if_false, true_and, and_true, false_and, and_false, st_at, i3_add, i3_mul, i3_sub, i3_lt, i3_le, i3_eq, i3_nat, m1_eqi, i3_eqm, m1_lti, m1_lei, i3_ltm, i3_lem, i3_decm, i3_dec0, nm_eqm, yr_eqm, mxor0, Nat.zero_add, if_pos, if_neg, eq_self, ne_eq, not_true_eq_false, not_false_eq_true, fM_look_b46, eM8]
  · have eM : ∀ z1 z2 : Int32, fM_look_b23 z1 z2 g0 = some (i3 0, st (st g0 0 0 (i3 1)) 2 1 (g0 2 1 + i3 1)) := fun z1 z2 => by
      simp (disch := (first | omega | assumption | trivial)) only [li_0, li_1, li_2, li_3, li_4, li_5, li_6, li_7, li_8, li_9, li_10, li_11, li_12, li_13, li_14, li_15, li_16, li_17, li_18, li_19, li_20, li_21, li_22, li_23, li_24, li_25, li_26, li_27, li_28, li_29, li_30, li_31, li_32, li_33, li_34, li_35, li_36, li_37, li_38, li_39, li_40, li_41, li_42, li_43, li_44, li_45, li_46, li_47, li_48, li_49, li_50, li_51, li_52, li_53, li_54, li_55, li_56, li_57, li_58, li_59, li_60, li_63, li_64, li_72, li_76, li_77, li_91, li_93, li_96, li_97, li_99, li_108, li_109, li_120, li_122, li_150, li_200, li_255, li_400, li_426, li_600, li_900, li_999, li_1000, li_1002, li_1003, li_2000, li_2042, li_2043, li_2045, li_10000, li_32767, li_100000, li_1000000, li_m1, li_m1b, ob_s, lt1_e, se_l, se_r, if_true, if_false, true_and, and_true, false_and, and_false, st_at, i3_add, i3_mul, i3_sub, i3_lt, i3_le, i3_eq, i3_nat, m1_eqi, i3_eqm, m1_lti, m1_lei, i3_ltm, i3_lem, i3_decm, i3_dec0, nm_eqm, yr_eqm, mxor0, Nat.zero_add, if_pos, if_neg, eq_self, ne_eq, not_true_eq_false, not_false_eq_true, fM_look_b23, fM_look_b28, badN, t0]
    refine ⟨(.inl 1, st gA 0 18 (gA 0 18 + i3 1)), (i3 0, st (st g0 0 0 (i3 1)) 2 1 (g0 2 1 + i3 1)), ?_, ?_, ref11 (hR0.fr kA KM.rf) _⟩
    · simp (disch := (first | omega | assumption | trivial)) only [li_0, li_1, li_2, li_3, li_4, li_5, li_6, li_7, li_8, li_9, li_10, li_11, li_12, li_13, li_14, li_15, li_16, li_17, li_18, li_19, li_20, li_21, li_22, li_23, li_24, li_25, li_26, li_27, li_28, li_29, li_30, li_31, li_32, li_33, li_34, li_35, li_36, li_37, li_38, li_39, li_40, li_41, li_42, li_43, li_44, li_45, li_46, li_47, li_48, li_49, li_50, li_51, li_52, li_53, li_54, li_55, li_56, li_57, li_58, li_59, li_60, li_63, li_64, li_72, li_76, li_77, li_91, li_93, li_96, li_97, li_99, li_108, li_109, li_120, li_122, li_150, li_200, li_255, li_400, li_426, li_600, li_900, li_999, li_1000, li_1002, li_1003, li_2000, li_2042, li_2043, li_2045, li_10000, li_32767, li_100000, li_1000000, li_m1, li_m1b, ob_s, lt1_e, se_l, se_r, if_true, if_false, true_and, and_true, false_and, and_false, st_at, i3_add, i3_mul, i3_sub, i3_lt, i3_le, i3_eq, i3_nat, m1_eqi, i3_eqm, m1_lti, m1_lei, i3_ltm, i3_lem, i3_decm, i3_dec0, nm_eqm, yr_eqm, mxor0, Nat.zero_add, if_pos, if_neg, eq_self, ne_eq, not_true_eq_false, not_false_eq_true, fX_look, eA]
    · rcases hO with hO | ⟨hO, hI⟩
      · simp (disch := (first | omega | assumption | trivial)) only [li_0, li_1, li_2, li_3, li_4, li_5, li_6, li_7, li_8, li_9, li_10, li_11, li_12, li_13, li_14, li_15, li_16, li_17, li_18, li_19, li_20, li_21, li_22, li_23, li_24, li_25, li_26, li_27, li_28, li_29, li_30, li_31, li_32, li_33, li_34, li_35, li_36, li_37, li_38, li_39, li_40, li_41, li_42, li_43, li_44, li_45, li_46, li_47, li_48, li_49, li_50, li_51, li_52, li_53, li_54, li_55, li_56, li_57, li_58, li_59, li_60, li_63, li_64, li_72, li_76, li_77, li_91, li_93, li_96, li_97, li_99, li_108, li_109, li_120, li_122, li_150, li_200, li_255, li_400, li_426, li_600, li_900, li_999, li_1000, li_1002, li_1003, li_2000, li_2042, li_2043, li_2045, li_10000, li_32767, li_100000, li_1000000, li_m1, li_m1b, ob_s, lt1_e, se_l, se_r, if_true, if_false, true_and, and_true, false_and, and_false, st_at, i3_add, i3_mul, i3_sub, i3_lt, i3_le, i3_eq, i3_nat, m1_eqi, i3_eqm, m1_lti, m1_lei, i3_ltm, i3_lem, i3_decm, i3_dec0, nm_eqm, yr_eqm, mxor0, Nat.zero_add, if_pos, if_neg, eq_self, ne_eq, not_true_eq_false, not_false_eq_true, fM_look, hg0.symm, hO, eM]
      · simp (disch := (first | omega | assumption | trivial)) only [li_0, li_1, li_2, li_3, li_4, li_5, li_6, li_7, li_8, li_9, li_10, li_11, li_12, li_13, li_14, li_15, li_16, li_17, li_18, li_19, li_20, li_21, li_22, li_23, li_24, li_25, li_26, li_27, li_28, li_29, li_30, li_31, li_32, li_33, li_34, li_35, li_36, li_37, li_38, li_39, li_40, li_41, li_42, li_43, li_44, li_45, li_46, li_47, li_48, li_49, li_50, li_51, li_52, li_53, li_54, li_55, li_56, li_57, li_58, li_59, li_60, li_63, li_64, li_72, li_76, li_77, li_91, li_93, li_96, li_97, li_99, li_108, li_109, li_120, li_122, li_150, li_200, li_255, li_400, li_426, li_600, li_900, li_999, li_1000, li_1002, li_1003, li_2000, li_2042, li_2043, li_2045, li_10000, li_32767, li_100000, li_1000000, li_m1, li_m1b, ob_s, lt1_e, se_l, se_r, if_true, if_false, true_and, and_true, false_and, and_false, st_at, i3_add, i3_mul, i3_sub, i3_lt, i3_le, i3_eq, i3_nat, m1_eqi, i3_eqm, m1_lti, m1_lei, i3_ltm, i3_lem, i3_decm, i3_dec0, nm_eqm, yr_eqm, mxor0, Nat.zero_add, if_pos, if_neg, eq_self, ne_eq, not_true_eq_false, not_false_eq_true, fM_look, hg0.symm, hO, hI, eM]
