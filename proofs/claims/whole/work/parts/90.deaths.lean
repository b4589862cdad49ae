/-! PURE: orders of deaths: the first order, the deaths, the book -/
theorem ORD.cg {row m : Nat} {f h : Nat → Nat} {g : St} (o : ORD row m f g) (e : ∀ k, k < m → f k = h k) : ORD row m h g := fun k hk => by rw [← e k hk]; exact o k hk
theorem oF_nx {m : Nat} {l : List Nat} {k : Nat} (hk : k < 5) : oF (nxL m l) k = nxF m (oF l) k := by
  unfold oF nxL
  rcases (show k = 0 ∨ k = 1 ∨ k = 2 ∨ k = 3 ∨ k = 4 by omega) with rfl | rfl | rfl | rfl | rfl <;> rfl
theorem swp_all {Q : Nat → Prop} {f : Nat → Nat} {m i j : Nat} (h : ∀ k, k < m → Q (f k)) (hi : i < m) (hj : j < m) : ∀ k, k < m → Q (swp f i j k) := fun k hk => by
  unfold swp updN
  by_cases q : k = j
  · rw [if_pos q]; exact h i hi
  · rw [if_neg q]
    by_cases q2 : k = i
    · rw [if_pos q2]; exact h j hj
    · rw [if_neg q2]; exact h k hk
theorem rvN_all {Q : Nat → Prop} {m : Nat} : ∀ d (f : Nat → Nat) a b, (∀ k, k < m → Q (f k)) → b < m → ∀ k, k < m → Q (rvN d f a b k)
  | 0, f, a, b, h, hb, k, hk => h k hk
  | d + 1, f, a, b, h, hb, k, hk => by
    show Q ((if a < b then rvN d (swp f a b) (a + 1) (b - 1) else f) k)
    by_cases q : a < b
    · rw [if_pos q]
      exact rvN_all d _ _ _ (swp_all h (by omega) hb) (by omega) k hk
    · rw [if_neg q]; exact h k hk
theorem fjI_le (f : Nat → Nat) (i : Nat) : ∀ k, fjI f i k ≤ k
  | 0 => Nat.le_refl _
  | k + 1 => by
    have h := fjI_le f i k
    show (if f (k + 1) < f i then fjI f i k else k + 1) ≤ k + 1
    by_cases q : f (k + 1) < f i
    · rw [if_pos q]; omega
    · rw [if_neg q]; omega
theorem nxF_all {Q : Nat → Prop} {f : Nat → Nat} {m : Nat} (h : ∀ k, k < m → Q (f k)) : ∀ k, k < m → Q (nxF m f k) := fun k hk => by
  have h1 := fiI_le f (m - 1)
  have h2 := fjI_le f (fiI f (m - 1) - 1) (m - 1)
  exact rvN_all 3 _ _ _ (swp_all h (by omega) (by omega)) (by omega) k hk
theorem seq_all {Q : Nat → Prop} {m : Nat} (hm : m ≤ 5) {l : List Nat} (h : ∀ k, k < m → Q (oF l k)) : ∀ j k, k < m → Q (oF (seqL m l j) k)
  | 0, k, hk => h k hk
  | j + 1, k, hk => by
    show Q (oF (nxL m (seqL m l j)) k)
    rw [oF_nx (by omega)]
    exact nxF_all (fun k hk => seq_all hm h j k hk) k hk
/-- the person of a rank -/
def selN (S r : Nat) : Nat → Nat
  | 0 => 0
  | k + 1 => if S.testBit k = true ∧ rkk S k = r then k else selN S r k
theorem selN_is {S q : Nat} (hq : S.testBit q = true) : ∀ k, q < k → selN S (rkk S q) k = q
  | 0, h => absurd h (Nat.not_lt_zero q)
  | k + 1, h => by
    show (if S.testBit k = true ∧ rkk S k = rkk S q then k else selN S (rkk S q) k) = q
    by_cases z : S.testBit k = true ∧ rkk S k = rkk S q
    · rw [if_pos z]; exact rkk_inj z.1 hq z.2
    · rw [if_neg z]
      by_cases e : q = k
      · exact absurd ⟨by rw [← e]; exact hq, by rw [← e]⟩ z
      · exact selN_is hq k (by omega)
theorem selN_no {S r : Nat} : ∀ k, (∀ q, q < k → S.testBit q = true → rkk S q ≠ r) → selN S r k = 0
  | 0, _ => rfl
  | k + 1, h => by
    show (if S.testBit k = true ∧ rkk S k = r then k else selN S r k) = 0
    rw [if_neg (fun z => h k (by omega) z.1 z.2)]
    exact selN_no k (fun q hq => h q (by omega))
theorem rank_ex {S k : Nat} : ∀ m, k < rkk S m → ∃ q, q < m ∧ S.testBit q = true ∧ rkk S q = k
  | 0, h => absurd h (Nat.not_lt_zero k)
  | m + 1, h => by
    by_cases q : S.testBit m = true
    · have := rkk_T q
      by_cases e : rkk S m = k
      · exact ⟨m, by omega, q, e⟩
      · obtain ⟨x, y1, y2, y3⟩ := rank_ex m (show k < rkk S m by omega)
        exact ⟨x, by omega, y2, y3⟩
    · have := rkk_F q
      obtain ⟨x, y1, y2, y3⟩ := rank_ex m (show k < rkk S m by omega)
      exact ⟨x, by omega, y2, y3⟩
def firstL (S : Nat) : List Nat := [selN S 0 8, selN S 1 8, selN S 2 8, selN S 3 8, selN S 4 8]
theorem firstL_at (S : Nat) {k : Nat} (hk : k < 5) : oF (firstL S) k = selN S k 8 := by
  unfold oF firstL
  rcases (show k = 0 ∨ k = 1 ∨ k = 2 ∨ k = 3 ∨ k = 4 by omega) with rfl | rfl | rfl | rfl | rfl <;> rfl
theorem firstL_ok {S m : Nat} (hm : rkk S 8 = m) (h5 : m ≤ 5) : ok5 m (firstL S) ∧ ∀ k, k < m → S.testBit (oF (firstL S) k) = true := by
  have ex : ∀ k, k < m → ∃ q, q < 8 ∧ S.testBit q = true ∧ rkk S q = k := fun k hk => rank_ex 8 (by omega)
  have at' : ∀ k, k < 5 → (firstL S).getD k 0 = selN S k 8 := fun k hk => firstL_at S hk
  refine ⟨⟨fun i hi => ?_, fun i hi j hj q => ?_⟩, fun k hk => ?_⟩
  · rw [at' i hi]
    by_cases q : i < m
    · obtain ⟨p, p1, p2, p3⟩ := ex i q
      have e := selN_is p2 8 p1
      rw [p3] at e
      rw [e]
      exact ⟨p1, fun z => by omega⟩
    · have e : selN S i 8 = 0 := selN_no 8 (fun p hp hs z => by
        have := rkk_lt hs hp
        omega)
      rw [e]
      exact ⟨by omega, fun _ => rfl⟩
  · rw [at' i (by omega), at' j (by omega)]
    obtain ⟨p, p1, p2, p3⟩ := ex i hi
    obtain ⟨r, r1, r2, r3⟩ := ex j hj
    have e1 := selN_is p2 8 p1
    have e2 := selN_is r2 8 r1
    rw [p3] at e1
    rw [r3] at e2
    rw [e1, e2]
    intro z
    rw [z, r3] at p3
    exact q p3.symm
  · rw [firstL_at S (by omega)]
    obtain ⟨p, p1, p2, p3⟩ := ex k hk
    have e := selN_is p2 8 p1
    rw [p3] at e
    rw [e]
    exact p2
/-- a state behind deaths in an order -/
def dfo (W : (Nat → Nat) → Nat) (n N : Nat) (K F : Nat → Nat) (s : AS) (f : Nat → Nat) : Nat → AS
  | 0 => s
  | k + 1 => dieS W n N K F (dfo W n N K F s f k) (f k)
section DE
variable {W : (Nat → Nat) → Nat} {n N : Nat} {K F D U T : Nat → Nat} {Y P S m : Nat} {f : Nat → Nat} {g : St} {s : AS}
theorem gatherX (h : EC W n N K F D U T Y 10 g) (hP : P < 256) (hS : S = P &&& msk (fun p => decide (T p = 0)) n) (hm : rkk S 8 = m) (h5 : m ≤ 5) : ∃ g', fX_Orders_gather 10 (i3 P) g = some (i3 1, g') ∧ KX g g' ∧ g' 13 2 = i3 m ∧ ORD 45 m (oF (firstL S)) g' := by
  have h8 := h.2.2.1.1
  have k0 : KX g (st g 13 2 (i3 0)) := fun a j q => by rw [st_at, if_neg (by omega)]
  have hl := (h.frK k0).living
  have hand := i3_and P (msk (fun p => decide (T p = 0)) n)
  rw [← hS] at hand
  have hS8 : S < 256 := by rw [hS]; exact and_lt hP
  have hbc : fX_J_bitCount (i3 S) = i3 m := by rw [fX_bc hS8]; exact congrArg i3 hm
  obtain ⟨g2, e2, f2, c2, o2⟩ : ∃ g2, lp (fX_Orders_gather_L25 10 (i3 S)) fuel (i3 0, st g 13 2 (i3 0)) = some g2 ∧ KX g g2 ∧ g2 13 2 = i3 m ∧ ∀ q, q < 8 → S.testBit q = true → g2 45 (rkk S q) = i3 q := by
    refine lp_all (fun k z => ∃ g2, z = (i3 k, g2) ∧ KX g g2 ∧ g2 13 2 = i3 (rkk S k) ∧ ∀ q, q < k → S.testBit q = true → g2 45 (rkk S q) = i3 q) (fun g2 => KX g g2 ∧ g2 13 2 = i3 m ∧ ∀ q, q < 8 → S.testBit q = true → g2 45 (rkk S q) = i3 q) 8 (by omega) ?_ ?_ ⟨_, rfl, k0, st_eq _ _ _ _, fun q hq => by omega⟩
    · rintro k z hk ⟨g2, rfl, f2, c2, o2⟩
      have hb := bit_in (m := S) (k := k) hS8 hk
      have hr := rkk_le S k
      by_cases q : S.testBit k = true
      · rw [if_pos q] at hb
        have h3 := rkk_T q
        have h4 := rkk_lt q (show k < 8 by omega)
        refine ⟨(i3 (k + 1), st (st g2 45 (rkk S k) (i3 k)) 13 2 (i3 (rkk S k + 1))), ?_, _, rfl, f2.tr (KX.tr (kxW (p := 45) (i := rkk S k) (v := i3 k) (by omega)) (fun a j q => by rw [st_at, if_neg (by omega)])), by rw [st_eq, h3], fun p hp hs => ?_⟩
        · have c3 : st g2 45 (rkk S k) (i3 k) 13 2 = i3 (rkk S k) := by rw [st_ne (by omega)]; exact c2
          simp (disch := (first | omega | assumption | trivial)) only [li_0, li_1, li_2, li_3, li_4, li_5, li_6, li_7, li_8, li_9, li_10, li_11, li_12, li_13, li_14, li_15, li_16, li_17, li_18, li_19, li_20, li_21, li_22, li_23, li_24, li_25, li_26, li_27, li_28, li_29, li_30, li_31, li_32, li_33, li_34, li_35, li_36, li_37, li_38, li_39, li_40, li_41, li_42, li_43, li_44, li_45, li_46, li_47, li_48, li_49, li_50, li_51, li_52, li_53, li_54, li_55, li_56, li_57, li_58, li_59, li_60, li_63, li_64, li_72, li_76, li_77, li_91, li_93, li_96, li_97, li_99, li_108, li_109, li_120, li_122, li_150, li_200, li_255, li_400, li_426, li_600, li_900, li_999, li_1000, li_1002, li_1003, li_2000, li_2042, li_2043, li_2045, li_10000, li_32767, li_100000, li_1000000, li_m1, li_m1b, ob_s, lt1_e, se_l, se_r, if_true, if_false, true_and, and_true, false_and, and_false, st_at, i3_add, i3_mul, i3_sub, i3_lt, i3_le, i3_eq, i3_nat, m1_eqi, i3_eqm, m1_lti, m1_lei, i3_ltm, i3_lem, i3_decm, i3_dec0, nm_eqm, yr_eqm, mxor0, Nat.zero_add, if_pos, if_neg, eq_self, ne_eq, not_true_eq_false, not_false_eq_true, fX_Orders_gather_L25, fX_Orders_gather_b65, hb, c2, pu45, c3]
        · rw [st_ne (by omega), st_at]
          by_cases e : p = k
          · subst e; rw [if_pos ⟨rfl, rfl⟩]
          · have := rkk_lt hs (show p < k by omega)
            rw [if_neg (by omega)]; exact o2 p (by omega) hs
      · rw [if_neg q] at hb
        have h3 := rkk_F q
        refine ⟨(i3 (k + 1), g2), ?_, _, rfl, f2, by rw [h3]; exact c2, fun p hp hs => ?_⟩
        · simp (disch := (first | omega | assumption | trivial)) only [li_0, li_1, li_2, li_3, li_4, li_5, li_6, li_7, li_8, li_9, li_10, li_11, li_12, li_13, li_14, li_15, li_16, li_17, li_18, li_19, li_20, li_21, li_22, li_23, li_24, li_25, li_26, li_27, li_28, li_29, li_30, li_31, li_32, li_33, li_34, li_35, li_36, li_37, li_38, li_39, li_40, li_41, li_42, li_43, li_44, li_45, li_46, li_47, li_48, li_49, li_50, li_51, li_52, li_53, li_54, li_55, li_56, li_57, li_58, li_59, li_60, li_63, li_64, li_72, li_76, li_77, li_91, li_93, li_96, li_97, li_99, li_108, li_109, li_120, li_122, li_150, li_200, li_255, li_400, li_426, li_600, li_900, li_999, li_1000, li_1002, li_1003, li_2000, li_2042, li_2043, li_2045, li_10000, li_32767, li_100000, li_1000000, li_m1, li_m1b, ob_s, lt1_e, se_l, se_r, if_true, if_false, true_and, and_true, false_and, and_false, st_at, i3_add, i3_mul, i3_sub, i3_lt, i3_le, i3_eq, i3_nat, m1_eqi, i3_eqm, m1_lti, m1_lei, i3_ltm, i3_lem, i3_decm, i3_dec0, nm_eqm, yr_eqm, mxor0, Nat.zero_add, if_pos, if_neg, eq_self, ne_eq, not_true_eq_false, not_false_eq_true, fX_Orders_gather_L25, fX_Orders_gather_b65, hb]
        · by_cases e : p = k
          · subst e; exact absurd hs q
          · exact o2 p (by omega) hs
    · rintro z ⟨g2, rfl, f2, c2, o2⟩
      rw [hm] at c2
      refine ⟨g2, ?_, f2, c2, o2⟩
      simp (disch := (first | omega | assumption | trivial)) only [li_0, li_1, li_2, li_3, li_4, li_5, li_6, li_7, li_8, li_9, li_10, li_11, li_12, li_13, li_14, li_15, li_16, li_17, li_18, li_19, li_20, li_21, li_22, li_23, li_24, li_25, li_26, li_27, li_28, li_29, li_30, li_31, li_32, li_33, li_34, li_35, li_36, li_37, li_38, li_39, li_40, li_41, li_42, li_43, li_44, li_45, li_46, li_47, li_48, li_49, li_50, li_51, li_52, li_53, li_54, li_55, li_56, li_57, li_58, li_59, li_60, li_63, li_64, li_72, li_76, li_77, li_91, li_93, li_96, li_97, li_99, li_108, li_109, li_120, li_122, li_150, li_200, li_255, li_400, li_426, li_600, li_900, li_999, li_1000, li_1002, li_1003, li_2000, li_2042, li_2043, li_2045, li_10000, li_32767, li_100000, li_1000000, li_m1, li_m1b, ob_s, lt1_e, se_l, se_r, if_true, if_false, true_and, and_true, false_and, and_false, st_at, i3_add, i3_mul, i3_sub, i3_lt, i3_le, i3_eq, i3_nat, m1_eqi, i3_eqm, m1_lti, m1_lei, i3_ltm, i3_lem, i3_decm, i3_dec0, nm_eqm, yr_eqm, mxor0, Nat.zero_add, if_pos, if_neg, eq_self, ne_eq, not_true_eq_false, not_false_eq_true, fX_Orders_gather_L25]
  refine ⟨g2, ?_, f2, c2, fun k hk => ?_⟩
  · simp (disch := (first | omega | assumption | trivial)) only [li_0, li_1, li_2, li_3, li_4, li_5, li_6, li_7, li_8, li_9, li_10, li_11, li_12, li_13, li_14, li_15, li_16, li_17, li_18, li_19, li_20, li_21, li_22, li_23, li_24, li_25, li_26, li_27, li_28, li_29, li_30, li_31, li_32, li_33, li_34, li_35, li_36, li_37, li_38, li_39, li_40, li_41, li_42, li_43, li_44, li_45, li_46, li_47, li_48, li_49, li_50, li_51, li_52, li_53, li_54, li_55, li_56, li_57, li_58, li_59, li_60, li_63, li_64, li_72, li_76, li_77, li_91, li_93, li_96, li_97, li_99, li_108, li_109, li_120, li_122, li_150, li_200, li_255, li_400, li_426, li_600, li_900, li_999, li_1000, li_1002, li_1003, li_2000, li_2042, li_2043, li_2045, li_10000, li_32767, li_100000, li_1000000, li_m1, li_m1b, ob_s, lt1_e, se_l, se_r, if_true, if_false, true_and, and_true, false_and, and_false, st_at, i3_add, i3_mul, i3_sub, i3_lt, i3_le, i3_eq, i3_nat, m1_eqi, i3_eqm, m1_lti, m1_lei, i3_ltm, i3_lem, i3_decm, i3_dec0, nm_eqm, yr_eqm, mxor0, Nat.zero_add, if_pos, if_neg, eq_self, ne_eq, not_true_eq_false, not_false_eq_true, fX_Orders_gather, fX_Orders_gather_b25, hl, hand, hbc, e2]
  · have hs := (firstL_ok hm h5).2 k hk
    have hb := (firstL_ok hm h5).1.1 k (by omega)
    obtain ⟨q, q1, q2, q3⟩ := rank_ex (S := S) (k := k) 8 (by omega)
    have e := selN_is q2 8 q1
    rw [q3] at e
    have e4 := o2 q q1 q2
    rw [q3] at e4
    rw [firstL_at S (by omega), e]
    exact ⟨e4, q1⟩
theorem gatherNo (h : EC W n N K F D U T Y 10 g) (hP : P < 256) (hS : S = P &&& msk (fun p => decide (T p = 0)) n) (hm : 5 < rkk S 8) : fX_Orders_gather 10 (i3 P) g = some (i3 0, st g 13 2 (i3 0)) := by
  have k0 : KX g (st g 13 2 (i3 0)) := fun a j q => by rw [st_at, if_neg (by omega)]
  have hl := (h.frK k0).living
  have hand := i3_and P (msk (fun p => decide (T p = 0)) n)
  rw [← hS] at hand
  have hS8 : S < 256 := by rw [hS]; exact and_lt hP
  have hbc : fX_J_bitCount (i3 S) = i3 (rkk S 8) := by rw [fX_bc hS8]; rfl
  have hr := rkk_le S 8
  simp (disch := (first | omega | assumption | trivial)) only [li_0, li_1, li_2, li_3, li_4, li_5, li_6, li_7, li_8, li_9, li_10, li_11, li_12, li_13, li_14, li_15, li_16, li_17, li_18, li_19, li_20, li_21, li_22, li_23, li_24, li_25, li_26, li_27, li_28, li_29, li_30, li_31, li_32, li_33, li_34, li_35, li_36, li_37, li_38, li_39, li_40, li_41, li_42, li_43, li_44, li_45, li_46, li_47, li_48, li_49, li_50, li_51, li_52, li_53, li_54, li_55, li_56, li_57, li_58, li_59, li_60, li_63, li_64, li_72, li_76, li_77, li_91, li_93, li_96, li_97, li_99, li_108, li_109, li_120, li_122, li_150, li_200, li_255, li_400, li_426, li_600, li_900, li_999, li_1000, li_1002, li_1003, li_2000, li_2042, li_2043, li_2045, li_10000, li_32767, li_100000, li_1000000, li_m1, li_m1b, ob_s, lt1_e, se_l, se_r, if_true, if_false, true_and, and_true, false_and, and_false, st_at, i3_add, i3_mul, i3_sub, i3_lt, i3_le, i3_eq, i3_nat, m1_eqi, i3_eqm, m1_lti, m1_lei, i3_ltm, i3_lem, i3_decm, i3_dec0, nm_eqm, yr_eqm, mxor0, Nat.zero_add, if_pos, if_neg, eq_self, ne_eq, not_true_eq_false, not_false_eq_true, fX_Orders_gather, hl, hand, hbc]
theorem firstM (h : EMd W n N K F D U T Y 16 g) (hP : P < 256) (hS : S = P &&& msk (fun p => decide (T p = 0)) n) (hm : rkk S 8 = m) (h5 : m ≤ 5) : ∃ g', fM_firstOrder (i3 P) g = some g' ∧ KM g g' ∧ (∀ p i, p ≠ 23 → ¬ (p = 0 ∧ i = 45) → g' p i = g p i) ∧ g' 0 45 = i3 m ∧ ORD 23 m (oF (firstL S)) g' := by
  have h8 := h.1.2.2.1.1
  have hn := h.1.2.2.2.1.1
  have hL := h.1.2.1.2.2.1
  have hand := i3_and P (msk (fun p => decide (T p = 0)) n)
  rw [← hS] at hand
  have hS8 : S < 256 := by rw [hS]; exact and_lt hP
  have hSn : ∀ q, S.testBit q = true → q < n := fun q z => by
    rw [hS, Nat.testBit_and, msk_bit] at z
    simp at z
    exact z.2.1
  have hrn : rkk S n = m := by
    have key : ∀ d, rkk S (n + d) = rkk S n := fun d => by
      induction d with
      | zero => rfl
      | succ d ih =>
        have q : ¬ S.testBit (n + d) = true := fun z => by have := hSn _ z; omega
        have := rkk_F q
        rw [Nat.add_assoc] at this
        omega
    have := key (8 - n)
    rw [show n + (8 - n) = 8 by omega] at this
    omega
  obtain ⟨g2, e2, f2, c2, o2⟩ : ∃ g2 : St, lp (fM_firstOrder_L7 (i3 P)) fuel (i3 0, st g 0 45 (i3 0)) = some g2 ∧ (∀ p i, p ≠ 23 → ¬ (p = 0 ∧ i = 45) → g2 p i = g p i) ∧ g2 0 45 = i3 m ∧ ∀ q, q < n → S.testBit q = true → g2 23 (rkk S q) = i3 q := by
    refine lp_all (fun k z => ∃ g2 : St, z = (i3 k, g2) ∧ (∀ p i, p ≠ 23 → ¬ (p = 0 ∧ i = 45) → g2 p i = g p i) ∧ g2 0 45 = i3 (rkk S k) ∧ ∀ q, q < k → S.testBit q = true → g2 23 (rkk S q) = i3 q) (fun g2 : St => (∀ p i, p ≠ 23 → ¬ (p = 0 ∧ i = 45) → g2 p i = g p i) ∧ g2 0 45 = i3 m ∧ ∀ q, q < n → S.testBit q = true → g2 23 (rkk S q) = i3 q) n (by omega) ?_ ?_ ⟨_, rfl, fun p i a b => by rw [st_at, if_neg b], st_eq _ _ _ _, fun q hq => by omega⟩
    · rintro k z hk ⟨g2, rfl, f2, c2, o2⟩
      have hb := has_gen hS8 (show k < 8 by omega)
      have hr := rkk_le S k
      have hn2 : g2 4 0 = i3 n := (f2 4 0 (by omega) (by omega)).trans hn
      have hL2 : g2 16 24 = i3 (msk (fun p => decide (T p = 0)) n) := (f2 16 24 (by omega) (by omega)).trans hL
      by_cases q : S.testBit k = true
      · rw [if_pos q] at hb
        have h3 := rkk_T q
        have h4 := rkk_lt q (show k < 8 by omega)
        refine ⟨(i3 (k + 1), st (st g2 23 (rkk S k) (i3 k)) 0 45 (i3 (rkk S k + 1))), ?_, _, rfl, fun p i a b => by rw [st_at, if_neg b, st_ne a]; exact f2 p i a b, by rw [st_eq, h3], fun p hp hs => ?_⟩
        · simp (disch := (first | omega | assumption | trivial)) only [li_0, li_1, li_2, li_3, li_4, li_5, li_6, li_7, li_8, li_9, li_10, li_11, li_12, li_13, li_14, li_15, li_16, li_17, li_18, li_19, li_20, li_21, li_22, li_23, li_24, li_25, li_26, li_27, li_28, li_29, li_30, li_31, li_32, li_33, li_34, li_35, li_36, li_37, li_38, li_39, li_40, li_41, li_42, li_43, li_44, li_45, li_46, li_47, li_48, li_49, li_50, li_51, li_52, li_53, li_54, li_55, li_56, li_57, li_58, li_59, li_60, li_63, li_64, li_72, li_76, li_77, li_91, li_93, li_96, li_97, li_99, li_108, li_109, li_120, li_122, li_150, li_200, li_255, li_400, li_426, li_600, li_900, li_999, li_1000, li_1002, li_1003, li_2000, li_2042, li_2043, li_2045, li_10000, li_32767, li_100000, li_1000000, li_m1, li_m1b, ob_s, lt1_e, se_l, se_r, if_true, if_false, true_and, and_true, false_and, and_false, st_at, i3_add, i3_mul, i3_sub, i3_lt, i3_le, i3_eq, i3_nat, m1_eqi, i3_eqm, m1_lti, m1_lei, i3_ltm, i3_lem, i3_decm, i3_dec0, nm_eqm, yr_eqm, mxor0, Nat.zero_add, if_pos, if_neg, eq_self, ne_eq, not_true_eq_false, not_false_eq_true, fM_firstOrder_L7, fM_firstOrder_b56, hn2, hL2, hand, hb, c2]
        · rw [st_ne (by omega), st_at]
          by_cases e : p = k
          · subst e; rw [if_pos ⟨rfl, rfl⟩]
          · have := rkk_lt hs (show p < k by omega)
            rw [if_neg (by omega)]; exact o2 p (by omega) hs
      · rw [if_neg q] at hb
        have h3 := rkk_F q
        refine ⟨(i3 (k + 1), g2), ?_, _, rfl, f2, by rw [h3]; exact c2, fun p hp hs => ?_⟩
        · simp (disch := (first | omega | assumption | trivial)) only [li_0, li_1, li_2, li_3, li_4, li_5, li_6, li_7, li_8, li_9, li_10, li_11, li_12, li_13, li_14, li_15, li_16, li_17, li_18, li_19, li_20, li_21, li_22, li_23, li_24, li_25, li_26, li_27, li_28, li_29, li_30, li_31, li_32, li_33, li_34, li_35, li_36, li_37, li_38, li_39, li_40, li_41, li_42, li_43, li_44, li_45, li_46, li_47, li_48, li_49, li_50, li_51, li_52, li_53, li_54, li_55, li_56, li_57, li_58, li_59, li_60, li_63, li_64, li_72, li_76, li_77, li_91, li_93, li_96, li_97, li_99, li_108, li_109, li_120, li_122, li_150, li_200, li_255, li_400, li_426, li_600, li_900, li_999, li_1000, li_1002, li_1003, li_2000, li_2042, li_2043, li_2045, li_10000, li_32767, li_100000, li_1000000, li_m1, li_m1b, ob_s, lt1_e, se_l, se_r, if_true, if_false, true_and, and_true, false_and, and_false, st_at, i3_add, i3_mul, i3_sub, i3_lt, i3_le, i3_eq, i3_nat, m1_eqi, i3_eqm, m1_lti, m1_lei, i3_ltm, i3_lem, i3_decm, i3_dec0, nm_eqm, yr_eqm, mxor0, Nat.zero_add, if_pos, if_neg, eq_self, ne_eq, not_true_eq_false, not_false_eq_true, fM_firstOrder_L7, fM_firstOrder_b56, hn2, hL2, hand, hb]
        · by_cases e : p = k
          · subst e; exact absurd hs q
          · exact o2 p (by omega) hs
    · rintro z ⟨g2, rfl, f2, c2, o2⟩
      rw [hrn] at c2
      have hn2 : g2 4 0 = i3 n := (f2 4 0 (by omega) (by omega)).trans hn
      refine ⟨g2, ?_, f2, c2, o2⟩
      simp (disch := (first | omega | assumption | trivial)) only [li_0, li_1, li_2, li_3, li_4, li_5, li_6, li_7, li_8, li_9, li_10, li_11, li_12, li_13, li_14, li_15, li_16, li_17, li_18, li_19, li_20, li_21, li_22, li_23, li_24, li_25, li_26, li_27, li_28, li_29, li_30, li_31, li_32, li_33, li_34, li_35, li_36, li_37, li_38, li_39, li_40, li_41, li_42, li_43, li_44, li_45, li_46, li_47, li_48, li_49, li_50, li_51, li_52, li_53, li_54, li_55, li_56, li_57, li_58, li_59, li_60, li_63, li_64, li_72, li_76, li_77, li_91, li_93, li_96, li_97, li_99, li_108, li_109, li_120, li_122, li_150, li_200, li_255, li_400, li_426, li_600, li_900, li_999, li_1000, li_1002, li_1003, li_2000, li_2042, li_2043, li_2045, li_10000, li_32767, li_100000, li_1000000, li_m1, li_m1b, ob_s, lt1_e, se_l, se_r, if_true, if_false, true_and, and_true, false_and, and_false, st_at, i3_add, i3_mul, i3_sub, i3_lt, i3_le, i3_eq, i3_nat, m1_eqi, i3_eqm, m1_lti, m1_lei, i3_ltm, i3_lem, i3_decm, i3_dec0, nm_eqm, yr_eqm, mxor0, Nat.zero_add, if_pos, if_neg, eq_self, ne_eq, not_true_eq_false, not_false_eq_true, fM_firstOrder_L7, hn2]
  refine ⟨g2, ?_, fun p i a => f2 p i (by omega) (by omega), f2, c2, fun k hk => ?_⟩
  · simp (disch := (first | omega | assumption | trivial)) only [li_0, li_1, li_2, li_3, li_4, li_5, li_6, li_7, li_8, li_9, li_10, li_11, li_12, li_13, li_14, li_15, li_16, li_17, li_18, li_19, li_20, li_21, li_22, li_23, li_24, li_25, li_26, li_27, li_28, li_29, li_30, li_31, li_32, li_33, li_34, li_35, li_36, li_37, li_38, li_39, li_40, li_41, li_42, li_43, li_44, li_45, li_46, li_47, li_48, li_49, li_50, li_51, li_52, li_53, li_54, li_55, li_56, li_57, li_58, li_59, li_60, li_63, li_64, li_72, li_76, li_77, li_91, li_93, li_96, li_97, li_99, li_108, li_109, li_120, li_122, li_150, li_200, li_255, li_400, li_426, li_600, li_900, li_999, li_1000, li_1002, li_1003, li_2000, li_2042, li_2043, li_2045, li_10000, li_32767, li_100000, li_1000000, li_m1, li_m1b, ob_s, lt1_e, se_l, se_r, if_true, if_false, true_and, and_true, false_and, and_false, st_at, i3_add, i3_mul, i3_sub, i3_lt, i3_le, i3_eq, i3_nat, m1_eqi, i3_eqm, m1_lti, m1_lei, i3_ltm, i3_lem, i3_decm, i3_dec0, nm_eqm, yr_eqm, mxor0, Nat.zero_add, if_pos, if_neg, eq_self, ne_eq, not_true_eq_false, not_false_eq_true, fM_firstOrder, fM_firstOrder_b7, e2]
  · obtain ⟨q, q1, q2, q3⟩ := rank_ex (S := S) (k := k) 8 (by omega)
    have e := selN_is q2 8 q1
    rw [q3] at e
    have e4 := o2 q (hSn q q2) q2
    rw [q3] at e4
    rw [firstL_at S (by omega), e]
    exact ⟨e4, q1⟩
theorem deathsX (h : ECs W n N K F s 11 g) (hm : m ≤ 5) (ho : ORD 45 m f g) (hf : ∀ k, k < m → f k < n) (hd : g 13 2 = i3 m) (x2 : Int32) : ∃ g', lp (fX_tryOrders_L34 x2) fuel (i3 0, g) = some g' ∧ ECs W n N K F (dfo W n N K F s f m) 11 g' ∧ FX2 11 g g' := by
  refine lp_all (fun k z => ∃ g1, z = (i3 k, g1) ∧ ECs W n N K F (dfo W n N K F s f k) 11 g1 ∧ FX2 11 g g1) (fun g1 => ECs W n N K F (dfo W n N K F s f m) 11 g1 ∧ FX2 11 g g1) m (by omega) ?_ ?_ ⟨g, rfl, h, FX2.rf⟩
  · rintro k z hk ⟨g1, rfl, h1, f1⟩
    have hd1 : g1 13 2 = i3 m := by rw [f1 13 (by omega) (by omega) (by omega) (by omega) (by omega) (by omega)]; exact hd
    have ho1 : g1 45 k = i3 (f k) := by rw [f1 45 (by omega) (by omega) (by omega) (by omega) (by omega) (by omega)]; exact (ho k hk).1
    obtain ⟨g2, e2, h2, f2⟩ := EC.die h1 (hf k hk) (i3 0)
    refine ⟨(i3 (k + 1), g2), ?_, g2, rfl, h2, f1.tr f2⟩
    simp (disch := (first | omega | assumption | trivial)) only [li_0, li_1, li_2, li_3, li_4, li_5, li_6, li_7, li_8, li_9, li_10, li_11, li_12, li_13, li_14, li_15, li_16, li_17, li_18, li_19, li_20, li_21, li_22, li_23, li_24, li_25, li_26, li_27, li_28, li_29, li_30, li_31, li_32, li_33, li_34, li_35, li_36, li_37, li_38, li_39, li_40, li_41, li_42, li_43, li_44, li_45, li_46, li_47, li_48, li_49, li_50, li_51, li_52, li_53, li_54, li_55, li_56, li_57, li_58, li_59, li_60, li_63, li_64, li_72, li_76, li_77, li_91, li_93, li_96, li_97, li_99, li_108, li_109, li_120, li_122, li_150, li_200, li_255, li_400, li_426, li_600, li_900, li_999, li_1000, li_1002, li_1003, li_2000, li_2042, li_2043, li_2045, li_10000, li_32767, li_100000, li_1000000, li_m1, li_m1b, ob_s, lt1_e, se_l, se_r, if_true, if_false, true_and, and_true, false_and, and_false, st_at, i3_add, i3_mul, i3_sub, i3_lt, i3_le, i3_eq, i3_nat, m1_eqi, i3_eqm, m1_lti, m1_lei, i3_ltm, i3_lem, i3_decm, i3_dec0, nm_eqm, yr_eqm, mxor0, Nat.zero_add, if_pos, if_neg, eq_self, ne_eq, not_true_eq_false, not_false_eq_true, fX_tryOrders_L34, hd1, at45, ho1, e2]
  · rintro z ⟨g1, rfl, h1, f1⟩
    have hd1 : g1 13 2 = i3 m := by rw [f1 13 (by omega) (by omega) (by omega) (by omega) (by omega) (by omega)]; exact hd
    refine ⟨g1, ?_, h1, f1⟩
    simp (disch := (first | omega | assumption | trivial)) only [li_0, li_1, li_2, li_3, li_4, li_5, li_6, li_7, li_8, li_9, li_10, li_11, li_12, li_13, li_14, li_15, li_16, li_17, li_18, li_19, li_20, li_21, li_22, li_23, li_24, li_25, li_26, li_27, li_28, li_29, li_30, li_31, li_32, li_33, li_34, li_35, li_36, li_37, li_38, li_39, li_40, li_41, li_42, li_43, li_44, li_45, li_46, li_47, li_48, li_49, li_50, li_51, li_52, li_53, li_54, li_55, li_56, li_57, li_58, li_59, li_60, li_63, li_64, li_72, li_76, li_77, li_91, li_93, li_96, li_97, li_99, li_108, li_109, li_120, li_122, li_150, li_200, li_255, li_400, li_426, li_600, li_900, li_999, li_1000, li_1002, li_1003, li_2000, li_2042, li_2043, li_2045, li_10000, li_32767, li_100000, li_1000000, li_m1, li_m1b, ob_s, lt1_e, se_l, se_r, if_true, if_false, true_and, and_true, false_and, and_false, st_at, i3_add, i3_mul, i3_sub, i3_lt, i3_le, i3_eq, i3_nat, m1_eqi, i3_eqm, m1_lti, m1_lei, i3_ltm, i3_lem, i3_decm, i3_dec0, nm_eqm, yr_eqm, mxor0, Nat.zero_add, if_pos, if_neg, eq_self, ne_eq, not_true_eq_false, not_false_eq_true, fX_tryOrders_L34, hd1]
theorem deathsM (h : EMs W n N K F s 16 g) (hm : m ≤ 5) (ho : ORD 23 m f g) (hf : ∀ k, k < m → f k < n) (hd : g 0 45 = i3 m) : ∃ g', fM_dieSo g = some g' ∧ EMs W n N K F (dfo W n N K F s f m) 17 g' ∧ FM2 17 g g' := by
  obtain ⟨g0, e0, h0, f0⟩ := EMd.copy17 h
  obtain ⟨g', e, h1, f1⟩ : ∃ g', lp fM_dieSo_L13 fuel (i3 0, g0) = some g' ∧ EMs W n N K F (dfo W n N K F s f m) 17 g' ∧ FM2 17 g g' := by
    refine lp_all (fun k z => ∃ g1, z = (i3 k, g1) ∧ EMs W n N K F (dfo W n N K F s f k) 17 g1 ∧ FM2 17 g g1) (fun g1 => EMs W n N K F (dfo W n N K F s f m) 17 g1 ∧ FM2 17 g g1) m (by omega) ?_ ?_ ⟨g0, rfl, h0, f0⟩
    · rintro k z hk ⟨g1, rfl, h1, f1⟩
      have hd1 : g1 0 45 = i3 m := by rw [f1 0 (by omega) (by omega) (by omega)]; exact hd
      have ho1 : g1 23 k = i3 (f k) := by rw [f1 23 (by omega) (by omega) (by omega)]; exact (ho k hk).1
      obtain ⟨g2, e2, h2, f2⟩ := EMd.dies h1 (hf k hk)
      refine ⟨(i3 (k + 1), g2), ?_, g2, rfl, h2, f1.tr f2⟩
      simp (disch := (first | omega | assumption | trivial)) only [li_0, li_1, li_2, li_3, li_4, li_5, li_6, li_7, li_8, li_9, li_10, li_11, li_12, li_13, li_14, li_15, li_16, li_17, li_18, li_19, li_20, li_21, li_22, li_23, li_24, li_25, li_26, li_27, li_28, li_29, li_30, li_31, li_32, li_33, li_34, li_35, li_36, li_37, li_38, li_39, li_40, li_41, li_42, li_43, li_44, li_45, li_46, li_47, li_48, li_49, li_50, li_51, li_52, li_53, li_54, li_55, li_56, li_57, li_58, li_59, li_60, li_63, li_64, li_72, li_76, li_77, li_91, li_93, li_96, li_97, li_99, li_108, li_109, li_120, li_122, li_150, li_200, li_255, li_400, li_426, li_600, li_900, li_999, li_1000, li_1002, li_1003, li_2000, li_2042, li_2043, li_2045, li_10000, li_32767, li_100000, li_1000000, li_m1, li_m1b, ob_s, lt1_e, se_l, se_r, if_true, if_false, true_and, and_true, false_and, and_false, st_at, i3_add, i3_mul, i3_sub, i3_lt, i3_le, i3_eq, i3_nat, m1_eqi, i3_eqm, m1_lti, m1_lei, i3_ltm, i3_lem, i3_decm, i3_dec0, nm_eqm, yr_eqm, mxor0, Nat.zero_add, if_pos, if_neg, eq_self, ne_eq, not_true_eq_false, not_false_eq_true, fM_dieSo_L13, hd1, ho1, e2]
    · rintro z ⟨g1, rfl, h1, f1⟩
      have hd1 : g1 0 45 = i3 m := by rw [f1 0 (by omega) (by omega) (by omega)]; exact hd
      refine ⟨g1, ?_, h1, f1⟩
      simp (disch := (first | omega | assumption | trivial)) only [li_0, li_1, li_2, li_3, li_4, li_5, li_6, li_7, li_8, li_9, li_10, li_11, li_12, li_13, li_14, li_15, li_16, li_17, li_18, li_19, li_20, li_21, li_22, li_23, li_24, li_25, li_26, li_27, li_28, li_29, li_30, li_31, li_32, li_33, li_34, li_35, li_36, li_37, li_38, li_39, li_40, li_41, li_42, li_43, li_44, li_45, li_46, li_47, li_48, li_49, li_50, li_51, li_52, li_53, li_54, li_55, li_56, li_57, li_58, li_59, li_60, li_63, li_64, li_72, li_76, li_77, li_91, li_93, li_96, li_97, li_99, li_108, li_109, li_120, li_122, li_150, li_200, li_255, li_400, li_426, li_600, li_900, li_999, li_1000, li_1002, li_1003, li_2000, li_2042, li_2043, li_2045, li_10000, li_32767, li_100000, li_1000000, li_m1, li_m1b, ob_s, lt1_e, se_l, se_r, if_true, if_false, true_and, and_true, false_and, and_false, st_at, i3_add, i3_mul, i3_sub, i3_lt, i3_le, i3_eq, i3_nat, m1_eqi, i3_eqm, m1_lti, m1_lei, i3_ltm, i3_lem, i3_decm, i3_dec0, nm_eqm, yr_eqm, mxor0, Nat.zero_add, if_pos, if_neg, eq_self, ne_eq, not_true_eq_false, not_false_eq_true, fM_dieSo_L13, hd1]
  refine ⟨g', ?_, h1, f1⟩
  simp (disch := (first | omega | assumption | trivial)) only [li_0, li_1, li_2, li_3, li_4, li_5, li_6, li_7, li_8, li_9, li_10, li_11, li_12, li_13, li_14, li_15, li_16, li_17, li_18, li_19, li_20, li_21, li_22, li_23, li_24, li_25, li_26, li_27, li_28, li_29, li_30, li_31, li_32, li_33, li_34, li_35, li_36, li_37, li_38, li_39, li_40, li_41, li_42, li_43, li_44, li_45, li_46, li_47, li_48, li_49, li_50, li_51, li_52, li_53, li_54, li_55, li_56, li_57, li_58, li_59, li_60, li_63, li_64, li_72, li_76, li_77, li_91, li_93, li_96, li_97, li_99, li_108, li_109, li_120, li_122, li_150, li_200, li_255, li_400, li_426, li_600, li_900, li_999, li_1000, li_1002, li_1003, li_2000, li_2042, li_2043, li_2045, li_10000, li_32767, li_100000, li_1000000, li_m1, li_m1b, ob_s, lt1_e, se_l, se_r, if_true, if_false, true_and, and_true, false_and, and_false, st_at, i3_add, i3_mul, i3_sub, i3_lt, i3_le, i3_eq, i3_nat, m1_eqi, i3_eqm, m1_lti, m1_lei, i3_ltm, i3_lem, i3_decm, i3_dec0, nm_eqm, yr_eqm, mxor0, Nat.zero_add, if_pos, if_neg, eq_self, ne_eq, not_true_eq_false, not_false_eq_true, fM_dieSo, fM_dieSo_b13, e0, e]
end DE
