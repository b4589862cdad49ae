/-! PURE: a state of the peninsula, its questions; the reference's answers -/
def st8 (U : Nat → Nat) (a : Nat) : Nat := cntB (fun p => decide (U p = a)) 8
theorem st8_le (U : Nat → Nat) (a : Nat) : st8 U a ≤ 8 := cntB_le _ 8
/-- bounds of a state: debts, names, years of death, the year -/
def BD (n : Nat) (D U T : Nat → Nat) (Y : Nat) : Prop := n ≤ 8 ∧ (∀ p, p < 8 → D p ≤ 999) ∧ (∀ p, p < 8 → U p = 8 ∨ U p < n) ∧ (∀ p, p < 8 → T p ≤ 2000) ∧ Y ≤ 1900 ∧ ∀ p, n ≤ p → p < 8 → D p = 0 ∧ U p = 8 ∧ T p = 0
/-- what a law asks about -/
def fcts (n : Nat) (K F D U T : Nat → Nat) (Y a b : Nat) : Nat → Nat := fun i => if i = 0 then K a else if i = 1 then D a else if i = 2 then st8 U a else if i = 3 then (if (F a).testBit b then 1 else 0) else if i = 4 then D b else if i = 5 then n - cntB (fun p => decide (T p = 0)) n else if i = 6 then Y else a
def wl (W : (Nat → Nat) → Nat) (n : Nat) (K F D U T : Nat → Nat) (Y a b : Nat) : Nat := W (fcts n K F D U T Y a b)
abbrev ldb (W : (Nat → Nat) → Nat) (n N : Nat) (K F D U T : Nat → Nat) (Y a b : Nat) : Prop := T a = 0 ∧ ¬ a = b ∧ st8 U a < N ∧ 10 ≤ wl W n K F D U T Y a b
/-- the lender among the first k, and what it wills -/
def lnP (W : (Nat → Nat) → Nat) (n N : Nat) (K F D U T : Nat → Nat) (Y b : Nat) : Nat → Nat × Nat
  | 0 => (8, 9)
  | k + 1 => if ldb W n N K F D U T Y k b ∧ (lnP W n N K F D U T Y b k).2 < wl W n K F D U T Y k b then (k, wl W n K F D U T Y k b) else lnP W n N K F D U T Y b k
def lnd (W : (Nat → Nat) → Nat) (n N : Nat) (K F D U T : Nat → Nat) (Y b : Nat) : Nat := (lnP W n N K F D U T Y b n).1
/-- bounds of what a law is told -/
theorem fcts_le {n : Nat} {K F D U T : Nat → Nat} {Y a b : Nat} (hB : BD n D U T Y) (hK : K a ≤ 9) (ha : a < n) (hb : b < n) : ∀ i, fcts n K F D U T Y a b i ≤ 2000 := fun i => by
  obtain ⟨h8, hD, hU, hT, hY, h0⟩ := hB
  have h1 := hD a (by omega)
  have h2 := hD b (by omega)
  have h3 := st8_le U a
  unfold fcts
  by_cases e0 : i = 0
  · rw [if_pos e0]; omega
  by_cases e1 : i = 1
  · rw [if_neg e0, if_pos e1]; omega
  by_cases e2 : i = 2
  · rw [if_neg e0, if_neg e1, if_pos e2]; omega
  by_cases e3 : i = 3
  · rw [if_neg e0, if_neg e1, if_neg e2, if_pos e3]
    by_cases q : (F a).testBit b = true
    · rw [if_pos q]; omega
    · rw [if_neg q]; omega
  by_cases e4 : i = 4
  · rw [if_neg e0, if_neg e1, if_neg e2, if_neg e3, if_pos e4]; omega
  by_cases e5 : i = 5
  · rw [if_neg e0, if_neg e1, if_neg e2, if_neg e3, if_neg e4, if_pos e5]; omega
  by_cases e6 : i = 6
  · rw [if_neg e0, if_neg e1, if_neg e2, if_neg e3, if_neg e4, if_neg e5, if_pos e6]; omega
  · rw [if_neg e0, if_neg e1, if_neg e2, if_neg e3, if_neg e4, if_neg e5, if_neg e6]; omega
theorem lnP_ok (W : (Nat → Nat) → Nat) (n N : Nat) (K F D U T : Nat → Nat) (Y b : Nat) (hW : ∀ f, W f ≤ 99) : ∀ k, (((lnP W n N K F D U T Y b k).1 = 8 ∧ (lnP W n N K F D U T Y b k).2 = 9) ∨ ((lnP W n N K F D U T Y b k).1 < k ∧ 10 ≤ (lnP W n N K F D U T Y b k).2)) ∧ (lnP W n N K F D U T Y b k).2 ≤ 99
  | 0 => ⟨Or.inl ⟨rfl, rfl⟩, by show 9 ≤ 99; omega⟩
  | k + 1 => by
    have h := lnP_ok W n N K F D U T Y b hW k
    have h2 : wl W n K F D U T Y k b ≤ 99 := hW _
    rw [show lnP W n N K F D U T Y b (k + 1) = if ldb W n N K F D U T Y k b ∧ (lnP W n N K F D U T Y b k).2 < wl W n K F D U T Y k b then (k, wl W n K F D U T Y k b) else lnP W n N K F D U T Y b k from rfl]
    by_cases q : ldb W n N K F D U T Y k b ∧ (lnP W n N K F D U T Y b k).2 < wl W n K F D U T Y k b
    · rw [if_pos q]
      have q1 := q.1.2.2.2
      exact ⟨Or.inr ⟨by show k < k + 1; omega, q1⟩, h2⟩
    · rw [if_neg q]
      refine ⟨?_, h.2⟩
      rcases h.1 with h1 | h1
      · exact Or.inl h1
      · exact Or.inr ⟨by omega, h1.2⟩
/-- a state in the reference's row -/
def SM (r n : Nat) (D U T : Nat → Nat) (Y : Nat) (g : St) : Prop := (∀ p, p < 8 → g r p = i3 (D p)) ∧ (∀ p, p < 8 → g r (8 + p) = nm (U p)) ∧ g r 24 = i3 (msk (fun p => decide (T p = 0)) n) ∧ g r 25 = i3 Y
/-- the reference's land -/
def CM (n N : Nat) (K F : Nat → Nat) (g : St) : Prop := g 4 0 = i3 n ∧ g 4 1 = i3 N ∧ 1 ≤ N ∧ N ≤ 4 ∧ (∀ p, p < n → g (34 + p) 0 = i3 (K p) ∧ K p ≤ 9) ∧ ∀ p, p < n → g 8 p = i3 (F p) ∧ F p < 256
/-- the reference's law -/
def LM (W : (Nat → Nat) → Nat) (g : St) : Prop := ∀ (f : Nat → Nat) (g0 : St), (∀ i, f i ≤ 2000) → g0 0 17 = g 0 17 → (∀ p, 42 ≤ p → p < 202 → g0 p = g p) → (∀ i, i < 8 → g0 14 i = i3 (f i)) → ∃ g', fM_byLaw g0 = some (i3 (W f), g') ∧ ∀ p, p ≠ 13 → g' p = g0 p
def FM1 (g g' : St) : Prop := ∀ p, p ≠ 13 → p ≠ 14 → g' p = g p
theorem FM1.rf {g : St} : FM1 g g := fun _ _ _ => rfl
theorem FM1.tr {g g1 g2 : St} (h : FM1 g g1) (k : FM1 g1 g2) : FM1 g g2 := fun p a b => (k p a b).trans (h p a b)
def EM (W : (Nat → Nat) → Nat) (n N : Nat) (K F D U T : Nat → Nat) (Y r : Nat) (g : St) : Prop := rowM r ∧ SM r n D U T Y g ∧ BD n D U T Y ∧ CM n N K F g ∧ LM W g ∧ ∀ f, W f ≤ 99
theorem LM.fr {W : (Nat → Nat) → Nat} {g g' : St} (h : LM W g) (h0 : g' 0 17 = g 0 17) (h1 : ∀ p, 42 ≤ p → p < 202 → g' p = g p) : LM W g' := fun f g0 hf e1 e2 e3 => h f g0 hf (e1.trans h0) (fun p a b => (e2 p a b).trans (h1 p a b)) e3
theorem CM.fr {n N : Nat} {K F : Nat → Nat} {g g' : St} (h8 : n ≤ 8) (h : CM n N K F g) (h4 : g' 4 = g 4) (h5 : g' 8 = g 8) (h6 : ∀ p, p < 8 → g' (34 + p) = g (34 + p)) : CM n N K F g' := by
  obtain ⟨a1, a2, a3, a4, a5, a6⟩ := h
  refine ⟨by rw [h4]; exact a1, by rw [h4]; exact a2, a3, a4, fun p hp => ?_, fun p hp => ?_⟩
  · rw [h6 p (by omega)]; exact a5 p hp
  · rw [h5]; exact a6 p hp
theorem SM.fr {r n : Nat} {D U T : Nat → Nat} {Y : Nat} {g g' : St} (h : SM r n D U T Y g) (e : g' r = g r) : SM r n D U T Y g' := by
  obtain ⟨a1, a2, a3, a4⟩ := h
  exact ⟨fun p hp => by rw [e]; exact a1 p hp, fun p hp => by rw [e]; exact a2 p hp, by rw [e]; exact a3, by rw [e]; exact a4⟩
theorem rowM_or {r : Nat} (h : rowM r) : r = 16 ∨ r = 17 := h
section MQ
variable {W : (Nat → Nat) → Nat} {n N : Nat} {K F D U T : Nat → Nat} {Y r : Nat} {g : St}
theorem EM.fr (h : EM W n N K F D U T Y r g) {g' : St} (f : FM1 g g') : EM W n N K F D U T Y r g' := by
  obtain ⟨hr, hS, hB, hC, hL, hW⟩ := h
  have h1 := rowM_or hr
  refine ⟨hr, hS.fr (f r (by omega) (by omega)), hB, hC.fr hB.1 (f 4 (by omega) (by omega)) (f 8 (by omega) (by omega)) (fun p hp => f _ (by omega) (by omega)), hL.fr ?_ (fun p a b => f p (by omega) (by omega)), hW⟩
  rw [f 0 (by omega) (by omega)]
theorem EM.has (h : EM W n N K F D U T Y r g) {k : Nat} (hk : k < n) : fM_has (g r 24) (i3 k) = i3 (if T k = 0 then 1 else 0) := by
  obtain ⟨hr, ⟨s1, s2, s3, s4⟩, ⟨h8, hB⟩, hC, hL⟩ := h
  unfold fM_has
  have e := bit_in (m := msk (fun p => decide (T p = 0)) n) (msk_lt8 _ h8) (show k < 8 by omega)
  have e1 : ((g r 24 >>> (i3 k &&& 31)) &&& (1 : Int32)) = i3 (if T k = 0 then 1 else 0) := by
    rw [s3]
    refine e.trans ?_
    rw [msk_bit]
    by_cases q : T k = 0
    · simp [q, hk]
    · simp [q, hk]
  rw [e1]
  by_cases q : T k = 0
  · rw [if_pos q]; rfl
  · rw [if_neg q]; rfl
theorem EM.stonesOf (h : EM W n N K F D U T Y r g) {a : Nat} (ha : a < 8) : fM_stonesOf r (i3 a) g = some (i3 (msk (fun p => decide (U p = a)) n)) := by
  obtain ⟨hr, ⟨s1, s2, s3, s4⟩, ⟨h8, hB⟩, hC, hL⟩ := h
  rw [M_stonesOf hr hC.1 h8]
  refine congrArg (fun z => some (i3 z)) (msk_congr n (fun p hp => ?_))
  rw [s2 p (by omega)]
  exact decide_eq_decide.mpr (by rw [nm_eqi ha])
theorem st8_n (hB : BD n D U T Y) {a : Nat} (ha : a < 8) : cntB (fun p => decide (U p = a)) n = st8 U a := by
  obtain ⟨h8, hD, hU, hT, hY, h0⟩ := hB
  refine (cnt_more (k := n) 8 h8 (fun p h1 h2 => ?_)).symm
  have := (h0 p h1 h2).2.1
  exact decide_eq_false (by omega)
theorem EM.stones (h : EM W n N K F D U T Y r g) {a : Nat} (ha : a < 8) : fM_stones r (i3 a) g = some (i3 (st8 U a)) := by
  have hs := h.stonesOf ha
  obtain ⟨hr, ⟨s1, s2, s3, s4⟩, hB, hC, hL⟩ := h
  unfold fM_stones
  rw [hs]
  show (fM_ones _).bind _ = _
  rw [M_ones _ (msk_lt8 _ hB.1), cnt_msk _ hB.1, st8_n hB ha]
  rfl
theorem EM.debts (h : EM W n N K F D U T Y r g) : fM_debts r (i3 0) g = some (i3 (sumN D n)) := by
  obtain ⟨hr, ⟨s1, s2, s3, s4⟩, ⟨h8, hB⟩, hC, hL⟩ := h
  have hl := rowM_len hr
  have hn := hC.1
  simp only [fM_debts, fM_debts_b5, li_0, li_1, li_2, li_3, li_4, li_5, li_6, li_7, li_8, li_9, li_10, li_11, li_12, li_13, li_14, li_15, li_16, li_17, li_18, li_19, li_20, li_21, li_22, li_23, li_24, li_25, li_26, li_27, li_28, li_29, li_30, li_31, li_32, li_33, li_34, li_35, li_36, li_37, li_38, li_39, li_40, li_41, li_42, li_43, li_44, li_45, li_46, li_47, li_48, li_49, li_50, li_51, li_52, li_53, li_54, li_55, li_56, li_57, li_58, li_59, li_60, li_63, li_64, li_72, li_76, li_77, li_91, li_93, li_96, li_97, li_99, li_108, li_109, li_120, li_122, li_150, li_200, li_255, li_400, li_426, li_600, li_900, li_999, li_1000, li_1002, li_1003, li_2000, li_2042, li_2043, li_2045, li_10000, li_32767, li_100000, li_1000000, li_m1, li_m1b]
  rw [lp_sum D h8]
  · rfl
  · intro k hk
    simp (disch := (first | omega | assumption | trivial)) only [li_0, li_1, li_2, li_3, li_4, li_5, li_6, li_7, li_8, li_9, li_10, li_11, li_12, li_13, li_14, li_15, li_16, li_17, li_18, li_19, li_20, li_21, li_22, li_23, li_24, li_25, li_26, li_27, li_28, li_29, li_30, li_31, li_32, li_33, li_34, li_35, li_36, li_37, li_38, li_39, li_40, li_41, li_42, li_43, li_44, li_45, li_46, li_47, li_48, li_49, li_50, li_51, li_52, li_53, li_54, li_55, li_56, li_57, li_58, li_59, li_60, li_63, li_64, li_72, li_76, li_77, li_91, li_93, li_96, li_97, li_99, li_108, li_109, li_120, li_122, li_150, li_200, li_255, li_400, li_426, li_600, li_900, li_999, li_1000, li_1002, li_1003, li_2000, li_2042, li_2043, li_2045, li_10000, li_32767, li_100000, li_1000000, li_m1, li_m1b, ob_s, lt1_e, se_l, se_r, if_true, if_false, true_and, and_true, false_and, and_false, st_at, i3_add, i3_mul, i3_sub, i3_lt, i3_le, i3_eq, i3_nat, m1_eqi, i3_eqm, m1_lti, m1_lei, i3_ltm, i3_lem, i3_decm, i3_dec0, nm_eqm, yr_eqm, mxor0, Nat.zero_add, if_pos, if_neg, eq_self, ne_eq, not_true_eq_false, not_false_eq_true, fM_debts_L5, fM_debts_b37, fM_debts_b43, hn, hl, s1]
  · simp (disch := (first | omega | assumption | trivial)) only [li_0, li_1, li_2, li_3, li_4, li_5, li_6, li_7, li_8, li_9, li_10, li_11, li_12, li_13, li_14, li_15, li_16, li_17, li_18, li_19, li_20, li_21, li_22, li_23, li_24, li_25, li_26, li_27, li_28, li_29, li_30, li_31, li_32, li_33, li_34, li_35, li_36, li_37, li_38, li_39, li_40, li_41, li_42, li_43, li_44, li_45, li_46, li_47, li_48, li_49, li_50, li_51, li_52, li_53, li_54, li_55, li_56, li_57, li_58, li_59, li_60, li_63, li_64, li_72, li_76, li_77, li_91, li_93, li_96, li_97, li_99, li_108, li_109, li_120, li_122, li_150, li_200, li_255, li_400, li_426, li_600, li_900, li_999, li_1000, li_1002, li_1003, li_2000, li_2042, li_2043, li_2045, li_10000, li_32767, li_100000, li_1000000, li_m1, li_m1b, ob_s, lt1_e, se_l, se_r, if_true, if_false, true_and, and_true, false_and, and_false, st_at, i3_add, i3_mul, i3_sub, i3_lt, i3_le, i3_eq, i3_nat, m1_eqi, i3_eqm, m1_lti, m1_lei, i3_ltm, i3_lem, i3_decm, i3_dec0, nm_eqm, yr_eqm, mxor0, Nat.zero_add, if_pos, if_neg, eq_self, ne_eq, not_true_eq_false, not_false_eq_true, fM_debts_L5, hn]
theorem EM.debtsDead (h : EM W n N K F D U T Y r g) : fM_debts r (i3 1) g = some (i3 (sumN (fun p => if T p = 0 then 0 else D p) n)) := by
  have hh := fun k (hk : k < n) => h.has hk
  obtain ⟨hr, ⟨s1, s2, s3, s4⟩, ⟨h8, hB⟩, hC, hL⟩ := h
  have hl := rowM_len hr
  have hn := hC.1
  simp only [fM_debts, fM_debts_b5, li_0, li_1, li_2, li_3, li_4, li_5, li_6, li_7, li_8, li_9, li_10, li_11, li_12, li_13, li_14, li_15, li_16, li_17, li_18, li_19, li_20, li_21, li_22, li_23, li_24, li_25, li_26, li_27, li_28, li_29, li_30, li_31, li_32, li_33, li_34, li_35, li_36, li_37, li_38, li_39, li_40, li_41, li_42, li_43, li_44, li_45, li_46, li_47, li_48, li_49, li_50, li_51, li_52, li_53, li_54, li_55, li_56, li_57, li_58, li_59, li_60, li_63, li_64, li_72, li_76, li_77, li_91, li_93, li_96, li_97, li_99, li_108, li_109, li_120, li_122, li_150, li_200, li_255, li_400, li_426, li_600, li_900, li_999, li_1000, li_1002, li_1003, li_2000, li_2042, li_2043, li_2045, li_10000, li_32767, li_100000, li_1000000, li_m1, li_m1b]
  rw [lp_sum (fun p => if T p = 0 then 0 else D p) h8]
  · rfl
  · intro k hk
    by_cases q : T k = 0
    · simp (disch := (first | omega | assumption | trivial)) only [li_0, li_1, li_2, li_3, li_4, li_5, li_6, li_7, li_8, li_9, li_10, li_11, li_12, li_13, li_14, li_15, li_16, li_17, li_18, li_19, li_20, li_21, li_22, li_23, li_24, li_25, li_26, li_27, li_28, li_29, li_30, li_31, li_32, li_33, li_34, li_35, li_36, li_37, li_38, li_39, li_40, li_41, li_42, li_43, li_44, li_45, li_46, li_47, li_48, li_49, li_50, li_51, li_52, li_53, li_54, li_55, li_56, li_57, li_58, li_59, li_60, li_63, li_64, li_72, li_76, li_77, li_91, li_93, li_96, li_97, li_99, li_108, li_109, li_120, li_122, li_150, li_200, li_255, li_400, li_426, li_600, li_900, li_999, li_1000, li_1002, li_1003, li_2000, li_2042, li_2043, li_2045, li_10000, li_32767, li_100000, li_1000000, li_m1, li_m1b, ob_s, lt1_e, se_l, se_r, if_true, if_false, true_and, and_true, false_and, and_false, st_at, i3_add, i3_mul, i3_sub, i3_lt, i3_le, i3_eq, i3_nat, m1_eqi, i3_eqm, m1_lti, m1_lei, i3_ltm, i3_lem, i3_decm, i3_dec0, nm_eqm, yr_eqm, mxor0, Nat.zero_add, if_pos, if_neg, eq_self, ne_eq, not_true_eq_false, not_false_eq_true, fM_debts_L5, fM_debts_b37, fM_debts_b43, hn, hl, s1, hh]
    · simp (disch := (first | omega | assumption | trivial)) only [li_0, li_1, li_2, li_3, li_4, li_5, li_6, li_7, li_8, li_9, li_10, li_11, li_12, li_13, li_14, li_15, li_16, li_17, li_18, li_19, li_20, li_21, li_22, li_23, li_24, li_25, li_26, li_27, li_28, li_29, li_30, li_31, li_32, li_33, li_34, li_35, li_36, li_37, li_38, li_39, li_40, li_41, li_42, li_43, li_44, li_45, li_46, li_47, li_48, li_49, li_50, li_51, li_52, li_53, li_54, li_55, li_56, li_57, li_58, li_59, li_60, li_63, li_64, li_72, li_76, li_77, li_91, li_93, li_96, li_97, li_99, li_108, li_109, li_120, li_122, li_150, li_200, li_255, li_400, li_426, li_600, li_900, li_999, li_1000, li_1002, li_1003, li_2000, li_2042, li_2043, li_2045, li_10000, li_32767, li_100000, li_1000000, li_m1, li_m1b, ob_s, lt1_e, se_l, se_r, if_true, if_false, true_and, and_true, false_and, and_false, st_at, i3_add, i3_mul, i3_sub, i3_lt, i3_le, i3_eq, i3_nat, m1_eqi, i3_eqm, m1_lti, m1_lei, i3_ltm, i3_lem, i3_decm, i3_dec0, nm_eqm, yr_eqm, mxor0, Nat.zero_add, if_pos, if_neg, eq_self, ne_eq, not_true_eq_false, not_false_eq_true, fM_debts_L5, fM_debts_b37, fM_debts_b43, hn, hl, s1, hh]
  · simp (disch := (first | omega | assumption | trivial)) only [li_0, li_1, li_2, li_3, li_4, li_5, li_6, li_7, li_8, li_9, li_10, li_11, li_12, li_13, li_14, li_15, li_16, li_17, li_18, li_19, li_20, li_21, li_22, li_23, li_24, li_25, li_26, li_27, li_28, li_29, li_30, li_31, li_32, li_33, li_34, li_35, li_36, li_37, li_38, li_39, li_40, li_41, li_42, li_43, li_44, li_45, li_46, li_47, li_48, li_49, li_50, li_51, li_52, li_53, li_54, li_55, li_56, li_57, li_58, li_59, li_60, li_63, li_64, li_72, li_76, li_77, li_91, li_93, li_96, li_97, li_99, li_108, li_109, li_120, li_122, li_150, li_200, li_255, li_400, li_426, li_600, li_900, li_999, li_1000, li_1002, li_1003, li_2000, li_2042, li_2043, li_2045, li_10000, li_32767, li_100000, li_1000000, li_m1, li_m1b, ob_s, lt1_e, se_l, se_r, if_true, if_false, true_and, and_true, false_and, and_false, st_at, i3_add, i3_mul, i3_sub, i3_lt, i3_le, i3_eq, i3_nat, m1_eqi, i3_eqm, m1_lti, m1_lei, i3_ltm, i3_lem, i3_decm, i3_dec0, nm_eqm, yr_eqm, mxor0, Nat.zero_add, if_pos, if_neg, eq_self, ne_eq, not_true_eq_false, not_false_eq_true, fM_debts_L5, hn]
theorem EM.nameless (h : EM W n N K F D U T Y r g) : fM_nameless r g = some (i3 (msk (fun p => decide (¬ T p = 0 ∧ U p = 8)) n)) := by
  have hh := fun k (hk : k < n) => h.has hk
  obtain ⟨hr, ⟨s1, s2, s3, s4⟩, ⟨h8, hD, hU, hB⟩, hC, hL⟩ := h
  have hl := rowM_len hr
  have hn := hC.1
  simp only [fM_nameless, fM_nameless_b4, li_0, li_1, li_2, li_3, li_4, li_5, li_6, li_7, li_8, li_9, li_10, li_11, li_12, li_13, li_14, li_15, li_16, li_17, li_18, li_19, li_20, li_21, li_22, li_23, li_24, li_25, li_26, li_27, li_28, li_29, li_30, li_31, li_32, li_33, li_34, li_35, li_36, li_37, li_38, li_39, li_40, li_41, li_42, li_43, li_44, li_45, li_46, li_47, li_48, li_49, li_50, li_51, li_52, li_53, li_54, li_55, li_56, li_57, li_58, li_59, li_60, li_63, li_64, li_72, li_76, li_77, li_91, li_93, li_96, li_97, li_99, li_108, li_109, li_120, li_122, li_150, li_200, li_255, li_400, li_426, li_600, li_900, li_999, li_1000, li_1002, li_1003, li_2000, li_2042, li_2043, li_2045, li_10000, li_32767, li_100000, li_1000000, li_m1, li_m1b]
  rw [lp_msk (fun p => ¬ T p = 0 ∧ U p = 8) (fun _ => inferInstance) h8]
  · rfl
  · intro k hk
    have hu := hU k (by omega)
    by_cases q : T k = 0
    · simp (disch := (first | omega | assumption | trivial)) only [li_0, li_1, li_2, li_3, li_4, li_5, li_6, li_7, li_8, li_9, li_10, li_11, li_12, li_13, li_14, li_15, li_16, li_17, li_18, li_19, li_20, li_21, li_22, li_23, li_24, li_25, li_26, li_27, li_28, li_29, li_30, li_31, li_32, li_33, li_34, li_35, li_36, li_37, li_38, li_39, li_40, li_41, li_42, li_43, li_44, li_45, li_46, li_47, li_48, li_49, li_50, li_51, li_52, li_53, li_54, li_55, li_56, li_57, li_58, li_59, li_60, li_63, li_64, li_72, li_76, li_77, li_91, li_93, li_96, li_97, li_99, li_108, li_109, li_120, li_122, li_150, li_200, li_255, li_400, li_426, li_600, li_900, li_999, li_1000, li_1002, li_1003, li_2000, li_2042, li_2043, li_2045, li_10000, li_32767, li_100000, li_1000000, li_m1, li_m1b, ob_s, lt1_e, se_l, se_r, if_true, if_false, true_and, and_true, false_and, and_false, st_at, i3_add, i3_mul, i3_sub, i3_lt, i3_le, i3_eq, i3_nat, m1_eqi, i3_eqm, m1_lti, m1_lei, i3_ltm, i3_lem, i3_decm, i3_dec0, nm_eqm, yr_eqm, mxor0, Nat.zero_add, if_pos, if_neg, eq_self, ne_eq, not_true_eq_false, not_false_eq_true, fM_nameless_L4, fM_nameless_b42, fM_nameless_b43, hn, hl, s2, hh]
    · by_cases q2 : U k = 8
      · simp (disch := (first | omega | assumption | trivial)) only [li_0, li_1, li_2, li_3, li_4, li_5, li_6, li_7, li_8, li_9, li_10, li_11, li_12, li_13, li_14, li_15, li_16, li_17, li_18, li_19, li_20, li_21, li_22, li_23, li_24, li_25, li_26, li_27, li_28, li_29, li_30, li_31, li_32, li_33, li_34, li_35, li_36, li_37, li_38, li_39, li_40, li_41, li_42, li_43, li_44, li_45, li_46, li_47, li_48, li_49, li_50, li_51, li_52, li_53, li_54, li_55, li_56, li_57, li_58, li_59, li_60, li_63, li_64, li_72, li_76, li_77, li_91, li_93, li_96, li_97, li_99, li_108, li_109, li_120, li_122, li_150, li_200, li_255, li_400, li_426, li_600, li_900, li_999, li_1000, li_1002, li_1003, li_2000, li_2042, li_2043, li_2045, li_10000, li_32767, li_100000, li_1000000, li_m1, li_m1b, ob_s, lt1_e, se_l, se_r, if_true, if_false, true_and, and_true, false_and, and_false, st_at, i3_add, i3_mul, i3_sub, i3_lt, i3_le, i3_eq, i3_nat, m1_eqi, i3_eqm, m1_lti, m1_lei, i3_ltm, i3_lem, i3_decm, i3_dec0, nm_eqm, yr_eqm, mxor0, Nat.zero_add, if_pos, if_neg, eq_self, ne_eq, not_true_eq_false, not_false_eq_true, fM_nameless_L4, fM_nameless_b42, fM_nameless_b43, hn, hl, s2, hh, bit_sh]
      · simp (disch := (first | omega | assumption | trivial)) only [li_0, li_1, li_2, li_3, li_4, li_5, li_6, li_7, li_8, li_9, li_10, li_11, li_12, li_13, li_14, li_15, li_16, li_17, li_18, li_19, li_20, li_21, li_22, li_23, li_24, li_25, li_26, li_27, li_28, li_29, li_30, li_31, li_32, li_33, li_34, li_35, li_36, li_37, li_38, li_39, li_40, li_41, li_42, li_43, li_44, li_45, li_46, li_47, li_48, li_49, li_50, li_51, li_52, li_53, li_54, li_55, li_56, li_57, li_58, li_59, li_60, li_63, li_64, li_72, li_76, li_77, li_91, li_93, li_96, li_97, li_99, li_108, li_109, li_120, li_122, li_150, li_200, li_255, li_400, li_426, li_600, li_900, li_999, li_1000, li_1002, li_1003, li_2000, li_2042, li_2043, li_2045, li_10000, li_32767, li_100000, li_1000000, li_m1, li_m1b, ob_s, lt1_e, se_l, se_r, if_true, if_false, true_and, and_true, false_and, and_false, st_at, i3_add, i3_mul, i3_sub, i3_lt, i3_le, i3_eq, i3_nat, m1_eqi, i3_eqm, m1_lti, m1_lei, i3_ltm, i3_lem, i3_decm, i3_dec0, nm_eqm, yr_eqm, mxor0, Nat.zero_add, if_pos, if_neg, eq_self, ne_eq, not_true_eq_false, not_false_eq_true, fM_nameless_L4, fM_nameless_b42, fM_nameless_b43, hn, hl, s2, hh]
  · simp (disch := (first | omega | assumption | trivial)) only [li_0, li_1, li_2, li_3, li_4, li_5, li_6, li_7, li_8, li_9, li_10, li_11, li_12, li_13, li_14, li_15, li_16, li_17, li_18, li_19, li_20, li_21, li_22, li_23, li_24, li_25, li_26, li_27, li_28, li_29, li_30, li_31, li_32, li_33, li_34, li_35, li_36, li_37, li_38, li_39, li_40, li_41, li_42, li_43, li_44, li_45, li_46, li_47, li_48, li_49, li_50, li_51, li_52, li_53, li_54, li_55, li_56, li_57, li_58, li_59, li_60, li_63, li_64, li_72, li_76, li_77, li_91, li_93, li_96, li_97, li_99, li_108, li_109, li_120, li_122, li_150, li_200, li_255, li_400, li_426, li_600, li_900, li_999, li_1000, li_1002, li_1003, li_2000, li_2042, li_2043, li_2045, li_10000, li_32767, li_100000, li_1000000, li_m1, li_m1b, ob_s, lt1_e, se_l, se_r, if_true, if_false, true_and, and_true, false_and, and_false, st_at, i3_add, i3_mul, i3_sub, i3_lt, i3_le, i3_eq, i3_nat, m1_eqi, i3_eqm, m1_lti, m1_lei, i3_ltm, i3_lem, i3_decm, i3_dec0, nm_eqm, yr_eqm, mxor0, Nat.zero_add, if_pos, if_neg, eq_self, ne_eq, not_true_eq_false, not_false_eq_true, fM_nameless_L4, hn]
/-- the first of most debts -/
def mxd (D : Nat → Nat) : Nat → Nat
  | 0 => 8
  | k + 1 => if mxd D k = 8 ∨ D (mxd D k) < D k then k else mxd D k
theorem mxd_s (D : Nat → Nat) (k : Nat) : mxd D (k + 1) = if mxd D k = 8 ∨ D (mxd D k) < D k then k else mxd D k := rfl
theorem mxd_lt (D : Nat → Nat) : ∀ k, k ≤ 8 → mxd D k = 8 ∨ mxd D k < k
  | 0, _ => Or.inl rfl
  | k + 1, h => by
    have h1 := mxd_lt D k (by omega)
    rw [mxd_s]
    by_cases q : mxd D k = 8 ∨ D (mxd D k) < D k
    · rw [if_pos q]; omega
    · rw [if_neg q]; omega
theorem EM.deepest (h : EM W n N K F D U T Y r g) : fM_deepest r g = some (nm (mxd D n)) := by
  obtain ⟨hr, ⟨s1, s2, s3, s4⟩, ⟨h8, hD, hU, hB⟩, hC, hL⟩ := h
  have hl := rowM_len hr
  have hn := hC.1
  simp only [fM_deepest, fM_deepest_b4, li_0, li_1, li_2, li_3, li_4, li_5, li_6, li_7, li_8, li_9, li_10, li_11, li_12, li_13, li_14, li_15, li_16, li_17, li_18, li_19, li_20, li_21, li_22, li_23, li_24, li_25, li_26, li_27, li_28, li_29, li_30, li_31, li_32, li_33, li_34, li_35, li_36, li_37, li_38, li_39, li_40, li_41, li_42, li_43, li_44, li_45, li_46, li_47, li_48, li_49, li_50, li_51, li_52, li_53, li_54, li_55, li_56, li_57, li_58, li_59, li_60, li_63, li_64, li_72, li_76, li_77, li_91, li_93, li_96, li_97, li_99, li_108, li_109, li_120, li_122, li_150, li_200, li_255, li_400, li_426, li_600, li_900, li_999, li_1000, li_1002, li_1003, li_2000, li_2042, li_2043, li_2045, li_10000, li_32767, li_100000, li_1000000, li_m1, li_m1b]
  rw [show lp (fM_deepest_L4 r g) fuel (m1, i3 0) = some (nm (mxd D n)) from ?_]
  · rfl
  · refine lp_cnt0 (fun k => (nm (mxd D k), i3 k)) rfl n (by omega) (fun k hk => ?_) ?_
    · have h1 := mxd_lt D k (by omega)
      have h2 := hD k (by omega)
      show fM_deepest_L4 r g (nm (mxd D k), i3 k) = some (.inl (nm (mxd D (k + 1)), i3 (k + 1)))
      rw [mxd_s]
      by_cases q : mxd D k = 8
      · simp (disch := (first | omega | assumption | trivial)) only [li_0, li_1, li_2, li_3, li_4, li_5, li_6, li_7, li_8, li_9, li_10, li_11, li_12, li_13, li_14, li_15, li_16, li_17, li_18, li_19, li_20, li_21, li_22, li_23, li_24, li_25, li_26, li_27, li_28, li_29, li_30, li_31, li_32, li_33, li_34, li_35, li_36, li_37, li_38, li_39, li_40, li_41, li_42, li_43, li_44, li_45, li_46, li_47, li_48, li_49, li_50, li_51, li_52, li_53, li_54, li_55, li_56, li_57, li_58, li_59, li_60, li_63, li_64, li_72, li_76, li_77, li_91, li_93, li_96, li_97, li_99, li_108, li_109, li_120, li_122, li_150, li_200, li_255, li_400, li_426, li_600, li_900, li_999, li_1000, li_1002, li_1003, li_2000, li_2042, li_2043, li_2045, li_10000, li_32767, li_100000, li_1000000, li_m1, li_m1b, ob_s, lt1_e, se_l, se_r, if_true, if_false, true_and, and_true, false_and, and_false, st_at, i3_add, i3_mul, i3_sub, i3_lt, i3_le, i3_eq, i3_nat, m1_eqi, i3_eqm, m1_lti, m1_lei, i3_ltm, i3_lem, i3_decm, i3_dec0, nm_eqm, yr_eqm, mxor0, Nat.zero_add, if_pos, if_neg, eq_self, ne_eq, not_true_eq_false, not_false_eq_true, fM_deepest_L4, fM_deepest_b37, fM_deepest_b32, hn, hl, s1, nm_lt, nm_no]
      · have h3 := hD (mxd D k) (by omega)
        by_cases q2 : D (mxd D k) < D k
        · simp (disch := (first | omega | assumption | trivial)) only [li_0, li_1, li_2, li_3, li_4, li_5, li_6, li_7, li_8, li_9, li_10, li_11, li_12, li_13, li_14, li_15, li_16, li_17, li_18, li_19, li_20, li_21, li_22, li_23, li_24, li_25, li_26, li_27, li_28, li_29, li_30, li_31, li_32, li_33, li_34, li_35, li_36, li_37, li_38, li_39, li_40, li_41, li_42, li_43, li_44, li_45, li_46, li_47, li_48, li_49, li_50, li_51, li_52, li_53, li_54, li_55, li_56, li_57, li_58, li_59, li_60, li_63, li_64, li_72, li_76, li_77, li_91, li_93, li_96, li_97, li_99, li_108, li_109, li_120, li_122, li_150, li_200, li_255, li_400, li_426, li_600, li_900, li_999, li_1000, li_1002, li_1003, li_2000, li_2042, li_2043, li_2045, li_10000, li_32767, li_100000, li_1000000, li_m1, li_m1b, ob_s, lt1_e, se_l, se_r, if_true, if_false, true_and, and_true, false_and, and_false, st_at, i3_add, i3_mul, i3_sub, i3_lt, i3_le, i3_eq, i3_nat, m1_eqi, i3_eqm, m1_lti, m1_lei, i3_ltm, i3_lem, i3_decm, i3_dec0, nm_eqm, yr_eqm, mxor0, Nat.zero_add, if_pos, if_neg, eq_self, ne_eq, not_true_eq_false, not_false_eq_true, fM_deepest_L4, fM_deepest_b37, fM_deepest_b32, hn, hl, s1, nm_lt, nm_no]
        · simp (disch := (first | omega | assumption | trivial)) only [li_0, li_1, li_2, li_3, li_4, li_5, li_6, li_7, li_8, li_9, li_10, li_11, li_12, li_13, li_14, li_15, li_16, li_17, li_18, li_19, li_20, li_21, li_22, li_23, li_24, li_25, li_26, li_27, li_28, li_29, li_30, li_31, li_32, li_33, li_34, li_35, li_36, li_37, li_38, li_39, li_40, li_41, li_42, li_43, li_44, li_45, li_46, li_47, li_48, li_49, li_50, li_51, li_52, li_53, li_54, li_55, li_56, li_57, li_58, li_59, li_60, li_63, li_64, li_72, li_76, li_77, li_91, li_93, li_96, li_97, li_99, li_108, li_109, li_120, li_122, li_150, li_200, li_255, li_400, li_426, li_600, li_900, li_999, li_1000, li_1002, li_1003, li_2000, li_2042, li_2043, li_2045, li_10000, li_32767, li_100000, li_1000000, li_m1, li_m1b, ob_s, lt1_e, se_l, se_r, if_true, if_false, true_and, and_true, false_and, and_false, st_at, i3_add, i3_mul, i3_sub, i3_lt, i3_le, i3_eq, i3_nat, m1_eqi, i3_eqm, m1_lti, m1_lei, i3_ltm, i3_lem, i3_decm, i3_dec0, nm_eqm, yr_eqm, mxor0, Nat.zero_add, if_pos, if_neg, eq_self, ne_eq, not_true_eq_false, not_false_eq_true, fM_deepest_L4, fM_deepest_b37, fM_deepest_b32, hn, hl, s1, nm_lt, nm_no]
    · show fM_deepest_L4 r g (nm (mxd D n), i3 n) = _
      simp (disch := (first | omega | assumption | trivial)) only [li_0, li_1, li_2, li_3, li_4, li_5, li_6, li_7, li_8, li_9, li_10, li_11, li_12, li_13, li_14, li_15, li_16, li_17, li_18, li_19, li_20, li_21, li_22, li_23, li_24, li_25, li_26, li_27, li_28, li_29, li_30, li_31, li_32, li_33, li_34, li_35, li_36, li_37, li_38, li_39, li_40, li_41, li_42, li_43, li_44, li_45, li_46, li_47, li_48, li_49, li_50, li_51, li_52, li_53, li_54, li_55, li_56, li_57, li_58, li_59, li_60, li_63, li_64, li_72, li_76, li_77, li_91, li_93, li_96, li_97, li_99, li_108, li_109, li_120, li_122, li_150, li_200, li_255, li_400, li_426, li_600, li_900, li_999, li_1000, li_1002, li_1003, li_2000, li_2042, li_2043, li_2045, li_10000, li_32767, li_100000, li_1000000, li_m1, li_m1b, ob_s, lt1_e, se_l, se_r, if_true, if_false, true_and, and_true, false_and, and_false, st_at, i3_add, i3_mul, i3_sub, i3_lt, i3_le, i3_eq, i3_nat, m1_eqi, i3_eqm, m1_lti, m1_lei, i3_ltm, i3_lem, i3_decm, i3_dec0, nm_eqm, yr_eqm, mxor0, Nat.zero_add, if_pos, if_neg, eq_self, ne_eq, not_true_eq_false, not_false_eq_true, fM_deepest_L4, hn]
theorem EM.willBy (h : LM W g) (f : Nat → Nat) (hf : ∀ i, f i ≤ 2000) : ∃ g', fM_willBy (i3 (f 0)) (i3 (f 1)) (i3 (f 2)) (i3 (f 3)) (i3 (f 4)) (i3 (f 5)) (i3 (f 6)) (i3 (f 7)) g = some (i3 (W f), g') ∧ FM1 g g' := by
  obtain ⟨g', e, k⟩ := h f (st (st (st (st (st (st (st (st g 14 0 (i3 (f 0))) 14 1 (i3 (f 1))) 14 2 (i3 (f 2))) 14 3 (i3 (f 3))) 14 4 (i3 (f 4))) 14 5 (i3 (f 5))) 14 6 (i3 (f 6))) 14 7 (i3 (f 7))) hf (by simp [st_at]) (fun p a b => by
    repeat rw [st_ne (by omega)]) (fun i hi => by
    rcases (show i = 0 ∨ i = 1 ∨ i = 2 ∨ i = 3 ∨ i = 4 ∨ i = 5 ∨ i = 6 ∨ i = 7 by omega) with rfl | rfl | rfl | rfl | rfl | rfl | rfl | rfl <;> simp [st_at])
  refine ⟨g', ?_, fun p a b => ?_⟩
  · unfold fM_willBy
    rw [e]
    rfl
  · rw [k p a]
    repeat rw [st_ne b]
theorem EM.willOf (h : EM W n N K F D U T Y r g) {a b : Nat} (ha : a < n) (hb : b < n) : ∃ g', fM_willOf r (i3 a) (i3 b) g = some (i3 (wl W n K F D U T Y a b), g') ∧ FM1 g g' := by
  have hs := h.stones (a := a) (by have := h.2.2.1.1; omega)
  obtain ⟨hr, ⟨s1, s2, s3, s4⟩, hB, hC, hL, hW⟩ := h
  obtain ⟨g', e, hf⟩ := EM.willBy hL (fcts n K F D U T Y a b) (fcts_le hB (hC.2.2.2.2.1 a ha).2 ha hb)
  refine ⟨g', ?_, hf⟩
  have hl := rowM_len hr
  have h8 := hB.1
  obtain ⟨c1, c2, c3, c4, c5, c6⟩ := hC
  have k1 := (c5 a ha).1
  have k2 := (c6 a ha).1
  have k3 := (c6 a ha).2
  have k4 := cntB_le (fun p => decide (T p = 0)) n
  have e1 : fM_ones (g r 24) = some (i3 (cntB (fun p => decide (T p = 0)) n)) := by rw [s3, M_ones _ (msk_lt8 _ h8), cnt_msk _ h8]
  have e2 : fM_willBy (i3 (K a)) (i3 (D a)) (i3 (st8 U a)) (i3 (if (F a).testBit b then 1 else 0)) (i3 (D b)) (i3 (n - cntB (fun p => decide (T p = 0)) n)) (i3 Y) (i3 a) g = some (i3 (wl W n K F D U T Y a b), g') := e
  simp (disch := (first | omega | assumption | trivial)) only [li_0, li_1, li_2, li_3, li_4, li_5, li_6, li_7, li_8, li_9, li_10, li_11, li_12, li_13, li_14, li_15, li_16, li_17, li_18, li_19, li_20, li_21, li_22, li_23, li_24, li_25, li_26, li_27, li_28, li_29, li_30, li_31, li_32, li_33, li_34, li_35, li_36, li_37, li_38, li_39, li_40, li_41, li_42, li_43, li_44, li_45, li_46, li_47, li_48, li_49, li_50, li_51, li_52, li_53, li_54, li_55, li_56, li_57, li_58, li_59, li_60, li_63, li_64, li_72, li_76, li_77, li_91, li_93, li_96, li_97, li_99, li_108, li_109, li_120, li_122, li_150, li_200, li_255, li_400, li_426, li_600, li_900, li_999, li_1000, li_1002, li_1003, li_2000, li_2042, li_2043, li_2045, li_10000, li_32767, li_100000, li_1000000, li_m1, li_m1b, ob_s, lt1_e, se_l, se_r, if_true, if_false, true_and, and_true, false_and, and_false, st_at, i3_add, i3_mul, i3_sub, i3_lt, i3_le, i3_eq, i3_nat, m1_eqi, i3_eqm, m1_lti, m1_lei, i3_ltm, i3_lem, i3_decm, i3_dec0, nm_eqm, yr_eqm, mxor0, Nat.zero_add, if_pos, if_neg, eq_self, ne_eq, not_true_eq_false, not_false_eq_true, fM_willOf, hl, hs, k1, s1, k2, bit_in, c1, e1, s4, e2]
theorem EM.isLent (h : EM W n N K F D U T Y r g) {a b : Nat} (ha : a < n) (hb : b < n) : ∃ g', fM_isLent r (i3 a) (i3 b) g = some (i3 (if ldb W n N K F D U T Y a b then 1 else 0), g') ∧ FM1 g g' := by
  have h8 := h.2.2.1.1
  have hs := h.stones (a := a) (by omega)
  have hh := h.has ha
  have hl := rowM_len h.1
  have hN := h.2.2.2.1.2.1
  have hN4 := h.2.2.2.1.2.2.2.1
  have hs8 := st8_le U a
  obtain ⟨g', e, hf⟩ := h.willOf ha hb
  have hw : wl W n K F D U T Y a b ≤ 99 := h.2.2.2.2.2 _
  by_cases q1 : T a = 0
  · by_cases q2 : a = b
    · exact ⟨g, by simp (disch := (first | omega | assumption | trivial)) only [li_0, li_1, li_2, li_3, li_4, li_5, li_6, li_7, li_8, li_9, li_10, li_11, li_12, li_13, li_14, li_15, li_16, li_17, li_18, li_19, li_20, li_21, li_22, li_23, li_24, li_25, li_26, li_27, li_28, li_29, li_30, li_31, li_32, li_33, li_34, li_35, li_36, li_37, li_38, li_39, li_40, li_41, li_42, li_43, li_44, li_45, li_46, li_47, li_48, li_49, li_50, li_51, li_52, li_53, li_54, li_55, li_56, li_57, li_58, li_59, li_60, li_63, li_64, li_72, li_76, li_77, li_91, li_93, li_96, li_97, li_99, li_108, li_109, li_120, li_122, li_150, li_200, li_255, li_400, li_426, li_600, li_900, li_999, li_1000, li_1002, li_1003, li_2000, li_2042, li_2043, li_2045, li_10000, li_32767, li_100000, li_1000000, li_m1, li_m1b, ob_s, lt1_e, se_l, se_r, if_true, if_false, true_and, and_true, false_and, and_false, st_at, i3_add, i3_mul, i3_sub, i3_lt, i3_le, i3_eq, i3_nat, m1_eqi, i3_eqm, m1_lti, m1_lei, i3_ltm, i3_lem, i3_decm, i3_dec0, nm_eqm, yr_eqm, mxor0, Nat.zero_add, if_pos, if_neg, eq_self, ne_eq, not_true_eq_false, not_false_eq_true, fM_isLent, hl, hh, ldb], FM1.rf⟩
    · by_cases q3 : st8 U a < N
      · by_cases q4 : 10 ≤ wl W n K F D U T Y a b
        · exact ⟨g', by simp (disch := (first | omega | assumption | trivial)) only [li_0, li_1, li_2, li_3, li_4, li_5, li_6, li_7, li_8, li_9, li_10, li_11, li_12, li_13, li_14, li_15, li_16, li_17, li_18, li_19, li_20, li_21, li_22, li_23, li_24, li_25, li_26, li_27, li_28, li_29, li_30, li_31, li_32, li_33, li_34, li_35, li_36, li_37, li_38, li_39, li_40, li_41, li_42, li_43, li_44, li_45, li_46, li_47, li_48, li_49, li_50, li_51, li_52, li_53, li_54, li_55, li_56, li_57, li_58, li_59, li_60, li_63, li_64, li_72, li_76, li_77, li_91, li_93, li_96, li_97, li_99, li_108, li_109, li_120, li_122, li_150, li_200, li_255, li_400, li_426, li_600, li_900, li_999, li_1000, li_1002, li_1003, li_2000, li_2042, li_2043, li_2045, li_10000, li_32767, li_100000, li_1000000, li_m1, li_m1b, ob_s, lt1_e, se_l, se_r, if_true, if_false, true_and, and_true, false_and, and_false, st_at, i3_add, i3_mul, i3_sub, i3_lt, i3_le, i3_eq, i3_nat, m1_eqi, i3_eqm, m1_lti, m1_lei, i3_ltm, i3_lem, i3_decm, i3_dec0, nm_eqm, yr_eqm, mxor0, Nat.zero_add, if_pos, if_neg, eq_self, ne_eq, not_true_eq_false, not_false_eq_true, fM_isLent, hl, hh, ldb, hs, hN, e], hf⟩
        · exact ⟨g', by simp (disch := (first | omega | assumption | trivial)) only [li_0, li_1, li_2, li_3, li_4, li_5, li_6, li_7, li_8, li_9, li_10, li_11, li_12, li_13, li_14, li_15, li_16, li_17, li_18, li_19, li_20, li_21, li_22, li_23, li_24, li_25, li_26, li_27, li_28, li_29, li_30, li_31, li_32, li_33, li_34, li_35, li_36, li_37, li_38, li_39, li_40, li_41, li_42, li_43, li_44, li_45, li_46, li_47, li_48, li_49, li_50, li_51, li_52, li_53, li_54, li_55, li_56, li_57, li_58, li_59, li_60, li_63, li_64, li_72, li_76, li_77, li_91, li_93, li_96, li_97, li_99, li_108, li_109, li_120, li_122, li_150, li_200, li_255, li_400, li_426, li_600, li_900, li_999, li_1000, li_1002, li_1003, li_2000, li_2042, li_2043, li_2045, li_10000, li_32767, li_100000, li_1000000, li_m1, li_m1b, ob_s, lt1_e, se_l, se_r, if_true, if_false, true_and, and_true, false_and, and_false, st_at, i3_add, i3_mul, i3_sub, i3_lt, i3_le, i3_eq, i3_nat, m1_eqi, i3_eqm, m1_lti, m1_lei, i3_ltm, i3_lem, i3_decm, i3_dec0, nm_eqm, yr_eqm, mxor0, Nat.zero_add, if_pos, if_neg, eq_self, ne_eq, not_true_eq_false, not_false_eq_true, fM_isLent, hl, hh, ldb, hs, hN, e], hf⟩
      · exact ⟨g, by simp (disch := (first | omega | assumption | trivial)) only [li_0, li_1, li_2, li_3, li_4, li_5, li_6, li_7, li_8, li_9, li_10, li_11, li_12, li_13, li_14, li_15, li_16, li_17, li_18, li_19, li_20, li_21, li_22, li_23, li_24, li_25, li_26, li_27, li_28, li_29, li_30, li_31, li_32, li_33, li_34, li_35, li_36, li_37, li_38, li_39, li_40, li_41, li_42, li_43, li_44, li_45, li_46, li_47, li_48, li_49, li_50, li_51, li_52, li_53, li_54, li_55, li_56, li_57, li_58, li_59, li_60, li_63, li_64, li_72, li_76, li_77, li_91, li_93, li_96, li_97, li_99, li_108, li_109, li_120, li_122, li_150, li_200, li_255, li_400, li_426, li_600, li_900, li_999, li_1000, li_1002, li_1003, li_2000, li_2042, li_2043, li_2045, li_10000, li_32767, li_100000, li_1000000, li_m1, li_m1b, ob_s, lt1_e, se_l, se_r, if_true, if_false, true_and, and_true, false_and, and_false, st_at, i3_add, i3_mul, i3_sub, i3_lt, i3_le, i3_eq, i3_nat, m1_eqi, i3_eqm, m1_lti, m1_lei, i3_ltm, i3_lem, i3_decm, i3_dec0, nm_eqm, yr_eqm, mxor0, Nat.zero_add, if_pos, if_neg, eq_self, ne_eq, not_true_eq_false, not_false_eq_true, fM_isLent, hl, hh, ldb, hs, hN], FM1.rf⟩
  · exact ⟨g, by simp (disch := (first | omega | assumption | trivial)) only [li_0, li_1, li_2, li_3, li_4, li_5, li_6, li_7, li_8, li_9, li_10, li_11, li_12, li_13, li_14, li_15, li_16, li_17, li_18, li_19, li_20, li_21, li_22, li_23, li_24, li_25, li_26, li_27, li_28, li_29, li_30, li_31, li_32, li_33, li_34, li_35, li_36, li_37, li_38, li_39, li_40, li_41, li_42, li_43, li_44, li_45, li_46, li_47, li_48, li_49, li_50, li_51, li_52, li_53, li_54, li_55, li_56, li_57, li_58, li_59, li_60, li_63, li_64, li_72, li_76, li_77, li_91, li_93, li_96, li_97, li_99, li_108, li_109, li_120, li_122, li_150, li_200, li_255, li_400, li_426, li_600, li_900, li_999, li_1000, li_1002, li_1003, li_2000, li_2042, li_2043, li_2045, li_10000, li_32767, li_100000, li_1000000, li_m1, li_m1b, ob_s, lt1_e, se_l, se_r, if_true, if_false, true_and, and_true, false_and, and_false, st_at, i3_add, i3_mul, i3_sub, i3_lt, i3_le, i3_eq, i3_nat, m1_eqi, i3_eqm, m1_lti, m1_lei, i3_ltm, i3_lem, i3_decm, i3_dec0, nm_eqm, yr_eqm, mxor0, Nat.zero_add, if_pos, if_neg, eq_self, ne_eq, not_true_eq_false, not_false_eq_true, fM_isLent, hl, hh, ldb], FM1.rf⟩
theorem EM.lenderOf (h : EM W n N K F D U T Y r g) {b : Nat} (hb : b < n) : ∃ g', fM_lenderOf r (i3 b) g = some (nm (lnd W n N K F D U T Y b), g') ∧ FM1 g g' := by
  have h8 := h.2.2.1.1
  have hok := lnP_ok W n N K F D U T Y b h.2.2.2.2.2
  have key : ∃ z : Int32 × St, lp (fM_lenderOf_L8 r (i3 b)) fuel (m1, m1, i3 0, g) = some z ∧ z.1 = nm (lnd W n N K F D U T Y b) ∧ FM1 g z.2 := by
    refine lp_all (fun k s => ∃ g1, s = (nm (lnP W n N K F D U T Y b k).1, (if (lnP W n N K F D U T Y b k).1 = 8 then m1 else i3 (lnP W n N K F D U T Y b k).2), i3 k, g1) ∧ FM1 g g1) (fun z : Int32 × St => z.1 = nm (lnd W n N K F D U T Y b) ∧ FM1 g z.2) n (by omega) ?_ ?_ ⟨g, rfl, FM1.rf⟩
    · rintro k s hk ⟨g1, rfl, f1⟩
      have h1 := h.fr f1
      have hn := h1.2.2.2.1.1
      obtain ⟨g2, e2, f2⟩ := h1.isLent hk hb
      obtain ⟨g3, e3, f3⟩ := (h1.fr f2).willOf hk hb
      obtain ⟨g4, e4, f4⟩ := ((h1.fr f2).fr f3).willOf hk hb
      have hw : wl W n K F D U T Y k b ≤ 99 := h.2.2.2.2.2 _
      have hk1 := hok k
      generalize hP : lnP W n N K F D U T Y b k = P at hk1
      have hP1 : lnP W n N K F D U T Y b (k + 1) = if ldb W n N K F D U T Y k b ∧ P.2 < wl W n K F D U T Y k b then (k, wl W n K F D U T Y k b) else P := by rw [← hP]; rfl
      by_cases q : ldb W n N K F D U T Y k b
      · by_cases q2 : P.2 < wl W n K F D U T Y k b
        · rw [if_pos ⟨q, q2⟩] at hP1
          refine ⟨_, ?_, g4, by rw [hP1], (f1.tr f2).tr (f3.tr f4)⟩
          rw [if_pos q] at e2
          by_cases q3 : P.1 = 8
          · simp (disch := (first | omega | assumption | trivial)) only [li_0, li_1, li_2, li_3, li_4, li_5, li_6, li_7, li_8, li_9, li_10, li_11, li_12, li_13, li_14, li_15, li_16, li_17, li_18, li_19, li_20, li_21, li_22, li_23, li_24, li_25, li_26, li_27, li_28, li_29, li_30, li_31, li_32, li_33, li_34, li_35, li_36, li_37, li_38, li_39, li_40, li_41, li_42, li_43, li_44, li_45, li_46, li_47, li_48, li_49, li_50, li_51, li_52, li_53, li_54, li_55, li_56, li_57, li_58, li_59, li_60, li_63, li_64, li_72, li_76, li_77, li_91, li_93, li_96, li_97, li_99, li_108, li_109, li_120, li_122, li_150, li_200, li_255, li_400, li_426, li_600, li_900, li_999, li_1000, li_1002, li_1003, li_2000, li_2042, li_2043, li_2045, li_10000, li_32767, li_100000, li_1000000, li_m1, li_m1b, ob_s, lt1_e, se_l, se_r, if_true, if_false, true_and, and_true, false_and, and_false, st_at, i3_add, i3_mul, i3_sub, i3_lt, i3_le, i3_eq, i3_nat, m1_eqi, i3_eqm, m1_lti, m1_lei, i3_ltm, i3_lem, i3_decm, i3_dec0, nm_eqm, yr_eqm, mxor0, Nat.zero_add, if_pos, if_neg, eq_self, ne_eq, not_true_eq_false, not_false_eq_true, fM_lenderOf_L8, fM_lenderOf_b59, hn, e2, e3, e4, nm_lt]
          · simp (disch := (first | omega | assumption | trivial)) only [li_0, li_1, li_2, li_3, li_4, li_5, li_6, li_7, li_8, li_9, li_10, li_11, li_12, li_13, li_14, li_15, li_16, li_17, li_18, li_19, li_20, li_21, li_22, li_23, li_24, li_25, li_26, li_27, li_28, li_29, li_30, li_31, li_32, li_33, li_34, li_35, li_36, li_37, li_38, li_39, li_40, li_41, li_42, li_43, li_44, li_45, li_46, li_47, li_48, li_49, li_50, li_51, li_52, li_53, li_54, li_55, li_56, li_57, li_58, li_59, li_60, li_63, li_64, li_72, li_76, li_77, li_91, li_93, li_96, li_97, li_99, li_108, li_109, li_120, li_122, li_150, li_200, li_255, li_400, li_426, li_600, li_900, li_999, li_1000, li_1002, li_1003, li_2000, li_2042, li_2043, li_2045, li_10000, li_32767, li_100000, li_1000000, li_m1, li_m1b, ob_s, lt1_e, se_l, se_r, if_true, if_false, true_and, and_true, false_and, and_false, st_at, i3_add, i3_mul, i3_sub, i3_lt, i3_le, i3_eq, i3_nat, m1_eqi, i3_eqm, m1_lti, m1_lei, i3_ltm, i3_lem, i3_decm, i3_dec0, nm_eqm, yr_eqm, mxor0, Nat.zero_add, if_pos, if_neg, eq_self, ne_eq, not_true_eq_false, not_false_eq_true, fM_lenderOf_L8, fM_lenderOf_b59, hn, e2, e3, e4, nm_lt]
        · rw [if_neg (fun z => q2 z.2)] at hP1
          refine ⟨_, ?_, g3, by rw [hP1], (f1.tr f2).tr f3⟩
          rw [if_pos q] at e2
          have q5 := q.2.2.2
          simp (disch := (first | omega | assumption | trivial)) only [li_0, li_1, li_2, li_3, li_4, li_5, li_6, li_7, li_8, li_9, li_10, li_11, li_12, li_13, li_14, li_15, li_16, li_17, li_18, li_19, li_20, li_21, li_22, li_23, li_24, li_25, li_26, li_27, li_28, li_29, li_30, li_31, li_32, li_33, li_34, li_35, li_36, li_37, li_38, li_39, li_40, li_41, li_42, li_43, li_44, li_45, li_46, li_47, li_48, li_49, li_50, li_51, li_52, li_53, li_54, li_55, li_56, li_57, li_58, li_59, li_60, li_63, li_64, li_72, li_76, li_77, li_91, li_93, li_96, li_97, li_99, li_108, li_109, li_120, li_122, li_150, li_200, li_255, li_400, li_426, li_600, li_900, li_999, li_1000, li_1002, li_1003, li_2000, li_2042, li_2043, li_2045, li_10000, li_32767, li_100000, li_1000000, li_m1, li_m1b, ob_s, lt1_e, se_l, se_r, if_true, if_false, true_and, and_true, false_and, and_false, st_at, i3_add, i3_mul, i3_sub, i3_lt, i3_le, i3_eq, i3_nat, m1_eqi, i3_eqm, m1_lti, m1_lei, i3_ltm, i3_lem, i3_decm, i3_dec0, nm_eqm, yr_eqm, mxor0, Nat.zero_add, if_pos, if_neg, eq_self, ne_eq, not_true_eq_false, not_false_eq_true, fM_lenderOf_L8, fM_lenderOf_b59, hn, e2, e3, e4, nm_lt]
      · rw [if_neg (fun z => q z.1)] at hP1
        refine ⟨_, ?_, g2, by rw [hP1], f1.tr f2⟩
        rw [if_neg q] at e2
        simp (disch := (first | omega | assumption | trivial)) only [li_0, li_1, li_2, li_3, li_4, li_5, li_6, li_7, li_8, li_9, li_10, li_11, li_12, li_13, li_14, li_15, li_16, li_17, li_18, li_19, li_20, li_21, li_22, li_23, li_24, li_25, li_26, li_27, li_28, li_29, li_30, li_31, li_32, li_33, li_34, li_35, li_36, li_37, li_38, li_39, li_40, li_41, li_42, li_43, li_44, li_45, li_46, li_47, li_48, li_49, li_50, li_51, li_52, li_53, li_54, li_55, li_56, li_57, li_58, li_59, li_60, li_63, li_64, li_72, li_76, li_77, li_91, li_93, li_96, li_97, li_99, li_108, li_109, li_120, li_122, li_150, li_200, li_255, li_400, li_426, li_600, li_900, li_999, li_1000, li_1002, li_1003, li_2000, li_2042, li_2043, li_2045, li_10000, li_32767, li_100000, li_1000000, li_m1, li_m1b, ob_s, lt1_e, se_l, se_r, if_true, if_false, true_and, and_true, false_and, and_false, st_at, i3_add, i3_mul, i3_sub, i3_lt, i3_le, i3_eq, i3_nat, m1_eqi, i3_eqm, m1_lti, m1_lei, i3_ltm, i3_lem, i3_decm, i3_dec0, nm_eqm, yr_eqm, mxor0, Nat.zero_add, if_pos, if_neg, eq_self, ne_eq, not_true_eq_false, not_false_eq_true, fM_lenderOf_L8, fM_lenderOf_b59, hn, e2]
    · rintro s ⟨g1, rfl, f1⟩
      have hn := (h.fr f1).2.2.2.1.1
      refine ⟨(nm (lnP W n N K F D U T Y b n).1, g1), ?_, rfl, f1⟩
      simp (disch := (first | omega | assumption | trivial)) only [li_0, li_1, li_2, li_3, li_4, li_5, li_6, li_7, li_8, li_9, li_10, li_11, li_12, li_13, li_14, li_15, li_16, li_17, li_18, li_19, li_20, li_21, li_22, li_23, li_24, li_25, li_26, li_27, li_28, li_29, li_30, li_31, li_32, li_33, li_34, li_35, li_36, li_37, li_38, li_39, li_40, li_41, li_42, li_43, li_44, li_45, li_46, li_47, li_48, li_49, li_50, li_51, li_52, li_53, li_54, li_55, li_56, li_57, li_58, li_59, li_60, li_63, li_64, li_72, li_76, li_77, li_91, li_93, li_96, li_97, li_99, li_108, li_109, li_120, li_122, li_150, li_200, li_255, li_400, li_426, li_600, li_900, li_999, li_1000, li_1002, li_1003, li_2000, li_2042, li_2043, li_2045, li_10000, li_32767, li_100000, li_1000000, li_m1, li_m1b, ob_s, lt1_e, se_l, se_r, if_true, if_false, true_and, and_true, false_and, and_false, st_at, i3_add, i3_mul, i3_sub, i3_lt, i3_le, i3_eq, i3_nat, m1_eqi, i3_eqm, m1_lti, m1_lei, i3_ltm, i3_lem, i3_decm, i3_dec0, nm_eqm, yr_eqm, mxor0, Nat.zero_add, if_pos, if_neg, eq_self, ne_eq, not_true_eq_false, not_false_eq_true, fM_lenderOf_L8, hn]
  obtain ⟨z, e, e1, f1⟩ := key
  refine ⟨z.2, ?_, f1⟩
  simp only [fM_lenderOf, fM_lenderOf_b8, li_0, li_1, li_2, li_3, li_4, li_5, li_6, li_7, li_8, li_9, li_10, li_11, li_12, li_13, li_14, li_15, li_16, li_17, li_18, li_19, li_20, li_21, li_22, li_23, li_24, li_25, li_26, li_27, li_28, li_29, li_30, li_31, li_32, li_33, li_34, li_35, li_36, li_37, li_38, li_39, li_40, li_41, li_42, li_43, li_44, li_45, li_46, li_47, li_48, li_49, li_50, li_51, li_52, li_53, li_54, li_55, li_56, li_57, li_58, li_59, li_60, li_63, li_64, li_72, li_76, li_77, li_91, li_93, li_96, li_97, li_99, li_108, li_109, li_120, li_122, li_150, li_200, li_255, li_400, li_426, li_600, li_900, li_999, li_1000, li_1002, li_1003, li_2000, li_2042, li_2043, li_2045, li_10000, li_32767, li_100000, li_1000000, li_m1, li_m1b]
  rw [e, ← e1]
  rfl
end MQ
