/-! PURE: what steps do -/
abbrev AS : Type := (Nat → Nat) × (Nat → Nat) × (Nat → Nat) × Nat
def cap (k : Nat) : Nat := if k < 999 then k else 999
theorem cap_le (k : Nat) : cap k ≤ 999 := by unfold cap; by_cases h : k < 999 <;> simp [h]; omega
def tkD (D : Nat → Nat) (b a : Nat) : Nat → Nat := fun p => if p = b then 0 else if p = a then cap (D a + D b) else D p
def oweD (D : Nat → Nat) (a k : Nat) : Nat → Nat := updN D a (cap (D a + k))
/-- one dies -/
def dieS (W : (Nat → Nat) → Nat) (n N : Nat) (K F : Nat → Nat) (s : AS) (b : Nat) : AS :=
  if s.2.2.1 b = 0 then
    (if lnd W n N K F s.1 s.2.1 (updN s.2.2.1 b (s.2.2.2 + 1)) s.2.2.2 b = 8 then (s.1, s.2.1, updN s.2.2.1 b (s.2.2.2 + 1), s.2.2.2)
     else (tkD s.1 b (lnd W n N K F s.1 s.2.1 (updN s.2.2.1 b (s.2.2.2 + 1)) s.2.2.2 b), updN s.2.1 b (lnd W n N K F s.1 s.2.1 (updN s.2.2.1 b (s.2.2.2 + 1)) s.2.2.2 b), updN s.2.2.1 b (s.2.2.2 + 1), s.2.2.2))
  else s
/-- one lends late -/
abbrev lateP (W : (Nat → Nat) → Nat) (n N : Nat) (K F : Nat → Nat) (s : AS) (a b : Nat) : Prop := ¬ s.2.2.1 b = 0 ∧ s.2.1 b = 8 ∧ ldb W n N K F s.1 s.2.1 s.2.2.1 s.2.2.2 a b
def lateS (W : (Nat → Nat) → Nat) (n N : Nat) (K F : Nat → Nat) (s : AS) (a b : Nat) : AS := if lateP W n N K F s a b then (tkD s.1 b a, updN s.2.1 b a, s.2.2.1, s.2.2.2) else s
def payS (s : AS) (a k : Nat) : AS := (updN s.1 a (s.1 a - k), s.2)
def oweS (s : AS) (a k : Nat) : AS := if s.2.2.1 a = 0 then (oweD s.1 a k, s.2) else s
/-- debts of the first k, a year on -/
def yrD (D U T : Nat → Nat) (k : Nat) : Nat → Nat := fun p => if p < k ∧ T p = 0 then cap (D p + st8 U p) else D p
def yearS (n : Nat) (s : AS) : AS := (yrD s.1 s.2.1 s.2.2.1 n, s.2.1, s.2.2.1, s.2.2.2 + 1)
def BDs (n : Nat) (s : AS) : Prop := BD n s.1 s.2.1 s.2.2.1 s.2.2.2
theorem BD.take {n : Nat} {D U T : Nat → Nat} {Y : Nat} (h : BD n D U T Y) {a b : Nat} (ha : a < n) (hb : b < n) : BD n (tkD D b a) (updN U b a) T Y := by
  obtain ⟨h8, hD, hU, hT, hY, h0⟩ := h
  refine ⟨h8, fun p hp => ?_, fun p hp => ?_, hT, hY, fun p h1 h2 => ?_⟩
  · have := hD p hp
    have := cap_le (D a + D b)
    unfold tkD
    by_cases q : p = b
    · rw [if_pos q]; omega
    · by_cases q2 : p = a
      · rw [if_neg q, if_pos q2]; omega
      · rw [if_neg q, if_neg q2]; omega
  · unfold updN
    by_cases q : p = b
    · rw [if_pos q]; exact Or.inr ha
    · rw [if_neg q]; exact hU p hp
  · have := h0 p h1 h2
    unfold tkD updN
    rw [if_neg (by omega), if_neg (by omega), if_neg (by omega)]
    exact this
theorem BD.setD {n : Nat} {D U T : Nat → Nat} {Y : Nat} (h : BD n D U T Y) {a v : Nat} (ha : a < n) (hv : v ≤ 999) : BD n (updN D a v) U T Y := by
  obtain ⟨h8, hD, hU, hT, hY, h0⟩ := h
  refine ⟨h8, fun p hp => ?_, hU, hT, hY, fun p h1 h2 => ?_⟩
  · unfold updN
    by_cases q : p = a
    · rw [if_pos q]; exact hv
    · rw [if_neg q]; exact hD p hp
  · rw [updN_ne (by omega)]
    exact h0 p h1 h2
theorem BD.yr {n : Nat} {D U T : Nat → Nat} {Y : Nat} (h : BD n D U T Y) {k : Nat} (hk : k ≤ n) : BD n (yrD D U T k) U T Y := by
  obtain ⟨h8, hD, hU, hT, hY, h0⟩ := h
  refine ⟨h8, fun p hp => ?_, hU, hT, hY, fun p h1 h2 => ?_⟩
  · unfold yrD
    by_cases q : p < k ∧ T p = 0
    · rw [if_pos q]; exact cap_le _
    · rw [if_neg q]; exact hD p hp
  · unfold yrD
    rw [if_neg (fun q => by omega)]
    exact h0 p h1 h2
/-- the frame of a state that changes -/
def FX2 (th : Nat) (g g' : St) : Prop := ∀ p, p ≠ 24 → p ≠ 25 → p ≠ th → p ≠ 3 * th + 7 → p ≠ 3 * th + 8 → p ≠ 3 * th + 9 → g' p = g p
def FM2 (r : Nat) (g g' : St) : Prop := ∀ p, p ≠ 13 → p ≠ 14 → p ≠ r → g' p = g p
theorem FX2.rf {th : Nat} {g : St} : FX2 th g g := fun _ _ _ _ _ _ _ => rfl
theorem FM2.rf {r : Nat} {g : St} : FM2 r g g := fun _ _ _ _ => rfl
theorem FX2.tr {th : Nat} {g g1 g2 : St} (h : FX2 th g g1) (k : FX2 th g1 g2) : FX2 th g g2 := fun p a b c d e f => (k p a b c d e f).trans (h p a b c d e f)
theorem FM2.tr {r : Nat} {g g1 g2 : St} (h : FM2 r g g1) (k : FM2 r g1 g2) : FM2 r g g2 := fun p a b c => (k p a b c).trans (h p a b c)
theorem FX1.w {th : Nat} {g g' : St} (h : FX1 g g') : FX2 th g g' := fun p a b _ _ _ _ => h p a b
theorem FM1.w {r : Nat} {g g' : St} (h : FM1 g g') : FM2 r g g' := fun p a b _ => h p a b
theorem FM2.st {r : Nat} {g g' : St} {i : Nat} {v : Int32} (h : FM2 r g g') : FM2 r g (st g' r i v) := fun p a b c => by rw [st_ne c]; exact h p a b c
theorem FX2.s7 {th : Nat} {g g' : St} {i : Nat} {v : Int32} (h : FX2 th g g') : FX2 th g (st g' (3 * th + 7) i v) := fun p a b c d e f => by rw [st_ne d]; exact h p a b c d e f
theorem FX2.s8 {th : Nat} {g g' : St} {i : Nat} {v : Int32} (h : FX2 th g g') : FX2 th g (st g' (3 * th + 8) i v) := fun p a b c d e f => by rw [st_ne e]; exact h p a b c d e f
theorem FX2.s9 {th : Nat} {g g' : St} {i : Nat} {v : Int32} (h : FX2 th g g') : FX2 th g (st g' (3 * th + 9) i v) := fun p a b c d e f => by rw [st_ne f]; exact h p a b c d e f
theorem FX2.s0 {th : Nat} {g g' : St} {i : Nat} {v : Int32} (h : FX2 th g g') : FX2 th g (st g' th i v) := fun p a b c d e f => by rw [st_ne c]; exact h p a b c d e f
theorem sub_neg {a b : Nat} (h : a < b) (hb : b ≤ 1000) : i3 a - i3 b < i3 0 := by
  rw [Int32.lt_iff_toInt_lt, Int32.toInt_sub, i3_int (by omega), i3_int (by omega)]
  have h0 : (i3 0).toInt = 0 := rfl
  rw [h0, Int.bmod_def]
  split <;> omega
section CT
variable {W : (Nat → Nat) → Nat} {n N : Nat} {K F D U T : Nat → Nat} {Y th : Nat} {g : St}
/-- a state of the class that differs in its own rows -/
theorem EC.re (h : EC W n N K F D U T Y th g) {g' : St} (f : FX2 th g g') {D' U' T' : Nat → Nat} {Y' : Nat} (hS : SX th D' U' T' Y' g') (hB : BD n D' U' T' Y') : EC W n N K F D' U' T' Y' th g' := by
  obtain ⟨hr, _, _, hC, hL, hW⟩ := h
  refine ⟨hr, hS, hB, hC.fr (f 2 (by omega) (by omega) (by omega) (by omega) (by omega) (by omega)) (f 17 (by omega) (by omega) (by omega) (by omega) (by omega) (by omega)) (f 19 (by omega) (by omega) (by omega) (by omega) (by omega) (by omega)), hL.fr ?_ (f 23 (by omega) (by omega) (by omega) (by omega) (by omega) (by omega)), hW⟩
  rw [f 4 (by omega) (by omega) (by omega) (by omega) (by omega) (by omega)]
theorem EC.owes (h : EC W n N K F D U T Y th g) {a k : Nat} (ha : a < n) (hk : k ≤ 999) : ∃ g', fX_State_owes th (i3 a) (i3 k) g = some g' ∧ EC W n N K F (oweD D a k) U T Y th g' ∧ FX2 th g g' := by
  have hB := h.2.2.1
  have h8 := hB.1
  have hD := hB.2.1 a (by omega)
  have hr := h.1
  obtain ⟨s1, s2, s3, s4⟩ := h.2.1
  refine ⟨st g (3 * th + 7) a (i3 (cap (D a + k))), ?_, h.re FX2.rf.s7 ⟨fun p hp => ?_, fun p hp => ?_, fun p hp => ?_, ?_⟩ (hB.setD ha (cap_le _)), FX2.rf.s7⟩
  · unfold cap
    by_cases q : D a + k < 999
    · simp (disch := (first | omega | assumption | trivial)) only [li_0, li_1, li_2, li_3, li_4, li_5, li_6, li_7, li_8, li_9, li_10, li_11, li_12, li_13, li_14, li_15, li_16, li_17, li_18, li_19, li_20, li_21, li_22, li_23, li_24, li_25, li_26, li_27, li_28, li_29, li_30, li_31, li_32, li_33, li_34, li_35, li_36, li_37, li_38, li_39, li_40, li_41, li_42, li_43, li_44, li_45, li_46, li_47, li_48, li_49, li_50, li_51, li_52, li_53, li_54, li_55, li_56, li_57, li_58, li_59, li_60, li_63, li_64, li_72, li_76, li_77, li_91, li_93, li_96, li_97, li_99, li_108, li_109, li_120, li_122, li_150, li_200, li_255, li_400, li_426, li_600, li_900, li_999, li_1000, li_1002, li_1003, li_2000, li_2042, li_2043, li_2045, li_10000, li_32767, li_100000, li_1000000, li_m1, li_m1b, ob_s, lt1_e, se_l, se_r, if_true, if_false, true_and, and_true, false_and, and_false, st_at, i3_add, i3_mul, i3_sub, i3_lt, i3_le, i3_eq, i3_nat, m1_eqi, i3_eqm, m1_lti, m1_lei, i3_ltm, i3_lem, i3_decm, i3_dec0, nm_eqm, yr_eqm, mxor0, Nat.zero_add, if_pos, if_neg, eq_self, ne_eq, not_true_eq_false, not_false_eq_true, fX_State_owes, rS2, at8, pu8, s1]
    · simp (disch := (first | omega | assumption | trivial)) only [li_0, li_1, li_2, li_3, li_4, li_5, li_6, li_7, li_8, li_9, li_10, li_11, li_12, li_13, li_14, li_15, li_16, li_17, li_18, li_19, li_20, li_21, li_22, li_23, li_24, li_25, li_26, li_27, li_28, li_29, li_30, li_31, li_32, li_33, li_34, li_35, li_36, li_37, li_38, li_39, li_40, li_41, li_42, li_43, li_44, li_45, li_46, li_47, li_48, li_49, li_50, li_51, li_52, li_53, li_54, li_55, li_56, li_57, li_58, li_59, li_60, li_63, li_64, li_72, li_76, li_77, li_91, li_93, li_96, li_97, li_99, li_108, li_109, li_120, li_122, li_150, li_200, li_255, li_400, li_426, li_600, li_900, li_999, li_1000, li_1002, li_1003, li_2000, li_2042, li_2043, li_2045, li_10000, li_32767, li_100000, li_1000000, li_m1, li_m1b, ob_s, lt1_e, se_l, se_r, if_true, if_false, true_and, and_true, false_and, and_false, st_at, i3_add, i3_mul, i3_sub, i3_lt, i3_le, i3_eq, i3_nat, m1_eqi, i3_eqm, m1_lti, m1_lei, i3_ltm, i3_lem, i3_decm, i3_dec0, nm_eqm, yr_eqm, mxor0, Nat.zero_add, if_pos, if_neg, eq_self, ne_eq, not_true_eq_false, not_false_eq_true, fX_State_owes, rS2, at8, pu8, s1]
  · unfold oweD
    by_cases q : p = a
    · subst q; rw [st_eq, updN_eq]
    · rw [st_at, if_neg (by omega), updN_ne q]; exact s1 p hp
  · rw [st_at, if_neg (by omega)]; exact s2 p hp
  · rw [st_at, if_neg (by omega)]; exact s3 p hp
  · rw [st_at, if_neg (by omega)]; exact s4
theorem EC.take (h : EC W n N K F D U T Y th g) {a b : Nat} (ha : a < n) (hb : b < n) (hab : a ≠ b) : ∃ g', fX_State_takeName th (i3 b) (i3 a) g = some g' ∧ EC W n N K F (tkD D b a) (updN U b a) T Y th g' ∧ FX2 th g g' := by
  have hB := h.2.2.1
  have h8 := hB.1
  have hDa := hB.2.1 a (by omega)
  have hDb := hB.2.1 b (by omega)
  have hr := h.1
  obtain ⟨s1, s2, s3, s4⟩ := h.2.1
  have f : FX2 th g (st (st (st g (3 * th + 8) b (i3 a)) (3 * th + 7) a (i3 (cap (D a + D b)))) (3 * th + 7) b (i3 0)) := FX2.rf.s8.s7.s7
  refine ⟨_, ?_, h.re f ⟨fun p hp => ?_, fun p hp => ?_, fun p hp => ?_, ?_⟩ (hB.take ha hb), f⟩
  · unfold cap
    by_cases q : D a + D b < 999
    · simp (disch := (first | omega | assumption | trivial)) only [li_0, li_1, li_2, li_3, li_4, li_5, li_6, li_7, li_8, li_9, li_10, li_11, li_12, li_13, li_14, li_15, li_16, li_17, li_18, li_19, li_20, li_21, li_22, li_23, li_24, li_25, li_26, li_27, li_28, li_29, li_30, li_31, li_32, li_33, li_34, li_35, li_36, li_37, li_38, li_39, li_40, li_41, li_42, li_43, li_44, li_45, li_46, li_47, li_48, li_49, li_50, li_51, li_52, li_53, li_54, li_55, li_56, li_57, li_58, li_59, li_60, li_63, li_64, li_72, li_76, li_77, li_91, li_93, li_96, li_97, li_99, li_108, li_109, li_120, li_122, li_150, li_200, li_255, li_400, li_426, li_600, li_900, li_999, li_1000, li_1002, li_1003, li_2000, li_2042, li_2043, li_2045, li_10000, li_32767, li_100000, li_1000000, li_m1, li_m1b, ob_s, lt1_e, se_l, se_r, if_true, if_false, true_and, and_true, false_and, and_false, st_at, i3_add, i3_mul, i3_sub, i3_lt, i3_le, i3_eq, i3_nat, m1_eqi, i3_eqm, m1_lti, m1_lei, i3_ltm, i3_lem, i3_decm, i3_dec0, nm_eqm, yr_eqm, mxor0, Nat.zero_add, if_pos, if_neg, eq_self, ne_eq, not_true_eq_false, not_false_eq_true, fX_State_takeName, fX_State_owes, rS2, rS3, at8, pu8, s1]
    · simp (disch := (first | omega | assumption | trivial)) only [li_0, li_1, li_2, li_3, li_4, li_5, li_6, li_7, li_8, li_9, li_10, li_11, li_12, li_13, li_14, li_15, li_16, li_17, li_18, li_19, li_20, li_21, li_22, li_23, li_24, li_25, li_26, li_27, li_28, li_29, li_30, li_31, li_32, li_33, li_34, li_35, li_36, li_37, li_38, li_39, li_40, li_41, li_42, li_43, li_44, li_45, li_46, li_47, li_48, li_49, li_50, li_51, li_52, li_53, li_54, li_55, li_56, li_57, li_58, li_59, li_60, li_63, li_64, li_72, li_76, li_77, li_91, li_93, li_96, li_97, li_99, li_108, li_109, li_120, li_122, li_150, li_200, li_255, li_400, li_426, li_600, li_900, li_999, li_1000, li_1002, li_1003, li_2000, li_2042, li_2043, li_2045, li_10000, li_32767, li_100000, li_1000000, li_m1, li_m1b, ob_s, lt1_e, se_l, se_r, if_true, if_false, true_and, and_true, false_and, and_false, st_at, i3_add, i3_mul, i3_sub, i3_lt, i3_le, i3_eq, i3_nat, m1_eqi, i3_eqm, m1_lti, m1_lei, i3_ltm, i3_lem, i3_decm, i3_dec0, nm_eqm, yr_eqm, mxor0, Nat.zero_add, if_pos, if_neg, eq_self, ne_eq, not_true_eq_false, not_false_eq_true, fX_State_takeName, fX_State_owes, rS2, rS3, at8, pu8, s1]
  · unfold tkD
    by_cases q : p = b
    · simp (disch := (first | omega | assumption | trivial)) only [li_0, li_1, li_2, li_3, li_4, li_5, li_6, li_7, li_8, li_9, li_10, li_11, li_12, li_13, li_14, li_15, li_16, li_17, li_18, li_19, li_20, li_21, li_22, li_23, li_24, li_25, li_26, li_27, li_28, li_29, li_30, li_31, li_32, li_33, li_34, li_35, li_36, li_37, li_38, li_39, li_40, li_41, li_42, li_43, li_44, li_45, li_46, li_47, li_48, li_49, li_50, li_51, li_52, li_53, li_54, li_55, li_56, li_57, li_58, li_59, li_60, li_63, li_64, li_72, li_76, li_77, li_91, li_93, li_96, li_97, li_99, li_108, li_109, li_120, li_122, li_150, li_200, li_255, li_400, li_426, li_600, li_900, li_999, li_1000, li_1002, li_1003, li_2000, li_2042, li_2043, li_2045, li_10000, li_32767, li_100000, li_1000000, li_m1, li_m1b, ob_s, lt1_e, se_l, se_r, if_true, if_false, true_and, and_true, false_and, and_false, st_at, i3_add, i3_mul, i3_sub, i3_lt, i3_le, i3_eq, i3_nat, m1_eqi, i3_eqm, m1_lti, m1_lei, i3_ltm, i3_lem, i3_decm, i3_dec0, nm_eqm, yr_eqm, mxor0, Nat.zero_add, if_pos, if_neg, eq_self, ne_eq, not_true_eq_false, not_false_eq_true, s1]
    · by_cases q2 : p = a
      · simp (disch := (first | omega | assumption | trivial)) only [li_0, li_1, li_2, li_3, li_4, li_5, li_6, li_7, li_8, li_9, li_10, li_11, li_12, li_13, li_14, li_15, li_16, li_17, li_18, li_19, li_20, li_21, li_22, li_23, li_24, li_25, li_26, li_27, li_28, li_29, li_30, li_31, li_32, li_33, li_34, li_35, li_36, li_37, li_38, li_39, li_40, li_41, li_42, li_43, li_44, li_45, li_46, li_47, li_48, li_49, li_50, li_51, li_52, li_53, li_54, li_55, li_56, li_57, li_58, li_59, li_60, li_63, li_64, li_72, li_76, li_77, li_91, li_93, li_96, li_97, li_99, li_108, li_109, li_120, li_122, li_150, li_200, li_255, li_400, li_426, li_600, li_900, li_999, li_1000, li_1002, li_1003, li_2000, li_2042, li_2043, li_2045, li_10000, li_32767, li_100000, li_1000000, li_m1, li_m1b, ob_s, lt1_e, se_l, se_r, if_true, if_false, true_and, and_true, false_and, and_false, st_at, i3_add, i3_mul, i3_sub, i3_lt, i3_le, i3_eq, i3_nat, m1_eqi, i3_eqm, m1_lti, m1_lei, i3_ltm, i3_lem, i3_decm, i3_dec0, nm_eqm, yr_eqm, mxor0, Nat.zero_add, if_pos, if_neg, eq_self, ne_eq, not_true_eq_false, not_false_eq_true, s1]
      · simp (disch := (first | omega | assumption | trivial)) only [li_0, li_1, li_2, li_3, li_4, li_5, li_6, li_7, li_8, li_9, li_10, li_11, li_12, li_13, li_14, li_15, li_16, li_17, li_18, li_19, li_20, li_21, li_22, li_23, li_24, li_25, li_26, li_27, li_28, li_29, li_30, li_31, li_32, li_33, li_34, li_35, li_36, li_37, li_38, li_39, li_40, li_41, li_42, li_43, li_44, li_45, li_46, li_47, li_48, li_49, li_50, li_51, li_52, li_53, li_54, li_55, li_56, li_57, li_58, li_59, li_60, li_63, li_64, li_72, li_76, li_77, li_91, li_93, li_96, li_97, li_99, li_108, li_109, li_120, li_122, li_150, li_200, li_255, li_400, li_426, li_600, li_900, li_999, li_1000, li_1002, li_1003, li_2000, li_2042, li_2043, li_2045, li_10000, li_32767, li_100000, li_1000000, li_m1, li_m1b, ob_s, lt1_e, se_l, se_r, if_true, if_false, true_and, and_true, false_and, and_false, st_at, i3_add, i3_mul, i3_sub, i3_lt, i3_le, i3_eq, i3_nat, m1_eqi, i3_eqm, m1_lti, m1_lei, i3_ltm, i3_lem, i3_decm, i3_dec0, nm_eqm, yr_eqm, mxor0, Nat.zero_add, if_pos, if_neg, eq_self, ne_eq, not_true_eq_false, not_false_eq_true, s1]
  · unfold updN
    by_cases q : p = b
    · simp (disch := (first | omega | assumption | trivial)) only [li_0, li_1, li_2, li_3, li_4, li_5, li_6, li_7, li_8, li_9, li_10, li_11, li_12, li_13, li_14, li_15, li_16, li_17, li_18, li_19, li_20, li_21, li_22, li_23, li_24, li_25, li_26, li_27, li_28, li_29, li_30, li_31, li_32, li_33, li_34, li_35, li_36, li_37, li_38, li_39, li_40, li_41, li_42, li_43, li_44, li_45, li_46, li_47, li_48, li_49, li_50, li_51, li_52, li_53, li_54, li_55, li_56, li_57, li_58, li_59, li_60, li_63, li_64, li_72, li_76, li_77, li_91, li_93, li_96, li_97, li_99, li_108, li_109, li_120, li_122, li_150, li_200, li_255, li_400, li_426, li_600, li_900, li_999, li_1000, li_1002, li_1003, li_2000, li_2042, li_2043, li_2045, li_10000, li_32767, li_100000, li_1000000, li_m1, li_m1b, ob_s, lt1_e, se_l, se_r, if_true, if_false, true_and, and_true, false_and, and_false, st_at, i3_add, i3_mul, i3_sub, i3_lt, i3_le, i3_eq, i3_nat, m1_eqi, i3_eqm, m1_lti, m1_lei, i3_ltm, i3_lem, i3_decm, i3_dec0, nm_eqm, yr_eqm, mxor0, Nat.zero_add, if_pos, if_neg, eq_self, ne_eq, not_true_eq_false, not_false_eq_true, nm_lt]
    · simp (disch := (first | omega | assumption | trivial)) only [li_0, li_1, li_2, li_3, li_4, li_5, li_6, li_7, li_8, li_9, li_10, li_11, li_12, li_13, li_14, li_15, li_16, li_17, li_18, li_19, li_20, li_21, li_22, li_23, li_24, li_25, li_26, li_27, li_28, li_29, li_30, li_31, li_32, li_33, li_34, li_35, li_36, li_37, li_38, li_39, li_40, li_41, li_42, li_43, li_44, li_45, li_46, li_47, li_48, li_49, li_50, li_51, li_52, li_53, li_54, li_55, li_56, li_57, li_58, li_59, li_60, li_63, li_64, li_72, li_76, li_77, li_91, li_93, li_96, li_97, li_99, li_108, li_109, li_120, li_122, li_150, li_200, li_255, li_400, li_426, li_600, li_900, li_999, li_1000, li_1002, li_1003, li_2000, li_2042, li_2043, li_2045, li_10000, li_32767, li_100000, li_1000000, li_m1, li_m1b, ob_s, lt1_e, se_l, se_r, if_true, if_false, true_and, and_true, false_and, and_false, st_at, i3_add, i3_mul, i3_sub, i3_lt, i3_le, i3_eq, i3_nat, m1_eqi, i3_eqm, m1_lti, m1_lei, i3_ltm, i3_lem, i3_decm, i3_dec0, nm_eqm, yr_eqm, mxor0, Nat.zero_add, if_pos, if_neg, eq_self, ne_eq, not_true_eq_false, not_false_eq_true, s2]
  · simp (disch := (first | omega | assumption | trivial)) only [li_0, li_1, li_2, li_3, li_4, li_5, li_6, li_7, li_8, li_9, li_10, li_11, li_12, li_13, li_14, li_15, li_16, li_17, li_18, li_19, li_20, li_21, li_22, li_23, li_24, li_25, li_26, li_27, li_28, li_29, li_30, li_31, li_32, li_33, li_34, li_35, li_36, li_37, li_38, li_39, li_40, li_41, li_42, li_43, li_44, li_45, li_46, li_47, li_48, li_49, li_50, li_51, li_52, li_53, li_54, li_55, li_56, li_57, li_58, li_59, li_60, li_63, li_64, li_72, li_76, li_77, li_91, li_93, li_96, li_97, li_99, li_108, li_109, li_120, li_122, li_150, li_200, li_255, li_400, li_426, li_600, li_900, li_999, li_1000, li_1002, li_1003, li_2000, li_2042, li_2043, li_2045, li_10000, li_32767, li_100000, li_1000000, li_m1, li_m1b, ob_s, lt1_e, se_l, se_r, if_true, if_false, true_and, and_true, false_and, and_false, st_at, i3_add, i3_mul, i3_sub, i3_lt, i3_le, i3_eq, i3_nat, m1_eqi, i3_eqm, m1_lti, m1_lei, i3_ltm, i3_lem, i3_decm, i3_dec0, nm_eqm, yr_eqm, mxor0, Nat.zero_add, if_pos, if_neg, eq_self, ne_eq, not_true_eq_false, not_false_eq_true, s3]
  · simp (disch := (first | omega | assumption | trivial)) only [li_0, li_1, li_2, li_3, li_4, li_5, li_6, li_7, li_8, li_9, li_10, li_11, li_12, li_13, li_14, li_15, li_16, li_17, li_18, li_19, li_20, li_21, li_22, li_23, li_24, li_25, li_26, li_27, li_28, li_29, li_30, li_31, li_32, li_33, li_34, li_35, li_36, li_37, li_38, li_39, li_40, li_41, li_42, li_43, li_44, li_45, li_46, li_47, li_48, li_49, li_50, li_51, li_52, li_53, li_54, li_55, li_56, li_57, li_58, li_59, li_60, li_63, li_64, li_72, li_76, li_77, li_91, li_93, li_96, li_97, li_99, li_108, li_109, li_120, li_122, li_150, li_200, li_255, li_400, li_426, li_600, li_900, li_999, li_1000, li_1002, li_1003, li_2000, li_2042, li_2043, li_2045, li_10000, li_32767, li_100000, li_1000000, li_m1, li_m1b, ob_s, lt1_e, se_l, se_r, if_true, if_false, true_and, and_true, false_and, and_false, st_at, i3_add, i3_mul, i3_sub, i3_lt, i3_le, i3_eq, i3_nat, m1_eqi, i3_eqm, m1_lti, m1_lei, i3_ltm, i3_lem, i3_decm, i3_dec0, nm_eqm, yr_eqm, mxor0, Nat.zero_add, if_pos, if_neg, eq_self, ne_eq, not_true_eq_false, not_false_eq_true, s4]
theorem EC.die (h : EC W n N K F D U T Y th g) {b : Nat} (hb : b < n) (x3 : Int32) : ∃ g', fX_State_does th (i3 0) (i3 b) x3 g = some (i3 (if T b = 0 then 1 else 0), g') ∧ EC W n N K F (dieS W n N K F (D, U, T, Y) b).1 (dieS W n N K F (D, U, T, Y) b).2.1 (dieS W n N K F (D, U, T, Y) b).2.2.1 (dieS W n N K F (D, U, T, Y) b).2.2.2 th g' ∧ FX2 th g g' := by
  have hB := h.2.2.1
  have h8 := hB.1
  have hY := hB.2.2.2.2.1
  have hr := h.1
  have hl := h.lives hb
  unfold dieS
  dsimp only
  by_cases q : T b = 0
  · rw [if_pos q, if_pos q]
    rw [if_pos q] at hl
    obtain ⟨g1, e1, f1⟩ := h.heirOf hb
    have hd := h.fr f1
    have h2 := hd.setT hb (v := Y + 1) (by omega)
    have f2 : FX2 th g (st g1 (3 * th + 9) b (yr (Y + 1))) := f1.w.s9
    have y1 := hd.2.1.2.2.2
    have hlt := lnd_lt (W := W) (n := n) (N := N) (K := K) (F := F) (D := D) (U := U) (T := updN T b (Y + 1)) (Y := Y) (b := b) h.2.2.2.2.2
    have his := lnd_is (W := W) (n := n) (N := N) (K := K) (F := F) (D := D) (U := U) (T := updN T b (Y + 1)) (Y := Y) (b := b)
    generalize lnd W n N K F D U (updN T b (Y + 1)) Y b = a at *
    by_cases q2 : a = 8
    · rw [if_pos q2]
      refine ⟨_, ?_, h2, f2⟩
      rw [yr_s1]
      simp (disch := (first | omega | assumption | trivial)) only [li_0, li_1, li_2, li_3, li_4, li_5, li_6, li_7, li_8, li_9, li_10, li_11, li_12, li_13, li_14, li_15, li_16, li_17, li_18, li_19, li_20, li_21, li_22, li_23, li_24, li_25, li_26, li_27, li_28, li_29, li_30, li_31, li_32, li_33, li_34, li_35, li_36, li_37, li_38, li_39, li_40, li_41, li_42, li_43, li_44, li_45, li_46, li_47, li_48, li_49, li_50, li_51, li_52, li_53, li_54, li_55, li_56, li_57, li_58, li_59, li_60, li_63, li_64, li_72, li_76, li_77, li_91, li_93, li_96, li_97, li_99, li_108, li_109, li_120, li_122, li_150, li_200, li_255, li_400, li_426, li_600, li_900, li_999, li_1000, li_1002, li_1003, li_2000, li_2042, li_2043, li_2045, li_10000, li_32767, li_100000, li_1000000, li_m1, li_m1b, ob_s, lt1_e, se_l, se_r, if_true, if_false, true_and, and_true, false_and, and_false, st_at, i3_add, i3_mul, i3_sub, i3_lt, i3_le, i3_eq, i3_nat, m1_eqi, i3_eqm, m1_lti, m1_lei, i3_ltm, i3_lem, i3_decm, i3_dec0, nm_eqm, yr_eqm, mxor0, Nat.zero_add, if_pos, if_neg, eq_self, ne_eq, not_true_eq_false, not_false_eq_true, fX_State_does, hl, e1, rS4, pu8, y1]
    · rw [if_neg q2]
      have ha : a < n := by omega
      have hab : a ≠ b := by
        rcases his with z | z
        · omega
        · exact z.2.1
      obtain ⟨g2, e2, h3, f3⟩ := h2.take ha hb hab
      refine ⟨g2, ?_, h3, f2.tr f3⟩
      rw [yr_s1] at e2
      simp (disch := (first | omega | assumption | trivial)) only [li_0, li_1, li_2, li_3, li_4, li_5, li_6, li_7, li_8, li_9, li_10, li_11, li_12, li_13, li_14, li_15, li_16, li_17, li_18, li_19, li_20, li_21, li_22, li_23, li_24, li_25, li_26, li_27, li_28, li_29, li_30, li_31, li_32, li_33, li_34, li_35, li_36, li_37, li_38, li_39, li_40, li_41, li_42, li_43, li_44, li_45, li_46, li_47, li_48, li_49, li_50, li_51, li_52, li_53, li_54, li_55, li_56, li_57, li_58, li_59, li_60, li_63, li_64, li_72, li_76, li_77, li_91, li_93, li_96, li_97, li_99, li_108, li_109, li_120, li_122, li_150, li_200, li_255, li_400, li_426, li_600, li_900, li_999, li_1000, li_1002, li_1003, li_2000, li_2042, li_2043, li_2045, li_10000, li_32767, li_100000, li_1000000, li_m1, li_m1b, ob_s, lt1_e, se_l, se_r, if_true, if_false, true_and, and_true, false_and, and_false, st_at, i3_add, i3_mul, i3_sub, i3_lt, i3_le, i3_eq, i3_nat, m1_eqi, i3_eqm, m1_lti, m1_lei, i3_ltm, i3_lem, i3_decm, i3_dec0, nm_eqm, yr_eqm, mxor0, Nat.zero_add, if_pos, if_neg, eq_self, ne_eq, not_true_eq_false, not_false_eq_true, fX_State_does, hl, e1, rS4, pu8, y1, nm_lt, e2]
  · rw [if_neg q, if_neg q]
    rw [if_neg q] at hl
    exact ⟨g, by simp (disch := (first | omega | assumption | trivial)) only [li_0, li_1, li_2, li_3, li_4, li_5, li_6, li_7, li_8, li_9, li_10, li_11, li_12, li_13, li_14, li_15, li_16, li_17, li_18, li_19, li_20, li_21, li_22, li_23, li_24, li_25, li_26, li_27, li_28, li_29, li_30, li_31, li_32, li_33, li_34, li_35, li_36, li_37, li_38, li_39, li_40, li_41, li_42, li_43, li_44, li_45, li_46, li_47, li_48, li_49, li_50, li_51, li_52, li_53, li_54, li_55, li_56, li_57, li_58, li_59, li_60, li_63, li_64, li_72, li_76, li_77, li_91, li_93, li_96, li_97, li_99, li_108, li_109, li_120, li_122, li_150, li_200, li_255, li_400, li_426, li_600, li_900, li_999, li_1000, li_1002, li_1003, li_2000, li_2042, li_2043, li_2045, li_10000, li_32767, li_100000, li_1000000, li_m1, li_m1b, ob_s, lt1_e, se_l, se_r, if_true, if_false, true_and, and_true, false_and, and_false, st_at, i3_add, i3_mul, i3_sub, i3_lt, i3_le, i3_eq, i3_nat, m1_eqi, i3_eqm, m1_lti, m1_lei, i3_ltm, i3_lem, i3_decm, i3_dec0, nm_eqm, yr_eqm, mxor0, Nat.zero_add, if_pos, if_neg, eq_self, ne_eq, not_true_eq_false, not_false_eq_true, fX_State_does, hl], h, FX2.rf⟩
theorem EC.late (h : EC W n N K F D U T Y th g) {a b : Nat} (ha : a < n) (hb : b < n) : ∃ g', fX_State_does th (i3 1) (i3 a) (i3 b) g = some (i3 (if lateP W n N K F (D, U, T, Y) a b then 1 else 0), g') ∧ EC W n N K F (lateS W n N K F (D, U, T, Y) a b).1 (lateS W n N K F (D, U, T, Y) a b).2.1 (lateS W n N K F (D, U, T, Y) a b).2.2.1 (lateS W n N K F (D, U, T, Y) a b).2.2.2 th g' ∧ FX2 th g g' := by
  have hB := h.2.2.1
  have h8 := hB.1
  have hU := hB.2.2.1 b (by omega)
  have hr := h.1
  have hl := h.isDead hb
  have s2 := h.2.1.2.1
  unfold lateS
  by_cases q : T b = 0
  · have q9 : ¬ lateP W n N K F (D, U, T, Y) a b := fun z => z.1 q
    rw [if_neg q9, if_neg q9]
    exact ⟨g, by simp (disch := (first | omega | assumption | trivial)) only [li_0, li_1, li_2, li_3, li_4, li_5, li_6, li_7, li_8, li_9, li_10, li_11, li_12, li_13, li_14, li_15, li_16, li_17, li_18, li_19, li_20, li_21, li_22, li_23, li_24, li_25, li_26, li_27, li_28, li_29, li_30, li_31, li_32, li_33, li_34, li_35, li_36, li_37, li_38, li_39, li_40, li_41, li_42, li_43, li_44, li_45, li_46, li_47, li_48, li_49, li_50, li_51, li_52, li_53, li_54, li_55, li_56, li_57, li_58, li_59, li_60, li_63, li_64, li_72, li_76, li_77, li_91, li_93, li_96, li_97, li_99, li_108, li_109, li_120, li_122, li_150, li_200, li_255, li_400, li_426, li_600, li_900, li_999, li_1000, li_1002, li_1003, li_2000, li_2042, li_2043, li_2045, li_10000, li_32767, li_100000, li_1000000, li_m1, li_m1b, ob_s, lt1_e, se_l, se_r, if_true, if_false, true_and, and_true, false_and, and_false, st_at, i3_add, i3_mul, i3_sub, i3_lt, i3_le, i3_eq, i3_nat, m1_eqi, i3_eqm, m1_lti, m1_lei, i3_ltm, i3_lem, i3_decm, i3_dec0, nm_eqm, yr_eqm, mxor0, Nat.zero_add, if_pos, if_neg, eq_self, ne_eq, not_true_eq_false, not_false_eq_true, fX_State_does, hl], h, FX2.rf⟩
  · by_cases q2 : U b = 8
    · obtain ⟨g1, e1, f1⟩ := h.lendsTo ha hb
      by_cases q3 : ldb W n N K F D U T Y a b
      · have q9 : lateP W n N K F (D, U, T, Y) a b := ⟨q, q2, q3⟩
        rw [if_pos q9, if_pos q9]
        rw [if_pos q3] at e1
        obtain ⟨g2, e2, h3, f3⟩ := (h.fr f1).take ha hb q3.2.1
        refine ⟨g2, ?_, h3, f1.w.tr f3⟩
        simp (disch := (first | omega | assumption | trivial)) only [li_0, li_1, li_2, li_3, li_4, li_5, li_6, li_7, li_8, li_9, li_10, li_11, li_12, li_13, li_14, li_15, li_16, li_17, li_18, li_19, li_20, li_21, li_22, li_23, li_24, li_25, li_26, li_27, li_28, li_29, li_30, li_31, li_32, li_33, li_34, li_35, li_36, li_37, li_38, li_39, li_40, li_41, li_42, li_43, li_44, li_45, li_46, li_47, li_48, li_49, li_50, li_51, li_52, li_53, li_54, li_55, li_56, li_57, li_58, li_59, li_60, li_63, li_64, li_72, li_76, li_77, li_91, li_93, li_96, li_97, li_99, li_108, li_109, li_120, li_122, li_150, li_200, li_255, li_400, li_426, li_600, li_900, li_999, li_1000, li_1002, li_1003, li_2000, li_2042, li_2043, li_2045, li_10000, li_32767, li_100000, li_1000000, li_m1, li_m1b, ob_s, lt1_e, se_l, se_r, if_true, if_false, true_and, and_true, false_and, and_false, st_at, i3_add, i3_mul, i3_sub, i3_lt, i3_le, i3_eq, i3_nat, m1_eqi, i3_eqm, m1_lti, m1_lei, i3_ltm, i3_lem, i3_decm, i3_dec0, nm_eqm, yr_eqm, mxor0, Nat.zero_add, if_pos, if_neg, eq_self, ne_eq, not_true_eq_false, not_false_eq_true, fX_State_does, hl, e1, rS3, at8, s2, e2]
      · have q9 : ¬ lateP W n N K F (D, U, T, Y) a b := fun z => q3 z.2.2
        rw [if_neg q9, if_neg q9]
        rw [if_neg q3] at e1
        refine ⟨g1, ?_, h.fr f1, f1.w⟩
        simp (disch := (first | omega | assumption | trivial)) only [li_0, li_1, li_2, li_3, li_4, li_5, li_6, li_7, li_8, li_9, li_10, li_11, li_12, li_13, li_14, li_15, li_16, li_17, li_18, li_19, li_20, li_21, li_22, li_23, li_24, li_25, li_26, li_27, li_28, li_29, li_30, li_31, li_32, li_33, li_34, li_35, li_36, li_37, li_38, li_39, li_40, li_41, li_42, li_43, li_44, li_45, li_46, li_47, li_48, li_49, li_50, li_51, li_52, li_53, li_54, li_55, li_56, li_57, li_58, li_59, li_60, li_63, li_64, li_72, li_76, li_77, li_91, li_93, li_96, li_97, li_99, li_108, li_109, li_120, li_122, li_150, li_200, li_255, li_400, li_426, li_600, li_900, li_999, li_1000, li_1002, li_1003, li_2000, li_2042, li_2043, li_2045, li_10000, li_32767, li_100000, li_1000000, li_m1, li_m1b, ob_s, lt1_e, se_l, se_r, if_true, if_false, true_and, and_true, false_and, and_false, st_at, i3_add, i3_mul, i3_sub, i3_lt, i3_le, i3_eq, i3_nat, m1_eqi, i3_eqm, m1_lti, m1_lei, i3_ltm, i3_lem, i3_decm, i3_dec0, nm_eqm, yr_eqm, mxor0, Nat.zero_add, if_pos, if_neg, eq_self, ne_eq, not_true_eq_false, not_false_eq_true, fX_State_does, hl, e1, rS3, at8, s2]
    · have q9 : ¬ lateP W n N K F (D, U, T, Y) a b := fun z => q2 z.2.1
      rw [if_neg q9, if_neg q9]
      exact ⟨g, by simp (disch := (first | omega | assumption | trivial)) only [li_0, li_1, li_2, li_3, li_4, li_5, li_6, li_7, li_8, li_9, li_10, li_11, li_12, li_13, li_14, li_15, li_16, li_17, li_18, li_19, li_20, li_21, li_22, li_23, li_24, li_25, li_26, li_27, li_28, li_29, li_30, li_31, li_32, li_33, li_34, li_35, li_36, li_37, li_38, li_39, li_40, li_41, li_42, li_43, li_44, li_45, li_46, li_47, li_48, li_49, li_50, li_51, li_52, li_53, li_54, li_55, li_56, li_57, li_58, li_59, li_60, li_63, li_64, li_72, li_76, li_77, li_91, li_93, li_96, li_97, li_99, li_108, li_109, li_120, li_122, li_150, li_200, li_255, li_400, li_426, li_600, li_900, li_999, li_1000, li_1002, li_1003, li_2000, li_2042, li_2043, li_2045, li_10000, li_32767, li_100000, li_1000000, li_m1, li_m1b, ob_s, lt1_e, se_l, se_r, if_true, if_false, true_and, and_true, false_and, and_false, st_at, i3_add, i3_mul, i3_sub, i3_lt, i3_le, i3_eq, i3_nat, m1_eqi, i3_eqm, m1_lti, m1_lei, i3_ltm, i3_lem, i3_decm, i3_dec0, nm_eqm, yr_eqm, mxor0, Nat.zero_add, if_pos, if_neg, eq_self, ne_eq, not_true_eq_false, not_false_eq_true, fX_State_does, hl, rS3, at8, s2], h, FX2.rf⟩
theorem EC.pay (h : EC W n N K F D U T Y th g) {a k : Nat} (ha : a < n) (hk : k ≤ 60) : ∃ g', fX_State_does th (i3 2) (i3 a) (i3 k) g = some (i3 (if 0 < D a then 1 else 0), g') ∧ EC W n N K F (updN D a (D a - k)) U T Y th g' ∧ FX2 th g g' := by
  have hB := h.2.2.1
  have h8 := hB.1
  have hD := hB.2.1 a (by omega)
  have hr := h.1
  obtain ⟨s1, s2, s3, s4⟩ := h.2.1
  by_cases q : 0 < D a
  · refine ⟨st g (3 * th + 7) a (i3 (D a - k)), ?_, h.re FX2.rf.s7 ⟨fun p hp => ?_, fun p hp => ?_, fun p hp => ?_, ?_⟩ (hB.setD ha (by omega)), FX2.rf.s7⟩
    · rw [if_pos q]
      by_cases q2 : k < D a
      · simp (disch := (first | omega | assumption | trivial)) only [li_0, li_1, li_2, li_3, li_4, li_5, li_6, li_7, li_8, li_9, li_10, li_11, li_12, li_13, li_14, li_15, li_16, li_17, li_18, li_19, li_20, li_21, li_22, li_23, li_24, li_25, li_26, li_27, li_28, li_29, li_30, li_31, li_32, li_33, li_34, li_35, li_36, li_37, li_38, li_39, li_40, li_41, li_42, li_43, li_44, li_45, li_46, li_47, li_48, li_49, li_50, li_51, li_52, li_53, li_54, li_55, li_56, li_57, li_58, li_59, li_60, li_63, li_64, li_72, li_76, li_77, li_91, li_93, li_96, li_97, li_99, li_108, li_109, li_120, li_122, li_150, li_200, li_255, li_400, li_426, li_600, li_900, li_999, li_1000, li_1002, li_1003, li_2000, li_2042, li_2043, li_2045, li_10000, li_32767, li_100000, li_1000000, li_m1, li_m1b, ob_s, lt1_e, se_l, se_r, if_true, if_false, true_and, and_true, false_and, and_false, st_at, i3_add, i3_mul, i3_sub, i3_lt, i3_le, i3_eq, i3_nat, m1_eqi, i3_eqm, m1_lti, m1_lei, i3_ltm, i3_lem, i3_decm, i3_dec0, nm_eqm, yr_eqm, mxor0, Nat.zero_add, if_pos, if_neg, eq_self, ne_eq, not_true_eq_false, not_false_eq_true, fX_State_does, rS2, at8, pu8, s1]
      · have e : D a - k = 0 := by omega
        rw [e]
        by_cases q3 : k = D a
        · subst q3
          simp (disch := (first | omega | assumption | trivial)) only [li_0, li_1, li_2, li_3, li_4, li_5, li_6, li_7, li_8, li_9, li_10, li_11, li_12, li_13, li_14, li_15, li_16, li_17, li_18, li_19, li_20, li_21, li_22, li_23, li_24, li_25, li_26, li_27, li_28, li_29, li_30, li_31, li_32, li_33, li_34, li_35, li_36, li_37, li_38, li_39, li_40, li_41, li_42, li_43, li_44, li_45, li_46, li_47, li_48, li_49, li_50, li_51, li_52, li_53, li_54, li_55, li_56, li_57, li_58, li_59, li_60, li_63, li_64, li_72, li_76, li_77, li_91, li_93, li_96, li_97, li_99, li_108, li_109, li_120, li_122, li_150, li_200, li_255, li_400, li_426, li_600, li_900, li_999, li_1000, li_1002, li_1003, li_2000, li_2042, li_2043, li_2045, li_10000, li_32767, li_100000, li_1000000, li_m1, li_m1b, ob_s, lt1_e, se_l, se_r, if_true, if_false, true_and, and_true, false_and, and_false, st_at, i3_add, i3_mul, i3_sub, i3_lt, i3_le, i3_eq, i3_nat, m1_eqi, i3_eqm, m1_lti, m1_lei, i3_ltm, i3_lem, i3_decm, i3_dec0, nm_eqm, yr_eqm, mxor0, Nat.zero_add, if_pos, if_neg, eq_self, ne_eq, not_true_eq_false, not_false_eq_true, fX_State_does, rS2, at8, pu8, s1, Nat.sub_self]
        · have q4 : ¬ (i3 0 < i3 (D a) - i3 k) := fun h9 => Int32.lt_irrefl (Int32.lt_trans h9 (sub_neg (by omega) (by omega)))
          simp (disch := (first | omega | assumption | trivial)) only [li_0, li_1, li_2, li_3, li_4, li_5, li_6, li_7, li_8, li_9, li_10, li_11, li_12, li_13, li_14, li_15, li_16, li_17, li_18, li_19, li_20, li_21, li_22, li_23, li_24, li_25, li_26, li_27, li_28, li_29, li_30, li_31, li_32, li_33, li_34, li_35, li_36, li_37, li_38, li_39, li_40, li_41, li_42, li_43, li_44, li_45, li_46, li_47, li_48, li_49, li_50, li_51, li_52, li_53, li_54, li_55, li_56, li_57, li_58, li_59, li_60, li_63, li_64, li_72, li_76, li_77, li_91, li_93, li_96, li_97, li_99, li_108, li_109, li_120, li_122, li_150, li_200, li_255, li_400, li_426, li_600, li_900, li_999, li_1000, li_1002, li_1003, li_2000, li_2042, li_2043, li_2045, li_10000, li_32767, li_100000, li_1000000, li_m1, li_m1b, ob_s, lt1_e, se_l, se_r, if_true, if_false, true_and, and_true, false_and, and_false, st_at, i3_add, i3_mul, i3_sub, i3_lt, i3_le, i3_eq, i3_nat, m1_eqi, i3_eqm, m1_lti, m1_lei, i3_ltm, i3_lem, i3_decm, i3_dec0, nm_eqm, yr_eqm, mxor0, Nat.zero_add, if_pos, if_neg, eq_self, ne_eq, not_true_eq_false, not_false_eq_true, fX_State_does, rS2, at8, pu8, s1, q4]
    · by_cases q9 : p = a
      · subst q9; rw [st_eq, updN_eq]
      · rw [st_at, if_neg (by omega), updN_ne q9]; exact s1 p hp
    · rw [st_at, if_neg (by omega)]; exact s2 p hp
    · rw [st_at, if_neg (by omega)]; exact s3 p hp
    · rw [st_at, if_neg (by omega)]; exact s4
  · refine ⟨g, ?_, ?_, FX2.rf⟩
    · rw [if_neg q]
      have e : D a = 0 := by omega
      simp (disch := (first | omega | assumption | trivial)) only [li_0, li_1, li_2, li_3, li_4, li_5, li_6, li_7, li_8, li_9, li_10, li_11, li_12, li_13, li_14, li_15, li_16, li_17, li_18, li_19, li_20, li_21, li_22, li_23, li_24, li_25, li_26, li_27, li_28, li_29, li_30, li_31, li_32, li_33, li_34, li_35, li_36, li_37, li_38, li_39, li_40, li_41, li_42, li_43, li_44, li_45, li_46, li_47, li_48, li_49, li_50, li_51, li_52, li_53, li_54, li_55, li_56, li_57, li_58, li_59, li_60, li_63, li_64, li_72, li_76, li_77, li_91, li_93, li_96, li_97, li_99, li_108, li_109, li_120, li_122, li_150, li_200, li_255, li_400, li_426, li_600, li_900, li_999, li_1000, li_1002, li_1003, li_2000, li_2042, li_2043, li_2045, li_10000, li_32767, li_100000, li_1000000, li_m1, li_m1b, ob_s, lt1_e, se_l, se_r, if_true, if_false, true_and, and_true, false_and, and_false, st_at, i3_add, i3_mul, i3_sub, i3_lt, i3_le, i3_eq, i3_nat, m1_eqi, i3_eqm, m1_lti, m1_lei, i3_ltm, i3_lem, i3_decm, i3_dec0, nm_eqm, yr_eqm, mxor0, Nat.zero_add, if_pos, if_neg, eq_self, ne_eq, not_true_eq_false, not_false_eq_true, fX_State_does, rS2, at8, s1, e]
    · have e : updN D a (D a - k) = D := by
        funext p
        unfold updN
        by_cases q2 : p = a
        · subst q2; rw [if_pos rfl]; omega
        · rw [if_neg q2]
      rw [e]
      exact h
theorem EC.owe (h : EC W n N K F D U T Y th g) {a k : Nat} (ha : a < n) (hk : k ≤ 60) : ∃ g', fX_State_does th (i3 3) (i3 a) (i3 k) g = some (i3 (if T a = 0 ∧ D a < 999 then 1 else 0), g') ∧ EC W n N K F (oweS (D, U, T, Y) a k).1 U T Y th g' ∧ FX2 th g g' := by
  have hB := h.2.2.1
  have h8 := hB.1
  have hD := hB.2.1 a (by omega)
  have hr := h.1
  have hl := h.lives ha
  have s1 := h.2.1.1
  by_cases q : T a = 0
  · by_cases q2 : D a < 999
    · obtain ⟨g', e, h2, f⟩ := h.owes ha (k := k) (by omega)
      refine ⟨g', ?_, ?_, f⟩
      · simp (disch := (first | omega | assumption | trivial)) only [li_0, li_1, li_2, li_3, li_4, li_5, li_6, li_7, li_8, li_9, li_10, li_11, li_12, li_13, li_14, li_15, li_16, li_17, li_18, li_19, li_20, li_21, li_22, li_23, li_24, li_25, li_26, li_27, li_28, li_29, li_30, li_31, li_32, li_33, li_34, li_35, li_36, li_37, li_38, li_39, li_40, li_41, li_42, li_43, li_44, li_45, li_46, li_47, li_48, li_49, li_50, li_51, li_52, li_53, li_54, li_55, li_56, li_57, li_58, li_59, li_60, li_63, li_64, li_72, li_76, li_77, li_91, li_93, li_96, li_97, li_99, li_108, li_109, li_120, li_122, li_150, li_200, li_255, li_400, li_426, li_600, li_900, li_999, li_1000, li_1002, li_1003, li_2000, li_2042, li_2043, li_2045, li_10000, li_32767, li_100000, li_1000000, li_m1, li_m1b, ob_s, lt1_e, se_l, se_r, if_true, if_false, true_and, and_true, false_and, and_false, st_at, i3_add, i3_mul, i3_sub, i3_lt, i3_le, i3_eq, i3_nat, m1_eqi, i3_eqm, m1_lti, m1_lei, i3_ltm, i3_lem, i3_decm, i3_dec0, nm_eqm, yr_eqm, mxor0, Nat.zero_add, if_pos, if_neg, eq_self, ne_eq, not_true_eq_false, not_false_eq_true, fX_State_does, hl, rS2, at8, s1, e]
      · unfold oweS
        rw [if_pos q]
        exact h2
    · refine ⟨g, ?_, ?_, FX2.rf⟩
      · simp (disch := (first | omega | assumption | trivial)) only [li_0, li_1, li_2, li_3, li_4, li_5, li_6, li_7, li_8, li_9, li_10, li_11, li_12, li_13, li_14, li_15, li_16, li_17, li_18, li_19, li_20, li_21, li_22, li_23, li_24, li_25, li_26, li_27, li_28, li_29, li_30, li_31, li_32, li_33, li_34, li_35, li_36, li_37, li_38, li_39, li_40, li_41, li_42, li_43, li_44, li_45, li_46, li_47, li_48, li_49, li_50, li_51, li_52, li_53, li_54, li_55, li_56, li_57, li_58, li_59, li_60, li_63, li_64, li_72, li_76, li_77, li_91, li_93, li_96, li_97, li_99, li_108, li_109, li_120, li_122, li_150, li_200, li_255, li_400, li_426, li_600, li_900, li_999, li_1000, li_1002, li_1003, li_2000, li_2042, li_2043, li_2045, li_10000, li_32767, li_100000, li_1000000, li_m1, li_m1b, ob_s, lt1_e, se_l, se_r, if_true, if_false, true_and, and_true, false_and, and_false, st_at, i3_add, i3_mul, i3_sub, i3_lt, i3_le, i3_eq, i3_nat, m1_eqi, i3_eqm, m1_lti, m1_lei, i3_ltm, i3_lem, i3_decm, i3_dec0, nm_eqm, yr_eqm, mxor0, Nat.zero_add, if_pos, if_neg, eq_self, ne_eq, not_true_eq_false, not_false_eq_true, fX_State_does, hl, rS2, at8, s1]
      · unfold oweS
        rw [if_pos q]
        have e : oweD D a k = D := by
          funext p
          unfold oweD updN cap
          by_cases q3 : p = a
          · subst q3; rw [if_pos rfl, if_neg (by omega)]; omega
          · rw [if_neg q3]
        show EC W n N K F (oweD D a k) U T Y th g
        rw [e]
        exact h
  · refine ⟨g, ?_, ?_, FX2.rf⟩
    · simp (disch := (first | omega | assumption | trivial)) only [li_0, li_1, li_2, li_3, li_4, li_5, li_6, li_7, li_8, li_9, li_10, li_11, li_12, li_13, li_14, li_15, li_16, li_17, li_18, li_19, li_20, li_21, li_22, li_23, li_24, li_25, li_26, li_27, li_28, li_29, li_30, li_31, li_32, li_33, li_34, li_35, li_36, li_37, li_38, li_39, li_40, li_41, li_42, li_43, li_44, li_45, li_46, li_47, li_48, li_49, li_50, li_51, li_52, li_53, li_54, li_55, li_56, li_57, li_58, li_59, li_60, li_63, li_64, li_72, li_76, li_77, li_91, li_93, li_96, li_97, li_99, li_108, li_109, li_120, li_122, li_150, li_200, li_255, li_400, li_426, li_600, li_900, li_999, li_1000, li_1002, li_1003, li_2000, li_2042, li_2043, li_2045, li_10000, li_32767, li_100000, li_1000000, li_m1, li_m1b, ob_s, lt1_e, se_l, se_r, if_true, if_false, true_and, and_true, false_and, and_false, st_at, i3_add, i3_mul, i3_sub, i3_lt, i3_le, i3_eq, i3_nat, m1_eqi, i3_eqm, m1_lti, m1_lei, i3_ltm, i3_lem, i3_decm, i3_dec0, nm_eqm, yr_eqm, mxor0, Nat.zero_add, if_pos, if_neg, eq_self, ne_eq, not_true_eq_false, not_false_eq_true, fX_State_does, hl]
    · unfold oweS
      rw [if_neg q]
      exact h
theorem EC.passYear (h : EC W n N K F D U T Y th g) (hY : Y < 1900) : ∃ g', fX_State_passYear th g = some g' ∧ EC W n N K F (yrD D U T n) U T (Y + 1) th g' ∧ FX2 th g g' := by
  have h8 := h.2.2.1.1
  have key : ∃ z : St, lp (fX_State_passYear_L2 th) fuel (i3 0, g) = some z ∧ EC W n N K F (yrD D U T n) U T Y th z ∧ FX2 th g z := by
    refine lp_all (fun k s => ∃ g1, s = (i3 k, g1) ∧ EC W n N K F (yrD D U T k) U T Y th g1 ∧ FX2 th g g1) (fun z => EC W n N K F (yrD D U T n) U T Y th z ∧ FX2 th g z) n (by omega) ?_ ?_ ⟨g, rfl, ?_, FX2.rf⟩
    · rintro k s hk ⟨g1, rfl, h1, f1⟩
      have hn := h1.2.2.2.1.1
      have hl := h1.lives hk
      have hs := h1.stonesOf (a := k) (by omega)
      have hs8 := st8_le U k
      by_cases q : T k = 0
      · obtain ⟨g2, e2, h2, f2⟩ := h1.owes hk (k := st8 U k) (by omega)
        refine ⟨_, ?_, g2, rfl, ?_, f1.tr f2⟩
        · simp (disch := (first | omega | assumption | trivial)) only [li_0, li_1, li_2, li_3, li_4, li_5, li_6, li_7, li_8, li_9, li_10, li_11, li_12, li_13, li_14, li_15, li_16, li_17, li_18, li_19, li_20, li_21, li_22, li_23, li_24, li_25, li_26, li_27, li_28, li_29, li_30, li_31, li_32, li_33, li_34, li_35, li_36, li_37, li_38, li_39, li_40, li_41, li_42, li_43, li_44, li_45, li_46, li_47, li_48, li_49, li_50, li_51, li_52, li_53, li_54, li_55, li_56, li_57, li_58, li_59, li_60, li_63, li_64, li_72, li_76, li_77, li_91, li_93, li_96, li_97, li_99, li_108, li_109, li_120, li_122, li_150, li_200, li_255, li_400, li_426, li_600, li_900, li_999, li_1000, li_1002, li_1003, li_2000, li_2042, li_2043, li_2045, li_10000, li_32767, li_100000, li_1000000, li_m1, li_m1b, ob_s, lt1_e, se_l, se_r, if_true, if_false, true_and, and_true, false_and, and_false, st_at, i3_add, i3_mul, i3_sub, i3_lt, i3_le, i3_eq, i3_nat, m1_eqi, i3_eqm, m1_lti, m1_lei, i3_ltm, i3_lem, i3_decm, i3_dec0, nm_eqm, yr_eqm, mxor0, Nat.zero_add, if_pos, if_neg, eq_self, ne_eq, not_true_eq_false, not_false_eq_true, fX_State_passYear_L2, fX_State_passYear_b31, hn, hl, hs, e2]
        · have e : oweD (yrD D U T k) k (st8 U k) = yrD D U T (k + 1) := by
            funext p
            unfold oweD updN yrD
            by_cases q3 : p = k
            · subst q3; simp (disch := (first | omega | assumption | trivial)) only [li_0, li_1, li_2, li_3, li_4, li_5, li_6, li_7, li_8, li_9, li_10, li_11, li_12, li_13, li_14, li_15, li_16, li_17, li_18, li_19, li_20, li_21, li_22, li_23, li_24, li_25, li_26, li_27, li_28, li_29, li_30, li_31, li_32, li_33, li_34, li_35, li_36, li_37, li_38, li_39, li_40, li_41, li_42, li_43, li_44, li_45, li_46, li_47, li_48, li_49, li_50, li_51, li_52, li_53, li_54, li_55, li_56, li_57, li_58, li_59, li_60, li_63, li_64, li_72, li_76, li_77, li_91, li_93, li_96, li_97, li_99, li_108, li_109, li_120, li_122, li_150, li_200, li_255, li_400, li_426, li_600, li_900, li_999, li_1000, li_1002, li_1003, li_2000, li_2042, li_2043, li_2045, li_10000, li_32767, li_100000, li_1000000, li_m1, li_m1b, ob_s, lt1_e, se_l, se_r, if_true, if_false, true_and, and_true, false_and, and_false, st_at, i3_add, i3_mul, i3_sub, i3_lt, i3_le, i3_eq, i3_nat, m1_eqi, i3_eqm, m1_lti, m1_lei, i3_ltm, i3_lem, i3_decm, i3_dec0, nm_eqm, yr_eqm, mxor0, Nat.zero_add, if_pos, if_neg, eq_self, ne_eq, not_true_eq_false, not_false_eq_true]
            · by_cases q4 : p < k ∧ T p = 0
              · simp (disch := (first | omega | assumption | trivial)) only [li_0, li_1, li_2, li_3, li_4, li_5, li_6, li_7, li_8, li_9, li_10, li_11, li_12, li_13, li_14, li_15, li_16, li_17, li_18, li_19, li_20, li_21, li_22, li_23, li_24, li_25, li_26, li_27, li_28, li_29, li_30, li_31, li_32, li_33, li_34, li_35, li_36, li_37, li_38, li_39, li_40, li_41, li_42, li_43, li_44, li_45, li_46, li_47, li_48, li_49, li_50, li_51, li_52, li_53, li_54, li_55, li_56, li_57, li_58, li_59, li_60, li_63, li_64, li_72, li_76, li_77, li_91, li_93, li_96, li_97, li_99, li_108, li_109, li_120, li_122, li_150, li_200, li_255, li_400, li_426, li_600, li_900, li_999, li_1000, li_1002, li_1003, li_2000, li_2042, li_2043, li_2045, li_10000, li_32767, li_100000, li_1000000, li_m1, li_m1b, ob_s, lt1_e, se_l, se_r, if_true, if_false, true_and, and_true, false_and, and_false, st_at, i3_add, i3_mul, i3_sub, i3_lt, i3_le, i3_eq, i3_nat, m1_eqi, i3_eqm, m1_lti, m1_lei, i3_ltm, i3_lem, i3_decm, i3_dec0, nm_eqm, yr_eqm, mxor0, Nat.zero_add, if_pos, if_neg, eq_self, ne_eq, not_true_eq_false, not_false_eq_true]
              · simp (disch := (first | omega | assumption | trivial)) only [li_0, li_1, li_2, li_3, li_4, li_5, li_6, li_7, li_8, li_9, li_10, li_11, li_12, li_13, li_14, li_15, li_16, li_17, li_18, li_19, li_20, li_21, li_22, li_23, li_24, li_25, li_26, li_27, li_28, li_29, li_30, li_31, li_32, li_33, li_34, li_35, li_36, li_37, li_38, li_39, li_40, li_41, li_42, li_43, li_44, li_45, li_46, li_47, li_48, li_49, li_50, li_51, li_52, li_53, li_54, li_55, li_56, li_57, li_58, li_59, li_60, li_63, li_64, li_72, li_76, li_77, li_91, li_93, li_96, li_97, li_99, li_108, li_109, li_120, li_122, li_150, li_200, li_255, li_400, li_426, li_600, li_900, li_999, li_1000, li_1002, li_1003, li_2000, li_2042, li_2043, li_2045, li_10000, li_32767, li_100000, li_1000000, li_m1, li_m1b, ob_s, lt1_e, se_l, se_r, if_true, if_false, true_and, and_true, false_and, and_false, st_at, i3_add, i3_mul, i3_sub, i3_lt, i3_le, i3_eq, i3_nat, m1_eqi, i3_eqm, m1_lti, m1_lei, i3_ltm, i3_lem, i3_decm, i3_dec0, nm_eqm, yr_eqm, mxor0, Nat.zero_add, if_pos, if_neg, eq_self, ne_eq, not_true_eq_false, not_false_eq_true]
          rw [← e]
          exact h2
      · refine ⟨_, ?_, g1, rfl, ?_, f1⟩
        · simp (disch := (first | omega | assumption | trivial)) only [li_0, li_1, li_2, li_3, li_4, li_5, li_6, li_7, li_8, li_9, li_10, li_11, li_12, li_13, li_14, li_15, li_16, li_17, li_18, li_19, li_20, li_21, li_22, li_23, li_24, li_25, li_26, li_27, li_28, li_29, li_30, li_31, li_32, li_33, li_34, li_35, li_36, li_37, li_38, li_39, li_40, li_41, li_42, li_43, li_44, li_45, li_46, li_47, li_48, li_49, li_50, li_51, li_52, li_53, li_54, li_55, li_56, li_57, li_58, li_59, li_60, li_63, li_64, li_72, li_76, li_77, li_91, li_93, li_96, li_97, li_99, li_108, li_109, li_120, li_122, li_150, li_200, li_255, li_400, li_426, li_600, li_900, li_999, li_1000, li_1002, li_1003, li_2000, li_2042, li_2043, li_2045, li_10000, li_32767, li_100000, li_1000000, li_m1, li_m1b, ob_s, lt1_e, se_l, se_r, if_true, if_false, true_and, and_true, false_and, and_false, st_at, i3_add, i3_mul, i3_sub, i3_lt, i3_le, i3_eq, i3_nat, m1_eqi, i3_eqm, m1_lti, m1_lei, i3_ltm, i3_lem, i3_decm, i3_dec0, nm_eqm, yr_eqm, mxor0, Nat.zero_add, if_pos, if_neg, eq_self, ne_eq, not_true_eq_false, not_false_eq_true, fX_State_passYear_L2, fX_State_passYear_b31, hn, hl]
        · have e : yrD D U T k = yrD D U T (k + 1) := by
            funext p
            unfold yrD
            by_cases q3 : p = k
            · subst q3; simp (disch := (first | omega | assumption | trivial)) only [li_0, li_1, li_2, li_3, li_4, li_5, li_6, li_7, li_8, li_9, li_10, li_11, li_12, li_13, li_14, li_15, li_16, li_17, li_18, li_19, li_20, li_21, li_22, li_23, li_24, li_25, li_26, li_27, li_28, li_29, li_30, li_31, li_32, li_33, li_34, li_35, li_36, li_37, li_38, li_39, li_40, li_41, li_42, li_43, li_44, li_45, li_46, li_47, li_48, li_49, li_50, li_51, li_52, li_53, li_54, li_55, li_56, li_57, li_58, li_59, li_60, li_63, li_64, li_72, li_76, li_77, li_91, li_93, li_96, li_97, li_99, li_108, li_109, li_120, li_122, li_150, li_200, li_255, li_400, li_426, li_600, li_900, li_999, li_1000, li_1002, li_1003, li_2000, li_2042, li_2043, li_2045, li_10000, li_32767, li_100000, li_1000000, li_m1, li_m1b, ob_s, lt1_e, se_l, se_r, if_true, if_false, true_and, and_true, false_and, and_false, st_at, i3_add, i3_mul, i3_sub, i3_lt, i3_le, i3_eq, i3_nat, m1_eqi, i3_eqm, m1_lti, m1_lei, i3_ltm, i3_lem, i3_decm, i3_dec0, nm_eqm, yr_eqm, mxor0, Nat.zero_add, if_pos, if_neg, eq_self, ne_eq, not_true_eq_false, not_false_eq_true]
            · by_cases q4 : p < k ∧ T p = 0
              · simp (disch := (first | omega | assumption | trivial)) only [li_0, li_1, li_2, li_3, li_4, li_5, li_6, li_7, li_8, li_9, li_10, li_11, li_12, li_13, li_14, li_15, li_16, li_17, li_18, li_19, li_20, li_21, li_22, li_23, li_24, li_25, li_26, li_27, li_28, li_29, li_30, li_31, li_32, li_33, li_34, li_35, li_36, li_37, li_38, li_39, li_40, li_41, li_42, li_43, li_44, li_45, li_46, li_47, li_48, li_49, li_50, li_51, li_52, li_53, li_54, li_55, li_56, li_57, li_58, li_59, li_60, li_63, li_64, li_72, li_76, li_77, li_91, li_93, li_96, li_97, li_99, li_108, li_109, li_120, li_122, li_150, li_200, li_255, li_400, li_426, li_600, li_900, li_999, li_1000, li_1002, li_1003, li_2000, li_2042, li_2043, li_2045, li_10000, li_32767, li_100000, li_1000000, li_m1, li_m1b, ob_s, lt1_e, se_l, se_r, if_true, if_false, true_and, and_true, false_and, and_false, st_at, i3_add, i3_mul, i3_sub, i3_lt, i3_le, i3_eq, i3_nat, m1_eqi, i3_eqm, m1_lti, m1_lei, i3_ltm, i3_lem, i3_decm, i3_dec0, nm_eqm, yr_eqm, mxor0, Nat.zero_add, if_pos, if_neg, eq_self, ne_eq, not_true_eq_false, not_false_eq_true]
              · simp (disch := (first | omega | assumption | trivial)) only [li_0, li_1, li_2, li_3, li_4, li_5, li_6, li_7, li_8, li_9, li_10, li_11, li_12, li_13, li_14, li_15, li_16, li_17, li_18, li_19, li_20, li_21, li_22, li_23, li_24, li_25, li_26, li_27, li_28, li_29, li_30, li_31, li_32, li_33, li_34, li_35, li_36, li_37, li_38, li_39, li_40, li_41, li_42, li_43, li_44, li_45, li_46, li_47, li_48, li_49, li_50, li_51, li_52, li_53, li_54, li_55, li_56, li_57, li_58, li_59, li_60, li_63, li_64, li_72, li_76, li_77, li_91, li_93, li_96, li_97, li_99, li_108, li_109, li_120, li_122, li_150, li_200, li_255, li_400, li_426, li_600, li_900, li_999, li_1000, li_1002, li_1003, li_2000, li_2042, li_2043, li_2045, li_10000, li_32767, li_100000, li_1000000, li_m1, li_m1b, ob_s, lt1_e, se_l, se_r, if_true, if_false, true_and, and_true, false_and, and_false, st_at, i3_add, i3_mul, i3_sub, i3_lt, i3_le, i3_eq, i3_nat, m1_eqi, i3_eqm, m1_lti, m1_lei, i3_ltm, i3_lem, i3_decm, i3_dec0, nm_eqm, yr_eqm, mxor0, Nat.zero_add, if_pos, if_neg, eq_self, ne_eq, not_true_eq_false, not_false_eq_true]
          rw [← e]
          exact h1
    · rintro s ⟨g1, rfl, h1, f1⟩
      have hn := h1.2.2.2.1.1
      refine ⟨g1, ?_, h1, f1⟩
      simp (disch := (first | omega | assumption | trivial)) only [li_0, li_1, li_2, li_3, li_4, li_5, li_6, li_7, li_8, li_9, li_10, li_11, li_12, li_13, li_14, li_15, li_16, li_17, li_18, li_19, li_20, li_21, li_22, li_23, li_24, li_25, li_26, li_27, li_28, li_29, li_30, li_31, li_32, li_33, li_34, li_35, li_36, li_37, li_38, li_39, li_40, li_41, li_42, li_43, li_44, li_45, li_46, li_47, li_48, li_49, li_50, li_51, li_52, li_53, li_54, li_55, li_56, li_57, li_58, li_59, li_60, li_63, li_64, li_72, li_76, li_77, li_91, li_93, li_96, li_97, li_99, li_108, li_109, li_120, li_122, li_150, li_200, li_255, li_400, li_426, li_600, li_900, li_999, li_1000, li_1002, li_1003, li_2000, li_2042, li_2043, li_2045, li_10000, li_32767, li_100000, li_1000000, li_m1, li_m1b, ob_s, lt1_e, se_l, se_r, if_true, if_false, true_and, and_true, false_and, and_false, st_at, i3_add, i3_mul, i3_sub, i3_lt, i3_le, i3_eq, i3_nat, m1_eqi, i3_eqm, m1_lti, m1_lei, i3_ltm, i3_lem, i3_decm, i3_dec0, nm_eqm, yr_eqm, mxor0, Nat.zero_add, if_pos, if_neg, eq_self, ne_eq, not_true_eq_false, not_false_eq_true, fX_State_passYear_L2, hn]
    · have e : yrD D U T 0 = D := by
        funext p
        unfold yrD
        rw [if_neg (by omega)]
      rw [e]
      exact h
  obtain ⟨z, e, h1, f1⟩ := key
  have hr := h.1
  obtain ⟨s1, s2, s3, s4⟩ := h1.2.1
  refine ⟨st z th 5 (i3 (Y + 1)), ?_, h1.re FX2.rf.s0 ⟨fun p hp => ?_, fun p hp => ?_, fun p hp => ?_, ?_⟩ ⟨h1.2.2.1.1, h1.2.2.1.2.1, h1.2.2.1.2.2.1, h1.2.2.1.2.2.2.1, by omega, h1.2.2.1.2.2.2.2.2⟩, f1.s0⟩
  · simp only [fX_State_passYear, fX_State_passYear_b2, li_0, li_1, li_2, li_3, li_4, li_5, li_6, li_7, li_8, li_9, li_10, li_11, li_12, li_13, li_14, li_15, li_16, li_17, li_18, li_19, li_20, li_21, li_22, li_23, li_24, li_25, li_26, li_27, li_28, li_29, li_30, li_31, li_32, li_33, li_34, li_35, li_36, li_37, li_38, li_39, li_40, li_41, li_42, li_43, li_44, li_45, li_46, li_47, li_48, li_49, li_50, li_51, li_52, li_53, li_54, li_55, li_56, li_57, li_58, li_59, li_60, li_63, li_64, li_72, li_76, li_77, li_91, li_93, li_96, li_97, li_99, li_108, li_109, li_120, li_122, li_150, li_200, li_255, li_400, li_426, li_600, li_900, li_999, li_1000, li_1002, li_1003, li_2000, li_2042, li_2043, li_2045, li_10000, li_32767, li_100000, li_1000000, li_m1, li_m1b]
    rw [e]
    show some (st z th 5 (z th 5 + i3 1)) = _
    rw [s4, i3_add]
  · rw [st_at, if_neg (by omega)]; exact s1 p hp
  · rw [st_at, if_neg (by omega)]; exact s2 p hp
  · rw [st_at, if_neg (by omega)]; exact s3 p hp
  · rw [st_eq]
theorem EC.year (h : EC W n N K F D U T Y th g) (x2 x3 : Int32) : ∃ g', fX_State_does th (i3 4) x2 x3 g = some (i3 (if Y < 900 then 1 else 0), g') ∧ EC W n N K F (if Y < 900 then yrD D U T n else D) U T (if Y < 900 then Y + 1 else Y) th g' ∧ FX2 th g g' := by
  have hB := h.2.2.1
  have hY := hB.2.2.2.2.1
  have s4 := h.2.1.2.2.2
  by_cases q : Y < 900
  · obtain ⟨g', e, h2, f⟩ := h.passYear (by omega)
    refine ⟨g', ?_, ?_, f⟩
    · simp (disch := (first | omega | assumption | trivial)) only [li_0, li_1, li_2, li_3, li_4, li_5, li_6, li_7, li_8, li_9, li_10, li_11, li_12, li_13, li_14, li_15, li_16, li_17, li_18, li_19, li_20, li_21, li_22, li_23, li_24, li_25, li_26, li_27, li_28, li_29, li_30, li_31, li_32, li_33, li_34, li_35, li_36, li_37, li_38, li_39, li_40, li_41, li_42, li_43, li_44, li_45, li_46, li_47, li_48, li_49, li_50, li_51, li_52, li_53, li_54, li_55, li_56, li_57, li_58, li_59, li_60, li_63, li_64, li_72, li_76, li_77, li_91, li_93, li_96, li_97, li_99, li_108, li_109, li_120, li_122, li_150, li_200, li_255, li_400, li_426, li_600, li_900, li_999, li_1000, li_1002, li_1003, li_2000, li_2042, li_2043, li_2045, li_10000, li_32767, li_100000, li_1000000, li_m1, li_m1b, ob_s, lt1_e, se_l, se_r, if_true, if_false, true_and, and_true, false_and, and_false, st_at, i3_add, i3_mul, i3_sub, i3_lt, i3_le, i3_eq, i3_nat, m1_eqi, i3_eqm, m1_lti, m1_lei, i3_ltm, i3_lem, i3_decm, i3_dec0, nm_eqm, yr_eqm, mxor0, Nat.zero_add, if_pos, if_neg, eq_self, ne_eq, not_true_eq_false, not_false_eq_true, fX_State_does, s4, e]
    · rw [if_pos q, if_pos q]; exact h2
  · refine ⟨g, ?_, ?_, FX2.rf⟩
    · simp (disch := (first | omega | assumption | trivial)) only [li_0, li_1, li_2, li_3, li_4, li_5, li_6, li_7, li_8, li_9, li_10, li_11, li_12, li_13, li_14, li_15, li_16, li_17, li_18, li_19, li_20, li_21, li_22, li_23, li_24, li_25, li_26, li_27, li_28, li_29, li_30, li_31, li_32, li_33, li_34, li_35, li_36, li_37, li_38, li_39, li_40, li_41, li_42, li_43, li_44, li_45, li_46, li_47, li_48, li_49, li_50, li_51, li_52, li_53, li_54, li_55, li_56, li_57, li_58, li_59, li_60, li_63, li_64, li_72, li_76, li_77, li_91, li_93, li_96, li_97, li_99, li_108, li_109, li_120, li_122, li_150, li_200, li_255, li_400, li_426, li_600, li_900, li_999, li_1000, li_1002, li_1003, li_2000, li_2042, li_2043, li_2045, li_10000, li_32767, li_100000, li_1000000, li_m1, li_m1b, ob_s, lt1_e, se_l, se_r, if_true, if_false, true_and, and_true, false_and, and_false, st_at, i3_add, i3_mul, i3_sub, i3_lt, i3_le, i3_eq, i3_nat, m1_eqi, i3_eqm, m1_lti, m1_lei, i3_ltm, i3_lem, i3_decm, i3_dec0, nm_eqm, yr_eqm, mxor0, Nat.zero_add, if_pos, if_neg, eq_self, ne_eq, not_true_eq_false, not_false_eq_true, fX_State_does, s4]
    · rw [if_neg q, if_neg q]; exact h
end CT
