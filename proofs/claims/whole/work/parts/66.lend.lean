/-! PURE: lenders -/
def updN (f : Nat → Nat) (b v : Nat) : Nat → Nat := fun p => if p = b then v else f p
theorem updN_eq (f : Nat → Nat) (b v : Nat) : updN f b v b = v := if_pos rfl
theorem updN_ne {f : Nat → Nat} {b v p : Nat} (h : p ≠ b) : updN f b v p = f p := if_neg h
theorem lnP_T {W : (Nat → Nat) → Nat} {n N : Nat} {K F D U T T' : Nat → Nat} {Y b : Nat} (h : ∀ p, p < n → (T p = 0 ↔ T' p = 0)) : ∀ k, k ≤ n → lnP W n N K F D U T Y b k = lnP W n N K F D U T' Y b k
  | 0, _ => rfl
  | k + 1, hk => by
    have e1 : cntB (fun p => decide (T p = 0)) n = cntB (fun p => decide (T' p = 0)) n := cnt_congr n (fun p hp => decide_eq_decide.mpr (h p hp))
    have e2 : fcts n K F D U T Y k b = fcts n K F D U T' Y k b := by
      unfold fcts
      rw [e1]
    have e3 : wl W n K F D U T Y k b = wl W n K F D U T' Y k b := by
      unfold wl
      rw [e2]
    have e4 : (T k = 0) = (T' k = 0) := propext (h k (by omega))
    unfold lnP
    simp only [ldb, e3, e4, lnP_T h k (by omega)]
theorem lnd_T {W : (Nat → Nat) → Nat} {n N : Nat} {K F D U T T' : Nat → Nat} {Y b : Nat} (h : ∀ p, p < n → (T p = 0 ↔ T' p = 0)) : lnd W n N K F D U T Y b = lnd W n N K F D U T' Y b := congrArg Prod.fst (lnP_T h n (Nat.le_refl n))
theorem lnd_lt {W : (Nat → Nat) → Nat} {n N : Nat} {K F D U T : Nat → Nat} {Y b : Nat} (hW : ∀ f, W f ≤ 99) : lnd W n N K F D U T Y b = 8 ∨ lnd W n N K F D U T Y b < n := by
  have h := lnP_ok W n N K F D U T Y b hW n
  unfold lnd
  omega
/-- who lends is one of those who live, another one, and has room -/
theorem lnP_is {W : (Nat → Nat) → Nat} {n N : Nat} {K F D U T : Nat → Nat} {Y b : Nat} : ∀ k, (lnP W n N K F D U T Y b k).1 = 8 ∨ ldb W n N K F D U T Y (lnP W n N K F D U T Y b k).1 b
  | 0 => Or.inl rfl
  | k + 1 => by
    rw [show lnP W n N K F D U T Y b (k + 1) = if ldb W n N K F D U T Y k b ∧ (lnP W n N K F D U T Y b k).2 < wl W n K F D U T Y k b then (k, wl W n K F D U T Y k b) else lnP W n N K F D U T Y b k from rfl]
    by_cases q : ldb W n N K F D U T Y k b ∧ (lnP W n N K F D U T Y b k).2 < wl W n K F D U T Y k b
    · rw [if_pos q]; exact Or.inr q.1
    · rw [if_neg q]; exact lnP_is k
theorem lnd_is {W : (Nat → Nat) → Nat} {n N : Nat} {K F D U T : Nat → Nat} {Y b : Nat} : lnd W n N K F D U T Y b = 8 ∨ ldb W n N K F D U T Y (lnd W n N K F D U T Y b) b := lnP_is n
theorem off_bit : ∀ b, b < 8 → ∀ p, p < 8 → (255 - 1 <<< b).testBit p = decide (p ≠ b) := by decide
theorem one_bit (b p : Nat) : (1 <<< b).testBit p = decide (b = p) := by rw [Nat.one_shiftLeft, Nat.testBit_two_pow]
theorem BD.upT {n : Nat} {D U T : Nat → Nat} {Y : Nat} (h : BD n D U T Y) {b v : Nat} (hb : b < n) (hv : v ≤ 2000) : BD n D U (updN T b v) Y := by
  obtain ⟨h8, hD, hU, hT, hY, h0⟩ := h
  refine ⟨h8, hD, hU, fun p hp => ?_, hY, fun p h1 h2 => ?_⟩
  · unfold updN
    by_cases q : p = b
    · rw [if_pos q]; exact hv
    · rw [if_neg q]; exact hT p hp
  · rw [updN_ne (by omega)]
    exact h0 p h1 h2
theorem msk_off {T : Nat → Nat} {n b v : Nat} (h8 : n ≤ 8) (hb : b < n) (hv : v ≠ 0) : msk (fun p => decide (T p = 0)) n &&& (255 - 1 <<< b) = msk (fun p => decide (updN T b v p = 0)) n := by
  apply Nat.eq_of_testBit_eq
  intro p
  rw [Nat.testBit_and, msk_bit, msk_bit]
  by_cases hp : p < n
  · rw [off_bit b (by omega) p (by omega)]
    by_cases q : p = b
    · subst q; simp [updN, hv]
    · simp [updN, q]
  · simp [hp]
theorem msk_on {T : Nat → Nat} {n b v : Nat} (hb : b < n) (hv : v ≠ 0) (h0 : T b = 0) : msk (fun p => decide (updN T b v p = 0)) n ||| 1 <<< b = msk (fun p => decide (T p = 0)) n := by
  apply Nat.eq_of_testBit_eq
  intro p
  rw [Nat.testBit_or, msk_bit, msk_bit, one_bit]
  by_cases q : p = b
  · subst q; simp [hb, h0]
  · simp [updN, q]
    omega
theorem upd_same {f : Nat → Int32} {i : Nat} {v : Int32} (h : f i = v) : upd f i v = f := by
  funext k
  unfold upd
  by_cases q : k = i
  · subst q; simp [h]
  · simp [q]
theorem st_row (g : St) (p i : Nat) (v : Int32) : st g p i v p = upd (g p) i v := by unfold st; rw [if_pos rfl]
section ML
variable {W : (Nat → Nat) → Nat} {n N : Nat} {K F D U T : Nat → Nat} {Y r : Nat} {g : St}
theorem EM.setL (h : EM W n N K F D U T Y r g) {b v : Nat} (hb : b < n) (hv : v ≤ 2000) (h1 : v ≠ 0) : EM W n N K F D U (updN T b v) Y r (st g r 24 (i3 (msk (fun p => decide (updN T b v p = 0)) n))) := by
  obtain ⟨hr, ⟨s1, s2, s3, s4⟩, hB, hC, hL, hW⟩ := h
  have h1 := rowM_or hr
  have h8 := hB.1
  refine ⟨hr, ⟨fun p hp => ?_, fun p hp => ?_, ?_, ?_⟩, hB.upT hb hv, hC.fr h8 (st_ne (by omega)) (st_ne (by omega)) (fun p hp => st_ne (by omega)), hL.fr ?_ (fun p a b => st_ne (by omega)), hW⟩
  · rw [st_at, if_neg (by omega)]; exact s1 p hp
  · rw [st_at, if_neg (by omega)]; exact s2 p hp
  · rw [st_at, if_pos ⟨rfl, rfl⟩]
  · rw [st_at, if_neg (by omega)]; exact s4
  · rw [st_at, if_neg (by omega)]
theorem EM.lenderIf (h : EM W n N K F D U T Y r g) {b v : Nat} (hb : b < n) (h0 : T b = 0) (hv : v ≤ 2000) (h1 : v ≠ 0) : ∃ g', fM_lenderIf r (i3 b) g = some (nm (lnd W n N K F D U (updN T b v) Y b), g') ∧ FM1 g g' := by
  have h8 := h.2.2.1.1
  have hr := h.1
  have hro := rowM_or hr
  have s3 := h.2.1.2.2.1
  have hl := rowM_len hr
  have e0 : (g r 24 &&& ((i3 1 <<< (i3 b &&& i3 31)) ^^^ m1)) = i3 (msk (fun p => decide (updN T b v p = 0)) n) := by
    rw [s3]
    refine (bit_off _ (msk_lt8 _ h8) b (by omega)).trans ?_
    rw [msk_off h8 hb h1]
  obtain ⟨g1, e1, f1⟩ := (h.setL hb hv h1).lenderOf hb
  refine ⟨st g1 r 24 (i3 (msk (fun p => decide (T p = 0)) n)), ?_, fun p a b2 => ?_⟩
  · have e2 : g1 r 24 = i3 (msk (fun p => decide (updN T b v p = 0)) n) := by rw [f1 r (by omega) (by omega), st_eq]
    have e3 : i3 (msk (fun p => decide (updN T b v p = 0)) n) ||| i3 (1 <<< b) = i3 (msk (fun p => decide (T p = 0)) n) := by
      rw [bit_or _ (msk_lt8 _ h8) b (by omega), msk_on hb h1 h0]
    simp only [fM_lenderIf, li_0, li_1, li_2, li_3, li_4, li_5, li_6, li_7, li_8, li_9, li_10, li_11, li_12, li_13, li_14, li_15, li_16, li_17, li_18, li_19, li_20, li_21, li_22, li_23, li_24, li_25, li_26, li_27, li_28, li_29, li_30, li_31, li_32, li_33, li_34, li_35, li_36, li_37, li_38, li_39, li_40, li_41, li_42, li_43, li_44, li_45, li_46, li_47, li_48, li_49, li_50, li_51, li_52, li_53, li_54, li_55, li_56, li_57, li_58, li_59, li_60, li_63, li_64, li_72, li_76, li_77, li_91, li_93, li_96, li_97, li_99, li_108, li_109, li_120, li_122, li_150, li_200, li_255, li_400, li_426, li_600, li_900, li_999, li_1000, li_1002, li_1003, li_2000, li_2042, li_2043, li_2045, li_10000, li_32767, li_100000, li_1000000, li_m1, li_m1b]
    rw [hl, if_pos (by decide), e0, e1]
    show some (_, st g1 r 24 (g1 r 24 ||| (i3 1 <<< (i3 b &&& i3 31)))) = _
    rw [e2, bit_sh (by omega), e3]
  · by_cases q : p = r
    · subst q
      rw [st_row, f1 p a b2, st_row]
      funext k
      unfold upd
      by_cases q2 : k = 24
      · subst q2; simp [s3]
      · simp [q2]
    · rw [st_ne q, f1 p a b2, st_ne q]
end ML
section CL
variable {W : (Nat → Nat) → Nat} {n N : Nat} {K F D U T : Nat → Nat} {Y th : Nat} {g : St}
theorem FX1.st25 {g g1 : St} {i : Nat} {v : Int32} (h : FX1 g g1) : FX1 g (st g1 25 i v) := fun p a b => by rw [st_ne b]; exact h p a b
theorem EC.willOf_b66 (h : EC W n N K F D U T Y th g) {a b : Nat} (ha : a < n) (hb : b < n) (h0 : g 25 0 = i3 (K a)) (h1 : g 25 1 = i3 (D a)) (h2 : g 25 2 = i3 (st8 U a)) : ∃ g', fX_State_willOf_b66 th (i3 a) (i3 b) (i3 3) (i3 (if (F a).testBit b then 1 else 0)) g = some (i3 (wl W n K F D U T Y a b), g') ∧ FX1 g g' := by
  have hm := fun g' (f : FX1 g g') => (h.fr f).howManyDead
  obtain ⟨hr, ⟨s1, s2, s3, s4⟩, hB, hC, hL, hW⟩ := h
  have h8 := hB.1
  obtain ⟨g', e, k⟩ := hL (fcts n K F D U T Y a b) (st (st (st (st (st g 25 3 (i3 (if (F a).testBit b then 1 else 0))) 25 4 (i3 (D b))) 25 5 (i3 (n - cntB (fun p => decide (T p = 0)) n))) 25 6 (i3 Y)) 25 7 (i3 a)) (fcts_le hB (hC.2.2.2.2.1 a ha).2 ha hb) (by simp [st_at]) (by repeat rw [st_ne (by omega)]) (fun i hi => by
    rcases (show i = 0 ∨ i = 1 ∨ i = 2 ∨ i = 3 ∨ i = 4 ∨ i = 5 ∨ i = 6 ∨ i = 7 by omega) with rfl | rfl | rfl | rfl | rfl | rfl | rfl | rfl <;> simp [st_at, fcts, h0, h1, h2])
  have e' : fX_Law_answer 4 (st (st (st (st (st g 25 3 (i3 (if (F a).testBit b then 1 else 0))) 25 4 (i3 (D b))) 25 5 (i3 (n - cntB (fun p => decide (T p = 0)) n))) 25 6 (i3 Y)) 25 7 (i3 a)) = some (i3 (wl W n K F D U T Y a b), g') := e
  refine ⟨g', ?_, fun p x y => ?_⟩
  · have md := hm (st (st g 25 3 (i3 (if (F a).testBit b then 1 else 0))) 25 4 (i3 (D b))) FX1.rf.st25.st25
    simp (disch := (first | omega | assumption | trivial)) only [li_0, li_1, li_2, li_3, li_4, li_5, li_6, li_7, li_8, li_9, li_10, li_11, li_12, li_13, li_14, li_15, li_16, li_17, li_18, li_19, li_20, li_21, li_22, li_23, li_24, li_25, li_26, li_27, li_28, li_29, li_30, li_31, li_32, li_33, li_34, li_35, li_36, li_37, li_38, li_39, li_40, li_41, li_42, li_43, li_44, li_45, li_46, li_47, li_48, li_49, li_50, li_51, li_52, li_53, li_54, li_55, li_56, li_57, li_58, li_59, li_60, li_63, li_64, li_72, li_76, li_77, li_91, li_93, li_96, li_97, li_99, li_108, li_109, li_120, li_122, li_150, li_200, li_255, li_400, li_426, li_600, li_900, li_999, li_1000, li_1002, li_1003, li_2000, li_2042, li_2043, li_2045, li_10000, li_32767, li_100000, li_1000000, li_m1, li_m1b, ob_s, lt1_e, se_l, se_r, if_true, if_false, true_and, and_true, false_and, and_false, st_at, i3_add, i3_mul, i3_sub, i3_lt, i3_le, i3_eq, i3_nat, m1_eqi, i3_eqm, m1_lti, m1_lei, i3_ltm, i3_lem, i3_decm, i3_dec0, nm_eqm, yr_eqm, mxor0, Nat.zero_add, if_pos, if_neg, eq_self, ne_eq, not_true_eq_false, not_false_eq_true, fX_State_willOf_b66, pu8, at8, rS2, s1, md, s4, e']
  · rw [k p x]
    repeat rw [st_ne y]
theorem EC.willOf (h : EC W n N K F D U T Y th g) {a b : Nat} (ha : a < n) (hb : b < n) : ∃ g', fX_State_willOf th (i3 a) (i3 b) g = some (i3 (wl W n K F D U T Y a b), g') ∧ FX1 g g' := by
  have h8 := h.2.2.1.1
  have f2 : FX1 g (st (st g 25 0 (i3 (K a))) 25 1 (i3 (D a))) := FX1.rf.st25.st25
  have f3 : FX1 g (st (st (st g 25 0 (i3 (K a))) 25 1 (i3 (D a))) 25 2 (i3 (st8 U a))) := f2.st25
  have hst := (h.fr f2).stonesOf (a := a) (by omega)
  have har := (h.fr f3).areFriends ha (b := b) (by omega)
  obtain ⟨g', e, f⟩ := (h.fr f3).willOf_b66 ha hb (by simp [st_at]) (by simp [st_at]) (by simp [st_at])
  refine ⟨g', ?_, f3.tr f⟩
  obtain ⟨hr, ⟨s1, s2, s3, s4⟩, hB, hC, hL, hW⟩ := h
  have k1 := (hC.2.2.2.2.1 a ha).1
  by_cases q : (F a).testBit b = true
  · rw [if_pos q] at e har
    simp (disch := (first | omega | assumption | trivial)) only [li_0, li_1, li_2, li_3, li_4, li_5, li_6, li_7, li_8, li_9, li_10, li_11, li_12, li_13, li_14, li_15, li_16, li_17, li_18, li_19, li_20, li_21, li_22, li_23, li_24, li_25, li_26, li_27, li_28, li_29, li_30, li_31, li_32, li_33, li_34, li_35, li_36, li_37, li_38, li_39, li_40, li_41, li_42, li_43, li_44, li_45, li_46, li_47, li_48, li_49, li_50, li_51, li_52, li_53, li_54, li_55, li_56, li_57, li_58, li_59, li_60, li_63, li_64, li_72, li_76, li_77, li_91, li_93, li_96, li_97, li_99, li_108, li_109, li_120, li_122, li_150, li_200, li_255, li_400, li_426, li_600, li_900, li_999, li_1000, li_1002, li_1003, li_2000, li_2042, li_2043, li_2045, li_10000, li_32767, li_100000, li_1000000, li_m1, li_m1b, ob_s, lt1_e, se_l, se_r, if_true, if_false, true_and, and_true, false_and, and_false, st_at, i3_add, i3_mul, i3_sub, i3_lt, i3_le, i3_eq, i3_nat, m1_eqi, i3_eqm, m1_lti, m1_lei, i3_ltm, i3_lem, i3_decm, i3_dec0, nm_eqm, yr_eqm, mxor0, Nat.zero_add, if_pos, if_neg, eq_self, ne_eq, not_true_eq_false, not_false_eq_true, fX_State_willOf, pu8, at8, rL22, rS2, k1, s1, hst, har, e]
  · rw [if_neg q] at e har
    simp (disch := (first | omega | assumption | trivial)) only [li_0, li_1, li_2, li_3, li_4, li_5, li_6, li_7, li_8, li_9, li_10, li_11, li_12, li_13, li_14, li_15, li_16, li_17, li_18, li_19, li_20, li_21, li_22, li_23, li_24, li_25, li_26, li_27, li_28, li_29, li_30, li_31, li_32, li_33, li_34, li_35, li_36, li_37, li_38, li_39, li_40, li_41, li_42, li_43, li_44, li_45, li_46, li_47, li_48, li_49, li_50, li_51, li_52, li_53, li_54, li_55, li_56, li_57, li_58, li_59, li_60, li_63, li_64, li_72, li_76, li_77, li_91, li_93, li_96, li_97, li_99, li_108, li_109, li_120, li_122, li_150, li_200, li_255, li_400, li_426, li_600, li_900, li_999, li_1000, li_1002, li_1003, li_2000, li_2042, li_2043, li_2045, li_10000, li_32767, li_100000, li_1000000, li_m1, li_m1b, ob_s, lt1_e, se_l, se_r, if_true, if_false, true_and, and_true, false_and, and_false, st_at, i3_add, i3_mul, i3_sub, i3_lt, i3_le, i3_eq, i3_nat, m1_eqi, i3_eqm, m1_lti, m1_lei, i3_ltm, i3_lem, i3_decm, i3_dec0, nm_eqm, yr_eqm, mxor0, Nat.zero_add, if_pos, if_neg, eq_self, ne_eq, not_true_eq_false, not_false_eq_true, fX_State_willOf, pu8, at8, rL22, rS2, k1, s1, hst, har, e]
theorem EC.lendsTo (h : EC W n N K F D U T Y th g) {a b : Nat} (ha : a < n) (hb : b < n) : ∃ g', fX_State_lendsTo th (i3 a) (i3 b) g = some (i3 (if ldb W n N K F D U T Y a b then 1 else 0), g') ∧ FX1 g g' := by
  have hc := h.couldLend ha hb
  obtain ⟨g', e, hf⟩ := h.willOf ha hb
  have hw : wl W n K F D U T Y a b ≤ 99 := h.2.2.2.2.2 _
  by_cases q1 : T a = 0 ∧ ¬ a = b ∧ st8 U a < N
  · rw [if_pos q1] at hc
    by_cases q4 : 10 ≤ wl W n K F D U T Y a b
    · exact ⟨g', by simp (disch := (first | omega | assumption | trivial)) only [li_0, li_1, li_2, li_3, li_4, li_5, li_6, li_7, li_8, li_9, li_10, li_11, li_12, li_13, li_14, li_15, li_16, li_17, li_18, li_19, li_20, li_21, li_22, li_23, li_24, li_25, li_26, li_27, li_28, li_29, li_30, li_31, li_32, li_33, li_34, li_35, li_36, li_37, li_38, li_39, li_40, li_41, li_42, li_43, li_44, li_45, li_46, li_47, li_48, li_49, li_50, li_51, li_52, li_53, li_54, li_55, li_56, li_57, li_58, li_59, li_60, li_63, li_64, li_72, li_76, li_77, li_91, li_93, li_96, li_97, li_99, li_108, li_109, li_120, li_122, li_150, li_200, li_255, li_400, li_426, li_600, li_900, li_999, li_1000, li_1002, li_1003, li_2000, li_2042, li_2043, li_2045, li_10000, li_32767, li_100000, li_1000000, li_m1, li_m1b, ob_s, lt1_e, se_l, se_r, if_true, if_false, true_and, and_true, false_and, and_false, st_at, i3_add, i3_mul, i3_sub, i3_lt, i3_le, i3_eq, i3_nat, m1_eqi, i3_eqm, m1_lti, m1_lei, i3_ltm, i3_lem, i3_decm, i3_dec0, nm_eqm, yr_eqm, mxor0, Nat.zero_add, if_pos, if_neg, eq_self, ne_eq, not_true_eq_false, not_false_eq_true, fX_State_lendsTo, hc, ldb, e], hf⟩
    · exact ⟨g', by simp (disch := (first | omega | assumption | trivial)) only [li_0, li_1, li_2, li_3, li_4, li_5, li_6, li_7, li_8, li_9, li_10, li_11, li_12, li_13, li_14, li_15, li_16, li_17, li_18, li_19, li_20, li_21, li_22, li_23, li_24, li_25, li_26, li_27, li_28, li_29, li_30, li_31, li_32, li_33, li_34, li_35, li_36, li_37, li_38, li_39, li_40, li_41, li_42, li_43, li_44, li_45, li_46, li_47, li_48, li_49, li_50, li_51, li_52, li_53, li_54, li_55, li_56, li_57, li_58, li_59, li_60, li_63, li_64, li_72, li_76, li_77, li_91, li_93, li_96, li_97, li_99, li_108, li_109, li_120, li_122, li_150, li_200, li_255, li_400, li_426, li_600, li_900, li_999, li_1000, li_1002, li_1003, li_2000, li_2042, li_2043, li_2045, li_10000, li_32767, li_100000, li_1000000, li_m1, li_m1b, ob_s, lt1_e, se_l, se_r, if_true, if_false, true_and, and_true, false_and, and_false, st_at, i3_add, i3_mul, i3_sub, i3_lt, i3_le, i3_eq, i3_nat, m1_eqi, i3_eqm, m1_lti, m1_lei, i3_ltm, i3_lem, i3_decm, i3_dec0, nm_eqm, yr_eqm, mxor0, Nat.zero_add, if_pos, if_neg, eq_self, ne_eq, not_true_eq_false, not_false_eq_true, fX_State_lendsTo, hc, ldb, e], hf⟩
  · rw [if_neg q1] at hc
    exact ⟨g, by simp (disch := (first | omega | assumption | trivial)) only [li_0, li_1, li_2, li_3, li_4, li_5, li_6, li_7, li_8, li_9, li_10, li_11, li_12, li_13, li_14, li_15, li_16, li_17, li_18, li_19, li_20, li_21, li_22, li_23, li_24, li_25, li_26, li_27, li_28, li_29, li_30, li_31, li_32, li_33, li_34, li_35, li_36, li_37, li_38, li_39, li_40, li_41, li_42, li_43, li_44, li_45, li_46, li_47, li_48, li_49, li_50, li_51, li_52, li_53, li_54, li_55, li_56, li_57, li_58, li_59, li_60, li_63, li_64, li_72, li_76, li_77, li_91, li_93, li_96, li_97, li_99, li_108, li_109, li_120, li_122, li_150, li_200, li_255, li_400, li_426, li_600, li_900, li_999, li_1000, li_1002, li_1003, li_2000, li_2042, li_2043, li_2045, li_10000, li_32767, li_100000, li_1000000, li_m1, li_m1b, ob_s, lt1_e, se_l, se_r, if_true, if_false, true_and, and_true, false_and, and_false, st_at, i3_add, i3_mul, i3_sub, i3_lt, i3_le, i3_eq, i3_nat, m1_eqi, i3_eqm, m1_lti, m1_lei, i3_ltm, i3_lem, i3_decm, i3_dec0, nm_eqm, yr_eqm, mxor0, Nat.zero_add, if_pos, if_neg, eq_self, ne_eq, not_true_eq_false, not_false_eq_true, fX_State_lendsTo, hc, ldb], FX1.rf⟩
theorem EC.setT (h : EC W n N K F D U T Y th g) {b v : Nat} (hb : b < n) (hv : v ≤ 2000) : EC W n N K F D U (updN T b v) Y th (st g (3 * th + 9) b (yr v)) := by
  obtain ⟨hr, ⟨s1, s2, s3, s4⟩, hB, hC, hL, hW⟩ := h
  have h8 := hB.1
  refine ⟨hr, ⟨fun p hp => ?_, fun p hp => ?_, fun p hp => ?_, ?_⟩, hB.upT hb hv, hC.fr (st_ne (by omega)) (st_ne (by omega)) (st_ne (by omega)), hL.fr ?_ (st_ne (by omega)), hW⟩
  · rw [st_at, if_neg (by omega)]; exact s1 p hp
  · rw [st_at, if_neg (by omega)]; exact s2 p hp
  · by_cases q : p = b
    · subst q; rw [st_eq, updN_eq]
    · rw [st_at, if_neg (by omega), updN_ne q]; exact s3 p hp
  · rw [st_at, if_neg (by omega)]; exact s4
  · rw [st_at, if_neg (by omega)]
theorem EC.heirL (h : EC W n N K F D U T Y th g) {b : Nat} (hb : b < n) (x2 : Int32) : ∃ z : Int32 × St, lp (fX_State_heirOf_L30 th (i3 b) x2) fuel (m1, i3 9, i3 0, g) = some z ∧ z.1 = nm (lnd W n N K F D U T Y b) ∧ FX1 g z.2 := by
  have h8 := h.2.2.1.1
  have hok := lnP_ok W n N K F D U T Y b h.2.2.2.2.2
  refine lp_all (fun k s => ∃ g1, s = (nm (lnP W n N K F D U T Y b k).1, i3 (lnP W n N K F D U T Y b k).2, i3 k, g1) ∧ FX1 g g1) (fun z : Int32 × St => z.1 = nm (lnd W n N K F D U T Y b) ∧ FX1 g z.2) n (by omega) ?_ ?_ ⟨g, rfl, FX1.rf⟩
  · rintro k s hk ⟨g1, rfl, f1⟩
    have h1 := h.fr f1
    have hn := h1.2.2.2.1.1
    have hc := h1.couldLend hk hb
    obtain ⟨g2, e2, f2⟩ := h1.willOf hk hb
    have hw : wl W n K F D U T Y k b ≤ 99 := h.2.2.2.2.2 _
    have hk1 := hok k
    generalize hP : lnP W n N K F D U T Y b k = P at hk1
    have hP1 : lnP W n N K F D U T Y b (k + 1) = if ldb W n N K F D U T Y k b ∧ P.2 < wl W n K F D U T Y k b then (k, wl W n K F D U T Y k b) else P := by rw [← hP]; rfl
    by_cases q : T k = 0 ∧ ¬ k = b ∧ st8 U k < N
    · rw [if_pos q] at hc
      by_cases q2 : P.2 < wl W n K F D U T Y k b
      · rw [if_pos ⟨⟨q.1, q.2.1, q.2.2, by omega⟩, q2⟩] at hP1
        refine ⟨_, ?_, g2, by rw [hP1], f1.tr f2⟩
        simp (disch := (first | omega | assumption | trivial)) only [li_0, li_1, li_2, li_3, li_4, li_5, li_6, li_7, li_8, li_9, li_10, li_11, li_12, li_13, li_14, li_15, li_16, li_17, li_18, li_19, li_20, li_21, li_22, li_23, li_24, li_25, li_26, li_27, li_28, li_29, li_30, li_31, li_32, li_33, li_34, li_35, li_36, li_37, li_38, li_39, li_40, li_41, li_42, li_43, li_44, li_45, li_46, li_47, li_48, li_49, li_50, li_51, li_52, li_53, li_54, li_55, li_56, li_57, li_58, li_59, li_60, li_63, li_64, li_72, li_76, li_77, li_91, li_93, li_96, li_97, li_99, li_108, li_109, li_120, li_122, li_150, li_200, li_255, li_400, li_426, li_600, li_900, li_999, li_1000, li_1002, li_1003, li_2000, li_2042, li_2043, li_2045, li_10000, li_32767, li_100000, li_1000000, li_m1, li_m1b, ob_s, lt1_e, se_l, se_r, if_true, if_false, true_and, and_true, false_and, and_false, st_at, i3_add, i3_mul, i3_sub, i3_lt, i3_le, i3_eq, i3_nat, m1_eqi, i3_eqm, m1_lti, m1_lei, i3_ltm, i3_lem, i3_decm, i3_dec0, nm_eqm, yr_eqm, mxor0, Nat.zero_add, if_pos, if_neg, eq_self, ne_eq, not_true_eq_false, not_false_eq_true, fX_State_heirOf_L30, fX_State_heirOf_b75, hn, hc, e2, nm_lt]
      · rw [if_neg (fun z => q2 z.2)] at hP1
        refine ⟨_, ?_, g2, by rw [hP1], f1.tr f2⟩
        simp (disch := (first | omega | assumption | trivial)) only [li_0, li_1, li_2, li_3, li_4, li_5, li_6, li_7, li_8, li_9, li_10, li_11, li_12, li_13, li_14, li_15, li_16, li_17, li_18, li_19, li_20, li_21, li_22, li_23, li_24, li_25, li_26, li_27, li_28, li_29, li_30, li_31, li_32, li_33, li_34, li_35, li_36, li_37, li_38, li_39, li_40, li_41, li_42, li_43, li_44, li_45, li_46, li_47, li_48, li_49, li_50, li_51, li_52, li_53, li_54, li_55, li_56, li_57, li_58, li_59, li_60, li_63, li_64, li_72, li_76, li_77, li_91, li_93, li_96, li_97, li_99, li_108, li_109, li_120, li_122, li_150, li_200, li_255, li_400, li_426, li_600, li_900, li_999, li_1000, li_1002, li_1003, li_2000, li_2042, li_2043, li_2045, li_10000, li_32767, li_100000, li_1000000, li_m1, li_m1b, ob_s, lt1_e, se_l, se_r, if_true, if_false, true_and, and_true, false_and, and_false, st_at, i3_add, i3_mul, i3_sub, i3_lt, i3_le, i3_eq, i3_nat, m1_eqi, i3_eqm, m1_lti, m1_lei, i3_ltm, i3_lem, i3_decm, i3_dec0, nm_eqm, yr_eqm, mxor0, Nat.zero_add, if_pos, if_neg, eq_self, ne_eq, not_true_eq_false, not_false_eq_true, fX_State_heirOf_L30, fX_State_heirOf_b75, hn, hc, e2]
    · rw [if_neg q] at hc
      rw [if_neg (fun z => q ⟨z.1.1, z.1.2.1, z.1.2.2.1⟩)] at hP1
      refine ⟨_, ?_, g1, by rw [hP1], f1⟩
      simp (disch := (first | omega | assumption | trivial)) only [li_0, li_1, li_2, li_3, li_4, li_5, li_6, li_7, li_8, li_9, li_10, li_11, li_12, li_13, li_14, li_15, li_16, li_17, li_18, li_19, li_20, li_21, li_22, li_23, li_24, li_25, li_26, li_27, li_28, li_29, li_30, li_31, li_32, li_33, li_34, li_35, li_36, li_37, li_38, li_39, li_40, li_41, li_42, li_43, li_44, li_45, li_46, li_47, li_48, li_49, li_50, li_51, li_52, li_53, li_54, li_55, li_56, li_57, li_58, li_59, li_60, li_63, li_64, li_72, li_76, li_77, li_91, li_93, li_96, li_97, li_99, li_108, li_109, li_120, li_122, li_150, li_200, li_255, li_400, li_426, li_600, li_900, li_999, li_1000, li_1002, li_1003, li_2000, li_2042, li_2043, li_2045, li_10000, li_32767, li_100000, li_1000000, li_m1, li_m1b, ob_s, lt1_e, se_l, se_r, if_true, if_false, true_and, and_true, false_and, and_false, st_at, i3_add, i3_mul, i3_sub, i3_lt, i3_le, i3_eq, i3_nat, m1_eqi, i3_eqm, m1_lti, m1_lei, i3_ltm, i3_lem, i3_decm, i3_dec0, nm_eqm, yr_eqm, mxor0, Nat.zero_add, if_pos, if_neg, eq_self, ne_eq, not_true_eq_false, not_false_eq_true, fX_State_heirOf_L30, fX_State_heirOf_b75, hn, hc]
  · rintro s ⟨g1, rfl, f1⟩
    have hn := (h.fr f1).2.2.2.1.1
    refine ⟨(nm (lnP W n N K F D U T Y b n).1, g1), ?_, rfl, f1⟩
    simp (disch := (first | omega | assumption | trivial)) only [li_0, li_1, li_2, li_3, li_4, li_5, li_6, li_7, li_8, li_9, li_10, li_11, li_12, li_13, li_14, li_15, li_16, li_17, li_18, li_19, li_20, li_21, li_22, li_23, li_24, li_25, li_26, li_27, li_28, li_29, li_30, li_31, li_32, li_33, li_34, li_35, li_36, li_37, li_38, li_39, li_40, li_41, li_42, li_43, li_44, li_45, li_46, li_47, li_48, li_49, li_50, li_51, li_52, li_53, li_54, li_55, li_56, li_57, li_58, li_59, li_60, li_63, li_64, li_72, li_76, li_77, li_91, li_93, li_96, li_97, li_99, li_108, li_109, li_120, li_122, li_150, li_200, li_255, li_400, li_426, li_600, li_900, li_999, li_1000, li_1002, li_1003, li_2000, li_2042, li_2043, li_2045, li_10000, li_32767, li_100000, li_1000000, li_m1, li_m1b, ob_s, lt1_e, se_l, se_r, if_true, if_false, true_and, and_true, false_and, and_false, st_at, i3_add, i3_mul, i3_sub, i3_lt, i3_le, i3_eq, i3_nat, m1_eqi, i3_eqm, m1_lti, m1_lei, i3_ltm, i3_lem, i3_decm, i3_dec0, nm_eqm, yr_eqm, mxor0, Nat.zero_add, if_pos, if_neg, eq_self, ne_eq, not_true_eq_false, not_false_eq_true, fX_State_heirOf_L30, hn]
theorem EC.heirOf (h : EC W n N K F D U T Y th g) {b : Nat} (hb : b < n) : ∃ g', fX_State_heirOf th (i3 b) g = some (nm (lnd W n N K F D U (updN T b (Y + 1)) Y b), g') ∧ FX1 g g' := by
  have hB := h.2.2.1
  have h8 := hB.1
  have hY := hB.2.2.2.2.1
  obtain ⟨z, e, e1, f1⟩ := (h.setT hb (v := Y + 1) (by omega)).heirL hb (yr (T b))
  obtain ⟨hr, ⟨s1, s2, s3, s4⟩, hB, hC, hL, hW⟩ := h
  have hT := hB.2.2.2.1 b (by omega)
  refine ⟨st z.2 (3 * th + 9) b (yr (T b)), ?_, fun p a b2 => ?_⟩
  · rw [yr_s1] at e
    simp (disch := (first | omega | assumption | trivial)) only [li_0, li_1, li_2, li_3, li_4, li_5, li_6, li_7, li_8, li_9, li_10, li_11, li_12, li_13, li_14, li_15, li_16, li_17, li_18, li_19, li_20, li_21, li_22, li_23, li_24, li_25, li_26, li_27, li_28, li_29, li_30, li_31, li_32, li_33, li_34, li_35, li_36, li_37, li_38, li_39, li_40, li_41, li_42, li_43, li_44, li_45, li_46, li_47, li_48, li_49, li_50, li_51, li_52, li_53, li_54, li_55, li_56, li_57, li_58, li_59, li_60, li_63, li_64, li_72, li_76, li_77, li_91, li_93, li_96, li_97, li_99, li_108, li_109, li_120, li_122, li_150, li_200, li_255, li_400, li_426, li_600, li_900, li_999, li_1000, li_1002, li_1003, li_2000, li_2042, li_2043, li_2045, li_10000, li_32767, li_100000, li_1000000, li_m1, li_m1b, ob_s, lt1_e, se_l, se_r, if_true, if_false, true_and, and_true, false_and, and_false, st_at, i3_add, i3_mul, i3_sub, i3_lt, i3_le, i3_eq, i3_nat, m1_eqi, i3_eqm, m1_lti, m1_lei, i3_ltm, i3_lem, i3_decm, i3_dec0, nm_eqm, yr_eqm, mxor0, Nat.zero_add, if_pos, if_neg, eq_self, ne_eq, not_true_eq_false, not_false_eq_true, fX_State_heirOf, fX_State_heirOf_b30, rS4, at8, pu8, s3, s4, e]
    rw [← e1]
  · by_cases q : p = 3 * th + 9
    · subst q
      rw [st_row, f1 _ a b2, st_row]
      funext k
      unfold upd
      by_cases q2 : k = b
      · subst q2; simp [s3 k (by omega)]
      · simp [q2]
    · rw [st_ne q, f1 p a b2, st_ne q]
end CL
