/-! PURE: text: both sides in step: numbers, signs, words -/
def TS (e : Nat) (b : Nat → Nat) (ft fp t : Nat) (gX gM : St) : Prop := Xt e b ft fp t gX ∧ Mt e b ft fp t gM
section TB
variable {e ft fp t : Nat} {b : Nat → Nat} {gX gM : St}
theorem TS.fr (h : TS e b ft fp t gX gM) {gX' gM' : St} (f1 : ∀ i, 2 ≤ i → gX' 1 i = gX 1 i) (f2 : ∀ i, gX' 16 i = gX 16 i) (f3 : ∀ i, 2 ≤ i → i ≤ 6 → gM' 0 i = gM 0 i) (f4 : ∀ i, gM' 1 i = gM 1 i) : TS e b ft fp t gX' gM' := ⟨h.1.fr f1 f2, h.2.fr f3 f4⟩
theorem num_both (h : TS e b ft fp t gX gM) {lo H : Nat} (hlo : lo ≤ 1) (hH : H ≤ 1000) : ∃ ft' fp' t' v gX' gM', fX_Text_number (i3 lo) (i3 H - i3 1) gX = some ((if ft' = 0 then i3 v else m1), gX') ∧ fM_number (i3 lo) (i3 H - i3 1) gM = some ((if ft' = 0 then i3 v else i3 0), gM') ∧ TS e b ft' fp' t' gX' gM' ∧ FRX gX gX' ∧ FRM gM gM' ∧ (ft' = 0 → ft = 0 ∧ lo ≤ v ∧ v < H ∧ t < t' ∧ gX' 1 5 = i3 t ∧ ∃ c, gX' 1 3 = i3 c ∧ t < c ∧ c ≤ t') := by
  obtain ⟨hX, hM⟩ := h
  by_cases q0 : ft = 0
  · subst q0
    by_cases q : t < e ∧ dgt b t
    · obtain ⟨n, r⟩ := run_ex (dgt b) e (e - t) t (by omega)
      obtain ⟨t', hn⟩ := nb_ex (b := b) r.1
      obtain ⟨gX', a1, a2, a3, a4⟩ := X_num2 hX q r hn hlo hH
      obtain ⟨gM', c1, c2, c3⟩ := M_num2 hM q r hn hlo hH
      have hn1 : 1 ≤ n := by
        rcases n with _ | n
        · exact absurd q.2 (r.2.2 (by omega))
        · omega
      have := nb_le hn
      by_cases w : lo ≤ dv b t n ∧ dv b t n < H
      · rw [if_pos w] at a1 a2 c1 c2
        exact ⟨0, fp, t', dv b t n, gX', gM', a1, c1, ⟨a2, c2⟩, a4, c3, fun _ => ⟨rfl, w.1, w.2, by omega, a3.1, t + n, a3.2, by omega, by omega⟩⟩
      · rw [if_neg w] at a1 a2 c1 c2
        exact ⟨2, t, t, 0, gX', gM', a1, c1, ⟨a2, c2⟩, a4, c3, fun z => by omega⟩
    · obtain ⟨gX', a1, a2, a4⟩ := X_num1 hX q (i3 lo) (i3 H - i3 1)
      obtain ⟨gM', c1, c2, c3⟩ := M_num1 hM q (lo := lo) (H := H)
      exact ⟨1, t, t, 0, gX', gM', a1, c1, ⟨a2, c2⟩, a4, c3, fun z => by omega⟩
  · refine ⟨ft, fp, t, 0, gX, gM, ?_, ?_, ⟨hX, hM⟩, FRX.rf, FRM.rf, fun z => absurd z q0⟩
    · have := hX.2.1
      have h3 := hX.2.2.1
      simp (disch := (first | omega | assumption | trivial)) only [li_0, li_1, li_2, li_3, li_4, li_5, li_6, li_7, li_8, li_9, li_10, li_11, li_12, li_13, li_14, li_15, li_16, li_17, li_18, li_19, li_20, li_21, li_22, li_23, li_24, li_25, li_26, li_27, li_28, li_29, li_30, li_31, li_32, li_33, li_34, li_35, li_36, li_37, li_38, li_39, li_40, li_41, li_42, li_43, li_44, li_45, li_46, li_47, li_48, li_49, li_50, li_51, li_52, li_53, li_54, li_55, li_56, li_57, li_58, li_59, li_60, li_63, li_64, li_72, li_76, li_77, li_91, li_93, li_96, li_97, li_99, li_108, li_109, li_120, li_122, li_150, li_200, li_255, li_400, li_426, li_600, li_900, li_999, li_1000, li_1002, li_1003, li_2000, li_2042, li_2043, li_2045, li_10000, li_32767, li_100000, li_1000000, li_m1, li_m1b, ob_s, lt1_e, se_l, se_r, if_true, if_false, true_and, and_true, false_and, and_false, st_at, i3_add, i3_mul, i3_sub, i3_lt, i3_le, i3_eq, i3_nat, m1_eqi, i3_eqm, m1_lti, m1_lei, i3_ltm, i3_lem, i3_decm, i3_dec0, nm_eqm, yr_eqm, mxor0, Nat.zero_add, if_pos, if_neg, eq_self, ne_eq, not_true_eq_false, not_false_eq_true, fX_Text_number, this]
    · have := hM.2.1
      have h3 := hM.2.2.1
      simp (disch := (first | omega | assumption | trivial)) only [li_0, li_1, li_2, li_3, li_4, li_5, li_6, li_7, li_8, li_9, li_10, li_11, li_12, li_13, li_14, li_15, li_16, li_17, li_18, li_19, li_20, li_21, li_22, li_23, li_24, li_25, li_26, li_27, li_28, li_29, li_30, li_31, li_32, li_33, li_34, li_35, li_36, li_37, li_38, li_39, li_40, li_41, li_42, li_43, li_44, li_45, li_46, li_47, li_48, li_49, li_50, li_51, li_52, li_53, li_54, li_55, li_56, li_57, li_58, li_59, li_60, li_63, li_64, li_72, li_76, li_77, li_91, li_93, li_96, li_97, li_99, li_108, li_109, li_120, li_122, li_150, li_200, li_255, li_400, li_426, li_600, li_900, li_999, li_1000, li_1002, li_1003, li_2000, li_2042, li_2043, li_2045, li_10000, li_32767, li_100000, li_1000000, li_m1, li_m1b, ob_s, lt1_e, se_l, se_r, if_true, if_false, true_and, and_true, false_and, and_false, st_at, i3_add, i3_mul, i3_sub, i3_lt, i3_le, i3_eq, i3_nat, m1_eqi, i3_eqm, m1_lti, m1_lei, i3_ltm, i3_lem, i3_decm, i3_dec0, nm_eqm, yr_eqm, mxor0, Nat.zero_add, if_pos, if_neg, eq_self, ne_eq, not_true_eq_false, not_false_eq_true, fM_number, this]
theorem numK (h : TS e b ft fp t gX gM) {lo H : Nat} (hlo : lo ≤ 1) (hH : H < 1000) : ∃ ft' fp' t' v gX' gM', fX_Text_number (i3 lo) (i3 H) gX = some ((if ft' = 0 then i3 v else m1), gX') ∧ fM_number (i3 lo) (i3 H) gM = some ((if ft' = 0 then i3 v else i3 0), gM') ∧ TS e b ft' fp' t' gX' gM' ∧ FRX gX gX' ∧ FRM gM gM' ∧ (ft' = 0 → ft = 0 ∧ lo ≤ v ∧ v ≤ H ∧ t < t' ∧ gX' 1 5 = i3 t ∧ ∃ c, gX' 1 3 = i3 c ∧ t < c ∧ c ≤ t') := by
  obtain ⟨ft', fp', t', v, gX', gM', a1, a2, a3, a4, a5, a6⟩ := num_both h hlo (H := H + 1) (by omega)
  rw [i3_sub (by omega), show H + 1 - 1 = H by omega] at a1 a2
  exact ⟨ft', fp', t', v, gX', gM', a1, a2, a3, a4, a5, fun z => by obtain ⟨w1, w2, w3, w4, w5⟩ := a6 z; exact ⟨w1, w2, by omega, w4, w5⟩⟩
/-- a sign -/
theorem sign_both (h : TS e b ft fp t gX gM) {s : Nat} (hs : s < 256) : ∃ ft' fp' t' gX' gM', fX_Text_expect (i3 s) gX = some gX' ∧ fM_sign (i3 s) gM = some gM' ∧ TS e b ft' fp' t' gX' gM' ∧ FRX gX gX' ∧ FRM gM gM' ∧ (ft' = 0 → ft = 0 ∧ t < e ∧ b t = s ∧ nb e b (t + 1) t' ∧ gX' 1 3 = i3 (t + 1)) ∧ (¬ ft' = 0 → ft = 0 → ¬ (t < e ∧ b t = s) ∧ ft' = 1 ∧ fp' = t) := by
  obtain ⟨hX, hM⟩ := h
  have h600 := hX.c600
  by_cases q0 : ft = 0
  · subst q0
    obtain ⟨g1, e1, e2, f1, _, h1⟩ := X_next hX
    obtain ⟨k1, c1, c2, c3, f2, _, j1⟩ := M_next0 hM
    have x0 := hX.2.1
    have m0 := hM.2.1
    by_cases q : t < e ∧ b t = s
    · obtain ⟨t', hn⟩ := nb_ex (e := e) (b := b) (c := t + 1) (by omega)
      have E : (if t < e then i3 (b t) else m1) = i3 s := by rw [if_pos q.1, q.2]
      have A : Xt e b 0 fp t' (st g1 1 3 (i3 (t + 1))) := ⟨h1.1.fr5 (fun p i w => by rw [st_at, if_neg (by omega)]), by rw [st_at, if_neg (by omega)]; exact h1.2.1, by omega, (nb_le hn).2, fun _ => ⟨_, st_eq _ _ _ _, hn⟩, by rw [st_at, if_neg (by omega)]; exact h1.2.2.2.2.2⟩
      have B : Mt e b 0 fp t' (st k1 0 4 (i3 (t + 1))) := ⟨j1.1.fr5 (fun p i w => by rw [st_at, if_neg (by omega)]), by rw [st_at, if_neg (by omega)]; exact j1.2.1, by omega, (nb_le hn).2, ⟨_, st_eq _ _ _ _, by omega, fun _ => hn⟩, fun z => absurd rfl z⟩
      refine ⟨0, fp, t', _, _, ?_, ?_, ⟨A, B⟩, fun p i w => ?_, fun p i w => ?_, fun _ => ⟨rfl, q.1, q.2, hn, st_eq _ _ _ _⟩, fun z => absurd rfl z⟩
      · unfold fX_Text_expect
        rw [if_pos (show gX 1 6 = 0 from x0), e1, ob_s, E]
        show (if i3 s = i3 s then some (st g1 1 3 (g1 1 3 + i3 1)) else _) = _
        rw [if_pos rfl, e2, i3_add]
      · unfold fM_sign
        rw [if_pos (show gM 0 5 = 0 from m0), c1, ob_s, c2, c3, ob_s, E, if_pos rfl]
        show some (st k1 0 4 (i3 t + i3 1)) = _
        rw [i3_add]
      · rw [st_at, if_neg (by omega)]; exact f1 p i (by omega)
      · rw [st_at, if_neg (by omega)]; exact f2 p i (by omega)
    · have E : ¬ (if t < e then i3 (b t) else m1) = i3 s := by
        by_cases q2 : t < e
        · have := (hX.1.2.2 t (by omega)).1
          rw [if_pos q2, i3_eq (by omega) (by omega)]
          exact fun z => q ⟨q2, z⟩
        · rw [if_neg q2, m1_eqi (by omega)]
          exact fun z => z
      obtain ⟨g2, e3, h2, f3⟩ := X_blame (p := t) h1 (Nat.le_refl 1) (by omega)
      obtain ⟨k2, c4, j2, f4⟩ := M_wrong (p := t) j1 (Nat.le_refl 1) (by omega)
      refine ⟨1, t, t, g2, k2, ?_, ?_, ⟨h2, j2⟩, fun p i w => (f3 p i (by omega)).trans (f1 p i (by omega)), fun p i w => (f4 p i (by omega)).trans (f2 p i (by omega)), fun z => by omega, fun _ _ => ⟨q, rfl, rfl⟩⟩
      · unfold fX_Text_expect
        rw [if_pos (show gX 1 6 = 0 from x0), e1, ob_s]
        show (if (if t < e then i3 (b t) else m1) = i3 s then _ else lt1 (fX_Text_blame (i3 1) (g1 1 3) g1) (fun g35 => some g35)) = _
        rw [if_neg E, e2, e3, lt1_e]
      · unfold fM_sign
        rw [if_pos (show gM 0 5 = 0 from m0), c1, ob_s, c2, c3, ob_s, if_neg E]
        show lt1 (fM_wrong (i3 1) (i3 t) k1) (fun g43 => some g43) = _
        rw [c4, lt1_e]
  · have x0 := hX.2.1
    have m0 := hM.2.1
    have h3 := hX.2.2.1
    refine ⟨ft, fp, t, gX, gM, ?_, ?_, ⟨hX, hM⟩, FRX.rf, FRM.rf, fun z => absurd z q0, fun _ z => absurd z q0⟩
    · simp (disch := (first | omega | assumption | trivial)) only [li_0, li_1, li_2, li_3, li_4, li_5, li_6, li_7, li_8, li_9, li_10, li_11, li_12, li_13, li_14, li_15, li_16, li_17, li_18, li_19, li_20, li_21, li_22, li_23, li_24, li_25, li_26, li_27, li_28, li_29, li_30, li_31, li_32, li_33, li_34, li_35, li_36, li_37, li_38, li_39, li_40, li_41, li_42, li_43, li_44, li_45, li_46, li_47, li_48, li_49, li_50, li_51, li_52, li_53, li_54, li_55, li_56, li_57, li_58, li_59, li_60, li_63, li_64, li_72, li_76, li_77, li_91, li_93, li_96, li_97, li_99, li_108, li_109, li_120, li_122, li_150, li_200, li_255, li_400, li_426, li_600, li_900, li_999, li_1000, li_1002, li_1003, li_2000, li_2042, li_2043, li_2045, li_10000, li_32767, li_100000, li_1000000, li_m1, li_m1b, ob_s, lt1_e, se_l, se_r, if_true, if_false, true_and, and_true, false_and, and_false, st_at, i3_add, i3_mul, i3_sub, i3_lt, i3_le, i3_eq, i3_nat, m1_eqi, i3_eqm, m1_lti, m1_lei, i3_ltm, i3_lem, i3_decm, i3_dec0, nm_eqm, yr_eqm, mxor0, Nat.zero_add, if_pos, if_neg, eq_self, ne_eq, not_true_eq_false, not_false_eq_true, fX_Text_expect, x0]
    · simp (disch := (first | omega | assumption | trivial)) only [li_0, li_1, li_2, li_3, li_4, li_5, li_6, li_7, li_8, li_9, li_10, li_11, li_12, li_13, li_14, li_15, li_16, li_17, li_18, li_19, li_20, li_21, li_22, li_23, li_24, li_25, li_26, li_27, li_28, li_29, li_30, li_31, li_32, li_33, li_34, li_35, li_36, li_37, li_38, li_39, li_40, li_41, li_42, li_43, li_44, li_45, li_46, li_47, li_48, li_49, li_50, li_51, li_52, li_53, li_54, li_55, li_56, li_57, li_58, li_59, li_60, li_63, li_64, li_72, li_76, li_77, li_91, li_93, li_96, li_97, li_99, li_108, li_109, li_120, li_122, li_150, li_200, li_255, li_400, li_426, li_600, li_900, li_999, li_1000, li_1002, li_1003, li_2000, li_2042, li_2043, li_2045, li_10000, li_32767, li_100000, li_1000000, li_m1, li_m1b, ob_s, lt1_e, se_l, se_r, if_true, if_false, true_and, and_true, false_and, and_false, st_at, i3_add, i3_mul, i3_sub, i3_lt, i3_le, i3_eq, i3_nat, m1_eqi, i3_eqm, m1_lti, m1_lei, i3_ltm, i3_lem, i3_decm, i3_dec0, nm_eqm, yr_eqm, mxor0, Nat.zero_add, if_pos, if_neg, eq_self, ne_eq, not_true_eq_false, not_false_eq_true, fM_sign, m0]
/-- is there more -/
theorem more_X (h : Xt e b ft fp t gX) : ∃ gX', fX_Text_hasMore gX = some ((if ft = 0 ∧ t < e then i3 1 else i3 0), gX') ∧ Xt e b ft fp t gX' ∧ FRX gX gX' ∧ (ft = 0 → gX' 1 3 = i3 t) := by
  have h600 := h.c600
  by_cases q0 : ft = 0
  · subst q0
    obtain ⟨g1, e1, e2, f1, _, h1⟩ := X_next h
    have x0 := h.2.1
    refine ⟨g1, ?_, h1, fun p i w => f1 p i (by omega), fun _ => e2⟩
    by_cases q : t < e
    · have := (h.1.2.2 t (by omega)).1
      rw [if_pos q] at e1
      simp (disch := (first | omega | assumption | trivial)) only [li_0, li_1, li_2, li_3, li_4, li_5, li_6, li_7, li_8, li_9, li_10, li_11, li_12, li_13, li_14, li_15, li_16, li_17, li_18, li_19, li_20, li_21, li_22, li_23, li_24, li_25, li_26, li_27, li_28, li_29, li_30, li_31, li_32, li_33, li_34, li_35, li_36, li_37, li_38, li_39, li_40, li_41, li_42, li_43, li_44, li_45, li_46, li_47, li_48, li_49, li_50, li_51, li_52, li_53, li_54, li_55, li_56, li_57, li_58, li_59, li_60, li_63, li_64, li_72, li_76, li_77, li_91, li_93, li_96, li_97, li_99, li_108, li_109, li_120, li_122, li_150, li_200, li_255, li_400, li_426, li_600, li_900, li_999, li_1000, li_1002, li_1003, li_2000, li_2042, li_2043, li_2045, li_10000, li_32767, li_100000, li_1000000, li_m1, li_m1b, ob_s, lt1_e, se_l, se_r, if_true, if_false, true_and, and_true, false_and, and_false, st_at, i3_add, i3_mul, i3_sub, i3_lt, i3_le, i3_eq, i3_nat, m1_eqi, i3_eqm, m1_lti, m1_lei, i3_ltm, i3_lem, i3_decm, i3_dec0, nm_eqm, yr_eqm, mxor0, Nat.zero_add, if_pos, if_neg, eq_self, ne_eq, not_true_eq_false, not_false_eq_true, fX_Text_hasMore, x0, e1]
    · rw [if_neg q] at e1
      simp (disch := (first | omega | assumption | trivial)) only [li_0, li_1, li_2, li_3, li_4, li_5, li_6, li_7, li_8, li_9, li_10, li_11, li_12, li_13, li_14, li_15, li_16, li_17, li_18, li_19, li_20, li_21, li_22, li_23, li_24, li_25, li_26, li_27, li_28, li_29, li_30, li_31, li_32, li_33, li_34, li_35, li_36, li_37, li_38, li_39, li_40, li_41, li_42, li_43, li_44, li_45, li_46, li_47, li_48, li_49, li_50, li_51, li_52, li_53, li_54, li_55, li_56, li_57, li_58, li_59, li_60, li_63, li_64, li_72, li_76, li_77, li_91, li_93, li_96, li_97, li_99, li_108, li_109, li_120, li_122, li_150, li_200, li_255, li_400, li_426, li_600, li_900, li_999, li_1000, li_1002, li_1003, li_2000, li_2042, li_2043, li_2045, li_10000, li_32767, li_100000, li_1000000, li_m1, li_m1b, ob_s, lt1_e, se_l, se_r, if_true, if_false, true_and, and_true, false_and, and_false, st_at, i3_add, i3_mul, i3_sub, i3_lt, i3_le, i3_eq, i3_nat, m1_eqi, i3_eqm, m1_lti, m1_lei, i3_ltm, i3_lem, i3_decm, i3_dec0, nm_eqm, yr_eqm, mxor0, Nat.zero_add, if_pos, if_neg, eq_self, ne_eq, not_true_eq_false, not_false_eq_true, fX_Text_hasMore, x0, e1]
  · have x0 := h.2.1
    have h3 := h.2.2.1
    refine ⟨gX, ?_, h, FRX.rf, fun z => absurd z q0⟩
    simp (disch := (first | omega | assumption | trivial)) only [li_0, li_1, li_2, li_3, li_4, li_5, li_6, li_7, li_8, li_9, li_10, li_11, li_12, li_13, li_14, li_15, li_16, li_17, li_18, li_19, li_20, li_21, li_22, li_23, li_24, li_25, li_26, li_27, li_28, li_29, li_30, li_31, li_32, li_33, li_34, li_35, li_36, li_37, li_38, li_39, li_40, li_41, li_42, li_43, li_44, li_45, li_46, li_47, li_48, li_49, li_50, li_51, li_52, li_53, li_54, li_55, li_56, li_57, li_58, li_59, li_60, li_63, li_64, li_72, li_76, li_77, li_91, li_93, li_96, li_97, li_99, li_108, li_109, li_120, li_122, li_150, li_200, li_255, li_400, li_426, li_600, li_900, li_999, li_1000, li_1002, li_1003, li_2000, li_2042, li_2043, li_2045, li_10000, li_32767, li_100000, li_1000000, li_m1, li_m1b, ob_s, lt1_e, se_l, se_r, if_true, if_false, true_and, and_true, false_and, and_false, st_at, i3_add, i3_mul, i3_sub, i3_lt, i3_le, i3_eq, i3_nat, m1_eqi, i3_eqm, m1_lti, m1_lei, i3_ltm, i3_lem, i3_decm, i3_dec0, nm_eqm, yr_eqm, mxor0, Nat.zero_add, if_pos, if_neg, eq_self, ne_eq, not_true_eq_false, not_false_eq_true, fX_Text_hasMore, x0]
theorem blanks_M (h : Mt e b ft fp t gM) : ∃ gM', fM_blanks gM = some gM' ∧ Mt e b ft fp t gM' ∧ FRM gM gM' ∧ (ft = 0 → gM' 0 4 = i3 t) := by
  by_cases q : ft = 0
  · subst q
    obtain ⟨k1, c1, c2, c3, f2, _, j1⟩ := M_next0 h
    exact ⟨k1, c1, j1, fun p i w => f2 p i (by omega), fun _ => c2⟩
  · obtain ⟨h1, h2, h3, h4, ⟨c, c1, c2, c3⟩, h5⟩ := h
    obtain ⟨m, r⟩ := run_ex (fun k => b k = 32) e (e - c) c (by omega)
    obtain ⟨g', e1, e2, f⟩ := M_blanks h1 c1 r
    exact ⟨g', e1, ⟨h1.fr f, (f 0 5 (by omega)).trans h2, h3, h4, ⟨_, e2, r.1, fun z => absurd z q⟩, fun z => (f 0 6 (by omega)).trans (h5 z)⟩, fun p i w => f p i (by omega), fun z => absurd z q⟩
end TB
