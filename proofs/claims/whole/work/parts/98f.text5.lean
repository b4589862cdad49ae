/-! PURE: text: a token's place; numbers, both sides -/
/-- t is the place of the next byte that is no blank -/
def nb (e : Nat) (b : Nat → Nat) (c t : Nat) : Prop := ∃ m, RUN (fun k => b k = 32) e c m ∧ c + m = t
def Xt (e : Nat) (b : Nat → Nat) (ft fp t : Nat) (g : St) : Prop := TXt e b g ∧ g 1 6 = i3 ft ∧ ft ≤ 3 ∧ t ≤ e ∧ (ft = 0 → ∃ c, g 1 3 = i3 c ∧ nb e b c t) ∧ g 1 7 = if ft = 0 then m1 else i3 fp
def Mt (e : Nat) (b : Nat → Nat) (ft fp t : Nat) (g : St) : Prop := TMt e b g ∧ g 0 5 = i3 ft ∧ ft ≤ 3 ∧ t ≤ e ∧ (∃ c, g 0 4 = i3 c ∧ c ≤ e ∧ (ft = 0 → nb e b c t)) ∧ (¬ ft = 0 → g 0 6 = i3 fp)
def FRX (g g' : St) : Prop := ∀ p i, ¬ (p = 1 ∧ 3 ≤ i ∧ i ≤ 7) → g' p i = g p i
def FRM (g g' : St) : Prop := ∀ p i, ¬ (p = 0 ∧ 4 ≤ i ∧ i ≤ 6) → g' p i = g p i
theorem FRX.rf {g : St} : FRX g g := fun _ _ _ => rfl
theorem FRM.rf {g : St} : FRM g g := fun _ _ _ => rfl
theorem FRX.tr {g g1 g2 : St} (h : FRX g g1) (k : FRX g1 g2) : FRX g g2 := fun p i a => (k p i a).trans (h p i a)
theorem FRM.tr {g g1 g2 : St} (h : FRM g g1) (k : FRM g1 g2) : FRM g g2 := fun p i a => (k p i a).trans (h p i a)
section TP
variable {e ft fp t c : Nat} {b : Nat → Nat} {g : St}
theorem nb_ex (h : c ≤ e) : ∃ t, nb e b c t := by
  obtain ⟨m, hm⟩ := run_ex (fun k => b k = 32) e (e - c) c (by omega)
  exact ⟨c + m, m, hm, rfl⟩
theorem nb_le (h : nb e b c t) : c ≤ t ∧ t ≤ e := by
  obtain ⟨m, ⟨r1, r2, r3⟩, rfl⟩ := h
  exact ⟨by omega, r1⟩
theorem nb_rf (h : nb e b c t) : nb e b t t := by
  obtain ⟨m, ⟨r1, r2, r3⟩, rfl⟩ := h
  exact ⟨0, ⟨r1, fun j hj => by omega, r3⟩, rfl⟩
theorem Xt.c600 (h : Xt e b ft fp t g) : e ≤ 600 := h.1.1
theorem Mt.c600 (h : Mt e b ft fp t g) : e ≤ 600 := h.1.1
theorem TXt.fr5 (h : TXt e b g) {g' : St} (f : FRX g g') : TXt e b g' := ⟨h.1, (f 1 2 (by omega)).trans h.2.1, fun k hk => ⟨(h.2.2 k hk).1, (f 16 k (by omega)).trans (h.2.2 k hk).2⟩⟩
theorem TMt.fr5 (h : TMt e b g) {g' : St} (f : FRM g g') : TMt e b g' := ⟨h.1, (f 0 2 (by omega)).trans h.2.1, fun k hk => ⟨(h.2.2 k hk).1, (f 1 k (by omega)).trans (h.2.2 k hk).2⟩⟩
theorem Xt.fr (h : Xt e b ft fp t g) {g' : St} (f1 : ∀ i, 2 ≤ i → g' 1 i = g 1 i) (f2 : ∀ i, g' 16 i = g 16 i) : Xt e b ft fp t g' := by
  obtain ⟨⟨h1, h2, h3⟩, h4, h5, h6, h7, h8⟩ := h
  exact ⟨⟨h1, (f1 2 (by omega)).trans h2, fun k hk => ⟨(h3 k hk).1, (f2 k).trans (h3 k hk).2⟩⟩, (f1 6 (by omega)).trans h4, h5, h6, fun q => by obtain ⟨c, c1, c2⟩ := h7 q; exact ⟨c, (f1 3 (by omega)).trans c1, c2⟩, (f1 7 (by omega)).trans h8⟩
theorem Mt.fr (h : Mt e b ft fp t g) {g' : St} (f1 : ∀ i, 2 ≤ i → i ≤ 6 → g' 0 i = g 0 i) (f2 : ∀ i, g' 1 i = g 1 i) : Mt e b ft fp t g' := by
  obtain ⟨⟨h1, h2, h3⟩, h4, h5, h6, h7, h8⟩ := h
  exact ⟨⟨h1, (f1 2 (by omega) (by omega)).trans h2, fun k hk => ⟨(h3 k hk).1, (f2 k).trans (h3 k hk).2⟩⟩, (f1 5 (by omega) (by omega)).trans h4, h5, h6, by obtain ⟨c, c1, c2, c3⟩ := h7; exact ⟨c, (f1 4 (by omega) (by omega)).trans c1, c2, c3⟩, fun q => (f1 6 (by omega) (by omega)).trans (h8 q)⟩
/-- the next byte: of the class -/
theorem X_next (h : Xt e b 0 fp t g) : ∃ g', fX_Text_nextByte g = some ((if t < e then i3 (b t) else m1), g') ∧ g' 1 3 = i3 t ∧ (∀ p i, ¬ (p = 1 ∧ i = 3) → g' p i = g p i) ∧ nb e b t t ∧ Xt e b 0 fp t g' := by
  obtain ⟨h1, h4, h5, h6, h7, h8⟩ := h
  obtain ⟨c, c1, c2⟩ := h7 rfl
  have c3 := nb_rf c2
  obtain ⟨m, r, rfl⟩ := c2
  obtain ⟨g', e1, e2, f⟩ := X_blanks h1 c1 r
  exact ⟨g', e1, e2, f, c3, h1.fr f, (f 1 6 (by omega)).trans h4, h5, h6, fun _ => ⟨_, e2, c3⟩, (f 1 7 (by omega)).trans h8⟩
theorem M_next0 (h : Mt e b 0 fp t g) : ∃ g', fM_blanks g = some g' ∧ g' 0 4 = i3 t ∧ fM_byteAt (i3 t) g' = some (if t < e then i3 (b t) else m1) ∧ (∀ p i, ¬ (p = 0 ∧ i = 4) → g' p i = g p i) ∧ nb e b t t ∧ Mt e b 0 fp t g' := by
  have hc := h.c600
  obtain ⟨h1, h4, h5, h6, h7, h8⟩ := h
  obtain ⟨c, c1, c0, c2⟩ := h7
  replace c2 := c2 rfl
  have c3 := nb_rf c2
  obtain ⟨m, r, rfl⟩ := c2
  obtain ⟨g', e1, e2, f⟩ := M_blanks h1 c1 r
  exact ⟨g', e1, e2, (h1.fr f).byteAt (by omega), f, c3, h1.fr f, (f 0 5 (by omega)).trans h4, h5, h6, ⟨_, e2, h6, fun _ => c3⟩, fun q => absurd rfl q⟩
/-- a fault is noted -/
theorem X_blame {k p : Nat} (h : Xt e b 0 fp t g) (hk : 1 ≤ k) (hk3 : k ≤ 3) : ∃ g', fX_Text_blame (i3 k) (i3 p) g = g' ∧ Xt e b k p t g' ∧ ∀ p i, ¬ (p = 1 ∧ 6 ≤ i ∧ i ≤ 7) → g' p i = g p i := by
  obtain ⟨h1, h4, h5, h6, h7, h8⟩ := h
  have f : ∀ q i, ¬ (q = 1 ∧ 6 ≤ i ∧ i ≤ 7) → (st (st g 1 6 (i3 k)) 1 7 (i3 p)) q i = g q i := fun q i w => by rw [st_at, if_neg (by omega), st_at, if_neg (by omega)]
  refine ⟨st (st g 1 6 (i3 k)) 1 7 (i3 p), ?_, ⟨h1.fr5 (fun q i w => f q i (by omega)), by simp (disch := (first | omega | assumption | trivial)) only [li_0, li_1, li_2, li_3, li_4, li_5, li_6, li_7, li_8, li_9, li_10, li_11, li_12, li_13, li_14, li_15, li_16, li_17, li_18, li_19, li_20, li_21, li_22, li_23, li_24, li_25, li_26, li_27, li_28, li_29, li_30, li_31, li_32, li_33, li_34, li_35, li_36, li_37, li_38, li_39, li_40, li_41, li_42, li_43, li_44, li_45, li_46, li_47, li_48, li_49, li_50, li_51, li_52, li_53, li_54, li_55, li_56, li_57, li_58, li_59, li_60, li_63, li_64, li_72, li_76, li_77, li_91, li_93, li_96, li_97, li_99, li_108, li_109, li_120, li_122, li_150, li_200, li_255, li_400, li_426, li_600, li_900, li_999, li_1000, li_1002, li_1003, li_2000, li_2042, li_2043, li_2045, li_10000, li_32767, li_100000, li_1000000, li_m1, li_m1b, ob_s, lt1_e, se_l, se_r, if_true, if_false, true_and, and_true, false_and, and_false, st_at, i3_add, i3_mul, i3_sub, i3_lt, i3_le, i3_eq, i3_nat, m1_eqi, i3_eqm, m1_lti, m1_lei, i3_ltm, i3_lem, i3_decm, i3_dec0, nm_eqm, yr_eqm, mxor0, Nat.zero_add, if_pos, if_neg, eq_self, ne_eq, not_true_eq_false, not_false_eq_true], hk3, h6, fun q => by omega, (st_eq _ _ _ _).trans (if_neg (by omega)).symm⟩, f⟩
  simp (disch := (first | omega | assumption | trivial)) only [li_0, li_1, li_2, li_3, li_4, li_5, li_6, li_7, li_8, li_9, li_10, li_11, li_12, li_13, li_14, li_15, li_16, li_17, li_18, li_19, li_20, li_21, li_22, li_23, li_24, li_25, li_26, li_27, li_28, li_29, li_30, li_31, li_32, li_33, li_34, li_35, li_36, li_37, li_38, li_39, li_40, li_41, li_42, li_43, li_44, li_45, li_46, li_47, li_48, li_49, li_50, li_51, li_52, li_53, li_54, li_55, li_56, li_57, li_58, li_59, li_60, li_63, li_64, li_72, li_76, li_77, li_91, li_93, li_96, li_97, li_99, li_108, li_109, li_120, li_122, li_150, li_200, li_255, li_400, li_426, li_600, li_900, li_999, li_1000, li_1002, li_1003, li_2000, li_2042, li_2043, li_2045, li_10000, li_32767, li_100000, li_1000000, li_m1, li_m1b, ob_s, lt1_e, se_l, se_r, if_true, if_false, true_and, and_true, false_and, and_false, st_at, i3_add, i3_mul, i3_sub, i3_lt, i3_le, i3_eq, i3_nat, m1_eqi, i3_eqm, m1_lti, m1_lei, i3_ltm, i3_lem, i3_decm, i3_dec0, nm_eqm, yr_eqm, mxor0, Nat.zero_add, if_pos, if_neg, eq_self, ne_eq, not_true_eq_false, not_false_eq_true, fX_Text_blame, h4]
theorem M_wrong {k p : Nat} (h : Mt e b 0 fp t g) (hk : 1 ≤ k) (hk3 : k ≤ 3) : ∃ g', fM_wrong (i3 k) (i3 p) g = g' ∧ Mt e b k p t g' ∧ ∀ p i, ¬ (p = 0 ∧ 5 ≤ i ∧ i ≤ 6) → g' p i = g p i := by
  obtain ⟨h1, h4, h5, h6, h7, h8⟩ := h
  have f : ∀ q i, ¬ (q = 0 ∧ 5 ≤ i ∧ i ≤ 6) → (st (st g 0 5 (i3 k)) 0 6 (i3 p)) q i = g q i := fun q i w => by rw [st_at, if_neg (by omega), st_at, if_neg (by omega)]
  refine ⟨st (st g 0 5 (i3 k)) 0 6 (i3 p), ?_, ⟨h1.fr5 (fun q i w => f q i (by omega)), by simp (disch := (first | omega | assumption | trivial)) only [li_0, li_1, li_2, li_3, li_4, li_5, li_6, li_7, li_8, li_9, li_10, li_11, li_12, li_13, li_14, li_15, li_16, li_17, li_18, li_19, li_20, li_21, li_22, li_23, li_24, li_25, li_26, li_27, li_28, li_29, li_30, li_31, li_32, li_33, li_34, li_35, li_36, li_37, li_38, li_39, li_40, li_41, li_42, li_43, li_44, li_45, li_46, li_47, li_48, li_49, li_50, li_51, li_52, li_53, li_54, li_55, li_56, li_57, li_58, li_59, li_60, li_63, li_64, li_72, li_76, li_77, li_91, li_93, li_96, li_97, li_99, li_108, li_109, li_120, li_122, li_150, li_200, li_255, li_400, li_426, li_600, li_900, li_999, li_1000, li_1002, li_1003, li_2000, li_2042, li_2043, li_2045, li_10000, li_32767, li_100000, li_1000000, li_m1, li_m1b, ob_s, lt1_e, se_l, se_r, if_true, if_false, true_and, and_true, false_and, and_false, st_at, i3_add, i3_mul, i3_sub, i3_lt, i3_le, i3_eq, i3_nat, m1_eqi, i3_eqm, m1_lti, m1_lei, i3_ltm, i3_lem, i3_decm, i3_dec0, nm_eqm, yr_eqm, mxor0, Nat.zero_add, if_pos, if_neg, eq_self, ne_eq, not_true_eq_false, not_false_eq_true], hk3, h6, by obtain ⟨c, c1, c2, c3⟩ := h7; exact ⟨c, (f 0 4 (by omega)).trans c1, c2, fun q => by omega⟩, fun _ => st_eq _ _ _ _⟩, f⟩
  simp (disch := (first | omega | assumption | trivial)) only [li_0, li_1, li_2, li_3, li_4, li_5, li_6, li_7, li_8, li_9, li_10, li_11, li_12, li_13, li_14, li_15, li_16, li_17, li_18, li_19, li_20, li_21, li_22, li_23, li_24, li_25, li_26, li_27, li_28, li_29, li_30, li_31, li_32, li_33, li_34, li_35, li_36, li_37, li_38, li_39, li_40, li_41, li_42, li_43, li_44, li_45, li_46, li_47, li_48, li_49, li_50, li_51, li_52, li_53, li_54, li_55, li_56, li_57, li_58, li_59, li_60, li_63, li_64, li_72, li_76, li_77, li_91, li_93, li_96, li_97, li_99, li_108, li_109, li_120, li_122, li_150, li_200, li_255, li_400, li_426, li_600, li_900, li_999, li_1000, li_1002, li_1003, li_2000, li_2042, li_2043, li_2045, li_10000, li_32767, li_100000, li_1000000, li_m1, li_m1b, ob_s, lt1_e, se_l, se_r, if_true, if_false, true_and, and_true, false_and, and_false, st_at, i3_add, i3_mul, i3_sub, i3_lt, i3_le, i3_eq, i3_nat, m1_eqi, i3_eqm, m1_lti, m1_lei, i3_ltm, i3_lem, i3_decm, i3_dec0, nm_eqm, yr_eqm, mxor0, Nat.zero_add, if_pos, if_neg, eq_self, ne_eq, not_true_eq_false, not_false_eq_true, fM_wrong, h4]
theorem X_blameF {x y : Int32} (h : Xt e b ft fp t g) (hk : ¬ ft = 0) : fX_Text_blame x y g = g := by
  obtain ⟨h1, h4, h5, h6, h7, h8⟩ := h
  simp (disch := (first | omega | assumption | trivial)) only [li_0, li_1, li_2, li_3, li_4, li_5, li_6, li_7, li_8, li_9, li_10, li_11, li_12, li_13, li_14, li_15, li_16, li_17, li_18, li_19, li_20, li_21, li_22, li_23, li_24, li_25, li_26, li_27, li_28, li_29, li_30, li_31, li_32, li_33, li_34, li_35, li_36, li_37, li_38, li_39, li_40, li_41, li_42, li_43, li_44, li_45, li_46, li_47, li_48, li_49, li_50, li_51, li_52, li_53, li_54, li_55, li_56, li_57, li_58, li_59, li_60, li_63, li_64, li_72, li_76, li_77, li_91, li_93, li_96, li_97, li_99, li_108, li_109, li_120, li_122, li_150, li_200, li_255, li_400, li_426, li_600, li_900, li_999, li_1000, li_1002, li_1003, li_2000, li_2042, li_2043, li_2045, li_10000, li_32767, li_100000, li_1000000, li_m1, li_m1b, ob_s, lt1_e, se_l, se_r, if_true, if_false, true_and, and_true, false_and, and_false, st_at, i3_add, i3_mul, i3_sub, i3_lt, i3_le, i3_eq, i3_nat, m1_eqi, i3_eqm, m1_lti, m1_lei, i3_ltm, i3_lem, i3_decm, i3_dec0, nm_eqm, yr_eqm, mxor0, Nat.zero_add, if_pos, if_neg, eq_self, ne_eq, not_true_eq_false, not_false_eq_true, fX_Text_blame, h4]
theorem M_wrongF {x y : Int32} (h : Mt e b ft fp t g) (hk : ¬ ft = 0) : fM_wrong x y g = g := by
  obtain ⟨h1, h4, h5, h6, h7, h8⟩ := h
  simp (disch := (first | omega | assumption | trivial)) only [li_0, li_1, li_2, li_3, li_4, li_5, li_6, li_7, li_8, li_9, li_10, li_11, li_12, li_13, li_14, li_15, li_16, li_17, li_18, li_19, li_20, li_21, li_22, li_23, li_24, li_25, li_26, li_27, li_28, li_29, li_30, li_31, li_32, li_33, li_34, li_35, li_36, li_37, li_38, li_39, li_40, li_41, li_42, li_43, li_44, li_45, li_46, li_47, li_48, li_49, li_50, li_51, li_52, li_53, li_54, li_55, li_56, li_57, li_58, li_59, li_60, li_63, li_64, li_72, li_76, li_77, li_91, li_93, li_96, li_97, li_99, li_108, li_109, li_120, li_122, li_150, li_200, li_255, li_400, li_426, li_600, li_900, li_999, li_1000, li_1002, li_1003, li_2000, li_2042, li_2043, li_2045, li_10000, li_32767, li_100000, li_1000000, li_m1, li_m1b, ob_s, lt1_e, se_l, se_r, if_true, if_false, true_and, and_true, false_and, and_false, st_at, i3_add, i3_mul, i3_sub, i3_lt, i3_le, i3_eq, i3_nat, m1_eqi, i3_eqm, m1_lti, m1_lei, i3_ltm, i3_lem, i3_decm, i3_dec0, nm_eqm, yr_eqm, mxor0, Nat.zero_add, if_pos, if_neg, eq_self, ne_eq, not_true_eq_false, not_false_eq_true, fM_wrong, h4]
theorem hiLe {v H : Nat} (hv : v ≤ 100000) (hH : H ≤ 1000) : (i3 v ≤ i3 H - i3 1) = (v < H) := by
  rcases H with _ | H
  · rw [i3_sub0, i3_lem (by omega)]
    exact propext ⟨fun z => z.elim, fun z => by omega⟩
  · rw [i3_sub (by omega), i3_le (by omega) (by omega)]
    exact propext ⟨fun z => by omega, fun z => by omega⟩
theorem hiLt {v H : Nat} (hv : v ≤ 100000) (hH : H ≤ 1000) : (i3 H - i3 1 < i3 v) = (H ≤ v) := by
  rcases H with _ | H
  · rw [i3_sub0, m1_lti (by omega)]
    exact propext ⟨fun z => by omega, fun z => trivial⟩
  · rw [i3_sub (by omega), i3_lt (by omega) (by omega)]
    exact propext ⟨fun z => by omega, fun z => by omega⟩
theorem X_num1 (h : Xt e b 0 fp t g) (q : ¬ (t < e ∧ dgt b t)) (x1 x2 : Int32) : ∃ g', fX_Text_number x1 x2 g = some (m1, g') ∧ Xt e b 1 t t g' ∧ FRX g g' := by
  obtain ⟨g1, e1, e2, f1, _, h1⟩ := X_next h
  obtain ⟨g2, e3, h2, f2⟩ := X_blame (p := t) h1 (Nat.le_refl 1) (by omega)
  refine ⟨g2, ?_, h2, fun p i w => (f2 p i (by omega)).trans (f1 p i (by omega))⟩
  have h0 := h.2.1
  have hd : fX_Text_isDigit (if t < e then i3 (b t) else m1) = i3 0 := by
    by_cases q2 : t < e
    · rw [if_pos q2, digX _ (h.1.2.2 t (by have := h.c600; omega)).1, if_neg (show ¬ (48 ≤ b t ∧ b t ≤ 57) from fun z => q ⟨q2, z⟩)]
    · rw [if_neg q2]; exact digX1
  unfold fX_Text_number
  rw [if_pos (show g 1 6 = 0 from h0), e1, ob_s]
  show (if fX_Text_isDigit _ = 0 then _ else _) = _
  rw [hd, if_pos (show i3 0 = (0 : Int32) from rfl), lt1_e, e2]
  show some (m1, fX_Text_blame (i3 1) (i3 t) g1) = _
  rw [e3]
theorem M_num1 (h : Mt e b 0 fp t g) (q : ¬ (t < e ∧ dgt b t)) {lo H : Nat} : ∃ g', fM_number (i3 lo) (i3 H - i3 1) g = some (i3 0, g') ∧ Mt e b 1 t t g' ∧ FRM g g' := by
  obtain ⟨g1, e1, e2, eb, f1, hn, h1⟩ := M_next0 h
  obtain ⟨g2, e3, h2, f2⟩ := M_wrong (p := t) h1 (Nat.le_refl 1) (by omega)
  have h0 := h.2.1
  have h600 := h.c600
  have hd : fM_isDigit (if t < e then i3 (b t) else m1) = i3 0 := by
    by_cases q2 : t < e
    · rw [if_pos q2, digM _ (h.1.2.2 t (by have := h.c600; omega)).1, if_neg (show ¬ (48 ≤ b t ∧ b t ≤ 57) from fun z => q ⟨q2, z⟩)]
    · rw [if_neg q2]; exact digM1
  have e24 : g2 0 4 = i3 t := (f2 0 4 (by omega)).trans e2
  obtain ⟨C, g3, hC, e4, e5, f3⟩ := M_digs h2.1 e24 (n := 0) ⟨h.2.2.2.1, fun j hj => by omega, fun z y => q ⟨z, y⟩⟩ (i3 lo) (i3 H - i3 1) (i3 t)
  have e6 : cp C (dv b t 0) = 0 := if_pos (show 0 < C by omega)
  rw [e6] at e4
  have h3 : Mt e b 1 t t g3 := by
    obtain ⟨k1, k2, k3, k4, k5, k6⟩ := h2
    exact ⟨k1.fr f3, (f3 0 5 (by omega)).trans k2, k3, k4, ⟨t + 0, e5, k4, fun z => by omega⟩, fun z => (f3 0 6 (by omega)).trans (k6 z)⟩
  refine ⟨g3, ?_, h3, fun p i w => ((f3 p i (by omega)).trans (f2 p i (by omega))).trans (f1 p i (by omega))⟩
  have e7 : fM_number_b122 (i3 0) g3 = some (i3 0, g3) := by
    have := h3.2.1
    simp (disch := (first | omega | assumption | trivial)) only [li_0, li_1, li_2, li_3, li_4, li_5, li_6, li_7, li_8, li_9, li_10, li_11, li_12, li_13, li_14, li_15, li_16, li_17, li_18, li_19, li_20, li_21, li_22, li_23, li_24, li_25, li_26, li_27, li_28, li_29, li_30, li_31, li_32, li_33, li_34, li_35, li_36, li_37, li_38, li_39, li_40, li_41, li_42, li_43, li_44, li_45, li_46, li_47, li_48, li_49, li_50, li_51, li_52, li_53, li_54, li_55, li_56, li_57, li_58, li_59, li_60, li_63, li_64, li_72, li_76, li_77, li_91, li_93, li_96, li_97, li_99, li_108, li_109, li_120, li_122, li_150, li_200, li_255, li_400, li_426, li_600, li_900, li_999, li_1000, li_1002, li_1003, li_2000, li_2042, li_2043, li_2045, li_10000, li_32767, li_100000, li_1000000, li_m1, li_m1b, ob_s, lt1_e, se_l, se_r, if_true, if_false, true_and, and_true, false_and, and_false, st_at, i3_add, i3_mul, i3_sub, i3_lt, i3_le, i3_eq, i3_nat, m1_eqi, i3_eqm, m1_lti, m1_lei, i3_ltm, i3_lem, i3_decm, i3_dec0, nm_eqm, yr_eqm, mxor0, Nat.zero_add, if_pos, if_neg, eq_self, ne_eq, not_true_eq_false, not_false_eq_true, fM_number_b122, this]
  unfold fM_number
  rw [if_pos (show g 0 5 = 0 from h0), e1, ob_s, e2, eb, ob_s, hd, if_pos (show i3 0 = (0 : Int32) from rfl), lt1_e]
  show fM_number_b44 _ _ _ (i3 0) (fM_wrong (i3 1) (i3 t) g1) = _
  rw [e3]
  unfold fM_number_b44
  rw [e4, ob_s]
  show (if fM_in (i3 0) (i3 lo) (i3 H - i3 1) = 0 then lt1 (fM_wrong (i3 2) (i3 t) g3) (fun g119 => fM_number_b122 (i3 0) g119) else fM_number_b122 (i3 0) g3) = _
  rw [M_wrongF h3 (by omega), lt1_e, e7, ite_self]
theorem X_num2 {n t' lo H : Nat} (h : Xt e b 0 fp t g) (q : t < e ∧ dgt b t) (r : RUN (dgt b) e t n) (hn : nb e b (t + n) t') (hlo : lo ≤ 1) (hH : H ≤ 1000) : ∃ g', fX_Text_number (i3 lo) (i3 H - i3 1) g = some ((if lo ≤ dv b t n ∧ dv b t n < H then i3 (dv b t n) else m1), g') ∧ (if lo ≤ dv b t n ∧ dv b t n < H then Xt e b 0 fp t' g' else Xt e b 2 t t g') ∧ (g' 1 5 = i3 t ∧ g' 1 3 = i3 (t + n)) ∧ FRX g g' := by
  obtain ⟨g1, e1, e2, f1, _, h1⟩ := X_next h
  have h0 := h.2.1
  have h600 := h.c600
  have hd : fX_Text_isDigit (if t < e then i3 (b t) else m1) = i3 1 := by
    rw [if_pos q.1, digX _ (h.1.2.2 t (by omega)).1, if_pos (show 48 ≤ b t ∧ b t ≤ 57 from q.2)]
  have k5 : FRX g1 (st g1 1 5 (i3 t)) := fun p i w => by rw [st_at, if_neg (by omega)]
  obtain ⟨g2, e4, e5, f2⟩ := X_digs (h1.1.fr5 k5) (c := t) (by simp (disch := (first | omega | assumption | trivial)) only [li_0, li_1, li_2, li_3, li_4, li_5, li_6, li_7, li_8, li_9, li_10, li_11, li_12, li_13, li_14, li_15, li_16, li_17, li_18, li_19, li_20, li_21, li_22, li_23, li_24, li_25, li_26, li_27, li_28, li_29, li_30, li_31, li_32, li_33, li_34, li_35, li_36, li_37, li_38, li_39, li_40, li_41, li_42, li_43, li_44, li_45, li_46, li_47, li_48, li_49, li_50, li_51, li_52, li_53, li_54, li_55, li_56, li_57, li_58, li_59, li_60, li_63, li_64, li_72, li_76, li_77, li_91, li_93, li_96, li_97, li_99, li_108, li_109, li_120, li_122, li_150, li_200, li_255, li_400, li_426, li_600, li_900, li_999, li_1000, li_1002, li_1003, li_2000, li_2042, li_2043, li_2045, li_10000, li_32767, li_100000, li_1000000, li_m1, li_m1b, ob_s, lt1_e, se_l, se_r, if_true, if_false, true_and, and_true, false_and, and_false, st_at, i3_add, i3_mul, i3_sub, i3_lt, i3_le, i3_eq, i3_nat, m1_eqi, i3_eqm, m1_lti, m1_lei, i3_ltm, i3_lem, i3_decm, i3_dec0, nm_eqm, yr_eqm, mxor0, Nat.zero_add, if_pos, if_neg, eq_self, ne_eq, not_true_eq_false, not_false_eq_true, e2]) r (i3 lo) (i3 H - i3 1)
  have e26 : g2 1 6 = i3 0 := (f2 1 6 (by omega)).trans (by rw [st_at, if_neg (by omega)]; exact h1.2.1)
  have e25 : g2 1 5 = i3 t := (f2 1 5 (by omega)).trans (st_eq _ _ _ _)
  have F2 : FRX g g2 := fun p i w => ((f2 p i (by omega)).trans (k5 p i w)).trans (f1 p i (by omega))
  have e27 : g2 1 7 = m1 := (f2 1 7 (by omega)).trans ((by rw [st_at, if_neg (by omega)] : (st g1 1 5 (i3 t)) 1 7 = g1 1 7).trans (h1.2.2.2.2.2.trans (if_pos rfl)))
  have h2 : Xt e b 0 fp t' g2 := ⟨h.1.fr5 F2, e26, by omega, (nb_le hn).2, fun _ => ⟨_, e5, hn⟩, e27.trans (if_pos rfl).symm⟩
  have hnum : fX_Text_number (i3 lo) (i3 H - i3 1) g = if i3 (cp 10000 (dv b t n)) < i3 lo then fX_Text_number_b117 g2 else if i3 (cp 10000 (dv b t n)) ≤ i3 H - i3 1 then some (i3 (cp 10000 (dv b t n)), g2) else fX_Text_number_b117 g2 := by
    unfold fX_Text_number
    rw [if_pos (show g 1 6 = 0 from h0), e1, ob_s]
    show (if fX_Text_isDigit _ = 0 then _ else fX_Text_number_b40 (i3 lo) (i3 H - i3 1) (i3 0) (st g1 1 5 (g1 1 3))) = _
    rw [hd, if_neg (show ¬ i3 1 = (0 : Int32) by decide), e2]
    unfold fX_Text_number_b40
    rw [e4, ob_s]
  rw [hnum]
  have hb : ∃ g3, fX_Text_number_b117 g2 = some (m1, g3) ∧ Xt e b 2 t t g3 ∧ (g3 1 5 = i3 t ∧ g3 1 3 = i3 (t + n)) ∧ FRX g g3 := by
    obtain ⟨g3, e6, h3, f3⟩ := X_blame (p := t) h2 (k := 2) (by omega) (by omega)
    obtain ⟨j1, j2, j3, j4, j5, j6⟩ := h3
    refine ⟨g3, ?_, ⟨j1, j2, j3, h.2.2.2.1, fun z => by omega, j6⟩, ⟨(f3 1 5 (by omega)).trans e25, (f3 1 3 (by omega)).trans e5⟩, F2.tr (fun p i w => f3 p i (by omega))⟩
    unfold fX_Text_number_b117
    rw [lt1_e, e25]
    show some (m1, fX_Text_blame (i3 2) (i3 t) g2) = _
    rw [e6]
  have hcl := cp_le 10000 (dv b t n)
  simp only [i3_lt (a := cp 10000 (dv b t n)) (b := lo) (by omega) (by omega), hiLe (v := cp 10000 (dv b t n)) (by omega) hH]
  by_cases w : lo ≤ dv b t n ∧ dv b t n < H
  · simp only [if_pos w]
    have ec : cp 10000 (dv b t n) = dv b t n := if_pos (by omega)
    rw [ec, if_neg (by omega), if_pos (by omega)]
    exact ⟨g2, rfl, h2, ⟨e25, e5⟩, F2⟩
  · simp only [if_neg w]
    obtain ⟨g3, a1, a2, a3, a4⟩ := hb
    refine ⟨g3, ?_, a2, a3, a4⟩
    rw [← a1]
    by_cases w1 : cp 10000 (dv b t n) < lo
    · rw [if_pos w1]
    · rw [if_neg w1]
      by_cases w2 : cp 10000 (dv b t n) < H
      · exfalso
        have ec : cp 10000 (dv b t n) = dv b t n := by
          by_cases w3 : dv b t n < 10000
          · exact if_pos w3
          · rw [show cp 10000 (dv b t n) = 10000 from if_neg w3] at w2
            omega
        omega
      · rw [if_neg w2]
theorem M_num2 {n t' lo H : Nat} (h : Mt e b 0 fp t g) (q : t < e ∧ dgt b t) (r : RUN (dgt b) e t n) (hn : nb e b (t + n) t') (hlo : lo ≤ 1) (hH : H ≤ 1000) : ∃ g', fM_number (i3 lo) (i3 H - i3 1) g = some ((if lo ≤ dv b t n ∧ dv b t n < H then i3 (dv b t n) else i3 0), g') ∧ (if lo ≤ dv b t n ∧ dv b t n < H then Mt e b 0 fp t' g' else Mt e b 2 t t g') ∧ FRM g g' := by
  obtain ⟨g1, e1, e2, eb, f1, _, h1⟩ := M_next0 h
  have h0 := h.2.1
  have h600 := h.c600
  have hd : fM_isDigit (if t < e then i3 (b t) else m1) = i3 1 := by
    rw [if_pos q.1, digM _ (h.1.2.2 t (by omega)).1, if_pos (show 48 ≤ b t ∧ b t ≤ 57 from q.2)]
  obtain ⟨C, g2, hC, e4, e5, f2⟩ := M_digs h1.1 e2 r (i3 lo) (i3 H - i3 1) (i3 t)
  have F2 : FRM g g2 := fun p i w => (f2 p i (by omega)).trans (f1 p i (by omega))
  have e25 : g2 0 5 = i3 0 := (f2 0 5 (by omega)).trans h1.2.1
  have h2 : Mt e b 0 fp t' g2 := ⟨h.1.fr5 F2, e25, by omega, (nb_le hn).2, ⟨_, e5, r.1, fun _ => hn⟩, fun z => absurd rfl z⟩
  have hcl := cp_le C (dv b t n)
  have hnum : fM_number (i3 lo) (i3 H - i3 1) g = if fM_in (i3 (cp C (dv b t n))) (i3 lo) (i3 H - i3 1) = i3 0 then fM_number_b122 (i3 (cp C (dv b t n))) (fM_wrong (i3 2) (i3 t) g2) else fM_number_b122 (i3 (cp C (dv b t n))) g2 := by
    unfold fM_number
    rw [if_pos (show g 0 5 = 0 from h0), e1, ob_s, e2, eb, ob_s, hd, if_neg (show ¬ i3 1 = (0 : Int32) by decide)]
    show fM_number_b44 (i3 lo) (i3 H - i3 1) (i3 t) (i3 0) g1 = _
    unfold fM_number_b44
    rw [e4, ob_s]
    rfl
  rw [hnum]
  have hin : fM_in (i3 (cp C (dv b t n))) (i3 lo) (i3 H - i3 1) = if lo ≤ dv b t n ∧ dv b t n < H then i3 1 else i3 0 := by
    unfold fM_in
    simp only [i3_lt (a := cp C (dv b t n)) (b := lo) (by omega) (by omega), hiLt (v := cp C (dv b t n)) (by omega) hH]
    by_cases w3 : dv b t n < C
    · rw [show cp C (dv b t n) = dv b t n from if_pos w3]
      by_cases w1 : dv b t n < lo
      · rw [if_pos w1, if_neg (by omega)]; rfl
      · rw [if_neg w1]
        by_cases w2 : H ≤ dv b t n
        · rw [if_pos w2, if_neg (by omega)]; rfl
        · rw [if_neg w2, if_pos (by omega)]; rfl
    · rw [show cp C (dv b t n) = C from if_neg w3, if_neg (by omega), if_pos (by omega), if_neg (by omega)]
      rfl
  rw [hin]
  by_cases w : lo ≤ dv b t n ∧ dv b t n < H
  · simp only [if_pos w]
    rw [if_neg (show ¬ i3 1 = i3 0 by decide)]
    have ec : cp C (dv b t n) = dv b t n := if_pos (by omega)
    refine ⟨g2, ?_, h2, F2⟩
    rw [ec]
    simp (disch := (first | omega | assumption | trivial)) only [li_0, li_1, li_2, li_3, li_4, li_5, li_6, li_7, li_8, li_9, li_10, li_11, li_12, li_13, li_14, li_15, li_16, li_17, li_18, li_19, li_20, li_21, li_22, li_23, li_24, li_25, li_26, li_27, li_28, li_29, li_30, li_31, li_32, li_33, li_34, li_35, li_36, li_37, li_38, li_39, li_40, li_41, li_42, li_43, li_44, li_45, li_46, li_47, li_48, li_49, li_50, li_51, li_52, li_53, li_54, li_55, li_56, li_57, li_58, li_59, li_60, li_63, li_64, li_72, li_76, li_77, li_91, li_93, li_96, li_97, li_99, li_108, li_109, li_120, li_122, li_150, li_200, li_255, li_400, li_426, li_600, li_900, li_999, li_1000, li_1002, li_1003, li_2000, li_2042, li_2043, li_2045, li_10000, li_32767, li_100000, li_1000000, li_m1, li_m1b, ob_s, lt1_e, se_l, se_r, if_true, if_false, true_and, and_true, false_and, and_false, st_at, i3_add, i3_mul, i3_sub, i3_lt, i3_le, i3_eq, i3_nat, m1_eqi, i3_eqm, m1_lti, m1_lei, i3_ltm, i3_lem, i3_decm, i3_dec0, nm_eqm, yr_eqm, mxor0, Nat.zero_add, if_pos, if_neg, eq_self, ne_eq, not_true_eq_false, not_false_eq_true, fM_number_b122, e25]
  · simp only [if_neg w]
    rw [if_pos trivial]
    obtain ⟨g3, e6, h3, f3⟩ := M_wrong (p := t) h2 (k := 2) (by omega) (by omega)
    obtain ⟨j1, j2, j3, j4, j5, j6⟩ := h3
    refine ⟨g3, ?_, ⟨j1, j2, j3, h.2.2.2.1, by obtain ⟨c, c1, c2, c3⟩ := j5; exact ⟨c, c1, c2, fun z => by omega⟩, j6⟩, F2.tr (fun p i w => f3 p i (by omega))⟩
    rw [e6]
    simp (disch := (first | omega | assumption | trivial)) only [li_0, li_1, li_2, li_3, li_4, li_5, li_6, li_7, li_8, li_9, li_10, li_11, li_12, li_13, li_14, li_15, li_16, li_17, li_18, li_19, li_20, li_21, li_22, li_23, li_24, li_25, li_26, li_27, li_28, li_29, li_30, li_31, li_32, li_33, li_34, li_35, li_36, li_37, li_38, li_39, li_40, li_41, li_42, li_43, li_44, li_45, li_46, li_47, li_48, li_49, li_50, li_51, li_52, li_53, li_54, li_55, li_56, li_57, li_58, li_59, li_60, li_63, li_64, li_72, li_76, li_77, li_91, li_93, li_96, li_97, li_99, li_108, li_109, li_120, li_122, li_150, li_200, li_255, li_400, li_426, li_600, li_900, li_999, li_1000, li_1002, li_1003, li_2000, li_2042, li_2043, li_2045, li_10000, li_32767, li_100000, li_1000000, li_m1, li_m1b, ob_s, lt1_e, se_l, se_r, if_true, if_false, true_and, and_true, false_and, and_false, st_at, i3_add, i3_mul, i3_sub, i3_lt, i3_le, i3_eq, i3_nat, m1_eqi, i3_eqm, m1_lti, m1_lei, i3_ltm, i3_lem, i3_decm, i3_dec0, nm_eqm, yr_eqm, mxor0, Nat.zero_add, if_pos, if_neg, eq_self, ne_eq, not_true_eq_false, not_false_eq_true, fM_number_b122, j2]
end TP
