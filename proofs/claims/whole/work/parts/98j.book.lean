/-! PURE: a book of stones is read -/
theorem cnt_upd0 {B : Nat → Nat} {b a : Nat} (hb : B b = 0) (ha : ¬ a = 0) : ∀ k, cntB (fun q => decide (¬ updN B b a q = 0)) k = cntB (fun q => decide (¬ B q = 0)) k + if b < k then 1 else 0
  | 0 => rfl
  | k + 1 => by
    have h := cnt_upd0 hb ha k
    by_cases q : k = b
    · subst q
      rw [cnt_T (by simp [updN, ha]), cnt_F (by simp [hb]), h, if_neg (by omega), if_pos (by omega)]
    · by_cases q2 : B k = 0
      · rw [cnt_F (by simp [updN, q, q2]), cnt_F (by simp [q2]), h]
        by_cases q3 : b < k
        · rw [if_pos q3, if_pos (by omega)]
        · rw [if_neg q3, if_neg (by omega)]
      · rw [cnt_T (by simp [updN, q, q2]), cnt_T (by simp [q2]), h]
        by_cases q3 : b < k
        · rw [if_pos q3, if_pos (by omega)]
        · rw [if_neg q3, if_neg (by omega)]
/-- what reading a book leaves as it was -/
def BFX (g g' : St) : Prop := ∀ p i, ¬ (p = 1 ∧ 3 ≤ i ∧ i ≤ 7) → ¬ (p = 9 ∧ i = 1) → ¬ p = 36 → g' p i = g p i
def BFM (g g' : St) : Prop := ∀ p i, ¬ (p = 0 ∧ 4 ≤ i ∧ i ≤ 6) → ¬ (370 ≤ p ∧ p < 378) → g' p i = g p i
theorem BFX.rf {g : St} : BFX g g := fun _ _ _ _ _ => rfl
theorem BFM.rf {g : St} : BFM g g := fun _ _ _ _ => rfl
theorem BFX.tr {g g1 g2 : St} (h : BFX g g1) (k : BFX g1 g2) : BFX g g2 := fun p i a b c => (k p i a b c).trans (h p i a b c)
theorem BFM.tr {g g1 g2 : St} (h : BFM g g1) (k : BFM g1 g2) : BFM g g2 := fun p i a b => (k p i a b).trans (h p i a b)
theorem FRX.b {g g' : St} (h : FRX g g') : BFX g g' := fun p i a _ _ => h p i a
theorem FRM.b {g g' : St} (h : FRM g g') : BFM g g' := fun p i a _ => h p i a
/-- the lines read so far -/
def BK (n k m : Nat) (A V B : Nat → Nat) (gX gM : St) : Prop := k = cntB (fun p => decide (¬ B p = 0)) 8 ∧ (∀ j, j < k → gM (370 + j) 0 = i3 (A j) ∧ gM (370 + j) 1 = i3 (V j) ∧ A j < n ∧ V j ≤ 8 ∧ B (A j) = V j + 1) ∧ (∀ p, p < 8 → gX 36 p = yr (B p) ∧ (B p ≠ 0 → ∃ j, j < k ∧ A j = p) ∧ B p ≤ 9) ∧ gX 9 1 = i3 k ∧ m < 256 ∧ ∀ p, p < 8 → m.testBit p = decide (¬ B p = 0)
theorem BK.fr {n k m : Nat} {A V B : Nat → Nat} {gX gM gX' gM' : St} (h : BK n k m A V B gX gM) (e1 : ∀ i, gX' 36 i = gX 36 i) (e2 : gX' 9 1 = gX 9 1) (e3 : ∀ p i, 370 ≤ p → p < 378 → gM' p i = gM p i) : BK n k m A V B gX' gM' := by
  obtain ⟨h1, h2, h3, h4, h5⟩ := h
  have := cntB_le (fun p => decide (¬ B p = 0)) 8
  refine ⟨h1, fun j hj => ?_, fun p hp => ?_, e2.trans h4, h5⟩
  · rw [e3 _ _ (by omega) (by omega), e3 _ _ (by omega) (by omega)]; exact h2 j hj
  · rw [e1]; exact h3 p hp
theorem BK.le {n k m : Nat} {A V B : Nat → Nat} {gX gM : St} (h : BK n k m A V B gX gM) : k ≤ 8 := by
  have := cntB_le (fun p => decide (¬ B p = 0)) 8
  rw [h.1]; exact this
theorem BK.tells {n k m p : Nat} {A V B : Nat → Nat} {gX gM : St} (h : BK n k m A V B gX gM) (hp : p < 8) : fX_Book_tellsOf 9 (i3 p) gX = some (i3 (if B p = 0 then 0 else 1)) := by
  have hk := h.le
  obtain ⟨h1, h2, h3, h4, h5⟩ := h
  obtain ⟨a1, a2, a3⟩ := h3 p hp
  have r9 : rX 9 0 = 36 := rfl
  by_cases q : k = 0
  · have : B p = 0 := by
      by_cases q2 : B p = 0
      · exact q2
      · obtain ⟨j, hj, _⟩ := a2 q2
        omega
    simp (disch := (first | omega | assumption | trivial)) only [li_0, li_1, li_2, li_3, li_4, li_5, li_6, li_7, li_8, li_9, li_10, li_11, li_12, li_13, li_14, li_15, li_16, li_17, li_18, li_19, li_20, li_21, li_22, li_23, li_24, li_25, li_26, li_27, li_28, li_29, li_30, li_31, li_32, li_33, li_34, li_35, li_36, li_37, li_38, li_39, li_40, li_41, li_42, li_43, li_44, li_45, li_46, li_47, li_48, li_49, li_50, li_51, li_52, li_53, li_54, li_55, li_56, li_57, li_58, li_59, li_60, li_63, li_64, li_72, li_76, li_77, li_91, li_93, li_96, li_97, li_99, li_108, li_109, li_120, li_122, li_150, li_200, li_255, li_400, li_426, li_600, li_900, li_999, li_1000, li_1002, li_1003, li_2000, li_2042, li_2043, li_2045, li_10000, li_32767, li_100000, li_1000000, li_m1, li_m1b, ob_s, lt1_e, se_l, se_r, if_true, if_false, true_and, and_true, false_and, and_false, st_at, i3_add, i3_mul, i3_sub, i3_lt, i3_le, i3_eq, i3_nat, m1_eqi, i3_eqm, m1_lti, m1_lei, i3_ltm, i3_lem, i3_decm, i3_dec0, nm_eqm, yr_eqm, mxor0, Nat.zero_add, if_pos, if_neg, eq_self, ne_eq, not_true_eq_false, not_false_eq_true, fX_Book_tellsOf, h4]
  · have a4 := at8 (row := 36) (g := gX) (by omega) hp
    rw [a1] at a4
    by_cases q2 : B p = 0
    · rw [q2] at a4
      simp (disch := (first | omega | assumption | trivial)) only [li_0, li_1, li_2, li_3, li_4, li_5, li_6, li_7, li_8, li_9, li_10, li_11, li_12, li_13, li_14, li_15, li_16, li_17, li_18, li_19, li_20, li_21, li_22, li_23, li_24, li_25, li_26, li_27, li_28, li_29, li_30, li_31, li_32, li_33, li_34, li_35, li_36, li_37, li_38, li_39, li_40, li_41, li_42, li_43, li_44, li_45, li_46, li_47, li_48, li_49, li_50, li_51, li_52, li_53, li_54, li_55, li_56, li_57, li_58, li_59, li_60, li_63, li_64, li_72, li_76, li_77, li_91, li_93, li_96, li_97, li_99, li_108, li_109, li_120, li_122, li_150, li_200, li_255, li_400, li_426, li_600, li_900, li_999, li_1000, li_1002, li_1003, li_2000, li_2042, li_2043, li_2045, li_10000, li_32767, li_100000, li_1000000, li_m1, li_m1b, ob_s, lt1_e, se_l, se_r, if_true, if_false, true_and, and_true, false_and, and_false, st_at, i3_add, i3_mul, i3_sub, i3_lt, i3_le, i3_eq, i3_nat, m1_eqi, i3_eqm, m1_lti, m1_lei, i3_ltm, i3_lem, i3_decm, i3_dec0, nm_eqm, yr_eqm, mxor0, Nat.zero_add, if_pos, if_neg, eq_self, ne_eq, not_true_eq_false, not_false_eq_true, fX_Book_tellsOf, h4, r9, a4, yr_0]
    · simp (disch := (first | omega | assumption | trivial)) only [li_0, li_1, li_2, li_3, li_4, li_5, li_6, li_7, li_8, li_9, li_10, li_11, li_12, li_13, li_14, li_15, li_16, li_17, li_18, li_19, li_20, li_21, li_22, li_23, li_24, li_25, li_26, li_27, li_28, li_29, li_30, li_31, li_32, li_33, li_34, li_35, li_36, li_37, li_38, li_39, li_40, li_41, li_42, li_43, li_44, li_45, li_46, li_47, li_48, li_49, li_50, li_51, li_52, li_53, li_54, li_55, li_56, li_57, li_58, li_59, li_60, li_63, li_64, li_72, li_76, li_77, li_91, li_93, li_96, li_97, li_99, li_108, li_109, li_120, li_122, li_150, li_200, li_255, li_400, li_426, li_600, li_900, li_999, li_1000, li_1002, li_1003, li_2000, li_2042, li_2043, li_2045, li_10000, li_32767, li_100000, li_1000000, li_m1, li_m1b, ob_s, lt1_e, se_l, se_r, if_true, if_false, true_and, and_true, false_and, and_false, st_at, i3_add, i3_mul, i3_sub, i3_lt, i3_le, i3_eq, i3_nat, m1_eqi, i3_eqm, m1_lti, m1_lei, i3_ltm, i3_lem, i3_decm, i3_dec0, nm_eqm, yr_eqm, mxor0, Nat.zero_add, if_pos, if_neg, eq_self, ne_eq, not_true_eq_false, not_false_eq_true, fX_Book_tellsOf, h4, r9, a4, yr_eqm]
theorem BK.has {n k m p : Nat} {A V B : Nat → Nat} {gX gM : St} (h : BK n k m A V B gX gM) (hp : p < 8) : fM_has (i3 m) (i3 p) = i3 (if B p = 0 then 0 else 1) := by
  obtain ⟨h1, h2, h3, h4, h5, h6⟩ := h
  rw [has_gen h5 hp, h6 p hp]
  by_cases q : B p = 0
  · rw [if_pos q, if_neg (by simp [q])]
  · rw [if_neg q, if_pos (by simp [q])]
/-- one more line -/
theorem BK.add {n k m p v : Nat} {A V B : Nat → Nat} {gX gM gX' gM' : St} (h : BK n k m A V B gX gM) (hn : n ≤ 8) (hp : p < n) (hv : v ≤ 8) (h0 : B p = 0) (e1 : ∀ i, gX' 36 i = if i = p then i3 v else gX 36 i) (e2 : gX' 9 1 = i3 (k + 1)) (e3 : ∀ q i, 370 ≤ q → q < 378 → gM' q i = if q = 370 + k ∧ i = 1 then i3 v else if q = 370 + k ∧ i = 0 then i3 p else gM q i) : k < 8 ∧ BK n (k + 1) (m ||| 1 <<< p) (updN A k p) (updN V k v) (updN B p (v + 1)) gX' gM' := by
  have hk := h.le
  obtain ⟨h1, h2, h3, h4, h5, h6⟩ := h
  have hc := cnt_upd0 (B := B) (b := p) (a := v + 1) h0 (by omega) 8
  rw [if_pos (by omega), ← h1] at hc
  have hle := cntB_le (fun q => decide (¬ updN B p (v + 1) q = 0)) 8
  refine ⟨by omega, hc.symm, fun j hj => ?_, fun q hq => ⟨?_, fun hz => ?_, ?_⟩, e2, ?_, fun q hq => ?_⟩
  · rw [e3 _ _ (by omega) (by omega), e3 _ _ (by omega) (by omega)]
    by_cases w : j = k
    · subst w
      rw [updN_eq, updN_eq, updN_eq, if_neg (by omega), if_pos ⟨rfl, rfl⟩, if_pos ⟨rfl, rfl⟩]
      exact ⟨rfl, rfl, hp, hv, rfl⟩
    · rw [updN_ne w, updN_ne w, if_neg (by omega), if_neg (by omega), if_neg (by omega), if_neg (by omega)]
      obtain ⟨a1, a2, a3, a4, a5⟩ := h2 j (by omega)
      refine ⟨a1, a2, a3, a4, ?_⟩
      rw [updN_ne (fun z => by rw [z] at a5; omega)]
      exact a5
  · rw [e1]
    by_cases w : q = p
    · subst w
      rw [if_pos rfl, updN_eq]
      rfl
    · rw [if_neg w, updN_ne w]
      exact (h3 q hq).1
  · by_cases w : q = p
    · exact ⟨k, by omega, by rw [updN_eq]; exact w.symm⟩
    · rw [updN_ne w] at hz
      obtain ⟨j, j1, j2⟩ := (h3 q hq).2.1 hz
      exact ⟨j, by omega, by rw [updN_ne (by omega)]; exact j2⟩
  · by_cases w : q = p
    · subst w
      rw [updN_eq]; omega
    · rw [updN_ne w]
      exact (h3 q hq).2.2
  · have : 1 <<< p < 256 := by
      have : ∀ p, p < 8 → 1 <<< p < 256 := by decide
      exact this p (by omega)
    exact Nat.or_lt_two_pow (n := 8) h5 this
  · rw [Nat.testBit_or, h6 q hq, Nat.one_shiftLeft, Nat.testBit_two_pow]
    by_cases w : q = p
    · subst w
      rw [updN_eq]
      simp
    · rw [updN_ne w]
      have : ¬ p = q := fun z => w z.symm
      simp [this]
/-- the loops over the lines: how they stand -/
def BI (e n : Nat) (b : Nat → Nat) (gX0 gM0 : St) (k : Nat) (s : Int32 × St) (s' : Int32 × Int32 × St) : Prop := ∃ ft fp t, TS e b ft fp t s.2 s'.2.2 ∧ BFX gX0 s.2 ∧ BFM gM0 s'.2.2 ∧ (ft = 0 → k = e - t + 1 ∧ s'.2.2 0 4 = i3 t ∧ ∃ l m A V B, BK n l m A V B s.2 s'.2.2 ∧ s.1 = i3 l ∧ s'.1 = i3 l ∧ s'.2.1 = i3 m)
def BE (e n : Nat) (b : Nat → Nat) (gX0 gM0 : St) (r : St) (r' : Int32 × St) : Prop := ∃ ft fp t, TS e b ft fp t r r'.2 ∧ BFX gX0 r ∧ BFM gM0 r'.2 ∧ (ft = 0 → ∃ l m A V B, BK n l m A V B r r'.2 ∧ r'.1 = i3 l)
section BKS
variable {e n ft fp t l m v : Nat} {b : Nat → Nat} {gX gM : St}
theorem book_tailF (h : TS e b ft fp t gX gM) (q : ¬ ft = 0) {x2 x4 x5 y2 y3 : Int32} (hx : x4 = m1 ∨ ∃ v, v < 8 ∧ x4 = i3 v) : ∃ ft' fp' t' gX' gM', ¬ ft' = 0 ∧ fX_Book_readFrom_b54 9 x2 (i3 l) x4 gX = some (.inl (i3 (l + 1), gX')) ∧ fM_book_b114 y2 y3 x5 gM = some (.inl (y2, y3, gM')) ∧ TS e b ft' fp' t' gX' gM' ∧ BFX gX gX' ∧ BFM gM gM' := by
  obtain ⟨ft1, fp1, t1, w, gX1, gM1, a1, a2, a3, a4, a5, a6⟩ := numK h (lo := 0) (H := 8) (by omega) (by omega)
  have q1 : ¬ ft1 = 0 := fun z => q (a6 z).1
  rw [if_neg q1] at a1 a2
  obtain ⟨gX2, c1, c2, c3⟩ : ∃ g, fX_Rows_put 36 x4 m1 gX1 = some g ∧ BFX gX1 g ∧ ∀ i, (g 1 i = gX1 1 i ∧ g 16 i = gX1 16 i) := by
    rcases hx with rfl | ⟨v, hv, rfl⟩
    · exact ⟨gX1, pum, BFX.rf, fun i => ⟨rfl, rfl⟩⟩
    · exact ⟨st gX1 36 v m1, pu8 (by omega) hv, fun p i w1 w2 w3 => by rw [st_at, if_neg (by omega)], fun i => ⟨by rw [st_at, if_neg (by omega)], by rw [st_at, if_neg (by omega)]⟩⟩
  obtain ⟨gX3, d0⟩ : ∃ g, g = st gX2 9 1 (gX2 9 1 + i3 1) := ⟨_, rfl⟩
  have d1 : BFX gX2 gX3 := fun p i w1 w2 w3 => by rw [d0, st_at, if_neg w2]
  have d2 : ∀ p i, ¬ p = 9 → gX3 p i = gX2 p i := fun p i w => by rw [d0, st_at, if_neg (by omega)]
  have h3 : TS e b ft1 fp1 t1 gX3 gM1 := a3.fr (fun i _ => (d2 1 i (by omega)).trans (c3 i).1) (fun i => (d2 16 i (by omega)).trans (c3 i).2) (fun _ _ _ => rfl) (fun _ => rfl)
  obtain ⟨ft2, fp2, t2, gX4, gM2, f1, f2, f3, f4, f5, f6, f7⟩ := sign_both h3 (s := 59) (by omega)
  have q2 : ¬ ft2 = 0 := fun z => q1 (f6 z).1
  obtain ⟨gM3, k1, k2, k3, k4⟩ := blanks_M f3.2
  refine ⟨ft2, fp2, t2, gX4, gM3, q2, ?_, ?_, ⟨f3.1, k2⟩, ((a4.b.tr c2).tr d1).tr f4.b, (a5.b.tr f5.b).tr k3.b⟩
  · unfold fX_Book_readFrom_b54
    show (fX_Text_number (i3 0) (i3 8) gX).bind _ = _
    rw [a1, ob_s]
    show (fX_Rows_put 36 x4 m1 gX1).bind _ = _
    rw [c1, ob_s]
    show (fX_Text_expect (i3 59) (st gX2 9 1 (gX2 9 1 + i3 1))).bind _ = _
    rw [← d0, f1, ob_s]
    show some (Sum.inl (i3 l + i3 1, gX4)) = _
    rw [i3_add]
  · unfold fM_book_b114
    show (fM_number (i3 0) (i3 8) gM).bind _ = _
    rw [a2, ob_s]
    show (fM_sign (i3 59) gM1).bind _ = _
    rw [f2, ob_s]
    have := f3.2.2.1
    have h9 := f3.2.2.2.1
    have e5 : ¬ gM2 0 5 = 0 := by
      rw [this, show (0 : Int32) = i3 0 from rfl, i3_eq (by omega) (by omega)]
      exact q2
    rw [if_neg e5]
    unfold fM_book_b166
    rw [k1, ob_s]
theorem book_tail (h : TS e b 0 fp t gX gM) (hv : v < 8) (hl : l < 8) (hm : m < 256) (x2 : Int32) : ∃ ft' fp' t' w gX' gM', fX_Book_readFrom_b54 9 x2 (i3 l) (i3 v) gX = some (.inl (i3 (l + 1), gX')) ∧ fM_book_b114 (i3 l) (i3 m) (i3 v) gM = some (.inl ((if ft' = 0 then i3 (l + 1) else i3 l), (if ft' = 0 then i3 (m ||| 1 <<< v) else i3 m), gM')) ∧ TS e b ft' fp' t' gX' gM' ∧ BFX gX gX' ∧ BFM gM gM' ∧ (ft' = 0 → w ≤ 8 ∧ t < t' ∧ gM' 0 4 = i3 t' ∧ (∀ i, gX' 36 i = if i = v then i3 w else gX 36 i) ∧ gX' 9 1 = gX 9 1 + i3 1 ∧ ∀ q i, 370 ≤ q → q < 378 → gM' q i = if q = 370 + l ∧ i = 1 then i3 w else if q = 370 + l ∧ i = 0 then i3 v else gM q i) := by
  obtain ⟨ft1, fp1, t1, w, gX1, gM1, a1, a2, a3, a4, a5, a6⟩ := numK h (lo := 0) (H := 8) (by omega) (by omega)
  obtain ⟨gX3, d0⟩ : ∃ g, g = st (st gX1 36 v (if ft1 = 0 then i3 w else m1)) 9 1 (gX1 9 1 + i3 1) := ⟨_, rfl⟩
  have d1 : BFX gX1 gX3 := fun p i w1 w2 w3 => by rw [d0, st_at, if_neg w2, st_at, if_neg (by omega)]
  have d2 : ∀ p i, ¬ p = 9 → ¬ p = 36 → gX3 p i = gX1 p i := fun p i w w2 => by rw [d0, st_at, if_neg (by omega), st_at, if_neg (by omega)]
  have h3 : TS e b ft1 fp1 t1 gX3 gM1 := a3.fr (fun i _ => d2 1 i (by omega) (by omega)) (fun i => d2 16 i (by omega) (by omega)) (fun _ _ _ => rfl) (fun _ => rfl)
  obtain ⟨ft2, fp2, t2, gX4, gM2, f1, f2, f3, f4, f5, f6, f7⟩ := sign_both h3 (s := 59) (by omega)
  have eX : fX_Book_readFrom_b54 9 x2 (i3 l) (i3 v) gX = some (.inl (i3 (l + 1), gX4)) := by
    unfold fX_Book_readFrom_b54
    show (fX_Text_number (i3 0) (i3 8) gX).bind _ = _
    rw [a1, ob_s]
    show (fX_Rows_put 36 (i3 v) (if ft1 = 0 then i3 w else m1) gX1).bind _ = _
    rw [pu8 (by omega) hv, ob_s]
    show (fX_Text_expect (i3 59) (st (st gX1 36 v (if ft1 = 0 then i3 w else m1)) 9 1 ((st gX1 36 v (if ft1 = 0 then i3 w else m1)) 9 1 + i3 1))).bind _ = _
    rw [show (st gX1 36 v (if ft1 = 0 then i3 w else m1)) 9 1 = gX1 9 1 by rw [st_at, if_neg (by omega)], ← d0, f1, ob_s]
    show some (Sum.inl (i3 l + i3 1, gX4)) = _
    rw [i3_add]
  have eM : fM_book_b114 (i3 l) (i3 m) (i3 v) gM = if gM2 0 5 = 0 then fM_book_b166 (i3 (l + 1)) (i3 (m ||| 1 <<< v)) (st (st gM2 (370 + l) 0 (i3 v)) (370 + l) 1 (if ft1 = 0 then i3 w else i3 0)) else fM_book_b166 (i3 l) (i3 m) gM2 := by
    unfold fM_book_b114
    show (fM_number (i3 0) (i3 8) gM).bind _ = _
    rw [a2, ob_s]
    show (fM_sign (i3 59) gM1).bind _ = _
    rw [f2, ob_s, if_pos (i3_in (by omega) hl), i3_nat (by omega), show i3 l + (1 : Int32) = i3 (l + 1) from i3_add l 1, bit_one v hv, bit_or m hm v hv]
  have h5 := f3.2.2.1
  have h9 := f3.2.2.2.1
  by_cases q2 : ft2 = 0
  · subst q2
    obtain ⟨z1, z2, z3, z4, _⟩ := f6 rfl
    subst z1
    obtain ⟨y1, y2, y3, y4, y5⟩ := a6 rfl
    rw [if_pos rfl] at eM d0
    obtain ⟨gM3, g0⟩ : ∃ g, g = st (st gM2 (370 + l) 0 (i3 v)) (370 + l) 1 (i3 w) := ⟨_, rfl⟩
    have g1 : ∀ p i, ¬ p = 370 + l → gM3 p i = gM2 p i := fun p i z => by rw [g0, st_at, if_neg (by omega), st_at, if_neg (by omega)]
    have h4 : Mt e b 0 fp2 t2 gM3 := f3.2.fr (fun i _ _ => g1 0 i (by omega)) (fun i => g1 1 i (by omega))
    obtain ⟨gM4, k1, k2, k3, k4⟩ := blanks_M h4
    rw [if_pos (show gM2 0 5 = 0 from h5), ← g0] at eM
    have tt := nb_le z4
    refine ⟨0, fp2, t2, w, gX4, gM4, eX, ?_, ⟨f3.1, k2⟩, (a4.b.tr d1).tr f4.b, ((a5.b.tr f5.b).tr (fun p i z1 z2 => g1 p i (by omega))).tr k3.b, fun _ => ⟨y3, by omega, k4 rfl, fun i => ?_, ?_, fun q i q1 q2 => ?_⟩⟩
    · rw [eM, if_pos rfl, if_pos rfl]
      unfold fM_book_b166
      rw [k1, ob_s]
    · rw [f4 36 i (by omega), d0, st_at, if_neg (by omega), st_at]
      by_cases z : i = v
      · rw [if_pos ⟨rfl, z⟩, if_pos z]
      · rw [if_neg (fun y => z y.2), if_neg z]
        exact a4 36 i (by omega)
    · rw [f4 9 1 (by omega), d0, st_eq, a4 9 1 (by omega)]
    · rw [k3 q i (by omega), g0, st_at, st_at]
      rw [f5 q i (by omega), a5 q i (by omega)]
  · have e5 : ¬ gM2 0 5 = 0 := by
      rw [h5, show (0 : Int32) = i3 0 from rfl, i3_eq (by omega) (by omega)]
      exact q2
    rw [if_neg e5] at eM
    obtain ⟨gM3, k1, k2, k3, k4⟩ := blanks_M f3.2
    refine ⟨ft2, fp2, t2, w, gX4, gM3, eX, ?_, ⟨f3.1, k2⟩, (a4.b.tr d1).tr f4.b, (a5.b.tr f5.b).tr k3.b, fun z => absurd z q2⟩
    rw [eM, if_neg q2, if_neg q2]
    unfold fM_book_b166
    rw [k1, ob_s]
theorem book_step (hn : n ≤ 8) {gX0 gM0 : St} (h0 : gM0 4 0 = i3 n) : ∀ (k : Nat) (s : Int32 × St) (s' : Int32 × Int32 × St), BI e n b gX0 gM0 k s s' → (∃ j t t', j < k ∧ fX_Book_readFrom_L6 9 (i3 n) s = some (.inl t) ∧ fM_book_L48 s' = some (.inl t') ∧ BI e n b gX0 gM0 j t t') ∨ ∃ r r', fX_Book_readFrom_L6 9 (i3 n) s = some (.inr r) ∧ fM_book_L48 s' = some (.inr r') ∧ BE e n b gX0 gM0 r r' := by
  rintro k ⟨x3, gX⟩ ⟨y2, y3, gM⟩ ⟨ft, fp, t, hT, hF, hG, hs⟩
  dsimp only at hT hF hG hs
  obtain ⟨gX1, a1, a2, a3, a4⟩ := more_X hT.1
  have h5 := hT.2.2.1
  have h3 := hT.2.2.2.1
  have h600 := hT.1.c600
  by_cases q : ft = 0
  · subst q
    obtain ⟨hk, h4, l, m, A, V, B, hB, e1, e2, e3⟩ := hs rfl
    subst e1 e2 e3
    have hle := hB.le
    by_cases q1 : t < e
    · left
      rw [if_pos ⟨rfl, q1⟩] at a1
      obtain ⟨gM1, k1, k2, k3, k4⟩ := blanks_M hT.2
      have hm := hB.2.2.2.2.1
      obtain ⟨ft1, fp1, t1, v, gX2, gM2, c1, c2, c3, c4, c5, c6⟩ := num_both (show TS e b 0 fp t gX1 gM1 from ⟨a2, k2⟩) (lo := 0) (H := n) (by omega) (by omega)
      have hB2 : BK n l m A V B gX2 gM2 := hB.fr (fun i => (c4 36 i (by omega)).trans (a3 36 i (by omega))) ((c4 9 1 (by omega)).trans (a3 9 1 (by omega))) (fun p i z1 z2 => (c5 p i (by omega)).trans (k3 p i (by omega)))
      have f1 : BFX gX0 gX2 := (hF.tr a3.b).tr c4.b
      have f2 : BFM gM0 gM2 := (hG.tr k3.b).tr c5.b
      have e4 : gM1 4 0 = i3 n := (k3 4 0 (by omega)).trans ((hG 4 0 (by omega) (by omega)).trans h0)
      have x5 := c3.2.2.1
      have x6 := c3.1.2.1
      have x3 := c3.1.2.2.1
      have eX : fX_Book_readFrom_L6 9 (i3 n) (i3 l, gX) = if fX_Text_isSound gX2 = 0 then fX_Book_readFrom_b54 9 (i3 n) (i3 l) (if ft1 = 0 then i3 v else m1) gX2 else ((fX_Book_tellsOf 9 (if ft1 = 0 then i3 v else m1) gX2).bind fun r39 => if r39 = 0 then fX_Book_readFrom_b54 9 (i3 n) (i3 l) (if ft1 = 0 then i3 v else m1) gX2 else fX_Book_readFrom_b54 9 (i3 n) (i3 l) (if ft1 = 0 then i3 v else m1) (fX_Text_blame (i3 2) (gX2 1 5) gX2)) := by
        unfold fX_Book_readFrom_L6
        show (if i3 8 < i3 l then _ else _) = _
        rw [if_neg (i3_nlt (by omega) hle), a1, ob_s]
        show (if i3 1 = i3 0 then _ else (fX_Text_number (i3 0) (i3 n - i3 1) gX1).bind _) = _
        rw [if_neg (by decide), c1, ob_s]
        rfl
      have eM : fM_book_L48 (i3 l, i3 m, gM) = if gM2 0 5 = 0 then (if fM_has (i3 m) (if ft1 = 0 then i3 v else i3 0) = 0 then fM_book_b114 (i3 l) (i3 m) (if ft1 = 0 then i3 v else i3 0) gM2 else fM_book_b114 (i3 l) (i3 m) (if ft1 = 0 then i3 v else i3 0) (fM_wrong (i3 2) (gM1 0 4) gM2)) else fM_book_b114 (i3 l) (i3 m) (if ft1 = 0 then i3 v else i3 0) gM2 := by
        unfold fM_book_L48
        show (if gM 0 5 = i3 0 then _ else _) = _
        rw [h5, if_pos rfl, hT.2.1.2.1, h4, if_neg (i3_nle (by omega) q1), k1, ob_s, e4]
        show (fM_number (i3 0) (i3 n - i3 1) gM1).bind _ = _
        rw [c2, ob_s]
        rfl
      by_cases q2 : ft1 = 0
      · subst q2
        obtain ⟨_, _, hv, ht, h15, _⟩ := c6 rfl
        rw [if_pos rfl] at eX eM
        have s1 : fX_Text_isSound gX2 = i3 1 := by
          unfold fX_Text_isSound
          rw [if_pos (show gX2 1 6 = 0 from x6)]
          rfl
        rw [s1, if_neg (by decide), hB2.tells (by omega), ob_s] at eX
        rw [if_pos (show gM2 0 5 = 0 from x5), hB2.has (by omega)] at eM
        by_cases q3 : B v = 0
        · rw [if_pos q3, if_pos (show i3 0 = (0 : Int32) from rfl)] at eX eM
          have hl8 : l < 8 := by
            have hc := cnt_upd0 (B := B) (b := v) (a := 1) q3 (by omega) 8
            rw [if_pos (by omega), ← hB2.1] at hc
            have := cntB_le (fun q => decide (¬ updN B v 1 q = 0)) 8
            omega
          obtain ⟨ft2, fp2, t2, w, gX3, gM3, d1, d2, d3, d4, d5, d6⟩ := book_tail c3 (v := v) (l := l) (m := m) (by omega) hl8 hm (i3 n)
          rw [d1] at eX
          rw [d2] at eM
          refine ⟨if ft2 = 0 then e - t2 + 1 else 0, _, _, ?_, eX, eM, ft2, fp2, t2, d3, f1.tr d4, f2.tr d5, fun z => ?_⟩
          · by_cases q4 : ft2 = 0
            · rw [if_pos q4]
              have := (d6 q4).2.1
              omega
            · rw [if_neg q4]; omega
          · subst z
            obtain ⟨w1, w2, w3, w4, w5, w6⟩ := d6 rfl
            have hB3 := hB2.add hn hv w1 q3 w4 (w5.trans (by rw [hB2.2.2.2.1, i3_add])) w6
            exact ⟨by rw [if_pos rfl], w3, l + 1, _, _, _, _, hB3.2, rfl, rfl, rfl⟩
        · rw [if_neg q3, if_neg (by decide), h15] at eX
          rw [if_neg q3, if_neg (by decide), k4 rfl] at eM
          obtain ⟨gX3, d1, d2, d3⟩ := X_blame (p := t) c3.1 (k := 2) (by omega) (by omega)
          obtain ⟨gM3, j1, j2, j3⟩ := M_wrong (p := t) c3.2 (k := 2) (by omega) (by omega)
          rw [d1] at eX
          rw [j1] at eM
          obtain ⟨ft2, fp2, t2, gX4, gM4, z0, z1, z2, z3, z4, z5⟩ := book_tailF (l := l) (x2 := i3 n) (x4 := i3 v) (x5 := i3 v) (y2 := i3 l) (y3 := i3 m) (show TS e b 2 t t1 gX3 gM3 from ⟨d2, j2⟩) (by omega) (Or.inr ⟨v, by omega, rfl⟩)
          rw [z1] at eX
          rw [z2] at eM
          exact ⟨0, _, _, by omega, eX, eM, ft2, fp2, t2, z3, (f1.tr (fun p i w1 w2 w3 => d3 p i (by omega))).tr z4, (f2.tr (fun p i w1 w2 => j3 p i (by omega))).tr z5, fun z => absurd z z0⟩
      · rw [if_neg q2] at eX eM
        have s1 : fX_Text_isSound gX2 = i3 0 := by
          unfold fX_Text_isSound
          rw [if_neg]
          · rfl
          · rw [x6, show (0 : Int32) = i3 0 from rfl, i3_eq (by omega) (by omega)]
            exact q2
        rw [s1, if_pos (show i3 0 = (0 : Int32) from rfl)] at eX
        rw [if_neg (show ¬ gM2 0 5 = 0 by rw [x5, show (0 : Int32) = i3 0 from rfl, i3_eq (by omega) (by omega)]; exact q2)] at eM
        obtain ⟨ft2, fp2, t2, gX4, gM4, z0, z1, z2, z3, z4, z5⟩ := book_tailF (l := l) (x2 := i3 n) (x4 := m1) (x5 := i3 0) (y2 := i3 l) (y3 := i3 m) c3 q2 (Or.inl rfl)
        rw [z1] at eX
        rw [z2] at eM
        exact ⟨0, _, _, by omega, eX, eM, ft2, fp2, t2, z3, f1.tr z4, f2.tr z5, fun z => absurd z z0⟩
    · right
      rw [if_neg (fun z => q1 z.2)] at a1
      refine ⟨gX1, (i3 l, gM), ?_, ?_, 0, fp, t, ⟨a2, hT.2⟩, hF.tr a3.b, hG, fun _ => ⟨l, m, A, V, B, hB.fr (fun i => a3 36 i (by omega)) (a3 9 1 (by omega)) (fun _ _ _ _ => rfl), rfl⟩⟩
      · unfold fX_Book_readFrom_L6
        show (if i3 8 < i3 l then _ else _) = _
        rw [if_neg (i3_nlt (by omega) hle), a1, ob_s]
        rfl
      · unfold fM_book_L48
        show (if gM 0 5 = i3 0 then _ else _) = _
        rw [h5, if_pos rfl, hT.2.1.2.1, h4, if_pos (i3_yle (by have := hT.1.2.2.2.1; omega) (by omega))]
  · right
    rw [if_neg (fun z => q z.1)] at a1
    have eM : fM_book_L48 (y2, y3, gM) = some (.inr (y2, gM)) := by
      unfold fM_book_L48
      show (if gM 0 5 = i3 0 then _ else _) = _
      rw [h5, if_neg (by rw [i3_eq (by omega) (by omega)]; exact q)]
    by_cases q8 : i3 8 < x3
    · refine ⟨gX, (y2, gM), ?_, eM, ft, fp, t, hT, hF, hG, fun z => absurd z q⟩
      unfold fX_Book_readFrom_L6
      show (if i3 8 < x3 then _ else _) = _
      rw [if_pos q8]
    · refine ⟨gX1, (y2, gM), ?_, eM, ft, fp, t, ⟨a2, hT.2⟩, hF.tr a3.b, hG, fun z => absurd z q⟩
      unfold fX_Book_readFrom_L6
      show (if i3 8 < x3 then _ else _) = _
      rw [if_neg q8, a1, ob_s]
      rfl
end BKS
