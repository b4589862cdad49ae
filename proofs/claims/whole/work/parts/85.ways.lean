/-! PURE: names for many at once -/
theorem lp_two {σ ρ σ' ρ' : Type} {f : σ → Option (σ ⊕ ρ)} {f' : σ' → Option (σ' ⊕ ρ')} (P : Nat → σ → σ' → Prop) (N : Nat) (h : ∀ k s s', k < N → P k s s' → ∃ t t', f s = some (.inl t) ∧ f' s' = some (.inl t') ∧ P (k + 1) t t') : ∀ d k s s', k + d = N → P k s s' → ∃ t t', P N t t' ∧ ∀ m, lp f (m + d) s = lp f m t ∧ lp f' (m + d) s' = lp f' m t'
  | 0, k, s, s', hk, hp => by
    have : k = N := by omega
    subst this
    exact ⟨s, s', hp, fun m => ⟨rfl, rfl⟩⟩
  | d + 1, k, s, s', hk, hp => by
    obtain ⟨t, t', e, e', ht⟩ := h k s s' (by omega) hp
    obtain ⟨u, u', hu, hm⟩ := lp_two P N h d (k + 1) t t' (by omega) ht
    refine ⟨u, u', hu, fun m => ?_⟩
    rw [← Nat.add_assoc, lp_inl e, lp_inl e']
    exact hm m
theorem yr_lt {a b : Nat} (ha : a < 2147483648) (hb : b < 2147483648) : (yr a < yr b) = (a < b) := by
  have h := yr_le hb ha
  refine propext ⟨fun q => ?_, fun q => ?_⟩
  · refine Classical.byContradiction fun z => ?_
    have h2 : yr b ≤ yr a := by rw [h]; omega
    exact absurd q (Int32.not_lt.mpr h2)
  · refine Int32.not_le.mp fun z => ?_
    rw [h] at z
    omega
theorem yr_eq {a b : Nat} (ha : a < 2147483648) (hb : b < 2147483648) : (yr a = yr b) = (a = b) := by
  refine propext ⟨fun q => ?_, fun q => by rw [q]⟩
  have h1 := yr_le ha hb
  have h2 := yr_le hb ha
  have h3 : yr a ≤ yr b := by rw [q]; exact Int32.le_refl _
  have h4 : yr b ≤ yr a := by rw [q]; exact Int32.le_refl _
  rw [h1] at h3
  rw [h2] at h4
  omega
/-- the rank of a person among those asked -/
def rkk (S : Nat) (p : Nat) : Nat := cntB (fun q => S.testBit q) p
theorem rkk_le (S p : Nat) : rkk S p ≤ p := cntB_le _ p
theorem rkk_T {S p : Nat} (h : S.testBit p = true) : rkk S (p + 1) = rkk S p + 1 := cnt_T (b := fun q => S.testBit q) h
theorem rkk_F {S p : Nat} (h : ¬ S.testBit p = true) : rkk S (p + 1) = rkk S p := cnt_F (b := fun q => S.testBit q) h
theorem rkk_mono {S : Nat} : ∀ d p, rkk S p ≤ rkk S (p + d)
  | 0, _ => Nat.le_refl _
  | d + 1, p => by
    have h := rkk_mono (S := S) d p
    by_cases q : S.testBit (p + d) = true
    · have := rkk_T q
      rw [Nat.add_assoc] at this
      omega
    · have := rkk_F q
      rw [Nat.add_assoc] at this
      omega
theorem rkk_lt {S p q : Nat} (h : S.testBit p = true) (hq : p < q) : rkk S p < rkk S q := by
  have h1 := rkk_T h
  have h2 := rkk_mono (S := S) (q - (p + 1)) (p + 1)
  rw [show p + 1 + (q - (p + 1)) = q by omega] at h2
  omega
theorem rkk_inj {S p q : Nat} (hp : S.testBit p = true) (hq : S.testBit q = true) (h : rkk S p = rkk S q) : p = q := by
  rcases Nat.lt_trichotomy p q with z | z | z
  · have := rkk_lt hp z; omega
  · exact z
  · have := rkk_lt hq z; omega
/-- what the two sides hold while names are given -/
def OFF (W : (Nat → Nat) → Nat) (n N : Nat) (K F D U T : Nat → Nat) (Y P S : Nat) (k : Nat) (g : St) : Prop := ∀ q, q < k → S.testBit q = true → g 47 (rkk S q) = i3 q ∧ ∀ a, a < 8 → g 48 (8 * rkk S q + a) = if a < n ∧ ¬ P.testBit a = true ∧ ldb W n N K F D U T Y a q then i3 (wl W n K F D U T Y a q) else m1
def IV (gX0 gM0 : St) (W : (Nat → Nat) → Nat) (n N : Nat) (K F D U T : Nat → Nat) (Y P S : Nat) (p : Nat) (t c : Nat → Nat) (bs bw : Nat) (b : Nat → Nat) (gX gM : St) : Prop :=
  KX gX0 gX ∧ KM gM0 gM ∧ gM 0 0 = i3 0 ∧ (∀ a, a < n → gM 22 a = i3 (t a)) ∧ (∀ a, a < n → st8 U a < N → gX 49 a = i3 (N - st8 U a - t a) ∧ st8 U a + t a ≤ N) ∧ (∀ q, q < p → gM 20 q = nm (c q) ∧ (¬ S.testBit q = true → c q = 8)) ∧ (∀ q, q < p → S.testBit q = true → gX 50 (rkk S q) = nm (c q)) ∧ (gX 14 5 = i3 (rkk S n) ∧ OFF W n N K F D U T Y P S n gX) ∧ gM 0 41 = yr bs ∧ gX 14 6 = yr bs ∧ gM 0 42 = yr bw ∧ gX 14 7 = yr bw ∧ (bs ≠ 0 → ∀ q, q < n → gM 21 q = nm (b q) ∧ (S.testBit q = true → gX 51 (rkk S q) = nm (b q)) ∧ (¬ S.testBit q = true → b q = 8)) ∧ bs ≤ 9 ∧ bw ≤ 1000
section WY
variable {gX0 gM0 : St} {W : (Nat → Nat) → Nat} {n N : Nat} {K F D U T : Nat → Nat} {Y P S : Nat}
theorem kxW {g : St} {p i : Nat} {v : Int32} (h : p = 14 ∨ (45 ≤ p ∧ p ≤ 51)) : KX g (st g p i v) := fun a j q => by rw [st_at, if_neg (by omega)]
theorem kmW {g : St} {p i : Nat} {v : Int32} (h : (20 ≤ p ∧ p ≤ 24) ∨ (p = 0 ∧ (i = 41 ∨ i = 42 ∨ i = 45))) : KM g (st g p i v) := fun a j q => by rw [st_at, if_neg (by omega)]
/-- all have been asked: the best is kept -/
theorem leafW (h8 : n ≤ 8) {t c : Nat → Nat} {bs bw : Nat} {b : Nat → Nat} {gX gM : St} {s w : Nat} (hn : gM 4 0 = i3 n) (hI : IV gX0 gM0 W n N K F D U T Y P S n t c bs bw b gX gM) (hs : s ≤ 8) (hw : w ≤ 900) (dX dM : Nat) : ∃ gX' gM' bs' bw' b', fX_Ways_give (dX + 1) (i3 (rkk S n)) (i3 s) (i3 w) gX = some gX' ∧ fM_serves (dM + 1) (i3 S) (i3 n) (i3 s) (i3 w) gM = some gM' ∧ IV gX0 gM0 W n N K F D U T Y P S n t c bs' bw' b' gX' gM' ∧ bs' ≠ 0 := by
  have hI0 := hI
  obtain ⟨i1, i2, i3', i4, i5, i6, i7, ⟨i8, i8'⟩, i9, i10, i11, i12, i13, i14, i15⟩ := hI
  have hr := rkk_le S n
  have eX0 : ∀ z, fX_Ways_give (dX + 1) (i3 (rkk S n)) (i3 s) (i3 w) gX = some z ↔ fX_Ways_keepIfBetter (i3 s) (i3 w) gX = some z := fun z => by
    show fX_Ways_give_o _ _ _ _ _ = _ ↔ _
    unfold fX_Ways_give_o fX_Ways_give_b14
    rw [i8, if_pos (i3_yle (by omega) (Nat.le_refl _))]
    cases fX_Ways_keepIfBetter (i3 s) (i3 w) gX with
    | none => exact Iff.rfl
    | some v => exact Iff.rfl
  have l1 := yr_lt (a := bs) (b := s + 1) (by omega) (by omega)
  have l2 := yr_lt (a := s + 1) (b := bs) (by omega) (by omega)
  have l3 := yr_eq (a := s + 1) (b := bs) (by omega) (by omega)
  have l4 := yr_lt (a := bw) (b := w + 1) (by omega) (by omega)
  have l5 := yr_le (a := w + 1) (b := bw) (by omega) (by omega)
  rw [yr_s1] at l1 l2 l3 l4 l5
  have l1' : (yr bs < i3 s) = (bs < s + 1) := l1
  by_cases q : bs < s + 1 ∨ (s + 1 = bs ∧ bw < w + 1)
  · have cX := X_copy (a := 50) (b := 51) (s := 0) (p := 0) (m := rkk S n) (ln8 (by omega)) (ln8 (by omega)) (by omega) (by omega) (by omega) (by omega) (by omega) (st (st gX 14 6 (i3 s)) 14 7 (i3 w))
    have eX : fX_Ways_keepIfBetter (i3 s) (i3 w) gX = some (cpS (st (st gX 14 6 (i3 s)) 14 7 (i3 w)) 50 0 51 0 (rkk S n)) := by
      have u : fX_Ways_keepIfBetter_b24 (i3 s) (i3 w) gX = some (cpS (st (st gX 14 6 (i3 s)) 14 7 (i3 w)) 50 0 51 0 (rkk S n)) := by
        simp (disch := (first | omega | assumption | trivial)) only [li_0, li_1, li_2, li_3, li_4, li_5, li_6, li_7, li_8, li_9, li_10, li_11, li_12, li_13, li_14, li_15, li_16, li_17, li_18, li_19, li_20, li_21, li_22, li_23, li_24, li_25, li_26, li_27, li_28, li_29, li_30, li_31, li_32, li_33, li_34, li_35, li_36, li_37, li_38, li_39, li_40, li_41, li_42, li_43, li_44, li_45, li_46, li_47, li_48, li_49, li_50, li_51, li_52, li_53, li_54, li_55, li_56, li_57, li_58, li_59, li_60, li_63, li_64, li_72, li_76, li_77, li_91, li_93, li_96, li_97, li_99, li_108, li_109, li_120, li_122, li_150, li_200, li_255, li_400, li_426, li_600, li_900, li_999, li_1000, li_1002, li_1003, li_2000, li_2042, li_2043, li_2045, li_10000, li_32767, li_100000, li_1000000, li_m1, li_m1b, ob_s, lt1_e, se_l, se_r, if_true, if_false, true_and, and_true, false_and, and_false, st_at, i3_add, i3_mul, i3_sub, i3_lt, i3_le, i3_eq, i3_nat, m1_eqi, i3_eqm, m1_lti, m1_lei, i3_ltm, i3_lem, i3_decm, i3_dec0, nm_eqm, yr_eqm, mxor0, Nat.zero_add, if_pos, if_neg, eq_self, ne_eq, not_true_eq_false, not_false_eq_true, fX_Ways_keepIfBetter_b24, i8, cX]
      unfold fX_Ways_keepIfBetter
      simp only [i10, i12, l1', l3, l5, u]
      by_cases q2 : bs < s + 1
      · rw [if_pos q2]
      · rw [if_neg q2, if_pos (by omega), if_neg (by omega)]
    have eM : fM_serves (dM + 1) (i3 S) (i3 n) (i3 s) (i3 w) gM = some (cpS (st (st gM 0 41 (i3 s)) 0 42 (i3 w)) 20 0 21 0 8) := by
      have u : fM_serves_b36 (fM_grp_serves dM) (i3 s) (i3 w) gM = some (cpS (st (st gM 0 41 (i3 s)) 0 42 (i3 w)) 20 0 21 0 8) := by
        simp only [fM_serves_b36, fM_serves_b50, li_0, li_1, li_2, li_3, li_4, li_5, li_6, li_7, li_8, li_9, li_10, li_11, li_12, li_13, li_14, li_15, li_16, li_17, li_18, li_19, li_20, li_21, li_22, li_23, li_24, li_25, li_26, li_27, li_28, li_29, li_30, li_31, li_32, li_33, li_34, li_35, li_36, li_37, li_38, li_39, li_40, li_41, li_42, li_43, li_44, li_45, li_46, li_47, li_48, li_49, li_50, li_51, li_52, li_53, li_54, li_55, li_56, li_57, li_58, li_59, li_60, li_63, li_64, li_72, li_76, li_77, li_91, li_93, li_96, li_97, li_99, li_108, li_109, li_120, li_122, li_150, li_200, li_255, li_400, li_426, li_600, li_900, li_999, li_1000, li_1002, li_1003, li_2000, li_2042, li_2043, li_2045, li_10000, li_32767, li_100000, li_1000000, li_m1, li_m1b]
        rw [show lp (fM_serves_L50 (fM_grp_serves dM)) fuel (i3 0, st (st gM 0 41 (i3 s)) 0 42 (i3 w)) = some (cpS (st (st gM 0 41 (i3 s)) 0 42 (i3 w)) 20 0 21 0 8) from ?_]
        · rfl
        · refine lp_cnt0 (fun k => (i3 k, cpS (st (st gM 0 41 (i3 s)) 0 42 (i3 w)) 20 0 21 0 k)) (by show (i3 0, cpS _ 20 0 21 0 0) = _; rw [cpS_0]) 8 (by omega) (fun k hk => ?_) ?_
          · have e1 : cpS (st (st gM 0 41 (i3 s)) 0 42 (i3 w)) 20 0 21 0 k 20 k = st (st gM 0 41 (i3 s)) 0 42 (i3 w) 20 k := by rw [cpS_ne (by omega)]
            have e2 := cpS_s (st (st gM 0 41 (i3 s)) 0 42 (i3 w)) 20 0 21 0 k
            rw [Nat.zero_add] at e2
            unfold fM_serves_L50
            dsimp only
            rw [if_neg (show ¬ (8 : Int32) ≤ i3 k from i3_nle (a := 8) (by omega) hk), if_pos (i3_in (by omega) hk), i3_nat (by omega), e1, e2]
            rw [show i3 k + (1 : Int32) = i3 (k + 1) from i3_add k 1]
          · simp (disch := (first | omega | assumption | trivial)) only [li_0, li_1, li_2, li_3, li_4, li_5, li_6, li_7, li_8, li_9, li_10, li_11, li_12, li_13, li_14, li_15, li_16, li_17, li_18, li_19, li_20, li_21, li_22, li_23, li_24, li_25, li_26, li_27, li_28, li_29, li_30, li_31, li_32, li_33, li_34, li_35, li_36, li_37, li_38, li_39, li_40, li_41, li_42, li_43, li_44, li_45, li_46, li_47, li_48, li_49, li_50, li_51, li_52, li_53, li_54, li_55, li_56, li_57, li_58, li_59, li_60, li_63, li_64, li_72, li_76, li_77, li_91, li_93, li_96, li_97, li_99, li_108, li_109, li_120, li_122, li_150, li_200, li_255, li_400, li_426, li_600, li_900, li_999, li_1000, li_1002, li_1003, li_2000, li_2042, li_2043, li_2045, li_10000, li_32767, li_100000, li_1000000, li_m1, li_m1b, ob_s, lt1_e, se_l, se_r, if_true, if_false, true_and, and_true, false_and, and_false, st_at, i3_add, i3_mul, i3_sub, i3_lt, i3_le, i3_eq, i3_nat, m1_eqi, i3_eqm, m1_lti, m1_lei, i3_ltm, i3_lem, i3_decm, i3_dec0, nm_eqm, yr_eqm, mxor0, Nat.zero_add, if_pos, if_neg, eq_self, ne_eq, not_true_eq_false, not_false_eq_true, fM_serves_L50]
      show fM_serves_o (fM_grp_serves dM) _ _ _ _ _ = _
      unfold fM_serves_o
      rw [hn, if_pos rfl]
      simp only [i9, i11, l2, l3, l4, u]
      by_cases q2 : bs < s + 1
      · rw [if_neg (by omega), if_neg (by omega)]
      · rw [if_neg (by omega), if_pos (by omega), if_pos (by omega)]
    refine ⟨_, _, s + 1, w + 1, c, (eX0 _).mpr eX, eM, ⟨?_, ?_, ?_, fun a ha => ?_, fun a ha h => ?_, fun q hq => ?_, fun q hq h => ?_, ⟨?_, fun q hq h => ?_⟩, ?_, ?_, ?_, ?_, fun _ q hq => ⟨?_, fun h => ?_, fun h => ?_⟩, by omega, by omega⟩, by omega⟩
    · exact i1.tr (fun p i h => by rw [cpS_ne (by omega), st_at, if_neg (by omega), st_at, if_neg (by omega)])
    · exact i2.tr (fun p i h => by rw [cpS_ne (by omega), st_at, if_neg (by omega), st_at, if_neg (by omega)])
    · rw [cpS_ne (by omega), st_at, if_neg (by omega), st_at, if_neg (by omega)]; exact i3'
    · rw [cpS_ne (by omega), st_ne (by omega), st_ne (by omega)]; exact i4 a ha
    · rw [cpS_ne (by omega), st_ne (by omega), st_ne (by omega)]; exact i5 a ha h
    · rw [cpS_ne (by omega), st_ne (by omega), st_ne (by omega)]; exact i6 q hq
    · rw [cpS_ne (by omega), st_ne (by omega), st_ne (by omega)]; exact i7 q hq h
    · rw [cpS_ne (by omega), st_at, if_neg (by omega), st_at, if_neg (by omega)]; exact i8
    · rw [cpS_ne (by omega), st_ne (by omega), st_ne (by omega)]
      refine ⟨(i8' q hq h).1, fun a ha => ?_⟩
      rw [cpS_ne (by omega), st_ne (by omega), st_ne (by omega)]
      exact (i8' q hq h).2 a ha
    · rw [cpS_ne (by omega), st_at, if_neg (by omega), st_eq]; rfl
    · rw [cpS_ne (by omega), st_at, if_neg (by omega), st_eq]; rfl
    · rw [cpS_ne (by omega), st_eq]; rfl
    · rw [cpS_ne (by omega), st_eq]; rfl
    · have e := cpS_in (g := st (st gM 0 41 (i3 s)) 0 42 (i3 w)) (a := 20) (s := 0) (b := 21) (p := 0) (m := 8) (k := q) (by omega)
      rw [Nat.zero_add] at e
      rw [e, st_ne (by omega), st_ne (by omega)]
      exact (i6 q hq).1
    · have e := cpS_in (g := st (st gX 14 6 (i3 s)) 14 7 (i3 w)) (a := 50) (s := 0) (b := 51) (p := 0) (m := rkk S n) (k := rkk S q) (rkk_lt h hq)
      rw [Nat.zero_add] at e
      rw [e, st_ne (by omega), st_ne (by omega)]
      exact i7 q hq h
    · exact (i6 q hq).2 h
  · have eX : fX_Ways_keepIfBetter (i3 s) (i3 w) gX = some gX := by
      unfold fX_Ways_keepIfBetter
      simp only [i10, i12, l1', l3, l5]
      by_cases q2 : s + 1 = bs
      · rw [if_neg (by omega), if_pos q2, if_pos (by omega)]
      · rw [if_neg (by omega), if_neg q2]
    have eM : fM_serves (dM + 1) (i3 S) (i3 n) (i3 s) (i3 w) gM = some gM := by
      show fM_serves_o (fM_grp_serves dM) _ _ _ _ _ = _
      unfold fM_serves_o
      rw [hn, if_pos rfl]
      simp only [i9, i11, l2, l3, l4]
      by_cases q2 : s + 1 = bs
      · rw [if_neg (by omega), if_pos q2, if_neg (by omega)]
      · rw [if_pos (by omega)]
    exact ⟨gX, gM, bs, bw, b, (eX0 _).mpr eX, eM, hI0, by omega⟩
end WY
