/-! PURE: names for many at once, the search -/
section WZ
variable {gX0 gM0 : St} {W : (Nat → Nat) → Nat} {n N : Nat} {K F D U T : Nat → Nat} {Y P S : Nat} {p : Nat} {t c : Nat → Nat} {bs bw : Nat} {b : Nat → Nat} {gX gM : St}
theorem IV.fm (h : IV gX0 gM0 W n N K F D U T Y P S p t c bs bw b gX gM) {gM' : St} (f : FM1 gM gM') : IV gX0 gM0 W n N K F D U T Y P S p t c bs bw b gX gM' := by
  obtain ⟨i1, i2, i3', i4, i5, i6, i7, i8, i9, i10, i11, i12, i13, i14⟩ := h
  have f0 := f 0 (by omega) (by omega)
  have f20 := f 20 (by omega) (by omega)
  have f21 := f 21 (by omega) (by omega)
  have f22 := f 22 (by omega) (by omega)
  refine ⟨i1, i2.tr f.k, by rw [f0]; exact i3', fun a ha => by rw [f22]; exact i4 a ha, i5, fun q hq => by rw [f20]; exact i6 q hq, i7, i8, by rw [f0]; exact i9, i10, by rw [f0]; exact i11, i12, fun h q hq => by rw [f21]; exact i13 h q hq, i14⟩
theorem IV.pre (h : IV gX0 gM0 W n N K F D U T Y P S p t c bs bw b gX gM) {v : Int32} : IV gX0 gM0 W n N K F D U T Y P S p t c bs bw b gX (st gM 20 p v) := by
  obtain ⟨i1, i2, i3', i4, i5, i6, i7, i8, i9, i10, i11, i12, i13, i14⟩ := h
  exact ⟨i1, i2.tr (kmW (by omega)), by rw [st_ne (by omega)]; exact i3', fun a ha => by rw [st_ne (by omega)]; exact i4 a ha, i5, fun q hq => by rw [st_at, if_neg (by omega)]; exact i6 q hq, i7, i8, by rw [st_ne (by omega)]; exact i9, i10, by rw [st_ne (by omega)]; exact i11, i12, fun h q hq => by rw [st_ne (by omega)]; exact i13 h q hq, i14⟩
theorem IV.down {c' : Nat → Nat} (h : IV gX0 gM0 W n N K F D U T Y P S (p + 1) t c' bs bw b gX gM) (hc : ∀ q, q < p → c' q = c q) : IV gX0 gM0 W n N K F D U T Y P S p t c bs bw b gX gM := by
  obtain ⟨i1, i2, i3', i4, i5, i6, i7, i8, i9, i10, i11, i12, i13, i14⟩ := h
  refine ⟨i1, i2, i3', i4, i5, fun q hq => ?_, fun q hq h => ?_, i8, i9, i10, i11, i12, i13, i14⟩
  · rw [← hc q hq]; exact i6 q (by omega)
  · rw [← hc q hq]; exact i7 q (by omega) h
theorem IV.noneF (h : IV gX0 gM0 W n N K F D U T Y P S p t c bs bw b gX gM) (hp : ¬ S.testBit p = true) : IV gX0 gM0 W n N K F D U T Y P S (p + 1) t (updN c p 8) bs bw b gX (st gM 20 p m1) := by
  obtain ⟨i1, i2, i3', i4, i5, i6, i7, i8, i9, i10, i11, i12, i13, i14⟩ := h
  refine ⟨i1, i2.tr (kmW (by omega)), by rw [st_ne (by omega)]; exact i3', fun a ha => by rw [st_ne (by omega)]; exact i4 a ha, i5, fun q hq => ?_, fun q hq h => ?_, i8, by rw [st_ne (by omega)]; exact i9, i10, by rw [st_ne (by omega)]; exact i11, i12, fun h q hq => by rw [st_ne (by omega)]; exact i13 h q hq, i14⟩
  · by_cases e : q = p
    · subst e
      rw [updN_eq, st_eq]
      exact ⟨(nm_no (by omega)).symm, fun _ => rfl⟩
    · rw [updN_ne e, st_at, if_neg (by omega)]
      exact i6 q (by omega)
  · by_cases e : q = p
    · subst e; exact absurd h hp
    · rw [updN_ne e]; exact i7 q (by omega) h
theorem IV.noneT (h : IV gX0 gM0 W n N K F D U T Y P S p t c bs bw b gX gM) (hp : S.testBit p = true) : IV gX0 gM0 W n N K F D U T Y P S (p + 1) t (updN c p 8) bs bw b (st gX 50 (rkk S p) m1) (st gM 20 p m1) := by
  obtain ⟨i1, i2, i3', i4, i5, i6, i7, ⟨i8, i8'⟩, i9, i10, i11, i12, i13, i14⟩ := h
  refine ⟨i1.tr (kxW (by omega)), i2.tr (kmW (by omega)), by rw [st_ne (by omega)]; exact i3', fun a ha => by rw [st_ne (by omega)]; exact i4 a ha, fun a ha h => by rw [st_ne (by omega)]; exact i5 a ha h, fun q hq => ?_, fun q hq h => ?_, ⟨by rw [st_ne (by omega)]; exact i8, fun q hq h => by rw [st_ne (by omega), st_ne (by omega)]; exact i8' q hq h⟩, by rw [st_ne (by omega)]; exact i9, by rw [st_ne (by omega)]; exact i10, by rw [st_ne (by omega)]; exact i11, by rw [st_ne (by omega)]; exact i12, fun h q hq => by rw [st_ne (by omega), st_ne (by omega)]; exact i13 h q hq, i14⟩
  · by_cases e : q = p
    · subst e
      rw [updN_eq, st_eq]
      exact ⟨(nm_no (by omega)).symm, fun _ => rfl⟩
    · rw [updN_ne e, st_at, if_neg (by omega)]
      exact i6 q (by omega)
  · by_cases e : q = p
    · subst e
      rw [updN_eq, st_eq]
      exact (nm_no (by omega)).symm
    · have e2 : rkk S q ≠ rkk S p := fun z => e (rkk_inj h hp z)
      rw [updN_ne e, st_at, if_neg (by omega)]
      exact i7 q (by omega) h
theorem IV.gift (h : IV gX0 gM0 W n N K F D U T Y P S p t c bs bw b gX gM) (hp : S.testBit p = true) {k : Nat} (hk : k < n) (h8 : n ≤ 8) (hr : t k + st8 U k < N) : IV gX0 gM0 W n N K F D U T Y P S (p + 1) (updN t k (t k + 1)) (updN c p k) bs bw b (st (st gX 49 k (i3 (N - st8 U k - t k - 1))) 50 (rkk S p) (i3 k)) (st (st gM 20 p (i3 k)) 22 k (i3 (t k + 1))) := by
  obtain ⟨i1, i2, i3', i4, i5, i6, i7, ⟨i8, i8'⟩, i9, i10, i11, i12, i13, i14⟩ := h
  refine ⟨(i1.tr (kxW (by omega))).tr (kxW (by omega)), (i2.tr (kmW (by omega))).tr (kmW (by omega)), by rw [st_ne (by omega), st_ne (by omega)]; exact i3', fun a ha => ?_, fun a ha h => ?_, fun q hq => ?_, fun q hq h => ?_, ⟨by rw [st_ne (by omega), st_ne (by omega)]; exact i8, fun q hq h => by rw [st_ne (by omega), st_ne (by omega), st_ne (by omega), st_ne (by omega)]; exact i8' q hq h⟩, by rw [st_ne (by omega), st_ne (by omega)]; exact i9, by rw [st_ne (by omega), st_ne (by omega)]; exact i10, by rw [st_ne (by omega), st_ne (by omega)]; exact i11, by rw [st_ne (by omega), st_ne (by omega)]; exact i12, fun h q hq => by rw [st_ne (by omega), st_ne (by omega), st_ne (by omega), st_ne (by omega)]; exact i13 h q hq, i14⟩
  · by_cases e : a = k
    · subst e; rw [updN_eq, st_eq]
    · rw [updN_ne e, st_at, if_neg (by omega), st_ne (by omega)]; exact i4 a ha
  · rw [st_ne (by omega)]
    by_cases e : a = k
    · subst e
      rw [updN_eq, st_eq, show N - st8 U a - (t a + 1) = N - st8 U a - t a - 1 by omega]
      exact ⟨rfl, by omega⟩
    · rw [updN_ne e, st_at, if_neg (by omega)]; exact i5 a ha h
  · rw [st_ne (by omega)]
    by_cases e : q = p
    · subst e
      rw [updN_eq, st_eq]
      exact ⟨(nm_lt (by omega)).symm, fun z => absurd hp z⟩
    · rw [updN_ne e, st_at, if_neg (by omega)]
      exact i6 q (by omega)
  · by_cases e : q = p
    · subst e
      rw [updN_eq, st_eq]
      exact (nm_lt (by omega)).symm
    · have e2 : rkk S q ≠ rkk S p := fun z => e (rkk_inj h hp z)
      rw [updN_ne e, st_at, if_neg (by omega), st_ne (by omega)]
      exact i7 q (by omega) h
theorem IV.back {c' : Nat → Nat} {k : Nat} (h : IV gX0 gM0 W n N K F D U T Y P S (p + 1) (updN t k (t k + 1)) c' bs bw b gX gM) (hc : ∀ q, q < p → c' q = c q) (hr : t k + st8 U k < N) : IV gX0 gM0 W n N K F D U T Y P S p t c bs bw b (st gX 49 k (i3 (N - st8 U k - t k))) (st gM 22 k (i3 (t k))) := by
  obtain ⟨i1, i2, i3', i4, i5, i6, i7, ⟨i8, i8'⟩, i9, i10, i11, i12, i13, i14⟩ := h
  refine ⟨i1.tr (kxW (by omega)), i2.tr (kmW (by omega)), by rw [st_ne (by omega)]; exact i3', fun a ha => ?_, fun a ha h => ?_, fun q hq => ?_, fun q hq h => ?_, ⟨by rw [st_ne (by omega)]; exact i8, fun q hq h => by rw [st_ne (by omega), st_ne (by omega)]; exact i8' q hq h⟩, by rw [st_ne (by omega)]; exact i9, by rw [st_ne (by omega)]; exact i10, by rw [st_ne (by omega)]; exact i11, by rw [st_ne (by omega)]; exact i12, fun h q hq => by rw [st_ne (by omega), st_ne (by omega)]; exact i13 h q hq, i14⟩
  · by_cases e : a = k
    · subst e; rw [st_eq]
    · have := i4 a ha
      rw [updN_ne e] at this
      rw [st_at, if_neg (by omega)]; exact this
  · by_cases e : a = k
    · subst e
      rw [st_eq]
      exact ⟨rfl, by omega⟩
    · have := i5 a ha h
      rw [updN_ne e] at this
      rw [st_at, if_neg (by omega)]; exact this
  · rw [← hc q hq, st_ne (by omega)]; exact i6 q (by omega)
  · rw [← hc q hq, st_ne (by omega)]; exact i7 q (by omega) h
end WZ
section WR
variable {gX0 gM0 : St} {W : (Nat → Nat) → Nat} {n N : Nat} {K F D U T : Nat → Nat} {Y P S : Nat}
theorem recW (hX : EC W n N K F D U T Y 10 gX0) (hM : EMd W n N K F D U T Y 16 gM0) (hS : ∀ q, S.testBit q = true ↔ (q < n ∧ P.testBit q = true ∧ T q = 0)) (hS8 : S < 256) : ∀ e p, p + e = n → ∀ dX dM, e < dX → e < dM → ∀ t c bs bw b gX gM s w, IV gX0 gM0 W n N K F D U T Y P S p t c bs bw b gX gM → s ≤ p → w ≤ 99 * p → ∃ gX' gM' bs' bw' b', fX_Ways_give dX (i3 (rkk S p)) (i3 s) (i3 w) gX = some gX' ∧ fM_serves dM (i3 S) (i3 p) (i3 s) (i3 w) gM = some gM' ∧ IV gX0 gM0 W n N K F D U T Y P S p t c bs' bw' b' gX' gM' ∧ bs' ≠ 0 := by
  have h8 := hX.2.2.1.1
  have hN4 := hX.2.2.2.1.2.2.2.1
  intro e
  induction e with
  | zero =>
    intro p hp dX dM hdX hdM t c bs bw b gX gM s w hI hs hw
    obtain ⟨dX, rfl⟩ : ∃ j, dX = j + 1 := ⟨dX - 1, by omega⟩
    obtain ⟨dM, rfl⟩ : ∃ j, dM = j + 1 := ⟨dM - 1, by omega⟩
    have hp : p = n := by omega
    subst hp
    exact leafW h8 (hM.frK hI.2.1).1.2.2.2.1.1 hI (by omega) (by omega) dX dM
  | succ e ih =>
    intro p hp dX dM hdX hdM t c bs bw b gX gM s w hI hs hw
    obtain ⟨dM, rfl⟩ : ∃ j, dM = j + 1 := ⟨dM - 1, by omega⟩
    have hn := (hM.frK hI.2.1).1.2.2.2.1.1
    have hhp := has_gen hS8 (show p < 8 by omega)
    by_cases q : S.testBit p = true
    · obtain ⟨dX, rfl⟩ : ∃ j, dX = j + 1 := ⟨dX - 1, by omega⟩
      rw [if_pos q] at hhp
      have hrk := rkk_lt q (show p < n by omega)
      have hrk2 := rkk_T q
      have hrp := rkk_le S p
      have hrn := rkk_le S n
      have i8 := hI.2.2.2.2.2.2.2.1.1
      -- the loop
      obtain ⟨⟨zX, gX1⟩, ⟨zM, gM1⟩, ⟨bs1, bw1, b1, e1, e2, h1⟩, hl⟩ := lp_two (f := fX_Ways_give_L24 (fX_grp_Ways_give dX) (i3 (rkk S p)) (i3 s) (i3 w)) (f' := fM_serves_L88 (fM_grp_serves dM) (i3 S) (i3 p) (i3 s) (i3 w)) (fun k sX sM => ∃ bs bw b, sX.1 = i3 k ∧ sM.1 = i3 k ∧ IV gX0 gM0 W n N K F D U T Y P S p t c bs bw b sX.2 sM.2) n (fun k sX sM hk hs9 => by
        obtain ⟨zX, gX2⟩ := sX
        obtain ⟨zM, gM2⟩ := sM
        obtain ⟨bs2, bw2, b2, ea, eb, h2⟩ := hs9
        dsimp only at ea eb h2
        subst ea eb
        have hM2 := hM.frK h2.2.1
        have hn2 := hM2.1.2.2.2.1.1
        have hN2 := hM2.1.2.2.2.1.2.1
        have hhk := has_gen hS8 (show k < 8 by omega)
        obtain ⟨gM3, e3, f3⟩ := hM2.1.isLent hk (show p < n by omega)
        have hM3 := hM2.fr f3
        have hst := hM3.1.stones (a := k) (by omega)
        have hN3 := hM3.1.2.2.2.1.2.1
        have hof := (h2.2.2.2.2.2.2.2.1.2 p (by omega) q).2 k (by omega)
        have i4 := h2.2.2.2.1 k hk
        have i5 := h2.2.2.2.2.1 k hk
        have i4' : gM3 22 k = i3 (t k) := by rw [f3 22 (by omega) (by omega)]; exact i4
        rw [Nat.mul_comm 8] at hof
        by_cases q2 : ¬ P.testBit k = true ∧ ldb W n N K F D U T Y k p
        · have qS : ¬ S.testBit k = true := fun z => q2.1 ((hS k).mp z).2.1
          rw [if_neg qS] at hhk
          rw [if_pos q2.2] at e3
          rw [if_pos ⟨hk, q2.1, q2.2⟩] at hof
          obtain ⟨j1, j2⟩ := i5 q2.2.2.2.1
          have hw9 : wl W n K F D U T Y k p ≤ 99 := hX.2.2.2.2.2 _
          by_cases q3 : t k + st8 U k < N
          · have hg := h2.fm f3 |>.gift q hk h8 q3
            have hMg := hM.frK hg.2.1
            obtain ⟨gM4, e4, f4⟩ := hMg.1.willOf hk (show p < n by omega)
            have hg4 := hg.fm f4
            obtain ⟨gX5, gM5, bs5, bw5, b5, eX5, eM5, h5, h5b⟩ := ih (p + 1) (by omega) dX dM (by omega) (by omega) _ _ _ _ _ _ _ (s + 1) (w + wl W n K F D U T Y k p) hg4 (by omega) (by omega)
            rw [hrk2] at eX5
            have eX6 : fX_grp_Ways_give dX (i3 (rkk S p + 1)) (i3 (s + 1)) (i3 (w + wl W n K F D U T Y k p)) (st (st gX2 49 k (i3 (N - st8 U k - t k - 1))) 50 (rkk S p) (i3 k)) = some gX5 := eX5
            have eM6 : fM_grp_serves dM (i3 S) (i3 (p + 1)) (i3 (s + 1)) (i3 (w + wl W n K F D U T Y k p)) gM4 = some gM5 := eM5
            have t5 : gM5 22 k = i3 (t k + 1) := by
              have := h5.2.2.2.1 k hk
              rw [updN_eq] at this
              exact this
            refine ⟨(i3 (k + 1), st gX5 49 k (i3 (N - st8 U k - t k))), (i3 (k + 1), st gM5 22 k (i3 (t k))), ?_, ?_, bs5, bw5, b5, rfl, rfl, h5.back (fun q hq => updN_ne (by omega)) q3⟩
            · simp (disch := (first | omega | assumption | trivial)) only [li_0, li_1, li_2, li_3, li_4, li_5, li_6, li_7, li_8, li_9, li_10, li_11, li_12, li_13, li_14, li_15, li_16, li_17, li_18, li_19, li_20, li_21, li_22, li_23, li_24, li_25, li_26, li_27, li_28, li_29, li_30, li_31, li_32, li_33, li_34, li_35, li_36, li_37, li_38, li_39, li_40, li_41, li_42, li_43, li_44, li_45, li_46, li_47, li_48, li_49, li_50, li_51, li_52, li_53, li_54, li_55, li_56, li_57, li_58, li_59, li_60, li_63, li_64, li_72, li_76, li_77, li_91, li_93, li_96, li_97, li_99, li_108, li_109, li_120, li_122, li_150, li_200, li_255, li_400, li_426, li_600, li_900, li_999, li_1000, li_1002, li_1003, li_2000, li_2042, li_2043, li_2045, li_10000, li_32767, li_100000, li_1000000, li_m1, li_m1b, ob_s, lt1_e, se_l, se_r, if_true, if_false, true_and, and_true, false_and, and_false, st_at, i3_add, i3_mul, i3_sub, i3_lt, i3_le, i3_eq, i3_nat, m1_eqi, i3_eqm, m1_lti, m1_lei, i3_ltm, i3_lem, i3_decm, i3_dec0, nm_eqm, yr_eqm, mxor0, Nat.zero_add, if_pos, if_neg, eq_self, ne_eq, not_true_eq_false, not_false_eq_true, fX_Ways_give_L24, fX_Ways_give_b117, at48, hof, at8, pu8, j1, eX6]
            · simp (disch := (first | omega | assumption | trivial)) only [li_0, li_1, li_2, li_3, li_4, li_5, li_6, li_7, li_8, li_9, li_10, li_11, li_12, li_13, li_14, li_15, li_16, li_17, li_18, li_19, li_20, li_21, li_22, li_23, li_24, li_25, li_26, li_27, li_28, li_29, li_30, li_31, li_32, li_33, li_34, li_35, li_36, li_37, li_38, li_39, li_40, li_41, li_42, li_43, li_44, li_45, li_46, li_47, li_48, li_49, li_50, li_51, li_52, li_53, li_54, li_55, li_56, li_57, li_58, li_59, li_60, li_63, li_64, li_72, li_76, li_77, li_91, li_93, li_96, li_97, li_99, li_108, li_109, li_120, li_122, li_150, li_200, li_255, li_400, li_426, li_600, li_900, li_999, li_1000, li_1002, li_1003, li_2000, li_2042, li_2043, li_2045, li_10000, li_32767, li_100000, li_1000000, li_m1, li_m1b, ob_s, lt1_e, se_l, se_r, if_true, if_false, true_and, and_true, false_and, and_false, st_at, i3_add, i3_mul, i3_sub, i3_lt, i3_le, i3_eq, i3_nat, m1_eqi, i3_eqm, m1_lti, m1_lei, i3_ltm, i3_lem, i3_decm, i3_dec0, nm_eqm, yr_eqm, mxor0, Nat.zero_add, if_pos, if_neg, eq_self, ne_eq, not_true_eq_false, not_false_eq_true, fM_serves_L88, fM_serves_b215, hn2, hhp, hhk, e3, hst, i4', hN3, e4, eM6, t5, Nat.add_sub_cancel]
          · have q4 : N - st8 U k - t k = 0 := by omega
            rw [q4] at j1
            refine ⟨(i3 (k + 1), gX2), (i3 (k + 1), gM3), ?_, ?_, bs2, bw2, b2, rfl, rfl, h2.fm f3⟩
            · simp (disch := (first | omega | assumption | trivial)) only [li_0, li_1, li_2, li_3, li_4, li_5, li_6, li_7, li_8, li_9, li_10, li_11, li_12, li_13, li_14, li_15, li_16, li_17, li_18, li_19, li_20, li_21, li_22, li_23, li_24, li_25, li_26, li_27, li_28, li_29, li_30, li_31, li_32, li_33, li_34, li_35, li_36, li_37, li_38, li_39, li_40, li_41, li_42, li_43, li_44, li_45, li_46, li_47, li_48, li_49, li_50, li_51, li_52, li_53, li_54, li_55, li_56, li_57, li_58, li_59, li_60, li_63, li_64, li_72, li_76, li_77, li_91, li_93, li_96, li_97, li_99, li_108, li_109, li_120, li_122, li_150, li_200, li_255, li_400, li_426, li_600, li_900, li_999, li_1000, li_1002, li_1003, li_2000, li_2042, li_2043, li_2045, li_10000, li_32767, li_100000, li_1000000, li_m1, li_m1b, ob_s, lt1_e, se_l, se_r, if_true, if_false, true_and, and_true, false_and, and_false, st_at, i3_add, i3_mul, i3_sub, i3_lt, i3_le, i3_eq, i3_nat, m1_eqi, i3_eqm, m1_lti, m1_lei, i3_ltm, i3_lem, i3_decm, i3_dec0, nm_eqm, yr_eqm, mxor0, Nat.zero_add, if_pos, if_neg, eq_self, ne_eq, not_true_eq_false, not_false_eq_true, fX_Ways_give_L24, fX_Ways_give_b117, at48, hof, at8, j1]
            · have j3 : t k ≤ 8 := by omega
              simp (disch := (first | omega | assumption | trivial)) only [li_0, li_1, li_2, li_3, li_4, li_5, li_6, li_7, li_8, li_9, li_10, li_11, li_12, li_13, li_14, li_15, li_16, li_17, li_18, li_19, li_20, li_21, li_22, li_23, li_24, li_25, li_26, li_27, li_28, li_29, li_30, li_31, li_32, li_33, li_34, li_35, li_36, li_37, li_38, li_39, li_40, li_41, li_42, li_43, li_44, li_45, li_46, li_47, li_48, li_49, li_50, li_51, li_52, li_53, li_54, li_55, li_56, li_57, li_58, li_59, li_60, li_63, li_64, li_72, li_76, li_77, li_91, li_93, li_96, li_97, li_99, li_108, li_109, li_120, li_122, li_150, li_200, li_255, li_400, li_426, li_600, li_900, li_999, li_1000, li_1002, li_1003, li_2000, li_2042, li_2043, li_2045, li_10000, li_32767, li_100000, li_1000000, li_m1, li_m1b, ob_s, lt1_e, se_l, se_r, if_true, if_false, true_and, and_true, false_and, and_false, st_at, i3_add, i3_mul, i3_sub, i3_lt, i3_le, i3_eq, i3_nat, m1_eqi, i3_eqm, m1_lti, m1_lei, i3_ltm, i3_lem, i3_decm, i3_dec0, nm_eqm, yr_eqm, mxor0, Nat.zero_add, if_pos, if_neg, eq_self, ne_eq, not_true_eq_false, not_false_eq_true, fM_serves_L88, fM_serves_b215, hn2, hhp, hhk, e3, hst, i4', hN3]
        · rw [if_neg (fun z => q2 z.2)] at hof
          have eX : fX_Ways_give_L24 (fX_grp_Ways_give dX) (i3 (rkk S p)) (i3 s) (i3 w) (i3 k, gX2) = some (.inl (i3 (k + 1), gX2)) := by
            simp (disch := (first | omega | assumption | trivial)) only [li_0, li_1, li_2, li_3, li_4, li_5, li_6, li_7, li_8, li_9, li_10, li_11, li_12, li_13, li_14, li_15, li_16, li_17, li_18, li_19, li_20, li_21, li_22, li_23, li_24, li_25, li_26, li_27, li_28, li_29, li_30, li_31, li_32, li_33, li_34, li_35, li_36, li_37, li_38, li_39, li_40, li_41, li_42, li_43, li_44, li_45, li_46, li_47, li_48, li_49, li_50, li_51, li_52, li_53, li_54, li_55, li_56, li_57, li_58, li_59, li_60, li_63, li_64, li_72, li_76, li_77, li_91, li_93, li_96, li_97, li_99, li_108, li_109, li_120, li_122, li_150, li_200, li_255, li_400, li_426, li_600, li_900, li_999, li_1000, li_1002, li_1003, li_2000, li_2042, li_2043, li_2045, li_10000, li_32767, li_100000, li_1000000, li_m1, li_m1b, ob_s, lt1_e, se_l, se_r, if_true, if_false, true_and, and_true, false_and, and_false, st_at, i3_add, i3_mul, i3_sub, i3_lt, i3_le, i3_eq, i3_nat, m1_eqi, i3_eqm, m1_lti, m1_lei, i3_ltm, i3_lem, i3_decm, i3_dec0, nm_eqm, yr_eqm, mxor0, Nat.zero_add, if_pos, if_neg, eq_self, ne_eq, not_true_eq_false, not_false_eq_true, fX_Ways_give_L24, fX_Ways_give_b117, at48, hof, at8]
          by_cases qS : S.testBit k = true
          · rw [if_pos qS] at hhk
            refine ⟨(i3 (k + 1), gX2), (i3 (k + 1), gM2), eX, ?_, bs2, bw2, b2, rfl, rfl, h2⟩
            simp (disch := (first | omega | assumption | trivial)) only [li_0, li_1, li_2, li_3, li_4, li_5, li_6, li_7, li_8, li_9, li_10, li_11, li_12, li_13, li_14, li_15, li_16, li_17, li_18, li_19, li_20, li_21, li_22, li_23, li_24, li_25, li_26, li_27, li_28, li_29, li_30, li_31, li_32, li_33, li_34, li_35, li_36, li_37, li_38, li_39, li_40, li_41, li_42, li_43, li_44, li_45, li_46, li_47, li_48, li_49, li_50, li_51, li_52, li_53, li_54, li_55, li_56, li_57, li_58, li_59, li_60, li_63, li_64, li_72, li_76, li_77, li_91, li_93, li_96, li_97, li_99, li_108, li_109, li_120, li_122, li_150, li_200, li_255, li_400, li_426, li_600, li_900, li_999, li_1000, li_1002, li_1003, li_2000, li_2042, li_2043, li_2045, li_10000, li_32767, li_100000, li_1000000, li_m1, li_m1b, ob_s, lt1_e, se_l, se_r, if_true, if_false, true_and, and_true, false_and, and_false, st_at, i3_add, i3_mul, i3_sub, i3_lt, i3_le, i3_eq, i3_nat, m1_eqi, i3_eqm, m1_lti, m1_lei, i3_ltm, i3_lem, i3_decm, i3_dec0, nm_eqm, yr_eqm, mxor0, Nat.zero_add, if_pos, if_neg, eq_self, ne_eq, not_true_eq_false, not_false_eq_true, fM_serves_L88, fM_serves_b215, hn2, hhp, hhk]
          · rw [if_neg qS] at hhk
            have q5 : ¬ ldb W n N K F D U T Y k p := fun z => q2 ⟨fun y => qS ((hS k).mpr ⟨hk, y, z.1⟩), z⟩
            rw [if_neg q5] at e3
            refine ⟨(i3 (k + 1), gX2), (i3 (k + 1), gM3), eX, ?_, bs2, bw2, b2, rfl, rfl, h2.fm f3⟩
            simp (disch := (first | omega | assumption | trivial)) only [li_0, li_1, li_2, li_3, li_4, li_5, li_6, li_7, li_8, li_9, li_10, li_11, li_12, li_13, li_14, li_15, li_16, li_17, li_18, li_19, li_20, li_21, li_22, li_23, li_24, li_25, li_26, li_27, li_28, li_29, li_30, li_31, li_32, li_33, li_34, li_35, li_36, li_37, li_38, li_39, li_40, li_41, li_42, li_43, li_44, li_45, li_46, li_47, li_48, li_49, li_50, li_51, li_52, li_53, li_54, li_55, li_56, li_57, li_58, li_59, li_60, li_63, li_64, li_72, li_76, li_77, li_91, li_93, li_96, li_97, li_99, li_108, li_109, li_120, li_122, li_150, li_200, li_255, li_400, li_426, li_600, li_900, li_999, li_1000, li_1002, li_1003, li_2000, li_2042, li_2043, li_2045, li_10000, li_32767, li_100000, li_1000000, li_m1, li_m1b, ob_s, lt1_e, se_l, se_r, if_true, if_false, true_and, and_true, false_and, and_false, st_at, i3_add, i3_mul, i3_sub, i3_lt, i3_le, i3_eq, i3_nat, m1_eqi, i3_eqm, m1_lti, m1_lei, i3_ltm, i3_lem, i3_decm, i3_dec0, nm_eqm, yr_eqm, mxor0, Nat.zero_add, if_pos, if_neg, eq_self, ne_eq, not_true_eq_false, not_false_eq_true, fM_serves_L88, fM_serves_b215, hn2, hhp, hhk, e3]) n 0 (i3 0, gX) (i3 0, st gM 20 p m1) (by omega) ⟨bs, bw, b, rfl, rfl, hI.pre⟩
      dsimp only at e1 e2 h1
      subst e1 e2
      have hn1 := (hM.frK h1.2.1).1.2.2.2.1.1
      -- behind the loop
      have lX : lp (fX_Ways_give_L24 (fX_grp_Ways_give dX) (i3 (rkk S p)) (i3 s) (i3 w)) fuel (i3 0, gX) = some gX1 := by
        have h9 := (hl (1000000 - n)).1
        rw [show 1000000 - n + n = fuel by rw [fuel_eq]; omega] at h9
        rw [h9]
        have h10 := lp_at (f := fX_Ways_give_L24 (fX_grp_Ways_give dX) (i3 (rkk S p)) (i3 s) (i3 w)) (fun k => (i3 (n + k), gX1)) (r := gX1) (8 - n) (fun k hk => by
          have hof := (h1.2.2.2.2.2.2.2.1.2 p (by omega) q).2 (n + k) (by omega)
          rw [if_neg (fun z => by omega), Nat.mul_comm 8] at hof
          try dsimp only
          simp (disch := (first | omega | assumption | trivial)) only [li_0, li_1, li_2, li_3, li_4, li_5, li_6, li_7, li_8, li_9, li_10, li_11, li_12, li_13, li_14, li_15, li_16, li_17, li_18, li_19, li_20, li_21, li_22, li_23, li_24, li_25, li_26, li_27, li_28, li_29, li_30, li_31, li_32, li_33, li_34, li_35, li_36, li_37, li_38, li_39, li_40, li_41, li_42, li_43, li_44, li_45, li_46, li_47, li_48, li_49, li_50, li_51, li_52, li_53, li_54, li_55, li_56, li_57, li_58, li_59, li_60, li_63, li_64, li_72, li_76, li_77, li_91, li_93, li_96, li_97, li_99, li_108, li_109, li_120, li_122, li_150, li_200, li_255, li_400, li_426, li_600, li_900, li_999, li_1000, li_1002, li_1003, li_2000, li_2042, li_2043, li_2045, li_10000, li_32767, li_100000, li_1000000, li_m1, li_m1b, ob_s, lt1_e, se_l, se_r, if_true, if_false, true_and, and_true, false_and, and_false, st_at, i3_add, i3_mul, i3_sub, i3_lt, i3_le, i3_eq, i3_nat, m1_eqi, i3_eqm, m1_lti, m1_lei, i3_ltm, i3_lem, i3_decm, i3_dec0, nm_eqm, yr_eqm, mxor0, Nat.zero_add, if_pos, if_neg, eq_self, ne_eq, not_true_eq_false, not_false_eq_true, fX_Ways_give_L24, fX_Ways_give_b117, at48, hof, at8]
          rfl) (by
          try dsimp only
          rw [show n + (8 - n) = 8 by omega]
          simp (disch := (first | omega | assumption | trivial)) only [li_0, li_1, li_2, li_3, li_4, li_5, li_6, li_7, li_8, li_9, li_10, li_11, li_12, li_13, li_14, li_15, li_16, li_17, li_18, li_19, li_20, li_21, li_22, li_23, li_24, li_25, li_26, li_27, li_28, li_29, li_30, li_31, li_32, li_33, li_34, li_35, li_36, li_37, li_38, li_39, li_40, li_41, li_42, li_43, li_44, li_45, li_46, li_47, li_48, li_49, li_50, li_51, li_52, li_53, li_54, li_55, li_56, li_57, li_58, li_59, li_60, li_63, li_64, li_72, li_76, li_77, li_91, li_93, li_96, li_97, li_99, li_108, li_109, li_120, li_122, li_150, li_200, li_255, li_400, li_426, li_600, li_900, li_999, li_1000, li_1002, li_1003, li_2000, li_2042, li_2043, li_2045, li_10000, li_32767, li_100000, li_1000000, li_m1, li_m1b, ob_s, lt1_e, se_l, se_r, if_true, if_false, true_and, and_true, false_and, and_false, st_at, i3_add, i3_mul, i3_sub, i3_lt, i3_le, i3_eq, i3_nat, m1_eqi, i3_eqm, m1_lti, m1_lei, i3_ltm, i3_lem, i3_decm, i3_dec0, nm_eqm, yr_eqm, mxor0, Nat.zero_add, if_pos, if_neg, eq_self, ne_eq, not_true_eq_false, not_false_eq_true, fX_Ways_give_L24]) (8 - n) 0 (1000000 - n) (by omega) (by omega)
        exact h10
      have lM : lp (fM_serves_L88 (fM_grp_serves dM) (i3 S) (i3 p) (i3 s) (i3 w)) fuel (i3 0, st gM 20 p m1) = some gM1 := by
        have h9 := (hl (1000000 - n)).2
        rw [show 1000000 - n + n = fuel by rw [fuel_eq]; omega] at h9
        rw [h9, show 1000000 - n = (999999 - n) + 1 by omega]
        refine lp_inr ?_
        simp (disch := (first | omega | assumption | trivial)) only [li_0, li_1, li_2, li_3, li_4, li_5, li_6, li_7, li_8, li_9, li_10, li_11, li_12, li_13, li_14, li_15, li_16, li_17, li_18, li_19, li_20, li_21, li_22, li_23, li_24, li_25, li_26, li_27, li_28, li_29, li_30, li_31, li_32, li_33, li_34, li_35, li_36, li_37, li_38, li_39, li_40, li_41, li_42, li_43, li_44, li_45, li_46, li_47, li_48, li_49, li_50, li_51, li_52, li_53, li_54, li_55, li_56, li_57, li_58, li_59, li_60, li_63, li_64, li_72, li_76, li_77, li_91, li_93, li_96, li_97, li_99, li_108, li_109, li_120, li_122, li_150, li_200, li_255, li_400, li_426, li_600, li_900, li_999, li_1000, li_1002, li_1003, li_2000, li_2042, li_2043, li_2045, li_10000, li_32767, li_100000, li_1000000, li_m1, li_m1b, ob_s, lt1_e, se_l, se_r, if_true, if_false, true_and, and_true, false_and, and_false, st_at, i3_add, i3_mul, i3_sub, i3_lt, i3_le, i3_eq, i3_nat, m1_eqi, i3_eqm, m1_lti, m1_lei, i3_ltm, i3_lem, i3_decm, i3_dec0, nm_eqm, yr_eqm, mxor0, Nat.zero_add, if_pos, if_neg, eq_self, ne_eq, not_true_eq_false, not_false_eq_true, fM_serves_L88, hn1]
      obtain ⟨gX5, gM5, bs5, bw5, b5, eX5, eM5, h5, h5b⟩ := ih (p + 1) (by omega) dX dM (by omega) (by omega) _ _ _ _ _ _ _ s w (h1.noneT q) (by omega) (by omega)
      rw [hrk2] at eX5
      have eX6 : fX_grp_Ways_give dX (i3 (rkk S p + 1)) (i3 s) (i3 w) (st gX1 50 (rkk S p) m1) = some gX5 := eX5
      have eM6 : fM_grp_serves dM (i3 S) (i3 (p + 1)) (i3 s) (i3 w) (st gM1 20 p m1) = some gM5 := eM5
      refine ⟨gX5, gM5, bs5, bw5, b5, ?_, ?_, h5.down (fun q hq => updN_ne (by omega)), h5b⟩
      · show fX_Ways_give_o (fX_grp_Ways_give dX) _ _ _ _ = _
        simp (disch := (first | omega | assumption | trivial)) only [li_0, li_1, li_2, li_3, li_4, li_5, li_6, li_7, li_8, li_9, li_10, li_11, li_12, li_13, li_14, li_15, li_16, li_17, li_18, li_19, li_20, li_21, li_22, li_23, li_24, li_25, li_26, li_27, li_28, li_29, li_30, li_31, li_32, li_33, li_34, li_35, li_36, li_37, li_38, li_39, li_40, li_41, li_42, li_43, li_44, li_45, li_46, li_47, li_48, li_49, li_50, li_51, li_52, li_53, li_54, li_55, li_56, li_57, li_58, li_59, li_60, li_63, li_64, li_72, li_76, li_77, li_91, li_93, li_96, li_97, li_99, li_108, li_109, li_120, li_122, li_150, li_200, li_255, li_400, li_426, li_600, li_900, li_999, li_1000, li_1002, li_1003, li_2000, li_2042, li_2043, li_2045, li_10000, li_32767, li_100000, li_1000000, li_m1, li_m1b, ob_s, lt1_e, se_l, se_r, if_true, if_false, true_and, and_true, false_and, and_false, st_at, i3_add, i3_mul, i3_sub, i3_lt, i3_le, i3_eq, i3_nat, m1_eqi, i3_eqm, m1_lti, m1_lei, i3_ltm, i3_lem, i3_decm, i3_dec0, nm_eqm, yr_eqm, mxor0, Nat.zero_add, if_pos, if_neg, eq_self, ne_eq, not_true_eq_false, not_false_eq_true, fX_Ways_give_o, fX_Ways_give_b24, i8, lX, pu8, eX6]
      · show fM_serves_o (fM_grp_serves dM) _ _ _ _ _ = _
        simp (disch := (first | omega | assumption | trivial)) only [li_0, li_1, li_2, li_3, li_4, li_5, li_6, li_7, li_8, li_9, li_10, li_11, li_12, li_13, li_14, li_15, li_16, li_17, li_18, li_19, li_20, li_21, li_22, li_23, li_24, li_25, li_26, li_27, li_28, li_29, li_30, li_31, li_32, li_33, li_34, li_35, li_36, li_37, li_38, li_39, li_40, li_41, li_42, li_43, li_44, li_45, li_46, li_47, li_48, li_49, li_50, li_51, li_52, li_53, li_54, li_55, li_56, li_57, li_58, li_59, li_60, li_63, li_64, li_72, li_76, li_77, li_91, li_93, li_96, li_97, li_99, li_108, li_109, li_120, li_122, li_150, li_200, li_255, li_400, li_426, li_600, li_900, li_999, li_1000, li_1002, li_1003, li_2000, li_2042, li_2043, li_2045, li_10000, li_32767, li_100000, li_1000000, li_m1, li_m1b, ob_s, lt1_e, se_l, se_r, if_true, if_false, true_and, and_true, false_and, and_false, st_at, i3_add, i3_mul, i3_sub, i3_lt, i3_le, i3_eq, i3_nat, m1_eqi, i3_eqm, m1_lti, m1_lei, i3_ltm, i3_lem, i3_decm, i3_dec0, nm_eqm, yr_eqm, mxor0, Nat.zero_add, if_pos, if_neg, eq_self, ne_eq, not_true_eq_false, not_false_eq_true, fM_serves_o, fM_serves_b88, hn, lM, eM6]
    · rw [if_neg q] at hhp
      obtain ⟨gX5, gM5, bs5, bw5, b5, eX5, eM5, h5, h5b⟩ := ih (p + 1) (by omega) dX dM (by omega) (by omega) _ _ _ _ _ _ _ s w (hI.noneF q) (by omega) (by omega)
      rw [rkk_F q] at eX5
      refine ⟨gX5, gM5, bs5, bw5, b5, eX5, ?_, h5.down (fun q hq => updN_ne (by omega)), h5b⟩
      have eM6 : fM_grp_serves dM (i3 S) (i3 (p + 1)) (i3 s) (i3 w) (st gM 20 p m1) = some gM5 := eM5
      have hn1 : st gM 20 p m1 4 0 = i3 n := by rw [st_ne (by omega)]; exact hn
      have lM : lp (fM_serves_L88 (fM_grp_serves dM) (i3 S) (i3 p) (i3 s) (i3 w)) fuel (i3 0, st gM 20 p m1) = some (st gM 20 p m1) := by
        refine lp_inrF ?_
        simp (disch := (first | omega | assumption | trivial)) only [li_0, li_1, li_2, li_3, li_4, li_5, li_6, li_7, li_8, li_9, li_10, li_11, li_12, li_13, li_14, li_15, li_16, li_17, li_18, li_19, li_20, li_21, li_22, li_23, li_24, li_25, li_26, li_27, li_28, li_29, li_30, li_31, li_32, li_33, li_34, li_35, li_36, li_37, li_38, li_39, li_40, li_41, li_42, li_43, li_44, li_45, li_46, li_47, li_48, li_49, li_50, li_51, li_52, li_53, li_54, li_55, li_56, li_57, li_58, li_59, li_60, li_63, li_64, li_72, li_76, li_77, li_91, li_93, li_96, li_97, li_99, li_108, li_109, li_120, li_122, li_150, li_200, li_255, li_400, li_426, li_600, li_900, li_999, li_1000, li_1002, li_1003, li_2000, li_2042, li_2043, li_2045, li_10000, li_32767, li_100000, li_1000000, li_m1, li_m1b, ob_s, lt1_e, se_l, se_r, if_true, if_false, true_and, and_true, false_and, and_false, st_at, i3_add, i3_mul, i3_sub, i3_lt, i3_le, i3_eq, i3_nat, m1_eqi, i3_eqm, m1_lti, m1_lei, i3_ltm, i3_lem, i3_decm, i3_dec0, nm_eqm, yr_eqm, mxor0, Nat.zero_add, if_pos, if_neg, eq_self, ne_eq, not_true_eq_false, not_false_eq_true, fM_serves_L88, hn, hhp]
      have e9 := st_st gM 20 p m1 m1
      show fM_serves_o (fM_grp_serves dM) _ _ _ _ _ = _
      simp (disch := (first | omega | assumption | trivial)) only [li_0, li_1, li_2, li_3, li_4, li_5, li_6, li_7, li_8, li_9, li_10, li_11, li_12, li_13, li_14, li_15, li_16, li_17, li_18, li_19, li_20, li_21, li_22, li_23, li_24, li_25, li_26, li_27, li_28, li_29, li_30, li_31, li_32, li_33, li_34, li_35, li_36, li_37, li_38, li_39, li_40, li_41, li_42, li_43, li_44, li_45, li_46, li_47, li_48, li_49, li_50, li_51, li_52, li_53, li_54, li_55, li_56, li_57, li_58, li_59, li_60, li_63, li_64, li_72, li_76, li_77, li_91, li_93, li_96, li_97, li_99, li_108, li_109, li_120, li_122, li_150, li_200, li_255, li_400, li_426, li_600, li_900, li_999, li_1000, li_1002, li_1003, li_2000, li_2042, li_2043, li_2045, li_10000, li_32767, li_100000, li_1000000, li_m1, li_m1b, ob_s, lt1_e, se_l, se_r, if_true, if_false, true_and, and_true, false_and, and_false, st_at, i3_add, i3_mul, i3_sub, i3_lt, i3_le, i3_eq, i3_nat, m1_eqi, i3_eqm, m1_lti, m1_lei, i3_ltm, i3_lem, i3_decm, i3_dec0, nm_eqm, yr_eqm, mxor0, Nat.zero_add, if_pos, if_neg, eq_self, ne_eq, not_true_eq_false, not_false_eq_true, fM_serves_o, fM_serves_b88, hn, lM, e9, eM6]
end WR
