/-! PURE: years ahead, deaths asked, centuries -/
theorem st8_take {U : Nat → Nat} {a b : Nat} (ha : a < 8) (hb : b < 8) (ub : U b = 8) : st8 (updN U b a) a = st8 U a + 1 := by
  have key : ∀ k, k ≤ 8 → cntB (fun p => decide (updN U b a p = a)) k = cntB (fun p => decide (U p = a)) k + if b < k then 1 else 0 := by
    intro k
    induction k with
    | zero => intro _; rfl
    | succ k ih =>
      intro hk
      have h := ih (by omega)
      by_cases q : k = b
      · subst q
        rw [cnt_T (by simp [updN]), cnt_F (by simp [ub]; omega), h, if_neg (by omega), if_pos (by omega)]
      · by_cases q2 : U k = a
        · rw [cnt_T (by simp [updN, q, q2]), cnt_T (by simp [q2]), h]
          by_cases q3 : b < k
          · rw [if_pos q3, if_pos (by omega)]; try omega
          · rw [if_neg q3, if_neg (by omega)]; try omega
        · rw [cnt_F (by simp [updN, q, q2]), cnt_F (by simp [q2]), h]
          by_cases q3 : b < k
          · rw [if_pos q3, if_pos (by omega)]; try omega
          · rw [if_neg q3, if_neg (by omega)]; try omega
  have e := key 8 (Nat.le_refl 8)
  rw [if_pos hb] at e
  exact e
abbrev ECs (W : (Nat → Nat) → Nat) (n N : Nat) (K F : Nat → Nat) (s : AS) (th : Nat) (g : St) : Prop := EC W n N K F s.1 s.2.1 s.2.2.1 s.2.2.2 th g
abbrev EMs (W : (Nat → Nat) → Nat) (n N : Nat) (K F : Nat → Nat) (s : AS) (r : Nat) (g : St) : Prop := EMd W n N K F s.1 s.2.1 s.2.2.1 s.2.2.2 r g
theorem dieS_Y {W : (Nat → Nat) → Nat} {n N : Nat} {K F : Nat → Nat} {s : AS} {b : Nat} : (dieS W n N K F s b).2.2.2 = s.2.2.2 := by
  unfold dieS
  by_cases q : s.2.2.1 b = 0
  · rw [if_pos q]
    by_cases q2 : lnd W n N K F s.1 s.2.1 (updN s.2.2.1 b (s.2.2.2 + 1)) s.2.2.2 b = 8
    · rw [if_pos q2]
    · rw [if_neg q2]
  · rw [if_neg q]
theorem lateS_Y {W : (Nat → Nat) → Nat} {n N : Nat} {K F : Nat → Nat} {s : AS} {a b : Nat} : (lateS W n N K F s a b).2.2.2 = s.2.2.2 := by
  unfold lateS
  by_cases q : lateP W n N K F s a b
  · rw [if_pos q]
  · rw [if_neg q]
/-- a year of a century: the state, the seed -/
def cenL (S : Int32 → Int32) (V : Int32 → Nat) (W : (Nat → Nat) → Nat) (n N : Nat) (K F : Nat → Nat) (s : AS) (x : Int32) : AS × Int32 := (yearS n (lateS W n N K F s (V (S x) % n) (V (S (S x)) % n)), S (S x))
def cen1 (S : Int32 → Int32) (V : Int32 → Nat) (W : (Nat → Nat) → Nat) (n N : Nat) (K F : Nat → Nat) (q : Nat) (z : AS × Int32) : AS × Int32 :=
  if n = 0 then (yearS n z.1, z.2)
  else if V (S z.2) % 16 < q then cenL S V W n N K F (dieS W n N K F z.1 (V (S (S z.2)) % n)) (S (S z.2))
  else cenL S V W n N K F z.1 (S z.2)
def cen (S : Int32 → Int32) (V : Int32 → Nat) (W : (Nat → Nat) → Nat) (n N : Nat) (K F : Nat → Nat) (q : Nat) (z : AS × Int32) : Nat → AS × Int32
  | 0 => z
  | k + 1 => cen1 S V W n N K F q (cen S V W n N K F q z k)
theorem cen1_Y {S : Int32 → Int32} {V : Int32 → Nat} {W : (Nat → Nat) → Nat} {n N : Nat} {K F : Nat → Nat} {q : Nat} {z : AS × Int32} : (cen1 S V W n N K F q z).1.2.2.2 = z.1.2.2.2 + 1 := by
  unfold cen1
  by_cases q1 : n = 0
  · rw [if_pos q1]; rfl
  · rw [if_neg q1]
    by_cases q2 : V (S z.2) % 16 < q
    · rw [if_pos q2]
      show (lateS W n N K F _ _ _).2.2.2 + 1 = _
      rw [lateS_Y, dieS_Y]
    · rw [if_neg q2]
      show (lateS W n N K F _ _ _).2.2.2 + 1 = _
      rw [lateS_Y]
theorem cen_Y {S : Int32 → Int32} {V : Int32 → Nat} {W : (Nat → Nat) → Nat} {n N : Nat} {K F : Nat → Nat} {q : Nat} {z : AS × Int32} : ∀ k, (cen S V W n N K F q z k).1.2.2.2 = z.1.2.2.2 + k
  | 0 => rfl
  | k + 1 => by
    show (cen1 S V W n N K F q (cen S V W n N K F q z k)).1.2.2.2 = _
    rw [cen1_Y, cen_Y k]
    omega
def HSX (S : Int32 → Int32) (V : Int32 → Nat) : Prop := ∀ (g : St) (n : Nat), 0 < n → n < 1000 → fX_drawn (i3 n) g = some (i3 (V (S (g 0 15)) % n), st g 0 15 (S (g 0 15)))
def HSM (S : Int32 → Int32) (V : Int32 → Nat) : Prop := ∀ (g : St) (n : Nat), 0 < n → n < 1000 → fM_draw (i3 n) g = some (i3 (V (S (g 0 47)) % n), st g 0 47 (S (g 0 47)))
section CE
variable {S : Int32 → Int32} {V : Int32 → Nat} {W : (Nat → Nat) → Nat} {n N : Nat} {K F : Nat → Nat} {g : St}
theorem ECs.draw {s : AS} (h : ECs W n N K F s 11 g) {i : Nat} {v : Int32} : ECs W n N K F s 11 (st g 0 i v) := EC.frP h (fun p hp => st_ne (by omega))
theorem EMs.draw {s : AS} (h : EMs W n N K F s 17 g) {i : Nat} {v : Int32} (hi : i ≠ 17) : EMs W n N K F s 17 (st g 0 i v) := EMd.frP h (fun p hp => st_ne (by omega)) (by rw [st_at, if_neg (by omega)])
theorem ECs.cenX (hS : HSX S V) {s : AS} (h : ECs W n N K F s 11 g) (hn : 0 < n) (hY : s.2.2.2 < 1900) (x2 x3 x4 : Int32) : ∃ g', fX_passCentury_b66 x2 x3 x4 g = some (.inl (x4 + i3 1, g')) ∧ ECs W n N K F (cenL S V W n N K F s (g 0 15)).1 11 g' ∧ g' 0 15 = (cenL S V W n N K F s (g 0 15)).2 ∧ KX g g' := by
  have h8 := h.2.2.1.1
  have n1 := h.2.2.2.1.1
  have d1 := hS (g) n hn (by omega)
  have h1 := ECs.draw h (i := 15) (v := S (g 0 15))
  have n2 := h1.2.2.2.1.1
  have d2 := hS (st g 0 15 (S (g 0 15))) n hn (by omega)
  rw [st_eq, st_st] at d2
  have h2 := ECs.draw h (i := 15) (v := S (S (g 0 15)))
  obtain ⟨g3, e3, h3, f3⟩ := EC.late h2 (a := V (S (g 0 15)) % n) (b := V (S (S (g 0 15))) % n) (Nat.mod_lt _ hn) (Nat.mod_lt _ hn)
  have hy : (lateS W n N K F s (V (S (g 0 15)) % n) (V (S (S (g 0 15))) % n)).2.2.2 < 1900 := by rw [lateS_Y]; exact hY
  obtain ⟨g4, e4, h4, f4⟩ := EC.passYear (Y := (lateS W n N K F s (V (S (g 0 15)) % n) (V (S (S (g 0 15))) % n)).2.2.2) h3 hy
  refine ⟨g4, ?_, h4, ?_, ?_⟩
  · simp (disch := (first | omega | assumption | trivial)) only [li_0, li_1, li_2, li_3, li_4, li_5, li_6, li_7, li_8, li_9, li_10, li_11, li_12, li_13, li_14, li_15, li_16, li_17, li_18, li_19, li_20, li_21, li_22, li_23, li_24, li_25, li_26, li_27, li_28, li_29, li_30, li_31, li_32, li_33, li_34, li_35, li_36, li_37, li_38, li_39, li_40, li_41, li_42, li_43, li_44, li_45, li_46, li_47, li_48, li_49, li_50, li_51, li_52, li_53, li_54, li_55, li_56, li_57, li_58, li_59, li_60, li_63, li_64, li_72, li_76, li_77, li_91, li_93, li_96, li_97, li_99, li_108, li_109, li_120, li_122, li_150, li_200, li_255, li_400, li_426, li_600, li_900, li_999, li_1000, li_1002, li_1003, li_2000, li_2042, li_2043, li_2045, li_10000, li_32767, li_100000, li_1000000, li_m1, li_m1b, ob_s, lt1_e, se_l, se_r, if_true, if_false, true_and, and_true, false_and, and_false, st_at, i3_add, i3_mul, i3_sub, i3_lt, i3_le, i3_eq, i3_nat, m1_eqi, i3_eqm, m1_lti, m1_lei, i3_ltm, i3_lem, i3_decm, i3_dec0, nm_eqm, yr_eqm, mxor0, Nat.zero_add, if_pos, if_neg, eq_self, ne_eq, not_true_eq_false, not_false_eq_true, fX_passCentury_b66, fX_passCentury_b105, n1, d1, n2, d2, e3, e4]
  · have e5 : g4 0 15 = S (S (g 0 15)) := by
      rw [f4 0 (by omega) (by omega) (by omega) (by omega) (by omega) (by omega), f3 0 (by omega) (by omega) (by omega) (by omega) (by omega) (by omega), st_eq]
    exact e5
  · exact (KX.tr (fun p i a => by rw [st_at, if_neg (by omega)]) f3.k).tr f4.k
theorem EMs.cenY (hS : HSM S V) {s : AS} (h : EMs W n N K F s 17 g) (hn : 0 < n) (hY : s.2.2.2 < 1900) (x2 x3 x4 : Int32) : ∃ g', fM_centuryBy_b63 x2 x3 x4 g = some (.inl (x4 + i3 1, g')) ∧ EMs W n N K F (cenL S V W n N K F s (g 0 47)).1 17 g' ∧ g' 0 47 = (cenL S V W n N K F s (g 0 47)).2 ∧ KM g g' ∧ g' 0 0 = g 0 0 := by
  have h8 := h.1.2.2.1.1
  have n1 := h.1.2.2.2.1.1
  have d1 := hS (g) n hn (by omega)
  have h1 := EMs.draw h (i := 47) (v := S (g 0 47)) (by omega)
  have n2 := h1.1.2.2.2.1.1
  have d2 := hS (st g 0 47 (S (g 0 47))) n hn (by omega)
  rw [st_eq, st_st] at d2
  have h2 := EMs.draw h (i := 47) (v := S (S (g 0 47))) (by omega)
  obtain ⟨g3, e3, h3, f3⟩ := EMd.late h2 (a := V (S (g 0 47)) % n) (b := V (S (S (g 0 47))) % n) (Nat.mod_lt _ hn) (Nat.mod_lt _ hn)
  have hy : (lateS W n N K F s (V (S (g 0 47)) % n) (V (S (S (g 0 47))) % n)).2.2.2 < 1900 := by rw [lateS_Y]; exact hY
  obtain ⟨g4, e4, h4, f4⟩ := EMd.yearEnds (Y := (lateS W n N K F s (V (S (g 0 47)) % n) (V (S (S (g 0 47))) % n)).2.2.2) h3 hy
  have e5 : ∀ i, g4 0 i = st g 0 47 (S (S (g 0 47))) 0 i := fun i => by
    rw [f4 0 (by omega) (by omega) (by omega), f3 0 (by omega) (by omega) (by omega)]
  refine ⟨g4, ?_, h4, ?_, ?_, ?_⟩
  · simp (disch := (first | omega | assumption | trivial)) only [li_0, li_1, li_2, li_3, li_4, li_5, li_6, li_7, li_8, li_9, li_10, li_11, li_12, li_13, li_14, li_15, li_16, li_17, li_18, li_19, li_20, li_21, li_22, li_23, li_24, li_25, li_26, li_27, li_28, li_29, li_30, li_31, li_32, li_33, li_34, li_35, li_36, li_37, li_38, li_39, li_40, li_41, li_42, li_43, li_44, li_45, li_46, li_47, li_48, li_49, li_50, li_51, li_52, li_53, li_54, li_55, li_56, li_57, li_58, li_59, li_60, li_63, li_64, li_72, li_76, li_77, li_91, li_93, li_96, li_97, li_99, li_108, li_109, li_120, li_122, li_150, li_200, li_255, li_400, li_426, li_600, li_900, li_999, li_1000, li_1002, li_1003, li_2000, li_2042, li_2043, li_2045, li_10000, li_32767, li_100000, li_1000000, li_m1, li_m1b, ob_s, lt1_e, se_l, se_r, if_true, if_false, true_and, and_true, false_and, and_false, st_at, i3_add, i3_mul, i3_sub, i3_lt, i3_le, i3_eq, i3_nat, m1_eqi, i3_eqm, m1_lti, m1_lei, i3_ltm, i3_lem, i3_decm, i3_dec0, nm_eqm, yr_eqm, mxor0, Nat.zero_add, if_pos, if_neg, eq_self, ne_eq, not_true_eq_false, not_false_eq_true, fM_centuryBy_b63, fM_centuryBy_b96, n1, d1, n2, d2, e3, e4]
  · exact (e5 47).trans (st_eq _ _ _ _)
  · exact (KM.tr (fun p i a => by rw [st_at, if_neg (by omega)]) f3.k).tr f4.k
  · rw [e5, st_at, if_neg (by omega)]
theorem ECs.cenT (hS : HSX S V) {s : AS} (h : ECs W n N K F s 11 g) (y q : Nat) (hq : q ≤ 16) (hy : s.2.2.2 + y ≤ 1800) (x : Int32) (hx : g 0 15 = x) : ∃ g', lp (fX_passCentury_L19 (i3 y) (i3 q)) fuel (i3 0, g) = some g' ∧ ECs W n N K F (cen S V W n N K F q (s, x) y).1 11 g' ∧ KX g g' := by
  refine lp_all (fun k t => ∃ g1, t = (i3 k, g1) ∧ ECs W n N K F (cen S V W n N K F q (s, x) k).1 11 g1 ∧ g1 0 15 = (cen S V W n N K F q (s, x) k).2 ∧ KX g g1) (fun g1 => ECs W n N K F (cen S V W n N K F q (s, x) y).1 11 g1 ∧ KX g g1) y (by omega) ?_ ?_ ⟨g, rfl, h, hx, KX.rf⟩
  · rintro k t hk ⟨g1, rfl, h1, x1, f1⟩
    have h8 := h1.2.2.1.1
    have n1 := h1.2.2.2.1.1
    have hY : (cen S V W n N K F q (s, x) k).1.2.2.2 < 1900 := by rw [cen_Y]; dsimp only; omega
    have hc : cen S V W n N K F q (s, x) (k + 1) = cen1 S V W n N K F q (cen S V W n N K F q (s, x) k) := rfl
    generalize cen S V W n N K F q (s, x) k = z at h1 x1 hY hc
    by_cases q1 : n = 0
    · have hc2 : cen1 S V W n N K F q z = (yearS n z.1, z.2) := if_pos q1
      obtain ⟨g2, e2, h2, f2⟩ := EC.passYear h1 hY
      refine ⟨_, ?_, g2, rfl, by rw [hc, hc2]; exact h2, ?_, f1.tr f2.k⟩
      · simp (disch := (first | omega | assumption | trivial)) only [li_0, li_1, li_2, li_3, li_4, li_5, li_6, li_7, li_8, li_9, li_10, li_11, li_12, li_13, li_14, li_15, li_16, li_17, li_18, li_19, li_20, li_21, li_22, li_23, li_24, li_25, li_26, li_27, li_28, li_29, li_30, li_31, li_32, li_33, li_34, li_35, li_36, li_37, li_38, li_39, li_40, li_41, li_42, li_43, li_44, li_45, li_46, li_47, li_48, li_49, li_50, li_51, li_52, li_53, li_54, li_55, li_56, li_57, li_58, li_59, li_60, li_63, li_64, li_72, li_76, li_77, li_91, li_93, li_96, li_97, li_99, li_108, li_109, li_120, li_122, li_150, li_200, li_255, li_400, li_426, li_600, li_900, li_999, li_1000, li_1002, li_1003, li_2000, li_2042, li_2043, li_2045, li_10000, li_32767, li_100000, li_1000000, li_m1, li_m1b, ob_s, lt1_e, se_l, se_r, if_true, if_false, true_and, and_true, false_and, and_false, st_at, i3_add, i3_mul, i3_sub, i3_lt, i3_le, i3_eq, i3_nat, m1_eqi, i3_eqm, m1_lti, m1_lei, i3_ltm, i3_lem, i3_decm, i3_dec0, nm_eqm, yr_eqm, mxor0, Nat.zero_add, if_pos, if_neg, eq_self, ne_eq, not_true_eq_false, not_false_eq_true, fX_passCentury_L19, fX_passCentury_b105, n1, e2]
      · rw [hc, hc2, f2 0 (by omega) (by omega) (by omega) (by omega) (by omega) (by omega)]
        exact x1
    · have hn : 0 < n := by omega
      have d1 := hS (g1) 16 (by omega) (by omega)
      rw [x1] at d1
      have h2 := ECs.draw h1 (i := 15) (v := S z.2)
      have f2 : KX g1 (st g1 0 15 (S z.2)) := fun p i a => by rw [st_at, if_neg (by omega)]
      have hm := Nat.mod_lt (V (S z.2)) (show 16 > 0 by omega)
      by_cases q2 : V (S z.2) % 16 < q
      · have hc2 : cen1 S V W n N K F q z = cenL S V W n N K F (dieS W n N K F z.1 (V (S (S z.2)) % n)) (S (S z.2)) := by
          unfold cen1
          rw [if_neg q1, if_pos q2]
        have n2 := h2.2.2.2.1.1
        have d2 := hS (st g1 0 15 (S z.2)) n hn (by omega)
        rw [st_eq, st_st] at d2
        have h3 := ECs.draw h1 (i := 15) (v := S (S z.2))
        have f3 : KX g1 (st g1 0 15 (S (S z.2))) := fun p i a => by rw [st_at, if_neg (by omega)]
        obtain ⟨g4, e4, h4, f4⟩ := EC.die h3 (b := V (S (S z.2)) % n) (Nat.mod_lt _ hn) (i3 0)
        have x4 : g4 0 15 = S (S z.2) := by
          rw [f4 0 (by omega) (by omega) (by omega) (by omega) (by omega) (by omega), st_eq]
        have hY4 : (dieS W n N K F z.1 (V (S (S z.2)) % n)).2.2.2 < 1900 := by rw [dieS_Y]; exact hY
        obtain ⟨g5, e5, h5, x5, f5⟩ := ECs.cenX hS (s := dieS W n N K F z.1 (V (S (S z.2)) % n)) h4 hn hY4 (i3 y) (i3 q) (i3 k)
        rw [x4] at h5 x5
        refine ⟨_, ?_, g5, rfl, by rw [hc, hc2]; exact h5, by rw [hc, hc2]; exact x5, ((f1.tr f3).tr f4.k).tr f5⟩
        rw [i3_add] at e5
        simp (disch := (first | omega | assumption | trivial)) only [li_0, li_1, li_2, li_3, li_4, li_5, li_6, li_7, li_8, li_9, li_10, li_11, li_12, li_13, li_14, li_15, li_16, li_17, li_18, li_19, li_20, li_21, li_22, li_23, li_24, li_25, li_26, li_27, li_28, li_29, li_30, li_31, li_32, li_33, li_34, li_35, li_36, li_37, li_38, li_39, li_40, li_41, li_42, li_43, li_44, li_45, li_46, li_47, li_48, li_49, li_50, li_51, li_52, li_53, li_54, li_55, li_56, li_57, li_58, li_59, li_60, li_63, li_64, li_72, li_76, li_77, li_91, li_93, li_96, li_97, li_99, li_108, li_109, li_120, li_122, li_150, li_200, li_255, li_400, li_426, li_600, li_900, li_999, li_1000, li_1002, li_1003, li_2000, li_2042, li_2043, li_2045, li_10000, li_32767, li_100000, li_1000000, li_m1, li_m1b, ob_s, lt1_e, se_l, se_r, if_true, if_false, true_and, and_true, false_and, and_false, st_at, i3_add, i3_mul, i3_sub, i3_lt, i3_le, i3_eq, i3_nat, m1_eqi, i3_eqm, m1_lti, m1_lei, i3_ltm, i3_lem, i3_decm, i3_dec0, nm_eqm, yr_eqm, mxor0, Nat.zero_add, if_pos, if_neg, eq_self, ne_eq, not_true_eq_false, not_false_eq_true, fX_passCentury_L19, n1, d1, n2, d2, e4, e5]
      · have hc2 : cen1 S V W n N K F q z = cenL S V W n N K F z.1 (S z.2) := by
          unfold cen1
          rw [if_neg q1, if_neg q2]
        obtain ⟨g5, e5, h5, x5, f5⟩ := ECs.cenX hS (s := z.1) h2 hn hY (i3 y) (i3 q) (i3 k)
        rw [st_eq] at h5 x5
        refine ⟨_, ?_, g5, rfl, by rw [hc, hc2]; exact h5, by rw [hc, hc2]; exact x5, (f1.tr f2).tr f5⟩
        rw [i3_add] at e5
        simp (disch := (first | omega | assumption | trivial)) only [li_0, li_1, li_2, li_3, li_4, li_5, li_6, li_7, li_8, li_9, li_10, li_11, li_12, li_13, li_14, li_15, li_16, li_17, li_18, li_19, li_20, li_21, li_22, li_23, li_24, li_25, li_26, li_27, li_28, li_29, li_30, li_31, li_32, li_33, li_34, li_35, li_36, li_37, li_38, li_39, li_40, li_41, li_42, li_43, li_44, li_45, li_46, li_47, li_48, li_49, li_50, li_51, li_52, li_53, li_54, li_55, li_56, li_57, li_58, li_59, li_60, li_63, li_64, li_72, li_76, li_77, li_91, li_93, li_96, li_97, li_99, li_108, li_109, li_120, li_122, li_150, li_200, li_255, li_400, li_426, li_600, li_900, li_999, li_1000, li_1002, li_1003, li_2000, li_2042, li_2043, li_2045, li_10000, li_32767, li_100000, li_1000000, li_m1, li_m1b, ob_s, lt1_e, se_l, se_r, if_true, if_false, true_and, and_true, false_and, and_false, st_at, i3_add, i3_mul, i3_sub, i3_lt, i3_le, i3_eq, i3_nat, m1_eqi, i3_eqm, m1_lti, m1_lei, i3_ltm, i3_lem, i3_decm, i3_dec0, nm_eqm, yr_eqm, mxor0, Nat.zero_add, if_pos, if_neg, eq_self, ne_eq, not_true_eq_false, not_false_eq_true, fX_passCentury_L19, n1, d1, e5]
  · rintro t ⟨g1, rfl, h1, x1, f1⟩
    refine ⟨g1, ?_, h1, f1⟩
    simp (disch := (first | omega | assumption | trivial)) only [li_0, li_1, li_2, li_3, li_4, li_5, li_6, li_7, li_8, li_9, li_10, li_11, li_12, li_13, li_14, li_15, li_16, li_17, li_18, li_19, li_20, li_21, li_22, li_23, li_24, li_25, li_26, li_27, li_28, li_29, li_30, li_31, li_32, li_33, li_34, li_35, li_36, li_37, li_38, li_39, li_40, li_41, li_42, li_43, li_44, li_45, li_46, li_47, li_48, li_49, li_50, li_51, li_52, li_53, li_54, li_55, li_56, li_57, li_58, li_59, li_60, li_63, li_64, li_72, li_76, li_77, li_91, li_93, li_96, li_97, li_99, li_108, li_109, li_120, li_122, li_150, li_200, li_255, li_400, li_426, li_600, li_900, li_999, li_1000, li_1002, li_1003, li_2000, li_2042, li_2043, li_2045, li_10000, li_32767, li_100000, li_1000000, li_m1, li_m1b, ob_s, lt1_e, se_l, se_r, if_true, if_false, true_and, and_true, false_and, and_false, st_at, i3_add, i3_mul, i3_sub, i3_lt, i3_le, i3_eq, i3_nat, m1_eqi, i3_eqm, m1_lti, m1_lei, i3_ltm, i3_lem, i3_decm, i3_dec0, nm_eqm, yr_eqm, mxor0, Nat.zero_add, if_pos, if_neg, eq_self, ne_eq, not_true_eq_false, not_false_eq_true, fX_passCentury_L19]
theorem EMs.cenT (hS : HSM S V) {s : AS} (h : EMs W n N K F s 17 g) (y q : Nat) (hq : q ≤ 16) (hy : s.2.2.2 + y ≤ 1800) (x : Int32) (hx : g 0 47 = x) : ∃ g', lp (fM_centuryBy_L19 (i3 y) (i3 q)) fuel (i3 0, g) = some g' ∧ EMs W n N K F (cen S V W n N K F q (s, x) y).1 17 g' ∧ KM g g' ∧ g' 0 0 = g 0 0 := by
  refine lp_all (fun k t => ∃ g1, t = (i3 k, g1) ∧ EMs W n N K F (cen S V W n N K F q (s, x) k).1 17 g1 ∧ g1 0 47 = (cen S V W n N K F q (s, x) k).2 ∧ KM g g1 ∧ g1 0 0 = g 0 0) (fun g1 => EMs W n N K F (cen S V W n N K F q (s, x) y).1 17 g1 ∧ KM g g1 ∧ g1 0 0 = g 0 0) y (by omega) ?_ ?_ ⟨g, rfl, h, hx, KM.rf, rfl⟩
  · rintro k t hk ⟨g1, rfl, h1, x1, f1, t1⟩
    have h8 := h1.1.2.2.1.1
    have n1 := h1.1.2.2.2.1.1
    have hY : (cen S V W n N K F q (s, x) k).1.2.2.2 < 1900 := by rw [cen_Y]; dsimp only; omega
    have hc : cen S V W n N K F q (s, x) (k + 1) = cen1 S V W n N K F q (cen S V W n N K F q (s, x) k) := rfl
    generalize cen S V W n N K F q (s, x) k = z at h1 x1 hY hc
    by_cases q1 : n = 0
    · have hc2 : cen1 S V W n N K F q z = (yearS n z.1, z.2) := if_pos q1
      obtain ⟨g2, e2, h2, f2⟩ := EMd.yearEnds h1 hY
      refine ⟨_, ?_, g2, rfl, by rw [hc, hc2]; exact h2, ?_, f1.tr f2.k, ?_⟩
      · simp (disch := (first | omega | assumption | trivial)) only [li_0, li_1, li_2, li_3, li_4, li_5, li_6, li_7, li_8, li_9, li_10, li_11, li_12, li_13, li_14, li_15, li_16, li_17, li_18, li_19, li_20, li_21, li_22, li_23, li_24, li_25, li_26, li_27, li_28, li_29, li_30, li_31, li_32, li_33, li_34, li_35, li_36, li_37, li_38, li_39, li_40, li_41, li_42, li_43, li_44, li_45, li_46, li_47, li_48, li_49, li_50, li_51, li_52, li_53, li_54, li_55, li_56, li_57, li_58, li_59, li_60, li_63, li_64, li_72, li_76, li_77, li_91, li_93, li_96, li_97, li_99, li_108, li_109, li_120, li_122, li_150, li_200, li_255, li_400, li_426, li_600, li_900, li_999, li_1000, li_1002, li_1003, li_2000, li_2042, li_2043, li_2045, li_10000, li_32767, li_100000, li_1000000, li_m1, li_m1b, ob_s, lt1_e, se_l, se_r, if_true, if_false, true_and, and_true, false_and, and_false, st_at, i3_add, i3_mul, i3_sub, i3_lt, i3_le, i3_eq, i3_nat, m1_eqi, i3_eqm, m1_lti, m1_lei, i3_ltm, i3_lem, i3_decm, i3_dec0, nm_eqm, yr_eqm, mxor0, Nat.zero_add, if_pos, if_neg, eq_self, ne_eq, not_true_eq_false, not_false_eq_true, fM_centuryBy_L19, fM_centuryBy_b96, n1, e2]
      · rw [hc, hc2, f2 0 (by omega) (by omega) (by omega)]
        exact x1
      · rw [f2 0 (by omega) (by omega) (by omega)]
        exact t1
    · have hn : 0 < n := by omega
      have d1 := hS (g1) 16 (by omega) (by omega)
      rw [x1] at d1
      have h2 := EMs.draw h1 (i := 47) (v := S z.2) (by omega)
      have f2 : KM g1 (st g1 0 47 (S z.2)) := fun p i a => by rw [st_at, if_neg (by omega)]
      have hm := Nat.mod_lt (V (S z.2)) (show 16 > 0 by omega)
      by_cases q2 : V (S z.2) % 16 < q
      · have hc2 : cen1 S V W n N K F q z = cenL S V W n N K F (dieS W n N K F z.1 (V (S (S z.2)) % n)) (S (S z.2)) := by
          unfold cen1
          rw [if_neg q1, if_pos q2]
        have n2 := h2.1.2.2.2.1.1
        have d2 := hS (st g1 0 47 (S z.2)) n hn (by omega)
        rw [st_eq, st_st] at d2
        have h3 := EMs.draw h1 (i := 47) (v := S (S z.2)) (by omega)
        have f3 : KM g1 (st g1 0 47 (S (S z.2))) := fun p i a => by rw [st_at, if_neg (by omega)]
        obtain ⟨g4, e4, h4, f4⟩ := EMd.dies h3 (b := V (S (S z.2)) % n) (Nat.mod_lt _ hn)
        have x4 : ∀ i, g4 0 i = st g1 0 47 (S (S z.2)) 0 i := fun i => by
          rw [f4 0 (by omega) (by omega) (by omega)]
        have hY4 : (dieS W n N K F z.1 (V (S (S z.2)) % n)).2.2.2 < 1900 := by rw [dieS_Y]; exact hY
        obtain ⟨g5, e5, h5, x5, f5, t5⟩ := EMs.cenY hS (s := dieS W n N K F z.1 (V (S (S z.2)) % n)) h4 hn hY4 (i3 y) (i3 q) (i3 k)
        rw [x4, st_eq] at h5 x5
        refine ⟨_, ?_, g5, rfl, by rw [hc, hc2]; exact h5, by rw [hc, hc2]; exact x5, ((f1.tr f3).tr f4.k).tr f5, ?_⟩
        · rw [i3_add] at e5
          simp (disch := (first | omega | assumption | trivial)) only [li_0, li_1, li_2, li_3, li_4, li_5, li_6, li_7, li_8, li_9, li_10, li_11, li_12, li_13, li_14, li_15, li_16, li_17, li_18, li_19, li_20, li_21, li_22, li_23, li_24, li_25, li_26, li_27, li_28, li_29, li_30, li_31, li_32, li_33, li_34, li_35, li_36, li_37, li_38, li_39, li_40, li_41, li_42, li_43, li_44, li_45, li_46, li_47, li_48, li_49, li_50, li_51, li_52, li_53, li_54, li_55, li_56, li_57, li_58, li_59, li_60, li_63, li_64, li_72, li_76, li_77, li_91, li_93, li_96, li_97, li_99, li_108, li_109, li_120, li_122, li_150, li_200, li_255, li_400, li_426, li_600, li_900, li_999, li_1000, li_1002, li_1003, li_2000, li_2042, li_2043, li_2045, li_10000, li_32767, li_100000, li_1000000, li_m1, li_m1b, ob_s, lt1_e, se_l, se_r, if_true, if_false, true_and, and_true, false_and, and_false, st_at, i3_add, i3_mul, i3_sub, i3_lt, i3_le, i3_eq, i3_nat, m1_eqi, i3_eqm, m1_lti, m1_lei, i3_ltm, i3_lem, i3_decm, i3_dec0, nm_eqm, yr_eqm, mxor0, Nat.zero_add, if_pos, if_neg, eq_self, ne_eq, not_true_eq_false, not_false_eq_true, fM_centuryBy_L19, n1, d1, n2, d2, e4, e5]
        · rw [t5, x4, st_at, if_neg (by omega)]
          exact t1
      · have hc2 : cen1 S V W n N K F q z = cenL S V W n N K F z.1 (S z.2) := by
          unfold cen1
          rw [if_neg q1, if_neg q2]
        obtain ⟨g5, e5, h5, x5, f5, t5⟩ := EMs.cenY hS (s := z.1) h2 hn hY (i3 y) (i3 q) (i3 k)
        rw [st_eq] at h5 x5
        refine ⟨_, ?_, g5, rfl, by rw [hc, hc2]; exact h5, by rw [hc, hc2]; exact x5, (f1.tr f2).tr f5, ?_⟩
        · rw [i3_add] at e5
          simp (disch := (first | omega | assumption | trivial)) only [li_0, li_1, li_2, li_3, li_4, li_5, li_6, li_7, li_8, li_9, li_10, li_11, li_12, li_13, li_14, li_15, li_16, li_17, li_18, li_19, li_20, li_21, li_22, li_23, li_24, li_25, li_26, li_27, li_28, li_29, li_30, li_31, li_32, li_33, li_34, li_35, li_36, li_37, li_38, li_39, li_40, li_41, li_42, li_43, li_44, li_45, li_46, li_47, li_48, li_49, li_50, li_51, li_52, li_53, li_54, li_55, li_56, li_57, li_58, li_59, li_60, li_63, li_64, li_72, li_76, li_77, li_91, li_93, li_96, li_97, li_99, li_108, li_109, li_120, li_122, li_150, li_200, li_255, li_400, li_426, li_600, li_900, li_999, li_1000, li_1002, li_1003, li_2000, li_2042, li_2043, li_2045, li_10000, li_32767, li_100000, li_1000000, li_m1, li_m1b, ob_s, lt1_e, se_l, se_r, if_true, if_false, true_and, and_true, false_and, and_false, st_at, i3_add, i3_mul, i3_sub, i3_lt, i3_le, i3_eq, i3_nat, m1_eqi, i3_eqm, m1_lti, m1_lei, i3_ltm, i3_lem, i3_decm, i3_dec0, nm_eqm, yr_eqm, mxor0, Nat.zero_add, if_pos, if_neg, eq_self, ne_eq, not_true_eq_false, not_false_eq_true, fM_centuryBy_L19, n1, d1, e5]
        · rw [t5, st_at, if_neg (by omega)]
          exact t1
  · rintro t ⟨g1, rfl, h1, x1, f1, t1⟩
    refine ⟨g1, ?_, h1, f1, t1⟩
    simp (disch := (first | omega | assumption | trivial)) only [li_0, li_1, li_2, li_3, li_4, li_5, li_6, li_7, li_8, li_9, li_10, li_11, li_12, li_13, li_14, li_15, li_16, li_17, li_18, li_19, li_20, li_21, li_22, li_23, li_24, li_25, li_26, li_27, li_28, li_29, li_30, li_31, li_32, li_33, li_34, li_35, li_36, li_37, li_38, li_39, li_40, li_41, li_42, li_43, li_44, li_45, li_46, li_47, li_48, li_49, li_50, li_51, li_52, li_53, li_54, li_55, li_56, li_57, li_58, li_59, li_60, li_63, li_64, li_72, li_76, li_77, li_91, li_93, li_96, li_97, li_99, li_108, li_109, li_120, li_122, li_150, li_200, li_255, li_400, li_426, li_600, li_900, li_999, li_1000, li_1002, li_1003, li_2000, li_2042, li_2043, li_2045, li_10000, li_32767, li_100000, li_1000000, li_m1, li_m1b, ob_s, lt1_e, se_l, se_r, if_true, if_false, true_and, and_true, false_and, and_false, st_at, i3_add, i3_mul, i3_sub, i3_lt, i3_le, i3_eq, i3_nat, m1_eqi, i3_eqm, m1_lti, m1_lei, i3_ltm, i3_lem, i3_decm, i3_dec0, nm_eqm, yr_eqm, mxor0, Nat.zero_add, if_pos, if_neg, eq_self, ne_eq, not_true_eq_false, not_false_eq_true, fM_centuryBy_L19]
/-- a century, from the state that is -/
theorem ECs.century (hS : HSX S V) {s : AS} (h : ECs W n N K F s 10 g) (y q : Nat) (hq : q ≤ 16) (hy : s.2.2.2 + y ≤ 1800) (x : Int32) : ∃ g', fX_passCentury x (i3 y) (i3 q) g = some g' ∧ ECs W n N K F (cen S V W n N K F q (s, x) y).1 11 g' ∧ KX g g' := by
  obtain ⟨g1, e1, h1, f1⟩ := EC.take11 h
  obtain ⟨g2, e2, h2, f2⟩ := ECs.cenT hS (s := s) (ECs.draw h1 (i := 15) (v := x)) y q hq hy x (st_eq _ _ _ _)
  refine ⟨g2, ?_, h2, (f1.k.tr (fun p i a => by rw [st_at, if_neg (by omega)])).tr f2⟩
  simp (disch := (first | omega | assumption | trivial)) only [li_0, li_1, li_2, li_3, li_4, li_5, li_6, li_7, li_8, li_9, li_10, li_11, li_12, li_13, li_14, li_15, li_16, li_17, li_18, li_19, li_20, li_21, li_22, li_23, li_24, li_25, li_26, li_27, li_28, li_29, li_30, li_31, li_32, li_33, li_34, li_35, li_36, li_37, li_38, li_39, li_40, li_41, li_42, li_43, li_44, li_45, li_46, li_47, li_48, li_49, li_50, li_51, li_52, li_53, li_54, li_55, li_56, li_57, li_58, li_59, li_60, li_63, li_64, li_72, li_76, li_77, li_91, li_93, li_96, li_97, li_99, li_108, li_109, li_120, li_122, li_150, li_200, li_255, li_400, li_426, li_600, li_900, li_999, li_1000, li_1002, li_1003, li_2000, li_2042, li_2043, li_2045, li_10000, li_32767, li_100000, li_1000000, li_m1, li_m1b, ob_s, lt1_e, se_l, se_r, if_true, if_false, true_and, and_true, false_and, and_false, st_at, i3_add, i3_mul, i3_sub, i3_lt, i3_le, i3_eq, i3_nat, m1_eqi, i3_eqm, m1_lti, m1_lei, i3_ltm, i3_lem, i3_decm, i3_dec0, nm_eqm, yr_eqm, mxor0, Nat.zero_add, if_pos, if_neg, eq_self, ne_eq, not_true_eq_false, not_false_eq_true, fX_passCentury, fX_passCentury_b19, e1, e2]
theorem EMs.century (hS : HSM S V) {s : AS} (h : EMs W n N K F s 16 g) (y q : Nat) (hq : q ≤ 16) (hy : s.2.2.2 + y ≤ 1800) (x : Int32) : ∃ g', fM_centuryBy x (i3 y) (i3 q) g = some g' ∧ EMs W n N K F (cen S V W n N K F q (s, x) y).1 17 g' ∧ KM g g' ∧ g' 0 0 = g 0 0 := by
  obtain ⟨g1, e1, h1, f1⟩ := EMd.copy17 h
  obtain ⟨g2, e2, h2, f2, t2⟩ := EMs.cenT hS (s := s) (EMs.draw h1 (i := 47) (v := x) (by omega)) y q hq hy x (st_eq _ _ _ _)
  refine ⟨g2, ?_, h2, (f1.k.tr (fun p i a => by rw [st_at, if_neg (by omega)])).tr f2, ?_⟩
  · simp (disch := (first | omega | assumption | trivial)) only [li_0, li_1, li_2, li_3, li_4, li_5, li_6, li_7, li_8, li_9, li_10, li_11, li_12, li_13, li_14, li_15, li_16, li_17, li_18, li_19, li_20, li_21, li_22, li_23, li_24, li_25, li_26, li_27, li_28, li_29, li_30, li_31, li_32, li_33, li_34, li_35, li_36, li_37, li_38, li_39, li_40, li_41, li_42, li_43, li_44, li_45, li_46, li_47, li_48, li_49, li_50, li_51, li_52, li_53, li_54, li_55, li_56, li_57, li_58, li_59, li_60, li_63, li_64, li_72, li_76, li_77, li_91, li_93, li_96, li_97, li_99, li_108, li_109, li_120, li_122, li_150, li_200, li_255, li_400, li_426, li_600, li_900, li_999, li_1000, li_1002, li_1003, li_2000, li_2042, li_2043, li_2045, li_10000, li_32767, li_100000, li_1000000, li_m1, li_m1b, ob_s, lt1_e, se_l, se_r, if_true, if_false, true_and, and_true, false_and, and_false, st_at, i3_add, i3_mul, i3_sub, i3_lt, i3_le, i3_eq, i3_nat, m1_eqi, i3_eqm, m1_lti, m1_lei, i3_ltm, i3_lem, i3_decm, i3_dec0, nm_eqm, yr_eqm, mxor0, Nat.zero_add, if_pos, if_neg, eq_self, ne_eq, not_true_eq_false, not_false_eq_true, fM_centuryBy, fM_centuryBy_b19, e1, e2]
  · rw [t2, st_at, if_neg (by omega), f1 0 (by omega) (by omega) (by omega)]
end CE

theorem S_ahead : Sim_ahead R := by
  intro gX xX gM xM x1 x2 hR
  obtain ⟨W, n, N, K, F, D, U, T, Y, d, hX, hM, hY, hW, h6, h7⟩ := id hR.2.2.2
  have h8 := hX.2.2.1.1
  have nX := hX.2.2.2.1.1
  obtain ⟨g0, hg0⟩ : ∃ g0, g0 = st gM 0 0 (i3 0) := ⟨_, rfl⟩
  have t0 : g0 0 0 = i3 0 := by rw [hg0, st_eq]
  have k0 : KM gM g0 := by rw [hg0]; exact KM.thrown
  have hR0 : R gX xX g0 xM := hR.fr KX.rf k0
  have hM0 : EMd W n N K F D U T Y 16 g0 := hM.frK k0
  have nM := hM0.1.2.2.2.1.1
  rcases rg 99 (by omega) x1 with ⟨y, hy, rfl⟩ | q1
  · have e1 := inY (k := y) (lo := 0) (hi := 99) (by omega) hy (by omega)
    rcases rg 2 (by omega) x2 with ⟨w, hw, rfl⟩ | q2
    · have e2 := inY (k := w) (lo := 0) (hi := 2) (by omega) hw (by omega)
      obtain ⟨a1, b1, c1, f1⟩ := hX.take11
      obtain ⟨a2, b2, c2, f2⟩ := c1.years y (by omega) (i3 w)
      obtain ⟨a3, b3, c3, f3⟩ := hM0.copy17
      obtain ⟨a4, b4, c4, f4⟩ := c3.years y (by omega) (i3 w)
      have t4 : a4 0 0 = i3 0 := by
        rw [f4 0 (by omega) (by omega) (by omega), f3 0 (by omega) (by omega) (by omega)]
        exact t0
      have hR4 : R a2 xX a4 xM := hR0.fr (f1.k.tr f2.k) (f3.k.tr f4.k)
      rcases (show w = 0 ∨ w = 1 ∨ w = 2 by omega) with rfl | rfl | rfl
      · have z1 := c2.allDebts
        have z2 := c4.1.debts
        refine ⟨(.inr (i3 (sumN (yD D U T n y) n)), a2), (i3 (sumN (yD D U T n y) n), a4), ?_, ?_, hR4, okR t4⟩
        · simp (disch := (first | omega | assumption | trivial)) only [li_0, li_1, li_2, li_3, li_4, li_5, li_6, li_7, li_8, li_9, li_10, li_11, li_12, li_13, li_14, li_15, li_16, li_17, li_18, li_19, li_20, li_21, li_22, li_23, li_24, li_25, li_26, li_27, li_28, li_29, li_30, li_31, li_32, li_33, li_34, li_35, li_36, li_37, li_38, li_39, li_40, li_41, li_42, li_43, li_44, li_45, li_46, li_47, li_48, li_49, li_50, li_51, li_52, li_53, li_54, li_55, li_56, li_57, li_58, li_59, li_60, li_63, li_64, li_72, li_76, li_77, li_91, li_93, li_96, li_97, li_99, li_108, li_109, li_120, li_122, li_150, li_200, li_255, li_400, li_426, li_600, li_900, li_999, li_1000, li_1002, li_1003, li_2000, li_2042, li_2043, li_2045, li_10000, li_32767, li_100000, li_1000000, li_m1, li_m1b, ob_s, lt1_e, se_l, se_r, if_true, if_false, true_and, and_true, false_and, and_false, st_at, i3_add, i3_mul, i3_sub, i3_lt, i3_le, i3_eq, i3_nat, m1_eqi, i3_eqm, m1_lti, m1_lei, i3_ltm, i3_lem, i3_decm, i3_dec0, nm_eqm, yr_eqm, mxor0, Nat.zero_add, if_pos, if_neg, eq_self, ne_eq, not_true_eq_false, not_false_eq_true, fX_ahead, fX_ahead_b25, fX_ahead_b41, needY, b1, b2, z1]
        · simp (disch := (first | omega | assumption | trivial)) only [li_0, li_1, li_2, li_3, li_4, li_5, li_6, li_7, li_8, li_9, li_10, li_11, li_12, li_13, li_14, li_15, li_16, li_17, li_18, li_19, li_20, li_21, li_22, li_23, li_24, li_25, li_26, li_27, li_28, li_29, li_30, li_31, li_32, li_33, li_34, li_35, li_36, li_37, li_38, li_39, li_40, li_41, li_42, li_43, li_44, li_45, li_46, li_47, li_48, li_49, li_50, li_51, li_52, li_53, li_54, li_55, li_56, li_57, li_58, li_59, li_60, li_63, li_64, li_72, li_76, li_77, li_91, li_93, li_96, li_97, li_99, li_108, li_109, li_120, li_122, li_150, li_200, li_255, li_400, li_426, li_600, li_900, li_999, li_1000, li_1002, li_1003, li_2000, li_2042, li_2043, li_2045, li_10000, li_32767, li_100000, li_1000000, li_m1, li_m1b, ob_s, lt1_e, se_l, se_r, if_true, if_false, true_and, and_true, false_and, and_false, st_at, i3_add, i3_mul, i3_sub, i3_lt, i3_le, i3_eq, i3_nat, m1_eqi, i3_eqm, m1_lti, m1_lei, i3_ltm, i3_lem, i3_decm, i3_dec0, nm_eqm, yr_eqm, mxor0, Nat.zero_add, if_pos, if_neg, eq_self, ne_eq, not_true_eq_false, not_false_eq_true, fM_ahead, hg0.symm, fM_ahead_b30, fM_ahead_b53, e1, e2, badY, t0, b3, b4, z2]
      · obtain ⟨a5, b5, f5⟩ := c2.heired
        obtain ⟨a6, b6, f6⟩ := c4.1.heiredL
        refine ⟨(.inr (i3 (msk (fun p => decide (T p = 0 ∧ ¬ heir W n N K F (yD D U T n y) U T (Y + y) p = 8)) n)), a5), (i3 (msk (fun p => decide (T p = 0 ∧ ¬ heir W n N K F (yD D U T n y) U T (Y + y) p = 8)) n), a6), ?_, ?_, hR4.fr f5.k f6.k, okR ((congrFun (f6 0 (by omega) (by omega)) 0).trans t4)⟩
        · simp (disch := (first | omega | assumption | trivial)) only [li_0, li_1, li_2, li_3, li_4, li_5, li_6, li_7, li_8, li_9, li_10, li_11, li_12, li_13, li_14, li_15, li_16, li_17, li_18, li_19, li_20, li_21, li_22, li_23, li_24, li_25, li_26, li_27, li_28, li_29, li_30, li_31, li_32, li_33, li_34, li_35, li_36, li_37, li_38, li_39, li_40, li_41, li_42, li_43, li_44, li_45, li_46, li_47, li_48, li_49, li_50, li_51, li_52, li_53, li_54, li_55, li_56, li_57, li_58, li_59, li_60, li_63, li_64, li_72, li_76, li_77, li_91, li_93, li_96, li_97, li_99, li_108, li_109, li_120, li_122, li_150, li_200, li_255, li_400, li_426, li_600, li_900, li_999, li_1000, li_1002, li_1003, li_2000, li_2042, li_2043, li_2045, li_10000, li_32767, li_100000, li_1000000, li_m1, li_m1b, ob_s, lt1_e, se_l, se_r, if_true, if_false, true_and, and_true, false_and, and_false, st_at, i3_add, i3_mul, i3_sub, i3_lt, i3_le, i3_eq, i3_nat, m1_eqi, i3_eqm, m1_lti, m1_lei, i3_ltm, i3_lem, i3_decm, i3_dec0, nm_eqm, yr_eqm, mxor0, Nat.zero_add, if_pos, if_neg, eq_self, ne_eq, not_true_eq_false, not_false_eq_true, fX_ahead, fX_ahead_b25, fX_ahead_b41, needY, b1, b2, b5]
        · simp (disch := (first | omega | assumption | trivial)) only [li_0, li_1, li_2, li_3, li_4, li_5, li_6, li_7, li_8, li_9, li_10, li_11, li_12, li_13, li_14, li_15, li_16, li_17, li_18, li_19, li_20, li_21, li_22, li_23, li_24, li_25, li_26, li_27, li_28, li_29, li_30, li_31, li_32, li_33, li_34, li_35, li_36, li_37, li_38, li_39, li_40, li_41, li_42, li_43, li_44, li_45, li_46, li_47, li_48, li_49, li_50, li_51, li_52, li_53, li_54, li_55, li_56, li_57, li_58, li_59, li_60, li_63, li_64, li_72, li_76, li_77, li_91, li_93, li_96, li_97, li_99, li_108, li_109, li_120, li_122, li_150, li_200, li_255, li_400, li_426, li_600, li_900, li_999, li_1000, li_1002, li_1003, li_2000, li_2042, li_2043, li_2045, li_10000, li_32767, li_100000, li_1000000, li_m1, li_m1b, ob_s, lt1_e, se_l, se_r, if_true, if_false, true_and, and_true, false_and, and_false, st_at, i3_add, i3_mul, i3_sub, i3_lt, i3_le, i3_eq, i3_nat, m1_eqi, i3_eqm, m1_lti, m1_lei, i3_ltm, i3_lem, i3_decm, i3_dec0, nm_eqm, yr_eqm, mxor0, Nat.zero_add, if_pos, if_neg, eq_self, ne_eq, not_true_eq_false, not_false_eq_true, fM_ahead, hg0.symm, fM_ahead_b30, fM_ahead_b53, fM_ahead_b107, e1, e2, badY, t0, b3, b4, b6]
      · have z1 := c2.mostInDebt
        have z2 := c4.1.deepest
        refine ⟨(.inr (nm (mxd (yD D U T n y) n)), a2), (nm (mxd (yD D U T n y) n), a4), ?_, ?_, hR4, okR t4⟩
        · simp (disch := (first | omega | assumption | trivial)) only [li_0, li_1, li_2, li_3, li_4, li_5, li_6, li_7, li_8, li_9, li_10, li_11, li_12, li_13, li_14, li_15, li_16, li_17, li_18, li_19, li_20, li_21, li_22, li_23, li_24, li_25, li_26, li_27, li_28, li_29, li_30, li_31, li_32, li_33, li_34, li_35, li_36, li_37, li_38, li_39, li_40, li_41, li_42, li_43, li_44, li_45, li_46, li_47, li_48, li_49, li_50, li_51, li_52, li_53, li_54, li_55, li_56, li_57, li_58, li_59, li_60, li_63, li_64, li_72, li_76, li_77, li_91, li_93, li_96, li_97, li_99, li_108, li_109, li_120, li_122, li_150, li_200, li_255, li_400, li_426, li_600, li_900, li_999, li_1000, li_1002, li_1003, li_2000, li_2042, li_2043, li_2045, li_10000, li_32767, li_100000, li_1000000, li_m1, li_m1b, ob_s, lt1_e, se_l, se_r, if_true, if_false, true_and, and_true, false_and, and_false, st_at, i3_add, i3_mul, i3_sub, i3_lt, i3_le, i3_eq, i3_nat, m1_eqi, i3_eqm, m1_lti, m1_lei, i3_ltm, i3_lem, i3_decm, i3_dec0, nm_eqm, yr_eqm, mxor0, Nat.zero_add, if_pos, if_neg, eq_self, ne_eq, not_true_eq_false, not_false_eq_true, fX_ahead, fX_ahead_b25, fX_ahead_b41, needY, b1, b2, z1]
        · simp (disch := (first | omega | assumption | trivial)) only [li_0, li_1, li_2, li_3, li_4, li_5, li_6, li_7, li_8, li_9, li_10, li_11, li_12, li_13, li_14, li_15, li_16, li_17, li_18, li_19, li_20, li_21, li_22, li_23, li_24, li_25, li_26, li_27, li_28, li_29, li_30, li_31, li_32, li_33, li_34, li_35, li_36, li_37, li_38, li_39, li_40, li_41, li_42, li_43, li_44, li_45, li_46, li_47, li_48, li_49, li_50, li_51, li_52, li_53, li_54, li_55, li_56, li_57, li_58, li_59, li_60, li_63, li_64, li_72, li_76, li_77, li_91, li_93, li_96, li_97, li_99, li_108, li_109, li_120, li_122, li_150, li_200, li_255, li_400, li_426, li_600, li_900, li_999, li_1000, li_1002, li_1003, li_2000, li_2042, li_2043, li_2045, li_10000, li_32767, li_100000, li_1000000, li_m1, li_m1b, ob_s, lt1_e, se_l, se_r, if_true, if_false, true_and, and_true, false_and, and_false, st_at, i3_add, i3_mul, i3_sub, i3_lt, i3_le, i3_eq, i3_nat, m1_eqi, i3_eqm, m1_lti, m1_lei, i3_ltm, i3_lem, i3_decm, i3_dec0, nm_eqm, yr_eqm, mxor0, Nat.zero_add, if_pos, if_neg, eq_self, ne_eq, not_true_eq_false, not_false_eq_true, fM_ahead, hg0.symm, fM_ahead_b30, fM_ahead_b53, e1, e2, badY, t0, b3, b4, z2]
    · obtain ⟨e2, _, q3⟩ := q2
      refine ⟨(.inl 1, st gX 0 18 (gX 0 18 + i3 1)), (i3 0, st (st g0 0 0 (i3 1)) 2 1 (g0 2 1 + i3 1)), ?_, ?_, ref11 hR0 _⟩
      · have eN : ∀ z1 z2 : Int32, fX_ahead_b25 z1 z2 (i3 0) gX = some (.inl 1, st gX 0 18 (gX 0 18 + i3 1)) := fun z1 z2 => by
          unfold fX_ahead_b25
          rw [needN]
          rfl
        rcases q3 with q3 | ⟨j, q3, q4, rfl⟩
        · simp (disch := (first | omega | assumption | trivial)) only [li_0, li_1, li_2, li_3, li_4, li_5, li_6, li_7, li_8, li_9, li_10, li_11, li_12, li_13, li_14, li_15, li_16, li_17, li_18, li_19, li_20, li_21, li_22, li_23, li_24, li_25, li_26, li_27, li_28, li_29, li_30, li_31, li_32, li_33, li_34, li_35, li_36, li_37, li_38, li_39, li_40, li_41, li_42, li_43, li_44, li_45, li_46, li_47, li_48, li_49, li_50, li_51, li_52, li_53, li_54, li_55, li_56, li_57, li_58, li_59, li_60, li_63, li_64, li_72, li_76, li_77, li_91, li_93, li_96, li_97, li_99, li_108, li_109, li_120, li_122, li_150, li_200, li_255, li_400, li_426, li_600, li_900, li_999, li_1000, li_1002, li_1003, li_2000, li_2042, li_2043, li_2045, li_10000, li_32767, li_100000, li_1000000, li_m1, li_m1b, ob_s, lt1_e, se_l, se_r, if_true, if_false, true_and, and_true, false_and, and_false, st_at, i3_add, i3_mul, i3_sub, i3_lt, i3_le, i3_eq, i3_nat, m1_eqi, i3_eqm, m1_lti, m1_lei, i3_ltm, i3_lem, i3_decm, i3_dec0, nm_eqm, yr_eqm, mxor0, Nat.zero_add, if_pos, if_neg, eq_self, ne_eq, not_true_eq_false, not_false_eq_true, fX_ahead, fX_ahead_b24, eN, q3]
        · simp (disch := (first | omega | assumption | trivial)) only [li_0, li_1, li_2, li_3, li_4, li_5, li_6, li_7, li_8, li_9, li_10, li_11, li_12, li_13, li_14, li_15, li_16, li_17, li_18, li_19, li_20, li_21, li_22, li_23, li_24, li_25, li_26, li_27, li_28, li_29, li_30, li_31, li_32, li_33, li_34, li_35, li_36, li_37, li_38, li_39, li_40, li_41, li_42, li_43, li_44, li_45, li_46, li_47, li_48, li_49, li_50, li_51, li_52, li_53, li_54, li_55, li_56, li_57, li_58, li_59, li_60, li_63, li_64, li_72, li_76, li_77, li_91, li_93, li_96, li_97, li_99, li_108, li_109, li_120, li_122, li_150, li_200, li_255, li_400, li_426, li_600, li_900, li_999, li_1000, li_1002, li_1003, li_2000, li_2042, li_2043, li_2045, li_10000, li_32767, li_100000, li_1000000, li_m1, li_m1b, ob_s, lt1_e, se_l, se_r, if_true, if_false, true_and, and_true, false_and, and_false, st_at, i3_add, i3_mul, i3_sub, i3_lt, i3_le, i3_eq, i3_nat, m1_eqi, i3_eqm, m1_lti, m1_lei, i3_ltm, i3_lem, i3_decm, i3_dec0, nm_eqm, yr_eqm, mxor0, Nat.zero_add, if_pos, if_neg, eq_self, ne_eq, not_true_eq_false, not_false_eq_true, fX_ahead, fX_ahead_b24, eN]
      · simp (disch := (first | omega | assumption | trivial)) only [li_0, li_1, li_2, li_3, li_4, li_5, li_6, li_7, li_8, li_9, li_10, li_11, li_12, li_13, li_14, li_15, li_16, li_17, li_18, li_19, li_20, li_21, li_22, li_23, li_24, li_25, li_26, li_27, li_28, li_29, li_30, li_31, li_32, li_33, li_34, li_35, li_36, li_37, li_38, li_39, li_40, li_41, li_42, li_43, li_44, li_45, li_46, li_47, li_48, li_49, li_50, li_51, li_52, li_53, li_54, li_55, li_56, li_57, li_58, li_59, li_60, li_63, li_64, li_72, li_76, li_77, li_91, li_93, li_96, li_97, li_99, li_108, li_109, li_120, li_122, li_150, li_200, li_255, li_400, li_426, li_600, li_900, li_999, li_1000, li_1002, li_1003, li_2000, li_2042, li_2043, li_2045, li_10000, li_32767, li_100000, li_1000000, li_m1, li_m1b, ob_s, lt1_e, se_l, se_r, if_true, if_false, true_and, and_true, false_and, and_false, st_at, i3_add, i3_mul, i3_sub, i3_lt, i3_le, i3_eq, i3_nat, m1_eqi, i3_eqm, m1_lti, m1_lei, i3_ltm, i3_lem, i3_decm, i3_dec0, nm_eqm, yr_eqm, mxor0, Nat.zero_add, if_pos, if_neg, eq_self, ne_eq, not_true_eq_false, not_false_eq_true, fM_ahead, fM_ahead_b25, fM_ahead_b30, hg0.symm, e1, e2, badN, t0]
  · obtain ⟨e1, _, q3⟩ := q1
    refine ⟨(.inl 1, st gX 0 18 (gX 0 18 + i3 1)), (i3 0, st (st g0 0 0 (i3 1)) 2 1 (g0 2 1 + i3 1)), ?_, ?_, ref11 hR0 _⟩
    · have eN : ∀ z1 z2 : Int32, fX_ahead_b25 z1 z2 (i3 0) gX = some (.inl 1, st gX 0 18 (gX 0 18 + i3 1)) := fun z1 z2 => by
        unfold fX_ahead_b25
        rw [needN]
        rfl
      rcases q3 with q3 | ⟨j, q3, q4, rfl⟩
      · simp (disch := (first | omega | assumption | trivial)) only [li_0, li_1, li_2, li_3, li_4, li_5, li_6, li_7, li_8, li_9, li_10, li_11, li_12, li_13, li_14, li_15, li_16, li_17, li_18, li_19, li_20, li_21, li_22, li_23, li_24, li_25, li_26, li_27, li_28, li_29, li_30, li_31, li_32, li_33, li_34, li_35, li_36, li_37, li_38, li_39, li_40, li_41, li_42, li_43, li_44, li_45, li_46, li_47, li_48, li_49, li_50, li_51, li_52, li_53, li_54, li_55, li_56, li_57, li_58, li_59, li_60, li_63, li_64, li_72, li_76, li_77, li_91, li_93, li_96, li_97, li_99, li_108, li_109, li_120, li_122, li_150, li_200, li_255, li_400, li_426, li_600, li_900, li_999, li_1000, li_1002, li_1003, li_2000, li_2042, li_2043, li_2045, li_10000, li_32767, li_100000, li_1000000, li_m1, li_m1b, ob_s, lt1_e, se_l, se_r, if_true, if_false, true_and, and_true, false_and, and_false, st_at, i3_add, i3_mul, i3_sub, i3_lt, i3_le, i3_eq, i3_nat, m1_eqi, i3_eqm, m1_lti, m1_lei, i3_ltm, i3_lem, i3_decm, i3_dec0, nm_eqm, yr_eqm, mxor0, Nat.zero_add, if_pos, if_neg, eq_self, ne_eq, not_true_eq_false, not_false_eq_true, fX_ahead, fX_ahead_b24, eN, q3]
      · simp (disch := (first | omega | assumption | trivial)) only [li_0, li_1, li_2, li_3, li_4, li_5, li_6, li_7, li_8, li_9, li_10, li_11, li_12, li_13, li_14, li_15, li_16, li_17, li_18, li_19, li_20, li_21, li_22, li_23, li_24, li_25, li_26, li_27, li_28, li_29, li_30, li_31, li_32, li_33, li_34, li_35, li_36, li_37, li_38, li_39, li_40, li_41, li_42, li_43, li_44, li_45, li_46, li_47, li_48, li_49, li_50, li_51, li_52, li_53, li_54, li_55, li_56, li_57, li_58, li_59, li_60, li_63, li_64, li_72, li_76, li_77, li_91, li_93, li_96, li_97, li_99, li_108, li_109, li_120, li_122, li_150, li_200, li_255, li_400, li_426, li_600, li_900, li_999, li_1000, li_1002, li_1003, li_2000, li_2042, li_2043, li_2045, li_10000, li_32767, li_100000, li_1000000, li_m1, li_m1b, ob_s, lt1_e, se_l, se_r, if_true, if_false, true_and, and_true, false_and, and_false, st_at, i3_add, i3_mul, i3_sub, i3_lt, i3_le, i3_eq, i3_nat, m1_eqi, i3_eqm, m1_lti, m1_lei, i3_ltm, i3_lem, i3_decm, i3_dec0, nm_eqm, yr_eqm, mxor0, Nat.zero_add, if_pos, if_neg, eq_self, ne_eq, not_true_eq_false, not_false_eq_true, fX_ahead, fX_ahead_b24, eN]
    · simp (disch := (first | omega | assumption | trivial)) only [li_0, li_1, li_2, li_3, li_4, li_5, li_6, li_7, li_8, li_9, li_10, li_11, li_12, li_13, li_14, li_15, li_16, li_17, li_18, li_19, li_20, li_21, li_22, li_23, li_24, li_25, li_26, li_27, li_28, li_29, li_30, li_31, li_32, li_33, li_34, li_35, li_36, li_37, li_38, li_39, li_40, li_41, li_42, li_43, li_44, li_45, li_46, li_47, li_48, li_49, li_50, li_51, li_52, li_53, li_54, li_55, li_56, li_57, li_58, li_59, li_60, li_63, li_64, li_72, li_76, li_77, li_91, li_93, li_96, li_97, li_99, li_108, li_109, li_120, li_122, li_150, li_200, li_255, li_400, li_426, li_600, li_900, li_999, li_1000, li_1002, li_1003, li_2000, li_2042, li_2043, li_2045, li_10000, li_32767, li_100000, li_1000000, li_m1, li_m1b, ob_s, lt1_e, se_l, se_r, if_true, if_false, true_and, and_true, false_and, and_false, st_at, i3_add, i3_mul, i3_sub, i3_lt, i3_le, i3_eq, i3_nat, m1_eqi, i3_eqm, m1_lti, m1_lei, i3_ltm, i3_lem, i3_decm, i3_dec0, nm_eqm, yr_eqm, mxor0, Nat.zero_add, if_pos, if_neg, eq_self, ne_eq, not_true_eq_false, not_false_eq_true, fM_ahead, fM_ahead_b25, fM_ahead_b30, hg0.symm, e1, badN, t0]

theorem S_after : Sim_after R := by
  intro gX xX gM xM x1 x2 hR
  obtain ⟨W, n, N, K, F, D, U, T, Y, d, hX, hM, hY, hW, h6, h7⟩ := id hR.2.2.2
  have h8 := hX.2.2.1.1
  have nX := hX.2.2.2.1.1
  obtain ⟨g0, hg0⟩ : ∃ g0, g0 = st gM 0 0 (i3 0) := ⟨_, rfl⟩
  have t0 : g0 0 0 = i3 0 := by rw [hg0, st_eq]
  have k0 : KM gM g0 := by rw [hg0]; exact KM.thrown
  have hR0 : R gX xX g0 xM := hR.fr KX.rf k0
  have hM0 : EMd W n N K F D U T Y 16 g0 := hM.frK k0
  have nM := hM0.1.2.2.2.1.1
  rcases cls h8 x1 with ⟨a, ha, rfl⟩ | q1
  · have e1 := npY nX h8 ha
    have e2 := ipY nM h8 ha
    rcases rg 1 (by omega) x2 with ⟨w, hw, rfl⟩ | q2
    · have e3 := inY (k := w) (lo := 0) (hi := 1) (by omega) hw (by omega)
      have hl := hX.lives ha
      obtain ⟨a3, b3, c3, f3⟩ := hM0.copy17
      obtain ⟨a4, b4, c4, f4⟩ := c3.dies ha
      have t4 : a4 0 0 = i3 0 := by
        rw [f4 0 (by omega) (by omega) (by omega), f3 0 (by omega) (by omega) (by omega)]
        exact t0
      have kM4 : KM g0 a4 := f3.k.tr f4.k
      have hUa := hX.2.2.1.2.2.1 a (by omega)
      by_cases q : T a = 0
      · have ua := hW.1 a (by omega) q
        rw [if_pos q] at hl b4
        obtain ⟨a5, b5, f5⟩ := hX.heirOf ha
        have hX5 := hX.fr f5
        have s1 := hX5.2.1.1
        have hlt := lnd_lt (W := W) (n := n) (N := N) (K := K) (F := F) (D := D) (U := U) (T := updN T a (Y + 1)) (Y := Y) (b := a) hX.2.2.2.2.2
        have his := lnd_is (W := W) (n := n) (N := N) (K := K) (F := F) (D := D) (U := U) (T := updN T a (Y + 1)) (Y := Y) (b := a)
        unfold dieS at c4
        dsimp only at c4
        simp only [if_pos q] at c4
        generalize lnd W n N K F D U (updN T a (Y + 1)) Y a = h at *
        by_cases q2 : h = 8
        · simp only [if_pos q2] at c4
          have r2 := c4.1.2.1.2.1 a (by omega)
          refine ⟨(.inr m1, a5), (m1, a4), ?_, ?_, hR0.fr f5.k kM4, okR t4⟩
          · rcases (show w = 0 ∨ w = 1 by omega) with rfl | rfl
            · simp (disch := (first | omega | assumption | trivial)) only [li_0, li_1, li_2, li_3, li_4, li_5, li_6, li_7, li_8, li_9, li_10, li_11, li_12, li_13, li_14, li_15, li_16, li_17, li_18, li_19, li_20, li_21, li_22, li_23, li_24, li_25, li_26, li_27, li_28, li_29, li_30, li_31, li_32, li_33, li_34, li_35, li_36, li_37, li_38, li_39, li_40, li_41, li_42, li_43, li_44, li_45, li_46, li_47, li_48, li_49, li_50, li_51, li_52, li_53, li_54, li_55, li_56, li_57, li_58, li_59, li_60, li_63, li_64, li_72, li_76, li_77, li_91, li_93, li_96, li_97, li_99, li_108, li_109, li_120, li_122, li_150, li_200, li_255, li_400, li_426, li_600, li_900, li_999, li_1000, li_1002, li_1003, li_2000, li_2042, li_2043, li_2045, li_10000, li_32767, li_100000, li_1000000, li_m1, li_m1b, ob_s, lt1_e, se_l, se_r, if_true, if_false, true_and, and_true, false_and, and_false, st_at, i3_add, i3_mul, i3_sub, i3_lt, i3_le, i3_eq, i3_nat, m1_eqi, i3_eqm, m1_lti, m1_lei, i3_ltm, i3_lem, i3_decm, i3_dec0, nm_eqm, yr_eqm, mxor0, Nat.zero_add, if_pos, if_neg, eq_self, ne_eq, not_true_eq_false, not_false_eq_true, fX_after, fX_after_b15, fX_after_b20, fX_after_b46, e1, needY, hl, b5, nm_no]
            · simp (disch := (first | omega | assumption | trivial)) only [li_0, li_1, li_2, li_3, li_4, li_5, li_6, li_7, li_8, li_9, li_10, li_11, li_12, li_13, li_14, li_15, li_16, li_17, li_18, li_19, li_20, li_21, li_22, li_23, li_24, li_25, li_26, li_27, li_28, li_29, li_30, li_31, li_32, li_33, li_34, li_35, li_36, li_37, li_38, li_39, li_40, li_41, li_42, li_43, li_44, li_45, li_46, li_47, li_48, li_49, li_50, li_51, li_52, li_53, li_54, li_55, li_56, li_57, li_58, li_59, li_60, li_63, li_64, li_72, li_76, li_77, li_91, li_93, li_96, li_97, li_99, li_108, li_109, li_120, li_122, li_150, li_200, li_255, li_400, li_426, li_600, li_900, li_999, li_1000, li_1002, li_1003, li_2000, li_2042, li_2043, li_2045, li_10000, li_32767, li_100000, li_1000000, li_m1, li_m1b, ob_s, lt1_e, se_l, se_r, if_true, if_false, true_and, and_true, false_and, and_false, st_at, i3_add, i3_mul, i3_sub, i3_lt, i3_le, i3_eq, i3_nat, m1_eqi, i3_eqm, m1_lti, m1_lei, i3_ltm, i3_lem, i3_decm, i3_dec0, nm_eqm, yr_eqm, mxor0, Nat.zero_add, if_pos, if_neg, eq_self, ne_eq, not_true_eq_false, not_false_eq_true, fX_after, fX_after_b15, fX_after_b20, fX_after_b46, e1, needY, hl, b5, nm_no]
          · simp (disch := (first | omega | assumption | trivial)) only [li_0, li_1, li_2, li_3, li_4, li_5, li_6, li_7, li_8, li_9, li_10, li_11, li_12, li_13, li_14, li_15, li_16, li_17, li_18, li_19, li_20, li_21, li_22, li_23, li_24, li_25, li_26, li_27, li_28, li_29, li_30, li_31, li_32, li_33, li_34, li_35, li_36, li_37, li_38, li_39, li_40, li_41, li_42, li_43, li_44, li_45, li_46, li_47, li_48, li_49, li_50, li_51, li_52, li_53, li_54, li_55, li_56, li_57, li_58, li_59, li_60, li_63, li_64, li_72, li_76, li_77, li_91, li_93, li_96, li_97, li_99, li_108, li_109, li_120, li_122, li_150, li_200, li_255, li_400, li_426, li_600, li_900, li_999, li_1000, li_1002, li_1003, li_2000, li_2042, li_2043, li_2045, li_10000, li_32767, li_100000, li_1000000, li_m1, li_m1b, ob_s, lt1_e, se_l, se_r, if_true, if_false, true_and, and_true, false_and, and_false, st_at, i3_add, i3_mul, i3_sub, i3_lt, i3_le, i3_eq, i3_nat, m1_eqi, i3_eqm, m1_lti, m1_lei, i3_ltm, i3_lem, i3_decm, i3_dec0, nm_eqm, yr_eqm, mxor0, Nat.zero_add, if_pos, if_neg, eq_self, ne_eq, not_true_eq_false, not_false_eq_true, fM_after, hg0.symm, fM_after_b19, fM_after_b42, fM_after_b88, e2, e3, badY, t0, b3, b4, r2, nm_no]
        · simp only [if_neg q2] at c4
          have hh : h < n := by omega
          have hne : h ≠ a := by
            rcases his with z | z
            · omega
            · exact z.2.1
          have r2 := c4.1.2.1.2.1 a (by omega)
          rw [updN_eq, nm_lt (by omega)] at r2
          have r1 := c4.1.2.1.1 h (by omega)
          have z1 := hX5.stonesOf (a := h) (by omega)
          have z2 := c4.1.stones (a := h) (by omega)
          rw [st8_take (by omega) (by omega) ua] at z2
          have hk : tkD D a h h = cap (D h + D a) := by
            unfold tkD
            rw [if_neg hne, if_pos rfl]
          rw [hk] at r1
          have d1 := hX.2.2.1.2.1 h (by omega)
          have d2 := hX.2.2.1.2.1 a (by omega)
          have s1a := s1 a (by omega)
          have s1h := s1 h (by omega)
          rcases (show w = 0 ∨ w = 1 by omega) with rfl | rfl
          · refine ⟨(.inr (i3 (st8 U h + 1)), a5), (i3 (st8 U h + 1), a4), ?_, ?_, hR0.fr f5.k kM4, okR t4⟩
            · simp (disch := (first | omega | assumption | trivial)) only [li_0, li_1, li_2, li_3, li_4, li_5, li_6, li_7, li_8, li_9, li_10, li_11, li_12, li_13, li_14, li_15, li_16, li_17, li_18, li_19, li_20, li_21, li_22, li_23, li_24, li_25, li_26, li_27, li_28, li_29, li_30, li_31, li_32, li_33, li_34, li_35, li_36, li_37, li_38, li_39, li_40, li_41, li_42, li_43, li_44, li_45, li_46, li_47, li_48, li_49, li_50, li_51, li_52, li_53, li_54, li_55, li_56, li_57, li_58, li_59, li_60, li_63, li_64, li_72, li_76, li_77, li_91, li_93, li_96, li_97, li_99, li_108, li_109, li_120, li_122, li_150, li_200, li_255, li_400, li_426, li_600, li_900, li_999, li_1000, li_1002, li_1003, li_2000, li_2042, li_2043, li_2045, li_10000, li_32767, li_100000, li_1000000, li_m1, li_m1b, ob_s, lt1_e, se_l, se_r, if_true, if_false, true_and, and_true, false_and, and_false, st_at, i3_add, i3_mul, i3_sub, i3_lt, i3_le, i3_eq, i3_nat, m1_eqi, i3_eqm, m1_lti, m1_lei, i3_ltm, i3_lem, i3_decm, i3_dec0, nm_eqm, yr_eqm, mxor0, Nat.zero_add, if_pos, if_neg, eq_self, ne_eq, not_true_eq_false, not_false_eq_true, fX_after, fX_after_b15, fX_after_b20, fX_after_b46, e1, needY, hl, b5, nm_lt, z1]
            · simp (disch := (first | omega | assumption | trivial)) only [li_0, li_1, li_2, li_3, li_4, li_5, li_6, li_7, li_8, li_9, li_10, li_11, li_12, li_13, li_14, li_15, li_16, li_17, li_18, li_19, li_20, li_21, li_22, li_23, li_24, li_25, li_26, li_27, li_28, li_29, li_30, li_31, li_32, li_33, li_34, li_35, li_36, li_37, li_38, li_39, li_40, li_41, li_42, li_43, li_44, li_45, li_46, li_47, li_48, li_49, li_50, li_51, li_52, li_53, li_54, li_55, li_56, li_57, li_58, li_59, li_60, li_63, li_64, li_72, li_76, li_77, li_91, li_93, li_96, li_97, li_99, li_108, li_109, li_120, li_122, li_150, li_200, li_255, li_400, li_426, li_600, li_900, li_999, li_1000, li_1002, li_1003, li_2000, li_2042, li_2043, li_2045, li_10000, li_32767, li_100000, li_1000000, li_m1, li_m1b, ob_s, lt1_e, se_l, se_r, if_true, if_false, true_and, and_true, false_and, and_false, st_at, i3_add, i3_mul, i3_sub, i3_lt, i3_le, i3_eq, i3_nat, m1_eqi, i3_eqm, m1_lti, m1_lei, i3_ltm, i3_lem, i3_decm, i3_dec0, nm_eqm, yr_eqm, mxor0, Nat.zero_add, if_pos, if_neg, eq_self, ne_eq, not_true_eq_false, not_false_eq_true, fM_after, hg0.symm, fM_after_b19, fM_after_b42, fM_after_b88, e2, e3, badY, t0, b3, b4, r2, z2]
          · refine ⟨(.inr (i3 (cap (D h + D a))), a5), (i3 (cap (D h + D a)), a4), ?_, ?_, hR0.fr f5.k kM4, okR t4⟩
            · unfold cap
              by_cases q5 : D h + D a < 999
              · simp (disch := (first | omega | assumption | trivial)) only [li_0, li_1, li_2, li_3, li_4, li_5, li_6, li_7, li_8, li_9, li_10, li_11, li_12, li_13, li_14, li_15, li_16, li_17, li_18, li_19, li_20, li_21, li_22, li_23, li_24, li_25, li_26, li_27, li_28, li_29, li_30, li_31, li_32, li_33, li_34, li_35, li_36, li_37, li_38, li_39, li_40, li_41, li_42, li_43, li_44, li_45, li_46, li_47, li_48, li_49, li_50, li_51, li_52, li_53, li_54, li_55, li_56, li_57, li_58, li_59, li_60, li_63, li_64, li_72, li_76, li_77, li_91, li_93, li_96, li_97, li_99, li_108, li_109, li_120, li_122, li_150, li_200, li_255, li_400, li_426, li_600, li_900, li_999, li_1000, li_1002, li_1003, li_2000, li_2042, li_2043, li_2045, li_10000, li_32767, li_100000, li_1000000, li_m1, li_m1b, ob_s, lt1_e, se_l, se_r, if_true, if_false, true_and, and_true, false_and, and_false, st_at, i3_add, i3_mul, i3_sub, i3_lt, i3_le, i3_eq, i3_nat, m1_eqi, i3_eqm, m1_lti, m1_lei, i3_ltm, i3_lem, i3_decm, i3_dec0, nm_eqm, yr_eqm, mxor0, Nat.zero_add, if_pos, if_neg, eq_self, ne_eq, not_true_eq_false, not_false_eq_true, fX_after, fX_after_b15, fX_after_b20, fX_after_b46, e1, needY, hl, b5, nm_lt, at8, s1a, s1h]
              · simp (disch := (first | omega | assumption | trivial)) only [li_0, li_1, li_2, li_3, li_4, li_5, li_6, li_7, li_8, li_9, li_10, li_11, li_12, li_13, li_14, li_15, li_16, li_17, li_18, li_19, li_20, li_21, li_22, li_23, li_24, li_25, li_26, li_27, li_28, li_29, li_30, li_31, li_32, li_33, li_34, li_35, li_36, li_37, li_38, li_39, li_40, li_41, li_42, li_43, li_44, li_45, li_46, li_47, li_48, li_49, li_50, li_51, li_52, li_53, li_54, li_55, li_56, li_57, li_58, li_59, li_60, li_63, li_64, li_72, li_76, li_77, li_91, li_93, li_96, li_97, li_99, li_108, li_109, li_120, li_122, li_150, li_200, li_255, li_400, li_426, li_600, li_900, li_999, li_1000, li_1002, li_1003, li_2000, li_2042, li_2043, li_2045, li_10000, li_32767, li_100000, li_1000000, li_m1, li_m1b, ob_s, lt1_e, se_l, se_r, if_true, if_false, true_and, and_true, false_and, and_false, st_at, i3_add, i3_mul, i3_sub, i3_lt, i3_le, i3_eq, i3_nat, m1_eqi, i3_eqm, m1_lti, m1_lei, i3_ltm, i3_lem, i3_decm, i3_dec0, nm_eqm, yr_eqm, mxor0, Nat.zero_add, if_pos, if_neg, eq_self, ne_eq, not_true_eq_false, not_false_eq_true, fX_after, fX_after_b15, fX_after_b20, fX_after_b46, e1, needY, hl, b5, nm_lt, at8, s1a, s1h]
            · simp (disch := (first | omega | assumption | trivial)) only [li_0, li_1, li_2, li_3, li_4, li_5, li_6, li_7, li_8, li_9, li_10, li_11, li_12, li_13, li_14, li_15, li_16, li_17, li_18, li_19, li_20, li_21, li_22, li_23, li_24, li_25, li_26, li_27, li_28, li_29, li_30, li_31, li_32, li_33, li_34, li_35, li_36, li_37, li_38, li_39, li_40, li_41, li_42, li_43, li_44, li_45, li_46, li_47, li_48, li_49, li_50, li_51, li_52, li_53, li_54, li_55, li_56, li_57, li_58, li_59, li_60, li_63, li_64, li_72, li_76, li_77, li_91, li_93, li_96, li_97, li_99, li_108, li_109, li_120, li_122, li_150, li_200, li_255, li_400, li_426, li_600, li_900, li_999, li_1000, li_1002, li_1003, li_2000, li_2042, li_2043, li_2045, li_10000, li_32767, li_100000, li_1000000, li_m1, li_m1b, ob_s, lt1_e, se_l, se_r, if_true, if_false, true_and, and_true, false_and, and_false, st_at, i3_add, i3_mul, i3_sub, i3_lt, i3_le, i3_eq, i3_nat, m1_eqi, i3_eqm, m1_lti, m1_lei, i3_ltm, i3_lem, i3_decm, i3_dec0, nm_eqm, yr_eqm, mxor0, Nat.zero_add, if_pos, if_neg, eq_self, ne_eq, not_true_eq_false, not_false_eq_true, fM_after, hg0.symm, fM_after_b19, fM_after_b42, fM_after_b88, e2, e3, badY, t0, b3, b4, r2, r1]
      · rw [if_neg q] at hl b4
        refine ⟨(.inr m1, gX), (m1, a4), ?_, ?_, hR0.fr KX.rf kM4, okR t4⟩
        · rcases (show w = 0 ∨ w = 1 by omega) with rfl | rfl
          · simp (disch := (first | omega | assumption | trivial)) only [li_0, li_1, li_2, li_3, li_4, li_5, li_6, li_7, li_8, li_9, li_10, li_11, li_12, li_13, li_14, li_15, li_16, li_17, li_18, li_19, li_20, li_21, li_22, li_23, li_24, li_25, li_26, li_27, li_28, li_29, li_30, li_31, li_32, li_33, li_34, li_35, li_36, li_37, li_38, li_39, li_40, li_41, li_42, li_43, li_44, li_45, li_46, li_47, li_48, li_49, li_50, li_51, li_52, li_53, li_54, li_55, li_56, li_57, li_58, li_59, li_60, li_63, li_64, li_72, li_76, li_77, li_91, li_93, li_96, li_97, li_99, li_108, li_109, li_120, li_122, li_150, li_200, li_255, li_400, li_426, li_600, li_900, li_999, li_1000, li_1002, li_1003, li_2000, li_2042, li_2043, li_2045, li_10000, li_32767, li_100000, li_1000000, li_m1, li_m1b, ob_s, lt1_e, se_l, se_r, if_true, if_false, true_and, and_true, false_and, and_false, st_at, i3_add, i3_mul, i3_sub, i3_lt, i3_le, i3_eq, i3_nat, m1_eqi, i3_eqm, m1_lti, m1_lei, i3_ltm, i3_lem, i3_decm, i3_dec0, nm_eqm, yr_eqm, mxor0, Nat.zero_add, if_pos, if_neg, eq_self, ne_eq, not_true_eq_false, not_false_eq_true, fX_after, fX_after_b15, fX_after_b20, fX_after_b46, e1, needY, hl]
          · simp (disch := (first | omega | assumption | trivial)) only [li_0, li_1, li_2, li_3, li_4, li_5, li_6, li_7, li_8, li_9, li_10, li_11, li_12, li_13, li_14, li_15, li_16, li_17, li_18, li_19, li_20, li_21, li_22, li_23, li_24, li_25, li_26, li_27, li_28, li_29, li_30, li_31, li_32, li_33, li_34, li_35, li_36, li_37, li_38, li_39, li_40, li_41, li_42, li_43, li_44, li_45, li_46, li_47, li_48, li_49, li_50, li_51, li_52, li_53, li_54, li_55, li_56, li_57, li_58, li_59, li_60, li_63, li_64, li_72, li_76, li_77, li_91, li_93, li_96, li_97, li_99, li_108, li_109, li_120, li_122, li_150, li_200, li_255, li_400, li_426, li_600, li_900, li_999, li_1000, li_1002, li_1003, li_2000, li_2042, li_2043, li_2045, li_10000, li_32767, li_100000, li_1000000, li_m1, li_m1b, ob_s, lt1_e, se_l, se_r, if_true, if_false, true_and, and_true, false_and, and_false, st_at, i3_add, i3_mul, i3_sub, i3_lt, i3_le, i3_eq, i3_nat, m1_eqi, i3_eqm, m1_lti, m1_lei, i3_ltm, i3_lem, i3_decm, i3_dec0, nm_eqm, yr_eqm, mxor0, Nat.zero_add, if_pos, if_neg, eq_self, ne_eq, not_true_eq_false, not_false_eq_true, fX_after, fX_after_b15, fX_after_b20, fX_after_b46, e1, needY, hl]
        · simp (disch := (first | omega | assumption | trivial)) only [li_0, li_1, li_2, li_3, li_4, li_5, li_6, li_7, li_8, li_9, li_10, li_11, li_12, li_13, li_14, li_15, li_16, li_17, li_18, li_19, li_20, li_21, li_22, li_23, li_24, li_25, li_26, li_27, li_28, li_29, li_30, li_31, li_32, li_33, li_34, li_35, li_36, li_37, li_38, li_39, li_40, li_41, li_42, li_43, li_44, li_45, li_46, li_47, li_48, li_49, li_50, li_51, li_52, li_53, li_54, li_55, li_56, li_57, li_58, li_59, li_60, li_63, li_64, li_72, li_76, li_77, li_91, li_93, li_96, li_97, li_99, li_108, li_109, li_120, li_122, li_150, li_200, li_255, li_400, li_426, li_600, li_900, li_999, li_1000, li_1002, li_1003, li_2000, li_2042, li_2043, li_2045, li_10000, li_32767, li_100000, li_1000000, li_m1, li_m1b, ob_s, lt1_e, se_l, se_r, if_true, if_false, true_and, and_true, false_and, and_false, st_at, i3_add, i3_mul, i3_sub, i3_lt, i3_le, i3_eq, i3_nat, m1_eqi, i3_eqm, m1_lti, m1_lei, i3_ltm, i3_lem, i3_decm, i3_dec0, nm_eqm, yr_eqm, mxor0, Nat.zero_add, if_pos, if_neg, eq_self, ne_eq, not_true_eq_false, not_false_eq_true, fM_after, hg0.symm, fM_after_b19, fM_after_b42, fM_after_b88, e2, e3, badY, t0, b3, b4]
    · obtain ⟨e3, n3, _⟩ := q2
      have z0 := n3 0 (by omega)
      have z1 := n3 1 (by omega)
      refine ⟨(.inl 1, st gX 0 18 (gX 0 18 + i3 1)), (i3 0, st (st g0 0 0 (i3 2)) 2 1 (g0 2 1 + i3 1)), ?_, ?_, ref12 hR0 _⟩
      · have eN : ∀ z1 z2 : Int32, fX_after_b20 z1 z2 (i3 0) gX = some (.inl 1, st gX 0 18 (gX 0 18 + i3 1)) := fun z1 z2 => by
          unfold fX_after_b20
          rw [needN]
          rfl
        simp (disch := (first | omega | assumption | trivial)) only [li_0, li_1, li_2, li_3, li_4, li_5, li_6, li_7, li_8, li_9, li_10, li_11, li_12, li_13, li_14, li_15, li_16, li_17, li_18, li_19, li_20, li_21, li_22, li_23, li_24, li_25, li_26, li_27, li_28, li_29, li_30, li_31, li_32, li_33, li_34, li_35, li_36, li_37, li_38, li_39, li_40, li_41, li_42, li_43, li_44, li_45, li_46, li_47, li_48, li_49, li_50, li_51, li_52, li_53, li_54, li_55, li_56, li_57, li_58, li_59, li_60, li_63, li_64, li_72, li_76, li_77, li_91, li_93, li_96, li_97, li_99, li_108, li_109, li_120, li_122, li_150, li_200, li_255, li_400, li_426, li_600, li_900, li_999, li_1000, li_1002, li_1003, li_2000, li_2042, li_2043, li_2045, li_10000, li_32767, li_100000, li_1000000, li_m1, li_m1b, ob_s, lt1_e, se_l, se_r, if_true, if_false, true_and, and_true, false_and, and_false, st_at, i3_add, i3_mul, i3_sub, i3_lt, i3_le, i3_eq, i3_nat, m1_eqi, i3_eqm, m1_lti, m1_lei, i3_ltm, i3_lem, i3_decm, i3_dec0, nm_eqm, yr_eqm, mxor0, Nat.zero_add, if_pos, if_neg, eq_self, ne_eq, not_true_eq_false, not_false_eq_true, fX_after, e1, eN, z0, z1]
      · simp (disch := (first | omega | assumption | trivial)) only [li_0, li_1, li_2, li_3, li_4, li_5, li_6, li_7, li_8, li_9, li_10, li_11, li_12, li_13, li_14, li_15, li_16, li_17, li_18, li_19, li_20, li_21, li_22, li_23, li_24, li_25, li_26, li_27, li_28, li_29, li_30, li_31, li_32, li_33, li_34, li_35, li_36, li_37, li_38, li_39, li_40, li_41, li_42, li_43, li_44, li_45, li_46, li_47, li_48, li_49, li_50, li_51, li_52, li_53, li_54, li_55, li_56, li_57, li_58, li_59, li_60, li_63, li_64, li_72, li_76, li_77, li_91, li_93, li_96, li_97, li_99, li_108, li_109, li_120, li_122, li_150, li_200, li_255, li_400, li_426, li_600, li_900, li_999, li_1000, li_1002, li_1003, li_2000, li_2042, li_2043, li_2045, li_10000, li_32767, li_100000, li_1000000, li_m1, li_m1b, ob_s, lt1_e, se_l, se_r, if_true, if_false, true_and, and_true, false_and, and_false, st_at, i3_add, i3_mul, i3_sub, i3_lt, i3_le, i3_eq, i3_nat, m1_eqi, i3_eqm, m1_lti, m1_lei, i3_ltm, i3_lem, i3_decm, i3_dec0, nm_eqm, yr_eqm, mxor0, Nat.zero_add, if_pos, if_neg, eq_self, ne_eq, not_true_eq_false, not_false_eq_true, fM_after, hg0.symm, fM_after_b19, fM_after_b42, e2, e3, badY, badN, t0]
  · have e1 := q1.1 gX nX
    have e2 := q1.2 _ nM
    refine ⟨(.inl 0, st gX 0 17 (gX 0 17 + i3 1)), (i3 0, st (st g0 0 0 (i3 1)) 2 0 (g0 2 0 + i3 1)), ?_, ?_, ref02 hR0 _⟩
    · simp (disch := (first | omega | assumption | trivial)) only [li_0, li_1, li_2, li_3, li_4, li_5, li_6, li_7, li_8, li_9, li_10, li_11, li_12, li_13, li_14, li_15, li_16, li_17, li_18, li_19, li_20, li_21, li_22, li_23, li_24, li_25, li_26, li_27, li_28, li_29, li_30, li_31, li_32, li_33, li_34, li_35, li_36, li_37, li_38, li_39, li_40, li_41, li_42, li_43, li_44, li_45, li_46, li_47, li_48, li_49, li_50, li_51, li_52, li_53, li_54, li_55, li_56, li_57, li_58, li_59, li_60, li_63, li_64, li_72, li_76, li_77, li_91, li_93, li_96, li_97, li_99, li_108, li_109, li_120, li_122, li_150, li_200, li_255, li_400, li_426, li_600, li_900, li_999, li_1000, li_1002, li_1003, li_2000, li_2042, li_2043, li_2045, li_10000, li_32767, li_100000, li_1000000, li_m1, li_m1b, ob_s, lt1_e, se_l, se_r, if_true, if_false, true_and, and_true, false_and, and_false, st_at, i3_add, i3_mul, i3_sub, i3_lt, i3_le, i3_eq, i3_nat, m1_eqi, i3_eqm, m1_lti, m1_lei, i3_ltm, i3_lem, i3_decm, i3_dec0, nm_eqm, yr_eqm, mxor0, Nat.zero_add, if_pos, if_neg, eq_self, ne_eq, not_true_eq_false, not_false_eq_true, fX_after, e1]
    · simp (disch := (first | omega | assumption | trivial)) only [li_0, li_1, li_2, li_3, li_4, li_5, li_6, li_7, li_8, li_9, li_10, li_11, li_12, li_13, li_14, li_15, li_16, li_17, li_18, li_19, li_20, li_21, li_22, li_23, li_24, li_25, li_26, li_27, li_28, li_29, li_30, li_31, li_32, li_33, li_34, li_35, li_36, li_37, li_38, li_39, li_40, li_41, li_42, li_43, li_44, li_45, li_46, li_47, li_48, li_49, li_50, li_51, li_52, li_53, li_54, li_55, li_56, li_57, li_58, li_59, li_60, li_63, li_64, li_72, li_76, li_77, li_91, li_93, li_96, li_97, li_99, li_108, li_109, li_120, li_122, li_150, li_200, li_255, li_400, li_426, li_600, li_900, li_999, li_1000, li_1002, li_1003, li_2000, li_2042, li_2043, li_2045, li_10000, li_32767, li_100000, li_1000000, li_m1, li_m1b, ob_s, lt1_e, se_l, se_r, if_true, if_false, true_and, and_true, false_and, and_false, st_at, i3_add, i3_mul, i3_sub, i3_lt, i3_le, i3_eq, i3_nat, m1_eqi, i3_eqm, m1_lti, m1_lei, i3_ltm, i3_lem, i3_decm, i3_dec0, nm_eqm, yr_eqm, mxor0, Nat.zero_add, if_pos, if_neg, eq_self, ne_eq, not_true_eq_false, not_false_eq_true, fM_after, fM_after_b19, hg0.symm, e2, badN]
