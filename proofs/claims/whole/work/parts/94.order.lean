/-! PURE: orders of deaths, asked -/
section FT
variable {W : (Nat → Nat) → Nat} {n N : Nat} {K F : Nat → Nat} {g : St} {s : AS} {S m l t : Nat} {A V : Nat → Nat}
theorem isSoM (h : EMs W n N K F s 16 g) (hm : m ≤ 5) (hfn : ∀ k, k < m → oF (firstL S) k < n) (k : Nat) (ho : ORD 23 m (oF (seqL m (firstL S) k)) g) (hd : g 0 45 = i3 m) (hl : g 0 31 = i3 l) (h8 : l ≤ 8) (h1 : ∀ k, k < l → g (362 + k) 0 = i3 (A k) ∧ g (362 + k) 1 = i3 (V k) ∧ A k < n ∧ V k ≤ 8) : ∃ g', fM_isSo g = some (i3 (if rO W n N K F s S m A V l k = true then 1 else 0), g') ∧ EMs W n N K F (zO W n N K F s S m k) 17 g' ∧ FM2 17 g g' := by
  have hn2 : ∀ j, j < m → oF (seqL m (firstL S) k) j < n := seq_all (Q := fun p => p < n) hm hfn k
  obtain ⟨g2, e2, E2, f2⟩ := deathsM h hm ho hn2 hd
  have E2' : EMd W n N K F (zO W n N K F s S m k).1 (zO W n N K F s S m k).2.1 (zO W n N K F s S m k).2.2.1 (zO W n N K F s S m k).2.2.2 17 g2 := E2
  have e3 := rightM (A := A) (V := V) E2'.1 (by rw [f2 0 (by omega) (by omega) (by omega)]; exact hl) h8 (fun j hj => by rw [f2 (362 + j) (by omega) (by omega) (by omega)]; exact h1 j hj)
  refine ⟨g2, ?_, E2, f2⟩
  show (fM_dieSo g).bind _ = _
  rw [e2, ob_s]
  show (lp (fM_isSo_L6 g2) fuel (i3 0)).bind _ = _
  rw [e3, ob_s]
  by_cases q : rgN A V (zO W n N K F s S m k).2.1 l = true
  · have q2 : rO W n N K F s S m A V l k = true := q
    rw [if_pos q, if_pos q2]
    rfl
  · have q2 : ¬ rO W n N K F s S m A V l k = true := q
    rw [if_neg q, if_neg q2]
    rfl
theorem fitsM (h : EMs W n N K F s 16 g) (hm : m ≤ 5) (hfn : ∀ k, k < m → oF (firstL S) k < n) (hd : g 0 45 = i3 m) (ho : ORD 23 m (oF (firstL S)) g) (hl : g 0 31 = i3 l) (h8 : l ≤ 8) (h1 : ∀ k, k < l → g (362 + k) 0 = i3 (A k) ∧ g (362 + k) 1 = i3 (V k) ∧ A k < n ∧ V k ≤ 8) (ht0 : fiI (oF (seqL m (firstL S) t)) (m - 1) = 0) (ht1 : ∀ j, j < t → fiI (oF (seqL m (firstL S) j)) (m - 1) ≠ 0) (ht : t < 120) (x2 : Int32) : ∃ g', lp (fM_fits_L48 x2) fuel (i3 0, m1, g) = some (i3 (ctS (rO W n N K F s S m A V l) (t + 1)), yr (ffS (rO W n N K F s S m A V l) (eO S m) (t + 1)), g') ∧ KM g g' ∧ g' 0 = g 0 := by
  obtain ⟨r, hr⟩ : ∃ r, r = rO W n N K F s S m A V l := ⟨_, rfl⟩
  rw [← hr]
  obtain ⟨z, e, g', hz, hk, hr0⟩ : ∃ z, lp (fM_fits_L48 x2) fuel (i3 0, m1, g) = some z ∧ ∃ g', z = (i3 (ctS r (t + 1)), yr (ffS r (eO S m) (t + 1)), g') ∧ KM g g' ∧ g' 0 = g 0 := by
    refine lp_for (fun k z => k ≤ t ∧ ∃ g1, z = (i3 (ctS r k), yr (ffS r (eO S m) k), g1) ∧ KM g g1 ∧ g1 0 = g 0 ∧ ORD 23 m (oF (seqL m (firstL S) k)) g1) (fun z : Int32 × Int32 × St => ∃ g', z = (i3 (ctS r (t + 1)), yr (ffS r (eO S m) (t + 1)), g') ∧ KM g g' ∧ g' 0 = g 0) (t + 1) (by omega) ?_ ?_ ⟨Nat.zero_le _, g, rfl, KM.rf, rfl, ho⟩
    · rintro k z hk ⟨_, g1, rfl, k1, r1, o1⟩
      have d1 : g1 0 45 = i3 m := by rw [r1]; exact hd
      obtain ⟨g2, e2, E2, f2⟩ := isSoM (A := A) (V := V) (EMd.frK h k1) hm hfn k o1 d1 (by rw [r1]; exact hl) h8 (fun j hj => by rw [k1 (362 + j) 0 (by omega), k1 (362 + j) 1 (by omega)]; exact h1 j hj)
      rw [← hr] at e2
      have r2 : g2 0 = g 0 := by rw [f2 0 (by omega) (by omega) (by omega)]; exact r1
      have d2 : g2 0 45 = i3 m := by rw [r2]; exact hd
      have o2 : ORD 23 m (oF (seqL m (firstL S) k)) g2 := fun j hj => by rw [f2 23 (by omega) (by omega) (by omega)]; exact o1 j hj
      have k2 : KM g g2 := k1.tr f2.k
      have e4 : fM_digits g2 = some (i3 (eO S m k)) := M_digits hm o2 d2
      have s3 : ctS r (k + 1) = ctS r k + if r k = true then 1 else 0 := rfl
      have s4 : ffS r (eO S m) (k + 1) = if r k = true ∧ ctS r k = 0 then eO S m k + 1 else ffS r (eO S m) k := rfl
      have hct := ctS_le r k
      have eA : fM_fits_L48 x2 (i3 (ctS r k), yr (ffS r (eO S m) k), g1) = fM_fits_b76 x2 (i3 (ctS r (k + 1))) (yr (ffS r (eO S m) (k + 1))) g2 := by
        show (fM_isSo g1).bind _ = _
        rw [e2, ob_s]
        by_cases q : r k = true
        · rw [if_pos q] at s3 ⊢
          show (if i3 1 = (0 : Int32) then _ else _) = _
          rw [if_neg (show ¬ i3 1 = (0 : Int32) by decide)]
          by_cases q2 : ctS r k = 0
          · rw [if_pos ⟨q, q2⟩] at s4
            rw [q2, if_pos (show i3 0 = (0 : Int32) from rfl), e4, ob_s, s4, yr_s1, s3, q2]
            rfl
          · rw [if_neg (fun z => q2 z.2)] at s4
            rw [if_neg (show ¬ i3 (ctS r k) = (0 : Int32) from fun z => by
              have z2 : i3 (ctS r k) = i3 0 := z
              rw [i3_eq (by omega) (by omega)] at z2
              exact q2 z2), s4, s3]
            unfold fM_fits_b71
            rw [show i3 (ctS r k) + (1 : Int32) = i3 (ctS r k + 1) from i3_add _ 1]
        · rw [if_neg q] at s3 ⊢
          rw [if_neg (fun z => q z.1)] at s4
          rw [s3, s4]
          rfl
      rw [eA]
      unfold fM_fits_b76
      rcases M_next hm o2 d2 with ⟨z1, e6⟩ | ⟨z1, g6, e6, o6, f6⟩
      · have q : k = t := by
          by_cases q : k < t
          · exact absurd z1 (ht1 k q)
          · omega
        subst q
        refine Or.inr ⟨(i3 (ctS r (k + 1)), yr (ffS r (eO S m) (k + 1)), g2), ?_, g2, rfl, k2, r2⟩
        rw [e6, ob_s]
        rfl
      · have q : k < t := by
          by_cases q : k = t
          · subst q; exact absurd ht0 z1
          · omega
        refine Or.inl ⟨(i3 (ctS r (k + 1)), yr (ffS r (eO S m) (k + 1)), g6), ?_, by omega, g6, rfl, k2.tr (fun p i w => by rw [f6 p (by omega)]), by rw [f6 0 (by omega)]; exact r2, o6.cg (fun j hj => (oF_nx (by omega)).symm)⟩
        rw [e6, ob_s]
        rfl
    · rintro z ⟨h1, _⟩
      omega
  rw [hz] at e
  exact ⟨g', e, hk, hr0⟩
end FT
section OC
variable {W : (Nat → Nat) → Nat} {n N : Nat} {K F D U T : Nat → Nat} {Y P S m : Nat} {gX g0 : St}
theorem isOM (h : EMd W n N K F D U T Y 16 g0) (hP : P < 1 <<< n) (hS : S = P &&& msk (fun p => decide (T p = 0)) n) (hm : rkk S 8 = m) : fM_isOrder (i3 P) g0 = some (i3 (if 5 < m then 0 else 1)) := by
  have h8 := h.1.2.2.1.1
  have nM := h.1.2.2.2.1.1
  have ev := evY nM h8
  have hand := i3_and P (msk (fun p => decide (T p = 0)) n)
  rw [← hS] at hand
  have hL : g0 16 24 = i3 (msk (fun p => decide (T p = 0)) n) := h.1.2.1.2.2.1
  have hS8 : S < 256 := by rw [hS]; exact and_lt (told_lt h8 hP)
  have e2 := inY (k := P) (lo := 0) (hi := 1 <<< n - 1) (by omega) (by omega) (by have := pow_le8 h8; omega)
  have e3 : fM_ones (i3 S) = some (i3 m) := by rw [M_ones S hS8, ← hm]; rfl
  have hm8 : m ≤ 8 := by rw [← hm]; exact rkk_le S 8
  by_cases q : 5 < m
  · rw [if_pos q]
    simp (disch := (first | omega | assumption | trivial)) only [li_0, li_1, li_2, li_3, li_4, li_5, li_6, li_7, li_8, li_9, li_10, li_11, li_12, li_13, li_14, li_15, li_16, li_17, li_18, li_19, li_20, li_21, li_22, li_23, li_24, li_25, li_26, li_27, li_28, li_29, li_30, li_31, li_32, li_33, li_34, li_35, li_36, li_37, li_38, li_39, li_40, li_41, li_42, li_43, li_44, li_45, li_46, li_47, li_48, li_49, li_50, li_51, li_52, li_53, li_54, li_55, li_56, li_57, li_58, li_59, li_60, li_63, li_64, li_72, li_76, li_77, li_91, li_93, li_96, li_97, li_99, li_108, li_109, li_120, li_122, li_150, li_200, li_255, li_400, li_426, li_600, li_900, li_999, li_1000, li_1002, li_1003, li_2000, li_2042, li_2043, li_2045, li_10000, li_32767, li_100000, li_1000000, li_m1, li_m1b, ob_s, lt1_e, se_l, se_r, if_true, if_false, true_and, and_true, false_and, and_false, st_at, i3_add, i3_mul, i3_sub, i3_lt, i3_le, i3_eq, i3_nat, m1_eqi, i3_eqm, m1_lti, m1_lei, i3_ltm, i3_lem, i3_decm, i3_dec0, nm_eqm, yr_eqm, mxor0, Nat.zero_add, if_pos, if_neg, eq_self, ne_eq, not_true_eq_false, not_false_eq_true, fM_isOrder, ev, e2, hL, hand, e3]
  · rw [if_neg q]
    simp (disch := (first | omega | assumption | trivial)) only [li_0, li_1, li_2, li_3, li_4, li_5, li_6, li_7, li_8, li_9, li_10, li_11, li_12, li_13, li_14, li_15, li_16, li_17, li_18, li_19, li_20, li_21, li_22, li_23, li_24, li_25, li_26, li_27, li_28, li_29, li_30, li_31, li_32, li_33, li_34, li_35, li_36, li_37, li_38, li_39, li_40, li_41, li_42, li_43, li_44, li_45, li_46, li_47, li_48, li_49, li_50, li_51, li_52, li_53, li_54, li_55, li_56, li_57, li_58, li_59, li_60, li_63, li_64, li_72, li_76, li_77, li_91, li_93, li_96, li_97, li_99, li_108, li_109, li_120, li_122, li_150, li_200, li_255, li_400, li_426, li_600, li_900, li_999, li_1000, li_1002, li_1003, li_2000, li_2042, li_2043, li_2045, li_10000, li_32767, li_100000, li_1000000, li_m1, li_m1b, ob_s, lt1_e, se_l, se_r, if_true, if_false, true_and, and_true, false_and, and_false, st_at, i3_add, i3_mul, i3_sub, i3_lt, i3_le, i3_eq, i3_nat, m1_eqi, i3_eqm, m1_lti, m1_lei, i3_ltm, i3_lem, i3_decm, i3_dec0, nm_eqm, yr_eqm, mxor0, Nat.zero_add, if_pos, if_neg, eq_self, ne_eq, not_true_eq_false, not_false_eq_true, fM_isOrder, ev, e2, hL, hand, e3]
theorem ordCls (hX : EC W n N K F D U T Y 10 gX) (hM : EMd W n N K F D U T Y 16 g0) (x1 x2 : Int32) : (∃ P S m w, P < 256 ∧ S = P &&& msk (fun p => decide (T p = 0)) n ∧ rkk S 8 = m ∧ m ≤ 5 ∧ w ≤ 1 ∧ x1 = i3 P ∧ x2 = i3 w ∧ fM_isOrder (i3 P) g0 = some (i3 1) ∧ fM_in (i3 w) (i3 0) (i3 1) = i3 1 ∧ ∃ gA, fX_needOrders (i3 P) (i3 w) gX = some (.inr (), gA) ∧ KX gX gA ∧ gA 13 2 = i3 m ∧ ORD 45 m (oF (firstL S)) gA) ∨ ((∃ gA, KX gX gA ∧ fX_needOrders x1 x2 gX = some (.inl 1, st gA 0 18 (gA 0 18 + i3 1))) ∧ (fM_isOrder x1 g0 = some (i3 0) ∨ (fM_isOrder x1 g0 = some (i3 1) ∧ fM_in x2 (i3 0) (i3 1) = i3 0))) := by
  have h8 := hX.2.2.1.1
  have nX := hX.2.2.2.1.1
  have nM := hM.1.2.2.2.1.1
  have ev := evY nM h8
  have eN : ∀ z1 : Int32, fX_needOrders_b23 z1 (i3 0) gX = some (.inl 1, st gX 0 18 (gX 0 18 + i3 1)) := fun z1 => by
    unfold fX_needOrders_b23
    rw [needN]
    rfl
  rcases clsT h8 x1 with ⟨P, hP, rfl⟩ | q1
  · have e1 := areY nX h8 hP
    have hP8 := told_lt h8 hP
    have hO := isOM hM hP rfl rfl
    rcases rg 1 (by omega) x2 with ⟨w, hw, rfl⟩ | q1
    · have e3 := inY (k := w) (lo := 0) (hi := 1) (by omega) hw (by omega)
      have eW : fX_needOrders (i3 P) (i3 w) gX = fX_needOrders_b23 (i3 P) (i3 1) gX := by
        rcases (show w = 0 ∨ w = 1 by omega) with rfl | rfl
        · simp (disch := (first | omega | assumption | trivial)) only [li_0, li_1, li_2, li_3, li_4, li_5, li_6, li_7, li_8, li_9, li_10, li_11, li_12, li_13, li_14, li_15, li_16, li_17, li_18, li_19, li_20, li_21, li_22, li_23, li_24, li_25, li_26, li_27, li_28, li_29, li_30, li_31, li_32, li_33, li_34, li_35, li_36, li_37, li_38, li_39, li_40, li_41, li_42, li_43, li_44, li_45, li_46, li_47, li_48, li_49, li_50, li_51, li_52, li_53, li_54, li_55, li_56, li_57, li_58, li_59, li_60, li_63, li_64, li_72, li_76, li_77, li_91, li_93, li_96, li_97, li_99, li_108, li_109, li_120, li_122, li_150, li_200, li_255, li_400, li_426, li_600, li_900, li_999, li_1000, li_1002, li_1003, li_2000, li_2042, li_2043, li_2045, li_10000, li_32767, li_100000, li_1000000, li_m1, li_m1b, ob_s, lt1_e, se_l, se_r, if_true, if_false, true_and, and_true, false_and, and_false, st_at, i3_add, i3_mul, i3_sub, i3_lt, i3_le, i3_eq, i3_nat, m1_eqi, i3_eqm, m1_lti, m1_lei, i3_ltm, i3_lem, i3_decm, i3_dec0, nm_eqm, yr_eqm, mxor0, Nat.zero_add, if_pos, if_neg, eq_self, ne_eq, not_true_eq_false, not_false_eq_true, fX_needOrders, fX_needOrders_b18, e1]
        · simp (disch := (first | omega | assumption | trivial)) only [li_0, li_1, li_2, li_3, li_4, li_5, li_6, li_7, li_8, li_9, li_10, li_11, li_12, li_13, li_14, li_15, li_16, li_17, li_18, li_19, li_20, li_21, li_22, li_23, li_24, li_25, li_26, li_27, li_28, li_29, li_30, li_31, li_32, li_33, li_34, li_35, li_36, li_37, li_38, li_39, li_40, li_41, li_42, li_43, li_44, li_45, li_46, li_47, li_48, li_49, li_50, li_51, li_52, li_53, li_54, li_55, li_56, li_57, li_58, li_59, li_60, li_63, li_64, li_72, li_76, li_77, li_91, li_93, li_96, li_97, li_99, li_108, li_109, li_120, li_122, li_150, li_200, li_255, li_400, li_426, li_600, li_900, li_999, li_1000, li_1002, li_1003, li_2000, li_2042, li_2043, li_2045, li_10000, li_32767, li_100000, li_1000000, li_m1, li_m1b, ob_s, lt1_e, se_l, se_r, if_true, if_false, true_and, and_true, false_and, and_false, st_at, i3_add, i3_mul, i3_sub, i3_lt, i3_le, i3_eq, i3_nat, m1_eqi, i3_eqm, m1_lti, m1_lei, i3_ltm, i3_lem, i3_decm, i3_dec0, nm_eqm, yr_eqm, mxor0, Nat.zero_add, if_pos, if_neg, eq_self, ne_eq, not_true_eq_false, not_false_eq_true, fX_needOrders, fX_needOrders_b18, e1]
      by_cases q : 5 < rkk (P &&& msk (fun p => decide (T p = 0)) n) 8
      · rw [if_pos q] at hO
        refine Or.inr ⟨⟨st gX 13 2 (i3 0), fun a j q => by rw [st_at, if_neg (by omega)], ?_⟩, Or.inl hO⟩
        rw [eW]
        unfold fX_needOrders_b23
        rw [needY]
        show (fX_Orders_gather 10 (i3 P) gX).bind _ = _
        rw [gatherNo hX hP8 rfl q, ob_s]
        show lt1 (fX_need (i3 0) _) _ = _
        rw [needN]
        rfl
      · rw [if_neg q] at hO
        obtain ⟨gA, a1, a2, a3, a4⟩ := gatherX hX hP8 rfl rfl (Nat.le_of_not_lt q)
        refine Or.inl ⟨P, _, _, w, hP8, rfl, rfl, Nat.le_of_not_lt q, hw, rfl, rfl, hO, e3, gA, ?_, a2, a3, a4⟩
        rw [eW]
        unfold fX_needOrders_b23
        rw [needY]
        show (fX_Orders_gather 10 (i3 P) gX).bind _ = _
        rw [a1, ob_s]
        show lt1 (fX_need (i3 1) _) _ = _
        rw [needY]
        rfl
    · obtain ⟨e3, n3, _⟩ := q1
      have z0 := n3 0 (by omega)
      have z1 := n3 1 (by omega)
      refine Or.inr ⟨⟨gX, KX.rf, ?_⟩, ?_⟩
      · simp (disch := (first | omega | assumption | trivial)) only [li_0, li_1, li_2, li_3, li_4, li_5, li_6, li_7, li_8, li_9, li_10, li_11, li_12, li_13, li_14, li_15, li_16, li_17, li_18, li_19, li_20, li_21, li_22, li_23, li_24, li_25, li_26, li_27, li_28, li_29, li_30, li_31, li_32, li_33, li_34, li_35, li_36, li_37, li_38, li_39, li_40, li_41, li_42, li_43, li_44, li_45, li_46, li_47, li_48, li_49, li_50, li_51, li_52, li_53, li_54, li_55, li_56, li_57, li_58, li_59, li_60, li_63, li_64, li_72, li_76, li_77, li_91, li_93, li_96, li_97, li_99, li_108, li_109, li_120, li_122, li_150, li_200, li_255, li_400, li_426, li_600, li_900, li_999, li_1000, li_1002, li_1003, li_2000, li_2042, li_2043, li_2045, li_10000, li_32767, li_100000, li_1000000, li_m1, li_m1b, ob_s, lt1_e, se_l, se_r, if_true, if_false, true_and, and_true, false_and, and_false, st_at, i3_add, i3_mul, i3_sub, i3_lt, i3_le, i3_eq, i3_nat, m1_eqi, i3_eqm, m1_lti, m1_lei, i3_ltm, i3_lem, i3_decm, i3_dec0, nm_eqm, yr_eqm, mxor0, Nat.zero_add, if_pos, if_neg, eq_self, ne_eq, not_true_eq_false, not_false_eq_true, fX_needOrders, fX_needOrders_b22, e1, eN, z0, z1]
      · by_cases q : 5 < rkk (P &&& msk (fun p => decide (T p = 0)) n) 8
        · rw [if_pos q] at hO
          exact Or.inl hO
        · rw [if_neg q] at hO
          exact Or.inr ⟨hO, e3⟩
  · have e1 := q1.1 gX nX
    have e2 := q1.2
    refine Or.inr ⟨⟨gX, KX.rf, ?_⟩, Or.inl ?_⟩
    · simp (disch := (first | omega | assumption | trivial)) only [li_0, li_1, li_2, li_3, li_4, li_5, li_6, li_7, li_8, li_9, li_10, li_11, li_12, li_13, li_14, li_15, li_16, li_17, li_18, li_19, li_20, li_21, li_22, li_23, li_24, li_25, li_26, li_27, li_28, li_29, li_30, li_31, li_32, li_33, li_34, li_35, li_36, li_37, li_38, li_39, li_40, li_41, li_42, li_43, li_44, li_45, li_46, li_47, li_48, li_49, li_50, li_51, li_52, li_53, li_54, li_55, li_56, li_57, li_58, li_59, li_60, li_63, li_64, li_72, li_76, li_77, li_91, li_93, li_96, li_97, li_99, li_108, li_109, li_120, li_122, li_150, li_200, li_255, li_400, li_426, li_600, li_900, li_999, li_1000, li_1002, li_1003, li_2000, li_2042, li_2043, li_2045, li_10000, li_32767, li_100000, li_1000000, li_m1, li_m1b, ob_s, lt1_e, se_l, se_r, if_true, if_false, true_and, and_true, false_and, and_false, st_at, i3_add, i3_mul, i3_sub, i3_lt, i3_le, i3_eq, i3_nat, m1_eqi, i3_eqm, m1_lti, m1_lei, i3_ltm, i3_lem, i3_decm, i3_dec0, nm_eqm, yr_eqm, mxor0, Nat.zero_add, if_pos, if_neg, eq_self, ne_eq, not_true_eq_false, not_false_eq_true, fX_needOrders, fX_needOrders_b22, e1, eN]
    · simp (disch := (first | omega | assumption | trivial)) only [li_0, li_1, li_2, li_3, li_4, li_5, li_6, li_7, li_8, li_9, li_10, li_11, li_12, li_13, li_14, li_15, li_16, li_17, li_18, li_19, li_20, li_21, li_22, li_23, li_24, li_25, li_26, li_27, li_28, li_29, li_30, li_31, li_32, li_33, li_34, li_35, li_36, li_37, li_38, li_39, li_40, li_41, li_42, li_43, li_44, li_45, li_46, li_47, li_48, li_49, li_50, li_51, li_52, li_53, li_54, li_55, li_56, li_57, li_58, li_59, li_60, li_63, li_64, li_72, li_76, li_77, li_91, li_93, li_96, li_97, li_99, li_108, li_109, li_120, li_122, li_150, li_200, li_255, li_400, li_426, li_600, li_900, li_999, li_1000, li_1002, li_1003, li_2000, li_2042, li_2043, li_2045, li_10000, li_32767, li_100000, li_1000000, li_m1, li_m1b, ob_s, lt1_e, se_l, se_r, if_true, if_false, true_and, and_true, false_and, and_false, st_at, i3_add, i3_mul, i3_sub, i3_lt, i3_le, i3_eq, i3_nat, m1_eqi, i3_eqm, m1_lti, m1_lei, i3_ltm, i3_lem, i3_decm, i3_dec0, nm_eqm, yr_eqm, mxor0, Nat.zero_add, if_pos, if_neg, eq_self, ne_eq, not_true_eq_false, not_false_eq_true, fM_isOrder, ev, e2]
end OC
theorem S_order : Sim_order R := by
  intro gX xX gM xM x1 x2 hR
  obtain ⟨W, n, N, K, F, D, U, T, Y, d, hX, hM, hY, hW, h6, h7⟩ := id hR.2.2.2
  have h8 := hX.2.2.1.1
  have nX := hX.2.2.2.1.1
  obtain ⟨g0, hg0⟩ : ∃ g0, g0 = st gM 0 0 (i3 0) := ⟨_, rfl⟩
  have t0 : g0 0 0 = i3 0 := by rw [hg0, st_eq]
  have k0 : KM gM g0 := by rw [hg0]; exact KM.thrown
  have hR0 : R gX xX g0 xM := hR.fr KX.rf k0
  have hM0 : EMd W n N K F D U T Y 16 g0 := hM.frK k0
  have nM := hM0.1.2.2.2.1.1
  obtain ⟨l, A, V, B, l8, lX, lM, b1, b2⟩ := id h6
  rcases ordCls hX hM0 x1 x2 with ⟨P, S, m, w, hP, hS, hmS, hm, hw, rfl, rfl, eO', eI, gA, eA, kA, dA, oA⟩ | ⟨⟨gA, kA, eA⟩, hO⟩
  · have hXA : ECs W n N K F (D, U, T, Y) 10 gA := hX.frK kA
    have hok := firstL_ok hmS hm
    have hfS := hok.2
    have hfn : ∀ k, k < m → oF (firstL S) k < n := fun k hk => by
      have z := hfS k hk
      have z2 : (P &&& msk (fun p => decide (T p = 0)) n).testBit (oF (firstL S) k) = true := by rw [← hS]; exact z
      rw [Nat.testBit_and, msk_bit, Bool.and_eq_true, Bool.and_eq_true] at z2
      exact of_decide_eq_true z2.2.1
    obtain ⟨t, ht, ht0, ht1⟩ := seq_end hm ⟨_, _, _, _, _, rfl⟩ hok.1
    obtain ⟨g7, e7, I7⟩ := tryX (s := (D, U, T, Y)) (A := A) (V := V) (B := B) hXA hm dA oA hfn (by rw [kA 8 1 (by omega)]; exact lX) l8 (fun k hk => ⟨(b1 k hk).2.2.1, (b1 k hk).2.2.2.2⟩) (fun q p hp => by rw [kA 35 p (by omega)]; exact b2 q p hp) ht ht0 ht1
    have k7 : KX gX g7 := kA.tr I7.1
    have lM0 : g0 0 31 = i3 l := (k0 0 31 (by omega)).trans lM
    have b1M : ∀ k, k < l → g0 (362 + k) 0 = i3 (A k) ∧ g0 (362 + k) 1 = i3 (V k) ∧ A k < n ∧ V k ≤ 8 := fun k hk => ⟨(k0 _ _ (by omega)).trans (b1 k hk).1, (k0 _ _ (by omega)).trans (b1 k hk).2.1, (b1 k hk).2.2.1, (b1 k hk).2.2.2.1⟩
    have hMs : EMs W n N K F (D, U, T, Y) 16 g0 := hM0
    obtain ⟨g1, a1, a2, a3, a4, a5⟩ := firstM hM0 hP hS hmS hm
    have hM1 : EMs W n N K F (D, U, T, Y) 16 g1 := hM0.frK a2
    obtain ⟨g8, e8, k8, r8⟩ := orderM (s := (D, U, T, Y)) (t := t) hM1 hP hm hS a4 a5 hfS ht0 ht1 ht (i3 w)
    have t8 : g8 0 0 = i3 0 := by rw [r8, a3 0 0 (by omega) (by omega)]; exact t0
    have hRR : R g7 xX g8 xM := hR0.fr k7 (a2.tr k8)
    have hnl := (hX.frK k7).nameless
    have hbc := bc_msk (fun p => decide (¬ T p = 0 ∧ U p = 8)) h8
    have hge : cntB (fun p => decide (¬ T p = 0 ∧ U p = 8)) n ≤ fwS (cO W n N K F (D, U, T, Y) S m) (t + 1) := fwS_ge (fun k => by rw [cO_split (P := P) h8 hm hS hfS k]; exact Nat.le_add_left _ _) (Nat.le_trans (cntB_le _ n) (by omega)) _
    obtain ⟨_, _, i3', i4, _, _, _⟩ := I7
    have e8' : lp (fM_order_L48 (i3 P) (i3 w)) fuel (m1, i3 0, g1) = some (i3 (fwS (cO W n N K F (D, U, T, Y) S m) (t + 1) - cntB (fun p => decide (¬ T p = 0 ∧ U p = 8)) n), i3 (bdS (cO W n N K F (D, U, T, Y) S m) (eO S m) (t + 1)), g8) := e8
    have hfw := fwS_le (cO W n N K F (D, U, T, Y) S m) (t + 1)
    generalize fwS (cO W n N K F (D, U, T, Y) S m) (t + 1) = fw at *
    generalize bdS (cO W n N K F (D, U, T, Y) S m) (eO S m) (t + 1) = bd at *
    generalize cntB (fun p => decide (¬ T p = 0 ∧ U p = 8)) n = c0 at *
    rcases (show w = 0 ∨ w = 1 by omega) with rfl | rfl
    · refine ⟨(.inr (i3 (fw - c0)), g7), (i3 (fw - c0), g8), ?_, ?_, hRR, okR t8⟩
      · simp (disch := (first | omega | assumption | trivial)) only [li_0, li_1, li_2, li_3, li_4, li_5, li_6, li_7, li_8, li_9, li_10, li_11, li_12, li_13, li_14, li_15, li_16, li_17, li_18, li_19, li_20, li_21, li_22, li_23, li_24, li_25, li_26, li_27, li_28, li_29, li_30, li_31, li_32, li_33, li_34, li_35, li_36, li_37, li_38, li_39, li_40, li_41, li_42, li_43, li_44, li_45, li_46, li_47, li_48, li_49, li_50, li_51, li_52, li_53, li_54, li_55, li_56, li_57, li_58, li_59, li_60, li_63, li_64, li_72, li_76, li_77, li_91, li_93, li_96, li_97, li_99, li_108, li_109, li_120, li_122, li_150, li_200, li_255, li_400, li_426, li_600, li_900, li_999, li_1000, li_1002, li_1003, li_2000, li_2042, li_2043, li_2045, li_10000, li_32767, li_100000, li_1000000, li_m1, li_m1b, ob_s, lt1_e, se_l, se_r, if_true, if_false, true_and, and_true, false_and, and_false, st_at, i3_add, i3_mul, i3_sub, i3_lt, i3_le, i3_eq, i3_nat, m1_eqi, i3_eqm, m1_lti, m1_lei, i3_ltm, i3_lem, i3_decm, i3_dec0, nm_eqm, yr_eqm, mxor0, Nat.zero_add, if_pos, if_neg, eq_self, ne_eq, not_true_eq_false, not_false_eq_true, fX_order, eA, e7, hnl, hbc, i3']
      · simp (disch := (first | omega | assumption | trivial)) only [li_0, li_1, li_2, li_3, li_4, li_5, li_6, li_7, li_8, li_9, li_10, li_11, li_12, li_13, li_14, li_15, li_16, li_17, li_18, li_19, li_20, li_21, li_22, li_23, li_24, li_25, li_26, li_27, li_28, li_29, li_30, li_31, li_32, li_33, li_34, li_35, li_36, li_37, li_38, li_39, li_40, li_41, li_42, li_43, li_44, li_45, li_46, li_47, li_48, li_49, li_50, li_51, li_52, li_53, li_54, li_55, li_56, li_57, li_58, li_59, li_60, li_63, li_64, li_72, li_76, li_77, li_91, li_93, li_96, li_97, li_99, li_108, li_109, li_120, li_122, li_150, li_200, li_255, li_400, li_426, li_600, li_900, li_999, li_1000, li_1002, li_1003, li_2000, li_2042, li_2043, li_2045, li_10000, li_32767, li_100000, li_1000000, li_m1, li_m1b, ob_s, lt1_e, se_l, se_r, if_true, if_false, true_and, and_true, false_and, and_false, st_at, i3_add, i3_mul, i3_sub, i3_lt, i3_le, i3_eq, i3_nat, m1_eqi, i3_eqm, m1_lti, m1_lei, i3_ltm, i3_lem, i3_decm, i3_dec0, nm_eqm, yr_eqm, mxor0, Nat.zero_add, if_pos, if_neg, eq_self, ne_eq, not_true_eq_false, not_false_eq_true, fM_order, hg0.symm, eO', eI, fM_order_b28, badY, t0, a1, fM_order_b48, e8']
    · refine ⟨(.inr (i3 bd), g7), (i3 bd, g8), ?_, ?_, hRR, okR t8⟩
      · simp (disch := (first | omega | assumption | trivial)) only [li_0, li_1, li_2, li_3, li_4, li_5, li_6, li_7, li_8, li_9, li_10, li_11, li_12, li_13, li_14, li_15, li_16, li_17, li_18, li_19, li_20, li_21, li_22, li_23, li_24, li_25, li_26, li_27, li_28, li_29, li_30, li_31, li_32, li_33, li_34, li_35, li_36, li_37, li_38, li_39, li_40, li_41, li_42, li_43, li_44, li_45, li_46, li_47, li_48, li_49, li_50, li_51, li_52, li_53, li_54, li_55, li_56, li_57, li_58, li_59, li_60, li_63, li_64, li_72, li_76, li_77, li_91, li_93, li_96, li_97, li_99, li_108, li_109, li_120, li_122, li_150, li_200, li_255, li_400, li_426, li_600, li_900, li_999, li_1000, li_1002, li_1003, li_2000, li_2042, li_2043, li_2045, li_10000, li_32767, li_100000, li_1000000, li_m1, li_m1b, ob_s, lt1_e, se_l, se_r, if_true, if_false, true_and, and_true, false_and, and_false, st_at, i3_add, i3_mul, i3_sub, i3_lt, i3_le, i3_eq, i3_nat, m1_eqi, i3_eqm, m1_lti, m1_lei, i3_ltm, i3_lem, i3_decm, i3_dec0, nm_eqm, yr_eqm, mxor0, Nat.zero_add, if_pos, if_neg, eq_self, ne_eq, not_true_eq_false, not_false_eq_true, fX_order, eA, e7, i4]
      · simp (disch := (first | omega | assumption | trivial)) only [li_0, li_1, li_2, li_3, li_4, li_5, li_6, li_7, li_8, li_9, li_10, li_11, li_12, li_13, li_14, li_15, li_16, li_17, li_18, li_19, li_20, li_21, li_22, li_23, li_24, li_25, li_26, li_27, li_28, li_29, li_30, li_31, li_32, li_33, li_34, li_35, li_36, li_37, li_38, li_39, li_40, li_41, li_42, li_43, li_44, li_45, li_46, li_47, li_48, li_49, li_50, li_51, li_52, li_53, li_54, li_55, li_56, li_57, li_58, li_59, li_60, li_63, li_64, li_72, li_76, li_77, li_91, li_93, li_96, li_97, li_99, li_108, li_109, li_120, li_122, li_150, li_200, li_255, li_400, li_426, li_600, li_900, li_999, li_1000, li_1002, li_1003, li_2000, li_2042, li_2043, li_2045, li_10000, li_32767, li_100000, li_1000000, li_m1, li_m1b, ob_s, lt1_e, se_l, se_r, if_true, if_false, true_and, and_true, false_and, and_false, st_at, i3_add, i3_mul, i3_sub, i3_lt, i3_le, i3_eq, i3_nat, m1_eqi, i3_eqm, m1_lti, m1_lei, i3_ltm, i3_lem, i3_decm, i3_dec0, nm_eqm, yr_eqm, mxor0, Nat.zero_add, if_pos, if_neg, eq_self, ne_eq, not_true_eq_false, not_false_eq_true, fM_order, hg0.symm, eO', eI, fM_order_b28, badY, t0, a1, fM_order_b48, e8']
  · have eM : ∀ z1 z2 : Int32, fM_order_b23 z1 z2 g0 = some (i3 0, st (st g0 0 0 (i3 1)) 2 1 (g0 2 1 + i3 1)) := fun z1 z2 => by
      simp (disch := (first | omega | assumption | trivial)) only [li_0, li_1, li_2, li_3, li_4, li_5, li_6, li_7, li_8, li_9, li_10, li_11, li_12, li_13, li_14, li_15, li_16, li_17, li_18, li_19, li_20, li_21, li_22, li_23, li_24, li_25, li_26, li_27, li_28, li_29, li_30, li_31, li_32, li_33, li_34, li_35, li_36, li_37, li_38, li_39, li_40, li_41, li_42, li_43, li_44, li_45, li_46, li_47, li_48, li_49, li_50, li_51, li_52, li_53, li_54, li_55, li_56, li_57, li_58, li_59, li_60, li_63, li_64, li_72, li_76, li_77, li_91, li_93, li_96, li_97, li_99, li_108, li_109, li_120, li_122, li_150, li_200, li_255, li_400, li_426, li_600, li_900, li_999, li_1000, li_1002, li_1003, li_2000, li_2042, li_2043, li_2045, li_10000, li_32767, li_100000, li_1000000, li_m1, li_m1b, ob_s, lt1_e, se_l, se_r, if_true, if_false, true_and, and_true, false_and, and_false, st_at, i3_add, i3_mul, i3_sub, i3_lt, i3_le, i3_eq, i3_nat, m1_eqi, i3_eqm, m1_lti, m1_lei, i3_ltm, i3_lem, i3_decm, i3_dec0, nm_eqm, yr_eqm, mxor0, Nat.zero_add, if_pos, if_neg, eq_self, ne_eq, not_true_eq_false, not_false_eq_true, fM_order_b23, fM_order_b28, badN, t0]
    refine ⟨(.inl 1, st gA 0 18 (gA 0 18 + i3 1)), (i3 0, st (st g0 0 0 (i3 1)) 2 1 (g0 2 1 + i3 1)), ?_, ?_, ref11 (hR0.fr kA KM.rf) _⟩
    · simp (disch := (first | omega | assumption | trivial)) only [li_0, li_1, li_2, li_3, li_4, li_5, li_6, li_7, li_8, li_9, li_10, li_11, li_12, li_13, li_14, li_15, li_16, li_17, li_18, li_19, li_20, li_21, li_22, li_23, li_24, li_25, li_26, li_27, li_28, li_29, li_30, li_31, li_32, li_33, li_34, li_35, li_36, li_37, li_38, li_39, li_40, li_41, li_42, li_43, li_44, li_45, li_46, li_47, li_48, li_49, li_50, li_51, li_52, li_53, li_54, li_55, li_56, li_57, li_58, li_59, li_60, li_63, li_64, li_72, li_76, li_77, li_91, li_93, li_96, li_97, li_99, li_108, li_109, li_120, li_122, li_150, li_200, li_255, li_400, li_426, li_600, li_900, li_999, li_1000, li_1002, li_1003, li_2000, li_2042, li_2043, li_2045, li_10000, li_32767, li_100000, li_1000000, li_m1, li_m1b, ob_s, lt1_e, se_l, se_r, if_true, if_false, true_and, and_true, false_and, and_false, st_at, i3_add, i3_mul, i3_sub, i3_lt, i3_le, i3_eq, i3_nat, m1_eqi, i3_eqm, m1_lti, m1_lei, i3_ltm, i3_lem, i3_decm, i3_dec0, nm_eqm, yr_eqm, mxor0, Nat.zero_add, if_pos, if_neg, eq_self, ne_eq, not_true_eq_false, not_false_eq_true, fX_order, eA]
    · rcases hO with hO | ⟨hO, hI⟩
      · simp (disch := (first | omega | assumption | trivial)) only [li_0, li_1, li_2, li_3, li_4, li_5, li_6, li_7, li_8, li_9, li_10, li_11, li_12, li_13, li_14, li_15, li_16, li_17, li_18, li_19, li_20, li_21, li_22, li_23, li_24, li_25, li_26, li_27, li_28, li_29, li_30, li_31, li_32, li_33, li_34, li_35, li_36, li_37, li_38, li_39, li_40, li_41, li_42, li_43, li_44, li_45, li_46, li_47, li_48, li_49, li_50, li_51, li_52, li_53, li_54, li_55, li_56, li_57, li_58, li_59, li_60, li_63, li_64, li_72, li_76, li_77, li_91, li_93, li_96, li_97, li_99, li_108, li_109, li_120, li_122, li_150, li_200, li_255, li_400, li_426, li_600, li_900, li_999, li_1000, li_1002, li_1003, li_2000, li_2042, li_2043, li_2045, li_10000, li_32767, li_100000, li_1000000, li_m1, li_m1b, ob_s, lt1_e, se_l, se_r, if_true, if_false, true_and, and_true, false_and, and_false, st_at, i3_add, i3_mul, i3_sub, i3_lt, i3_le, i3_eq, i3_nat, m1_eqi, i3_eqm, m1_lti, m1_lei, i3_ltm, i3_lem, i3_decm, i3_dec0, nm_eqm, yr_eqm, mxor0, Nat.zero_add, if_pos, if_neg, eq_self, ne_eq, not_true_eq_false, not_false_eq_true, fM_order, hg0.symm, hO, eM]
      · simp (disch := (first | omega | assumption | trivial)) only [li_0, li_1, li_2, li_3, li_4, li_5, li_6, li_7, li_8, li_9, li_10, li_11, li_12, li_13, li_14, li_15, li_16, li_17, li_18, li_19, li_20, li_21, li_22, li_23, li_24, li_25, li_26, li_27, li_28, li_29, li_30, li_31, li_32, li_33, li_34, li_35, li_36, li_37, li_38, li_39, li_40, li_41, li_42, li_43, li_44, li_45, li_46, li_47, li_48, li_49, li_50, li_51, li_52, li_53, li_54, li_55, li_56, li_57, li_58, li_59, li_60, li_63, li_64, li_72, li_76, li_77, li_91, li_93, li_96, li_97, li_99, li_108, li_109, li_120, li_122, li_150, li_200, li_255, li_400, li_426, li_600, li_900, li_999, li_1000, li_1002, li_1003, li_2000, li_2042, li_2043, li_2045, li_10000, li_32767, li_100000, li_1000000, li_m1, li_m1b, ob_s, lt1_e, se_l, se_r, if_true, if_false, true_and, and_true, false_and, and_false, st_at, i3_add, i3_mul, i3_sub, i3_lt, i3_le, i3_eq, i3_nat, m1_eqi, i3_eqm, m1_lti, m1_lei, i3_ltm, i3_lem, i3_decm, i3_dec0, nm_eqm, yr_eqm, mxor0, Nat.zero_add, if_pos, if_neg, eq_self, ne_eq, not_true_eq_false, not_false_eq_true, fM_order, hg0.symm, hO, hI, eM]
theorem S_fits : Sim_fits R := by
  intro gX xX gM xM x1 x2 hR
  obtain ⟨W, n, N, K, F, D, U, T, Y, d, hX, hM, hY, hW, h6, h7⟩ := id hR.2.2.2
  have h8 := hX.2.2.1.1
  have nX := hX.2.2.2.1.1
  obtain ⟨g0, hg0⟩ : ∃ g0, g0 = st gM 0 0 (i3 0) := ⟨_, rfl⟩
  have t0 : g0 0 0 = i3 0 := by rw [hg0, st_eq]
  have k0 : KM gM g0 := by rw [hg0]; exact KM.thrown
  have hR0 : R gX xX g0 xM := hR.fr KX.rf k0
  have hM0 : EMd W n N K F D U T Y 16 g0 := hM.frK k0
  have nM := hM0.1.2.2.2.1.1
  obtain ⟨l, A, V, B, l8, lX, lM, b1, b2⟩ := id h6
  rcases ordCls hX hM0 x1 x2 with ⟨P, S, m, w, hP, hS, hmS, hm, hw, rfl, rfl, eO', eI, gA, eA, kA, dA, oA⟩ | ⟨⟨gA, kA, eA⟩, hO⟩
  · have hXA : ECs W n N K F (D, U, T, Y) 10 gA := hX.frK kA
    have hok := firstL_ok hmS hm
    have hfS := hok.2
    have hfn : ∀ k, k < m → oF (firstL S) k < n := fun k hk => by
      have z := hfS k hk
      have z2 : (P &&& msk (fun p => decide (T p = 0)) n).testBit (oF (firstL S) k) = true := by rw [← hS]; exact z
      rw [Nat.testBit_and, msk_bit, Bool.and_eq_true, Bool.and_eq_true] at z2
      exact of_decide_eq_true z2.2.1
    obtain ⟨t, ht, ht0, ht1⟩ := seq_end hm ⟨_, _, _, _, _, rfl⟩ hok.1
    obtain ⟨g7, e7, I7⟩ := tryX (s := (D, U, T, Y)) (A := A) (V := V) (B := B) hXA hm dA oA hfn (by rw [kA 8 1 (by omega)]; exact lX) l8 (fun k hk => ⟨(b1 k hk).2.2.1, (b1 k hk).2.2.2.2⟩) (fun q p hp => by rw [kA 35 p (by omega)]; exact b2 q p hp) ht ht0 ht1
    have k7 : KX gX g7 := kA.tr I7.1
    have lM0 : g0 0 31 = i3 l := (k0 0 31 (by omega)).trans lM
    have b1M : ∀ k, k < l → g0 (362 + k) 0 = i3 (A k) ∧ g0 (362 + k) 1 = i3 (V k) ∧ A k < n ∧ V k ≤ 8 := fun k hk => ⟨(k0 _ _ (by omega)).trans (b1 k hk).1, (k0 _ _ (by omega)).trans (b1 k hk).2.1, (b1 k hk).2.2.1, (b1 k hk).2.2.2.1⟩
    have hMs : EMs W n N K F (D, U, T, Y) 16 g0 := hM0
    obtain ⟨g1, a1, a2, a3, a4, a5⟩ := firstM hM0 hP hS hmS hm
    have hM1 : EMs W n N K F (D, U, T, Y) 16 g1 := hM0.frK a2
    obtain ⟨g8, e8, k8, r8⟩ := fitsM (s := (D, U, T, Y)) (A := A) (V := V) (t := t) hM1 hm hfn a4 a5 (by rw [a3 0 31 (by omega) (by omega)]; exact lM0) l8 (fun k hk => by rw [a3 (362 + k) 0 (by omega) (by omega), a3 (362 + k) 1 (by omega) (by omega)]; exact b1M k hk) ht0 ht1 ht (i3 w)
    have t8 : g8 0 0 = i3 0 := by rw [r8, a3 0 0 (by omega) (by omega)]; exact t0
    have hRR : R g7 xX g8 xM := hR0.fr k7 (a2.tr k8)
    obtain ⟨_, _, _, _, i5, i6, _⟩ := I7
    generalize ctS (rO W n N K F (D, U, T, Y) S m A V l) (t + 1) = ct at *
    generalize ffS (rO W n N K F (D, U, T, Y) S m A V l) (eO S m) (t + 1) = ff at *
    rcases (show w = 0 ∨ w = 1 by omega) with rfl | rfl
    · refine ⟨(.inr (i3 ct), g7), (i3 ct, g8), ?_, ?_, hRR, okR t8⟩
      · simp (disch := (first | omega | assumption | trivial)) only [li_0, li_1, li_2, li_3, li_4, li_5, li_6, li_7, li_8, li_9, li_10, li_11, li_12, li_13, li_14, li_15, li_16, li_17, li_18, li_19, li_20, li_21, li_22, li_23, li_24, li_25, li_26, li_27, li_28, li_29, li_30, li_31, li_32, li_33, li_34, li_35, li_36, li_37, li_38, li_39, li_40, li_41, li_42, li_43, li_44, li_45, li_46, li_47, li_48, li_49, li_50, li_51, li_52, li_53, li_54, li_55, li_56, li_57, li_58, li_59, li_60, li_63, li_64, li_72, li_76, li_77, li_91, li_93, li_96, li_97, li_99, li_108, li_109, li_120, li_122, li_150, li_200, li_255, li_400, li_426, li_600, li_900, li_999, li_1000, li_1002, li_1003, li_2000, li_2042, li_2043, li_2045, li_10000, li_32767, li_100000, li_1000000, li_m1, li_m1b, ob_s, lt1_e, se_l, se_r, if_true, if_false, true_and, and_true, false_and, and_false, st_at, i3_add, i3_mul, i3_sub, i3_lt, i3_le, i3_eq, i3_nat, m1_eqi, i3_eqm, m1_lti, m1_lei, i3_ltm, i3_lem, i3_decm, i3_dec0, nm_eqm, yr_eqm, mxor0, Nat.zero_add, if_pos, if_neg, eq_self, ne_eq, not_true_eq_false, not_false_eq_true, fX_fits, eA, e7, i5]
      · simp (disch := (first | omega | assumption | trivial)) only [li_0, li_1, li_2, li_3, li_4, li_5, li_6, li_7, li_8, li_9, li_10, li_11, li_12, li_13, li_14, li_15, li_16, li_17, li_18, li_19, li_20, li_21, li_22, li_23, li_24, li_25, li_26, li_27, li_28, li_29, li_30, li_31, li_32, li_33, li_34, li_35, li_36, li_37, li_38, li_39, li_40, li_41, li_42, li_43, li_44, li_45, li_46, li_47, li_48, li_49, li_50, li_51, li_52, li_53, li_54, li_55, li_56, li_57, li_58, li_59, li_60, li_63, li_64, li_72, li_76, li_77, li_91, li_93, li_96, li_97, li_99, li_108, li_109, li_120, li_122, li_150, li_200, li_255, li_400, li_426, li_600, li_900, li_999, li_1000, li_1002, li_1003, li_2000, li_2042, li_2043, li_2045, li_10000, li_32767, li_100000, li_1000000, li_m1, li_m1b, ob_s, lt1_e, se_l, se_r, if_true, if_false, true_and, and_true, false_and, and_false, st_at, i3_add, i3_mul, i3_sub, i3_lt, i3_le, i3_eq, i3_nat, m1_eqi, i3_eqm, m1_lti, m1_lei, i3_ltm, i3_lem, i3_decm, i3_dec0, nm_eqm, yr_eqm, mxor0, Nat.zero_add, if_pos, if_neg, eq_self, ne_eq, not_true_eq_false, not_false_eq_true, fM_fits, hg0.symm, eO', eI, fM_fits_b28, badY, t0, a1, fM_fits_b48, e8]
    · refine ⟨(.inr (yr ff), g7), (yr ff, g8), ?_, ?_, hRR, okR t8⟩
      · simp (disch := (first | omega | assumption | trivial)) only [li_0, li_1, li_2, li_3, li_4, li_5, li_6, li_7, li_8, li_9, li_10, li_11, li_12, li_13, li_14, li_15, li_16, li_17, li_18, li_19, li_20, li_21, li_22, li_23, li_24, li_25, li_26, li_27, li_28, li_29, li_30, li_31, li_32, li_33, li_34, li_35, li_36, li_37, li_38, li_39, li_40, li_41, li_42, li_43, li_44, li_45, li_46, li_47, li_48, li_49, li_50, li_51, li_52, li_53, li_54, li_55, li_56, li_57, li_58, li_59, li_60, li_63, li_64, li_72, li_76, li_77, li_91, li_93, li_96, li_97, li_99, li_108, li_109, li_120, li_122, li_150, li_200, li_255, li_400, li_426, li_600, li_900, li_999, li_1000, li_1002, li_1003, li_2000, li_2042, li_2043, li_2045, li_10000, li_32767, li_100000, li_1000000, li_m1, li_m1b, ob_s, lt1_e, se_l, se_r, if_true, if_false, true_and, and_true, false_and, and_false, st_at, i3_add, i3_mul, i3_sub, i3_lt, i3_le, i3_eq, i3_nat, m1_eqi, i3_eqm, m1_lti, m1_lei, i3_ltm, i3_lem, i3_decm, i3_dec0, nm_eqm, yr_eqm, mxor0, Nat.zero_add, if_pos, if_neg, eq_self, ne_eq, not_true_eq_false, not_false_eq_true, fX_fits, eA, e7, i6]
      · simp (disch := (first | omega | assumption | trivial)) only [li_0, li_1, li_2, li_3, li_4, li_5, li_6, li_7, li_8, li_9, li_10, li_11, li_12, li_13, li_14, li_15, li_16, li_17, li_18, li_19, li_20, li_21, li_22, li_23, li_24, li_25, li_26, li_27, li_28, li_29, li_30, li_31, li_32, li_33, li_34, li_35, li_36, li_37, li_38, li_39, li_40, li_41, li_42, li_43, li_44, li_45, li_46, li_47, li_48, li_49, li_50, li_51, li_52, li_53, li_54, li_55, li_56, li_57, li_58, li_59, li_60, li_63, li_64, li_72, li_76, li_77, li_91, li_93, li_96, li_97, li_99, li_108, li_109, li_120, li_122, li_150, li_200, li_255, li_400, li_426, li_600, li_900, li_999, li_1000, li_1002, li_1003, li_2000, li_2042, li_2043, li_2045, li_10000, li_32767, li_100000, li_1000000, li_m1, li_m1b, ob_s, lt1_e, se_l, se_r, if_true, if_false, true_and, and_true, false_and, and_false, st_at, i3_add, i3_mul, i3_sub, i3_lt, i3_le, i3_eq, i3_nat, m1_eqi, i3_eqm, m1_lti, m1_lei, i3_ltm, i3_lem, i3_decm, i3_dec0, nm_eqm, yr_eqm, mxor0, Nat.zero_add, if_pos, if_neg, eq_self, ne_eq, not_true_eq_false, not_false_eq_true, fM_fits, hg0.symm, eO', eI, fM_fits_b28, badY, t0, a1, fM_fits_b48, e8]
  · have eM : ∀ z1 z2 : Int32, fM_fits_b23 z1 z2 g0 = some (i3 0, st (st g0 0 0 (i3 1)) 2 1 (g0 2 1 + i3 1)) := fun z1 z2 => by
      simp (disch := (first | omega | assumption | trivial)) only [li_0, li_1, li_2, li_3, li_4, li_5, li_6, li_7, li_8, li_9, li_10, li_11, li_12, li_13, li_14, li_15, li_16, li_17, li_18, li_19, li_20, li_21, li_22, li_23, li_24, li_25, li_26, li_27, li_28, li_29, li_30, li_31, li_32, li_33, li_34, li_35, li_36, li_37, li_38, li_39, li_40, li_41, li_42, li_43, li_44, li_45, li_46, li_47, li_48, li_49, li_50, li_51, li_52, li_53, li_54, li_55, li_56, li_57, li_58, li_59, li_60, li_63, li_64, li_72, li_76, li_77, li_91, li_93, li_96, li_97, li_99, li_108, li_109, li_120, li_122, li_150, li_200, li_255, li_400, li_426, li_600, li_900, li_999, li_1000, li_1002, li_1003, li_2000, li_2042, li_2043, li_2045, li_10000, li_32767, li_100000, li_1000000, li_m1, li_m1b, ob_s, lt1_e, se_l, se_r, if_true, if_false, true_and, and_true, false_and, and_false, st_at, i3_add, i3_mul, i3_sub, i3_lt, i3_le, i3_eq, i3_nat, m1_eqi, i3_eqm, m1_lti, m1_lei, i3_ltm, i3_lem, i3_decm, i3_dec0, nm_eqm, yr_eqm, mxor0, Nat.zero_add, if_pos, if_neg, eq_self, ne_eq, not_true_eq_false, not_false_eq_true, fM_fits_b23, fM_fits_b28, badN, t0]
    refine ⟨(.inl 1, st gA 0 18 (gA 0 18 + i3 1)), (i3 0, st (st g0 0 0 (i3 1)) 2 1 (g0 2 1 + i3 1)), ?_, ?_, ref11 (hR0.fr kA KM.rf) _⟩
    · simp (disch := (first | omega | assumption | trivial)) only [li_0, li_1, li_2, li_3, li_4, li_5, li_6, li_7, li_8, li_9, li_10, li_11, li_12, li_13, li_14, li_15, li_16, li_17, li_18, li_19, li_20, li_21, li_22, li_23, li_24, li_25, li_26, li_27, li_28, li_29, li_30, li_31, li_32, li_33, li_34, li_35, li_36, li_37, li_38, li_39, li_40, li_41, li_42, li_43, li_44, li_45, li_46, li_47, li_48, li_49, li_50, li_51, li_52, li_53, li_54, li_55, li_56, li_57, li_58, li_59, li_60, li_63, li_64, li_72, li_76, li_77, li_91, li_93, li_96, li_97, li_99, li_108, li_109, li_120, li_122, li_150, li_200, li_255, li_400, li_426, li_600, li_900, li_999, li_1000, li_1002, li_1003, li_2000, li_2042, li_2043, li_2045, li_10000, li_32767, li_100000, li_1000000, li_m1, li_m1b, ob_s, lt1_e, se_l, se_r, if_true, if_false, true_and, and_true, false_and, and_false, st_at, i3_add, i3_mul, i3_sub, i3_lt, i3_le, i3_eq, i3_nat, m1_eqi, i3_eqm, m1_lti, m1_lei, i3_ltm, i3_lem, i3_decm, i3_dec0, nm_eqm, yr_eqm, mxor0, Nat.zero_add, if_pos, if_neg, eq_self, ne_eq, not_true_eq_false, not_false_eq_true, fX_fits, eA]
    · rcases hO with hO | ⟨hO, hI⟩
      · simp (disch := (first | omega | assumption | trivial)) only [li_0, li_1, li_2, li_3, li_4, li_5, li_6, li_7, li_8, li_9, li_10, li_11, li_12, li_13, li_14, li_15, li_16, li_17, li_18, li_19, li_20, li_21, li_22, li_23, li_24, li_25, li_26, li_27, li_28, li_29, li_30, li_31, li_32, li_33, li_34, li_35, li_36, li_37, li_38, li_39, li_40, li_41, li_42, li_43, li_44, li_45, li_46, li_47, li_48, li_49, li_50, li_51, li_52, li_53, li_54, li_55, li_56, li_57, li_58, li_59, li_60, li_63, li_64, li_72, li_76, li_77, li_91, li_93, li_96, li_97, li_99, li_108, li_109, li_120, li_122, li_150, li_200, li_255, li_400, li_426, li_600, li_900, li_999, li_1000, li_1002, li_1003, li_2000, li_2042, li_2043, li_2045, li_10000, li_32767, li_100000, li_1000000, li_m1, li_m1b, ob_s, lt1_e, se_l, se_r, if_true, if_false, true_and, and_true, false_and, and_false, st_at, i3_add, i3_mul, i3_sub, i3_lt, i3_le, i3_eq, i3_nat, m1_eqi, i3_eqm, m1_lti, m1_lei, i3_ltm, i3_lem, i3_decm, i3_dec0, nm_eqm, yr_eqm, mxor0, Nat.zero_add, if_pos, if_neg, eq_self, ne_eq, not_true_eq_false, not_false_eq_true, fM_fits, hg0.symm, hO, eM]
      · simp (disch := (first | omega | assumption | trivial)) only [li_0, li_1, li_2, li_3, li_4, li_5, li_6, li_7, li_8, li_9, li_10, li_11, li_12, li_13, li_14, li_15, li_16, li_17, li_18, li_19, li_20, li_21, li_22, li_23, li_24, li_25, li_26, li_27, li_28, li_29, li_30, li_31, li_32, li_33, li_34, li_35, li_36, li_37, li_38, li_39, li_40, li_41, li_42, li_43, li_44, li_45, li_46, li_47, li_48, li_49, li_50, li_51, li_52, li_53, li_54, li_55, li_56, li_57, li_58, li_59, li_60, li_63, li_64, li_72, li_76, li_77, li_91, li_93, li_96, li_97, li_99, li_108, li_109, li_120, li_122, li_150, li_200, li_255, li_400, li_426, li_600, li_900, li_999, li_1000, li_1002, li_1003, li_2000, li_2042, li_2043, li_2045, li_10000, li_32767, li_100000, li_1000000, li_m1, li_m1b, ob_s, lt1_e, se_l, se_r, if_true, if_false, true_and, and_true, false_and, and_false, st_at, i3_add, i3_mul, i3_sub, i3_lt, i3_le, i3_eq, i3_nat, m1_eqi, i3_eqm, m1_lti, m1_lei, i3_ltm, i3_lem, i3_decm, i3_dec0, nm_eqm, yr_eqm, mxor0, Nat.zero_add, if_pos, if_neg, eq_self, ne_eq, not_true_eq_false, not_false_eq_true, fM_fits, hg0.symm, hO, hI, eM]
