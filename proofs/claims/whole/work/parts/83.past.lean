/-! PURE: works and images are kept and come back -/
theorem lnB {j : Nat} (h : j < 16) : lenW shM (458 + j) = 26 := by
  have e := lenM_before (i := i3 j) (i3_in (by omega) h)
  rw [i3_nat (by omega)] at e
  exact e
theorem lnK {j : Nat} (h : j < 3) : lenW shM (474 + j) = 443 := by
  have e := lenM_kept (i := i3 j) (i3_in (by omega) h)
  rw [i3_nat (by omega)] at e
  exact e
/-- a state is read from a row, written to a row -/
def rdS (g : St) (row o : Nat) : St := st (cpS (cpS (cpS g row o 37 0 8) row (o + 8) 38 0 8) row (o + 16) 39 0 8) 10 5 (g row (o + 24))
def wtS (g : St) (row o : Nat) : St := st (cpS (cpS (cpS g 37 0 row o 8) 38 0 row (o + 8) 8) 39 0 row (o + 16) 8) row (o + 24) (g 10 5)
theorem rdS_out {g : St} {row o p i : Nat} (h : ¬ (37 ≤ p ∧ p ≤ 39)) (h2 : ¬ (p = 10 ∧ i = 5)) : rdS g row o p i = g p i := by
  unfold rdS
  rw [st_at, if_neg h2, cpS_ne (by omega), cpS_ne (by omega), cpS_ne (by omega)]
theorem wtS_out {g : St} {row o p i : Nat} (h : ¬ (p = row ∧ o ≤ i ∧ i < o + 25)) : wtS g row o p i = g p i := by
  unfold wtS
  rw [st_at, if_neg (by omega), cpS_out (by omega), cpS_out (by omega), cpS_out (by omega)]
theorem rdS_SX {g : St} {row o : Nat} {s : AS} (hr : row = 43 ∨ row = 44) (h : KX8 row o s g) : SX 10 s.1 s.2.1 s.2.2.1 s.2.2.2 (rdS g row o) := by
  obtain ⟨h1, h2⟩ := h
  unfold rdS
  refine ⟨fun p hp => ?_, fun p hp => ?_, fun p hp => ?_, ?_⟩
  · rw [st_ne (by omega), cpS_ne (by omega), cpS_ne (by omega)]
    have e := cpS_in (g := g) (a := row) (s := o) (b := 37) (p := 0) hp
    rw [Nat.zero_add] at e
    exact e.trans (h1 p hp).1
  · rw [st_ne (by omega), cpS_ne (by omega)]
    have e := cpS_in (g := cpS g row o 37 0 8) (a := row) (s := o + 8) (b := 38) (p := 0) hp
    rw [Nat.zero_add, cpS_ne (x := row) (by omega)] at e
    exact e.trans (h1 p hp).2.1
  · rw [st_ne (by omega)]
    have e := cpS_in (g := cpS (cpS g row o 37 0 8) row (o + 8) 38 0 8) (a := row) (s := o + 16) (b := 39) (p := 0) hp
    rw [Nat.zero_add, cpS_ne (x := row) (by omega), cpS_ne (x := row) (by omega)] at e
    exact e.trans (h1 p hp).2.2
  · rw [st_eq]
    exact h2
theorem wtS_KX {g : St} {row o : Nat} {s : AS} (hr : row = 43 ∨ row = 44) (h : SX 10 s.1 s.2.1 s.2.2.1 s.2.2.2 g) : KX8 row o s (wtS g row o) := by
  obtain ⟨s1, s2, s3, s4⟩ := h
  unfold wtS
  refine ⟨fun p hp => ⟨?_, ?_, ?_⟩, ?_⟩
  · rw [st_at, if_neg (by omega), cpS_out (by omega), cpS_out (by omega), cpS_in hp, Nat.zero_add]
    exact s1 p hp
  · rw [st_at, if_neg (by omega), cpS_out (by omega), cpS_in hp, Nat.zero_add, cpS_ne (by omega)]
    exact s2 p hp
  · rw [st_at, if_neg (by omega), cpS_in hp, Nat.zero_add, cpS_ne (by omega), cpS_ne (by omega)]
    exact s3 p hp
  · rw [st_eq]
    exact s4
theorem X_read {g : St} {row o L : Nat} (hr : row = 43 ∨ row = 44) (hL : lenW shX row = L) (h : o + 25 ≤ L) (h2 : L < 100000) : fX_State_readFrom 10 row (i3 o) g = some (rdS g row o) := by
  have c1 := X_copy (a := row) (b := 37) (s := o) (p := 0) (m := 8) hL (ln8 (by omega)) (by omega) (by omega) (by omega) h2 (by omega) g
  have c2 := X_copy (a := row) (b := 38) (s := o + 8) (p := 0) (m := 8) hL (ln8 (by omega)) (by omega) (by omega) (by omega) h2 (by omega) (cpS g row o 37 0 8)
  have c3 := X_copy (a := row) (b := 39) (s := o + 16) (p := 0) (m := 8) hL (ln8 (by omega)) (by omega) (by omega) (by omega) h2 (by omega) (cpS (cpS g row o 37 0 8) row (o + 8) 38 0 8)
  have c4 : fX_Rows_at row (i3 (o + 24)) (cpS (cpS (cpS g row o 37 0 8) row (o + 8) 38 0 8) row (o + 16) 39 0 8) = some (g row (o + 24)) := by
    rw [X_at hL (by omega) h2, cpS_ne (by omega), cpS_ne (by omega), cpS_ne (by omega)]
  unfold rdS
  simp (disch := (first | omega | assumption | trivial)) only [li_0, li_1, li_2, li_3, li_4, li_5, li_6, li_7, li_8, li_9, li_10, li_11, li_12, li_13, li_14, li_15, li_16, li_17, li_18, li_19, li_20, li_21, li_22, li_23, li_24, li_25, li_26, li_27, li_28, li_29, li_30, li_31, li_32, li_33, li_34, li_35, li_36, li_37, li_38, li_39, li_40, li_41, li_42, li_43, li_44, li_45, li_46, li_47, li_48, li_49, li_50, li_51, li_52, li_53, li_54, li_55, li_56, li_57, li_58, li_59, li_60, li_63, li_64, li_72, li_76, li_77, li_91, li_93, li_96, li_97, li_99, li_108, li_109, li_120, li_122, li_150, li_200, li_255, li_400, li_426, li_600, li_900, li_999, li_1000, li_1002, li_1003, li_2000, li_2042, li_2043, li_2045, li_10000, li_32767, li_100000, li_1000000, li_m1, li_m1b, ob_s, lt1_e, se_l, se_r, if_true, if_false, true_and, and_true, false_and, and_false, st_at, i3_add, i3_mul, i3_sub, i3_lt, i3_le, i3_eq, i3_nat, m1_eqi, i3_eqm, m1_lti, m1_lei, i3_ltm, i3_lem, i3_decm, i3_dec0, nm_eqm, yr_eqm, mxor0, Nat.zero_add, if_pos, if_neg, eq_self, ne_eq, not_true_eq_false, not_false_eq_true, fX_State_readFrom, rS2, rS3, rS4, c1, c2, c3, c4]
theorem X_write {g : St} {row o L : Nat} (hr : row = 43 ∨ row = 44) (hL : lenW shX row = L) (h : o + 25 ≤ L) (h2 : L < 100000) : fX_State_writeTo 10 row (i3 o) g = some (wtS g row o) := by
  have c1 := X_copy (a := 37) (b := row) (s := 0) (p := o) (m := 8) (ln8 (by omega)) hL (by omega) (by omega) (by omega) (by omega) h2 g
  have c2 := X_copy (a := 38) (b := row) (s := 0) (p := o + 8) (m := 8) (ln8 (by omega)) hL (by omega) (by omega) (by omega) (by omega) h2 (cpS g 37 0 row o 8)
  have c3 := X_copy (a := 39) (b := row) (s := 0) (p := o + 16) (m := 8) (ln8 (by omega)) hL (by omega) (by omega) (by omega) (by omega) h2 (cpS (cpS g 37 0 row o 8) 38 0 row (o + 8) 8)
  have c4 : ∀ v, fX_Rows_put row (i3 (o + 24)) v (cpS (cpS (cpS g 37 0 row o 8) 38 0 row (o + 8) 8) 39 0 row (o + 16) 8) = some (st (cpS (cpS (cpS g 37 0 row o 8) 38 0 row (o + 8) 8) 39 0 row (o + 16) 8) row (o + 24) v) := fun v => X_put hL (by omega) h2
  have c5 : cpS (cpS (cpS g 37 0 row o 8) 38 0 row (o + 8) 8) 39 0 row (o + 16) 8 10 5 = g 10 5 := by
    rw [cpS_ne (by omega), cpS_ne (by omega), cpS_ne (by omega)]
  unfold wtS
  simp (disch := (first | omega | assumption | trivial)) only [li_0, li_1, li_2, li_3, li_4, li_5, li_6, li_7, li_8, li_9, li_10, li_11, li_12, li_13, li_14, li_15, li_16, li_17, li_18, li_19, li_20, li_21, li_22, li_23, li_24, li_25, li_26, li_27, li_28, li_29, li_30, li_31, li_32, li_33, li_34, li_35, li_36, li_37, li_38, li_39, li_40, li_41, li_42, li_43, li_44, li_45, li_46, li_47, li_48, li_49, li_50, li_51, li_52, li_53, li_54, li_55, li_56, li_57, li_58, li_59, li_60, li_63, li_64, li_72, li_76, li_77, li_91, li_93, li_96, li_97, li_99, li_108, li_109, li_120, li_122, li_150, li_200, li_255, li_400, li_426, li_600, li_900, li_999, li_1000, li_1002, li_1003, li_2000, li_2042, li_2043, li_2045, li_10000, li_32767, li_100000, li_1000000, li_m1, li_m1b, ob_s, lt1_e, se_l, se_r, if_true, if_false, true_and, and_true, false_and, and_false, st_at, i3_add, i3_mul, i3_sub, i3_lt, i3_le, i3_eq, i3_nat, m1_eqi, i3_eqm, m1_lti, m1_lei, i3_ltm, i3_lem, i3_decm, i3_dec0, nm_eqm, yr_eqm, mxor0, Nat.zero_add, if_pos, if_neg, eq_self, ne_eq, not_true_eq_false, not_false_eq_true, fX_State_writeTo, rS2, rS3, rS4, c1, c2, c3, c4, c5]
section PA
variable {W : (Nat → Nat) → Nat} {n N : Nat} {K F D U T : Nat → Nat} {Y : Nat} {g : St}
theorem EC.mk5 (h : EC W n N K F D U T Y 10 g) {g' : St} {s : AS} (hS : SX 10 s.1 s.2.1 s.2.2.1 s.2.2.2 g') (hB : BDs n s) (e : ∀ p i, (p = 2 ∨ p = 17 ∨ p = 19 ∨ p = 23 ∨ (p = 4 ∧ i = 3)) → g' p i = g p i) : EC W n N K F s.1 s.2.1 s.2.2.1 s.2.2.2 10 g' := by
  obtain ⟨hr, _, _, hC, hL, hW⟩ := h
  have E : ∀ p, (p = 2 ∨ p = 17 ∨ p = 19 ∨ p = 23) → g' p = g p := fun p hp => funext fun i => e p i (by omega)
  exact ⟨hr, hS, hB, hC.fr (E 2 (by omega)) (E 17 (by omega)) (E 19 (by omega)), hL.fr (e 4 3 (by omega)) (E 23 (by omega)), hW⟩
theorem EMd.mk5 (h : EMd W n N K F D U T Y 16 g) {g' : St} {s : AS} (hS : KM8 16 0 n s g') (hB : BDs n s) (e : ∀ p i, (p = 4 ∨ p = 8 ∨ (34 ≤ p ∧ p < 202) ∨ (p = 0 ∧ i = 17)) → g' p i = g p i) : EMd W n N K F s.1 s.2.1 s.2.2.1 s.2.2.2 16 g' := by
  obtain ⟨⟨hr, _, hB0, hC, hL, hW⟩, _⟩ := h
  have E : ∀ p, (p = 4 ∨ p = 8 ∨ (34 ≤ p ∧ p < 202)) → g' p = g p := fun p hp => funext fun i => e p i (by omega)
  obtain ⟨h1, h2, h3⟩ := hS
  refine ⟨⟨hr, ⟨fun p hp => ?_, fun p hp => ?_, h2, h3⟩, hB, hC.fr hB0.1 (E 4 (by omega)) (E 8 (by omega)) (fun p hp => E _ (by omega)), hL.fr (e 0 17 (by omega)) (fun p a b => E p (by omega)), hW⟩, fun p hp => ?_⟩
  · have e1 := (h1 p hp).1
    rw [Nat.zero_add] at e1
    exact e1
  · have e1 := (h1 p hp).2.1
    rw [Nat.zero_add] at e1
    exact e1
  · have e1 := (h1 p hp).2.2
    rw [Nat.zero_add] at e1
    exact e1
end PA
theorem KM8.mv {row off n : Nat} {s : AS} {g g' : St} (h : KM8 row off n s g) (row' off' : Nat) (e : ∀ i, i < 26 → g' row' (off' + i) = g row (off + i)) : KM8 row' off' n s g' := by
  obtain ⟨h1, h2, h3⟩ := h
  refine ⟨fun p hp => ⟨?_, ?_, ?_⟩, ?_, ?_⟩
  · rw [e p (by omega)]; exact (h1 p hp).1
  · rw [Nat.add_assoc, e (8 + p) (by omega), ← Nat.add_assoc]; exact (h1 p hp).2.1
  · rw [Nat.add_assoc, e (16 + p) (by omega), ← Nat.add_assoc]; exact (h1 p hp).2.2
  · rw [e 24 (by omega)]; exact h2
  · rw [e 25 (by omega)]; exact h3
theorem KX8.mv {row off : Nat} {s : AS} {g g' : St} (h : KX8 row off s g) (row' off' : Nat) (e : ∀ i, i < 25 → g' row' (off' + i) = g row (off + i)) : KX8 row' off' s g' := by
  obtain ⟨h1, h2⟩ := h
  refine ⟨fun p hp => ⟨?_, ?_, ?_⟩, ?_⟩
  · rw [e p (by omega)]; exact (h1 p hp).1
  · rw [Nat.add_assoc, e (8 + p) (by omega), ← Nat.add_assoc]; exact (h1 p hp).2.1
  · rw [Nat.add_assoc, e (16 + p) (by omega), ← Nat.add_assoc]; exact (h1 p hp).2.2
  · rw [e 24 (by omega)]; exact h2
/-- the reference's state as a kept one -/
theorem EMd.km {W : (Nat → Nat) → Nat} {n N : Nat} {K F D U T : Nat → Nat} {Y : Nat} {g : St} (h : EMd W n N K F D U T Y 16 g) : KM8 16 0 n (D, U, T, Y) g := by
  obtain ⟨⟨_, ⟨s1, s2, s3, s4⟩, _⟩, hd⟩ := h
  refine ⟨fun p hp => ⟨?_, ?_, ?_⟩, s3, s4⟩
  · rw [Nat.zero_add]; exact s1 p hp
  · rw [Nat.zero_add]; exact s2 p hp
  · rw [Nat.zero_add]; exact hd p hp
theorem S_undo : Sim_undo R := by
  intro gX xX gM xM hR
  obtain ⟨W, n, N, K, F, D, U, T, Y, d, hX, hM, hY, hW, h6, h7⟩ := id hR.2.2.2
  obtain ⟨g0, hg0⟩ : ∃ g0, g0 = st gM 0 0 (i3 0) := ⟨_, rfl⟩
  have k0 : KM gM g0 := by rw [hg0]; exact KM.thrown
  have hR0 : R gX xX g0 xM := hR.fr KX.rf k0
  obtain ⟨W, n, N, K, F, D, U, T, Y, d, hX, hM, hY, hW, h6, h7⟩ := id hR0.2.2.2
  obtain ⟨⟨w, w1, w2, w3, w4⟩, m, m1', m2, m3, m4⟩ := h7
  have w3' : gM 0 32 = i3 w := by rw [← w3, hg0, st_at, if_neg (by omega)]
  by_cases q : w = 0
  · subst q
    refine ⟨(m1, gX), (m1, g0), ?_, ?_, hR0, rfl⟩
    · simp (disch := (first | omega | assumption | trivial)) only [li_0, li_1, li_2, li_3, li_4, li_5, li_6, li_7, li_8, li_9, li_10, li_11, li_12, li_13, li_14, li_15, li_16, li_17, li_18, li_19, li_20, li_21, li_22, li_23, li_24, li_25, li_26, li_27, li_28, li_29, li_30, li_31, li_32, li_33, li_34, li_35, li_36, li_37, li_38, li_39, li_40, li_41, li_42, li_43, li_44, li_45, li_46, li_47, li_48, li_49, li_50, li_51, li_52, li_53, li_54, li_55, li_56, li_57, li_58, li_59, li_60, li_63, li_64, li_72, li_76, li_77, li_91, li_93, li_96, li_97, li_99, li_108, li_109, li_120, li_122, li_150, li_200, li_255, li_400, li_426, li_600, li_900, li_999, li_1000, li_1002, li_1003, li_2000, li_2042, li_2043, li_2045, li_10000, li_32767, li_100000, li_1000000, li_m1, li_m1b, ob_s, lt1_e, se_l, se_r, if_true, if_false, true_and, and_true, false_and, and_false, st_at, i3_add, i3_mul, i3_sub, i3_lt, i3_le, i3_eq, i3_nat, m1_eqi, i3_eqm, m1_lti, m1_lei, i3_ltm, i3_lem, i3_decm, i3_dec0, nm_eqm, yr_eqm, mxor0, Nat.zero_add, if_pos, if_neg, eq_self, ne_eq, not_true_eq_false, not_false_eq_true, fX_undo, w2]
    · simp (disch := (first | omega | assumption | trivial)) only [li_0, li_1, li_2, li_3, li_4, li_5, li_6, li_7, li_8, li_9, li_10, li_11, li_12, li_13, li_14, li_15, li_16, li_17, li_18, li_19, li_20, li_21, li_22, li_23, li_24, li_25, li_26, li_27, li_28, li_29, li_30, li_31, li_32, li_33, li_34, li_35, li_36, li_37, li_38, li_39, li_40, li_41, li_42, li_43, li_44, li_45, li_46, li_47, li_48, li_49, li_50, li_51, li_52, li_53, li_54, li_55, li_56, li_57, li_58, li_59, li_60, li_63, li_64, li_72, li_76, li_77, li_91, li_93, li_96, li_97, li_99, li_108, li_109, li_120, li_122, li_150, li_200, li_255, li_400, li_426, li_600, li_900, li_999, li_1000, li_1002, li_1003, li_2000, li_2042, li_2043, li_2045, li_10000, li_32767, li_100000, li_1000000, li_m1, li_m1b, ob_s, lt1_e, se_l, se_r, if_true, if_false, true_and, and_true, false_and, and_false, st_at, i3_add, i3_mul, i3_sub, i3_lt, i3_le, i3_eq, i3_nat, m1_eqi, i3_eqm, m1_lti, m1_lei, i3_ltm, i3_lem, i3_decm, i3_dec0, nm_eqm, yr_eqm, mxor0, Nat.zero_add, if_pos, if_neg, eq_self, ne_eq, not_true_eq_false, not_false_eq_true, fM_undo, hg0.symm, w3']
  · obtain ⟨s, hs1, hs2, hs3⟩ := w4 (w - 1) (by omega)
    have c1 := X_read (g := st gX 12 2 (i3 (w - 1))) (row := 43) (o := 25 * (w - 1)) (Or.inl rfl) (show lenW shX 43 = 400 from rfl) (by omega) (by omega)
    have hm := i3_mul (w - 1) 25
    rw [Nat.mul_comm (w - 1) 25] at hm
    have c2 := M_copies (a := 458 + (w - 1)) (b := 16) (lnB (by omega)) rfl (by omega) (st g0 0 32 (i3 (w - 1)))
    have ks : KX8 43 (25 * (w - 1)) s (st gX 12 2 (i3 (w - 1))) := hs1.fr (fun i => by rw [st_ne (by omega)])
    have hS := rdS_SX (Or.inl rfl) ks
    have hS2 : SX 10 s.1 s.2.1 s.2.2.1 s.2.2.2 (st (rdS (st gX 12 2 (i3 (w - 1))) 43 (25 * (w - 1))) 0 16 (i3 0)) := hS.fr (st_ne (by omega)) (st_ne (by omega)) (st_ne (by omega)) (st_ne (by omega))
    have xo : ∀ p i, ¬ (37 ≤ p ∧ p ≤ 39) → ¬ (p = 10 ∧ i = 5) → ¬ (p = 12 ∧ i = 2) → ¬ (p = 0 ∧ i = 16) → (st (rdS (st gX 12 2 (i3 (w - 1))) 43 (25 * (w - 1))) 0 16 (i3 0)) p i = gX p i := fun p i a b c d => by
      rw [st_at, if_neg d, rdS_out a b, st_at, if_neg c]
    have mo : ∀ p i, ¬ p = 16 → ¬ (p = 0 ∧ i = 32) → ¬ (p = 0 ∧ i = 33) → (st (cpS (st g0 0 32 (i3 (w - 1))) (458 + (w - 1)) 0 16 0 26) 0 33 (i3 0)) p i = g0 p i := fun p i a b c => by
      rw [st_at, if_neg c, cpS_ne a, st_at, if_neg b]
    have kM : KM8 16 0 n s (st (cpS (st g0 0 32 (i3 (w - 1))) (458 + (w - 1)) 0 16 0 26) 0 33 (i3 0)) := hs2.mv 16 0 (fun i hi => by
      rw [st_ne (by omega), cpS_in hi, st_ne (by omega)])
    obtain ⟨gB, gY, d', gW⟩ := hs3
    have r2 : rdS (st gX 12 2 (i3 (w - 1))) 43 (25 * (w - 1)) 12 2 = i3 (w - 1) := by
      rw [rdS_out (by omega) (by omega), st_eq]
    have r3 : cpS (st g0 0 32 (i3 (w - 1))) (458 + (w - 1)) 0 16 0 26 0 32 = i3 (w - 1) := by
      rw [cpS_ne (by omega), st_eq]
    have hRR : R (st (rdS (st gX 12 2 (i3 (w - 1))) 43 (25 * (w - 1))) 0 16 (i3 0)) xX (st (cpS (st g0 0 32 (i3 (w - 1))) (458 + (w - 1)) 0 16 0 26) 0 33 (i3 0)) xM := by
      refine ⟨?_, ?_, ?_, W, n, N, K, F, s.1, s.2.1, s.2.2.1, s.2.2.2, d', ?_, ?_, gY, gW, ?_, ?_⟩
      · obtain ⟨len, b, l1, l2, l3, l4⟩ := hR0.1
        exact ⟨len, b, l1, by rw [xo 1 1 (by omega) (by omega) (by omega) (by omega)]; exact l2, by rw [mo 0 1 (by omega) (by omega) (by omega)]; exact l3, fun k hk => by rw [xo 16 k (by omega) (by omega) (by omega) (by omega), mo 1 k (by omega) (by omega) (by omega)]; exact l4 k hk⟩
      · obtain ⟨b1, b2, b3⟩ := hR0.2.1
        exact ⟨by rw [xo 1 7 (by omega) (by omega) (by omega) (by omega), mo 0 3 (by omega) (by omega) (by omega)]; exact b1, by rw [xo 0 17 (by omega) (by omega) (by omega) (by omega), mo 2 0 (by omega) (by omega) (by omega)]; exact b2, by rw [xo 0 18 (by omega) (by omega) (by omega) (by omega), mo 2 1 (by omega) (by omega) (by omega)]; exact b3⟩
      · unfold R4
        rw [st_eq, st_eq]
      · exact hX.mk5 hS2 gB (fun p i h => xo p i (by omega) (by omega) (by omega) (by omega))
      · exact hM.mk5 kM gB (fun p i h => mo p i (by omega) (by omega) (by omega))
      · obtain ⟨l, A, V, B, l1, l2, l3, l4, l5⟩ := h6
        refine ⟨l, A, V, B, l1, by rw [xo 8 1 (by omega) (by omega) (by omega) (by omega)]; exact l2, by rw [mo 0 31 (by omega) (by omega) (by omega)]; exact l3, fun k hk => ?_, fun h0 p hp => ?_⟩
        · rw [mo _ 0 (by omega) (by omega) (by omega), mo _ 1 (by omega) (by omega) (by omega)]; exact l4 k hk
        · rw [xo 35 p (by omega) (by omega) (by omega) (by omega)]; exact l5 h0 p hp
      · refine ⟨⟨w - 1, by omega, by rw [st_at, if_neg (by omega)]; exact r2, by rw [st_at, if_neg (by omega)]; exact r3, fun k hk => (w4 k (by omega)).fr (fun i => xo 43 i (by omega) (by omega) (by omega) (by omega)) (fun i => mo _ i (by omega) (by omega) (by omega))⟩, m, m1', by rw [xo 12 3 (by omega) (by omega) (by omega) (by omega)]; exact m2, by rw [mo 0 34 (by omega) (by omega) (by omega)]; exact m3, fun j hj => ?_⟩
        obtain ⟨v, v1, v2, v3, v4, v5⟩ := m4 j hj
        exact ⟨v, v1, by rw [xo 44 _ (by omega) (by omega) (by omega) (by omega)]; exact v2, by rw [mo _ 0 (by omega) (by omega) (by omega)]; exact v3, v4.fr (fun i => xo 44 i (by omega) (by omega) (by omega) (by omega)) (fun i => mo _ i (by omega) (by omega) (by omega)), fun k hk => (v5 k hk).fr (fun i => xo 44 i (by omega) (by omega) (by omega) (by omega)) (fun i => mo _ i (by omega) (by omega) (by omega))⟩
    refine ⟨(i3 (w - 1), (st (rdS (st gX 12 2 (i3 (w - 1))) 43 (25 * (w - 1))) 0 16 (i3 0))), (i3 (w - 1), (st (cpS (st g0 0 32 (i3 (w - 1))) (458 + (w - 1)) 0 16 0 26) 0 33 (i3 0))), ?_, ?_, hRR, rfl⟩
    · simp (disch := (first | omega | assumption | trivial)) only [li_0, li_1, li_2, li_3, li_4, li_5, li_6, li_7, li_8, li_9, li_10, li_11, li_12, li_13, li_14, li_15, li_16, li_17, li_18, li_19, li_20, li_21, li_22, li_23, li_24, li_25, li_26, li_27, li_28, li_29, li_30, li_31, li_32, li_33, li_34, li_35, li_36, li_37, li_38, li_39, li_40, li_41, li_42, li_43, li_44, li_45, li_46, li_47, li_48, li_49, li_50, li_51, li_52, li_53, li_54, li_55, li_56, li_57, li_58, li_59, li_60, li_63, li_64, li_72, li_76, li_77, li_91, li_93, li_96, li_97, li_99, li_108, li_109, li_120, li_122, li_150, li_200, li_255, li_400, li_426, li_600, li_900, li_999, li_1000, li_1002, li_1003, li_2000, li_2042, li_2043, li_2045, li_10000, li_32767, li_100000, li_1000000, li_m1, li_m1b, ob_s, lt1_e, se_l, se_r, if_true, if_false, true_and, and_true, false_and, and_false, st_at, i3_add, i3_mul, i3_sub, i3_lt, i3_le, i3_eq, i3_nat, m1_eqi, i3_eqm, m1_lti, m1_lei, i3_ltm, i3_lem, i3_decm, i3_dec0, nm_eqm, yr_eqm, mxor0, Nat.zero_add, if_pos, if_neg, eq_self, ne_eq, not_true_eq_false, not_false_eq_true, fX_undo, fX_Past_undoWork, w2, hm, c1, r2]
    · simp (disch := (first | omega | assumption | trivial)) only [li_0, li_1, li_2, li_3, li_4, li_5, li_6, li_7, li_8, li_9, li_10, li_11, li_12, li_13, li_14, li_15, li_16, li_17, li_18, li_19, li_20, li_21, li_22, li_23, li_24, li_25, li_26, li_27, li_28, li_29, li_30, li_31, li_32, li_33, li_34, li_35, li_36, li_37, li_38, li_39, li_40, li_41, li_42, li_43, li_44, li_45, li_46, li_47, li_48, li_49, li_50, li_51, li_52, li_53, li_54, li_55, li_56, li_57, li_58, li_59, li_60, li_63, li_64, li_72, li_76, li_77, li_91, li_93, li_96, li_97, li_99, li_108, li_109, li_120, li_122, li_150, li_200, li_255, li_400, li_426, li_600, li_900, li_999, li_1000, li_1002, li_1003, li_2000, li_2042, li_2043, li_2045, li_10000, li_32767, li_100000, li_1000000, li_m1, li_m1b, ob_s, lt1_e, se_l, se_r, if_true, if_false, true_and, and_true, false_and, and_false, st_at, i3_add, i3_mul, i3_sub, i3_lt, i3_le, i3_eq, i3_nat, m1_eqi, i3_eqm, m1_lti, m1_lei, i3_ltm, i3_lem, i3_decm, i3_dec0, nm_eqm, yr_eqm, mxor0, Nat.zero_add, if_pos, if_neg, eq_self, ne_eq, not_true_eq_false, not_false_eq_true, fM_undo, hg0.symm, w3', c2, r3]
