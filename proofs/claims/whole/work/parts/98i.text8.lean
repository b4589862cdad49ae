/-! PURE: text: rows laid over rows; where a text begins and how it ends -/
def layS (g : St) (a b m : Nat) : St := fun p i => if b ≤ p ∧ p < b + m ∧ i < 2 then g (a + (p - b)) i else g p i
theorem layS_in {g : St} {a b m k i : Nat} (h : k < m) (hi : i < 2) : layS g a b m (b + k) i = g (a + k) i := by
  unfold layS
  rw [if_pos (by omega), show b + k - b = k by omega]
theorem layS_out {g : St} {a b m p i : Nat} (h : ¬ (b ≤ p ∧ p < b + m)) : layS g a b m p i = g p i := by
  unfold layS
  rw [if_neg (by omega)]
theorem ofn_ (k : Nat) : Int32.ofNat k = i3 k := rfl
theorem M_lays {x0 x1 a b m : Nat} (ha : bsM x0 = a) (hb : bsM x1 = b) (n0 : m ≤ lngW shM x0) (n1 : m ≤ lngW shM x1) (l0 : ∀ k, k < m → lenW shM (a + k) = 2) (l1 : ∀ k, k < m → lenW shM (b + k) = 2) (hd : a + m ≤ b ∨ b + m ≤ a) (hm : m ≤ 160) (g : St) : fM_lays x0 x1 (i3 m) g = some (layS g a b m) := by
  have inner : ∀ k (s : St), k < m → fM_lays_b10 x0 x1 (i3 m) (i3 k) (i3 0) s = some (.inl (i3 (k + 1), st (st s (b + k) 0 (s (a + k) 0)) (b + k) 1 (s (a + k) 1))) := by
    intro k s hk
    have h0 := l0 k hk
    have h1 := l1 k hk
    have t1 : ∀ (j : Nat) (s : St), j < 2 → fM_lays_L10 x0 x1 (i3 m) (i3 k) (i3 j, s) = some (.inl (i3 (j + 1), st s (b + k) j (s (a + k) j))) := by
      intro j s hj
      have hj2 : ¬ 2 ≤ j := by omega
      simp (disch := (first | omega | assumption | trivial)) only [li_0, li_1, li_2, li_3, li_4, li_5, li_6, li_7, li_8, li_9, li_10, li_11, li_12, li_13, li_14, li_15, li_16, li_17, li_18, li_19, li_20, li_21, li_22, li_23, li_24, li_25, li_26, li_27, li_28, li_29, li_30, li_31, li_32, li_33, li_34, li_35, li_36, li_37, li_38, li_39, li_40, li_41, li_42, li_43, li_44, li_45, li_46, li_47, li_48, li_49, li_50, li_51, li_52, li_53, li_54, li_55, li_56, li_57, li_58, li_59, li_60, li_63, li_64, li_72, li_76, li_77, li_91, li_93, li_96, li_97, li_99, li_108, li_109, li_120, li_122, li_150, li_200, li_255, li_400, li_426, li_600, li_900, li_999, li_1000, li_1002, li_1003, li_2000, li_2042, li_2043, li_2045, li_10000, li_32767, li_100000, li_1000000, li_m1, li_m1b, ob_s, lt1_e, se_l, se_r, if_true, if_false, true_and, and_true, false_and, and_false, st_at, i3_add, i3_mul, i3_sub, i3_lt, i3_le, i3_eq, i3_nat, m1_eqi, i3_eqm, m1_lti, m1_lei, i3_ltm, i3_lem, i3_decm, i3_dec0, nm_eqm, yr_eqm, mxor0, Nat.zero_add, if_pos, if_neg, eq_self, ne_eq, not_true_eq_false, not_false_eq_true, fM_lays_L10, ha, hb, h0, h1, ofn_]
    have t2 : ∀ (s : St), fM_lays_L10 x0 x1 (i3 m) (i3 k) (i3 2, s) = some (.inr s) := by
      intro s
      simp (disch := (first | omega | assumption | trivial)) only [li_0, li_1, li_2, li_3, li_4, li_5, li_6, li_7, li_8, li_9, li_10, li_11, li_12, li_13, li_14, li_15, li_16, li_17, li_18, li_19, li_20, li_21, li_22, li_23, li_24, li_25, li_26, li_27, li_28, li_29, li_30, li_31, li_32, li_33, li_34, li_35, li_36, li_37, li_38, li_39, li_40, li_41, li_42, li_43, li_44, li_45, li_46, li_47, li_48, li_49, li_50, li_51, li_52, li_53, li_54, li_55, li_56, li_57, li_58, li_59, li_60, li_63, li_64, li_72, li_76, li_77, li_91, li_93, li_96, li_97, li_99, li_108, li_109, li_120, li_122, li_150, li_200, li_255, li_400, li_426, li_600, li_900, li_999, li_1000, li_1002, li_1003, li_2000, li_2042, li_2043, li_2045, li_10000, li_32767, li_100000, li_1000000, li_m1, li_m1b, ob_s, lt1_e, se_l, se_r, if_true, if_false, true_and, and_true, false_and, and_false, st_at, i3_add, i3_mul, i3_sub, i3_lt, i3_le, i3_eq, i3_nat, m1_eqi, i3_eqm, m1_lti, m1_lei, i3_ltm, i3_lem, i3_decm, i3_dec0, nm_eqm, yr_eqm, mxor0, Nat.zero_add, if_pos, if_neg, eq_self, ne_eq, not_true_eq_false, not_false_eq_true, fM_lays_L10, ha, hb, h0, h1, ofn_]
    have e : lp (fM_lays_L10 x0 x1 (i3 m) (i3 k)) fuel (i3 0, s) = some (st (st s (b + k) 0 (s (a + k) 0)) (b + k) 1 (s (a + k) 1)) := by
      rw [show fuel = 999997 + 1 + 1 + 1 from rfl, lp_s (t1 0 s (by omega)), lp_s (t1 1 _ (by omega)), lp_e (t2 _), st_at, if_neg (by omega)]
    simp (disch := (first | omega | assumption | trivial)) only [li_0, li_1, li_2, li_3, li_4, li_5, li_6, li_7, li_8, li_9, li_10, li_11, li_12, li_13, li_14, li_15, li_16, li_17, li_18, li_19, li_20, li_21, li_22, li_23, li_24, li_25, li_26, li_27, li_28, li_29, li_30, li_31, li_32, li_33, li_34, li_35, li_36, li_37, li_38, li_39, li_40, li_41, li_42, li_43, li_44, li_45, li_46, li_47, li_48, li_49, li_50, li_51, li_52, li_53, li_54, li_55, li_56, li_57, li_58, li_59, li_60, li_63, li_64, li_72, li_76, li_77, li_91, li_93, li_96, li_97, li_99, li_108, li_109, li_120, li_122, li_150, li_200, li_255, li_400, li_426, li_600, li_900, li_999, li_1000, li_1002, li_1003, li_2000, li_2042, li_2043, li_2045, li_10000, li_32767, li_100000, li_1000000, li_m1, li_m1b, ob_s, lt1_e, se_l, se_r, if_true, if_false, true_and, and_true, false_and, and_false, st_at, i3_add, i3_mul, i3_sub, i3_lt, i3_le, i3_eq, i3_nat, m1_eqi, i3_eqm, m1_lti, m1_lei, i3_ltm, i3_lem, i3_decm, i3_dec0, nm_eqm, yr_eqm, mxor0, Nat.zero_add, if_pos, if_neg, eq_self, ne_eq, not_true_eq_false, not_false_eq_true, fM_lays_b10, e]
  have e : lp (fM_lays_L2 x0 x1 (i3 m)) fuel (i3 0, g) = some (layS g a b m) := by
    refine lp_cnt0 (fun k => (i3 k, layS g a b k)) (by
      refine congrArg (Prod.mk _) (funext fun p => funext fun i => ?_)
      exact layS_out (by omega)) m (by omega) (fun k hk => ?_) ?_
    · show fM_lays_L2 x0 x1 (i3 m) (i3 k, layS g a b k) = some (.inl (i3 (k + 1), layS g a b (k + 1)))
      unfold fM_lays_L2
      show (if i3 m ≤ i3 k then _ else fM_lays_b10 x0 x1 (i3 m) (i3 k) (i3 0) (layS g a b k)) = _
      rw [if_neg (i3_nle (by omega) hk), inner k _ hk]
      refine congrArg (fun z => some (Sum.inl (i3 (k + 1), z))) (funext fun p => funext fun i => ?_)
      rw [st_at, st_at, layS_out (p := a + k) (by omega), layS_out (p := a + k) (by omega)]
      by_cases q : p = b + k
      · subst q
        by_cases q0 : i = 0
        · subst q0
          rw [if_neg (by omega), if_pos ⟨rfl, rfl⟩, layS_in (by omega) (by omega)]
        · by_cases q1 : i = 1
          · subst q1
            rw [if_pos ⟨rfl, rfl⟩, layS_in (by omega) (by omega)]
          · rw [if_neg (by omega), if_neg (by omega)]
            unfold layS
            rw [if_neg (by omega), if_neg (by omega)]
      · rw [if_neg (fun z => q z.1), if_neg (fun z => q z.1)]
        unfold layS
        by_cases q2 : b ≤ p ∧ p < b + k ∧ i < 2
        · rw [if_pos q2, if_pos (by omega)]
        · rw [if_neg q2, if_neg (by omega)]
    · show fM_lays_L2 x0 x1 (i3 m) (i3 m, layS g a b m) = _
      unfold fM_lays_L2
      show (if i3 m ≤ i3 m then _ else _) = _
      rw [if_pos (i3_yle (by omega) (Nat.le_refl _))]
  simp (disch := (first | omega | assumption | trivial)) only [li_0, li_1, li_2, li_3, li_4, li_5, li_6, li_7, li_8, li_9, li_10, li_11, li_12, li_13, li_14, li_15, li_16, li_17, li_18, li_19, li_20, li_21, li_22, li_23, li_24, li_25, li_26, li_27, li_28, li_29, li_30, li_31, li_32, li_33, li_34, li_35, li_36, li_37, li_38, li_39, li_40, li_41, li_42, li_43, li_44, li_45, li_46, li_47, li_48, li_49, li_50, li_51, li_52, li_53, li_54, li_55, li_56, li_57, li_58, li_59, li_60, li_63, li_64, li_72, li_76, li_77, li_91, li_93, li_96, li_97, li_99, li_108, li_109, li_120, li_122, li_150, li_200, li_255, li_400, li_426, li_600, li_900, li_999, li_1000, li_1002, li_1003, li_2000, li_2042, li_2043, li_2045, li_10000, li_32767, li_100000, li_1000000, li_m1, li_m1b, ob_s, lt1_e, se_l, se_r, if_true, if_false, true_and, and_true, false_and, and_false, st_at, i3_add, i3_mul, i3_sub, i3_lt, i3_le, i3_eq, i3_nat, m1_eqi, i3_eqm, m1_lti, m1_lei, i3_ltm, i3_lem, i3_decm, i3_dec0, nm_eqm, yr_eqm, mxor0, Nat.zero_add, if_pos, if_neg, eq_self, ne_eq, not_true_eq_false, not_false_eq_true, fM_lays, fM_lays_b2, e]
theorem ln26 : ∀ k, k < 8 → lenW shM (26 + k) = 2 ∧ lenW shM (34 + k) = 2 ∧ lenW shM (362 + k) = 2 ∧ lenW shM (370 + k) = 2 := by decide +kernel
theorem ln42 : ∀ k, k < 160 → lenW shM (42 + k) = 2 ∧ lenW shM (202 + k) = 2 := by decide +kernel
/-- what the states look at, the book aside -/
def KX6 (g g' : St) : Prop := ∀ p i, (p = 2 ∨ p = 10 ∨ p = 12 ∨ p = 17 ∨ p = 19 ∨ p = 23 ∨ (37 ≤ p ∧ p ≤ 39) ∨ p = 43 ∨ p = 44 ∨ (p = 4 ∧ i = 3)) → g' p i = g p i
def KM6 (g g' : St) : Prop := ∀ p i, (p = 4 ∨ p = 8 ∨ p = 16 ∨ (34 ≤ p ∧ p < 202) ∨ (458 ≤ p ∧ p < 477) ∨ (p = 0 ∧ (i = 17 ∨ i = 32 ∨ i = 34))) → g' p i = g p i
theorem R7.fr6 {n : Nat} {gX gM gX' gM' : St} (h : R7 n gX gM) (e : ∀ p i, (p = 12 ∨ p = 43 ∨ p = 44) → gX' p i = gX p i) (f : ∀ p i, ((458 ≤ p ∧ p < 477) ∨ (p = 0 ∧ (i = 32 ∨ i = 34))) → gM' p i = gM p i) : R7 n gX' gM' := by
  obtain ⟨⟨w, w1, w2, w3, w4⟩, m, m1, m2, m3, m4⟩ := h
  refine ⟨⟨w, w1, by rw [e 12 2 (by omega)]; exact w2, by rw [f 0 32 (by omega)]; exact w3, fun k hk => (w4 k hk).fr (fun i => e 43 i (by omega)) (fun i => f _ i (by omega))⟩, m, m1, by rw [e 12 3 (by omega)]; exact m2, by rw [f 0 34 (by omega)]; exact m3, fun j hj => ?_⟩
  obtain ⟨v, v1, v2, v3, v4, v5⟩ := m4 j hj
  exact ⟨v, v1, by rw [e 44 _ (by omega)]; exact v2, by rw [f _ 0 (by omega)]; exact v3, v4.fr (fun i => e 44 i (by omega)) (fun i => f _ i (by omega)), fun k hk => (v5 k hk).fr (fun i => e 44 i (by omega)) (fun i => f _ i (by omega))⟩
theorem EC.fr6 {W : (Nat → Nat) → Nat} {n N : Nat} {K F D U T : Nat → Nat} {Y : Nat} {g g' : St} (h : EC W n N K F D U T Y 10 g) (e : KX6 g g') : EC W n N K F D U T Y 10 g' := by
  obtain ⟨hr, hS, hB, hC, hL, hW⟩ := h
  have E : ∀ p, (p = 2 ∨ p = 10 ∨ p = 17 ∨ p = 19 ∨ p = 23 ∨ (37 ≤ p ∧ p ≤ 39)) → g' p = g p := fun p hp => funext fun i => e p i (by omega)
  exact ⟨hr, hS.fr (E 10 (by omega)) (E _ (by omega)) (E _ (by omega)) (E _ (by omega)), hB, hC.fr (E 2 (by omega)) (E 17 (by omega)) (E 19 (by omega)), hL.fr (e 4 3 (by omega)) (E 23 (by omega)), hW⟩
theorem EMd.fr6 {W : (Nat → Nat) → Nat} {n N : Nat} {K F D U T : Nat → Nat} {Y : Nat} {g g' : St} (h : EMd W n N K F D U T Y 16 g) (e : KM6 g g') : EMd W n N K F D U T Y 16 g' := by
  obtain ⟨⟨hr, hS, hB, hC, hL, hW⟩, hd⟩ := h
  have E : ∀ p, (p = 4 ∨ p = 8 ∨ p = 16 ∨ (34 ≤ p ∧ p < 202)) → g' p = g p := fun p hp => funext fun i => e p i (by omega)
  refine ⟨⟨hr, hS.fr (E 16 (by omega)), hB, hC.fr hB.1 (E 4 (by omega)) (E 8 (by omega)) (fun p hp => E _ (by omega)), hL.fr (e 0 17 (by omega)) (fun p a b => E p (by omega)), hW⟩, fun p hp => ?_⟩
  rw [E 16 (by omega)]
  exact hd p hp
theorem R_fin {gX gM gX' gM' : St} {xX xM : Sl} (h : R gX xX gM xM) (a1 : ∀ i, gX' 16 i = gX 16 i) (a2 : ∀ i, gM' 1 i = gM 1 i) (a3 : gX' 1 1 = i3 0) (a4 : gM' 0 1 = i3 0) (a5 : gX' 1 7 = gM' 0 3) (a6 : gX' 0 17 = gX 0 17) (a7 : gX' 0 18 = gX 0 18) (a8 : ∀ i, gM' 2 i = gM 2 i) (h4 : gX' 0 16 = gM' 0 33) (h5 : R5 gX' gM') : R gX' xX gM' xM := by
  obtain ⟨⟨len, b, l1, l2, l3, l4⟩, ⟨b1, b2, b3⟩, _, _⟩ := h
  exact ⟨⟨0, b, by omega, a3, a4, fun k hk => by rw [a1, a2]; exact l4 k hk⟩, ⟨a5, by rw [a6, a8]; exact b2, by rw [a7, a8]; exact b3⟩, h4, h5⟩
/-- a text begins -/
theorem begin_both {gX gM : St} {e : Nat} {b : Nat → Nat} (he : e ≤ 600) (tp : ∀ k, k < 600 → b k < 256 ∧ gX 16 k = i3 (b k) ∧ gM 1 k = i3 (b k)) : ∃ t gX1 gM1, fX_Text_begin (i3 e) gX = gX1 ∧ fM_starts (i3 e) gM = some gM1 ∧ TS e b 0 0 t gX1 gM1 ∧ gM1 0 4 = i3 t ∧ gX1 1 1 = i3 0 ∧ gX1 1 7 = m1 ∧ (∀ p i, ¬ (p = 1 ∧ 1 ≤ i ∧ i ≤ 7) → gX1 p i = gX p i) ∧ gM1 0 1 = i3 0 ∧ gM1 0 8 = i3 0 ∧ gM1 0 7 = i3 0 ∧ ∀ p i, ¬ (p = 0 ∧ 1 ≤ i ∧ i ≤ 8 ∧ ¬ i = 3) → gM1 p i = gM p i := by
  obtain ⟨t, hn⟩ := nb_ex (e := e) (b := b) (c := 0) (by omega)
  obtain ⟨m, r, hm⟩ := hn
  have hn : nb e b 0 t := ⟨m, r, hm⟩
  have ft : 0 + m = t := hm
  obtain ⟨gX1, hX1⟩ : ∃ g, fX_Text_begin (i3 e) gX = g := ⟨_, rfl⟩
  have X1 : gX1 = st (st (st (st (st gX 1 2 (i3 e)) 1 1 (i3 0)) 1 3 (i3 0)) 1 6 (i3 0)) 1 7 m1 := by rw [← hX1]; rfl
  obtain ⟨g1, hg1⟩ : ∃ g, g = st (st (st (st (st (st (st gM 0 1 (i3 0)) 0 2 (i3 e)) 0 4 (i3 0)) 0 5 (i3 0)) 0 6 m1) 0 7 (i3 0)) 0 8 (i3 0) := ⟨_, rfl⟩
  have fX : ∀ p i, ¬ (p = 1 ∧ 1 ≤ i ∧ i ≤ 7) → gX1 p i = gX p i := fun p i w => by
    rw [X1, st_at, if_neg (by omega), st_at, if_neg (by omega), st_at, if_neg (by omega), st_at, if_neg (by omega), st_at, if_neg (by omega)]
  have fM : ∀ p i, ¬ (p = 0 ∧ 1 ≤ i ∧ i ≤ 8 ∧ ¬ i = 3) → g1 p i = gM p i := fun p i w => by
    rw [hg1, st_at, if_neg (by omega), st_at, if_neg (by omega), st_at, if_neg (by omega), st_at, if_neg (by omega), st_at, if_neg (by omega), st_at, if_neg (by omega), st_at, if_neg (by omega)]
  have hT1 : TMt e b g1 := ⟨he, by rw [hg1]; simp [st_at], fun k hk => ⟨(tp k hk).1, (fM 1 k (by omega)).trans (tp k hk).2.2⟩⟩
  have hX2 : TXt e b gX1 := ⟨he, by rw [X1]; simp [st_at], fun k hk => ⟨(tp k hk).1, (fX 16 k (by omega)).trans (tp k hk).2.1⟩⟩
  obtain ⟨g2, e2, e4, f2⟩ := M_blanks hT1 (c := 0) (by rw [hg1]; simp [st_at]) r
  rw [ft] at e4
  refine ⟨t, gX1, g2, hX1, ?_, ⟨⟨hX2, by rw [X1]; simp [st_at], by omega, (nb_le hn).2, fun _ => ⟨0, by rw [X1]; simp [st_at], hn⟩, (by rw [X1]; simp [st_at] : gX1 1 7 = m1).trans (if_pos rfl).symm⟩, ⟨hT1.fr f2, by rw [f2 0 5 (by omega), hg1]; simp [st_at], by omega, (nb_le hn).2, ⟨t, e4, (nb_le hn).2, fun _ => nb_rf hn⟩, fun z => absurd rfl z⟩⟩, e4, by rw [X1]; simp [st_at], by rw [X1]; simp [st_at], fX, by rw [f2 0 1 (by omega), hg1]; simp [st_at], by rw [f2 0 8 (by omega), hg1]; simp [st_at], by rw [f2 0 7 (by omega), hg1]; simp [st_at], fun p i w => (f2 p i (by omega)).trans (fM p i w)⟩
  show (fM_blanks (st (st (st (st (st (st (st gM 0 1 (i3 0)) 0 2 (i3 e)) 0 4 (i3 0)) 0 5 (i3 0)) 0 6 m1) 0 7 (i3 0)) 0 8 (i3 0))).bind _ = _
  rw [← hg1, e2]
  rfl
/-- two loops in step -/
theorem lp_both {σ ρ σ' ρ' : Type} {f : σ → Option (σ ⊕ ρ)} {f' : σ' → Option (σ' ⊕ ρ')} (P : Nat → σ → σ' → Prop) (E : ρ → ρ' → Prop) (h : ∀ k s s', P k s s' → (∃ j t t', j < k ∧ f s = some (.inl t) ∧ f' s' = some (.inl t') ∧ P j t t') ∨ ∃ r r', f s = some (.inr r) ∧ f' s' = some (.inr r') ∧ E r r') : ∀ (m m' k : Nat) (s : σ) (s' : σ'), P k s s' → k < m → k < m' → ∃ r r', lp f m s = some r ∧ lp f' m' s' = some r' ∧ E r r'
  | 0, _, k, s, s', _, h1, _ => by omega
  | _ + 1, 0, k, s, s', _, _, h2 => by omega
  | m + 1, m' + 1, k, s, s', hP, h1, h2 => by
    rcases h k s s' hP with ⟨j, t, t', hj, e1, e2, h3⟩ | ⟨r, r', e1, e2, h3⟩
    · rw [lp_inl e1, lp_inl e2]
      exact lp_both P E h m m' j t t' h3 (by omega) (by omega)
    · exact ⟨r, r', lp_inr e1, lp_inr e2, h3⟩
theorem lp_bothF {σ ρ σ' ρ' : Type} {f : σ → Option (σ ⊕ ρ)} {f' : σ' → Option (σ' ⊕ ρ')} (P : Nat → σ → σ' → Prop) (E : ρ → ρ' → Prop) (h : ∀ k s s', P k s s' → (∃ j t t', j < k ∧ f s = some (.inl t) ∧ f' s' = some (.inl t') ∧ P j t t') ∨ ∃ r r', f s = some (.inr r) ∧ f' s' = some (.inr r') ∧ E r r') {k : Nat} {s : σ} {s' : σ'} (h0 : P k s s') (hk : k < 1000000) : ∃ r r', lp f fuel s = some r ∧ lp f' fuel s' = some r' ∧ E r r' := lp_both P E h fuel fuel k s s' h0 (by rw [fuel_eq]; exact hk) (by rw [fuel_eq]; exact hk)
