/-! PURE: under whose name, by how long a chain -/
def AC (U d : Nat → Nat) : Prop := ∀ p, p < 8 → (U p = 8 → d p = 0) ∧ (¬ U p = 8 → d p = d (U p) + 1) ∧ d p ≤ cntB (fun q => decide (¬ U q = 8)) 8
def WF (U T d : Nat → Nat) : Prop := (∀ p, p < 8 → T p = 0 → U p = 8) ∧ AC U d
theorem AC.le {U d : Nat → Nat} (h : AC U d) {p : Nat} (hp : p < 8) : d p ≤ 8 := Nat.le_trans (h p hp).2.2 (cntB_le _ 8)
def en (U : Nat → Nat) : Nat → Nat → Nat
  | 0, p => p
  | k + 1, p => if U p = 8 then p else en U k (U p)
theorem en_st {U d : Nat → Nat} (h : AC U d) (hU : ∀ p, p < 8 → U p = 8 ∨ U p < 8) : ∀ k p, p < 8 → d p ≤ k → en U k p = en U (k + 1) p
  | 0, p, hp, hk => by
    have h1 := h p hp
    by_cases q : U p = 8
    · show p = if U p = 8 then p else en U 0 (U p)
      rw [if_pos q]
    · have := h1.2.1 q
      omega
  | k + 1, p, hp, hk => by
    have h1 := h p hp
    have h2 := hU p hp
    show (if U p = 8 then p else en U k (U p)) = if U p = 8 then p else en U (k + 1) (U p)
    by_cases q : U p = 8
    · rw [if_pos q, if_pos q]
    · have h3 := h1.2.1 q
      rw [if_neg q, if_neg q]
      exact en_st h hU k (U p) (by omega) (by omega)
theorem en_9 {U d : Nat → Nat} (h : AC U d) (hU : ∀ p, p < 8 → U p = 8 ∨ U p < 8) {p : Nat} (hp : p < 8) (q : ¬ U p = 8) : en U 9 p = en U 9 (U p) := by
  have h1 := (h p hp).2.1 q
  have h2 := hU p hp
  have h3 := h.le hp
  show (if U p = 8 then p else en U 8 (U p)) = _
  rw [if_neg q]
  exact en_st h hU 8 (U p) (by omega) (by omega)
theorem cnt_upd {U : Nat → Nat} {b a : Nat} (hb : U b = 8) (ha : ¬ a = 8) : ∀ k, cntB (fun q => decide (¬ updN U b a q = 8)) k = cntB (fun q => decide (¬ U q = 8)) k + if b < k then 1 else 0
  | 0 => rfl
  | k + 1 => by
    have h := cnt_upd hb ha k
    by_cases q : k = b
    · subst q
      rw [cnt_T (by simp [updN, ha]), cnt_F (by simp [hb]), h, if_neg (by omega), if_pos (by omega)]
    · by_cases q2 : U k = 8
      · rw [cnt_F (by simp [updN, q, q2]), cnt_F (by simp [q2]), h]
        by_cases q3 : b < k
        · rw [if_pos q3, if_pos (by omega)]
        · rw [if_neg q3, if_neg (by omega)]
      · rw [cnt_T (by simp [updN, q, q2]), cnt_T (by simp [q2]), h]
        by_cases q3 : b < k
        · rw [if_pos q3, if_pos (by omega)]; try omega
        · rw [if_neg q3, if_neg (by omega)]
theorem AC.take {U d : Nat → Nat} (h : AC U d) (hU : ∀ p, p < 8 → U p = 8 ∨ U p < 8) {a b : Nat} (ha : a < 8) (hb : b < 8) (hab : a ≠ b) (ua : U a = 8) (ub : U b = 8) : ∃ d', AC (updN U b a) d' := by
  refine ⟨fun p => d p + if en U 9 p = b then 1 else 0, fun p hp => ?_⟩
  have e0 : ∀ q, U q = 8 → en U 9 q = q := fun q e => by
    show (if U q = 8 then q else en U 8 (U q)) = q
    rw [if_pos e]
  have hc := cnt_upd (U := U) (b := b) (a := a) ub (by omega) 8
  rw [if_pos hb] at hc
  have h1 := h p hp
  by_cases q : p = b
  · subst q
    have h2 := h1.1 ub
    have h3 := (h a ha).1 ua
    refine ⟨fun z => ?_, fun z => ?_, ?_⟩
    · rw [updN_eq] at z; omega
    · dsimp only; rw [updN_eq, e0 p ub, e0 a ua, if_pos rfl, if_neg hab]; omega
    · rw [hc]; dsimp only; rw [e0 p ub, if_pos rfl]; omega
  · rw [updN_ne q]
    refine ⟨fun z => ?_, fun z => ?_, ?_⟩
    · dsimp only; rw [e0 p z, if_neg q]; have := h1.1 z; omega
    · have h2 := h1.2.1 z
      dsimp only
      rw [en_9 h hU hp z]; omega
    · rw [hc]
      have := h1.2.2
      dsimp only
      by_cases z : en U 9 p = b
      · rw [if_pos z]; omega
      · rw [if_neg z]; omega
theorem WF.setT {U T d : Nat → Nat} (h : WF U T d) {b v : Nat} (hv : v ≠ 0) : WF U (updN T b v) d := by
  refine ⟨fun p hp e => ?_, h.2⟩
  by_cases q : p = b
  · subst q; rw [updN_eq] at e; exact absurd e hv
  · rw [updN_ne q] at e; exact h.1 p hp e
theorem WF.take {U T d : Nat → Nat} (h : WF U T d) (hU : ∀ p, p < 8 → U p = 8 ∨ U p < 8) {a b : Nat} (ha : a < 8) (hb : b < 8) (hab : a ≠ b) (ta : T a = 0) (tb : ¬ T b = 0) (ub : U b = 8) : ∃ d', WF (updN U b a) T d' := by
  obtain ⟨d', h2⟩ := h.2.take hU ha hb hab (h.1 a ha ta) ub
  refine ⟨d', fun p hp e => ?_, h2⟩
  by_cases q : p = b
  · subst q; exact absurd e tb
  · rw [updN_ne q]; exact h.1 p hp e
theorem WF.die {W : (Nat → Nat) → Nat} {n N : Nat} {K F : Nat → Nat} {s : AS} {d : Nat → Nat} {b : Nat} (hB : BDs n s) (hW : ∀ f, W f ≤ 99) (h : WF s.2.1 s.2.2.1 d) (hb : b < n) : ∃ d', WF (dieS W n N K F s b).2.1 (dieS W n N K F s b).2.2.1 d' := by
  obtain ⟨D, U, T, Y⟩ := s
  have h8 := hB.1
  have hU : ∀ p, p < 8 → U p = 8 ∨ U p < 8 := fun p hp => by have := hB.2.2.1 p hp; dsimp only at this; omega
  unfold dieS
  dsimp only
  by_cases q : T b = 0
  · rw [if_pos q]
    have hlt := lnd_lt (W := W) (n := n) (N := N) (K := K) (F := F) (D := D) (U := U) (T := updN T b (Y + 1)) (Y := Y) (b := b) hW
    have his := lnd_is (W := W) (n := n) (N := N) (K := K) (F := F) (D := D) (U := U) (T := updN T b (Y + 1)) (Y := Y) (b := b)
    generalize lnd W n N K F D U (updN T b (Y + 1)) Y b = a at *
    have h1 : WF U (updN T b (Y + 1)) d := h.setT (by omega)
    by_cases q2 : a = 8
    · rw [if_pos q2]; exact ⟨d, h1⟩
    · rw [if_neg q2]
      rcases his with z | z
      · omega
      · exact h1.take hU (by omega) (by omega) z.2.1 z.1 (by rw [updN_eq]; omega) (h.1 b (by omega) q)
  · rw [if_neg q]; exact ⟨d, h⟩
theorem WF.late {W : (Nat → Nat) → Nat} {n N : Nat} {K F : Nat → Nat} {s : AS} {d : Nat → Nat} {a b : Nat} (hB : BDs n s) (h : WF s.2.1 s.2.2.1 d) (ha : a < n) (hb : b < n) : ∃ d', WF (lateS W n N K F s a b).2.1 (lateS W n N K F s a b).2.2.1 d' := by
  obtain ⟨D, U, T, Y⟩ := s
  have h8 := hB.1
  have hU : ∀ p, p < 8 → U p = 8 ∨ U p < 8 := fun p hp => by have := hB.2.2.1 p hp; dsimp only at this; omega
  unfold lateS
  by_cases q : lateP W n N K F (D, U, T, Y) a b
  · rw [if_pos q]
    exact h.take hU (by omega) (by omega) q.2.2.2.1 q.2.2.1 q.1 q.2.1
  · rw [if_neg q]; exact ⟨d, h⟩
/-- TRUE of a dead one -/
def rt (U T : Nat → Nat) : Nat → Nat → Nat
  | 0, _ => 8
  | k + 1, p => if T p = 0 then p else if U p = 8 then 8 else rt U T k (U p)
theorem rt_st {U T d : Nat → Nat} (h : AC U d) (hU : ∀ p, p < 8 → U p = 8 ∨ U p < 8) : ∀ k p, p < 8 → d p < k → rt U T k p = rt U T (k + 1) p
  | 0, p, hp, hk => by omega
  | k + 1, p, hp, hk => by
    have h1 := h p hp
    have h2 := hU p hp
    show (if T p = 0 then p else if U p = 8 then 8 else rt U T k (U p)) = if T p = 0 then p else if U p = 8 then 8 else rt U T (k + 1) (U p)
    by_cases q0 : T p = 0
    · rw [if_pos q0, if_pos q0]
    · by_cases q : U p = 8
      · rw [if_neg q0, if_neg q0, if_pos q, if_pos q]
      · have h3 := h1.2.1 q
        rw [if_neg q0, if_neg q0, if_neg q, if_neg q]
        exact rt_st h hU k (U p) (by omega) (by omega)
theorem rt_9 {U T d : Nat → Nat} (h : AC U d) (hU : ∀ p, p < 8 → U p = 8 ∨ U p < 8) {p : Nat} (hp : p < 8) (q0 : ¬ T p = 0) (q : ¬ U p = 8) : rt U T 9 p = rt U T 9 (U p) := by
  have h1 := (h p hp).2.1 q
  have h2 := hU p hp
  have h3 := h.le hp
  show (if T p = 0 then p else if U p = 8 then 8 else rt U T 8 (U p)) = _
  rw [if_neg q0, if_neg q]
  exact rt_st h hU 8 (U p) (by omega) (by omega)
theorem rt_lt {U T : Nat → Nat} {n : Nat} (h8 : n ≤ 8) (hU : ∀ p, p < 8 → U p = 8 ∨ U p < n) : ∀ k p, p < n → rt U T k p = 8 ∨ rt U T k p < n
  | 0, _, _ => Or.inl rfl
  | k + 1, p, hp => by
    have h2 := hU p (by omega)
    show (if T p = 0 then p else if U p = 8 then 8 else rt U T k (U p)) = 8 ∨ (if T p = 0 then p else if U p = 8 then 8 else rt U T k (U p)) < n
    by_cases q0 : T p = 0
    · rw [if_pos q0]; exact Or.inr hp
    · by_cases q : U p = 8
      · rw [if_neg q0, if_pos q]; exact Or.inl rfl
      · rw [if_neg q0, if_neg q]
        exact rt_lt h8 hU k (U p) (by omega)
/-- the longest of the first k -/
def mxN (d : Nat → Nat) : Nat → Nat
  | 0 => 0
  | k + 1 => if mxN d k < d k then d k else mxN d k
theorem mxN_le {d : Nat → Nat} {B : Nat} : ∀ k, (∀ p, p < k → d p ≤ B) → mxN d k ≤ B
  | 0, _ => Nat.zero_le _
  | k + 1, h => by
    have h1 := mxN_le k (fun p hp => h p (by omega))
    have h2 := h k (by omega)
    show (if mxN d k < d k then d k else mxN d k) ≤ B
    by_cases q : mxN d k < d k
    · rw [if_pos q]; exact h2
    · rw [if_neg q]; exact h1
section CHM
variable {W : (Nat → Nat) → Nat} {n N : Nat} {K F D U T d : Nat → Nat} {Y r th : Nat} {g : St}
theorem EM.followL (h : EM W n N K F D U T Y r g) (hw : WF U T d) (x2 : Int32) : ∀ k p c m, p < n → d p = k → c + k ≤ 100 → k + 1 < m → lp (fM_follows_L5 r x2 g) m (i3 p, i3 c) = some (nm (rt U T 9 p), i3 (c + d p)) := by
  have hh := fun k (hk : k < n) => h.has hk
  have hl := rowM_len h.1
  obtain ⟨hr, ⟨s1, s2, s3, s4⟩, ⟨h8, hD, hU, hB⟩, hC, hL⟩ := h
  have hU8 : ∀ p, p < 8 → U p = 8 ∨ U p < 8 := fun p hp => by have := hU p hp; omega
  intro k
  induction k with
  | zero =>
    intro p c m hp hd hc hm
    obtain ⟨m, rfl⟩ : ∃ j, m = j + 2 := ⟨m - 2, by omega⟩
    have ha := hw.2 p (by omega)
    have hu : U p = 8 := by
      refine Classical.byContradiction (fun q => ?_)
      have := ha.2.1 q
      omega
    by_cases q : T p = 0
    · have e : rt U T 9 p = p := if_pos q
      have e1 : fM_follows_L5 r x2 g (i3 p, i3 c) = some (.inr (i3 p, i3 c)) := by simp (disch := (first | omega | assumption | trivial)) only [li_0, li_1, li_2, li_3, li_4, li_5, li_6, li_7, li_8, li_9, li_10, li_11, li_12, li_13, li_14, li_15, li_16, li_17, li_18, li_19, li_20, li_21, li_22, li_23, li_24, li_25, li_26, li_27, li_28, li_29, li_30, li_31, li_32, li_33, li_34, li_35, li_36, li_37, li_38, li_39, li_40, li_41, li_42, li_43, li_44, li_45, li_46, li_47, li_48, li_49, li_50, li_51, li_52, li_53, li_54, li_55, li_56, li_57, li_58, li_59, li_60, li_63, li_64, li_72, li_76, li_77, li_91, li_93, li_96, li_97, li_99, li_108, li_109, li_120, li_122, li_150, li_200, li_255, li_400, li_426, li_600, li_900, li_999, li_1000, li_1002, li_1003, li_2000, li_2042, li_2043, li_2045, li_10000, li_32767, li_100000, li_1000000, li_m1, li_m1b, ob_s, lt1_e, se_l, se_r, if_true, if_false, true_and, and_true, false_and, and_false, st_at, i3_add, i3_mul, i3_sub, i3_lt, i3_le, i3_eq, i3_nat, m1_eqi, i3_eqm, m1_lti, m1_lei, i3_ltm, i3_lem, i3_decm, i3_dec0, nm_eqm, yr_eqm, mxor0, Nat.zero_add, if_pos, if_neg, eq_self, ne_eq, not_true_eq_false, not_false_eq_true, fM_follows_L5, hl, hh]
      rw [lp_inr e1, e, hd, nm_lt (by omega)]
      try rfl
    · have e : rt U T 9 p = 8 := by
        show (if T p = 0 then p else if U p = 8 then 8 else rt U T 8 (U p)) = 8
        rw [if_neg q, if_pos hu]
      have e1 : fM_follows_L5 r x2 g (i3 p, i3 c) = some (.inl (m1, i3 c)) := by simp (disch := (first | omega | assumption | trivial)) only [li_0, li_1, li_2, li_3, li_4, li_5, li_6, li_7, li_8, li_9, li_10, li_11, li_12, li_13, li_14, li_15, li_16, li_17, li_18, li_19, li_20, li_21, li_22, li_23, li_24, li_25, li_26, li_27, li_28, li_29, li_30, li_31, li_32, li_33, li_34, li_35, li_36, li_37, li_38, li_39, li_40, li_41, li_42, li_43, li_44, li_45, li_46, li_47, li_48, li_49, li_50, li_51, li_52, li_53, li_54, li_55, li_56, li_57, li_58, li_59, li_60, li_63, li_64, li_72, li_76, li_77, li_91, li_93, li_96, li_97, li_99, li_108, li_109, li_120, li_122, li_150, li_200, li_255, li_400, li_426, li_600, li_900, li_999, li_1000, li_1002, li_1003, li_2000, li_2042, li_2043, li_2045, li_10000, li_32767, li_100000, li_1000000, li_m1, li_m1b, ob_s, lt1_e, se_l, se_r, if_true, if_false, true_and, and_true, false_and, and_false, st_at, i3_add, i3_mul, i3_sub, i3_lt, i3_le, i3_eq, i3_nat, m1_eqi, i3_eqm, m1_lti, m1_lei, i3_ltm, i3_lem, i3_decm, i3_dec0, nm_eqm, yr_eqm, mxor0, Nat.zero_add, if_pos, if_neg, eq_self, ne_eq, not_true_eq_false, not_false_eq_true, fM_follows_L5, fM_follows_b40, hl, hh, s2, hu, nm_no, Nat.add_zero]
      have e2 : fM_follows_L5 r x2 g (m1, i3 c) = some (.inr (m1, i3 c)) := by simp (disch := (first | omega | assumption | trivial)) only [li_0, li_1, li_2, li_3, li_4, li_5, li_6, li_7, li_8, li_9, li_10, li_11, li_12, li_13, li_14, li_15, li_16, li_17, li_18, li_19, li_20, li_21, li_22, li_23, li_24, li_25, li_26, li_27, li_28, li_29, li_30, li_31, li_32, li_33, li_34, li_35, li_36, li_37, li_38, li_39, li_40, li_41, li_42, li_43, li_44, li_45, li_46, li_47, li_48, li_49, li_50, li_51, li_52, li_53, li_54, li_55, li_56, li_57, li_58, li_59, li_60, li_63, li_64, li_72, li_76, li_77, li_91, li_93, li_96, li_97, li_99, li_108, li_109, li_120, li_122, li_150, li_200, li_255, li_400, li_426, li_600, li_900, li_999, li_1000, li_1002, li_1003, li_2000, li_2042, li_2043, li_2045, li_10000, li_32767, li_100000, li_1000000, li_m1, li_m1b, ob_s, lt1_e, se_l, se_r, if_true, if_false, true_and, and_true, false_and, and_false, st_at, i3_add, i3_mul, i3_sub, i3_lt, i3_le, i3_eq, i3_nat, m1_eqi, i3_eqm, m1_lti, m1_lei, i3_ltm, i3_lem, i3_decm, i3_dec0, nm_eqm, yr_eqm, mxor0, Nat.zero_add, if_pos, if_neg, eq_self, ne_eq, not_true_eq_false, not_false_eq_true, fM_follows_L5]
      rw [lp_inl e1, lp_inr e2, e, hd]
      try rfl
  | succ k ih =>
    intro p c m hp hd hc hm
    obtain ⟨m, rfl⟩ : ∃ j, m = j + 1 := ⟨m - 1, by omega⟩
    have ha := hw.2 p (by omega)
    have hu : ¬ U p = 8 := fun q => by
      have := ha.1 q
      omega
    have hu2 := hU p (by omega)
    have q : ¬ T p = 0 := fun q => hu (hw.1 p (by omega) q)
    have h1 := ha.2.1 hu
    have e1 : fM_follows_L5 r x2 g (i3 p, i3 c) = some (.inl (i3 (U p), i3 (c + 1))) := by simp (disch := (first | omega | assumption | trivial)) only [li_0, li_1, li_2, li_3, li_4, li_5, li_6, li_7, li_8, li_9, li_10, li_11, li_12, li_13, li_14, li_15, li_16, li_17, li_18, li_19, li_20, li_21, li_22, li_23, li_24, li_25, li_26, li_27, li_28, li_29, li_30, li_31, li_32, li_33, li_34, li_35, li_36, li_37, li_38, li_39, li_40, li_41, li_42, li_43, li_44, li_45, li_46, li_47, li_48, li_49, li_50, li_51, li_52, li_53, li_54, li_55, li_56, li_57, li_58, li_59, li_60, li_63, li_64, li_72, li_76, li_77, li_91, li_93, li_96, li_97, li_99, li_108, li_109, li_120, li_122, li_150, li_200, li_255, li_400, li_426, li_600, li_900, li_999, li_1000, li_1002, li_1003, li_2000, li_2042, li_2043, li_2045, li_10000, li_32767, li_100000, li_1000000, li_m1, li_m1b, ob_s, lt1_e, se_l, se_r, if_true, if_false, true_and, and_true, false_and, and_false, st_at, i3_add, i3_mul, i3_sub, i3_lt, i3_le, i3_eq, i3_nat, m1_eqi, i3_eqm, m1_lti, m1_lei, i3_ltm, i3_lem, i3_decm, i3_dec0, nm_eqm, yr_eqm, mxor0, Nat.zero_add, if_pos, if_neg, eq_self, ne_eq, not_true_eq_false, not_false_eq_true, fM_follows_L5, fM_follows_b40, hl, hh, s2, nm_lt]
    rw [lp_inl e1]
    rw [ih (U p) (c + 1) m (by omega) (by omega) (by omega) (by omega), rt_9 hw.2 hU8 (by omega) q hu]
    have e3 : c + 1 + d (U p) = c + d p := by omega
    rw [e3]
theorem EM.follows (h : EM W n N K F D U T Y r g) (hw : WF U T d) {p : Nat} (hp : p < n) : fM_follows r (i3 p) (i3 0) g = some (nm (rt U T 9 p)) ∧ fM_follows r (i3 p) (i3 1) g = some (i3 (d p)) := by
  have h8 := h.2.2.1.1
  have hd := hw.2.le (p := p) (by omega)
  constructor
  · simp only [fM_follows, fM_follows_b5, li_0, li_1, li_2, li_3, li_4, li_5, li_6, li_7, li_8, li_9, li_10, li_11, li_12, li_13, li_14, li_15, li_16, li_17, li_18, li_19, li_20, li_21, li_22, li_23, li_24, li_25, li_26, li_27, li_28, li_29, li_30, li_31, li_32, li_33, li_34, li_35, li_36, li_37, li_38, li_39, li_40, li_41, li_42, li_43, li_44, li_45, li_46, li_47, li_48, li_49, li_50, li_51, li_52, li_53, li_54, li_55, li_56, li_57, li_58, li_59, li_60, li_63, li_64, li_72, li_76, li_77, li_91, li_93, li_96, li_97, li_99, li_108, li_109, li_120, li_122, li_150, li_200, li_255, li_400, li_426, li_600, li_900, li_999, li_1000, li_1002, li_1003, li_2000, li_2042, li_2043, li_2045, li_10000, li_32767, li_100000, li_1000000, li_m1, li_m1b]
    rw [show fuel = 1000000 from rfl, h.followL hw (i3 0) (d p) p 0 1000000 hp rfl (by omega) (by omega)]
    simp (disch := (first | omega | assumption | trivial)) only [li_0, li_1, li_2, li_3, li_4, li_5, li_6, li_7, li_8, li_9, li_10, li_11, li_12, li_13, li_14, li_15, li_16, li_17, li_18, li_19, li_20, li_21, li_22, li_23, li_24, li_25, li_26, li_27, li_28, li_29, li_30, li_31, li_32, li_33, li_34, li_35, li_36, li_37, li_38, li_39, li_40, li_41, li_42, li_43, li_44, li_45, li_46, li_47, li_48, li_49, li_50, li_51, li_52, li_53, li_54, li_55, li_56, li_57, li_58, li_59, li_60, li_63, li_64, li_72, li_76, li_77, li_91, li_93, li_96, li_97, li_99, li_108, li_109, li_120, li_122, li_150, li_200, li_255, li_400, li_426, li_600, li_900, li_999, li_1000, li_1002, li_1003, li_2000, li_2042, li_2043, li_2045, li_10000, li_32767, li_100000, li_1000000, li_m1, li_m1b, ob_s, lt1_e, se_l, se_r, if_true, if_false, true_and, and_true, false_and, and_false, st_at, i3_add, i3_mul, i3_sub, i3_lt, i3_le, i3_eq, i3_nat, m1_eqi, i3_eqm, m1_lti, m1_lei, i3_ltm, i3_lem, i3_decm, i3_dec0, nm_eqm, yr_eqm, mxor0, Nat.zero_add, if_pos, if_neg, eq_self, ne_eq, not_true_eq_false, not_false_eq_true]
  · simp only [fM_follows, fM_follows_b5, li_0, li_1, li_2, li_3, li_4, li_5, li_6, li_7, li_8, li_9, li_10, li_11, li_12, li_13, li_14, li_15, li_16, li_17, li_18, li_19, li_20, li_21, li_22, li_23, li_24, li_25, li_26, li_27, li_28, li_29, li_30, li_31, li_32, li_33, li_34, li_35, li_36, li_37, li_38, li_39, li_40, li_41, li_42, li_43, li_44, li_45, li_46, li_47, li_48, li_49, li_50, li_51, li_52, li_53, li_54, li_55, li_56, li_57, li_58, li_59, li_60, li_63, li_64, li_72, li_76, li_77, li_91, li_93, li_96, li_97, li_99, li_108, li_109, li_120, li_122, li_150, li_200, li_255, li_400, li_426, li_600, li_900, li_999, li_1000, li_1002, li_1003, li_2000, li_2042, li_2043, li_2045, li_10000, li_32767, li_100000, li_1000000, li_m1, li_m1b]
    rw [show fuel = 1000000 from rfl, h.followL hw (i3 1) (d p) p 0 1000000 hp rfl (by omega) (by omega)]
    simp (disch := (first | omega | assumption | trivial)) only [li_0, li_1, li_2, li_3, li_4, li_5, li_6, li_7, li_8, li_9, li_10, li_11, li_12, li_13, li_14, li_15, li_16, li_17, li_18, li_19, li_20, li_21, li_22, li_23, li_24, li_25, li_26, li_27, li_28, li_29, li_30, li_31, li_32, li_33, li_34, li_35, li_36, li_37, li_38, li_39, li_40, li_41, li_42, li_43, li_44, li_45, li_46, li_47, li_48, li_49, li_50, li_51, li_52, li_53, li_54, li_55, li_56, li_57, li_58, li_59, li_60, li_63, li_64, li_72, li_76, li_77, li_91, li_93, li_96, li_97, li_99, li_108, li_109, li_120, li_122, li_150, li_200, li_255, li_400, li_426, li_600, li_900, li_999, li_1000, li_1002, li_1003, li_2000, li_2042, li_2043, li_2045, li_10000, li_32767, li_100000, li_1000000, li_m1, li_m1b, ob_s, lt1_e, se_l, se_r, if_true, if_false, true_and, and_true, false_and, and_false, st_at, i3_add, i3_mul, i3_sub, i3_lt, i3_le, i3_eq, i3_nat, m1_eqi, i3_eqm, m1_lti, m1_lei, i3_ltm, i3_lem, i3_decm, i3_dec0, nm_eqm, yr_eqm, mxor0, Nat.zero_add, if_pos, if_neg, eq_self, ne_eq, not_true_eq_false, not_false_eq_true]
theorem EM.longest (h : EM W n N K F D U T Y r g) (hw : WF U T d) : fM_longest r g = some (i3 (mxN d n)) := by
  have h8 := h.2.2.1.1
  have hn := h.2.2.2.1.1
  simp only [fM_longest, fM_longest_b4, li_0, li_1, li_2, li_3, li_4, li_5, li_6, li_7, li_8, li_9, li_10, li_11, li_12, li_13, li_14, li_15, li_16, li_17, li_18, li_19, li_20, li_21, li_22, li_23, li_24, li_25, li_26, li_27, li_28, li_29, li_30, li_31, li_32, li_33, li_34, li_35, li_36, li_37, li_38, li_39, li_40, li_41, li_42, li_43, li_44, li_45, li_46, li_47, li_48, li_49, li_50, li_51, li_52, li_53, li_54, li_55, li_56, li_57, li_58, li_59, li_60, li_63, li_64, li_72, li_76, li_77, li_91, li_93, li_96, li_97, li_99, li_108, li_109, li_120, li_122, li_150, li_200, li_255, li_400, li_426, li_600, li_900, li_999, li_1000, li_1002, li_1003, li_2000, li_2042, li_2043, li_2045, li_10000, li_32767, li_100000, li_1000000, li_m1, li_m1b]
  rw [show lp (fM_longest_L4 r g) fuel (i3 0, i3 0) = some (i3 (mxN d n)) from ?_]
  · rfl
  · refine lp_cnt0 (fun k => (i3 (mxN d k), i3 k)) rfl n (by omega) (fun k hk => ?_) ?_
    · have e := (h.follows hw hk).2
      have hd := hw.2.le (p := k) (by omega)
      have hm := mxN_le (d := d) (B := 8) k (fun p hp => hw.2.le (by omega))
      show fM_longest_L4 r g (i3 (mxN d k), i3 k) = some (.inl (i3 (if mxN d k < d k then d k else mxN d k), i3 (k + 1)))
      by_cases q : mxN d k < d k
      · simp (disch := (first | omega | assumption | trivial)) only [li_0, li_1, li_2, li_3, li_4, li_5, li_6, li_7, li_8, li_9, li_10, li_11, li_12, li_13, li_14, li_15, li_16, li_17, li_18, li_19, li_20, li_21, li_22, li_23, li_24, li_25, li_26, li_27, li_28, li_29, li_30, li_31, li_32, li_33, li_34, li_35, li_36, li_37, li_38, li_39, li_40, li_41, li_42, li_43, li_44, li_45, li_46, li_47, li_48, li_49, li_50, li_51, li_52, li_53, li_54, li_55, li_56, li_57, li_58, li_59, li_60, li_63, li_64, li_72, li_76, li_77, li_91, li_93, li_96, li_97, li_99, li_108, li_109, li_120, li_122, li_150, li_200, li_255, li_400, li_426, li_600, li_900, li_999, li_1000, li_1002, li_1003, li_2000, li_2042, li_2043, li_2045, li_10000, li_32767, li_100000, li_1000000, li_m1, li_m1b, ob_s, lt1_e, se_l, se_r, if_true, if_false, true_and, and_true, false_and, and_false, st_at, i3_add, i3_mul, i3_sub, i3_lt, i3_le, i3_eq, i3_nat, m1_eqi, i3_eqm, m1_lti, m1_lei, i3_ltm, i3_lem, i3_decm, i3_dec0, nm_eqm, yr_eqm, mxor0, Nat.zero_add, if_pos, if_neg, eq_self, ne_eq, not_true_eq_false, not_false_eq_true, fM_longest_L4, hn, e, fM_more]
      · by_cases q2 : mxN d k = d k
        · simp (disch := (first | omega | assumption | trivial)) only [li_0, li_1, li_2, li_3, li_4, li_5, li_6, li_7, li_8, li_9, li_10, li_11, li_12, li_13, li_14, li_15, li_16, li_17, li_18, li_19, li_20, li_21, li_22, li_23, li_24, li_25, li_26, li_27, li_28, li_29, li_30, li_31, li_32, li_33, li_34, li_35, li_36, li_37, li_38, li_39, li_40, li_41, li_42, li_43, li_44, li_45, li_46, li_47, li_48, li_49, li_50, li_51, li_52, li_53, li_54, li_55, li_56, li_57, li_58, li_59, li_60, li_63, li_64, li_72, li_76, li_77, li_91, li_93, li_96, li_97, li_99, li_108, li_109, li_120, li_122, li_150, li_200, li_255, li_400, li_426, li_600, li_900, li_999, li_1000, li_1002, li_1003, li_2000, li_2042, li_2043, li_2045, li_10000, li_32767, li_100000, li_1000000, li_m1, li_m1b, ob_s, lt1_e, se_l, se_r, if_true, if_false, true_and, and_true, false_and, and_false, st_at, i3_add, i3_mul, i3_sub, i3_lt, i3_le, i3_eq, i3_nat, m1_eqi, i3_eqm, m1_lti, m1_lei, i3_ltm, i3_lem, i3_decm, i3_dec0, nm_eqm, yr_eqm, mxor0, Nat.zero_add, if_pos, if_neg, eq_self, ne_eq, not_true_eq_false, not_false_eq_true, fM_longest_L4, hn, e, fM_more, q2]
        · simp (disch := (first | omega | assumption | trivial)) only [li_0, li_1, li_2, li_3, li_4, li_5, li_6, li_7, li_8, li_9, li_10, li_11, li_12, li_13, li_14, li_15, li_16, li_17, li_18, li_19, li_20, li_21, li_22, li_23, li_24, li_25, li_26, li_27, li_28, li_29, li_30, li_31, li_32, li_33, li_34, li_35, li_36, li_37, li_38, li_39, li_40, li_41, li_42, li_43, li_44, li_45, li_46, li_47, li_48, li_49, li_50, li_51, li_52, li_53, li_54, li_55, li_56, li_57, li_58, li_59, li_60, li_63, li_64, li_72, li_76, li_77, li_91, li_93, li_96, li_97, li_99, li_108, li_109, li_120, li_122, li_150, li_200, li_255, li_400, li_426, li_600, li_900, li_999, li_1000, li_1002, li_1003, li_2000, li_2042, li_2043, li_2045, li_10000, li_32767, li_100000, li_1000000, li_m1, li_m1b, ob_s, lt1_e, se_l, se_r, if_true, if_false, true_and, and_true, false_and, and_false, st_at, i3_add, i3_mul, i3_sub, i3_lt, i3_le, i3_eq, i3_nat, m1_eqi, i3_eqm, m1_lti, m1_lei, i3_ltm, i3_lem, i3_decm, i3_dec0, nm_eqm, yr_eqm, mxor0, Nat.zero_add, if_pos, if_neg, eq_self, ne_eq, not_true_eq_false, not_false_eq_true, fM_longest_L4, hn, e, fM_more]
    · show fM_longest_L4 r g (i3 (mxN d n), i3 n) = _
      simp (disch := (first | omega | assumption | trivial)) only [li_0, li_1, li_2, li_3, li_4, li_5, li_6, li_7, li_8, li_9, li_10, li_11, li_12, li_13, li_14, li_15, li_16, li_17, li_18, li_19, li_20, li_21, li_22, li_23, li_24, li_25, li_26, li_27, li_28, li_29, li_30, li_31, li_32, li_33, li_34, li_35, li_36, li_37, li_38, li_39, li_40, li_41, li_42, li_43, li_44, li_45, li_46, li_47, li_48, li_49, li_50, li_51, li_52, li_53, li_54, li_55, li_56, li_57, li_58, li_59, li_60, li_63, li_64, li_72, li_76, li_77, li_91, li_93, li_96, li_97, li_99, li_108, li_109, li_120, li_122, li_150, li_200, li_255, li_400, li_426, li_600, li_900, li_999, li_1000, li_1002, li_1003, li_2000, li_2042, li_2043, li_2045, li_10000, li_32767, li_100000, li_1000000, li_m1, li_m1b, ob_s, lt1_e, se_l, se_r, if_true, if_false, true_and, and_true, false_and, and_false, st_at, i3_add, i3_mul, i3_sub, i3_lt, i3_le, i3_eq, i3_nat, m1_eqi, i3_eqm, m1_lti, m1_lei, i3_ltm, i3_lem, i3_decm, i3_dec0, nm_eqm, yr_eqm, mxor0, Nat.zero_add, if_pos, if_neg, eq_self, ne_eq, not_true_eq_false, not_false_eq_true, fM_longest_L4, hn]
theorem EC.chainL (h : EC W n N K F D U T Y th g) (hw : WF U T d) : ∀ k p c m, p < n → d p = k → c + k + 1 ≤ 8 → k + 1 < m → lp (fX_State_chainLength_L14 th g) m (i3 p, i3 c, i3 c) = some (i3 (c + d p + 1)) := by
  obtain ⟨hr, ⟨s1, s2, s3, s4⟩, ⟨h8, hD, hU, hB⟩, hC, hL⟩ := h
  intro k
  induction k with
  | zero =>
    intro p c m hp hd hc hm
    obtain ⟨m, rfl⟩ : ∃ j, m = j + 2 := ⟨m - 2, by omega⟩
    have ha := hw.2 p (by omega)
    have hu : U p = 8 := by
      refine Classical.byContradiction (fun q => ?_)
      have := ha.2.1 q
      omega
    have e1 : fX_State_chainLength_L14 th g (i3 p, i3 c, i3 c) = some (.inl (m1, i3 (c + 1), i3 (c + 1))) := by simp (disch := (first | omega | assumption | trivial)) only [li_0, li_1, li_2, li_3, li_4, li_5, li_6, li_7, li_8, li_9, li_10, li_11, li_12, li_13, li_14, li_15, li_16, li_17, li_18, li_19, li_20, li_21, li_22, li_23, li_24, li_25, li_26, li_27, li_28, li_29, li_30, li_31, li_32, li_33, li_34, li_35, li_36, li_37, li_38, li_39, li_40, li_41, li_42, li_43, li_44, li_45, li_46, li_47, li_48, li_49, li_50, li_51, li_52, li_53, li_54, li_55, li_56, li_57, li_58, li_59, li_60, li_63, li_64, li_72, li_76, li_77, li_91, li_93, li_96, li_97, li_99, li_108, li_109, li_120, li_122, li_150, li_200, li_255, li_400, li_426, li_600, li_900, li_999, li_1000, li_1002, li_1003, li_2000, li_2042, li_2043, li_2045, li_10000, li_32767, li_100000, li_1000000, li_m1, li_m1b, ob_s, lt1_e, se_l, se_r, if_true, if_false, true_and, and_true, false_and, and_false, st_at, i3_add, i3_mul, i3_sub, i3_lt, i3_le, i3_eq, i3_nat, m1_eqi, i3_eqm, m1_lti, m1_lei, i3_ltm, i3_lem, i3_decm, i3_dec0, nm_eqm, yr_eqm, mxor0, Nat.zero_add, if_pos, if_neg, eq_self, ne_eq, not_true_eq_false, not_false_eq_true, fX_State_chainLength_L14, rS3, at8, s2, hu, nm_no]
    have e2 : fX_State_chainLength_L14 th g (m1, i3 (c + 1), i3 (c + 1)) = some (.inr (i3 (c + 1))) := by
      by_cases q : c + 1 = 8
      · rw [q]; simp (disch := (first | omega | assumption | trivial)) only [li_0, li_1, li_2, li_3, li_4, li_5, li_6, li_7, li_8, li_9, li_10, li_11, li_12, li_13, li_14, li_15, li_16, li_17, li_18, li_19, li_20, li_21, li_22, li_23, li_24, li_25, li_26, li_27, li_28, li_29, li_30, li_31, li_32, li_33, li_34, li_35, li_36, li_37, li_38, li_39, li_40, li_41, li_42, li_43, li_44, li_45, li_46, li_47, li_48, li_49, li_50, li_51, li_52, li_53, li_54, li_55, li_56, li_57, li_58, li_59, li_60, li_63, li_64, li_72, li_76, li_77, li_91, li_93, li_96, li_97, li_99, li_108, li_109, li_120, li_122, li_150, li_200, li_255, li_400, li_426, li_600, li_900, li_999, li_1000, li_1002, li_1003, li_2000, li_2042, li_2043, li_2045, li_10000, li_32767, li_100000, li_1000000, li_m1, li_m1b, ob_s, lt1_e, se_l, se_r, if_true, if_false, true_and, and_true, false_and, and_false, st_at, i3_add, i3_mul, i3_sub, i3_lt, i3_le, i3_eq, i3_nat, m1_eqi, i3_eqm, m1_lti, m1_lei, i3_ltm, i3_lem, i3_decm, i3_dec0, nm_eqm, yr_eqm, mxor0, Nat.zero_add, if_pos, if_neg, eq_self, ne_eq, not_true_eq_false, not_false_eq_true, fX_State_chainLength_L14]
      · simp (disch := (first | omega | assumption | trivial)) only [li_0, li_1, li_2, li_3, li_4, li_5, li_6, li_7, li_8, li_9, li_10, li_11, li_12, li_13, li_14, li_15, li_16, li_17, li_18, li_19, li_20, li_21, li_22, li_23, li_24, li_25, li_26, li_27, li_28, li_29, li_30, li_31, li_32, li_33, li_34, li_35, li_36, li_37, li_38, li_39, li_40, li_41, li_42, li_43, li_44, li_45, li_46, li_47, li_48, li_49, li_50, li_51, li_52, li_53, li_54, li_55, li_56, li_57, li_58, li_59, li_60, li_63, li_64, li_72, li_76, li_77, li_91, li_93, li_96, li_97, li_99, li_108, li_109, li_120, li_122, li_150, li_200, li_255, li_400, li_426, li_600, li_900, li_999, li_1000, li_1002, li_1003, li_2000, li_2042, li_2043, li_2045, li_10000, li_32767, li_100000, li_1000000, li_m1, li_m1b, ob_s, lt1_e, se_l, se_r, if_true, if_false, true_and, and_true, false_and, and_false, st_at, i3_add, i3_mul, i3_sub, i3_lt, i3_le, i3_eq, i3_nat, m1_eqi, i3_eqm, m1_lti, m1_lei, i3_ltm, i3_lem, i3_decm, i3_dec0, nm_eqm, yr_eqm, mxor0, Nat.zero_add, if_pos, if_neg, eq_self, ne_eq, not_true_eq_false, not_false_eq_true, fX_State_chainLength_L14]
    rw [lp_inl e1, lp_inr e2, hd]
    try rfl
  | succ k ih =>
    intro p c m hp hd hc hm
    obtain ⟨m, rfl⟩ : ∃ j, m = j + 1 := ⟨m - 1, by omega⟩
    have ha := hw.2 p (by omega)
    have hu : ¬ U p = 8 := fun q => by
      have := ha.1 q
      omega
    have hu2 := hU p (by omega)
    have h1 := ha.2.1 hu
    have e1 : fX_State_chainLength_L14 th g (i3 p, i3 c, i3 c) = some (.inl (i3 (U p), i3 (c + 1), i3 (c + 1))) := by simp (disch := (first | omega | assumption | trivial)) only [li_0, li_1, li_2, li_3, li_4, li_5, li_6, li_7, li_8, li_9, li_10, li_11, li_12, li_13, li_14, li_15, li_16, li_17, li_18, li_19, li_20, li_21, li_22, li_23, li_24, li_25, li_26, li_27, li_28, li_29, li_30, li_31, li_32, li_33, li_34, li_35, li_36, li_37, li_38, li_39, li_40, li_41, li_42, li_43, li_44, li_45, li_46, li_47, li_48, li_49, li_50, li_51, li_52, li_53, li_54, li_55, li_56, li_57, li_58, li_59, li_60, li_63, li_64, li_72, li_76, li_77, li_91, li_93, li_96, li_97, li_99, li_108, li_109, li_120, li_122, li_150, li_200, li_255, li_400, li_426, li_600, li_900, li_999, li_1000, li_1002, li_1003, li_2000, li_2042, li_2043, li_2045, li_10000, li_32767, li_100000, li_1000000, li_m1, li_m1b, ob_s, lt1_e, se_l, se_r, if_true, if_false, true_and, and_true, false_and, and_false, st_at, i3_add, i3_mul, i3_sub, i3_lt, i3_le, i3_eq, i3_nat, m1_eqi, i3_eqm, m1_lti, m1_lei, i3_ltm, i3_lem, i3_decm, i3_dec0, nm_eqm, yr_eqm, mxor0, Nat.zero_add, if_pos, if_neg, eq_self, ne_eq, not_true_eq_false, not_false_eq_true, fX_State_chainLength_L14, rS3, at8, s2, nm_lt]
    rw [lp_inl e1]
    rw [ih (U p) (c + 1) m (by omega) (by omega) (by omega) (by omega)]
    have e3 : c + 1 + d (U p) + 1 = c + d p + 1 := by omega
    rw [e3]
theorem EC.chainLength (h : EC W n N K F D U T Y th g) (hw : WF U T d) {p : Nat} (hp : p < n) : fX_State_chainLength th (i3 p) g = some (i3 (d p)) := by
  have h8 := h.2.2.1.1
  have hd := hw.2.le (p := p) (by omega)
  have ha := hw.2 p (by omega)
  have hr := h.1
  have hu2 := h.2.2.1.2.2.1 p (by omega)
  have s2 := h.2.1.2.1
  by_cases q : U p = 8
  · have e2 : fX_State_chainLength_L14 th g (m1, i3 0, i3 0) = some (.inr (i3 0)) := by simp (disch := (first | omega | assumption | trivial)) only [li_0, li_1, li_2, li_3, li_4, li_5, li_6, li_7, li_8, li_9, li_10, li_11, li_12, li_13, li_14, li_15, li_16, li_17, li_18, li_19, li_20, li_21, li_22, li_23, li_24, li_25, li_26, li_27, li_28, li_29, li_30, li_31, li_32, li_33, li_34, li_35, li_36, li_37, li_38, li_39, li_40, li_41, li_42, li_43, li_44, li_45, li_46, li_47, li_48, li_49, li_50, li_51, li_52, li_53, li_54, li_55, li_56, li_57, li_58, li_59, li_60, li_63, li_64, li_72, li_76, li_77, li_91, li_93, li_96, li_97, li_99, li_108, li_109, li_120, li_122, li_150, li_200, li_255, li_400, li_426, li_600, li_900, li_999, li_1000, li_1002, li_1003, li_2000, li_2042, li_2043, li_2045, li_10000, li_32767, li_100000, li_1000000, li_m1, li_m1b, ob_s, lt1_e, se_l, se_r, if_true, if_false, true_and, and_true, false_and, and_false, st_at, i3_add, i3_mul, i3_sub, i3_lt, i3_le, i3_eq, i3_nat, m1_eqi, i3_eqm, m1_lti, m1_lei, i3_ltm, i3_lem, i3_decm, i3_dec0, nm_eqm, yr_eqm, mxor0, Nat.zero_add, if_pos, if_neg, eq_self, ne_eq, not_true_eq_false, not_false_eq_true, fX_State_chainLength_L14]
    have e3 : lp (fX_State_chainLength_L14 th g) fuel (m1, i3 0, i3 0) = some (i3 0) := lp_inrF e2
    rw [ha.1 q]
    simp (disch := (first | omega | assumption | trivial)) only [li_0, li_1, li_2, li_3, li_4, li_5, li_6, li_7, li_8, li_9, li_10, li_11, li_12, li_13, li_14, li_15, li_16, li_17, li_18, li_19, li_20, li_21, li_22, li_23, li_24, li_25, li_26, li_27, li_28, li_29, li_30, li_31, li_32, li_33, li_34, li_35, li_36, li_37, li_38, li_39, li_40, li_41, li_42, li_43, li_44, li_45, li_46, li_47, li_48, li_49, li_50, li_51, li_52, li_53, li_54, li_55, li_56, li_57, li_58, li_59, li_60, li_63, li_64, li_72, li_76, li_77, li_91, li_93, li_96, li_97, li_99, li_108, li_109, li_120, li_122, li_150, li_200, li_255, li_400, li_426, li_600, li_900, li_999, li_1000, li_1002, li_1003, li_2000, li_2042, li_2043, li_2045, li_10000, li_32767, li_100000, li_1000000, li_m1, li_m1b, ob_s, lt1_e, se_l, se_r, if_true, if_false, true_and, and_true, false_and, and_false, st_at, i3_add, i3_mul, i3_sub, i3_lt, i3_le, i3_eq, i3_nat, m1_eqi, i3_eqm, m1_lti, m1_lei, i3_ltm, i3_lem, i3_decm, i3_dec0, nm_eqm, yr_eqm, mxor0, Nat.zero_add, if_pos, if_neg, eq_self, ne_eq, not_true_eq_false, not_false_eq_true, fX_State_chainLength, fX_State_chainLength_b14, rS3, at8, s2, nm_no, e3]
  · have h1 := ha.2.1 q
    have e3 := h.chainL hw (d (U p)) (U p) 0 1000000 (by omega) rfl (by omega) (by omega)
    have e4 : 0 + d (U p) + 1 = d p := by omega
    rw [e4, ← fuel_eq] at e3
    simp (disch := (first | omega | assumption | trivial)) only [li_0, li_1, li_2, li_3, li_4, li_5, li_6, li_7, li_8, li_9, li_10, li_11, li_12, li_13, li_14, li_15, li_16, li_17, li_18, li_19, li_20, li_21, li_22, li_23, li_24, li_25, li_26, li_27, li_28, li_29, li_30, li_31, li_32, li_33, li_34, li_35, li_36, li_37, li_38, li_39, li_40, li_41, li_42, li_43, li_44, li_45, li_46, li_47, li_48, li_49, li_50, li_51, li_52, li_53, li_54, li_55, li_56, li_57, li_58, li_59, li_60, li_63, li_64, li_72, li_76, li_77, li_91, li_93, li_96, li_97, li_99, li_108, li_109, li_120, li_122, li_150, li_200, li_255, li_400, li_426, li_600, li_900, li_999, li_1000, li_1002, li_1003, li_2000, li_2042, li_2043, li_2045, li_10000, li_32767, li_100000, li_1000000, li_m1, li_m1b, ob_s, lt1_e, se_l, se_r, if_true, if_false, true_and, and_true, false_and, and_false, st_at, i3_add, i3_mul, i3_sub, i3_lt, i3_le, i3_eq, i3_nat, m1_eqi, i3_eqm, m1_lti, m1_lei, i3_ltm, i3_lem, i3_decm, i3_dec0, nm_eqm, yr_eqm, mxor0, Nat.zero_add, if_pos, if_neg, eq_self, ne_eq, not_true_eq_false, not_false_eq_true, fX_State_chainLength, fX_State_chainLength_b14, rS3, at8, s2, nm_lt, e3]
theorem EC.longestChain (h : EC W n N K F D U T Y th g) (hw : WF U T d) : fX_State_longestChain th g = some (i3 (mxN d n)) := by
  have h8 := h.2.2.1.1
  have hn := h.2.2.2.1.1
  simp only [fX_State_longestChain, fX_State_longestChain_b4, li_0, li_1, li_2, li_3, li_4, li_5, li_6, li_7, li_8, li_9, li_10, li_11, li_12, li_13, li_14, li_15, li_16, li_17, li_18, li_19, li_20, li_21, li_22, li_23, li_24, li_25, li_26, li_27, li_28, li_29, li_30, li_31, li_32, li_33, li_34, li_35, li_36, li_37, li_38, li_39, li_40, li_41, li_42, li_43, li_44, li_45, li_46, li_47, li_48, li_49, li_50, li_51, li_52, li_53, li_54, li_55, li_56, li_57, li_58, li_59, li_60, li_63, li_64, li_72, li_76, li_77, li_91, li_93, li_96, li_97, li_99, li_108, li_109, li_120, li_122, li_150, li_200, li_255, li_400, li_426, li_600, li_900, li_999, li_1000, li_1002, li_1003, li_2000, li_2042, li_2043, li_2045, li_10000, li_32767, li_100000, li_1000000, li_m1, li_m1b]
  rw [show lp (fX_State_longestChain_L4 th g) fuel (i3 0, i3 0) = some (i3 (mxN d n)) from ?_]
  · rfl
  · refine lp_cnt0 (fun k => (i3 (mxN d k), i3 k)) rfl n (by omega) (fun k hk => ?_) ?_
    · have e := h.chainLength hw hk
      have hd := hw.2.le (p := k) (by omega)
      have hm := mxN_le (d := d) (B := 8) k (fun p hp => hw.2.le (by omega))
      show fX_State_longestChain_L4 th g (i3 (mxN d k), i3 k) = some (.inl (i3 (if mxN d k < d k then d k else mxN d k), i3 (k + 1)))
      by_cases q : mxN d k < d k
      · simp (disch := (first | omega | assumption | trivial)) only [li_0, li_1, li_2, li_3, li_4, li_5, li_6, li_7, li_8, li_9, li_10, li_11, li_12, li_13, li_14, li_15, li_16, li_17, li_18, li_19, li_20, li_21, li_22, li_23, li_24, li_25, li_26, li_27, li_28, li_29, li_30, li_31, li_32, li_33, li_34, li_35, li_36, li_37, li_38, li_39, li_40, li_41, li_42, li_43, li_44, li_45, li_46, li_47, li_48, li_49, li_50, li_51, li_52, li_53, li_54, li_55, li_56, li_57, li_58, li_59, li_60, li_63, li_64, li_72, li_76, li_77, li_91, li_93, li_96, li_97, li_99, li_108, li_109, li_120, li_122, li_150, li_200, li_255, li_400, li_426, li_600, li_900, li_999, li_1000, li_1002, li_1003, li_2000, li_2042, li_2043, li_2045, li_10000, li_32767, li_100000, li_1000000, li_m1, li_m1b, ob_s, lt1_e, se_l, se_r, if_true, if_false, true_and, and_true, false_and, and_false, st_at, i3_add, i3_mul, i3_sub, i3_lt, i3_le, i3_eq, i3_nat, m1_eqi, i3_eqm, m1_lti, m1_lei, i3_ltm, i3_lem, i3_decm, i3_dec0, nm_eqm, yr_eqm, mxor0, Nat.zero_add, if_pos, if_neg, eq_self, ne_eq, not_true_eq_false, not_false_eq_true, fX_State_longestChain_L4, hn, e]
      · simp (disch := (first | omega | assumption | trivial)) only [li_0, li_1, li_2, li_3, li_4, li_5, li_6, li_7, li_8, li_9, li_10, li_11, li_12, li_13, li_14, li_15, li_16, li_17, li_18, li_19, li_20, li_21, li_22, li_23, li_24, li_25, li_26, li_27, li_28, li_29, li_30, li_31, li_32, li_33, li_34, li_35, li_36, li_37, li_38, li_39, li_40, li_41, li_42, li_43, li_44, li_45, li_46, li_47, li_48, li_49, li_50, li_51, li_52, li_53, li_54, li_55, li_56, li_57, li_58, li_59, li_60, li_63, li_64, li_72, li_76, li_77, li_91, li_93, li_96, li_97, li_99, li_108, li_109, li_120, li_122, li_150, li_200, li_255, li_400, li_426, li_600, li_900, li_999, li_1000, li_1002, li_1003, li_2000, li_2042, li_2043, li_2045, li_10000, li_32767, li_100000, li_1000000, li_m1, li_m1b, ob_s, lt1_e, se_l, se_r, if_true, if_false, true_and, and_true, false_and, and_false, st_at, i3_add, i3_mul, i3_sub, i3_lt, i3_le, i3_eq, i3_nat, m1_eqi, i3_eqm, m1_lti, m1_lei, i3_ltm, i3_lem, i3_decm, i3_dec0, nm_eqm, yr_eqm, mxor0, Nat.zero_add, if_pos, if_neg, eq_self, ne_eq, not_true_eq_false, not_false_eq_true, fX_State_longestChain_L4, hn, e]
    · show fX_State_longestChain_L4 th g (i3 (mxN d n), i3 n) = _
      simp (disch := (first | omega | assumption | trivial)) only [li_0, li_1, li_2, li_3, li_4, li_5, li_6, li_7, li_8, li_9, li_10, li_11, li_12, li_13, li_14, li_15, li_16, li_17, li_18, li_19, li_20, li_21, li_22, li_23, li_24, li_25, li_26, li_27, li_28, li_29, li_30, li_31, li_32, li_33, li_34, li_35, li_36, li_37, li_38, li_39, li_40, li_41, li_42, li_43, li_44, li_45, li_46, li_47, li_48, li_49, li_50, li_51, li_52, li_53, li_54, li_55, li_56, li_57, li_58, li_59, li_60, li_63, li_64, li_72, li_76, li_77, li_91, li_93, li_96, li_97, li_99, li_108, li_109, li_120, li_122, li_150, li_200, li_255, li_400, li_426, li_600, li_900, li_999, li_1000, li_1002, li_1003, li_2000, li_2042, li_2043, li_2045, li_10000, li_32767, li_100000, li_1000000, li_m1, li_m1b, ob_s, lt1_e, se_l, se_r, if_true, if_false, true_and, and_true, false_and, and_false, st_at, i3_add, i3_mul, i3_sub, i3_lt, i3_le, i3_eq, i3_nat, m1_eqi, i3_eqm, m1_lti, m1_lei, i3_ltm, i3_lem, i3_decm, i3_dec0, nm_eqm, yr_eqm, mxor0, Nat.zero_add, if_pos, if_neg, eq_self, ne_eq, not_true_eq_false, not_false_eq_true, fX_State_longestChain_L4, hn]
theorem EC.trueL (h : EC W n N K F D U T Y th g) (hw : WF U T d) : ∀ k p c m, p < n → d p = k → c + k + 1 ≤ 8 → k + 1 < m → lp (fX_State_trueName_L11 th g) m (i3 p, i3 c) = some (nm (rt U T 9 p)) := by
  have hh := fun k (hk : k < n) => h.isDead hk
  have hm1 : fX_State_isDead th m1 g = some (i3 0) := EC.isDeadm
  obtain ⟨hr, ⟨s1, s2, s3, s4⟩, ⟨h8, hD, hU, hB⟩, hC, hL⟩ := h
  have hU8 : ∀ p, p < 8 → U p = 8 ∨ U p < 8 := fun p hp => by have := hU p hp; omega
  intro k
  induction k with
  | zero =>
    intro p c m hp hd hc hm
    obtain ⟨m, rfl⟩ : ∃ j, m = j + 2 := ⟨m - 2, by omega⟩
    have ha := hw.2 p (by omega)
    have hu : U p = 8 := by
      refine Classical.byContradiction (fun q => ?_)
      have := ha.2.1 q
      omega
    by_cases q : T p = 0
    · have e : rt U T 9 p = p := if_pos q
      have e1 : fX_State_trueName_L11 th g (i3 p, i3 c) = some (.inr (i3 p)) := by simp (disch := (first | omega | assumption | trivial)) only [li_0, li_1, li_2, li_3, li_4, li_5, li_6, li_7, li_8, li_9, li_10, li_11, li_12, li_13, li_14, li_15, li_16, li_17, li_18, li_19, li_20, li_21, li_22, li_23, li_24, li_25, li_26, li_27, li_28, li_29, li_30, li_31, li_32, li_33, li_34, li_35, li_36, li_37, li_38, li_39, li_40, li_41, li_42, li_43, li_44, li_45, li_46, li_47, li_48, li_49, li_50, li_51, li_52, li_53, li_54, li_55, li_56, li_57, li_58, li_59, li_60, li_63, li_64, li_72, li_76, li_77, li_91, li_93, li_96, li_97, li_99, li_108, li_109, li_120, li_122, li_150, li_200, li_255, li_400, li_426, li_600, li_900, li_999, li_1000, li_1002, li_1003, li_2000, li_2042, li_2043, li_2045, li_10000, li_32767, li_100000, li_1000000, li_m1, li_m1b, ob_s, lt1_e, se_l, se_r, if_true, if_false, true_and, and_true, false_and, and_false, st_at, i3_add, i3_mul, i3_sub, i3_lt, i3_le, i3_eq, i3_nat, m1_eqi, i3_eqm, m1_lti, m1_lei, i3_ltm, i3_lem, i3_decm, i3_dec0, nm_eqm, yr_eqm, mxor0, Nat.zero_add, if_pos, if_neg, eq_self, ne_eq, not_true_eq_false, not_false_eq_true, fX_State_trueName_L11, hh]
      rw [lp_inr e1, e, nm_lt (by omega)]
      try rfl
    · have e : rt U T 9 p = 8 := by
        show (if T p = 0 then p else if U p = 8 then 8 else rt U T 8 (U p)) = 8
        rw [if_neg q, if_pos hu]
      have e1 : fX_State_trueName_L11 th g (i3 p, i3 c) = some (.inl (m1, i3 (c + 1))) := by simp (disch := (first | omega | assumption | trivial)) only [li_0, li_1, li_2, li_3, li_4, li_5, li_6, li_7, li_8, li_9, li_10, li_11, li_12, li_13, li_14, li_15, li_16, li_17, li_18, li_19, li_20, li_21, li_22, li_23, li_24, li_25, li_26, li_27, li_28, li_29, li_30, li_31, li_32, li_33, li_34, li_35, li_36, li_37, li_38, li_39, li_40, li_41, li_42, li_43, li_44, li_45, li_46, li_47, li_48, li_49, li_50, li_51, li_52, li_53, li_54, li_55, li_56, li_57, li_58, li_59, li_60, li_63, li_64, li_72, li_76, li_77, li_91, li_93, li_96, li_97, li_99, li_108, li_109, li_120, li_122, li_150, li_200, li_255, li_400, li_426, li_600, li_900, li_999, li_1000, li_1002, li_1003, li_2000, li_2042, li_2043, li_2045, li_10000, li_32767, li_100000, li_1000000, li_m1, li_m1b, ob_s, lt1_e, se_l, se_r, if_true, if_false, true_and, and_true, false_and, and_false, st_at, i3_add, i3_mul, i3_sub, i3_lt, i3_le, i3_eq, i3_nat, m1_eqi, i3_eqm, m1_lti, m1_lei, i3_ltm, i3_lem, i3_decm, i3_dec0, nm_eqm, yr_eqm, mxor0, Nat.zero_add, if_pos, if_neg, eq_self, ne_eq, not_true_eq_false, not_false_eq_true, fX_State_trueName_L11, hh, rS3, at8, s2, hu, nm_no]
      have e2 : fX_State_trueName_L11 th g (m1, i3 (c + 1)) = some (.inr m1) := by
        by_cases q : c + 1 = 8
        · rw [q]; simp (disch := (first | omega | assumption | trivial)) only [li_0, li_1, li_2, li_3, li_4, li_5, li_6, li_7, li_8, li_9, li_10, li_11, li_12, li_13, li_14, li_15, li_16, li_17, li_18, li_19, li_20, li_21, li_22, li_23, li_24, li_25, li_26, li_27, li_28, li_29, li_30, li_31, li_32, li_33, li_34, li_35, li_36, li_37, li_38, li_39, li_40, li_41, li_42, li_43, li_44, li_45, li_46, li_47, li_48, li_49, li_50, li_51, li_52, li_53, li_54, li_55, li_56, li_57, li_58, li_59, li_60, li_63, li_64, li_72, li_76, li_77, li_91, li_93, li_96, li_97, li_99, li_108, li_109, li_120, li_122, li_150, li_200, li_255, li_400, li_426, li_600, li_900, li_999, li_1000, li_1002, li_1003, li_2000, li_2042, li_2043, li_2045, li_10000, li_32767, li_100000, li_1000000, li_m1, li_m1b, ob_s, lt1_e, se_l, se_r, if_true, if_false, true_and, and_true, false_and, and_false, st_at, i3_add, i3_mul, i3_sub, i3_lt, i3_le, i3_eq, i3_nat, m1_eqi, i3_eqm, m1_lti, m1_lei, i3_ltm, i3_lem, i3_decm, i3_dec0, nm_eqm, yr_eqm, mxor0, Nat.zero_add, if_pos, if_neg, eq_self, ne_eq, not_true_eq_false, not_false_eq_true, fX_State_trueName_L11]
        · simp (disch := (first | omega | assumption | trivial)) only [li_0, li_1, li_2, li_3, li_4, li_5, li_6, li_7, li_8, li_9, li_10, li_11, li_12, li_13, li_14, li_15, li_16, li_17, li_18, li_19, li_20, li_21, li_22, li_23, li_24, li_25, li_26, li_27, li_28, li_29, li_30, li_31, li_32, li_33, li_34, li_35, li_36, li_37, li_38, li_39, li_40, li_41, li_42, li_43, li_44, li_45, li_46, li_47, li_48, li_49, li_50, li_51, li_52, li_53, li_54, li_55, li_56, li_57, li_58, li_59, li_60, li_63, li_64, li_72, li_76, li_77, li_91, li_93, li_96, li_97, li_99, li_108, li_109, li_120, li_122, li_150, li_200, li_255, li_400, li_426, li_600, li_900, li_999, li_1000, li_1002, li_1003, li_2000, li_2042, li_2043, li_2045, li_10000, li_32767, li_100000, li_1000000, li_m1, li_m1b, ob_s, lt1_e, se_l, se_r, if_true, if_false, true_and, and_true, false_and, and_false, st_at, i3_add, i3_mul, i3_sub, i3_lt, i3_le, i3_eq, i3_nat, m1_eqi, i3_eqm, m1_lti, m1_lei, i3_ltm, i3_lem, i3_decm, i3_dec0, nm_eqm, yr_eqm, mxor0, Nat.zero_add, if_pos, if_neg, eq_self, ne_eq, not_true_eq_false, not_false_eq_true, fX_State_trueName_L11, hm1]
      rw [lp_inl e1, lp_inr e2, e]
      try rfl
  | succ k ih =>
    intro p c m hp hd hc hm
    obtain ⟨m, rfl⟩ : ∃ j, m = j + 1 := ⟨m - 1, by omega⟩
    have ha := hw.2 p (by omega)
    have hu : ¬ U p = 8 := fun q => by
      have := ha.1 q
      omega
    have hu2 := hU p (by omega)
    have q : ¬ T p = 0 := fun q => hu (hw.1 p (by omega) q)
    have h1 := ha.2.1 hu
    have e1 : fX_State_trueName_L11 th g (i3 p, i3 c) = some (.inl (i3 (U p), i3 (c + 1))) := by simp (disch := (first | omega | assumption | trivial)) only [li_0, li_1, li_2, li_3, li_4, li_5, li_6, li_7, li_8, li_9, li_10, li_11, li_12, li_13, li_14, li_15, li_16, li_17, li_18, li_19, li_20, li_21, li_22, li_23, li_24, li_25, li_26, li_27, li_28, li_29, li_30, li_31, li_32, li_33, li_34, li_35, li_36, li_37, li_38, li_39, li_40, li_41, li_42, li_43, li_44, li_45, li_46, li_47, li_48, li_49, li_50, li_51, li_52, li_53, li_54, li_55, li_56, li_57, li_58, li_59, li_60, li_63, li_64, li_72, li_76, li_77, li_91, li_93, li_96, li_97, li_99, li_108, li_109, li_120, li_122, li_150, li_200, li_255, li_400, li_426, li_600, li_900, li_999, li_1000, li_1002, li_1003, li_2000, li_2042, li_2043, li_2045, li_10000, li_32767, li_100000, li_1000000, li_m1, li_m1b, ob_s, lt1_e, se_l, se_r, if_true, if_false, true_and, and_true, false_and, and_false, st_at, i3_add, i3_mul, i3_sub, i3_lt, i3_le, i3_eq, i3_nat, m1_eqi, i3_eqm, m1_lti, m1_lei, i3_ltm, i3_lem, i3_decm, i3_dec0, nm_eqm, yr_eqm, mxor0, Nat.zero_add, if_pos, if_neg, eq_self, ne_eq, not_true_eq_false, not_false_eq_true, fX_State_trueName_L11, hh, rS3, at8, s2, nm_lt]
    rw [lp_inl e1]
    rw [ih (U p) (c + 1) m (by omega) (by omega) (by omega) (by omega), rt_9 hw.2 hU8 (by omega) q hu]
theorem EC.trueName (h : EC W n N K F D U T Y th g) (hw : WF U T d) {p : Nat} (hp : p < n) : fX_State_trueName th (i3 p) g = some (nm (if T p = 0 then 8 else rt U T 9 p)) := by
  have h8 := h.2.2.1.1
  have hd := hw.2.le (p := p) (by omega)
  have ha := hw.2 p (by omega)
  have hr := h.1
  have hu2 := h.2.2.1.2.2.1 p (by omega)
  have s2 := h.2.1.2.1
  have hm1 : fX_State_isDead th m1 g = some (i3 0) := EC.isDeadm
  have hU8 : ∀ p, p < 8 → U p = 8 ∨ U p < 8 := fun p hp => by have := h.2.2.1.2.2.1 p hp; omega
  by_cases q : U p = 8
  · have e2 : fX_State_trueName_L11 th g (m1, i3 0) = some (.inr m1) := by simp (disch := (first | omega | assumption | trivial)) only [li_0, li_1, li_2, li_3, li_4, li_5, li_6, li_7, li_8, li_9, li_10, li_11, li_12, li_13, li_14, li_15, li_16, li_17, li_18, li_19, li_20, li_21, li_22, li_23, li_24, li_25, li_26, li_27, li_28, li_29, li_30, li_31, li_32, li_33, li_34, li_35, li_36, li_37, li_38, li_39, li_40, li_41, li_42, li_43, li_44, li_45, li_46, li_47, li_48, li_49, li_50, li_51, li_52, li_53, li_54, li_55, li_56, li_57, li_58, li_59, li_60, li_63, li_64, li_72, li_76, li_77, li_91, li_93, li_96, li_97, li_99, li_108, li_109, li_120, li_122, li_150, li_200, li_255, li_400, li_426, li_600, li_900, li_999, li_1000, li_1002, li_1003, li_2000, li_2042, li_2043, li_2045, li_10000, li_32767, li_100000, li_1000000, li_m1, li_m1b, ob_s, lt1_e, se_l, se_r, if_true, if_false, true_and, and_true, false_and, and_false, st_at, i3_add, i3_mul, i3_sub, i3_lt, i3_le, i3_eq, i3_nat, m1_eqi, i3_eqm, m1_lti, m1_lei, i3_ltm, i3_lem, i3_decm, i3_dec0, nm_eqm, yr_eqm, mxor0, Nat.zero_add, if_pos, if_neg, eq_self, ne_eq, not_true_eq_false, not_false_eq_true, fX_State_trueName_L11, hm1]
    have e3 : lp (fX_State_trueName_L11 th g) fuel (m1, i3 0) = some m1 := lp_inrF e2
    have e5 : (if T p = 0 then 8 else rt U T 9 p) = 8 := by
      by_cases q2 : T p = 0
      · rw [if_pos q2]
      · rw [if_neg q2]
        show (if T p = 0 then p else if U p = 8 then 8 else rt U T 8 (U p)) = 8
        rw [if_neg q2, if_pos q]
    rw [e5]
    simp (disch := (first | omega | assumption | trivial)) only [li_0, li_1, li_2, li_3, li_4, li_5, li_6, li_7, li_8, li_9, li_10, li_11, li_12, li_13, li_14, li_15, li_16, li_17, li_18, li_19, li_20, li_21, li_22, li_23, li_24, li_25, li_26, li_27, li_28, li_29, li_30, li_31, li_32, li_33, li_34, li_35, li_36, li_37, li_38, li_39, li_40, li_41, li_42, li_43, li_44, li_45, li_46, li_47, li_48, li_49, li_50, li_51, li_52, li_53, li_54, li_55, li_56, li_57, li_58, li_59, li_60, li_63, li_64, li_72, li_76, li_77, li_91, li_93, li_96, li_97, li_99, li_108, li_109, li_120, li_122, li_150, li_200, li_255, li_400, li_426, li_600, li_900, li_999, li_1000, li_1002, li_1003, li_2000, li_2042, li_2043, li_2045, li_10000, li_32767, li_100000, li_1000000, li_m1, li_m1b, ob_s, lt1_e, se_l, se_r, if_true, if_false, true_and, and_true, false_and, and_false, st_at, i3_add, i3_mul, i3_sub, i3_lt, i3_le, i3_eq, i3_nat, m1_eqi, i3_eqm, m1_lti, m1_lei, i3_ltm, i3_lem, i3_decm, i3_dec0, nm_eqm, yr_eqm, mxor0, Nat.zero_add, if_pos, if_neg, eq_self, ne_eq, not_true_eq_false, not_false_eq_true, fX_State_trueName, fX_State_trueName_b11, rS3, at8, s2, nm_no, e3]
  · have h1 := ha.2.1 q
    have q2 : ¬ T p = 0 := fun z => q (hw.1 p (by omega) z)
    have e3 := h.trueL hw (d (U p)) (U p) 0 1000000 (by omega) rfl (by omega) (by omega)
    rw [← fuel_eq, ← rt_9 hw.2 hU8 (by omega) q2 q] at e3
    rw [if_neg q2]
    simp (disch := (first | omega | assumption | trivial)) only [li_0, li_1, li_2, li_3, li_4, li_5, li_6, li_7, li_8, li_9, li_10, li_11, li_12, li_13, li_14, li_15, li_16, li_17, li_18, li_19, li_20, li_21, li_22, li_23, li_24, li_25, li_26, li_27, li_28, li_29, li_30, li_31, li_32, li_33, li_34, li_35, li_36, li_37, li_38, li_39, li_40, li_41, li_42, li_43, li_44, li_45, li_46, li_47, li_48, li_49, li_50, li_51, li_52, li_53, li_54, li_55, li_56, li_57, li_58, li_59, li_60, li_63, li_64, li_72, li_76, li_77, li_91, li_93, li_96, li_97, li_99, li_108, li_109, li_120, li_122, li_150, li_200, li_255, li_400, li_426, li_600, li_900, li_999, li_1000, li_1002, li_1003, li_2000, li_2042, li_2043, li_2045, li_10000, li_32767, li_100000, li_1000000, li_m1, li_m1b, ob_s, lt1_e, se_l, se_r, if_true, if_false, true_and, and_true, false_and, and_false, st_at, i3_add, i3_mul, i3_sub, i3_lt, i3_le, i3_eq, i3_nat, m1_eqi, i3_eqm, m1_lti, m1_lei, i3_ltm, i3_lem, i3_decm, i3_dec0, nm_eqm, yr_eqm, mxor0, Nat.zero_add, if_pos, if_neg, eq_self, ne_eq, not_true_eq_false, not_false_eq_true, fX_State_trueName, fX_State_trueName_b11, rS3, at8, s2, nm_lt, e3]
end CHM
