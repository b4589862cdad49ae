/-! PURE: law: what a row of codes gives -/
theorem i3d1 (x : Int32) : x / m1 = -x := by
  apply Int32.toBitVec_inj.mp
  have h := BitVec.sdiv_neg (x := x.toBitVec) (y := 1#32) (by decide)
  rw [BitVec.sdiv_one] at h
  exact h
theorem i3m1 (x : Int32) : x - x / m1 * m1 = 0 := by
  have h : m1 = -(1 : Int32) := rfl
  rw [i3d1, h, Int32.mul_neg, Int32.mul_one, Int32.neg_neg, Int32.sub_self]
theorem by_eq {c : Nat} (h : isO (2000 + c) = true) (x y : Int32) : fM_by (i3 (opc c)) x y = fX_Law_joined (i3 c) x y := by
  have h2 : c = 43 ∨ c = 45 ∨ c = 42 ∨ c = 47 ∨ c = 37 ∨ c = 76 ∨ c = 77 := by
    unfold isO at h
    simp only [Bool.or_eq_true, decide_eq_true_eq] at h
    omega
  rcases h2 with rfl | rfl | rfl | rfl | rfl | rfl | rfl
  · rfl
  · rfl
  · rfl
  · show (if y = 0 then (0 : Int32) else if y = m1 then -x else x / y) = (if y = 0 then (0 : Int32) else x / y)
    by_cases q : y = 0
    · rw [if_pos q, if_pos q]
    · rw [if_neg q, if_neg q]
      by_cases q2 : y = m1
      · rw [if_pos q2, q2, i3d1]
      · rw [if_neg q2]
  · show (if y = 0 then (0 : Int32) else if y = m1 then (0 : Int32) else x - x / y * y) = (if y = 0 then (0 : Int32) else x - x / y * y)
    by_cases q : y = 0
    · rw [if_pos q, if_pos q]
    · rw [if_neg q, if_neg q]
      by_cases q2 : y = m1
      · rw [if_pos q2, q2, i3m1]
      · rw [if_neg q2]
  · rfl
  · rfl
def ev (f : Nat → Nat) : List Nat → List Int32 → List Int32
  | [], s => s
  | c :: L, s => if c < 1000 then ev f L (i3 c :: s) else if c < 2000 then ev f L (i3 (f (c - 1000)) :: s) else ev f L (fX_Law_joined (i3 (c - 2000)) (s.getD 1 0) (s.getD 0 0) :: s.drop 2)
def STK (row : Nat) (s : List Int32) (g : St) : Prop := ∀ j, j < s.length → g row (s.length - 1 - j) = s.getD j 0
section EE
variable {row : Nat} {s : List Int32} {g g' : St} {f : Nat → Nat}
theorem STK.push (h : STK row s g) (v : Int32) : STK row (v :: s) (st g row s.length v) := fun j hj => by
  rw [List.length_cons] at hj ⊢
  rcases j with _ | j
  · rw [show s.length + 1 - 1 - 0 = s.length by omega, st_eq]
    rfl
  · rw [st_at, if_neg (by omega), show s.length + 1 - 1 - (j + 1) = s.length - 1 - j by omega, h j (by omega)]
    rfl
theorem STK.pop (h : STK row s g) (h2 : 2 ≤ s.length) (v : Int32) : STK row (v :: s.drop 2) (st g row (s.length - 2) v) := fun j hj => by
  rw [List.length_cons, List.length_drop] at hj ⊢
  rcases j with _ | j
  · rw [show s.length - 2 + 1 - 1 - 0 = s.length - 2 by omega, st_eq]
    rfl
  · rw [st_at, if_neg (by omega), show s.length - 2 + 1 - 1 - (j + 1) = s.length - 1 - (j + 2) by omega, h (j + 2) (by omega)]
    show s.getD (j + 2) 0 = (s.drop 2).getD j 0
    rw [List.getD_eq_getElem?_getD, List.getD_eq_getElem?_getD, List.getElem?_drop, Nat.add_comm]
theorem isO_ge {c : Nat} (h : isO c = true) : 2000 ≤ c ∧ c < 2100 := by
  unfold isO at h
  simp only [Bool.or_eq_true, decide_eq_true_eq] at h
  omega
theorem evXL (f : Nat → Nat) : ∀ (L : List Nat) (s : List Int32) (i d : Nat) (g : St) (m : Nat), i + L.length ≤ 150 → s.length ≤ i → L.length < m → g 4 3 = i3 (i + L.length) → (∀ j, j < L.length → g 23 (i + j) = i3 (L.getD j 0)) → (∀ i, i < 8 → g 25 i = i3 (f i)) → STK 24 s g → wfd L s.length = some d → ∃ g', lp (fX_Law_answer_L4 4) m (i3 s.length, i3 i, g) = some g' ∧ STK 24 (ev f L s) g' ∧ (ev f L s).length = d ∧ ∀ p, p ≠ 24 → g' p = g p
  | [], s, i, d, g, m, h1, h2, h3, h4, h5, h6, h7, h8 => by
    obtain ⟨m, rfl⟩ : ∃ z, m = z + 1 := ⟨m - 1, by rw [List.length_nil] at h3; omega⟩
    refine ⟨g, lp_inr ?_, h7, Option.some.inj h8, fun _ _ => rfl⟩
    unfold fX_Law_answer_L4
    show (if g 4 3 ≤ i3 i then _ else _) = _
    rw [h4, if_pos (i3_yle (by omega) (by rw [List.length_nil]; omega))]
  | c :: L, s, i, d, g, m, h1, h2, h3, h4, h5, h6, h7, h8 => by
    rw [List.length_cons] at h1 h3 h4
    obtain ⟨m, rfl⟩ : ∃ z, m = z + 1 := ⟨m - 1, by omega⟩
    have hc : g 23 i = i3 c := h5 0 (by rw [List.length_cons]; omega)
    have hsh : ∀ (g' : St), (∀ p, p ≠ 24 → g' p = g p) → g' 4 3 = i3 ((i + 1) + L.length) ∧ (∀ j, j < L.length → g' 23 (i + 1 + j) = i3 (L.getD j 0)) ∧ ∀ i, i < 8 → g' 25 i = i3 (f i) := fun g' e => by
      refine ⟨by rw [e 4 (by omega), h4]; congr 1; omega, fun j hj => ?_, fun i hi => by rw [e 25 (by omega)]; exact h6 i hi⟩
      rw [e 23 (by omega), show i + 1 + j = i + (j + 1) by omega]
      exact h5 (j + 1) (by rw [List.length_cons]; omega)
    have hstep : fX_Law_answer_L4 4 (i3 s.length, i3 i, g) = if (2000 : Int32) ≤ i3 c then ((fX_Rows_at 24 ((i3 s.length + (-1 : Int32)) - (1 : Int32)) g).bind fun r75 => ((fX_Rows_at 24 (i3 s.length + (-1 : Int32)) g).bind fun r99 => ((fX_Rows_put 24 ((i3 s.length + (-1 : Int32)) - (1 : Int32)) (fX_Law_joined (i3 c - (2000 : Int32)) r75 r99) g).bind fun g105 => (fX_Law_answer_b108 4 (i3 s.length + (-1 : Int32)) (i3 i) g105)))) else (if (1000 : Int32) ≤ i3 c then ((fX_Rows_at 25 (i3 c - (1000 : Int32)) g).bind fun r53 => (fX_Law_answer_b56 4 (i3 s.length) (i3 i) (i3 s.length) r53 g)) else (fX_Law_answer_b56 4 (i3 s.length) (i3 i) (i3 s.length) (i3 c) g)) := by
      unfold fX_Law_answer_L4
      show (if g 4 3 ≤ i3 i then _ else (fX_Rows_at 23 (i3 i) g).bind _) = _
      rw [h4, if_neg (i3_nle (by omega) (by omega)), at150 (by omega) (by omega), ob_s, hc]
      rfl
    have hpush : ∀ v, fX_Law_answer_b56 4 (i3 s.length) (i3 i) (i3 s.length) v g = some (.inl (i3 (s.length + 1), i3 (i + 1), st g 24 s.length v)) := fun v => by
      unfold fX_Law_answer_b56
      show (fX_Rows_put 24 (i3 s.length) v g).bind _ = _
      rw [pu150 (by omega) (by omega), ob_s]
      show some (Sum.inl (i3 s.length + i3 1, i3 i + i3 1, _)) = _
      rw [i3_add, i3_add]
    have hgo : ∀ v, (wfd L (s.length + 1) = some d) → fX_Law_answer_L4 4 (i3 s.length, i3 i, g) = some (.inl (i3 (s.length + 1), i3 (i + 1), st g 24 s.length v)) → ∃ g', lp (fX_Law_answer_L4 4) (m + 1) (i3 s.length, i3 i, g) = some g' ∧ STK 24 (ev f L (v :: s)) g' ∧ (ev f L (v :: s)).length = d ∧ ∀ p, p ≠ 24 → g' p = g p := fun v hw e => by
      have fr : ∀ p, p ≠ 24 → (st g 24 s.length v) p = g p := fun p hp => st_ne hp
      obtain ⟨k1, k2, k3⟩ := hsh _ fr
      obtain ⟨g', a1, a2, a3, a4⟩ := evXL f L (v :: s) (i + 1) d (st g 24 s.length v) m (by omega) (by rw [List.length_cons]; omega) (by omega) k1 k2 k3 (h7.push v) hw
      refine ⟨g', ?_, a2, a3, fun p hp => (a4 p hp).trans (fr p hp)⟩
      rw [lp_inl e]
      exact a1
    by_cases q : c < 1008
    · rw [show wfd (c :: L) s.length = wfd L (s.length + 1) from if_pos q] at h8
      rw [if_neg (show ¬ (2000 : Int32) ≤ i3 c from i3_nle (a := 2000) (b := c) (by omega) (by omega))] at hstep
      by_cases q2 : c < 1000
      · rw [if_neg (show ¬ (1000 : Int32) ≤ i3 c from i3_nle (a := 1000) (b := c) (by omega) (by omega)), hpush] at hstep
        rw [show ev f (c :: L) s = ev f L (i3 c :: s) from if_pos q2]
        exact hgo _ h8 hstep
      · have e1 : i3 c - (1000 : Int32) = i3 (c - 1000) := i3_sub (b := 1000) (by omega)
        rw [if_pos (show (1000 : Int32) ≤ i3 c from i3_yle (a := 1000) (by omega) (by omega)), e1, at8 (by omega) (by omega), ob_s, h6 _ (by omega), hpush] at hstep
        rw [show ev f (c :: L) s = ev f L (i3 (f (c - 1000)) :: s) from (if_neg q2).trans (if_pos (by omega))]
        exact hgo _ h8 hstep
    · have h8' : (if isO c = true ∧ 2 ≤ s.length then wfd L (s.length - 1) else none) = some d := by
        rw [← h8]
        exact (if_neg q).symm
      by_cases q2 : isO c = true ∧ 2 ≤ s.length
      · rw [if_pos q2] at h8'
        have hO := isO_ge q2.1
        have hl := q2.2
        have e1 : i3 c - (2000 : Int32) = i3 (c - 2000) := i3_sub (b := 2000) (by omega)
        have e2 : i3 s.length + (-1 : Int32) = i3 (s.length - 1) := i3_decm (by omega)
        have e3 : i3 (s.length - 1) - (1 : Int32) = i3 (s.length - 2) := i3_sub (b := 1) (by omega)
        have t0 := h7 0 (by omega)
        have t1 := h7 1 (by omega)
        rw [show s.length - 1 - 0 = s.length - 1 by omega] at t0
        rw [show s.length - 1 - 1 = s.length - 2 by omega] at t1
        rw [if_pos (show (2000 : Int32) ≤ i3 c from i3_yle (a := 2000) (by omega) hO.1), e1, e2, e3, at150 (by omega) (by omega), ob_s, at150 (by omega) (by omega), ob_s, pu150 (by omega) (by omega), ob_s, t0, t1] at hstep
        have e4 : fX_Law_answer_L4 4 (i3 s.length, i3 i, g) = some (.inl (i3 (s.length - 1), i3 (i + 1), st g 24 (s.length - 2) (fX_Law_joined (i3 (c - 2000)) (s.getD 1 0) (s.getD 0 0)))) := by
          rw [hstep]
          show some (Sum.inl (i3 (s.length - 1), i3 i + i3 1, _)) = _
          rw [i3_add]
        rw [show ev f (c :: L) s = ev f L (fX_Law_joined (i3 (c - 2000)) (s.getD 1 0) (s.getD 0 0) :: s.drop 2) from (if_neg (by omega)).trans (if_neg (by omega))]
        generalize fX_Law_joined (i3 (c - 2000)) (s.getD 1 0) (s.getD 0 0) = v at *
        have fr : ∀ p, p ≠ 24 → (st g 24 (s.length - 2) v) p = g p := fun p hp => st_ne hp
        obtain ⟨k1, k2, k3⟩ := hsh _ fr
        have hlen : (v :: s.drop 2).length = s.length - 1 := by rw [List.length_cons, List.length_drop]; omega
        obtain ⟨g', a1, a2, a3, a4⟩ := evXL f L (v :: s.drop 2) (i + 1) d (st g 24 (s.length - 2) v) m (by omega) (by omega) (by omega) k1 k2 k3 (h7.pop hl v) (by rw [hlen]; exact h8')
        refine ⟨g', ?_, a2, a3, fun p hp => (a4 p hp).trans (fr p hp)⟩
        rw [lp_inl e4, ← hlen]
        exact a1
      · rw [if_neg q2] at h8'
        exact nomatch h8'
theorem evML (f : Nat → Nat) : ∀ (L : List Nat) (s : List Int32) (i d : Nat) (g : St) (m : Nat), i + L.length ≤ 150 → s.length ≤ i → L.length < m → g 0 17 = i3 (i + L.length) → (∀ j, j < L.length → g (42 + (i + j)) 0 = i3 (wh (L.getD j 0)) ∧ g (42 + (i + j)) 1 = i3 (vl (L.getD j 0))) → (∀ i, i < 8 → g 14 i = i3 (f i)) → STK 13 s g → wfd L s.length = some d → ∃ g', lp fM_byLaw_L37 m (i3 s.length, i3 i, g) = some g' ∧ STK 13 (ev f L s) g' ∧ ∀ p, p ≠ 13 → g' p = g p
  | [], s, i, d, g, m, h1, h2, h3, h4, h5, h6, h7, h8 => by
    obtain ⟨m, rfl⟩ : ∃ z, m = z + 1 := ⟨m - 1, by rw [List.length_nil] at h3; omega⟩
    refine ⟨g, lp_inr ?_, h7, fun _ _ => rfl⟩
    unfold fM_byLaw_L37
    show (if g 0 17 ≤ i3 i then _ else _) = _
    rw [h4, if_pos (i3_yle (by omega) (by rw [List.length_nil]; omega))]
  | c :: L, s, i, d, g, m, h1, h2, h3, h4, h5, h6, h7, h8 => by
    rw [List.length_cons] at h1 h3 h4
    obtain ⟨m, rfl⟩ : ∃ z, m = z + 1 := ⟨m - 1, by omega⟩
    obtain ⟨hc0, hc1⟩ : g (42 + i) 0 = i3 (wh c) ∧ g (42 + i) 1 = i3 (vl c) := h5 0 (by rw [List.length_cons]; omega)
    have hsh : ∀ (g' : St), (∀ p, p ≠ 13 → g' p = g p) → g' 0 17 = i3 ((i + 1) + L.length) ∧ (∀ j, j < L.length → g' (42 + (i + 1 + j)) 0 = i3 (wh (L.getD j 0)) ∧ g' (42 + (i + 1 + j)) 1 = i3 (vl (L.getD j 0))) ∧ ∀ i, i < 8 → g' 14 i = i3 (f i) := fun g' e => by
      refine ⟨by rw [e 0 (by omega), h4]; congr 1; omega, fun j hj => ?_, fun i hi => by rw [e 14 (by omega)]; exact h6 i hi⟩
      rw [e _ (by omega), show i + 1 + j = i + (j + 1) by omega]
      exact h5 (j + 1) (by rw [List.length_cons]; omega)
    have hpush : ∀ v, fM_byLaw_b97 (i3 s.length) (i3 i) (i3 s.length) v g = some (.inl (i3 (s.length + 1), i3 (i + 1), st g 13 s.length v)) := fun v => by
      unfold fM_byLaw_b97
      rw [if_pos (i3_in (by omega) (by omega)), i3_nat (by omega)]
      show some (Sum.inl (i3 s.length + i3 1, i3 i + i3 1, _)) = _
      rw [i3_add, i3_add]
    have hstep : fM_byLaw_L37 (i3 s.length, i3 i, g) = if (2 : Int32) ≤ i3 (wh c) then (if ¬ (((i3 s.length + (-1 : Int32)) - (1 : Int32)) < 0 ∨ 160 ≤ ((i3 s.length + (-1 : Int32)) - (1 : Int32)).toNatClampNeg) then (if ¬ ((i3 s.length + (-1 : Int32)) < 0 ∨ 160 ≤ (i3 s.length + (-1 : Int32)).toNatClampNeg) then (fM_byLaw_b140 (i3 s.length + (-1 : Int32)) (i3 i) (st g 13 (((i3 s.length + (-1 : Int32)) - (1 : Int32)).toNatClampNeg) (fM_by (i3 (wh c)) (g 13 (((i3 s.length + (-1 : Int32)) - (1 : Int32)).toNatClampNeg)) (g 13 ((i3 s.length + (-1 : Int32)).toNatClampNeg))))) else none) else none) else (if i3 (wh c) = 0 then (fM_byLaw_b97 (i3 s.length) (i3 i) (i3 s.length) (i3 (vl c)) g) else (if ¬ (i3 (vl c) < 0 ∨ 8 ≤ (i3 (vl c)).toNatClampNeg) then (fM_byLaw_b97 (i3 s.length) (i3 i) (i3 s.length) (g 14 ((i3 (vl c)).toNatClampNeg)) g) else none)) := by
      unfold fM_byLaw_L37
      show (if g 0 17 ≤ i3 i then _ else _) = _
      rw [h4, if_neg (i3_nle (by omega) (by omega)), if_pos (i3_in (by omega) (by omega)), i3_nat (by omega), hc0, hc1]
    have hgo : ∀ v, (wfd L (s.length + 1) = some d) → fM_byLaw_L37 (i3 s.length, i3 i, g) = some (.inl (i3 (s.length + 1), i3 (i + 1), st g 13 s.length v)) → ∃ g', lp fM_byLaw_L37 (m + 1) (i3 s.length, i3 i, g) = some g' ∧ STK 13 (ev f L (v :: s)) g' ∧ ∀ p, p ≠ 13 → g' p = g p := fun v hw e => by
      have fr : ∀ p, p ≠ 13 → (st g 13 s.length v) p = g p := fun p hp => st_ne hp
      obtain ⟨k1, k2, k3⟩ := hsh _ fr
      obtain ⟨g', a1, a2, a4⟩ := evML f L (v :: s) (i + 1) d (st g 13 s.length v) m (by omega) (by rw [List.length_cons]; omega) (by omega) k1 k2 k3 (h7.push v) hw
      refine ⟨g', ?_, a2, fun p hp => (a4 p hp).trans (fr p hp)⟩
      rw [lp_inl e]
      exact a1
    by_cases q : c < 1008
    · rw [show wfd (c :: L) s.length = wfd L (s.length + 1) from if_pos q] at h8
      by_cases q2 : c < 1000
      · have w1 : wh c = 0 := if_pos q2
        have w2 : vl c = c := if_pos q2
        rw [w1, w2, if_neg (show ¬ (2 : Int32) ≤ i3 0 by decide), if_pos (show i3 0 = (0 : Int32) from rfl), hpush] at hstep
        rw [show ev f (c :: L) s = ev f L (i3 c :: s) from if_pos q2]
        exact hgo _ h8 hstep
      · have w1 : wh c = 1 := (if_neg q2).trans (if_pos (by omega))
        have w2 : vl c = c - 1000 := (if_neg q2).trans (if_pos (by omega))
        rw [w1, w2, if_neg (show ¬ (2 : Int32) ≤ i3 1 by decide), if_neg (show ¬ i3 1 = (0 : Int32) by decide), if_pos (i3_in (by omega) (by omega)), i3_nat (by omega), h6 _ (by omega), hpush] at hstep
        rw [show ev f (c :: L) s = ev f L (i3 (f (c - 1000)) :: s) from (if_neg q2).trans (if_pos (by omega))]
        exact hgo _ h8 hstep
    · have h8' : (if isO c = true ∧ 2 ≤ s.length then wfd L (s.length - 1) else none) = some d := by
        rw [← h8]
        exact (if_neg q).symm
      by_cases q2 : isO c = true ∧ 2 ≤ s.length
      · rw [if_pos q2] at h8'
        have hO := isO_ge q2.1
        have hl := q2.2
        have w1 : wh c = opc (c - 2000) := (if_neg (by omega)).trans (if_neg (by omega))
        have w3 : (2 : Int32) ≤ i3 (opc (c - 2000)) := by
          unfold opc
          by_cases x1 : c - 2000 = 43
          · rw [if_pos x1]; decide
          rw [if_neg x1]
          by_cases x2 : c - 2000 = 45
          · rw [if_pos x2]; decide
          rw [if_neg x2]
          by_cases x3 : c - 2000 = 42
          · rw [if_pos x3]; decide
          rw [if_neg x3]
          by_cases x4 : c - 2000 = 47
          · rw [if_pos x4]; decide
          rw [if_neg x4]
          by_cases x5 : c - 2000 = 37
          · rw [if_pos x5]; decide
          rw [if_neg x5]
          by_cases x6 : c - 2000 = 76
          · rw [if_pos x6]; decide
          rw [if_neg x6]
          decide
        have e2 : i3 s.length + (-1 : Int32) = i3 (s.length - 1) := i3_decm (by omega)
        have e3 : i3 (s.length - 1) - (1 : Int32) = i3 (s.length - 2) := i3_sub (b := 1) (by omega)
        have t0 := h7 0 (by omega)
        have t1 := h7 1 (by omega)
        rw [show s.length - 1 - 0 = s.length - 1 by omega] at t0
        rw [show s.length - 1 - 1 = s.length - 2 by omega] at t1
        rw [w1, if_pos w3, e2, e3, if_pos (i3_in (by omega) (by omega)), if_pos (i3_in (by omega) (by omega)), i3_nat (by omega), i3_nat (by omega), t0, t1, by_eq (c := c - 2000) (by rw [show 2000 + (c - 2000) = c by omega]; exact q2.1)] at hstep
        have e4 : fM_byLaw_L37 (i3 s.length, i3 i, g) = some (.inl (i3 (s.length - 1), i3 (i + 1), st g 13 (s.length - 2) (fX_Law_joined (i3 (c - 2000)) (s.getD 1 0) (s.getD 0 0)))) := by
          rw [hstep]
          show some (Sum.inl (i3 (s.length - 1), i3 i + i3 1, _)) = _
          rw [i3_add]
        rw [show ev f (c :: L) s = ev f L (fX_Law_joined (i3 (c - 2000)) (s.getD 1 0) (s.getD 0 0) :: s.drop 2) from (if_neg (by omega)).trans (if_neg (by omega))]
        generalize fX_Law_joined (i3 (c - 2000)) (s.getD 1 0) (s.getD 0 0) = v at *
        have fr : ∀ p, p ≠ 13 → (st g 13 (s.length - 2) v) p = g p := fun p hp => st_ne hp
        obtain ⟨k1, k2, k3⟩ := hsh _ fr
        have hlen : (v :: s.drop 2).length = s.length - 1 := by rw [List.length_cons, List.length_drop]; omega
        obtain ⟨g', a1, a2, a4⟩ := evML f L (v :: s.drop 2) (i + 1) d (st g 13 (s.length - 2) v) m (by omega) (by omega) (by omega) k1 k2 k3 (h7.pop hl v) (by rw [hlen]; exact h8')
        refine ⟨g', ?_, a2, fun p hp => (a4 p hp).trans (fr p hp)⟩
        rw [lp_inl e4, ← hlen]
        exact a1
      · rw [if_neg q2] at h8'
        exact nomatch h8'
end EE
/-- a will: none below 0, none above 99 -/
def clp (v : Int32) : Nat := if v < i3 0 then 0 else if v.toNatClampNeg < 99 then v.toNatClampNeg else 99
theorem clp_le (v : Int32) : clp v ≤ 99 := by
  unfold clp
  by_cases q : v < i3 0
  · rw [if_pos q]; omega
  · rw [if_neg q]
    by_cases q2 : v.toNatClampNeg < 99
    · rw [if_pos q2]; omega
    · rw [if_neg q2]; omega
theorem neg_le0 {v : Int32} (h : v < i3 0) : ¬ i3 0 ≤ v := by
  rw [Int32.le_iff_toInt_le]
  rw [Int32.lt_iff_toInt_lt] at h
  omega
theorem clpX (v : Int32) : (if (0 : Int32) ≤ v then (if v ≤ (99 : Int32) then v else (99 : Int32)) else (0 : Int32)) = i3 (clp v) := by
  unfold clp
  rcases i3_cases v with h | ⟨k, hk, rfl⟩
  · rw [if_pos h, if_neg (show ¬ (0 : Int32) ≤ v from neg_le0 h)]
    rfl
  · rw [if_pos (show (0 : Int32) ≤ i3 k from i3_yle (a := 0) hk (by omega)), if_neg (i3_nlt hk (by omega)), i3_nat hk]
    by_cases q : k < 99
    · rw [if_pos q, if_pos (show i3 k ≤ (99 : Int32) from i3_yle (b := 99) (by omega) (by omega))]
    · rw [if_neg q]
      by_cases q2 : k = 99
      · subst q2; rfl
      · rw [if_neg (show ¬ i3 k ≤ (99 : Int32) from i3_nle (b := 99) hk (by omega))]
        rfl
theorem clpM (v : Int32) : fM_less (99 : Int32) (fM_more (0 : Int32) v) = i3 (clp v) := by
  rw [← clpX]
  unfold fM_less fM_more
  by_cases h : (0 : Int32) ≤ v
  · rw [if_pos h, if_pos h]
  · rw [if_neg h, if_neg h, if_pos (by decide)]
def lawW (N : List Nat) (f : Nat → Nat) : Nat := clp ((ev f N []).getD 0 0)
def plainW (f : Nat → Nat) : Nat := clp (i3 3 * i3 (f 0) + i3 9 * i3 (f 3) - i3 5 * i3 (f 2))
def plainL : List Nat := [1000, 3, 2042, 1003, 9, 2042, 2043, 1002, 5, 2042, 2045]
theorem plain_eq (f : Nat → Nat) : lawW plainL f = plainW f := by
  have e : (ev f plainL []).getD 0 0 = i3 (f 0) * i3 3 + i3 (f 3) * i3 9 - i3 (f 2) * i3 5 := rfl
  unfold lawW plainW
  rw [e, Int32.mul_comm (i3 (f 0)), Int32.mul_comm (i3 (f 3)), Int32.mul_comm (i3 (f 2))]
theorem LX_of {N : List Nat} {g : St} (hl : N.length ≤ 150) (hw : wfd N 0 = some 1) (h1 : g 4 3 = i3 N.length) (h2 : ∀ j, j < N.length → g 23 j = i3 (N.getD j 0)) : LX (lawW N) g := by
  intro f g0 hf e1 e2 e3
  obtain ⟨g', a1, a2, a3, a4⟩ := evXL f N [] 0 1 g0 fuel (by omega) (Nat.le_refl 0) (by rw [fuel_eq]; omega) (by rw [e1, h1]; congr 1; omega) (fun j hj => by rw [e2, Nat.zero_add]; exact h2 j hj) e3 (fun j hj => absurd hj (Nat.not_lt_zero j)) hw
  refine ⟨g', ?_, a4⟩
  unfold fX_Law_answer fX_Law_answer_b4
  have t0 : g' 24 0 = (ev f N []).getD 0 0 := by
    have := a2 0 (by omega)
    rw [a3] at this
    exact this
  show (lp (fX_Law_answer_L4 4) fuel (i3 ([] : List Int32).length, i3 0, g0)).bind _ = _
  rw [a1, ob_s]
  show (fX_Rows_at 24 (i3 0) g').bind _ = _
  rw [at150 (by omega) (by omega), ob_s, t0]
  unfold lawW
  rw [← clpX]
  by_cases q : (0 : Int32) ≤ (ev f N []).getD 0 0
  · rw [if_pos q, if_pos q]
    by_cases q2 : (ev f N []).getD 0 0 ≤ (99 : Int32)
    · rw [if_pos q2, if_pos q2]
    · rw [if_neg q2, if_neg q2]
  · rw [if_neg q, if_neg q]
theorem LM_of {N : List Nat} {g : St} (hl : N.length ≤ 150) (hw : wfd N 0 = some 1) (h1 : g 0 17 = i3 N.length) (h2 : ∀ j, j < N.length → g (42 + j) 0 = i3 (wh (N.getD j 0)) ∧ g (42 + j) 1 = i3 (vl (N.getD j 0))) : LM (lawW N) g := by
  intro f g0 hf e1 e2 e3
  obtain ⟨g1, hg1⟩ : ∃ z, z = st g0 13 0 ((((3 : Int32) * (g0 14 0)) + ((9 : Int32) * (g0 14 3))) - ((5 : Int32) * (g0 14 2))) := ⟨_, rfl⟩
  have fr : ∀ p, p ≠ 13 → g1 p = g0 p := fun p hp => by rw [hg1, st_ne hp]
  obtain ⟨g', a1, a2, a4⟩ := evML f N [] 0 1 g1 fuel (by omega) (Nat.le_refl 0) (by rw [fuel_eq]; omega) (by rw [fr 0 (by omega), e1, h1]; congr 1; omega) (fun j hj => by rw [fr _ (by omega), e2 _ (by omega) (by omega), Nat.zero_add]; exact h2 j hj) (fun i hi => by rw [fr 14 (by omega)]; exact e3 i hi) (fun j hj => absurd hj (Nat.not_lt_zero j)) hw
  obtain ⟨_, _, _, a3, _⟩ := evXL f N [] 0 1 (fun p i => if p = 4 then i3 N.length else if p = 23 then i3 (N.getD i 0) else i3 (f i)) fuel (by omega) (Nat.le_refl 0) (by rw [fuel_eq]; omega) (by rw [Nat.zero_add]; rfl) (fun j hj => by rw [Nat.zero_add]; rfl) (fun i hi => rfl) (fun j hj => absurd hj (Nat.not_lt_zero j)) hw
  refine ⟨g', ?_, fun p hp => (a4 p hp).trans (fr p hp)⟩
  unfold fM_byLaw fM_byLaw_b37
  have t0 : g' 13 0 = (ev f N []).getD 0 0 := by
    have := a2 0 (by omega)
    rw [a3] at this
    exact this
  show (lp fM_byLaw_L37 fuel (i3 ([] : List Int32).length, i3 0, _)).bind _ = _
  rw [← hg1, a1, ob_s, t0, clpM]
  rfl
theorem LM_plain {g : St} (h1 : g 0 17 = i3 0) : LM plainW g := by
  intro f g0 hf e1 e2 e3
  obtain ⟨g1, hg1⟩ : ∃ z, z = st g0 13 0 ((((3 : Int32) * (g0 14 0)) + ((9 : Int32) * (g0 14 3))) - ((5 : Int32) * (g0 14 2))) := ⟨_, rfl⟩
  have fr : ∀ p, p ≠ 13 → g1 p = g0 p := fun p hp => by rw [hg1, st_ne hp]
  refine ⟨g1, ?_, fr⟩
  unfold fM_byLaw fM_byLaw_b37
  rw [← hg1, show fuel = 999999 + 1 from rfl, lp_inr (r := g1), ob_s]
  · rw [clpM, hg1, st_eq, e3 0 (by omega), e3 3 (by omega), e3 2 (by omega)]
    rfl
  · unfold fM_byLaw_L37
    show (if g1 0 17 ≤ i3 0 then _ else _) = _
    rw [fr 0 (by omega), e1, h1, if_pos (i3_yle (by omega) (Nat.le_refl 0))]
