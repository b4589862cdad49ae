/-! PURE: work: steps are done, both sides -/
def RFX (g g' : St) : Prop := ∀ p i, ¬ (p = 7 ∧ 6 ≤ i ∧ i ≤ 8) → ¬ p = 10 → ¬ p = 24 → ¬ p = 25 → ¬ p = 34 → ¬ (37 ≤ p ∧ p ≤ 39) → g' p i = g p i
def RFM (g g' : St) : Prop := ∀ p i, ¬ p = 13 → ¬ p = 14 → ¬ p = 16 → ¬ (p = 0 ∧ (i = 33 ∨ i = 36 ∨ i = 37)) → g' p i = g p i
theorem RFX.rf {g : St} : RFX g g := fun _ _ _ _ _ _ _ _ => rfl
theorem RFM.rf {g : St} : RFM g g := fun _ _ _ _ _ _ => rfl
theorem RFX.tr {g g1 g2 : St} (h : RFX g g1) (k : RFX g1 g2) : RFX g g2 := fun p i a b c d e f => (k p i a b c d e f).trans (h p i a b c d e f)
theorem RFM.tr {g g1 g2 : St} (h : RFM g g1) (k : RFM g1 g2) : RFM g g2 := fun p i a b c d => (k p i a b c d).trans (h p i a b c d)
def XG (bg x tn : Nat) (g : St) (bg' x' tn' : Nat) (g' : St) : Prop := ∃ j, tn' = tn + j ∧ ∀ m, lp (fX_Steps_run_L22 10) (m + j) (i3 bg, i3 x, i3 tn, g) = lp (fX_Steps_run_L22 10) m (i3 bg', i3 x', i3 tn', g')
def XE (bg x tn : Nat) (g r : St) : Prop := ∃ j, tn + j ≤ 900000 ∧ ∀ m, lp (fX_Steps_run_L22 10) (m + j + 1) (i3 bg, i3 x, i3 tn, g) = some r
def MG (f : (Int32 × St) → Option ((Int32 × St) ⊕ St)) (s : Nat) (g : St) (s' : Nat) (g' : St) : Prop := ∃ j, j + s ≤ s' ∧ ∀ m, lp f (m + j) (i3 s, g) = lp f m (i3 s', g')
def ME (f : (Int32 × St) → Option ((Int32 × St) ⊕ St)) (s : Nat) (g : St) (send : Nat) (r : St) : Prop := ∃ j, j + s ≤ send ∧ ∀ m, lp f (m + j + 1) (i3 s, g) = some r
theorem XG.rf {bg x tn : Nat} {g : St} : XG bg x tn g bg x tn g := ⟨0, rfl, fun _ => rfl⟩
theorem XG.tr {bg x tn bg1 x1 tn1 bg2 x2 tn2 : Nat} {g g1 g2 : St} (h : XG bg x tn g bg1 x1 tn1 g1) (h2 : XG bg1 x1 tn1 g1 bg2 x2 tn2 g2) : XG bg x tn g bg2 x2 tn2 g2 := by
  obtain ⟨j, rfl, e⟩ := h
  obtain ⟨j2, rfl, e2⟩ := h2
  exact ⟨j + j2, by omega, fun m => by rw [show m + (j + j2) = (m + j2) + j by omega, e, e2]⟩
theorem XG.one {bg x tn bg1 x1 : Nat} {g g1 : St} (h : fX_Steps_run_L22 10 (i3 bg, i3 x, i3 tn, g) = some (.inl (i3 bg1, i3 x1, i3 (tn + 1), g1))) : XG bg x tn g bg1 x1 (tn + 1) g1 := ⟨1, rfl, fun _ => lp_inl h⟩
theorem XG.e {bg x tn bg1 x1 tn1 : Nat} {g g1 r : St} (h : XG bg x tn g bg1 x1 tn1 g1) (h2 : XE bg1 x1 tn1 g1 r) : XE bg x tn g r := by
  obtain ⟨j, rfl, e⟩ := h
  obtain ⟨j2, hj, e2⟩ := h2
  exact ⟨j + j2, by omega, fun m => by rw [show m + (j + j2) + 1 = (m + j2 + 1) + j by omega, e, e2]⟩
theorem XE.stop {x tn : Nat} {g : St} (ht : tn ≤ 900000) : XE 200 x tn g g := by
  refine ⟨0, ht, fun m => lp_inr ?_⟩
  unfold fX_Steps_run_L22
  show (if i3 1000000 ≤ i3 tn then some (Sum.inr g) else if g 7 5 ≤ i3 x then some (Sum.inr g) else if i3 200 ≤ i3 200 then some (Sum.inr g) else _) = _
  rw [if_neg (i3_nle (by omega) (by omega))]
  by_cases q : g 7 5 ≤ i3 x
  · rw [if_pos q]
  · rw [if_neg q, if_pos (i3_yle (by omega) (Nat.le_refl _))]
section MGG
variable {f : (Int32 × St) → Option ((Int32 × St) ⊕ St)} {s s1 s2 send : Nat} {g g1 g2 r : St}
theorem MG.rf : MG f s g s g := ⟨0, by omega, fun _ => rfl⟩
theorem MG.tr (h : MG f s g s1 g1) (h2 : MG f s1 g1 s2 g2) : MG f s g s2 g2 := by
  obtain ⟨j, hj, e⟩ := h
  obtain ⟨j2, hj2, e2⟩ := h2
  exact ⟨j + j2, by omega, fun m => by rw [show m + (j + j2) = (m + j2) + j by omega, e, e2]⟩
theorem MG.one (h : f (i3 s, g) = some (.inl (i3 s1, g1))) (hs : s < s1) : MG f s g s1 g1 := ⟨1, by omega, fun _ => lp_inl h⟩
theorem MG.e (h : MG f s g s1 g1) (h2 : ME f s1 g1 send r) : ME f s g send r := by
  obtain ⟨j, hj, e⟩ := h
  obtain ⟨j2, hj2, e2⟩ := h2
  exact ⟨j + j2, by omega, fun m => by rw [show m + (j + j2) + 1 = (m + j2 + 1) + j by omega, e, e2]⟩
theorem ME.stop {rec : Int32 → Int32 → St → Option St} (h : g 0 36 = i3 200) (hs : s ≤ send) : ME (fM_goes_L2 rec (i3 send)) s g send g := by
  refine ⟨0, by omega, fun m => lp_inr ?_⟩
  unfold fM_goes_L2
  show (if i3 send ≤ i3 s then some (Sum.inr g) else if i3 200 ≤ g 0 36 then some (Sum.inr g) else _) = _
  by_cases q : i3 send ≤ i3 s
  · rw [if_pos q]
  · rw [if_neg q, h, if_pos (i3_yle (by omega) (Nat.le_refl _))]
end MGG
def WS (W : (Nat → Nat) → Nat) (n N : Nat) (K F : Nat → Nat) (bg dn rf : Nat) (gX gM : St) : Prop := SS W n N K F gX gM ∧ gX 7 7 = i3 dn ∧ gX 7 8 = i3 rf ∧ gM 0 36 = i3 bg ∧ gM 0 37 = i3 dn ∧ gM 0 33 = i3 rf ∧ bg ≤ 200
section RUNS
variable {W : (Nat → Nat) → Nat} {n N : Nat} {K F : Nat → Nat} {gX gM gX' gM' gX0 gM0 : St} {bg dn rf o tn s s1 x x1 len send dep : Nat}
theorem FX2.r {g g' : St} (h : FX2 10 g g') : RFX g g' := fun p i a b c d e f => by rw [h p (by omega) (by omega) (by omega) (by omega) (by omega) (by omega)]
theorem FM2.r {g g' : St} (h : FM2 16 g g') : RFM g g' := fun p i a b c d => by rw [h p (by omega) (by omega) (by omega)]
theorem SR.r {x : Nat} (h : SR n gX0 gM0 s x) (e : RFX gX0 gX) (f : RFM gM0 gM) : SR n gX gM s x := h.fr (fun q hq => e q x (by omega) (by omega) (by omega) (by omega) (by omega) (by omega)) (fun i => f _ i (by omega) (by omega) (by omega) (by omega))
theorem AG.r {N0 : Nat} (h : AG gX0 gM0 s x s1 x1 N0) (e : RFX gX0 gX) (f : RFM gM0 gM) : AG gX gM s x s1 x1 N0 := h.fr (fun q hq => ⟨e q x (by omega) (by omega) (by omega) (by omega) (by omega) (by omega), e q x1 (by omega) (by omega) (by omega) (by omega) (by omega) (by omega)⟩) (fun i => f _ i (by omega) (by omega) (by omega) (by omega))
theorem one_simple (h : WS W n N K F bg dn rf gX gM) (hs : SR n gX gM s x) (hb : bg < 200) (ht : tn < 1000000) (hl : gX 7 5 = i3 len) (hxl : x < len) (hlen : len ≤ 150) (hss : s < send) (hse : send ≤ 80) (rec : Int32 → Int32 → St → Option St) : ∃ gX' gM' dn' rf', fX_Steps_run_L22 10 (i3 bg, i3 x, i3 tn, gX) = some (.inl (i3 (bg + 1), i3 (x + 1), i3 (tn + 1), gX')) ∧ fM_goes_L2 rec (i3 send) (i3 s, gM) = some (.inl (i3 (s + 1), gM')) ∧ WS W n N K F (bg + 1) dn' rf' gX' gM' ∧ RFX gX gX' ∧ RFM gM gM' ∧ gX' 7 6 = gX 7 6 ∧ ∀ j, gX' 34 j = gX 34 j := by
  obtain ⟨hS, h1, h2, h3, h4, h5, h6⟩ := h
  obtain ⟨gM1, hM1⟩ : ∃ z, z = st gM 0 36 (i3 (bg + 1)) := ⟨_, rfl⟩
  have f1 : ∀ p i, ¬ (p = 0 ∧ i = 36) → gM1 p i = gM p i := fun p i z => by rw [hM1, st_at, if_neg z]
  have hS1 : SS W n N K F gX gM1 := hS.fr (fun _ _ _ => rfl) (fun p i a => f1 p i (by omega))
  have hs1 : SR n gX gM1 s x := hs.fr (fun _ _ => rfl) (fun i => f1 _ i (by omega))
  obtain ⟨k, hk0⟩ : ∃ k, gX 30 x = i3 k ∧ k < 2147483648 := by
    obtain ⟨_, k, a, c, e1, e2, e3, e4, hc⟩ := hs1
    exact ⟨k, e1, by omega⟩
  obtain ⟨hk4, m0, r, gX2, gM2, hr, a1, a2, a3, a4, a5⟩ := does_both hS1 hs1 (by omega) hk0.1 hk0.2
  have c3 : gM2 (378 + s) 3 = i3 (s + 1) := by
    rw [a5 (378 + s) (by omega) (by omega) (by omega)]
    exact hs1.1
  have d37 : gM2 0 37 = i3 dn := by rw [a5 0 (by omega) (by omega) (by omega), f1 0 37 (by omega)]; exact h4
  have d33 : gM2 0 33 = i3 rf := by rw [a5 0 (by omega) (by omega) (by omega), f1 0 33 (by omega)]; exact h5
  have d36 : gM2 0 36 = i3 (bg + 1) := by rw [a5 0 (by omega) (by omega) (by omega), hM1, st_eq]
  have x77 : gX2 7 7 = i3 dn := by rw [a4 7 (by omega) (by omega) (by omega) (by omega) (by omega) (by omega)]; exact h1
  have x78 : gX2 7 8 = i3 rf := by rw [a4 7 (by omega) (by omega) (by omega) (by omega) (by omega) (by omega)]; exact h2
  have hXs : fX_Steps_run_L22 10 (i3 bg, i3 x, i3 tn, gX) = if i3 r = i3 0 then some (.inl (i3 (bg + 1), i3 (x + 1), i3 (tn + 1), st gX2 7 8 (i3 (rf + 1)))) else some (.inl (i3 (bg + 1), i3 (x + 1), i3 (tn + 1), st gX2 7 7 (i3 (dn + 1)))) := by
    unfold fX_Steps_run_L22
    show (if i3 1000000 ≤ i3 tn then _ else if gX 7 5 ≤ i3 x then _ else if i3 200 ≤ i3 bg then _ else (fX_Rows_at 30 (i3 x) gX).bind _) = _
    rw [if_neg (i3_nle (by omega) ht), hl, if_neg (i3_nle (by omega) hxl), if_neg (i3_nle (by omega) hb), at150 (by omega) (by omega), ob_s, hk0.1]
    show (if i3 k = i3 6 then _ else if i3 k = i3 5 then _ else (fX_Rows_at 31 (i3 x) gX).bind _) = _
    rw [if_neg (by rw [i3_eq (by omega) (by omega)]; omega), if_neg (by rw [i3_eq (by omega) (by omega)]; omega), at150 (by omega) (by omega), ob_s, at150 (by omega) (by omega), ob_s, a1, ob_s]
    show (if i3 r = i3 0 then some (Sum.inl (i3 bg + i3 1, i3 x + i3 1, i3 tn + i3 1, st gX2 7 8 (gX2 7 8 + i3 1))) else some (Sum.inl (i3 bg + i3 1, i3 x + i3 1, i3 tn + i3 1, st gX2 7 7 (gX2 7 7 + i3 1)))) = _
    rw [x77, x78, i3_add, i3_add, i3_add, i3_add, i3_add]
  have hMs : fM_goes_L2 rec (i3 send) (i3 s, gM) = if i3 r = i3 0 then some (.inl (i3 (s + 1), st (st gM2 0 37 (i3 dn)) 0 33 (i3 (rf + 1)))) else some (.inl (i3 (s + 1), st (st gM2 0 37 (i3 (dn + 1))) 0 33 (i3 rf))) := by
    have b143 : ∀ g : St, g (378 + s) 3 = i3 (s + 1) → fM_goes_b143 rec (i3 send) (i3 s) g = some (.inl (i3 (s + 1), g)) := fun g hg => by
      unfold fM_goes_b143
      rw [if_pos (i3_in (by omega) (by omega)), i3_nat (by omega), hg]
    unfold fM_goes_L2
    show (if i3 send ≤ i3 s then _ else if i3 200 ≤ gM 0 36 then _ else if ¬ (i3 s < 0 ∨ 80 ≤ (i3 s).toNatClampNeg) then (if (st gM 0 36 (gM 0 36 + i3 1)) (378 + (i3 s).toNatClampNeg) 0 = i3 5 then _ else (fM_does 16 (378 + (i3 s).toNatClampNeg) (st gM 0 36 (gM 0 36 + i3 1))).bind _) else none) = _
    rw [if_neg (i3_nle (by omega) hss), h3, if_neg (i3_nle (by omega) hb), if_pos (i3_in (by omega) (by omega)), i3_nat (by omega), i3_add, ← hM1, m0, if_neg (by rw [i3_eq (by omega) (by omega)]; omega), a2, ob_s]
    by_cases q : i3 r = i3 0
    · rw [if_pos q]
      show (if i3 r = i3 0 then fM_goes_b120 rec (i3 send) (i3 s) (i3 r) (gM2 0 37) (i3 0) gM2 else _) = _
      rw [if_pos q]
      unfold fM_goes_b120
      show (if i3 r = i3 0 then fM_goes_b139 rec (i3 send) (i3 s) (gM2 0 33) (i3 1) (st gM2 0 37 (gM2 0 37 + i3 0)) else _) = _
      rw [if_pos q, d37, d33, i3_add, Nat.add_zero]
      unfold fM_goes_b139
      rw [i3_add]
      exact b143 _ (by rw [st_ne (by omega), st_ne (by omega)]; exact c3)
    · rw [if_neg q]
      show (if i3 r = i3 0 then _ else fM_goes_b120 rec (i3 send) (i3 s) (i3 r) (gM2 0 37) (i3 1) gM2) = _
      rw [if_neg q]
      unfold fM_goes_b120
      show (if i3 r = i3 0 then _ else fM_goes_b139 rec (i3 send) (i3 s) (gM2 0 33) (i3 0) (st gM2 0 37 (gM2 0 37 + i3 1))) = _
      rw [if_neg q, d37, d33, i3_add]
      unfold fM_goes_b139
      rw [i3_add, Nat.add_zero]
      exact b143 _ (by rw [st_ne (by omega), st_ne (by omega)]; exact c3)
  by_cases q : i3 r = i3 0
  · rw [if_pos q] at hXs hMs
    refine ⟨_, _, dn, rf + 1, hXs, hMs, ⟨a3.fr (fun p i a => by rw [st_at, if_neg (by omega)]) (fun p i a => by rw [st_at, if_neg (by omega), st_at, if_neg (by omega)]), by rw [st_at, if_neg (by omega)]; exact x77, st_eq _ _ _ _, by rw [st_at, if_neg (by omega), st_at, if_neg (by omega)]; exact d36, by rw [st_at, if_neg (by omega), st_eq], st_eq _ _ _ _, by omega⟩, fun p i z1 z2 z3 z4 z5 z6 => ?_, fun p i z1 z2 z3 z4 => ?_, ?_, fun j => ?_⟩
    · rw [st_at, if_neg (by omega)]; exact a4.r p i z1 z2 z3 z4 z5 z6
    · rw [st_at, if_neg (by omega), st_at, if_neg (by omega), a5 p z1 z2 z3]; exact f1 p i (by omega)
    · rw [st_at, if_neg (by omega), a4 7 (by omega) (by omega) (by omega) (by omega) (by omega) (by omega)]
    · rw [st_at, if_neg (by omega), a4 34 (by omega) (by omega) (by omega) (by omega) (by omega) (by omega)]
  · rw [if_neg q] at hXs hMs
    refine ⟨_, _, dn + 1, rf, hXs, hMs, ⟨a3.fr (fun p i a => by rw [st_at, if_neg (by omega)]) (fun p i a => by rw [st_at, if_neg (by omega), st_at, if_neg (by omega)]), st_eq _ _ _ _, by rw [st_at, if_neg (by omega)]; exact x78, by rw [st_at, if_neg (by omega), st_at, if_neg (by omega)]; exact d36, by rw [st_at, if_neg (by omega), st_eq], st_eq _ _ _ _, by omega⟩, fun p i z1 z2 z3 z4 z5 z6 => ?_, fun p i z1 z2 z3 z4 => ?_, ?_, fun j => ?_⟩
    · rw [st_at, if_neg (by omega)]; exact a4.r p i z1 z2 z3 z4 z5 z6
    · rw [st_at, if_neg (by omega), st_at, if_neg (by omega), a5 p z1 z2 z3]; exact f1 p i (by omega)
    · rw [st_at, if_neg (by omega), a4 7 (by omega) (by omega) (by omega) (by omega) (by omega) (by omega)]
    · rw [st_at, if_neg (by omega), a4 34 (by omega) (by omega) (by omega) (by omega) (by omega) (by omega)]
end RUNS
