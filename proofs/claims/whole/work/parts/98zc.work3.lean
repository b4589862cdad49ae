/-! PURE: work: agains; all steps are done -/
section AGN
variable {W : (Nat → Nat) → Nat} {n N : Nat} {K F : Nat → Nat} {gX gM gX' gM' gX0 gM0 : St} {len : Nat}
def OutA (W : (Nat → Nat) → Nat) (n N : Nat) (K F : Nat → Nat) (gX0 gM0 : St) (f : (Int32 × St) → Option ((Int32 × St) ⊕ St)) (bg x tn s o x' s' : Nat) (gX gM : St) : Prop := ∃ bg' dn' rf' tn' gX' gM', XG bg x tn gX bg' x' tn' gX' ∧ MG f s gM s' gM' ∧ RFX gX0 gX' ∧ RFM gM0 gM' ∧ WS W n N K F bg' dn' rf' gX' gM' ∧ gX' 7 6 = i3 o ∧ (∀ j, j < o → gX' 34 j = gX 34 j) ∧ bg ≤ bg' ∧ tn' + 61 * (200 - bg') ≤ tn + 61 * (200 - bg)
def OutB (W : (Nat → Nat) → Nat) (n N : Nat) (K F : Nat → Nat) (gX0 gM0 : St) (f : (Int32 × St) → Option ((Int32 × St) ⊕ St)) (bg x tn s send : Nat) (gX gM : St) : Prop := ∃ dn' rf' gX' gM', XE bg x tn gX gX' ∧ ME f s gM send gM' ∧ RFX gX0 gX' ∧ RFM gM0 gM' ∧ WS W n N K F 200 dn' rf' gX' gM'
/-- what the inner loop of the reference gives -/
theorem goes_of {dep s s1 : Nat} {g r : St} (h : MG (fM_goes_L2 (fM_goes dep) (i3 s1)) s g s1 r) (hs : s1 ≤ 80) : fM_goes (dep + 1) (i3 s) (i3 s1) g = some r := by
  obtain ⟨j, hj, e⟩ := h
  show fM_goes_b2 (fM_goes dep) (i3 s1) (i3 s) g = _
  unfold fM_goes_b2
  have e1 : lp (fM_goes_L2 (fM_goes dep) (i3 s1)) fuel (i3 s, g) = some r := by
    rw [show fuel = (999999 - j + 1) + j by rw [fuel_eq]; omega, e]
    refine lp_inr ?_
    unfold fM_goes_L2
    show (if i3 s1 ≤ i3 s1 then _ else _) = _
    rw [if_pos (i3_yle (by omega) (Nat.le_refl _))]
  rw [e1, ob_s]
theorem goes_oe {dep s s1 : Nat} {g r : St} (h : ME (fM_goes_L2 (fM_goes dep) (i3 s1)) s g s1 r) (hs : s1 ≤ 80) : fM_goes (dep + 1) (i3 s) (i3 s1) g = some r := by
  obtain ⟨j, hj, e⟩ := h
  show fM_goes_b2 (fM_goes dep) (i3 s1) (i3 s) g = _
  unfold fM_goes_b2
  rw [show fuel = (999999 - j) + j + 1 by rw [fuel_eq]; omega, e, ob_s]
theorem rounds {dep s s1 x x1 N0 o send : Nat} (hA : AG gX0 gM0 s x s1 x1 N0) (hlen : len ≤ 150) (hl : gX0 7 5 = i3 len) (hx1 : x1 < len) (hs1 : s1 ≤ 80) (hs : s < 80) (ho : o < 6) (body : ∀ (bg dn rf tn : Nat) (gX gM : St), RFX gX0 gX → RFM gM0 gM → WS W n N K F bg dn rf gX gM → gX 7 6 = i3 (o + 1) → tn + 61 * (200 - bg) ≤ 900000 → OutA W n N K F gX0 gM0 (fM_goes_L2 (fM_goes dep) (i3 s1)) bg (x + 1) tn (s + 1) (o + 1) x1 s1 gX gM ∨ OutB W n N K F gX0 gM0 (fM_goes_L2 (fM_goes dep) (i3 s1)) bg (x + 1) tn (s + 1) s1 gX gM) : ∀ (r bg dn rf tn : Nat) (gX gM : St), 1 ≤ r → r ≤ N0 → RFX gX0 gX → RFM gM0 gM → WS W n N K F bg dn rf gX gM → gX 7 6 = i3 (o + 1) → gX 34 o = i3 r → tn + 61 * (200 - bg) + r ≤ 900000 → (∃ bg' dn' rf' tn' gX' gM', XG bg (x + 1) tn gX bg' (x1 + 1) tn' gX' ∧ (∃ j, j ≤ r ∧ ∀ m, lp (fM_goes_L42 (fM_goes (dep + 1)) (i3 send) (i3 s)) (m + j + 1) (i3 (N0 - r), gM) = some gM') ∧ RFX gX0 gX' ∧ RFM gM0 gM' ∧ WS W n N K F bg' dn' rf' gX' gM' ∧ gX' 7 6 = i3 o ∧ (∀ j, j < o → gX' 34 j = gX 34 j) ∧ bg ≤ bg' ∧ tn' + 61 * (200 - bg') ≤ tn + 61 * (200 - bg) + r) ∨ ∃ dn' rf' gX' gM', XE bg (x + 1) tn gX gX' ∧ (∃ j, j ≤ r ∧ ∀ m, lp (fM_goes_L42 (fM_goes (dep + 1)) (i3 send) (i3 s)) (m + j + 1) (i3 (N0 - r), gM) = some gM') ∧ RFX gX0 gX' ∧ RFM gM0 gM' ∧ WS W n N K F 200 dn' rf' gX' gM'
  | 0, bg, dn, rf, tn, gX, gM, h1, _, _, _, _, _, _, _ => by omega
  | r_ + 1, bg, dn, rf, tn, gX, gM, h1, hrN, hX, hM, hW, h76, h34, hp => by
    have hN60 := hA.1
    have mN : ∀ g : St, RFM gM0 g → g (378 + s) 1 = i3 N0 ∧ g (378 + s) 3 = i3 s1 := fun g hg => by
      rw [hg (378 + s) 1 (by omega) (by omega) (by omega) (by omega), hg (378 + s) 3 (by omega) (by omega) (by omega) (by omega)]
      exact ⟨hA.2.2.2.2.2.2.2.1, hA.2.2.2.2.2.2.2.2⟩
    -- the reference's loop: ends at 200, or at the last
    have m42 : ∀ (k : Nat) (g : St), RFM gM0 g → k ≤ 60 → fM_goes_L42 (fM_goes (dep + 1)) (i3 send) (i3 s) (i3 k, g) = if N0 ≤ k then some (.inr g) else if i3 200 ≤ g 0 36 then some (.inr g) else ((fM_goes (dep + 1) (i3 (s + 1)) (i3 s1) g).bind fun g77 => some (.inl (i3 (k + 1), g77))) := fun k g hg hk => by
      obtain ⟨n1, n3⟩ := mN g hg
      unfold fM_goes_L42
      show (if ¬ (i3 s < 0 ∨ 80 ≤ (i3 s).toNatClampNeg) then (if g (378 + (i3 s).toNatClampNeg) 1 ≤ i3 k then _ else if i3 200 ≤ g 0 36 then _ else (fM_goes (dep + 1) (i3 s + i3 1) (g (378 + (i3 s).toNatClampNeg) 3) g).bind fun g77 => some (Sum.inl (i3 k + i3 1, g77))) else none) = _
      rw [if_pos (i3_in (by omega) hs), i3_nat (by omega), n1, n3, i3_add, i3_add]
      by_cases q : N0 ≤ k
      · rw [if_pos q, if_pos (i3_yle (by omega) q)]
      · rw [if_neg q, if_neg (i3_nle (by omega) (by omega))]
    have mstop : ∀ (k : Nat) (g : St), RFM gM0 g → k ≤ 60 → g 0 36 = i3 200 → ∀ m, lp (fM_goes_L42 (fM_goes (dep + 1)) (i3 send) (i3 s)) (m + 1) (i3 k, g) = some g := fun k g hg hk h200 m => by
      refine lp_inr ?_
      rw [m42 k g hg hk, h200]
      by_cases q : N0 ≤ k
      · rw [if_pos q]
      · rw [if_neg q, if_pos (i3_yle (by omega) (Nat.le_refl _))]
    by_cases q200 : bg = 200
    · subst q200
      right
      exact ⟨dn, rf, gX, gM, XE.stop (by omega), ⟨0, by omega, mstop _ gM hM (by omega) hW.2.2.2.1⟩, hX, hM, hW⟩
    · have hbg := hW.2.2.2.2.2.2
      have step : ∀ (r : St), fM_goes (dep + 1) (i3 (s + 1)) (i3 s1) gM = some r → ∀ m, lp (fM_goes_L42 (fM_goes (dep + 1)) (i3 send) (i3 s)) (m + 1) (i3 (N0 - (r_ + 1)), gM) = lp (fM_goes_L42 (fM_goes (dep + 1)) (i3 send) (i3 s)) m (i3 (N0 - (r_ + 1) + 1), r) := fun z hz m => by
        refine lp_inl ?_
        rw [m42 _ gM hM (by omega), if_neg (by omega), hW.2.2.2.1, if_neg (i3_nle (by omega) (by omega)), hz, ob_s]
      rcases body bg dn rf tn gX gM hX hM hW h76 (by omega) with ⟨bg', dn', rf', tn', gX', gM', a1, a2, a3, a4, a5, a6, a7, a8, a9⟩ | ⟨dn', rf', gX', gM', a1, a2, a3, a4, a5⟩
      · have hz := step gM' (goes_of a2 hs1)
        have hbg' := a5.2.2.2.2.2.2
        by_cases q2 : bg' = 200
        · subst q2
          right
          refine ⟨dn', rf', gX', gM', a1.e (XE.stop (by omega)), ⟨1, by omega, fun m => ?_⟩, a3, a4, a5⟩
          rw [show m + 1 + 1 = (m + 1) + 1 from rfl, hz, mstop _ gM' a4 (by omega) a5.2.2.2.1]
        · have h34' : gX' 34 o = i3 (r_ + 1) := (a7 o (by omega)).trans h34
          have x30 : gX' 30 x1 = i3 6 := (a3 30 x1 (by omega) (by omega) (by omega) (by omega) (by omega) (by omega)).trans hA.2.2.2.2.1
          have x31 : gX' 31 x1 = i3 x := (a3 31 x1 (by omega) (by omega) (by omega) (by omega) (by omega) (by omega)).trans hA.2.2.2.2.2.1
          have x75 : gX' 7 5 = i3 len := (a3 7 5 (by omega) (by omega) (by omega) (by omega) (by omega) (by omega)).trans hl
          have hE : fX_Steps_run_L22 10 (i3 bg', i3 x1, i3 tn', gX') = ((fX_Steps_behindEnd (i3 x1) gX').bind fun z => some (.inl (i3 bg', z.1, i3 (tn' + 1), z.2))) := by
            unfold fX_Steps_run_L22
            show (if i3 1000000 ≤ i3 tn' then _ else if gX' 7 5 ≤ i3 x1 then _ else if i3 200 ≤ i3 bg' then _ else (fX_Rows_at 30 (i3 x1) gX').bind _) = _
            rw [if_neg (i3_nle (by omega) (by omega)), x75, if_neg (i3_nle (by omega) hx1), if_neg (i3_nle (by omega) (by omega)), at150 (by omega) (by omega), ob_s, x30]
            show (if i3 6 = i3 6 then (fX_Steps_behindEnd (i3 x1) gX').bind (fun z => some (Sum.inl (i3 bg', z.1, i3 tn' + i3 1, z.2))) else _) = _
            rw [if_pos rfl, i3_add]
          have hE2 : fX_Steps_behindEnd (i3 x1) gX' = if i3 r_ ≤ i3 0 then some (i3 (x1 + 1), st gX' 7 6 (i3 o)) else ((fX_Rows_put 34 (i3 o) (i3 r_) gX').bind fun g31 => (fX_Rows_at 31 (i3 x1) g31).bind fun r39 => some (r39 + i3 1, g31)) := by
            unfold fX_Steps_behindEnd
            show (fX_Rows_at 34 (gX' 7 6 - i3 1) gX').bind (fun r10 => if r10 - i3 1 ≤ i3 0 then some (i3 x1 + i3 1, st gX' 7 6 (gX' 7 6 - i3 1)) else (fX_Rows_put 34 (gX' 7 6 - i3 1) (r10 - i3 1) gX').bind fun g31 => (fX_Rows_at 31 (i3 x1) g31).bind fun r39 => some (r39 + i3 1, g31)) = _
            rw [a6, i3_sub (by omega), show o + 1 - 1 = o by omega, at34 ho, ob_s, h34', i3_sub (by omega), show r_ + 1 - 1 = r_ by omega, i3_add]
          rw [hE2] at hE
          by_cases q3 : r_ = 0
          · subst q3
            rw [if_pos (i3_yle (by omega) (Nat.le_refl _)), ob_s] at hE
            left
            have f6 : ∀ p i, ¬ (p = 7 ∧ i = 6) → (st gX' 7 6 (i3 o)) p i = gX' p i := fun p i z => by rw [st_at, if_neg z]
            refine ⟨bg', dn', rf', tn' + 1, st gX' 7 6 (i3 o), gM', a1.tr (XG.one hE), ⟨1, by omega, fun m => ?_⟩, a3.tr (fun p i z1 z2 z3 z4 z5 z6 => f6 p i (by omega)), a4, ⟨a5.1.fr (fun p i z => f6 p i (by omega)) (fun _ _ _ => rfl), (f6 7 7 (by omega)).trans a5.2.1, (f6 7 8 (by omega)).trans a5.2.2.1, a5.2.2.2⟩, st_eq _ _ _ _, fun j hj => (f6 34 j (by omega)).trans (a7 j (by omega)), a8, by omega⟩
            rw [show m + 1 + 1 = (m + 1) + 1 from rfl, hz]
            refine lp_inr ?_
            rw [m42 _ gM' a4 (by omega), if_pos (by omega)]
          · rw [if_neg (i3_nle (by omega) (by omega)), pu34 ho, ob_s, at150 (by omega) (by omega), ob_s, st_at, if_neg (by omega), x31, i3_add, ob_s] at hE
            obtain ⟨gX2, hX2⟩ : ∃ z, z = st gX' 34 o (i3 r_) := ⟨_, rfl⟩
            rw [← hX2] at hE
            have f6 : ∀ p i, ¬ (p = 34 ∧ i = o) → gX2 p i = gX' p i := fun p i z => by rw [hX2, st_at, if_neg z]
            have hmm : ∀ (gM2 : St) (j : Nat), (∀ m, lp (fM_goes_L42 (fM_goes (dep + 1)) (i3 send) (i3 s)) (m + j + 1) (i3 (N0 - r_), gM') = some gM2) → ∀ m, lp (fM_goes_L42 (fM_goes (dep + 1)) (i3 send) (i3 s)) (m + (j + 1) + 1) (i3 (N0 - (r_ + 1)), gM) = some gM2 := fun gM2 j hj m => by
              rw [show m + (j + 1) + 1 = (m + j + 1) + 1 by omega, hz, show N0 - (r_ + 1) + 1 = N0 - r_ by omega]
              exact hj m
            rcases rounds hA hlen hl hx1 hs1 hs ho body r_ bg' dn' rf' (tn' + 1) gX2 gM' (by omega) (by omega) (a3.tr (fun p i z1 z2 z3 z4 z5 z6 => f6 p i (by omega))) a4 ⟨a5.1.fr (fun p i z => f6 p i (by omega)) (fun _ _ _ => rfl), (f6 7 7 (by omega)).trans a5.2.1, (f6 7 8 (by omega)).trans a5.2.2.1, a5.2.2.2⟩ ((f6 7 6 (by omega)).trans a6) (by rw [hX2, st_eq]) (by omega) with ⟨bg2, dn2, rf2, tn2, gX3, gM3, c1, ⟨j, hj, c2⟩, c3, c4, c5, c6, c7, c8, c9⟩ | ⟨dn2, rf2, gX3, gM3, c1, ⟨j, hj, c2⟩, c3, c4, c5⟩
            · left
              exact ⟨bg2, dn2, rf2, tn2, gX3, gM3, (a1.tr (XG.one hE)).tr c1, ⟨j + 1, by omega, hmm gM3 j c2⟩, c3, c4, c5, c6, fun i hi => (c7 i hi).trans ((f6 34 i (by omega)).trans (a7 i (by omega))), by omega, by omega⟩
            · right
              exact ⟨dn2, rf2, gX3, gM3, (a1.tr (XG.one hE)).e c1, ⟨j + 1, by omega, hmm gM3 j c2⟩, c3, c4, c5⟩
      · right
        have hz := step gM' (goes_oe a2 hs1)
        refine ⟨dn', rf', gX', gM', a1, ⟨1, by omega, fun m => ?_⟩, a3, a4, a5⟩
        rw [show m + 1 + 1 = (m + 1) + 1 from rfl, hz, mstop _ gM' a4 (by omega) a5.2.2.2.1]
theorem run_blk (hlen : len ≤ 150) (hl : gX0 7 5 = i3 len) : ∀ (d h s s' x x' : Nat), Bk n gX0 gM0 d h s s' x x' → ∀ (send dep bg dn rf o tn : Nat) (gX gM : St), s' ≤ send → send ≤ 80 → x' ≤ len → RFX gX0 gX → RFM gM0 gM → WS W n N K F bg dn rf gX gM → gX 7 6 = i3 o → o + h ≤ 6 → h ≤ dep → tn + 61 * (200 - bg) ≤ 900000 → OutA W n N K F gX0 gM0 (fM_goes_L2 (fM_goes dep) (i3 send)) bg x tn s o x' s' gX gM ∨ OutB W n N K F gX0 gM0 (fM_goes_L2 (fM_goes dep) (i3 send)) bg x tn s send gX gM
  | 0, h, s, s', x, x', hb, send, dep, bg, dn, rf, o, tn, gX, gM, h1, h2, h3, hX, hM, hW, h76, ho, hd, hp => by
    obtain ⟨rfl, rfl⟩ := hb
    exact Or.inl ⟨bg, dn, rf, tn, gX, gM, XG.rf, MG.rf, hX, hM, hW, h76, fun _ _ => rfl, Nat.le_refl _, Nat.le_refl _⟩
  | d + 1, h, s, s', x, x', hb, send, dep, bg, dn, rf, o, tn, gX, gM, h1, h2, h3, hX, hM, hW, h76, ho, hd, hp => by
    have hbg := hW.2.2.2.2.2.2
    have h75 : gX 7 5 = i3 len := (hX 7 5 (by omega) (by omega) (by omega) (by omega) (by omega) (by omega)).trans hl
    by_cases q200 : bg = 200
    · subst q200
      have hle := Bk.le _ _ _ _ _ _ hb
      exact Or.inr ⟨dn, rf, gX, gM, XE.stop (by omega), ME.stop hW.2.2.2.1 (by omega), hX, hM, hW⟩
    · rcases hb with ⟨rfl, rfl⟩ | ⟨hs, hr⟩ | ⟨h', s1, x1, N0, hh, hA, hb1, hb2⟩
      · exact Or.inl ⟨bg, dn, rf, tn, gX, gM, XG.rf, MG.rf, hX, hM, hW, h76, fun _ _ => rfl, Nat.le_refl _, Nat.le_refl _⟩
      · have hle := Bk.le _ _ _ _ _ _ hr
        obtain ⟨gX1, gM1, dn1, rf1, a1, a2, a3, a4, a5, a6, a7⟩ := one_simple hW (hs.r hX hM) (by omega) (by omega) h75 (by omega) hlen (by omega) h2 (fM_goes dep) (x := x) (s := s) (tn := tn) (send := send)
        rcases run_blk hlen hl d h (s + 1) s' (x + 1) x' hr send dep (bg + 1) dn1 rf1 o (tn + 1) gX1 gM1 h1 h2 h3 (hX.tr a4) (hM.tr a5) a3 (a6.trans h76) ho hd (by omega) with ⟨bg', dn', rf', tn', gX', gM', b1, b2, b3, b4, b5, b6, b7, b8, b9⟩ | ⟨dn', rf', gX', gM', b1, b2, b3, b4, b5⟩
        · exact Or.inl ⟨bg', dn', rf', tn', gX', gM', (XG.one a1).tr b1, (MG.one a2 (by omega)).tr b2, b3, b4, b5, b6, fun j hj => (b7 j hj).trans (a7 j), by omega, by omega⟩
        · exact Or.inr ⟨dn', rf', gX', gM', (XG.one a1).e b1, (MG.one a2 (by omega)).e b2, b3, b4, b5⟩
      · subst hh
        have hle1 := Bk.le _ _ _ _ _ _ hb1
        have hle2 := Bk.le _ _ _ _ _ _ hb2
        have hN60 := hA.1
        have hAr := hA.r hX hM
        obtain ⟨_, c30, c31, c32, _, _, d0, d1, d3⟩ := hAr
        obtain ⟨dep, rfl⟩ : ∃ z, dep = z + 1 := ⟨dep - 1, by omega⟩
        obtain ⟨gM1, hM1⟩ : ∃ z, z = st gM 0 36 (i3 (bg + 1)) := ⟨_, rfl⟩
        have f1 : ∀ p i, ¬ (p = 0 ∧ i = 36) → gM1 p i = gM p i := fun p i z => by rw [hM1, st_at, if_neg z]
        have hMr : RFM gM0 gM1 := hM.tr (fun p i z1 z2 z3 z4 => f1 p i (by omega))
        have hXs : fX_Steps_run_L22 10 (i3 bg, i3 x, i3 tn, gX) = ((fX_Steps_behindAgain (i3 x) gX).bind fun z => some (.inl (i3 (bg + 1), z.1, i3 (tn + 1), z.2))) := by
          unfold fX_Steps_run_L22
          show (if i3 1000000 ≤ i3 tn then _ else if gX 7 5 ≤ i3 x then _ else if i3 200 ≤ i3 bg then _ else (fX_Rows_at 30 (i3 x) gX).bind _) = _
          rw [if_neg (i3_nle (by omega) (by omega)), h75, if_neg (i3_nle (by omega) (by omega)), if_neg (i3_nle (by omega) (by omega)), at150 (by omega) (by omega), ob_s, c30]
          show (if i3 5 = i3 6 then _ else if i3 5 = i3 5 then (fX_Steps_behindAgain (i3 x) gX).bind (fun z => some (Sum.inl (i3 bg + i3 1, z.1, i3 tn + i3 1, z.2))) else _) = _
          rw [if_neg (by decide), if_pos rfl, i3_add, i3_add]
        have hXa : fX_Steps_behindAgain (i3 x) gX = if i3 0 < i3 N0 then ((fX_Rows_put 34 (i3 o) (i3 N0) gX).bind fun g33 => some (i3 (x + 1), st g33 7 6 (g33 7 6 + i3 1))) else some (i3 (x1 + 1), gX) := by
          unfold fX_Steps_behindAgain
          show (fX_Rows_at 31 (i3 x) gX).bind (fun r5 => if i3 0 < r5 then (fX_Rows_put 34 (gX 7 6) r5 gX).bind (fun g33 => some (i3 x + i3 1, st g33 7 6 (g33 7 6 + i3 1))) else (fX_Rows_at 32 (i3 x) gX).bind fun r18 => some (r18 + i3 1, gX)) = _
          rw [at150 (by omega) (by omega), ob_s, c31, h76, at150 (by omega) (by omega), ob_s, c32, i3_add, i3_add]
        have hMs : ∀ (r : St) (j : Nat), j ≤ 60 → RFM gM0 r → (∀ m, lp (fM_goes_L42 (fM_goes (dep + 1)) (i3 send) (i3 s)) (m + j + 1) (i3 0, gM1) = some r) → fM_goes_L2 (fM_goes (dep + 1)) (i3 send) (i3 s, gM) = some (.inl (i3 s1, r)) := fun r j hj hr hm => by
          unfold fM_goes_L2
          show (if i3 send ≤ i3 s then _ else if i3 200 ≤ gM 0 36 then _ else if ¬ (i3 s < 0 ∨ 80 ≤ (i3 s).toNatClampNeg) then (if (st gM 0 36 (gM 0 36 + i3 1)) (378 + (i3 s).toNatClampNeg) 0 = i3 5 then fM_goes_b42 (fM_goes (dep + 1)) (i3 send) (i3 s) (i3 0) (st gM 0 36 (gM 0 36 + i3 1)) else _) else none) = _
          rw [if_neg (i3_nle (by omega) (by omega)), hW.2.2.2.1, if_neg (i3_nle (by omega) (by omega)), if_pos (i3_in (by omega) (by omega)), i3_nat (by omega), i3_add, ← hM1, f1 (378 + s) 0 (by omega), d0, if_pos rfl]
          unfold fM_goes_b42
          rw [show fuel = (999999 - j) + j + 1 by rw [fuel_eq]; omega, hm, ob_s]
          unfold fM_goes_b143
          rw [if_pos (i3_in (by omega) (by omega)), i3_nat (by omega), hr (378 + s) 3 (by omega) (by omega) (by omega) (by omega), hA.2.2.2.2.2.2.2.2]
        by_cases q0 : N0 = 0
        · subst q0
          rw [hXa, if_neg (i3_nlt (by omega) (Nat.le_refl 0)), ob_s] at hXs
          have hW1 : WS W n N K F (bg + 1) dn rf gX gM1 := ⟨hW.1.fr (fun _ _ _ => rfl) (fun p i a => f1 p i (by omega)), hW.2.1, hW.2.2.1, by rw [hM1, st_eq], (f1 0 37 (by omega)).trans hW.2.2.2.2.1, (f1 0 33 (by omega)).trans hW.2.2.2.2.2.1, by omega⟩
          have hMM := hMs gM1 0 (by omega) hMr (fun m => by
            refine lp_inr ?_
            unfold fM_goes_L42
            show (if ¬ (i3 s < 0 ∨ 80 ≤ (i3 s).toNatClampNeg) then (if gM1 (378 + (i3 s).toNatClampNeg) 1 ≤ i3 0 then some (Sum.inr gM1) else _) else none) = _
            rw [if_pos (i3_in (by omega) (by omega)), i3_nat (by omega), f1 (378 + s) 1 (by omega), d1, if_pos (i3_yle (by omega) (Nat.le_refl _))])
          rcases run_blk hlen hl d (h' + 1) s1 s' (x1 + 1) x' hb2 send (dep + 1) (bg + 1) dn rf o (tn + 1) gX gM1 h1 h2 h3 hX hMr hW1 h76 ho hd (by omega) with ⟨bg', dn', rf', tn', gX', gM', b1, b2, b3, b4, b5, b6, b7, b8, b9⟩ | ⟨dn', rf', gX', gM', b1, b2, b3, b4, b5⟩
          · exact Or.inl ⟨bg', dn', rf', tn', gX', gM', (XG.one hXs).tr b1, (MG.one hMM (by omega)).tr b2, b3, b4, b5, b6, b7, by omega, by omega⟩
          · exact Or.inr ⟨dn', rf', gX', gM', (XG.one hXs).e b1, (MG.one hMM (by omega)).e b2, b3, b4, b5⟩
        · rw [hXa, if_pos (i3_ylt (by omega) (by omega)), pu34 (by omega), ob_s, st_at, if_neg (by omega), h76, i3_add, ob_s] at hXs
          obtain ⟨gX1, hX1⟩ : ∃ z, z = st (st gX 34 o (i3 N0)) 7 6 (i3 (o + 1)) := ⟨_, rfl⟩
          rw [← hX1] at hXs
          have f2 : ∀ p i, ¬ (p = 34 ∧ i = o) → ¬ (p = 7 ∧ i = 6) → gX1 p i = gX p i := fun p i z1 z2 => by rw [hX1, st_at, if_neg z2, st_at, if_neg z1]
          have hXr : RFX gX0 gX1 := hX.tr (fun p i z1 z2 z3 z4 z5 z6 => f2 p i (by omega) (by omega))
          have hW1 : WS W n N K F (bg + 1) dn rf gX1 gM1 := ⟨hW.1.fr (fun p i a => f2 p i (by omega) (by omega)) (fun p i a => f1 p i (by omega)), (f2 7 7 (by omega) (by omega)).trans hW.2.1, (f2 7 8 (by omega) (by omega)).trans hW.2.2.1, by rw [hM1, st_eq], (f1 0 37 (by omega)).trans hW.2.2.2.2.1, (f1 0 33 (by omega)).trans hW.2.2.2.2.2.1, by omega⟩
          have body : ∀ (bg dn rf tn : Nat) (gX gM : St), RFX gX0 gX → RFM gM0 gM → WS W n N K F bg dn rf gX gM → gX 7 6 = i3 (o + 1) → tn + 61 * (200 - bg) ≤ 900000 → OutA W n N K F gX0 gM0 (fM_goes_L2 (fM_goes dep) (i3 s1)) bg (x + 1) tn (s + 1) (o + 1) x1 s1 gX gM ∨ OutB W n N K F gX0 gM0 (fM_goes_L2 (fM_goes dep) (i3 s1)) bg (x + 1) tn (s + 1) s1 gX gM := fun bg dn rf tn gX gM y1 y2 y3 y4 y5 => run_blk hlen hl d h' (s + 1) s1 (x + 1) x1 hb1 s1 dep bg dn rf (o + 1) tn gX gM (Nat.le_refl _) (by omega) (by omega) y1 y2 y3 y4 (by omega) (by omega) y5
          rcases rounds (send := send) hA hlen hl (by omega) (by omega) (by omega) (by omega) body N0 (bg + 1) dn rf (tn + 1) gX1 gM1 (by omega) (Nat.le_refl _) hXr hMr hW1 (by rw [hX1, st_eq]) (by rw [hX1, st_at, if_neg (by omega), st_eq]) (by omega) with ⟨bg2, dn2, rf2, tn2, gX2, gM2, c1, ⟨j, hj, c2⟩, c3, c4, c5, c6, c7, c8, c9⟩ | ⟨dn2, rf2, gX2, gM2, c1, ⟨j, hj, c2⟩, c3, c4, c5⟩
          · rw [Nat.sub_self] at c2
            have hMM := hMs gM2 j (by omega) c4 c2
            have c5' := c5.2.2.2.2.2.2
            have h34 : ∀ i, i < o → gX2 34 i = gX 34 i := fun i hi => (c7 i hi).trans (f2 34 i (by omega) (by omega))
            rcases run_blk hlen hl d (h' + 1) s1 s' (x1 + 1) x' hb2 send (dep + 1) bg2 dn2 rf2 o tn2 gX2 gM2 h1 h2 h3 c3 c4 c5 c6 ho hd (by omega) with ⟨bg', dn', rf', tn', gX', gM', b1, b2, b3, b4, b5, b6, b7, b8, b9⟩ | ⟨dn', rf', gX', gM', b1, b2, b3, b4, b5⟩
            · exact Or.inl ⟨bg', dn', rf', tn', gX', gM', ((XG.one hXs).tr c1).tr b1, (MG.one hMM (by omega)).tr b2, b3, b4, b5, b6, fun i hi => (b7 i hi).trans (h34 i hi), by omega, by omega⟩
            · exact Or.inr ⟨dn', rf', gX', gM', ((XG.one hXs).tr c1).e b1, (MG.one hMM (by omega)).e b2, b3, b4, b5⟩
          · rw [Nat.sub_self] at c2
            have hMM := hMs gM2 j (by omega) c4 c2
            exact Or.inr ⟨dn2, rf2, gX2, gM2, (XG.one hXs).e c1, (MG.one hMM (by omega)).e (ME.stop c5.2.2.2.1 (by omega)), c3, c4, c5⟩
end AGN
