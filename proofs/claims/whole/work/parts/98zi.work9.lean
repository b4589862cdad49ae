/-! PURE: work: the call -/
section W9
variable {W : (Nat → Nat) → Nat} {n N : Nat} {K F D U T : Nat → Nat} {Y : Nat} {gX gM gX' gM' : St}
theorem EMd.kp {w : Nat} (h : EMd W n N K F D U T Y 16 gM) : KM8 (458 + w) 0 n (D, U, T, Y) (cpS gM 16 0 (458 + w) 0 26) := by
  obtain ⟨⟨hr, hS, hB, hC, hL, hW⟩, hd⟩ := h
  obtain ⟨s1, s2, s3, s4⟩ := hS
  have e : ∀ i, i < 26 → (cpS gM 16 0 (458 + w) 0 26) (458 + w) (0 + i) = gM 16 i := fun i hi => by
    rw [cpS_in hi, Nat.zero_add]
  refine ⟨fun p hp => ⟨?_, ?_, ?_⟩, ?_, ?_⟩
  · rw [e p (by omega)]; exact s1 p hp
  · rw [show 0 + 8 + p = 0 + (8 + p) by omega, e _ (by omega)]; exact s2 p hp
  · rw [show 0 + 16 + p = 0 + (16 + p) by omega, e _ (by omega)]; exact hd p hp
  · rw [e 24 (by omega)]; exact s3
  · rw [e 25 (by omega)]; exact s4
end W9
theorem S_work : Sim_work R := by
  intro gX xX gM xM x1 hR
  obtain ⟨W, n, N, K, F, D, U, T, Y, d, hX, hM, hY, hW, h6, h7⟩ := id hR.2.2.2
  have h8 := hX.2.2.1.1
  have nX := hX.2.2.2.1.1
  obtain ⟨g0, hg0⟩ : ∃ g0, g0 = st gM 0 0 (i3 0) := ⟨_, rfl⟩
  have t0 : g0 0 0 = i3 0 := by rw [hg0, st_eq]
  have k0 : KM gM g0 := by rw [hg0]; exact KM.thrown
  have hR0 : R gX xX g0 xM := hR.fr KX.rf k0
  have hM0 : EMd W n N K F D U T Y 16 g0 := hM.frK k0
  have nM := hM0.1.2.2.2.1.1
  obtain ⟨len, b, l1, l2, l3, l4⟩ := hR0.1
  have l3' : gM 0 1 = i3 len := by rw [← l3, hg0, st_at, if_neg (by omega)]
  have h7' := h7.fr KX.rf k0
  have h6' := h6.fr KX.rf k0
  obtain ⟨⟨w, hw16, x12, y32, hwk⟩, him⟩ := id h7'
  rcases txt_arg len 150 l1 (by omega) x1 with ⟨e, he, he2, rfl⟩ | ⟨q1, q2⟩
  · obtain ⟨t, gX1, gM1, b1, b2, b3, b4, b5, b6, b7, b8, b9, b10, b11⟩ := begin_both (gX := gX) (gM := g0) (e := e) (b := b) (by omega) l4
    have x12' : gX1 12 2 = i3 w := (b7 12 2 (by omega)).trans x12
    have eX0 : fX_work (i3 e) gX = if fX_Past_isFull gX1 = 0 then ((fX_Steps_readFrom (gX1 2 0) gX1).bind fun g67 => (if (fX_Text_isSound g67) = 0 then (some (.inr (fX_Text_faultLessTen g67), g67)) else ((fX_Past_keepWork 10 g67).bind fun g96 => ((fX_Steps_run 10 g96).bind fun g107 => (some (.inr (g107 7 7), (st g107 0 16 (g107 7 8)))))))) else some (.inr (-20 : Int32), gX1) := by
      unfold fX_work
      show (if i3 e < i3 0 then _ else if gX 1 1 < i3 e then _ else if i3 150 < i3 e then _ else fX_work_b28 (i3 e) (i3 1) gX) = _
      rw [if_neg (i3_nlt (by omega) (by omega)), l2, if_neg (i3_nlt (by omega) he), if_neg (i3_nlt (by omega) he2)]
      unfold fX_work_b28
      rw [needY, lt1_e]
      show (if fX_Past_isFull (fX_Text_begin (i3 e) gX) = 0 then _ else some (Sum.inr (-20 : Int32), fX_Text_begin (i3 e) gX)) = _
      rw [b1]
    have eM0 : fM_work (i3 e) gM = if g0 0 32 = i3 16 then some ((-20 : Int32), st (st g0 0 1 (i3 0)) 0 3 m1) else fM_work_b72 (st gM1 0 26 (i3 0)) := by
      unfold fM_work
      show (if fM_in (i3 e) (i3 0) (gM 0 1) = i3 0 then _ else if i3 e ≤ i3 150 then fM_work_b30 (i3 e) (i3 0) (st gM 0 0 (i3 0)) else _) = _
      rw [l3', inY (by omega) he (by omega), if_neg (by decide), if_pos (i3_yle (by omega) he2), ← hg0]
      unfold fM_work_b30
      show (fM_bad (i3 0) (i3 1) (i3 1) g0).bind _ = _
      rw [badY t0, ob_s]
      show (if i3 0 = i3 0 then if g0 0 32 = i3 16 then _ else (fM_starts (i3 e) g0).bind _ else _) = _
      rw [if_pos rfl, b2]
      rfl
    by_cases qw : w = 16
    · -- no room
      subst qw
      have f0 : fX_Past_isFull gX1 = i3 1 := by
        unfold fX_Past_isFull
        show (if gX1 12 2 < i3 16 then _ else _) = _
        rw [x12', if_neg (i3_nlt (by omega) (Nat.le_refl _))]
        rfl
      rw [f0, if_neg (show ¬ i3 1 = (0 : Int32) by decide)] at eX0
      rw [if_pos y32] at eM0
      obtain ⟨gM3, hM3⟩ : ∃ z, z = st (st g0 0 1 (i3 0)) 0 3 m1 := ⟨_, rfl⟩
      rw [← hM3] at eM0
      have f3 : ∀ p i, ¬ (p = 0 ∧ (i = 1 ∨ i = 3)) → gM3 p i = g0 p i := fun p i z => by rw [hM3, st_at, if_neg (by omega), st_at, if_neg (by omega)]
      have y1' : gM3 0 1 = i3 0 := by rw [hM3, st_at, if_neg (by omega), st_eq]
      refine ⟨_, _, eX0, eM0, R_fin hR0 (fun i => b7 16 i (by omega)) (fun i => f3 1 i (by omega)) b5 y1' ?_ (b7 0 17 (by omega)) (b7 0 18 (by omega)) (fun i => f3 2 i (by omega)) ?_ (hR0.2.2.2.frt (fun p i a => b7 p i (by omega)) (fun p i a => f3 p i (by omega))), okR ((f3 0 0 (by omega)).trans t0)⟩
      · show gX1 1 7 = gM3 0 3
        rw [b6, hM3, st_eq]
      · show gX1 0 16 = gM3 0 33
        rw [b7 0 16 (by omega), f3 0 33 (by omega)]
        exact hR0.2.2.1
    · -- it is read
      have f0 : fX_Past_isFull gX1 = i3 0 := by
        unfold fX_Past_isFull
        show (if gX1 12 2 < i3 16 then _ else _) = _
        rw [x12', if_pos (i3_ylt (by omega) (by omega))]
        rfl
      rw [f0, if_pos (show i3 0 = (0 : Int32) from rfl)] at eX0
      rw [y32, if_neg (by rw [i3_eq (by omega) (by omega)]; exact qw)] at eM0
      obtain ⟨gX2, hX2⟩ : ∃ z, z = st (st gX1 7 5 (i3 0)) 7 6 (i3 0) := ⟨_, rfl⟩
      obtain ⟨gM2, hM2⟩ : ∃ z, z = st gM1 0 26 (i3 0) := ⟨_, rfl⟩
      have f2 : ∀ p i, ¬ (p = 7 ∧ (i = 5 ∨ i = 6)) → gX2 p i = gX1 p i := fun p i z => by rw [hX2, st_at, if_neg (by omega), st_at, if_neg (by omega)]
      have k2 : ∀ p i, ¬ (p = 0 ∧ i = 26) → gM2 p i = gM1 p i := fun p i z => by rw [hM2, st_at, if_neg z]
      have hW0 : Ww e b 0 t 0 0 0 0 n gX2 gM2 := by
        have hT : TS e b 0 0 t gX2 gM2 := b3.fr (fun i _ => f2 1 i (by omega)) (fun i => f2 16 i (by omega)) (fun i _ _ => k2 0 i (by omega)) (fun i => k2 1 i (by omega))
        obtain ⟨c, c1, c2⟩ := hT.1.2.2.2.2.1 rfl
        have := nb_le c2
        exact ⟨hT, by rw [hX2, st_at, if_neg (by omega), st_eq], by rw [hX2, st_eq], by rw [hM2, st_eq], (k2 0 8 (by omega)).trans b9, (k2 4 0 (by omega)).trans ((b11 4 0 (by omega)).trans nM), ⟨c, c1, Nat.zero_le _, Nat.zero_le _, Nat.zero_le _, this.1⟩, by omega⟩
      obtain ⟨gX3, gM3, ft, fp', t', d1, d2, d3, d4, d5, d6⟩ := work_read h8 he2 hW0 ((k2 0 4 (by omega)).trans b4)
      have eX1 : fX_Steps_readFrom (gX1 2 0) gX1 = some gX3 := by
        unfold fX_Steps_readFrom
        show fX_Steps_readFrom_b12 (gX1 2 0) (i3 0) (st (st gX1 7 5 (i3 0)) 7 6 (i3 0)) = _
        rw [← hX2, b7 2 0 (by omega), nX, d1]
      rw [eX1, ob_s] at eX0
      rw [← hM2] at eM0
      have kX : ∀ p i, ¬ (p = 1 ∧ 1 ≤ i ∧ i ≤ 7) → ¬ (p = 7 ∧ (i = 5 ∨ i = 6)) → ¬ (30 ≤ p ∧ p ≤ 33) → gX3 p i = gX p i := fun p i z1 z2 z3 => (d4 p i (by omega) z2 z3).trans ((f2 p i z2).trans (b7 p i z1))
      have kM : ∀ p i, ¬ (p = 0 ∧ 1 ≤ i ∧ i ≤ 8 ∧ ¬ i = 3) → ¬ (p = 0 ∧ i = 26) → ¬ (378 ≤ p ∧ p < 458) → gM3 p i = g0 p i := fun p i z1 z2 z3 => (d5 p i (by omega) z2 z3).trans ((k2 p i z2).trans (b11 p i z1))
      have x11 : gX3 1 1 = i3 0 := (d4 1 1 (by omega) (by omega) (by omega)).trans ((f2 1 1 (by omega)).trans b5)
      have y01 : gM3 0 1 = i3 0 := (d5 0 1 (by omega) (by omega) (by omega)).trans ((k2 0 1 (by omega)).trans b8)
      have eM1 : fM_work_b72 gM2 = if gM3 0 5 = 0 then (if ¬ ((gM3 0 32) < 0 ∨ 16 ≤ (gM3 0 32).toNatClampNeg) then ((fM_copies 16 (458 + (gM3 0 32).toNatClampNeg) (st gM3 0 3 m1)).bind fun g131 => ((fM_goes 30 (i3 0) (g131 0 26) (st (st (st (st g131 0 32 ((g131 0 32) + (1 : Int32))) 0 36 (i3 0)) 0 37 (i3 0)) 0 33 (i3 0))).bind fun g165 => (some ((g165 0 37), g165)))) else none) else some ((fM_ends gM3).1, (fM_ends gM3).2) := by
        unfold fM_work_b72
        rw [d2, ob_s]
        rfl
      rw [eM1] at eM0
      by_cases q : ft = 0
      · subst q
        obtain ⟨dd, x, s, hBk, x75, y26, hx150, hs80⟩ := d6 rfl
        have x7 : gX3 1 7 = m1 := d3.1.2.2.2.2.2
        rw [d3.1.sound, if_pos rfl, if_neg (show ¬ i3 1 = (0 : Int32) by decide)] at eX0
        have y32' : gM3 0 32 = i3 w := (kM 0 32 (by omega) (by omega) (by omega)).trans y32
        have x122 : gX3 12 2 = i3 w := (kX 12 2 (by omega) (by omega) (by omega)).trans x12
        rw [if_pos (show gM3 0 5 = 0 from d3.2.2.1), y32', if_pos (i3_in (by omega) (by omega)), i3_nat (by omega), M_copies (a := 16) (b := 458 + w) rfl (lnB (by omega)) (by omega), ob_s] at eM0
        -- the class keeps the state
        obtain ⟨gX4, hX4⟩ : ∃ z, z = st (wtS gX3 43 (25 * w)) 12 2 (i3 (w + 1)) := ⟨_, rfl⟩
        have f4 : ∀ p i, ¬ (p = 43 ∧ 25 * w ≤ i ∧ i < 25 * w + 25) → ¬ (p = 12 ∧ i = 2) → gX4 p i = gX3 p i := fun p i z1 z2 => by rw [hX4, st_at, if_neg z2, wtS_out z1]
        have eK : fX_Past_keepWork 10 gX3 = some gX4 := by
          unfold fX_Past_keepWork
          show (if i3 16 ≤ gX3 12 2 then _ else (fX_State_writeTo 10 43 (gX3 12 2 * i3 25) gX3).bind fun g21 => some (st g21 12 2 (g21 12 2 + i3 1))) = _
          rw [x122, if_neg (i3_nle (by omega) (by omega)), i3_mul, Nat.mul_comm w 25, X_write (L := 400) (Or.inl rfl) rfl (by omega) (by omega), ob_s, wtS_out (by omega), x122, i3_add, ← hX4]
        rw [eK, ob_s] at eX0
        obtain ⟨gX5, hX5⟩ : ∃ z, z = st (st (st gX4 7 7 (i3 0)) 7 8 (i3 0)) 7 6 (i3 0) := ⟨_, rfl⟩
        have f5 : ∀ p i, ¬ (p = 7 ∧ 6 ≤ i ∧ i ≤ 8) → gX5 p i = gX4 p i := fun p i z => by rw [hX5, st_at, if_neg (by omega), st_at, if_neg (by omega), st_at, if_neg (by omega)]
        -- the reference keeps it
        obtain ⟨gM4, hM4⟩ : ∃ z, z = cpS (st gM3 0 3 m1) 16 0 (458 + w) 0 26 := ⟨_, rfl⟩
        rw [← hM4] at eM0
        have k4 : ∀ p i, ¬ p = 458 + w → ¬ (p = 0 ∧ i = 3) → gM4 p i = gM3 p i := fun p i z1 z2 => by rw [hM4, cpS_ne z1, st_at, if_neg z2]
        have y26' : gM4 0 26 = i3 s := (k4 0 26 (by omega) (by omega)).trans y26
        have y432 : gM4 0 32 = i3 w := (k4 0 32 (by omega) (by omega)).trans y32'
        rw [y26', y432, show i3 w + (1 : Int32) = i3 (w + 1) from i3_add w 1] at eM0
        obtain ⟨gM5, hM5⟩ : ∃ z, z = st (st (st (st gM4 0 32 (i3 (w + 1))) 0 36 (i3 0)) 0 37 (i3 0)) 0 33 (i3 0) := ⟨_, rfl⟩
        rw [← hM5] at eM0
        have k5 : ∀ p i, ¬ (p = 0 ∧ (i = 32 ∨ i = 33 ∨ i = 36 ∨ i = 37)) → gM5 p i = gM4 p i := fun p i z => by rw [hM5, st_at, if_neg (by omega), st_at, if_neg (by omega), st_at, if_neg (by omega), st_at, if_neg (by omega)]
        -- both states, as they were
        have hX3 : EC W n N K F D U T Y 10 gX3 := hX.fr6 (fun p i a => kX p i (by omega) (by omega) (by omega))
        have hM3 : EMd W n N K F D U T Y 16 gM3 := hM0.fr6 (fun p i a => kM p i (by omega) (by omega) (by omega))
        have hX5' : EC W n N K F D U T Y 10 gX5 := by
          obtain ⟨hr, hS, hB, hC, hL, hW2⟩ := hX3
          have E : ∀ p, (p = 2 ∨ p = 10 ∨ p = 17 ∨ p = 19 ∨ p = 23 ∨ (37 ≤ p ∧ p ≤ 39)) → gX5 p = gX3 p := fun p hp => funext fun i => (f5 p i (by omega)).trans (f4 p i (by omega) (by omega))
          exact ⟨hr, hS.fr (E 10 (by omega)) (E _ (by omega)) (E _ (by omega)) (E _ (by omega)), hB, hC.fr (E 2 (by omega)) (E 17 (by omega)) (E 19 (by omega)), hL.fr ((f5 4 3 (by omega)).trans (f4 4 3 (by omega) (by omega))) (E 23 (by omega)), hW2⟩
        have hM5' : EMd W n N K F D U T Y 16 gM5 := by
          obtain ⟨⟨hr, hS, hB, hC, hL, hW2⟩, hd⟩ := hM3
          have E : ∀ p, (p = 4 ∨ p = 8 ∨ p = 16 ∨ (34 ≤ p ∧ p < 202)) → gM5 p = gM3 p := fun p hp => funext fun i => (k5 p i (by omega)).trans (k4 p i (by omega) (by omega))
          refine ⟨⟨hr, hS.fr (E 16 (by omega)), hB, hC.fr hB.1 (E 4 (by omega)) (E 8 (by omega)) (fun p hp => E _ (by omega)), hL.fr ((k5 0 17 (by omega)).trans (k4 0 17 (by omega) (by omega))) (fun p a b => E p (by omega)), hW2⟩, fun p hp => ?_⟩
          rw [E 16 (by omega)]
          exact hd p hp
        have hWS : WS W n N K F 0 0 0 gX5 gM5 := ⟨⟨D, U, T, Y, d, hX5', hM5', hY, hW⟩, by rw [hX5, st_at, if_neg (by omega), st_at, if_neg (by omega), st_eq], by rw [hX5, st_at, if_neg (by omega), st_eq], by rw [hM5, st_at, if_neg (by omega), st_at, if_neg (by omega), st_eq], by rw [hM5, st_at, if_neg (by omega), st_eq], by rw [hM5, st_eq], by omega⟩
        have hBk5 : Bk n gX5 gM5 dd 6 0 s 0 x := Bk.fr _ _ _ _ _ _ hBk (fun q j hq _ _ => (f5 q j (by omega)).trans (f4 q j (by omega) (by omega))) (fun j i _ hj => (k5 _ i (by omega)).trans (k4 _ i (by omega) (by omega)))
        have h75 : gX5 7 5 = i3 x := (f5 7 5 (by omega)).trans ((f4 7 5 (by omega) (by omega)).trans x75)
        obtain ⟨bg, dn, rf, gX6, gM6, r1, r2, r3, r4, r5⟩ : ∃ bg dn rf gX6 gM6, fX_Steps_run 10 gX4 = some gX6 ∧ fM_goes 30 (i3 0) (i3 s) gM5 = some gM6 ∧ RFX gX5 gX6 ∧ RFM gM5 gM6 ∧ WS W n N K F bg dn rf gX6 gM6 := by
          have hrun : ∀ r : St, lp (fX_Steps_run_L22 10) fuel (i3 0, i3 0, i3 0, gX5) = some r → fX_Steps_run 10 gX4 = some r := fun r hr => by
            unfold fX_Steps_run fX_Steps_run_b22
            show (lp (fX_Steps_run_L22 10) fuel (i3 0, i3 0, i3 0, st (st (st gX4 7 7 (i3 0)) 7 8 (i3 0)) 7 6 (i3 0))).bind _ = _
            rw [← hX5, hr, ob_s]
          rcases run_blk hx150 h75 dd 6 0 s 0 x hBk5 s 29 0 0 0 0 0 gX5 gM5 (Nat.le_refl _) hs80 (Nat.le_refl _) RFX.rf RFM.rf hWS (by rw [hX5, st_eq]) (by omega) (by omega) (by omega) with ⟨bg', dn', rf', tn', gX', gM', a1, a2, a3, a4, a5, a6, a7, a8, a9⟩ | ⟨dn', rf', gX', gM', a1, a2, a3, a4, a5⟩
          · refine ⟨bg', dn', rf', gX', gM', hrun gX' ?_, goes_of a2 hs80, a3, a4, a5⟩
            obtain ⟨j, hj, e1⟩ := a1
            have := a5.2.2.2.2.2.2
            rw [show fuel = (999999 - j + 1) + j by rw [fuel_eq]; omega, e1]
            refine lp_inr ?_
            unfold fX_Steps_run_L22
            show (if i3 1000000 ≤ i3 tn' then _ else if gX' 7 5 ≤ i3 x then _ else _) = _
            rw [if_neg (i3_nle (by omega) (by omega)), a3 7 5 (by omega) (by omega) (by omega) (by omega) (by omega) (by omega), h75, if_pos (i3_yle (by omega) (Nat.le_refl _))]
          · refine ⟨200, dn', rf', gX', gM', hrun gX' ?_, goes_oe a2 hs80, a3, a4, a5⟩
            obtain ⟨j, hj, e1⟩ := a1
            rw [show fuel = (999999 - j) + j + 1 by rw [fuel_eq]; omega, e1]
        rw [r1, ob_s] at eX0
        rw [r2, ob_s] at eM0
        obtain ⟨⟨D', U', T', Y', d', hX6, hM6, hY6, hW6⟩, v1, v2, v3, v4, v5, v6⟩ := r5
        obtain ⟨gX7, hX7⟩ : ∃ z, z = st gX6 0 16 (gX6 7 8) := ⟨_, rfl⟩
        rw [← hX7] at eX0
        have f7 : ∀ p i, ¬ (p = 0 ∧ i = 16) → gX7 p i = gX6 p i := fun p i z => by rw [hX7, st_at, if_neg z]
        have X73 : ∀ p i, ¬ (p = 0 ∧ i = 16) → ¬ p = 7 → ¬ p = 10 → ¬ p = 24 → ¬ p = 25 → ¬ p = 34 → ¬ (37 ≤ p ∧ p ≤ 39) → ¬ (p = 43 ∧ 25 * w ≤ i ∧ i < 25 * w + 25) → ¬ (p = 12 ∧ i = 2) → gX7 p i = gX3 p i := fun p i z1 z2 z3 z4 z5 z6 z7 z8 z9 => (f7 p i z1).trans ((r3 p i (by omega) z3 z4 z5 z6 z7).trans ((f5 p i (by omega)).trans (f4 p i z8 z9)))
        have X7 : ∀ p i, ¬ (p = 0 ∧ i = 16) → ¬ p = 1 → ¬ p = 7 → ¬ p = 10 → ¬ p = 24 → ¬ p = 25 → ¬ (30 ≤ p ∧ p ≤ 34) → ¬ (37 ≤ p ∧ p ≤ 39) → ¬ (p = 43 ∧ 25 * w ≤ i ∧ i < 25 * w + 25) → ¬ (p = 12 ∧ i = 2) → gX7 p i = gX p i := fun p i z1 z2 z3 z4 z5 z6 z7 z8 z9 z10 => (X73 p i z1 z3 z4 z5 z6 (by omega) z8 z9 z10).trans (kX p i (by omega) (by omega) (by omega))
        have M63 : ∀ p i, ¬ p = 13 → ¬ p = 14 → ¬ p = 16 → ¬ (p = 0 ∧ (i = 3 ∨ i = 32 ∨ i = 33 ∨ i = 36 ∨ i = 37)) → ¬ p = 458 + w → gM6 p i = gM3 p i := fun p i z1 z2 z3 z4 z5 => (r4 p i z1 z2 z3 (by omega)).trans ((k5 p i (by omega)).trans (k4 p i z5 (by omega)))
        have M6 : ∀ p i, ¬ p = 13 → ¬ p = 14 → ¬ p = 16 → ¬ (p = 0 ∧ 1 ≤ i ∧ i ≤ 8) → ¬ (p = 0 ∧ (i = 26 ∨ i = 32 ∨ i = 33 ∨ i = 36 ∨ i = 37)) → ¬ p = 458 + w → ¬ (378 ≤ p ∧ p < 458) → gM6 p i = g0 p i := fun p i z1 z2 z3 z4 z5 z6 z7 => (M63 p i z1 z2 z3 (by omega) z6).trans (kM p i (by omega) (by omega) z7)
        have hR5 : R5 gX7 gM6 := by
          refine ⟨W, n, N, K, F, D', U', T', Y', d', hX6.fr6 (fun p i a => f7 p i (by omega)), hM6, hY6, hW6, h6'.fr6 (fun p i a => X7 p i (by omega) (by omega) (by omega) (by omega) (by omega) (by omega) (by omega) (by omega) (by omega) (by omega)) (fun p i a => M6 p i (by omega) (by omega) (by omega) (by omega) (by omega) (by omega) (by omega)), ⟨w + 1, by omega, ?_, ?_, fun k hk => ?_⟩, ?_⟩
          · rw [f7 12 2 (by omega), r3 12 2 (by omega) (by omega) (by omega) (by omega) (by omega) (by omega), f5 12 2 (by omega), hX4, st_eq]
          · rw [r4 0 32 (by omega) (by omega) (by omega) (by omega), hM5, st_at, if_neg (by omega), st_at, if_neg (by omega), st_at, if_neg (by omega), st_eq]
          · by_cases qk : k = w
            · subst qk
              refine ⟨(D, U, T, Y), ?_, ?_, hX.2.2.1, hY, d, hW⟩
              · have h1 : KX8 43 (25 * k) (D, U, T, Y) (wtS gX3 43 (25 * k)) := wtS_KX (Or.inl rfl) hX3.2.1
                refine h1.fr (fun i => ?_)
                rw [f7 43 i (by omega), r3 43 i (by omega) (by omega) (by omega) (by omega) (by omega) (by omega), f5 43 i (by omega), hX4, st_ne (by omega)]
              · have hM3' : EMd W n N K F D U T Y 16 (st gM3 0 3 m1) := hM3.fr6 (fun p i a => by rw [st_at, if_neg (by omega)])
                have h1 := hM3'.kp (w := k)
                rw [← hM4] at h1
                refine h1.fr (fun i => ?_)
                rw [r4 _ i (by omega) (by omega) (by omega) (by omega), k5 _ i (by omega)]
            · obtain ⟨s', s1, s2, s3⟩ := hwk k (by omega)
              refine ⟨s', ⟨fun p hp => ?_, ?_⟩, s2.fr (fun i => M6 _ i (by omega) (by omega) (by omega) (by omega) (by omega) (by omega) (by omega)), s3⟩
              · rw [X7 43 _ (by omega) (by omega) (by omega) (by omega) (by omega) (by omega) (by omega) (by omega) (by omega) (by omega), X7 43 _ (by omega) (by omega) (by omega) (by omega) (by omega) (by omega) (by omega) (by omega) (by omega) (by omega), X7 43 _ (by omega) (by omega) (by omega) (by omega) (by omega) (by omega) (by omega) (by omega) (by omega) (by omega)]
                exact s1.1 p hp
              · rw [X7 43 _ (by omega) (by omega) (by omega) (by omega) (by omega) (by omega) (by omega) (by omega) (by omega) (by omega)]
                exact s1.2
          · obtain ⟨m, m1', m2', m3', m4'⟩ := him
            refine ⟨m, m1', by rw [X7 12 3 (by omega) (by omega) (by omega) (by omega) (by omega) (by omega) (by omega) (by omega) (by omega) (by omega)]; exact m2', by rw [M6 0 34 (by omega) (by omega) (by omega) (by omega) (by omega) (by omega) (by omega)]; exact m3', fun j hj => ?_⟩
            have a44 : ∀ i, gX7 44 i = gX 44 i := fun i => X7 44 i (by omega) (by omega) (by omega) (by omega) (by omega) (by omega) (by omega) (by omega) (by omega) (by omega)
            have a47 : ∀ i, gM6 (474 + j) i = g0 (474 + j) i := fun i => M6 _ i (by omega) (by omega) (by omega) (by omega) (by omega) (by omega) (by omega)
            obtain ⟨v, v1, v2, v3, v4, v5⟩ := m4' j hj
            exact ⟨v, v1, by rw [a44]; exact v2, by rw [a47]; exact v3, v4.fr a44 a47, fun k hk => (v5 k hk).fr a44 a47⟩
        refine ⟨_, _, eX0, eM0, R_fin hR0 (fun i => X7 16 i (by omega) (by omega) (by omega) (by omega) (by omega) (by omega) (by omega) (by omega) (by omega) (by omega)) (fun i => M6 1 i (by omega) (by omega) (by omega) (by omega) (by omega) (by omega) (by omega)) ((X73 1 1 (by omega) (by omega) (by omega) (by omega) (by omega) (by omega) (by omega) (by omega) (by omega)).trans x11) ((M63 0 1 (by omega) (by omega) (by omega) (by omega) (by omega)).trans y01) ?_ (X7 0 17 (by omega) (by omega) (by omega) (by omega) (by omega) (by omega) (by omega) (by omega) (by omega) (by omega)) (X7 0 18 (by omega) (by omega) (by omega) (by omega) (by omega) (by omega) (by omega) (by omega) (by omega) (by omega)) (fun i => M6 2 i (by omega) (by omega) (by omega) (by omega) (by omega) (by omega) (by omega)) ?_ hR5, ?_⟩
        · show gX7 1 7 = gM6 0 3
          rw [r4 0 3 (by omega) (by omega) (by omega) (by omega), k5 0 3 (by omega), hM4, cpS_ne (by omega), st_eq, X73 1 7 (by omega) (by omega) (by omega) (by omega) (by omega) (by omega) (by omega) (by omega) (by omega)]
          exact x7
        · show gX7 0 16 = gM6 0 33
          rw [hX7, st_eq, v2, v5]
        · show simR 1 (.inr (gX6 7 7) : Nat ⊕ Int32) (gM6 0 37) (gM6 0 0)
          rw [v1, v4]
          exact okR ((M6 0 0 (by omega) (by omega) (by omega) (by omega) (by omega) (by omega) (by omega)).trans t0)
      · rw [d3.1.sound, if_neg q, if_pos (show i3 0 = (0 : Int32) from rfl)] at eX0
        rw [if_neg (d3.2.n5 q)] at eM0
        obtain ⟨hRf, hSf⟩ := fault_end (xX := xX) (xM := xM) hR0 t0 (fun p i w => kX p i (by omega) (by omega) (by omega)) (fun p i w => kM p i (by omega) (by omega) (by omega)) x11 y01 d3 q
        exact ⟨_, _, eX0, eM0, hRf, hSf⟩
  · have eX : fX_work x1 gX = fX_work_b27 x1 gX := by
      unfold fX_work
      show (if x1 < i3 0 then _ else if gX 1 1 < x1 then _ else if i3 150 < x1 then _ else fX_work_b28 x1 (i3 1) gX) = _
      rw [l2]
      by_cases w1 : x1 < i3 0
      · rw [if_pos w1]
      · rw [if_neg w1]
        by_cases w2 : i3 len < x1
        · rw [if_pos w2]
        · rw [if_neg w2, if_pos (by rcases q1 with z | z | z; exact absurd z w1; exact absurd z w2; exact z)]
    have eM : fM_work x1 gM = fM_work_b25 x1 g0 := by
      unfold fM_work
      show (if fM_in x1 (i3 0) (gM 0 1) = i3 0 then fM_work_b25 x1 (st gM 0 0 (i3 0)) else if x1 ≤ i3 150 then _ else fM_work_b25 x1 (st gM 0 0 (i3 0))) = _
      rw [l3', ← hg0]
      rcases q2 with z | ⟨z1, z2⟩
      · rw [if_pos z]
      · rw [z1, if_neg (by decide), if_neg z2]
    refine ⟨(.inl 1, st gX 0 18 (gX 0 18 + i3 1)), (i3 0, st (st g0 0 0 (i3 1)) 2 1 (g0 2 1 + i3 1)), ?_, ?_, ref11 hR0 _⟩
    · rw [eX]
      unfold fX_work_b27 fX_work_b28
      show lt1 (fX_need (i3 0) gX) _ = _
      rw [needN]
      rfl
    · rw [eM]
      unfold fM_work_b25 fM_work_b30
      show (fM_bad (i3 1) (i3 1) (i3 1) g0).bind _ = _
      rw [badN t0 (Or.inl rfl) (by omega)]
      rfl
