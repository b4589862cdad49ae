/-! PURE: peninsula: the call -/
theorem nm8 : nm 8 = m1 := nm_no (Nat.le_refl 8)
/-- all anew: both sides -/
theorem anew {n N c : Nat} {K F D : Nat → Nat} {gX gM gX' gM' : St} (hL : n ≤ 8 ∧ 1 ≤ N ∧ N ≤ 4 ∧ (∀ p, p < n → K p ≤ 9 ∧ D p ≤ 60) ∧ ∀ p, p < n → F p < 256) (x2 : gX' 2 0 = i3 n) (x3 : gX' 2 1 = i3 N) (x17 : ∀ p, p < n → gX' 17 p = i3 (K p)) (x19 : ∀ p, p < n → gX' 19 p = i3 (F p)) (xS : SX 10 (fun p => if p < n then D p else 0) (fun _ => 8) (fun _ => 0) 0 gX') (x43 : gX' 4 3 = i3 11) (x23 : ∀ j, j < 11 → gX' 23 j = i3 (plainL.getD j 0)) (x8 : gX' 8 1 = i3 0) (x12 : gX' 12 2 = i3 0 ∧ gX' 12 3 = i3 0) (y4 : gM' 4 0 = i3 n) (y5 : gM' 4 1 = i3 N) (y34 : ∀ p, p < n → gM' (34 + p) 0 = i3 (K p)) (y8 : ∀ p, p < n → gM' 8 p = i3 (F p)) (y16 : ∀ p, p < 8 → gM' 16 p = i3 (if p < n then D p else 0) ∧ gM' 16 (8 + p) = m1 ∧ gM' 16 (16 + p) = m1) (yl : gM' 16 24 = i3 (msk (fun p => decide ((fun _ => 0 : Nat → Nat) p = 0)) n)) (yy : gM' 16 25 = i3 0) (z0 : gM' 0 17 = i3 0 ∧ gM' 0 31 = i3 0 ∧ gM' 0 32 = i3 0 ∧ gM' 0 33 = i3 0 ∧ gM' 0 34 = i3 0) : R5 gX' gM' := by
  obtain ⟨h1, h2, h3, h4, h5⟩ := hL
  have hB := bd0 (D := D) h1 (fun p hp => (h4 p hp).2)
  refine ⟨plainW, n, N, K, F, fun p => if p < n then D p else 0, fun _ => 8, fun _ => 0, 0, fun _ => 0, ⟨Or.inl rfl, xS, hB, ⟨x2, x3, h2, h3, fun p hp => ⟨x17 p hp, (h4 p hp).1⟩, fun p hp => ⟨x19 p hp, h5 p hp⟩⟩, LX_plain x43 x23, plain_W⟩, ⟨⟨Or.inl rfl, ⟨fun p hp => (y16 p hp).1, fun p hp => (y16 p hp).2.1.trans nm8.symm, yl, yy⟩, hB, ⟨y4, y5, h2, h3, fun p hp => ⟨y34 p hp, (h4 p hp).1⟩, fun p hp => ⟨y8 p hp, h5 p hp⟩⟩, LM_plain z0.1, plain_W⟩, fun p hp => (y16 p hp).2.2⟩, by omega, wf0, ⟨0, fun _ => 0, fun _ => 0, fun _ => 0, by omega, x8, z0.2.1, fun k hk => absurd hk (Nat.not_lt_zero k), fun hk => absurd hk (Nat.not_lt_zero 0)⟩, ⟨0, by omega, x12.1, z0.2.2.1, fun k hk => absurd hk (Nat.not_lt_zero k)⟩, 0, by omega, x12.2, z0.2.2.2.2, fun k hk => absurd hk (Nat.not_lt_zero k)⟩
/-- the land is taken over -/
theorem X_landTake {g : St} {n N : Nat} (h0 : g 3 0 = i3 n) (h1 : g 3 1 = i3 N) : ∃ g', fX_Land_take 2 3 g = some g' ∧ g' 2 0 = i3 n ∧ g' 2 1 = i3 N ∧ (∀ p, p < 8 → g' 17 p = g 20 p ∧ g' 18 p = g 21 p ∧ g' 19 p = g 22 p) ∧ ∀ p i, ¬ p = 2 → ¬ (17 ≤ p ∧ p ≤ 19) → g' p i = g p i := by
  obtain ⟨gA, hA⟩ : ∃ z, z = st (st g 2 0 (i3 n)) 2 1 (i3 N) := ⟨_, rfl⟩
  have fA : ∀ p i, ¬ p = 2 → gA p i = g p i := fun p i z => by rw [hA, st_at, if_neg (by omega), st_at, if_neg (by omega)]
  have c1 := X_copy (a := 20) (b := 17) (s := 0) (p := 0) (m := 8) (ln8 (by omega)) (ln8 (by omega)) (by omega) (by omega) (by omega) (by omega) (by omega) gA
  have c2 := X_copy (a := 21) (b := 18) (s := 0) (p := 0) (m := 8) (ln8 (by omega)) (ln8 (by omega)) (by omega) (by omega) (by omega) (by omega) (by omega) (cpS gA 20 0 17 0 8)
  have c3 := X_copy (a := 22) (b := 19) (s := 0) (p := 0) (m := 8) (ln8 (by omega)) (ln8 (by omega)) (by omega) (by omega) (by omega) (by omega) (by omega) (cpS (cpS gA 20 0 17 0 8) 21 0 18 0 8)
  have i1 : ∀ (g : St) (a b p : Nat), p < 8 → cpS g a 0 b 0 8 b p = g a p := fun g a b p hp => by
    have := cpS_in (g := g) (a := a) (s := 0) (b := b) (p := 0) (m := 8) hp
    rw [Nat.zero_add] at this
    exact this
  refine ⟨cpS (cpS (cpS gA 20 0 17 0 8) 21 0 18 0 8) 22 0 19 0 8, ?_, ?_, ?_, fun p hp => ⟨?_, ?_, ?_⟩, fun p i z1 z2 => ?_⟩
  · unfold fX_Land_take
    show (fX_Rows_copy 20 (i3 0) 17 (i3 0) (i3 8) (st (st g 2 0 (g 3 0)) 2 1 ((st g 2 0 (g 3 0)) 3 1))).bind _ = _
    rw [h0, show (st g 2 0 (i3 n)) 3 1 = i3 N by rw [st_at, if_neg (by omega)]; exact h1, ← hA, c1, ob_s]
    show (fX_Rows_copy 21 (i3 0) 18 (i3 0) (i3 8) _).bind _ = _
    rw [c2, ob_s]
    show (fX_Rows_copy 22 (i3 0) 19 (i3 0) (i3 8) _).bind _ = _
    rw [c3, ob_s]
  · rw [cpS_ne (by omega), cpS_ne (by omega), cpS_ne (by omega), hA, st_at, if_neg (by omega), st_eq]
  · rw [cpS_ne (by omega), cpS_ne (by omega), cpS_ne (by omega), hA, st_eq]
  · rw [cpS_ne (by omega), cpS_ne (by omega), i1 gA 20 17 p hp, fA 20 p (by omega)]
  · rw [cpS_ne (by omega), i1 _ 21 18 p hp, cpS_ne (by omega), fA 21 p (by omega)]
  · rw [i1 _ 22 19 p hp, cpS_ne (by omega), cpS_ne (by omega), fA 22 p (by omega)]
  · rw [cpS_ne (by omega), cpS_ne (by omega), cpS_ne (by omega), fA p i z1]
theorem S_peninsula : Sim_peninsula R := by
  intro gX xX gM xM x1 hR
  obtain ⟨W, n, N, K, F, D, U, T, Y, d, hX, hM, hY, hW, h6, h7⟩ := id hR.2.2.2
  have h8 := hX.2.2.1.1
  have nX := hX.2.2.2.1.1
  obtain ⟨g0, hg0⟩ : ∃ g0, g0 = st gM 0 0 (i3 0) := ⟨_, rfl⟩
  have t0 : g0 0 0 = i3 0 := by rw [hg0, st_eq]
  have k0 : KM gM g0 := by rw [hg0]; exact KM.thrown
  have hR0 : R gX xX g0 xM := hR.fr KX.rf k0
  have hM0 : EMd W n N K F D U T Y 16 g0 := hM.frK k0
  have nM := hM0.1.2.2.2.1.1
  obtain ⟨len, b, l1, l2, l3, l4⟩ := hR0.1
  have l3' : gM 0 1 = i3 len := by rw [← l3, hg0, st_at, if_neg (by omega)]
  rcases rg len (by omega) x1 with ⟨e, he, rfl⟩ | ⟨q1, _, q3⟩
  · obtain ⟨t, gX1, gM1, b1, b2, b3, b4, b5, b6, b7, b8, b9, b10, b11⟩ := begin_both (gX := gX) (gM := g0) (e := e) (b := b) (by omega) l4
    obtain ⟨gX2, hX2⟩ : ∃ z, z = st (st gX1 3 0 (i3 0)) 3 1 (i3 3) := ⟨_, rfl⟩
    obtain ⟨gM2, m1', m2', m3', m4', m5'⟩ := M_tells gM1
    have x2 : ∀ p i, ¬ p = 3 → gX2 p i = gX1 p i := fun p i z => by rw [hX2, st_at, if_neg (by omega), st_at, if_neg (by omega)]
    have hT2 : TS e b 0 0 t gX2 gM2 := b3.fr (fun i _ => x2 1 i (by omega)) (fun i => x2 16 i (by omega)) (fun i _ _ => m5' 0 i (by omega) (by omega)) (fun i => m5' 1 i (by omega) (by omega))
    have hL2 : LI 0 3 0 (fun _ => 0) (fun _ => 0) (fun _ => 0) gX2 gM2 := ⟨by omega, by omega, by omega, by omega, by rw [hX2, st_at, if_neg (by omega), st_eq], by rw [hX2, st_eq], m2', m3', (m5' 0 7 (by omega) (by omega)).trans b10, fun p hp => absurd hp (Nat.not_lt_zero p), fun p hp => ⟨m4' p hp, (by decide : (0 : Nat) < 256), fun _ => rfl⟩⟩
    have h24 : gM2 0 4 = i3 t := (m5' 0 4 (by omega) (by omega)).trans b4
    have h600 := hT2.1.c600
    obtain ⟨gX3, gM3, d1, d2, ft, fp, t', d3, d4, d5, d6⟩ := lp_bothF (PI e b gX2 gM2) (PE e b gX2 gM2) pen_step (k := e - t + 1) (s := (i3 0, gX2)) (s' := gM2) ⟨0, 0, t, hT2, PFX.rf, PFM.rf, fun _ => ⟨rfl, h24, 0, 3, 0, _, _, _, hL2, rfl⟩⟩ (by omega)
    have eX0 : fX_peninsula (i3 e) gX = (if fX_Text_isSound gX3 = 0 then some (.inr (fX_Text_faultLessTen gX3), gX3) else ((fX_Land_take 2 3 gX3).bind fun g69 => ((fX_Law_becomePlain 4 g69).bind fun g76 => ((fX_Book_clear 8 g76).bind fun g83 => (lt1 (fX_Past_clear g83) fun g90 => ((fX_State_begin 10 g90).bind fun g97 => (some (.inr (g97 2 0), (st g97 0 16 (0 : Int32)))))))))) := by
      unfold fX_peninsula
      show (if i3 e < i3 0 then _ else if gX 1 1 < i3 e then _ else fX_peninsula_b21 (i3 e) (i3 1) gX) = _
      rw [if_neg (i3_nlt (by omega) (by omega)), l2, if_neg (i3_nlt (by omega) he)]
      unfold fX_peninsula_b21
      rw [needY, lt1_e]
      show ((fX_Land_readFrom 3 (fX_Text_begin (i3 e) gX)).bind _) = _
      rw [b1]
      have e1 : fX_Land_readFrom 3 gX1 = some gX3 := by
        unfold fX_Land_readFrom fX_Land_readFrom_b12
        show (lp (fX_Land_readFrom_L12 3) fuel (i3 0, st (st gX1 3 0 (i3 0)) 3 1 (i3 3))).bind _ = _
        rw [← hX2, d1, ob_s]
      rw [e1, ob_s]
    have eM0 : fM_peninsula (i3 e) gM = if gM3 0 5 = 0 then ((fM_beginsAnew (st gM3 0 3 m1)).bind fun g89 => some (g89 4 0, g89)) else some ((fM_ends gM3).1, (fM_ends gM3).2) := by
      unfold fM_peninsula
      show (if fM_in (i3 e) (i3 0) (gM 0 1) = i3 0 then _ else fM_peninsula_b23 (i3 e) (i3 0) (st gM 0 0 (i3 0))) = _
      rw [l3', inY (by omega) he (by omega), if_neg (by decide), ← hg0]
      unfold fM_peninsula_b23
      show (fM_bad (i3 0) (i3 1) (i3 1) g0).bind _ = _
      rw [badY t0, ob_s]
      show (if i3 0 = i3 0 then (fM_starts (i3 e) g0).bind _ else _) = _
      rw [if_pos rfl, b2, ob_s, m1', ob_s]
      unfold fM_peninsula_b42
      rw [d2, ob_s]
      rfl
    have kX : ∀ p i, ¬ p = 1 → ¬ p = 3 → ¬ (20 ≤ p ∧ p ≤ 22) → gX3 p i = gX p i := fun p i z1 z2 z3 => (d4 p i (by omega) z2 z3).trans ((x2 p i z2).trans (b7 p i (by omega)))
    have kM : ∀ p i, ¬ (p = 0 ∧ 1 ≤ i ∧ i ≤ 8 ∧ ¬ i = 3) → ¬ p = 3 → ¬ p = 7 → ¬ (26 ≤ p ∧ p < 34) → gM3 p i = g0 p i := fun p i z1 z2 z3 z4 => (d5 p i (by omega) z2 z3 z4).trans ((m5' p i z2 z3).trans (b11 p i z1))
    have x11 : gX3 1 1 = i3 0 := (d4 1 1 (by omega) (by omega) (by omega)).trans ((x2 1 1 (by omega)).trans b5)
    have y01 : gM3 0 1 = i3 0 := (d5 0 1 (by omega) (by omega) (by omega) (by omega)).trans ((m5' 0 1 (by omega) (by omega)).trans b8)
    by_cases q : ft = 0
    · subst q
      obtain ⟨n', N', c', K', F', D', h1, h2, h3, h4, h5, h6', h7', h8', h9, h10, h11⟩ := d6 rfl
      have x7 : gX3 1 7 = m1 := d3.1.2.2.2.2.2
      rw [d3.1.sound, if_pos rfl, if_neg (show ¬ i3 1 = (0 : Int32) by decide)] at eX0
      rw [if_pos (show gM3 0 5 = 0 from d3.2.2.1)] at eM0
      obtain ⟨gD, a1, a2, a3, a4, a5⟩ := X_landTake h5 h6'
      obtain ⟨gE, c1, c2, c3, c4⟩ := X_plain gD
      obtain ⟨gF, f1, f2, f3, f4⟩ := X_clear rB80 (by omega) gE
      obtain ⟨gG, hG⟩ : ∃ z, z = st (st gF 12 2 (i3 0)) 12 3 (i3 0) := ⟨_, rfl⟩
      have g1 : ∀ p i, ¬ p = 12 → gG p i = gF p i := fun p i z => by rw [hG, st_at, if_neg (by omega), st_at, if_neg (by omega)]
      have gDG : ∀ p i, ¬ p = 23 → ¬ p = 4 → ¬ p = 8 → ¬ p = 35 → ¬ p = 12 → gG p i = gD p i := fun p i z1 z2 z3 z4 z5 => (g1 p i z5).trans ((f4 p i (by omega) z4).trans (c4 p i z1 (by omega)))
      have a20 : gG 2 0 = i3 n' := (gDG 2 0 (by omega) (by omega) (by omega) (by omega) (by omega)).trans a2
      obtain ⟨gH, s1, s2, s3⟩ := X_begin (D := D') h1 a20 (fun p hp => by rw [gDG 18 p (by omega) (by omega) (by omega) (by omega) (by omega), (a4 p (by omega)).2.1]; exact (h10 p hp).2.1)
      obtain ⟨gX4, hX4⟩ : ∃ z, z = st gH 0 16 (i3 0) := ⟨_, rfl⟩
      have u1 : ∀ p i, ¬ (p = 0 ∧ i = 16) → gX4 p i = gH p i := fun p i z => by rw [hX4, st_at, if_neg z]
      have uD : ∀ p i, ¬ (p = 0 ∧ i = 16) → ¬ p = 10 → ¬ (37 ≤ p ∧ p ≤ 39) → ¬ p = 23 → ¬ p = 4 → ¬ p = 8 → ¬ p = 35 → ¬ p = 12 → gX4 p i = gD p i := fun p i w1 w2 w3 z1 z2 z3 z4 z5 => (u1 p i w1).trans ((s3 p i (by omega) w3).trans (gDG p i z1 z2 z3 z4 z5))
      have uX : ∀ p i, ¬ (p = 0 ∧ i = 16) → ¬ p = 10 → ¬ (37 ≤ p ∧ p ≤ 39) → ¬ p = 23 → ¬ p = 4 → ¬ p = 8 → ¬ p = 35 → ¬ p = 12 → ¬ p = 2 → ¬ (17 ≤ p ∧ p ≤ 19) → gX4 p i = gX3 p i := fun p i w1 w2 w3 z1 z2 z3 z4 z5 z6 z7 => (uD p i w1 w2 w3 z1 z2 z3 z4 z5).trans (a5 p i z6 z7)
      have eX1 : fX_peninsula (i3 e) gX = some (.inr (gH 2 0), gX4) := by
        rw [eX0, a1, ob_s, c1, ob_s, f1, ob_s, lt1_e]
        show (fX_State_begin 10 (st (st gF 12 2 (i3 0)) 12 3 (i3 0))).bind _ = _
        rw [← hG, s1, ob_s, hX4]
        rfl
      have v20 : gH 2 0 = i3 n' := (s3 2 0 (by omega) (by omega)).trans a20
      obtain ⟨gM5, hM5⟩ : ∃ z, z = st gM3 0 3 m1 := ⟨_, rfl⟩
      have w5 : ∀ p i, ¬ (p = 0 ∧ i = 3) → gM5 p i = gM3 p i := fun p i z => by rw [hM5, st_at, if_neg z]
      obtain ⟨gM4, j1, j2, j3, j4, j5, j6, j7, j8, j9⟩ := M_begins (g := gM5) h1 ((w5 3 0 (by omega)).trans h7') ((w5 3 1 (by omega)).trans h8')
      have wM : ∀ p i, ¬ (p = 0 ∧ i = 3) → ¬ p = 4 → ¬ p = 8 → ¬ p = 16 → ¬ (34 ≤ p ∧ p < 42) → ¬ (p = 0 ∧ (i = 17 ∨ (31 ≤ i ∧ i ≤ 34))) → gM4 p i = gM3 p i := fun p i z0 z1 z2 z3 z4 z5 => (j9 p i z1 z2 z3 z4 z5).trans (w5 p i z0)
      have eM1 : fM_peninsula (i3 e) gM = some (gM4 4 0, gM4) := by rw [eM0, ← hM5, j1, ob_s]
      have hSX : SX 10 (fun p => if p < n' then D' p else 0) (fun _ => 8) (fun _ => 0) 0 gX4 := by
        obtain ⟨t1, t2, t3, t4⟩ := s2
        exact ⟨fun p hp => (u1 _ p (by omega)).trans (t1 p hp), fun p hp => (u1 _ p (by omega)).trans (t2 p hp), fun p hp => (u1 _ p (by omega)).trans (t3 p hp), (u1 10 5 (by omega)).trans t4⟩
      have hR5 : R5 gX4 gM4 := by
        refine anew (gX := gX) (gM := gM) (c := 0) (K := K') (F := F') (D := D') ⟨h1, h2, h3, fun p hp => ⟨(h10 p hp).2.2.2.2.2.1, (h10 p hp).2.2.2.2.2.2⟩, fun p hp => (h11 p (by omega)).2.1⟩ ((u1 2 0 (by omega)).trans v20) ?_ (fun p hp => ?_) (fun p hp => ?_) hSX ?_ (fun j hj => ?_) ?_ ⟨?_, ?_⟩ j2 j3 (fun p hp => ?_) (fun p hp => ?_) (fun p hp => ⟨?_, (j5 p hp).2.2.1, (j5 p hp).2.2.2⟩) j6 j7 j8
        · rw [uD 2 1 (by omega) (by omega) (by omega) (by omega) (by omega) (by omega) (by omega) (by omega)]; exact a3
        · rw [uD 17 p (by omega) (by omega) (by omega) (by omega) (by omega) (by omega) (by omega) (by omega), (a4 p (by omega)).1]; exact (h10 p hp).1
        · rw [uD 19 p (by omega) (by omega) (by omega) (by omega) (by omega) (by omega) (by omega) (by omega), (a4 p (by omega)).2.2]; exact (h10 p hp).2.2.1
        · rw [u1 4 3 (by omega), s3 4 3 (by omega) (by omega), g1 4 3 (by omega), f4 4 3 (by omega) (by omega)]; exact c2
        · rw [u1 23 j (by omega), s3 23 j (by omega) (by omega), g1 23 j (by omega), f4 23 j (by omega) (by omega)]; exact c3 j hj
        · rw [u1 8 1 (by omega), s3 8 1 (by omega) (by omega), g1 8 1 (by omega)]; exact f2
        · rw [u1 12 2 (by omega), s3 12 2 (by omega) (by omega), hG, st_at, if_neg (by omega), st_eq]
        · rw [u1 12 3 (by omega), s3 12 3 (by omega) (by omega), hG, st_eq]
        · rw [j4 p 0 hp (by omega), w5 _ 0 (by omega)]; exact (h10 p hp).2.2.2.1
        · rw [(j5 p (by omega)).1, w5 7 p (by omega)]; exact (h11 p (by omega)).1
        · rw [(j5 p hp).2.1]
          by_cases w : p < n'
          · rw [if_pos w, if_pos w, w5 _ 1 (by omega)]; exact (h10 p w).2.2.2.2.1
          · rw [if_neg w, if_neg w]
      refine ⟨(.inr (gH 2 0), gX4), (gM4 4 0, gM4), eX1, eM1, R_fin hR0 (fun i => (uX 16 i (by omega) (by omega) (by omega) (by omega) (by omega) (by omega) (by omega) (by omega) (by omega) (by omega)).trans (kX 16 i (by omega) (by omega) (by omega))) (fun i => (wM 1 i (by omega) (by omega) (by omega) (by omega) (by omega) (by omega)).trans (kM 1 i (by omega) (by omega) (by omega) (by omega))) ((uX 1 1 (by omega) (by omega) (by omega) (by omega) (by omega) (by omega) (by omega) (by omega) (by omega) (by omega)).trans x11) ((wM 0 1 (by omega) (by omega) (by omega) (by omega) (by omega) (by omega)).trans y01) ?_ ((uX 0 17 (by omega) (by omega) (by omega) (by omega) (by omega) (by omega) (by omega) (by omega) (by omega) (by omega)).trans (kX 0 17 (by omega) (by omega) (by omega))) ((uX 0 18 (by omega) (by omega) (by omega) (by omega) (by omega) (by omega) (by omega) (by omega) (by omega) (by omega)).trans (kX 0 18 (by omega) (by omega) (by omega))) (fun i => (wM 2 i (by omega) (by omega) (by omega) (by omega) (by omega) (by omega)).trans (kM 2 i (by omega) (by omega) (by omega) (by omega))) ?_ hR5, ?_⟩
      · show gX4 1 7 = gM4 0 3
        rw [j9 0 3 (by omega) (by omega) (by omega) (by omega) (by omega), hM5, st_eq, uX 1 7 (by omega) (by omega) (by omega) (by omega) (by omega) (by omega) (by omega) (by omega) (by omega) (by omega)]
        exact x7
      · show gX4 0 16 = gM4 0 33
        rw [j8.2.2.2.1, hX4, st_eq]
      · show simR 1 (.inr (gH 2 0) : Nat ⊕ Int32) (gM4 4 0) (gM4 0 0)
        rw [v20, j2]
        exact okR ((wM 0 0 (by omega) (by omega) (by omega) (by omega) (by omega) (by omega)).trans ((kM 0 0 (by omega) (by omega) (by omega) (by omega)).trans t0))
    · rw [d3.1.sound, if_neg q, if_pos (show i3 0 = (0 : Int32) from rfl)] at eX0
      rw [if_neg (d3.2.n5 q)] at eM0
      obtain ⟨hRf, hSf⟩ := fault_end (xX := xX) (xM := xM) hR0 t0 (fun p i w => kX p i (by omega) (by omega) (by omega)) (fun p i w => kM p i (by omega) (by omega) (by omega) (by omega)) x11 y01 d3 q
      exact ⟨_, _, eX0, eM0, hRf, hSf⟩
  · have eX : fX_peninsula x1 gX = fX_peninsula_b20 x1 gX := by
      unfold fX_peninsula
      show (if x1 < i3 0 then _ else if gX 1 1 < x1 then _ else fX_peninsula_b21 x1 (i3 1) gX) = _
      rw [l2]
      rcases q3 with z | ⟨k, z1, z2, rfl⟩
      · rw [if_pos z]
      · rw [if_neg (i3_nlt z2 (by omega)), if_pos (i3_ylt z2 z1)]
    have eM : fM_peninsula x1 gM = fM_peninsula_b23 x1 (i3 1) g0 := by
      unfold fM_peninsula
      show (if fM_in x1 (i3 0) (gM 0 1) = i3 0 then fM_peninsula_b23 x1 (i3 1) (st gM 0 0 (i3 0)) else _) = _
      rw [l3', ← hg0, if_pos q1]
    refine ⟨(.inl 1, st gX 0 18 (gX 0 18 + i3 1)), (i3 0, st (st g0 0 0 (i3 1)) 2 1 (g0 2 1 + i3 1)), ?_, ?_, ref11 hR0 _⟩
    · rw [eX]
      unfold fX_peninsula_b20 fX_peninsula_b21
      show lt1 (fX_need (i3 0) gX) _ = _
      rw [needN]
      rfl
    · rw [eM]
      unfold fM_peninsula_b23
      show (fM_bad (i3 1) (i3 1) (i3 1) g0).bind _ = _
      rw [badN t0 (Or.inl rfl) (by omega)]
      rfl
