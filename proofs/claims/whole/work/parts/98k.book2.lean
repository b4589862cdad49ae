/-! PURE: a text that ends in a fault; a book -/
def KXt (g g' : St) : Prop := ∀ p i, (p = 2 ∨ p = 10 ∨ p = 12 ∨ p = 16 ∨ p = 17 ∨ p = 19 ∨ p = 23 ∨ p = 35 ∨ (37 ≤ p ∧ p ≤ 39) ∨ p = 43 ∨ p = 44 ∨ (p = 0 ∧ 16 ≤ i ∧ i ≤ 18) ∨ (p = 4 ∧ i = 3) ∨ (p = 8 ∧ i = 1)) → g' p i = g p i
def KMt (g g' : St) : Prop := ∀ p i, (p = 1 ∨ p = 2 ∨ p = 4 ∨ p = 8 ∨ p = 16 ∨ (34 ≤ p ∧ p < 202) ∨ (362 ≤ p ∧ p < 370) ∨ (458 ≤ p ∧ p < 477) ∨ (p = 0 ∧ (i = 0 ∨ i = 17 ∨ (31 ≤ i ∧ i ≤ 34)))) → g' p i = g p i
theorem KXt.k6 {g g' : St} (h : KXt g g') : KX6 g g' := fun p i a => h p i (by omega)
theorem KMt.k6 {g g' : St} (h : KMt g g') : KM6 g g' := fun p i a => h p i (by omega)
theorem R5.frt {gX gM gX' gM' : St} (h : R5 gX gM) (e : KXt gX gX') (f : KMt gM gM') : R5 gX' gM' := by
  obtain ⟨W, n, N, K, F, D, U, T, Y, d, hX, hM, hY, hW, h6, h7⟩ := h
  refine ⟨W, n, N, K, F, D, U, T, Y, d, hX.fr6 e.k6, hM.fr6 f.k6, hY, hW, ?_, h7.fr6 (fun p i a => e p i (by omega)) (fun p i a => f p i (by omega))⟩
  obtain ⟨l, A, V, B, l1, l2, l3, l4, l5⟩ := h6
  refine ⟨l, A, V, B, l1, by rw [e 8 1 (by omega)]; exact l2, by rw [f 0 31 (by omega)]; exact l3, fun k hk => ?_, fun h0 p hp => ?_⟩
  · rw [f _ 0 (by omega), f _ 1 (by omega)]; exact l4 k hk
  · rw [e 35 p (by omega)]; exact l5 h0 p hp
theorem fault_end {e ft fp t : Nat} {b : Nat → Nat} {gX g0 gX' gM' : St} {xX xM : Sl} (hR0 : R gX xX g0 xM) (t0 : g0 0 0 = i3 0) (e1 : KXt gX gX') (f1 : KMt g0 gM') (a3 : gX' 1 1 = i3 0) (a4 : gM' 0 1 = i3 0) (hT : TS e b ft fp t gX' gM') (q : ¬ ft = 0) : R gX' xX (fM_ends gM').2 xM ∧ simR 1 (.inr (fX_Text_faultLessTen gX') : Nat ⊕ Int32) (fM_ends gM').1 ((fM_ends gM').2 0 0) := by
  obtain ⟨⟨x1, x2, x3, x4, x5, x6⟩, y1, y2, y3, y4, y5, y6⟩ := hT
  rw [if_neg q] at x6
  have f2 : ∀ p i, ¬ (p = 0 ∧ i = 3) → (fM_ends gM').2 p i = gM' p i := fun p i w => by
    show (st gM' 0 3 (gM' 0 6)) p i = _
    rw [st_at, if_neg w]
  have f3 : KMt g0 (fM_ends gM').2 := fun p i w => (f2 p i (by omega)).trans (f1 p i w)
  refine ⟨R_fin hR0 (fun i => e1 16 i (by omega)) (fun i => f3 1 i (by omega)) a3 ((f2 0 1 (by omega)).trans a4) ?_ (e1 0 17 (by omega)) (e1 0 18 (by omega)) (fun i => f3 2 i (by omega)) ?_ (hR0.2.2.2.frt e1 f3), ?_⟩
  · show _ = (st gM' 0 3 (gM' 0 6)) 0 3
    rw [st_eq, x6, y6 q]
  · rw [e1 0 16 (by omega), f3 0 33 (by omega)]
    exact hR0.2.2.1
  · have e9 : fX_Text_faultLessTen gX' = (fM_ends gM').1 := by
      show gX' 1 6 - _ = gM' 0 5 - _
      rw [x2, y2]
    rw [e9]
    exact okR ((f3 0 0 (by omega)).trans t0)
theorem X_clear {th row : Nat} (hr : rX th 0 = row) (hne : ¬ th = row) (g : St) : ∃ g', fX_Book_clear th g = some g' ∧ g' th 1 = i3 0 ∧ (∀ p, p < 8 → g' row p = m1) ∧ ∀ p i, ¬ (p = th ∧ i = 1) → ¬ p = row → g' p i = g p i := by
  obtain ⟨g1, h1⟩ : ∃ z, z = st g th 1 (i3 0) := ⟨_, rfl⟩
  obtain ⟨g', e, k1, k2⟩ : ∃ g', lp (fX_Book_clear_L7 th) fuel (i3 0, g1) = some g' ∧ (∀ p, p < 8 → g' row p = m1) ∧ ∀ p i, ¬ p = row → g' p i = g1 p i := by
    refine lp_all (fun k z => ∃ s : St, z = (i3 k, s) ∧ (∀ p, p < k → s row p = m1) ∧ ∀ p i, ¬ p = row → s p i = g1 p i) (fun g' : St => (∀ p, p < 8 → g' row p = m1) ∧ ∀ p i, ¬ p = row → g' p i = g1 p i) 8 (by omega) ?_ ?_ ⟨g1, rfl, fun p hp => by omega, fun _ _ _ => rfl⟩
    · rintro k z hk ⟨s, rfl, s1, s2⟩
      refine ⟨(i3 (k + 1), st s row k m1), ?_, _, rfl, fun p hp => ?_, fun p i w => by rw [st_at, if_neg (by omega)]; exact s2 p i w⟩
      · unfold fX_Book_clear_L7
        show (if i3 8 ≤ i3 k then _ else _) = _
        rw [if_neg (i3_nle (by omega) hk), if_pos (i3_in (by omega) hk), i3_nat (by omega), hr]
        show some (Sum.inl (i3 k + i3 1, _)) = _
        rw [i3_add]
        rfl
      · rw [st_at]
        by_cases w : p = k
        · rw [if_pos ⟨rfl, w⟩]
        · rw [if_neg (by omega)]
          exact s1 p (by omega)
    · rintro z ⟨s, rfl, s1, s2⟩
      refine ⟨s, ?_, s1, s2⟩
      unfold fX_Book_clear_L7
      show (if i3 8 ≤ i3 8 then _ else _) = _
      rw [if_pos (i3_yle (by omega) (Nat.le_refl _))]
  refine ⟨g', ?_, ?_, k1, fun p i w1 w2 => ?_⟩
  · unfold fX_Book_clear fX_Book_clear_b7
    show (lp (fX_Book_clear_L7 th) fuel (i3 0, st g th 1 (i3 0))).bind _ = _
    rw [← h1, e, ob_s]
  · rw [k2 th 1 hne, h1, st_eq]
  · rw [k2 p i w2, h1, st_at, if_neg w1]
/-- who asks for more than there is -/
theorem txt_arg (len cap : Nat) (h1 : len ≤ 600) (h2 : cap ≤ 600) (x : Int32) : (∃ k, k ≤ len ∧ k ≤ cap ∧ x = i3 k) ∨ ((x < i3 0 ∨ i3 len < x ∨ i3 cap < x) ∧ (fM_in x (i3 0) (i3 len) = i3 0 ∨ (fM_in x (i3 0) (i3 len) = i3 1 ∧ ¬ x ≤ i3 cap))) := by
  rcases rg len (by omega) x with ⟨k, hk, rfl⟩ | ⟨q1, _, q3⟩
  · by_cases q : k ≤ cap
    · exact Or.inl ⟨k, hk, q, rfl⟩
    · exact Or.inr ⟨Or.inr (Or.inr (i3_ylt (by omega) (by omega))), Or.inr ⟨inY (by omega) hk (by omega), i3_nle (by omega) (by omega)⟩⟩
  · refine Or.inr ⟨?_, Or.inl q1⟩
    rcases q3 with q3 | ⟨k, hk, hk2, rfl⟩
    · exact Or.inl q3
    · exact Or.inr (Or.inl (i3_ylt (by omega) hk))
theorem S_book : Sim_book R := by
  intro gX xX gM xM x1 hR
  obtain ⟨W, n, N, K, F, D, U, T, Y, d, hX, hM, hY, hW, h6, h7⟩ := id hR.2.2.2
  have h8 := hX.2.2.1.1
  have nX := hX.2.2.2.1.1
  obtain ⟨g0, hg0⟩ : ∃ g0, g0 = st gM 0 0 (i3 0) := ⟨_, rfl⟩
  have t0 : g0 0 0 = i3 0 := by rw [hg0, st_eq]
  have k0 : KM gM g0 := by rw [hg0]; exact KM.thrown
  have hR0 : R gX xX g0 xM := hR.fr KX.rf k0
  have hM0 : EMd W n N K F D U T Y 16 g0 := hM.frK k0
  have nM := hM0.1.2.2.2.1.1
  obtain ⟨len, b, l1, l2, l3, l4⟩ := hR0.1
  have l3' : gM 0 1 = i3 len := by rw [← l3, hg0, st_at, if_neg (by omega)]
  rcases txt_arg len 60 l1 (by omega) x1 with ⟨e, he, he2, rfl⟩ | ⟨q1, q2⟩
  · obtain ⟨t, gX1, gM1, b1, b2, b3, b4, b5, b6, b7, b8, b9, b10, b11⟩ := begin_both (gX := gX) (gM := g0) (e := e) (b := b) (by omega) l4
    obtain ⟨gX2, c1, c2, c3, c4⟩ := X_clear rB90 (by omega) gX1
    have hT2 : TS e b 0 0 t gX2 gM1 := b3.fr (fun i _ => c4 1 i (by omega) (by omega)) (fun i => c4 16 i (by omega) (by omega)) (fun _ _ _ => rfl) (fun _ => rfl)
    have hB0 : BK n 0 0 (fun _ => 0) (fun _ => 0) (fun _ => 0) gX2 gM1 := by
      refine ⟨by rfl, fun j hj => by omega, fun p hp => ⟨c3 p hp, fun z => absurd rfl z, Nat.zero_le _⟩, c2, by omega, fun p hp => by simp⟩
    have n1 : gM1 4 0 = i3 n := (b11 4 0 (by omega)).trans nM
    have n2 : gX1 2 0 = i3 n := (b7 2 0 (by omega)).trans nX
    have h600 := hT2.1.c600
    obtain ⟨gX3, r', d1, d2, ft, fp, t', d3, d4, d5, d6⟩ := lp_bothF (BI e n b gX2 gM1) (BE e n b gX2 gM1) (book_step h8 n1) (k := e - t + 1) (s := (i3 0, gX2)) (s' := (i3 0, i3 0, gM1)) ⟨0, 0, t, hT2, BFX.rf, BFM.rf, fun _ => ⟨rfl, b4, 0, 0, _, _, _, hB0, rfl, rfl, rfl⟩⟩ (by omega)
    obtain ⟨lr, gM3⟩ := r'
    dsimp only at d3 d5 d6
    have eX0 : fX_book (i3 e) gX = (if fX_Text_isSound gX3 = 0 then some (.inr (fX_Text_faultLessTen gX3), gX3) else ((fX_Book_take 8 9 gX3).bind fun g82 => some (.inr (g82 8 1), g82))) := by
      unfold fX_book
      show (if i3 e < i3 0 then _ else if gX 1 1 < i3 e then _ else if i3 60 < i3 e then _ else fX_book_b27 (i3 e) (i3 1) gX) = _
      rw [if_neg (i3_nlt (by omega) (by omega)), l2, if_neg (i3_nlt (by omega) he), if_neg (i3_nlt (by omega) he2)]
      unfold fX_book_b27
      rw [needY, lt1_e]
      show ((fX_Book_readFrom 9 ((fX_Text_begin (i3 e) gX) 2 0) (fX_Text_begin (i3 e) gX)).bind _) = _
      rw [b1, n2]
      unfold fX_Book_readFrom fX_Book_readFrom_b6
      rw [c1, ob_s]
      show (Option.bind ((lp (fX_Book_readFrom_L6 9 (i3 n)) fuel (i3 0, gX2)).bind _) _) = _
      rw [d1, ob_s, ob_s]
    have eM0 : fM_book (i3 e) gM = if gM3 0 5 = 0 then ((fM_lays 12 11 lr (st (st gM3 0 3 m1) 0 31 lr)).bind fun g204 => some (lr, g204)) else some ((fM_ends gM3).1, (fM_ends gM3).2) := by
      unfold fM_book
      show (if fM_in (i3 e) (i3 0) (gM 0 1) = i3 0 then _ else if i3 e ≤ i3 60 then fM_book_b29 (i3 e) (i3 0) (st gM 0 0 (i3 0)) else _) = _
      rw [l3', inY (by omega) he (by omega), if_neg (by decide), if_pos (i3_yle (by omega) he2), ← hg0]
      unfold fM_book_b29
      show (fM_bad (i3 0) (i3 1) (i3 1) g0).bind _ = _
      rw [badY t0, ob_s]
      show (if i3 0 = i3 0 then (fM_starts (i3 e) g0).bind _ else _) = _
      rw [if_pos rfl, b2, ob_s]
      unfold fM_book_b48
      show (lp fM_book_L48 fuel (i3 0, i3 0, gM1)).bind _ = _
      rw [d2, ob_s]
      rfl
    have kX : ∀ p i, ¬ p = 1 → ¬ (p = 9 ∧ i = 1) → ¬ p = 36 → gX3 p i = gX p i := fun p i z1 z2 z3 => (d4 p i (by omega) z2 z3).trans ((c4 p i z2 z3).trans (b7 p i (by omega)))
    have kM : ∀ p i, ¬ (p = 0 ∧ 1 ≤ i ∧ i ≤ 8 ∧ ¬ i = 3) → ¬ (370 ≤ p ∧ p < 378) → gM3 p i = g0 p i := fun p i z1 z2 => (d5 p i (by omega) z2).trans (b11 p i z1)
    have x11 : gX3 1 1 = i3 0 := (d4 1 1 (by omega) (by omega) (by omega)).trans ((c4 1 1 (by omega) (by omega)).trans b5)
    have y01 : gM3 0 1 = i3 0 := (d5 0 1 (by omega) (by omega)).trans b8
    by_cases q : ft = 0
    · subst q
      obtain ⟨l, m, A, V, B, hB, hl⟩ := d6 rfl
      subst hl
      have hl8 := hB.le
      have x6 := d3.1.2.1
      have y5 := d3.2.2.1
      have x7 : gX3 1 7 = m1 := d3.1.2.2.2.2.2
      obtain ⟨z1, z2, z3, z4, z5⟩ := hB
      have s1 : fX_Text_isSound gX3 = i3 1 := by
        unfold fX_Text_isSound
        rw [if_pos (show gX3 1 6 = 0 from x6)]
        rfl
      rw [s1, if_neg (by decide)] at eX0
      rw [if_pos (show gM3 0 5 = 0 from y5), M_lays (a := 370) (b := 362) rfl rfl (by show l ≤ 8; exact hl8) (by show l ≤ 8; exact hl8) (fun k hk => (ln26 k (by omega)).2.2.2) (fun k hk => (ln26 k (by omega)).2.2.1) (by omega) (by omega), ob_s] at eM0
      have c5 := X_copy (a := 36) (b := 35) (s := 0) (p := 0) (m := 8) (ln8 (by omega)) (ln8 (by omega)) (by omega) (by omega) (by omega) (by omega) (by omega) (st gX3 8 1 (gX3 9 1))
      have eX1 : fX_Book_take 8 9 gX3 = some (cpS (st gX3 8 1 (gX3 9 1)) 36 0 35 0 8) := by
        unfold fX_Book_take
        show (fX_Rows_copy 36 (i3 0) 35 (i3 0) (i3 8) _).bind _ = _
        rw [c5, ob_s]
      rw [eX1, ob_s, z4] at eX0
      obtain ⟨gX4, hX4⟩ : ∃ z, z = cpS (st gX3 8 1 (i3 l)) 36 0 35 0 8 := ⟨_, rfl⟩
      obtain ⟨gM4, hM4⟩ : ∃ z, z = layS (st (st gM3 0 3 m1) 0 31 (i3 l)) 370 362 l := ⟨_, rfl⟩
      rw [← hX4] at eX0
      rw [← hM4] at eM0
      have k1 : ∀ p i, ¬ p = 35 → ¬ (p = 8 ∧ i = 1) → gX4 p i = gX3 p i := fun p i w1 w2 => by
        rw [hX4, cpS_ne w1, st_at, if_neg w2]
      have k2 : ∀ p, p < 8 → gX4 35 p = gX3 36 p := fun p hp => by
        rw [hX4]
        have := cpS_in (g := st gX3 8 1 (i3 l)) (a := 36) (s := 0) (b := 35) (p := 0) (m := 8) hp
        rw [Nat.zero_add] at this
        rw [this, st_at, if_neg (by omega)]
      have k3 : gX4 8 1 = i3 l := by rw [hX4, cpS_ne (by omega), st_eq]
      have j1 : ∀ p i, ¬ (362 ≤ p ∧ p < 370) → ¬ (p = 0 ∧ i = 3) → ¬ (p = 0 ∧ i = 31) → gM4 p i = gM3 p i := fun p i w1 w2 w3 => by
        rw [hM4, layS_out (by omega), st_at, if_neg w3, st_at, if_neg w2]
      have j2 : ∀ k i, k < l → i < 2 → gM4 (362 + k) i = gM3 (370 + k) i := fun k i hk hi => by
        rw [hM4, layS_in hk hi, st_at, if_neg (by omega), st_at, if_neg (by omega)]
      have j3 : gM4 0 31 = i3 l := by rw [hM4, layS_out (by omega), st_eq]
      have j4 : gM4 0 3 = m1 := by rw [hM4, layS_out (by omega), st_at, if_neg (by omega), st_eq]
      have fX : KX6 gX gX4 := fun p i w => (k1 p i (by omega) (by omega)).trans (kX p i (by omega) (by omega) (by omega))
      have fM : KM6 g0 gM4 := fun p i w => (j1 p i (by omega) (by omega) (by omega)).trans (kM p i (by omega) (by omega))
      have hR5 : R5 gX4 gM4 := by
        refine ⟨W, n, N, K, F, D, U, T, Y, d, hX.fr6 fX, hM0.fr6 fM, hY, hW, ?_, (h7.fr KX.rf k0).fr6 (fun p i a => fX p i (by omega)) (fun p i a => fM p i (by omega))⟩
        refine ⟨l, A, V, B, hl8, k3, j3, fun k hk => ?_, fun h0 p hp => ?_⟩
        · rw [j2 k 0 hk (by omega), j2 k 1 hk (by omega)]; exact z2 k hk
        · rw [k2 p hp]; exact z3 p hp
      refine ⟨(.inr (gX4 8 1), gX4), (i3 l, gM4), eX0, eM0, R_fin hR0 (fun i => (k1 16 i (by omega) (by omega)).trans (kX 16 i (by omega) (by omega) (by omega))) (fun i => (j1 1 i (by omega) (by omega) (by omega)).trans (kM 1 i (by omega) (by omega))) ((k1 1 1 (by omega) (by omega)).trans x11) ((j1 0 1 (by omega) (by omega) (by omega)).trans y01) ?_ ((k1 0 17 (by omega) (by omega)).trans (kX 0 17 (by omega) (by omega) (by omega))) ((k1 0 18 (by omega) (by omega)).trans (kX 0 18 (by omega) (by omega) (by omega))) (fun i => (j1 2 i (by omega) (by omega) (by omega)).trans (kM 2 i (by omega) (by omega))) ?_ hR5, ?_⟩
      · show gX4 1 7 = gM4 0 3
        rw [j4, k1 1 7 (by omega) (by omega)]
        exact x7
      · show gX4 0 16 = gM4 0 33
        rw [k1 0 16 (by omega) (by omega), kX 0 16 (by omega) (by omega) (by omega), j1 0 33 (by omega) (by omega) (by omega), kM 0 33 (by omega) (by omega)]
        exact hR0.2.2.1
      · show simR 1 (.inr (gX4 8 1) : Nat ⊕ Int32) (i3 l) (gM4 0 0)
        rw [k3]
        exact okR ((j1 0 0 (by omega) (by omega) (by omega)).trans ((kM 0 0 (by omega) (by omega)).trans t0))
    · have s1 : fX_Text_isSound gX3 = i3 0 := by
        have h9 := d3.1.2.2.1
        unfold fX_Text_isSound
        rw [if_neg]
        · rfl
        · rw [d3.1.2.1, show (0 : Int32) = i3 0 from rfl, i3_eq (by omega) (by omega)]
          exact q
      have h9 := d3.1.2.2.1
      rw [s1, if_pos (show i3 0 = (0 : Int32) from rfl)] at eX0
      rw [if_neg (show ¬ gM3 0 5 = 0 by rw [d3.2.2.1, show (0 : Int32) = i3 0 from rfl, i3_eq (by omega) (by omega)]; exact q)] at eM0
      obtain ⟨hRf, hSf⟩ := fault_end (xX := xX) (xM := xM) hR0 t0 (fun p i w => kX p i (by omega) (by omega) (by omega)) (fun p i w => kM p i (by omega) (by omega)) x11 y01 d3 q
      exact ⟨_, _, eX0, eM0, hRf, hSf⟩
  · have eX : fX_book x1 gX = fX_book_b26 x1 gX := by
      unfold fX_book
      show (if x1 < i3 0 then _ else if gX 1 1 < x1 then _ else if i3 60 < x1 then _ else fX_book_b27 x1 (i3 1) gX) = _
      rw [l2]
      by_cases w1 : x1 < i3 0
      · rw [if_pos w1]
      · rw [if_neg w1]
        by_cases w2 : i3 len < x1
        · rw [if_pos w2]
        · rw [if_neg w2, if_pos (by rcases q1 with z | z | z; exact absurd z w1; exact absurd z w2; exact z)]
    have eM : fM_book x1 gM = fM_book_b24 x1 g0 := by
      unfold fM_book
      show (if fM_in x1 (i3 0) (gM 0 1) = i3 0 then fM_book_b24 x1 (st gM 0 0 (i3 0)) else if x1 ≤ i3 60 then _ else fM_book_b24 x1 (st gM 0 0 (i3 0))) = _
      rw [l3', ← hg0]
      rcases q2 with z | ⟨z1, z2⟩
      · rw [if_pos z]
      · rw [z1, if_neg (by decide), if_neg z2]
    refine ⟨(.inl 1, st gX 0 18 (gX 0 18 + i3 1)), (i3 0, st (st g0 0 0 (i3 1)) 2 1 (g0 2 1 + i3 1)), ?_, ?_, ref11 hR0 _⟩
    · rw [eX]
      unfold fX_book_b26 fX_book_b27
      show lt1 (fX_need (i3 0) gX) _ = _
      rw [needN]
      rfl
    · rw [eM]
      unfold fM_book_b24 fM_book_b29
      show (fM_bad (i3 1) (i3 1) (i3 1) g0).bind _ = _
      rw [badN t0 (Or.inl rfl) (by omega)]
      rfl
