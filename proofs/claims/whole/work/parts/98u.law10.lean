/-! PURE: law: a law is read; the call -/
theorem Xt.any {e ft fp t t2 : Nat} {b : Nat → Nat} {g : St} (h : Xt e b ft fp t g) (q : ¬ ft = 0) (h2 : t2 ≤ e) : Xt e b ft fp t2 g := ⟨h.1, h.2.1, h.2.2.1, h2, fun z => absurd z q, h.2.2.2.2.2⟩
theorem Mt.any {e ft fp t t2 : Nat} {b : Nat → Nat} {g : St} (h : Mt e b ft fp t g) (q : ¬ ft = 0) (h2 : t2 ≤ e) : Mt e b ft fp t2 g := by
  obtain ⟨k1, k2, k3, k4, k5, k6⟩ := h
  exact ⟨k1, k2, k3, h2, by obtain ⟨c, c1, c2, c3⟩ := k5; exact ⟨c, c1, c2, fun z => absurd z q⟩, k6⟩
theorem L19_k {w : Int32} {k : Nat} {g : St} {s' : Int32 × Int32 × St} (h : fX_LawReader_readFrom_L19 5 (w, i3 k, g) = some (.inl s')) (hk : k < 1000000000) : k < 150 ∧ ∃ w' g', s' = (w', i3 (k + 1), g') := by
  replace h : (if i3 150 ≤ i3 k then some (Sum.inr (w, g)) else ((fX_Text_hasMore g).bind fun z => if z.1 = i3 0 then some (Sum.inr (w, z.2)) else if w = i3 0 then ((fX_LawReader_readSign 5 z.2).bind fun z2 => some (Sum.inl (z2.1, i3 k + i3 1, z2.2))) else ((fX_LawReader_readUnit 5 z.2).bind fun z2 => some (Sum.inl (z2.1, i3 k + i3 1, z2.2))))) = some (Sum.inl s') := h
  by_cases q : 150 ≤ k
  · rw [if_pos (i3_yle (by omega) q)] at h
    exact nomatch (Option.some.inj h)
  · rw [if_neg (i3_nle (by omega) (by omega)), i3_add] at h
    refine ⟨by omega, ?_⟩
    cases hz : fX_Text_hasMore g with
    | none =>
      rw [hz] at h
      exact nomatch h
    | some z =>
      rw [hz, ob_s] at h
      by_cases q1 : z.1 = i3 0
      · rw [if_pos q1] at h
        exact nomatch (Option.some.inj h)
      · rw [if_neg q1] at h
        by_cases q2 : w = i3 0
        · rw [if_pos q2] at h
          cases hy : fX_LawReader_readSign 5 z.2 with
          | none =>
            rw [hy] at h
            exact nomatch h
          | some y =>
            rw [hy, ob_s] at h
            exact ⟨_, _, (Sum.inl.inj (Option.some.inj h)).symm⟩
        · rw [if_neg q2] at h
          cases hy : fX_LawReader_readUnit 5 z.2 with
          | none =>
            rw [hy] at h
            exact nomatch h
          | some y =>
            rw [hy, ob_s] at h
            exact ⟨_, _, (Sum.inl.inj (Option.some.inj h)).symm⟩
theorem L19_stop : ∀ (d k m n : Nat) (w : Int32) (g : St) (r : Int32 × St), k ≤ 150 → 150 ≤ k + d → lp (fX_LawReader_readFrom_L19 5) m (w, i3 k, g) = some r → d < n → lp (fX_LawReader_readFrom_L19 5) n (w, i3 k, g) = some r
  | _, k, 0, n, w, g, r, _, _, h, _ => nomatch h
  | d, k, m + 1, 0, w, g, r, _, _, h, hn => by omega
  | d, k, m + 1, n + 1, w, g, r, h1, h2, h, hn => by
    cases e : fX_LawReader_readFrom_L19 5 (w, i3 k, g) with
    | none =>
      unfold lp at h
      rw [e] at h
      exact nomatch h
    | some y =>
      cases y with
      | inr y =>
        rw [lp_inr e] at h ⊢
        exact h
      | inl y =>
        obtain ⟨k1, w', g', rfl⟩ := L19_k e (by omega)
        rw [lp_inl e] at h ⊢
        rcases d with _ | d
        · omega
        · exact L19_stop d (k + 1) m n w' g' r (by omega) (by omega) h (by omega)
theorem Go.run {k : Nat} {w w' : Int32} {g g' : St} (h : Go 0 w g k w' g') {r : Int32 × St} (hr : ∀ m, lp (fX_LawReader_readFrom_L19 5) (m + 1) (w', i3 k, g') = some r) : lp (fX_LawReader_readFrom_L19 5) fuel (w, i3 0, g) = some r := by
  obtain ⟨j, _, e⟩ := h
  have h1 : lp (fX_LawReader_readFrom_L19 5) (0 + 1 + j) (w, i3 0, g) = some r := (e (0 + 1)).trans (hr 0)
  exact L19_stop 150 0 _ fuel w g r (by omega) (by omega) h1 (by rw [fuel_eq]; omega)
section RD
variable {e fp t : Nat} {b : Nat → Nat} {gX gM g : St}
def lawChk (g55 : St) : Option (Int32 × St) := if g55 0 5 = 0 then (if g55 0 2 ≤ g55 0 4 then fM_law_b85 g55 else lt1 (fM_wrong (1 : Int32) (g55 0 4) g55) fun g82 => fM_law_b85 g82) else fM_law_b85 g55
theorem law_read (he : e ≤ 150) (hT : TS e b 0 fp t gX gM) (hC : Lc [] [] 0 gX) (hN : LN [] 0 gM) : ∃ ft' fp' t' gX3 gM3, fX_LawReader_readFrom_b19 5 (i3 1) (i3 0) gX = some gX3 ∧ ((fM_sum 60 gM).bind fun g51 => (fM_blanks g51).bind fun g55 => lawChk g55) = fM_law_b85 gM3 ∧ TS e b ft' fp' t' gX3 gM3 ∧ LFX gX gX3 ∧ LFM gM gM3 ∧ (ft' = 0 → ∃ N, Lc N [] 0 gX3 ∧ LN N 0 gM3 ∧ wfd N 0 = some 1) := by
  have h600 := hT.1.c600
  have hte := hT.1.2.2.2.1
  have hL : Lw e b fp t 0 [] [] [] 0 0 gX gM gX gM := by
    obtain ⟨c, c1, c2⟩ := hT.1.2.2.2.2.1 rfl
    have := nb_le c2
    exact ⟨hT, hC, hN, LFX.rf, LFM.rf, rfl, ⟨c, c1, Nat.zero_le _, Nat.zero_le _, this.1⟩, Nat.zero_le _⟩
  obtain ⟨gM1, s1, s2⟩ := sum_ok e b fp t 0 [] [] 0 gX gM gX gM he hL (by decide)
  have hb19 : ∀ {w2 : Int32} {g2 g3 : St}, lp (fX_LawReader_readFrom_L19 5) fuel (i3 1, i3 0, gX) = some (w2, g2) → lawPost w2 g2 = some g3 → fX_LawReader_readFrom_b19 5 (i3 1) (i3 0) gX = some g3 := fun e1 e2 => by
    unfold fX_LawReader_readFrom_b19
    rw [e1, ob_s]
    exact e2
  rw [s1, ob_s]
  rcases s2 with ⟨ft, fp1, t1, k', w', gX', z0, z1, z2, z3, z4, w2, g2, g3, t2, z5, z6, z7, z8⟩ | ⟨k', gX', fp', t', C', N', q, x1, x2, x3, x4, x5, x6⟩
  · obtain ⟨gM2, y1, y2, y3, _⟩ := blanks_M z1
    refine ⟨ft, fp1, t2, g3, gM2, hb19 (z3.run z5) z6, ?_, ⟨z7, y2.any z0 z7.2.2.2.1⟩, z4.tr z8, z2.tr y3.l, fun z => absurd z z0⟩
    rw [y1, ob_s]
    unfold lawChk
    rw [if_neg (y2.n5 z0)]
  · have x2' := x2
    obtain ⟨hT', hC', hN', f0, f1, hd, ⟨c, c1, c2, c3, c4⟩, ho⟩ := x2'
    have hte' := hT'.1.2.2.2.1
    obtain ⟨gM2, y1, y2, y3, y4⟩ := blanks_M hT'.2
    have p4 := y4 rfl
    have p2 : gM2 0 2 = i3 e := y2.1.2.1
    rw [y1, ob_s]
    by_cases ht : t' < e
    · obtain ⟨gM3, j1, j2, j3⟩ := M_wrong (p := t') y2 (k := 1) (by omega) (by omega)
      obtain ⟨g3, d1, d2, d3, d4, d5, d6⟩ := close_step x2 he x5 x4 (by decide) ht (by have := x6 ht; omega)
      have h61 : g3 6 1 = i3 0 := d2.2.2.1
      have hbt := (hT'.1.1.2.2 t' (by omega)).1
      obtain ⟨g4, v1, v2, v3⟩ := b64_bad (x3 := i3 (b t')) (x5 := m1) d1 d4 (by rw [m1_eqi (by omega), m1_eqi (by omega)]; exact fun z => z.2.elim (fun y => y) (fun y => y)) (by rw [m1_eqi (by omega), m1_eqi (by omega)]; exact fun z => z.2.elim (fun y => y) (fun y => y)) (by rw [m1_eqi (by omega)]; exact fun z => z.2)
      rw [h61, if_pos (i3_yle (by omega) (Nat.le_refl 0)), v1, ob_s] at d6
      obtain ⟨w2, g5, g6, t2, u1, u2, u3, u4⟩ := fin_fault v2 (by omega) ((v3 6 1 (by omega)).trans h61) (by omega) (k' + 1) (i3 0)
      refine ⟨1, t', t2, g6, gM3, hb19 ((x1.tr (Go.one d6)).run u1) u2, ?_, ⟨u3, j2.any (by omega) u3.2.2.2.1⟩, (d3.tr (fun p i z1 z2 z3 z4 z5 => v3 p i (by omega))).tr u4, (f1.tr y3.l).tr (fun p i z1 z2 => j3 p i (by omega)), fun z => absurd z (by omega)⟩
      unfold lawChk
      rw [if_pos (show gM2 0 5 = 0 from y2.2.1), p2, p4, if_neg (i3_nle (by omega) ht)]
      show lt1 (fM_wrong (i3 1) (i3 t') gM2) _ = _
      rw [j1, lt1_e]
    · have hte2 : e = t' := by omega
      obtain ⟨g1, e1, h1, f2⟩ : ∃ g1, (∀ m, lp (fX_LawReader_readFrom_L19 5) (m + 1) (i3 0, i3 k', gX') = some (i3 0, g1)) ∧ Xt e b 0 fp' t' g1 ∧ FRX gX' g1 := by
        by_cases q1 : 150 ≤ k'
        · refine ⟨gX', fun m => lp_inr ?_, hT'.1, FRX.rf⟩
          unfold fX_LawReader_readFrom_L19
          exact if_pos (i3_yle (a := 150) (b := k') (by omega) q1)
        · obtain ⟨g1, a1, a2, a3, a4⟩ := more_X hT'.1
          rw [if_neg (fun z => by omega)] at a1
          refine ⟨g1, fun m => lp_inr ?_, a2, a3⟩
          unfold fX_LawReader_readFrom_L19
          show (if i3 150 ≤ i3 k' then _ else (fX_Text_hasMore gX').bind _) = _
          rw [if_neg (i3_nle (by omega) (by omega)), a1, ob_s]
          rfl
      have hC1 := hC'.frX f2
      obtain ⟨g3, d1, d2, d3⟩ := settle_ok (Nat.le_refl 1) (by omega) (w := []) (by decide) hC1 x5
      rw [← x4] at d2
      have hpost : lawPost (i3 0) g1 = some g3 := by
        unfold lawPost
        rw [if_pos (show i3 0 = (0 : Int32) from rfl), if_pos (show g1 6 2 ≤ 0 by rw [hC1.2.2.2.2.1]; decide)]
        unfold fX_LawReader_readFrom_b80
        show (fX_LawReader_settle 5 (i3 1) g1).bind _ = _
        rw [d1, ob_s]
      refine ⟨0, fp', t', g3, gM2, hb19 (x1.run e1) hpost, ?_, ⟨h1.frL d3, y2⟩, (f0.tr f2.l).tr d3.l, f1.tr y3.l, fun _ => ⟨N', d2, hN'.fr (fun p i z => y3 p i (by omega)) (by have := d2.2.2.2.2.2.2; omega), hd⟩⟩
      unfold lawChk
      rw [if_pos (show gM2 0 5 = 0 from y2.2.1), p2, p4, if_pos (i3_yle (by omega) (by omega))]
end RD
theorem R6.fr6 {n : Nat} {gX gM gX' gM' : St} (h : R6 n gX gM) (e : ∀ p i, (p = 35 ∨ (p = 8 ∧ i = 1)) → gX' p i = gX p i) (f : ∀ p i, ((362 ≤ p ∧ p < 370) ∨ (p = 0 ∧ i = 31)) → gM' p i = gM p i) : R6 n gX' gM' := by
  obtain ⟨l, A, V, B, l1, l2, l3, l4, l5⟩ := h
  refine ⟨l, A, V, B, l1, by rw [e 8 1 (by omega)]; exact l2, by rw [f 0 31 (by omega)]; exact l3, fun k hk => ?_, fun h0 p hp => ?_⟩
  · rw [f _ 0 (by omega), f _ 1 (by omega)]; exact l4 k hk
  · rw [e 35 p (by omega)]; exact l5 h0 p hp
theorem EC.law {W W' : (Nat → Nat) → Nat} {n N : Nat} {K F D U T : Nat → Nat} {Y : Nat} {g g' : St} (h : EC W n N K F D U T Y 10 g) (e : ∀ p i, (p = 2 ∨ p = 10 ∨ p = 17 ∨ p = 19 ∨ (37 ≤ p ∧ p ≤ 39)) → g' p i = g p i) (hl : LX W' g') (hw : ∀ f, W' f ≤ 99) : EC W' n N K F D U T Y 10 g' := by
  obtain ⟨hr, hS, hB, hC, hL, hW⟩ := h
  have E : ∀ p, (p = 2 ∨ p = 10 ∨ p = 17 ∨ p = 19 ∨ (37 ≤ p ∧ p ≤ 39)) → g' p = g p := fun p hp => funext fun i => e p i hp
  exact ⟨hr, hS.fr (E 10 (by omega)) (E _ (by omega)) (E _ (by omega)) (E _ (by omega)), hB, hC.fr (E 2 (by omega)) (E 17 (by omega)) (E 19 (by omega)), hl, hw⟩
theorem EMd.law {W W' : (Nat → Nat) → Nat} {n N : Nat} {K F D U T : Nat → Nat} {Y : Nat} {g g' : St} (h : EMd W n N K F D U T Y 16 g) (e : ∀ p i, (p = 4 ∨ p = 8 ∨ p = 16 ∨ (34 ≤ p ∧ p < 42)) → g' p i = g p i) (hl : LM W' g') (hw : ∀ f, W' f ≤ 99) : EMd W' n N K F D U T Y 16 g' := by
  obtain ⟨⟨hr, hS, hB, hC, hL, hW⟩, hd⟩ := h
  have E : ∀ p, (p = 4 ∨ p = 8 ∨ p = 16 ∨ (34 ≤ p ∧ p < 42)) → g' p = g p := fun p hp => funext fun i => e p i hp
  refine ⟨⟨hr, hS.fr (E 16 (by omega)), hB, hC.fr hB.1 (E 4 (by omega)) (E 8 (by omega)) (fun p hp => E _ (by omega)), hl, hw⟩, fun p hp => ?_⟩
  rw [E 16 (by omega)]
  exact hd p hp
theorem S_law : Sim_law R := by
  intro gX xX gM xM x1 hR
  obtain ⟨W, n, N, K, F, D, U, T, Y, d, hX, hM, hY, hW, h6, h7⟩ := id hR.2.2.2
  have h8 := hX.2.2.1.1
  have nX := hX.2.2.2.1.1
  obtain ⟨g0, hg0⟩ : ∃ g0, g0 = st gM 0 0 (i3 0) := ⟨_, rfl⟩
  have t0 : g0 0 0 = i3 0 := by rw [hg0, st_eq]
  have k0 : KM gM g0 := by rw [hg0]; exact KM.thrown
  have hR0 : R gX xX g0 xM := hR.fr KX.rf k0
  have hM0 : EMd W n N K F D U T Y 16 g0 := hM.frK k0
  have nM := hM0.1.2.2.2.1.1
  obtain ⟨len, b, l1, l2, l3, l4⟩ := hR0.1
  have l3' : gM 0 1 = i3 len := by rw [← l3, hg0, st_at, if_neg (by omega)]
  rcases txt_arg len 150 l1 (by omega) x1 with ⟨e, he, he2, rfl⟩ | ⟨q1, q2⟩
  · obtain ⟨t, gX1, gM1, b1, b2, b3, b4, b5, b6, b7, b8, b9, b10, b11⟩ := begin_both (gX := gX) (gM := g0) (e := e) (b := b) (by omega) l4
    obtain ⟨gX2, hX2⟩ : ∃ z, z = st (st (st gX1 6 1 (i3 0)) 6 2 (i3 0)) 5 3 (i3 0) := ⟨_, rfl⟩
    obtain ⟨gM2, hM2⟩ : ∃ z, z = st gM1 0 18 (i3 0) := ⟨_, rfl⟩
    have x2 : ∀ p i, ¬ p = 5 → ¬ p = 6 → gX2 p i = gX1 p i := fun p i z1 z2 => by rw [hX2, st_at, if_neg (by omega), st_at, if_neg (by omega), st_at, if_neg (by omega)]
    have m2 : ∀ p i, ¬ (p = 0 ∧ i = 18) → gM2 p i = gM1 p i := fun p i z => by rw [hM2, st_at, if_neg z]
    have hT2 : TS e b 0 0 t gX2 gM2 := b3.fr (fun i _ => x2 1 i (by omega) (by omega)) (fun i => x2 16 i (by omega) (by omega)) (fun i _ _ => m2 0 i (by omega)) (fun i => m2 1 i (by omega))
    have hC2 : Lc [] [] 0 gX2 := ⟨by rw [hX2, st_eq]; rfl, fun j hj => absurd hj (Nat.not_lt_zero j), by rw [hX2, st_at, if_neg (by omega), st_at, if_neg (by omega), st_eq]; rfl, fun j hj => absurd hj (Nat.not_lt_zero j), by rw [hX2, st_at, if_neg (by omega), st_eq], fun c hc => by simp at hc, Nat.zero_le _⟩
    have hN2 : LN [] 0 gM2 := ⟨by rw [hM2, st_eq]; rfl, fun j hj => absurd hj (Nat.not_lt_zero j), (m2 0 8 (by omega)).trans b9⟩
    obtain ⟨ft, fp, t', gX3, gM3, d1, d2, d3, d4, d5, d6⟩ := law_read he2 hT2 hC2 hN2
    have eX0 : fX_law (i3 e) gX = (if fX_Text_isSound gX3 = 0 then some (.inr (fX_Text_faultLessTen gX3), gX3) else ((fX_Law_take 4 5 gX3).bind fun g80 => some (.inr (1 : Int32), g80))) := by
      unfold fX_law
      show (if i3 e < i3 0 then _ else if gX 1 1 < i3 e then _ else if i3 150 < i3 e then _ else fX_law_b28 (i3 e) (i3 1) gX) = _
      rw [if_neg (i3_nlt (by omega) (by omega)), l2, if_neg (i3_nlt (by omega) he), if_neg (i3_nlt (by omega) he2)]
      unfold fX_law_b28
      rw [needY, lt1_e]
      show ((fX_LawReader_readFrom 5 (fX_Text_begin (i3 e) gX)).bind _) = _
      rw [b1]
      have e1 : fX_LawReader_readFrom 5 gX1 = fX_LawReader_readFrom_b19 5 (i3 1) (i3 0) gX2 := by rw [hX2]; rfl
      rw [e1, d1, ob_s]
    have eM0 : fM_law (i3 e) gM = fM_law_b85 gM3 := by
      unfold fM_law
      show (if fM_in (i3 e) (i3 0) (gM 0 1) = i3 0 then _ else if i3 e ≤ i3 150 then fM_law_b30 (i3 e) (i3 0) (st gM 0 0 (i3 0)) else _) = _
      rw [l3', inY (by omega) he (by omega), if_neg (by decide), if_pos (i3_yle (by omega) he2), ← hg0]
      unfold fM_law_b30
      show (fM_bad (i3 0) (i3 1) (i3 1) g0).bind _ = _
      rw [badY t0, ob_s]
      show (if i3 0 = i3 0 then (fM_starts (i3 e) g0).bind _ else _) = _
      rw [if_pos rfl, b2, ob_s, ← d2, hM2]
      rfl
    have kX : ∀ p i, ¬ p = 1 → ¬ p = 5 → ¬ p = 6 → ¬ p = 26 → ¬ p = 29 → gX3 p i = gX p i := fun p i z1 z2 z3 z4 z5 => (d4 p i (by omega) z2 z3 z4 z5).trans ((x2 p i z2 z3).trans (b7 p i (by omega)))
    have kM : ∀ p i, ¬ (p = 0 ∧ ((1 ≤ i ∧ i ≤ 8 ∧ ¬ i = 3) ∨ i = 18)) → ¬ (202 ≤ p ∧ p < 362) → gM3 p i = g0 p i := fun p i z1 z2 => (d5 p i (by omega) z2).trans ((m2 p i (by omega)).trans (b11 p i (by omega)))
    have x11 : gX3 1 1 = i3 0 := (d4 1 1 (by omega) (by omega) (by omega) (by omega) (by omega)).trans ((x2 1 1 (by omega) (by omega)).trans b5)
    have y01 : gM3 0 1 = i3 0 := (d5 0 1 (by omega) (by omega)).trans ((m2 0 1 (by omega)).trans b8)
    have eM1 : fM_law_b85 gM3 = if gM3 0 5 = 0 then ((fM_lays 10 9 (gM3 0 18) (st (st gM3 0 3 m1) 0 17 (gM3 0 18))).bind fun g122 => some (i3 1, g122)) else some ((fM_ends gM3).1, (fM_ends gM3).2) := by
      unfold fM_law_b85
      rfl
    rw [eM1] at eM0
    by_cases q : ft = 0
    · subst q
      obtain ⟨L, hL, hN, hd⟩ := d6 rfl
      have x6 := d3.1.2.1
      have y5 := d3.2.2.1
      have x7 : gX3 1 7 = m1 := d3.1.2.2.2.2.2
      obtain ⟨u1, u2, u3, u4, u5, u6, u7⟩ := hL
      have hl : L.length ≤ 150 := by omega
      have s1 : fX_Text_isSound gX3 = i3 1 := by
        unfold fX_Text_isSound
        rw [if_pos (show gX3 1 6 = 0 from x6)]
        rfl
      rw [s1, if_neg (by decide)] at eX0
      rw [if_pos (show gM3 0 5 = 0 from y5), hN.1, M_lays (a := 202) (b := 42) rfl rfl (by show L.length ≤ 160; omega) (by show L.length ≤ 160; omega) (fun k hk => (ln42 k (by omega)).2) (fun k hk => (ln42 k (by omega)).1) (by omega) (by omega), ob_s] at eM0
      have c5 := X_copy (a := 26) (b := 23) (s := 0) (p := 0) (m := L.length) (ln150 (by omega)) (ln150 (by omega)) (by omega) (by omega) (by omega) (by omega) (by omega) (st gX3 4 3 (i3 L.length))
      have eX1 : fX_Law_take 4 5 gX3 = some (cpS (st gX3 4 3 (i3 L.length)) 26 0 23 0 L.length) := by
        unfold fX_Law_take
        show (fX_Rows_copy 26 (i3 0) 23 (i3 0) ((st gX3 4 3 (gX3 5 3)) 5 3) (st gX3 4 3 (gX3 5 3))).bind _ = _
        rw [u1, show (st gX3 4 3 (i3 L.length)) 5 3 = i3 L.length by rw [st_at, if_neg (by omega)]; exact u1, c5, ob_s]
      rw [eX1, ob_s] at eX0
      obtain ⟨gX4, hX4⟩ : ∃ z, z = cpS (st gX3 4 3 (i3 L.length)) 26 0 23 0 L.length := ⟨_, rfl⟩
      obtain ⟨gM4, hM4⟩ : ∃ z, z = layS (st (st gM3 0 3 m1) 0 17 (i3 L.length)) 202 42 L.length := ⟨_, rfl⟩
      rw [← hX4] at eX0
      rw [← hM4] at eM0
      have k1 : ∀ p i, ¬ p = 23 → ¬ (p = 4 ∧ i = 3) → gX4 p i = gX3 p i := fun p i w1 w2 => by
        rw [hX4, cpS_ne w1, st_at, if_neg w2]
      have k2 : ∀ p, p < L.length → gX4 23 p = i3 (L.getD p 0) := fun p hp => by
        rw [hX4]
        have := cpS_in (g := st gX3 4 3 (i3 L.length)) (a := 26) (s := 0) (b := 23) (p := 0) (m := L.length) hp
        rw [Nat.zero_add] at this
        rw [this, st_at, if_neg (by omega)]
        exact u2 p hp
      have k3 : gX4 4 3 = i3 L.length := by rw [hX4, cpS_ne (by omega), st_eq]
      have j1 : ∀ p i, ¬ (42 ≤ p ∧ p < 202) → ¬ (p = 0 ∧ i = 3) → ¬ (p = 0 ∧ i = 17) → gM4 p i = gM3 p i := fun p i w1 w2 w3 => by
        rw [hM4, layS_out (by omega), st_at, if_neg w3, st_at, if_neg w2]
      have j2 : ∀ k i, k < L.length → i < 2 → gM4 (42 + k) i = gM3 (202 + k) i := fun k i hk hi => by
        rw [hM4, layS_in hk hi, st_at, if_neg (by omega), st_at, if_neg (by omega)]
      have j3 : gM4 0 17 = i3 L.length := by rw [hM4, layS_out (by omega), st_eq]
      have j4 : gM4 0 3 = m1 := by rw [hM4, layS_out (by omega), st_at, if_neg (by omega), st_eq]
      have hR5 : R5 gX4 gM4 := by
        refine ⟨lawW L, n, N, K, F, D, U, T, Y, d, hX.law (fun p i a => (k1 p i (by omega) (by omega)).trans (kX p i (by omega) (by omega) (by omega) (by omega) (by omega))) (LX_of hl hd k3 k2) (fun f => clp_le _), hM0.law (fun p i a => (j1 p i (by omega) (by omega) (by omega)).trans (kM p i (by omega) (by omega))) (LM_of hl hd j3 (fun k hk => by rw [j2 k 0 hk (by omega), j2 k 1 hk (by omega)]; exact hN.2.1 k hk)) (fun f => clp_le _), hY, hW, (h6.fr KX.rf k0).fr6 (fun p i a => (k1 p i (by omega) (by omega)).trans (kX p i (by omega) (by omega) (by omega) (by omega) (by omega))) (fun p i a => (j1 p i (by omega) (by omega) (by omega)).trans (kM p i (by omega) (by omega))), (h7.fr KX.rf k0).fr6 (fun p i a => (k1 p i (by omega) (by omega)).trans (kX p i (by omega) (by omega) (by omega) (by omega) (by omega))) (fun p i a => (j1 p i (by omega) (by omega) (by omega)).trans (kM p i (by omega) (by omega)))⟩
      refine ⟨(.inr (1 : Int32), gX4), (i3 1, gM4), eX0, eM0, R_fin hR0 (fun i => (k1 16 i (by omega) (by omega)).trans (kX 16 i (by omega) (by omega) (by omega) (by omega) (by omega))) (fun i => (j1 1 i (by omega) (by omega) (by omega)).trans (kM 1 i (by omega) (by omega))) ((k1 1 1 (by omega) (by omega)).trans x11) ((j1 0 1 (by omega) (by omega) (by omega)).trans y01) ?_ ((k1 0 17 (by omega) (by omega)).trans (kX 0 17 (by omega) (by omega) (by omega) (by omega) (by omega))) ((k1 0 18 (by omega) (by omega)).trans (kX 0 18 (by omega) (by omega) (by omega) (by omega) (by omega))) (fun i => (j1 2 i (by omega) (by omega) (by omega)).trans (kM 2 i (by omega) (by omega))) ?_ hR5, ?_⟩
      · show gX4 1 7 = gM4 0 3
        rw [j4, k1 1 7 (by omega) (by omega)]
        exact x7
      · show gX4 0 16 = gM4 0 33
        rw [k1 0 16 (by omega) (by omega), kX 0 16 (by omega) (by omega) (by omega) (by omega) (by omega), j1 0 33 (by omega) (by omega) (by omega), kM 0 33 (by omega) (by omega)]
        exact hR0.2.2.1
      · exact okR ((j1 0 0 (by omega) (by omega) (by omega)).trans ((kM 0 0 (by omega) (by omega)).trans t0))
    · have s1 : fX_Text_isSound gX3 = i3 0 := by
        unfold fX_Text_isSound
        rw [if_neg (d3.1.n6 q)]
        rfl
      rw [s1, if_pos (show i3 0 = (0 : Int32) from rfl)] at eX0
      rw [if_neg (d3.2.n5 q)] at eM0
      obtain ⟨hRf, hSf⟩ := fault_end (xX := xX) (xM := xM) hR0 t0 (fun p i w => kX p i (by omega) (by omega) (by omega) (by omega) (by omega)) (fun p i w => kM p i (by omega) (by omega)) x11 y01 d3 q
      exact ⟨_, _, eX0, eM0, hRf, hSf⟩
  · have eX : fX_law x1 gX = fX_law_b27 x1 gX := by
      unfold fX_law
      show (if x1 < i3 0 then _ else if gX 1 1 < x1 then _ else if i3 150 < x1 then _ else fX_law_b28 x1 (i3 1) gX) = _
      rw [l2]
      by_cases w1 : x1 < i3 0
      · rw [if_pos w1]
      · rw [if_neg w1]
        by_cases w2 : i3 len < x1
        · rw [if_pos w2]
        · rw [if_neg w2, if_pos (by rcases q1 with z | z | z; exact absurd z w1; exact absurd z w2; exact z)]
    have eM : fM_law x1 gM = fM_law_b25 x1 g0 := by
      unfold fM_law
      show (if fM_in x1 (i3 0) (gM 0 1) = i3 0 then fM_law_b25 x1 (st gM 0 0 (i3 0)) else if x1 ≤ i3 150 then _ else fM_law_b25 x1 (st gM 0 0 (i3 0))) = _
      rw [l3', ← hg0]
      rcases q2 with z | ⟨z1, z2⟩
      · rw [if_pos z]
      · rw [z1, if_neg (by decide), if_neg z2]
    refine ⟨(.inl 1, st gX 0 18 (gX 0 18 + i3 1)), (i3 0, st (st g0 0 0 (i3 1)) 2 1 (g0 2 1 + i3 1)), ?_, ?_, ref11 hR0 _⟩
    · rw [eX]
      unfold fX_law_b27 fX_law_b28
      show lt1 (fX_need (i3 0) gX) _ = _
      rw [needN]
      rfl
    · rw [eM]
      unfold fM_law_b25 fM_law_b30
      show (fM_bad (i3 1) (i3 1) (i3 1) g0).bind _ = _
      rw [badN t0 (Or.inl rfl) (by omega)]
      rfl
