/-! PURE: peninsula: a clause, the loop over the clauses -/
section PM
variable {e ft fp t t' m n N c : Nat} {b K F D : Nat → Nat} {gX gM gX' gM' g : St}
theorem M_kind (h : Mt e b 0 fp t g) (rr : RUN (ltr b) e t m) : ∃ g', fM_kindHere g = some ((if isW b t m (wd 0) then i3 0 else if isW b t m (wd 1) then i3 1 else if isW b t m (wd 2) then i3 2 else m1), g') ∧ Mt e b 0 fp t g' ∧ FRM g g' ∧ g' 0 4 = i3 t := by
  obtain ⟨g1, a1, a2, a3, a4⟩ := M_isWord (x := 0) (by omega) h rr (x1 := 16) (x2 := 5) (x3 := 18) (x4 := 19) (x5 := 15) (x6 := 14) (by decide +kernel)
  obtain ⟨g2, b1, b2, b3, b4⟩ := M_isWord (x := 1) (by omega) a2 rr (x1 := 6) (x2 := 18) (x3 := 9) (x4 := 5) (x5 := 14) (x6 := 4) (by decide +kernel)
  obtain ⟨g3, c1, c2, c3, c4⟩ := M_isWord (x := 2) (by omega) b2 rr (x1 := 13) (x2 := 15) (x3 := 19) (x4 := 20) (x5 := 0) (x6 := 0) (by decide +kernel)
  unfold fM_kindHere
  rw [a1, ob_s]
  by_cases q0 : isW b t m (wd 0)
  · refine ⟨g1, ?_, a2, a3, a4⟩
    rw [if_pos q0, if_pos q0]
    rfl
  · rw [if_neg q0, if_neg q0]
    show ∃ g', (if i3 0 = i3 0 then _ else _) = _ ∧ _
    rw [if_pos rfl, b1, ob_s]
    by_cases q1 : isW b t m (wd 1)
    · refine ⟨g2, ?_, b2, a3.tr b3, b4⟩
      rw [if_pos q1, if_pos q1]
      rfl
    · rw [if_neg q1, if_neg q1]
      show ∃ g', (if i3 0 = i3 0 then _ else _) = _ ∧ _
      rw [if_pos rfl, c1, ob_s]
      refine ⟨g3, ?_, c2, (a3.tr b3).tr c3, c4⟩
      by_cases q2 : isW b t m (wd 2)
      · rw [if_pos q2, if_pos q2]
        rfl
      · rw [if_neg q2, if_neg q2]
        rfl
theorem b115F (h : Xt e b ft fp t g) (q : ¬ ft = 0) : fX_Land_readClause_b115 3 g = some g := by
  unfold fX_Land_readClause_b115
  have e1 : fX_Text_expect (59 : Int32) g = some g := by
    unfold fX_Text_expect
    rw [if_neg (h.n6 q)]
  rw [e1, ob_s]
theorem b55F (h : Mt e b ft fp t g) (q : ¬ ft = 0) (x : Int32) : fM_clause_b55 x g = some g := by
  unfold fM_clause_b55
  rw [if_neg (h.n5 q)]
theorem clause_ok (h : TS e b 0 fp t gX gM) (hL : LI n N c K F D gX gM) (ht : t < e) : ∃ ft' fp' t' gX' gM', fX_Land_readClause 3 (i3 c) gX = some gX' ∧ fM_clause gM = some gM' ∧ TS e b ft' fp' t' gX' gM' ∧ PFX gX gX' ∧ PFM gM gM' ∧ (ft' = 0 → t < t' ∧ ∃ n' N' K' F' D', LI n' N' (c + 1) K' F' D' gX' gM') := by
  have h600 := h.1.c600
  obtain ⟨m, rr⟩ := run_ex (ltr b) e (e - t) t (by omega)
  obtain ⟨t1, hn⟩ := nb_ex (b := b) rr.1
  have hn1 := nb_le hn
  have hr1 := rr.1
  obtain ⟨g1, d1, d2, d3, d4, d5⟩ := X_word h.1 rr hn
  obtain ⟨gM1, k1, k2, k3, k4⟩ := M_kind h.2 rr
  have hc := hL.2.2.2.1
  have hn8 := hL.1
  have hL1 : LI n N c K F D g1 gM1 := hL.frF d5 k3
  have n1 : gM1 3 0 = i3 n := hL1.2.2.2.2.2.2.1
  have n2 : g1 3 0 = i3 n := hL1.2.2.2.2.1
  have c1 : gM1 0 7 = i3 c := hL1.2.2.2.2.2.2.2.2.1
  have w0 := X_isWord (x := 0) (by omega) d4.1 d4.2.1 d2 d3 hr1
  have w1 := X_isWord (x := 1) (by omega) d4.1 d4.2.1 d2 d3 hr1
  have w2 := X_isWord (x := 2) (by omega) d4.1 d4.2.1 d2 d3 hr1
  -- a fault at the word
  have flt : ∀ (k : Nat), 1 ≤ k → k ≤ 3 → fX_Land_readClause 3 (i3 c) gX = lt1 (fX_Text_blame (i3 k) (g1 1 4) g1) (fun g43 => fX_Land_readClause_b115 3 g43) → (∃ x, fM_clause gM = lt1 (fM_wrong (i3 k) (gM1 0 4) gM1) (fun g16 => fM_clause_b55 x g16)) → ∃ ft' fp' t' gX' gM', fX_Land_readClause 3 (i3 c) gX = some gX' ∧ fM_clause gM = some gM' ∧ TS e b ft' fp' t' gX' gM' ∧ PFX gX gX' ∧ PFM gM gM' ∧ (ft' = 0 → t < t' ∧ ∃ n' N' K' F' D', LI n' N' (c + 1) K' F' D' gX' gM') := by
    intro k hk hk3 eX eM
    obtain ⟨x, eM⟩ := eM
    obtain ⟨g2, j1, j2, j3⟩ := X_blame (p := t) d4 hk hk3
    obtain ⟨gM2, i1, i2, i3'⟩ := M_wrong (p := t) k2 hk hk3
    refine ⟨k, t, t1, g2, gM2, ?_, ?_, ⟨j2, i2.any (by omega) hn1.2⟩, d5.p.tr (fun p i z1 z2 z3 => j3 p i (by omega)), k3.p.tr (fun p i z1 z2 z3 z4 => i3' p i (by omega)), fun z => absurd z (by omega)⟩
    · rw [eX, d3, j1, lt1_e, b115F j2 (by omega)]
    · rw [eM, k4, i1, lt1_e, b55F i2 (by omega)]
  have skip : 1 ≤ m → ∃ gM2, fM_skipWord gM1 = some gM2 ∧ Mt e b 0 fp t1 gM2 ∧ FRM gM1 gM2 := fun _ => M_skip k2 k4 rr hn
  have hm : ∀ k, k < 3 → isW b t m (wd k) → t < t1 := fun k hk hw => by
    have := wd_pos k (by omega)
    have := hw.1
    omega
  have hx0 : fX_Land_readClause 3 (i3 c) gX = (fX_Text_isWord 0 g1).bind fun r7 => ((fX_Text_isWord 1 g1).bind fun r14 => (if r7 = 0 then (if r14 = 0 then ((fX_Text_isWord 2 g1).bind fun r31 => (if r31 = 0 then (lt1 (fX_Text_blame (1 : Int32) (g1 1 4) g1) fun g43 => (fX_Land_readClause_b115 3 g43)) else (fX_Land_readClause_b49 3 (i3 c) r7 r14 g1))) else (fX_Land_readClause_b49 3 (i3 c) r7 r14 g1)) else (fX_Land_readClause_b49 3 (i3 c) r7 r14 g1))) := by
    unfold fX_Land_readClause
    rw [d1, ob_s]
  rw [w0, ob_s, w1, ob_s] at hx0
  have hm0 : ∀ {z : Int32}, fM_kindHere gM = some (z, gM1) → fM_clause gM = if z = (-1 : Int32) then (lt1 (fM_wrong (1 : Int32) (gM1 0 4) gM1) fun g16 => (fM_clause_b55 z g16)) else (if gM1 0 7 = (60 : Int32) then (fM_clause_b46 z gM1) else (if z = 0 then (if gM1 3 0 = (8 : Int32) then (fM_clause_b46 z gM1) else (fM_clause_b55 z gM1)) else (fM_clause_b55 z gM1))) := fun e1 => by
    unfold fM_clause
    rw [e1, ob_s]
  have k1' := hm0 k1
  have n60 : (gM1 0 7 = (60 : Int32)) = (c = 60) := by
    rw [c1]
    exact i3_eq (b := 60) (by omega) (by omega)
  have n88 : (gM1 3 0 = (8 : Int32)) = (n = 8) := by
    rw [n1]
    exact i3_eq (b := 8) (by omega) (by omega)
  -- b49 of a sound clause, b55 of a sound clause
  have h49 : ∀ (x3 x4 : Int32), fX_Land_readClause_b49 3 (i3 c) x3 x4 g1 = if c = 60 then fX_Land_readClause_b68 3 g1 else if x3 = i3 0 then fX_Land_readClause_b80 3 x3 x4 g1 else if n = 8 then fX_Land_readClause_b68 3 g1 else fX_Land_readClause_b80 3 x3 x4 g1 := fun x3 x4 => by
    unfold fX_Land_readClause_b49
    show (if i3 60 ≤ i3 c then _ else if x3 = i3 0 then _ else if g1 3 0 < i3 8 then _ else _) = _
    rw [n2]
    by_cases q : c = 60
    · rw [if_pos q, if_pos (i3_yle (by omega) (by omega))]
    · rw [if_neg q, if_neg (i3_nle (by omega) (by omega))]
      by_cases q1 : x3 = i3 0
      · rw [if_pos q1, if_pos q1]
      · rw [if_neg q1, if_neg q1]
        by_cases q2 : n = 8
        · rw [if_pos q2, if_neg (i3_nlt (by omega) (by omega))]
        · rw [if_neg q2, if_pos (i3_ylt (by omega) (by omega))]
  by_cases q0 : isW b t m (wd 0)
  · have nq1 : ¬ isW b t m (wd 1) := fun z => absurd (isW_inj q0 z) (by decide)
    simp only [if_pos q0, if_neg nq1] at hx0 k1'
    rw [if_neg (show ¬ i3 1 = (0 : Int32) by decide), h49, if_neg (show ¬ i3 1 = i3 0 by decide)] at hx0
    rw [if_neg (show ¬ i3 0 = (-1 : Int32) by decide), if_pos (show i3 0 = (0 : Int32) from rfl)] at k1'
    simp only [n60, n88] at k1'
    by_cases q : c = 60 ∨ n = 8
    · refine flt 3 (by omega) (by omega) ?_ ⟨i3 0, ?_⟩
      · rw [hx0]
        have e1 : (if c = 60 then fX_Land_readClause_b68 3 g1 else if n = 8 then fX_Land_readClause_b68 3 g1 else fX_Land_readClause_b80 3 (i3 1) (i3 0) g1) = fX_Land_readClause_b68 3 g1 := by
          rcases q with q | q
          · rw [if_pos q]
          · rw [if_pos q, ite_self]
        rw [e1]
        rfl
      · rw [k1']
        have e1 : (if c = 60 then fM_clause_b46 (i3 0) gM1 else if n = 8 then fM_clause_b46 (i3 0) gM1 else fM_clause_b55 (i3 0) gM1) = fM_clause_b46 (i3 0) gM1 := by
          rcases q with q | q
          · rw [if_pos q]
          · rw [if_pos q, ite_self]
        rw [e1]
        rfl
    · rw [if_neg (fun z => q (Or.inl z)), if_neg (fun z => q (Or.inr z))] at hx0 k1'
      obtain ⟨gM2, s1, s2, s3⟩ := skip (by have := wd_pos 0 (by omega); have := q0.1; omega)
      have hL2 := (hL1.frF FRX.rf s3).cl (by omega)
      have fc : ∀ p i, ¬ (p = 0 ∧ i = 7) → (st gM2 0 7 (gM2 0 7 + 1)) p i = gM2 p i := fun p i z => by rw [st_at, if_neg z]
      have h2 : TS e b 0 fp t1 g1 (st gM2 0 7 (gM2 0 7 + 1)) := ⟨d4, s2.fr (fun i _ _ => fc 0 i (by omega)) (fun i => fc 1 i (by omega))⟩
      obtain ⟨ft', fp', t2, gX3, gM3, u1, u2, u3, u4, u5, u6⟩ := cl_person h2 hL2 (by omega)
      have m30 : gM2 3 0 = i3 n := (s3 3 0 (by omega)).trans n1
      refine ⟨ft', fp', t2, gX3, gM3, hx0.trans u1, ?_, u3, d5.p.tr u4, (((k3.tr s3).p).tr (fun p i z1 z2 z3 z4 => fc p i (by omega))).tr u5, fun z => ⟨?_, (u6 z).2⟩⟩
      · rw [k1', ← u2]
        unfold fM_clause_b55
        rw [if_pos (show gM1 0 5 = 0 from k2.2.1), s1, ob_s, if_pos (show i3 0 = (0 : Int32) from rfl), m30, if_pos (i3_in (by omega) (by omega)), i3_nat (by omega)]
      · have := (u6 z).1
        have := hm 0 (by omega) q0
        omega
  · simp only [if_neg q0] at hx0 k1'
    rw [if_pos (show i3 0 = (0 : Int32) from rfl)] at hx0
    by_cases q1 : isW b t m (wd 1)
    · simp only [if_pos q1] at hx0 k1'
      rw [if_neg (show ¬ i3 1 = (0 : Int32) by decide), h49, if_pos rfl] at hx0
      rw [if_neg (show ¬ i3 1 = (-1 : Int32) by decide), if_neg (show ¬ i3 1 = (0 : Int32) by decide)] at k1'
      simp only [n60] at k1'
      by_cases q : c = 60
      · rw [if_pos q] at hx0 k1'
        exact flt 3 (by omega) (by omega) hx0 ⟨i3 1, k1'⟩
      · rw [if_neg q] at hx0 k1'
        obtain ⟨gM2, s1, s2, s3⟩ := skip (by have := wd_pos 1 (by omega); have := q1.1; omega)
        have hL2 := (hL1.frF FRX.rf s3).cl (by omega)
        have fc : ∀ p i, ¬ (p = 0 ∧ i = 7) → (st gM2 0 7 (gM2 0 7 + 1)) p i = gM2 p i := fun p i z => by rw [st_at, if_neg z]
        have h2 : TS e b 0 fp t1 g1 (st gM2 0 7 (gM2 0 7 + 1)) := ⟨d4, s2.fr (fun i _ _ => fc 0 i (by omega)) (fun i => fc 1 i (by omega))⟩
        obtain ⟨ft', fp', t2, gX3, gM3, u1, u2, u3, u4, u5, u6⟩ := cl_friend h2 hL2
        refine ⟨ft', fp', t2, gX3, gM3, hx0.trans u1, ?_, u3, d5.p.tr u4, (((k3.tr s3).p).tr (fun p i z1 z2 z3 z4 => fc p i (by omega))).tr u5, fun z => ⟨?_, (u6 z).2⟩⟩
        · rw [k1', ← u2]
          unfold fM_clause_b55
          rw [if_pos (show gM1 0 5 = 0 from k2.2.1), s1, ob_s, if_neg (show ¬ i3 1 = (0 : Int32) by decide)]
        · have := (u6 z).1
          have := hm 1 (by omega) q1
          omega
    · simp only [if_neg q1] at hx0 k1'
      rw [if_pos (show i3 0 = (0 : Int32) from rfl), w2, ob_s] at hx0
      by_cases q2 : isW b t m (wd 2)
      · simp only [if_pos q2] at hx0 k1'
        rw [if_neg (show ¬ i3 1 = (0 : Int32) by decide), h49, if_pos rfl] at hx0
        rw [if_neg (show ¬ i3 2 = (-1 : Int32) by decide), if_neg (show ¬ i3 2 = (0 : Int32) by decide)] at k1'
        simp only [n60] at k1'
        by_cases q : c = 60
        · rw [if_pos q] at hx0 k1'
          exact flt 3 (by omega) (by omega) hx0 ⟨i3 2, k1'⟩
        · rw [if_neg q] at hx0 k1'
          obtain ⟨gM2, s1, s2, s3⟩ := skip (by have := wd_pos 2 (by omega); have := q2.1; omega)
          have hL2 := (hL1.frF FRX.rf s3).cl (by omega)
          have fc : ∀ p i, ¬ (p = 0 ∧ i = 7) → (st gM2 0 7 (gM2 0 7 + 1)) p i = gM2 p i := fun p i z => by rw [st_at, if_neg z]
          have h2 : TS e b 0 fp t1 g1 (st gM2 0 7 (gM2 0 7 + 1)) := ⟨d4, s2.fr (fun i _ _ => fc 0 i (by omega)) (fun i => fc 1 i (by omega))⟩
          obtain ⟨ft', fp', t2, gX3, gM3, u1, u2, u3, u4, u5, u6⟩ := cl_most h2 hL2
          refine ⟨ft', fp', t2, gX3, gM3, hx0.trans u1, ?_, u3, d5.p.tr u4, (((k3.tr s3).p).tr (fun p i z1 z2 z3 z4 => fc p i (by omega))).tr u5, fun z => ⟨?_, (u6 z).2⟩⟩
          · rw [k1', ← u2]
            unfold fM_clause_b55
            rw [if_pos (show gM1 0 5 = 0 from k2.2.1), s1, ob_s, if_neg (show ¬ i3 2 = (0 : Int32) by decide)]
          · have := (u6 z).1
            have := hm 2 (by omega) q2
            omega
      · simp only [if_neg q2] at hx0 k1'
        rw [if_pos (show i3 0 = (0 : Int32) from rfl)] at hx0
        rw [if_pos (show m1 = (-1 : Int32) from rfl)] at k1'
        exact flt 1 (by omega) (by omega) hx0 ⟨m1, k1'⟩
/-- the loops over the clauses: how they stand -/
def PI (e : Nat) (b : Nat → Nat) (gX0 gM0 : St) (k : Nat) (s : Int32 × St) (s' : St) : Prop := ∃ ft fp t, TS e b ft fp t s.2 s' ∧ PFX gX0 s.2 ∧ PFM gM0 s' ∧ (ft = 0 → k = e - t + 1 ∧ s' 0 4 = i3 t ∧ ∃ n N c K F D, LI n N c K F D s.2 s' ∧ s.1 = i3 c)
def PE (e : Nat) (b : Nat → Nat) (gX0 gM0 : St) (r r' : St) : Prop := ∃ ft fp t, TS e b ft fp t r r' ∧ PFX gX0 r ∧ PFM gM0 r' ∧ (ft = 0 → ∃ n N c K F D, LI n N c K F D r r')
theorem pen_step {gX0 gM0 : St} : ∀ (k : Nat) (s : Int32 × St) (s' : St), PI e b gX0 gM0 k s s' → (∃ j t t', j < k ∧ fX_Land_readFrom_L12 3 s = some (.inl t) ∧ fM_peninsula_L42 s' = some (.inl t') ∧ PI e b gX0 gM0 j t t') ∨ ∃ r r', fX_Land_readFrom_L12 3 s = some (.inr r) ∧ fM_peninsula_L42 s' = some (.inr r') ∧ PE e b gX0 gM0 r r' := by
  rintro k ⟨x2, gX⟩ gM ⟨ft, fp, t, hT, hF, hG, hs⟩
  dsimp only at hT hF hG hs
  have h600 := hT.1.c600
  have hte := hT.1.2.2.2.1
  obtain ⟨gX1, a1, a2, a3, a4⟩ := more_X hT.1
  by_cases q : ft = 0
  · subst q
    obtain ⟨hk, h4, n, N, c, K, F, D, hL, e1⟩ := hs rfl
    subst e1
    have hc := hL.2.2.2.1
    have p2 : gM 0 2 = i3 e := hT.2.1.2.1
    by_cases q1 : t < e
    · left
      rw [if_pos ⟨rfl, q1⟩] at a1
      obtain ⟨ft1, fp1, t1, gX2, gM2, c1, c2, c3, c4, c5, c6⟩ := clause_ok (show TS e b 0 fp t gX1 gM from ⟨a2, hT.2⟩) (hL.frF a3 FRM.rf) q1
      obtain ⟨gM3, k1, k2, k3, k4⟩ := blanks_M c3.2
      refine ⟨if ft1 = 0 then e - t1 + 1 else 0, (i3 (c + 1), gX2), gM3, ?_, ?_, ?_, ft1, fp1, t1, ⟨c3.1, k2⟩, (hF.tr a3.p).tr c4, (hG.tr c5).tr k3.p, fun z => ?_⟩
      · by_cases q2 : ft1 = 0
        · rw [if_pos q2]
          have := (c6 q2).1
          omega
        · rw [if_neg q2]
          omega
      · unfold fX_Land_readFrom_L12
        show (if i3 60 < i3 c then _ else (fX_Text_hasMore gX).bind _) = _
        rw [if_neg (i3_nlt (by omega) hc), a1, ob_s]
        show (if i3 1 = i3 0 then _ else (fX_Land_readClause 3 (i3 c) gX1).bind _) = _
        rw [if_neg (by decide), c1, ob_s]
        show some (Sum.inl (i3 c + i3 1, gX2)) = _
        rw [i3_add]
      · unfold fM_peninsula_L42
        rw [if_pos (show gM 0 5 = 0 from hT.2.2.1), p2, h4, if_neg (i3_nle (by omega) q1), c2, ob_s, k1, ob_s]
      · subst z
        obtain ⟨_, n', N', K', F', D', hL'⟩ := c6 rfl
        exact ⟨by rw [if_pos rfl], k4 rfl, n', N', c + 1, K', F', D', hL'.frF FRX.rf k3, rfl⟩
    · right
      rw [if_neg (fun z => q1 z.2)] at a1
      refine ⟨gX1, gM, ?_, ?_, 0, fp, t, ⟨a2, hT.2⟩, hF.tr a3.p, hG, fun _ => ⟨n, N, c, K, F, D, hL.frF a3 FRM.rf⟩⟩
      · unfold fX_Land_readFrom_L12
        show (if i3 60 < i3 c then _ else (fX_Text_hasMore gX).bind _) = _
        rw [if_neg (i3_nlt (by omega) hc), a1, ob_s]
        rfl
      · unfold fM_peninsula_L42
        rw [if_pos (show gM 0 5 = 0 from hT.2.2.1), p2, h4, if_pos (i3_yle (by omega) (by omega))]
  · right
    rw [if_neg (fun z => q z.1)] at a1
    have eM : fM_peninsula_L42 gM = some (.inr gM) := by
      unfold fM_peninsula_L42
      rw [if_neg (hT.2.n5 q)]
    by_cases q8 : i3 60 < x2
    · refine ⟨gX, gM, ?_, eM, ft, fp, t, hT, hF, hG, fun z => absurd z q⟩
      unfold fX_Land_readFrom_L12
      exact if_pos q8
    · refine ⟨gX1, gM, ?_, eM, ft, fp, t, ⟨a2, hT.2⟩, hF.tr a3.p, hG, fun z => absurd z q⟩
      unfold fX_Land_readFrom_L12
      show (if i3 60 < x2 then _ else (fX_Text_hasMore gX).bind _) = _
      rw [if_neg q8, a1, ob_s]
      rfl
end PM
