/-! PURE: peninsula: clauses, both sides -/
def LI (n N c : Nat) (K F D : Nat → Nat) (gX gM : St) : Prop := n ≤ 8 ∧ 1 ≤ N ∧ N ≤ 4 ∧ c ≤ 60 ∧ gX 3 0 = i3 n ∧ gX 3 1 = i3 N ∧ gM 3 0 = i3 n ∧ gM 3 1 = i3 N ∧ gM 0 7 = i3 c ∧ (∀ p, p < n → gX 20 p = i3 (K p) ∧ gX 21 p = i3 (D p) ∧ gX 22 p = i3 (F p) ∧ gM (26 + p) 0 = i3 (K p) ∧ gM (26 + p) 1 = i3 (D p) ∧ K p ≤ 9 ∧ D p ≤ 60) ∧ ∀ p, p < 8 → gM 7 p = i3 (F p) ∧ F p < 256 ∧ (n ≤ p → F p = 0)
def PFX (g g' : St) : Prop := ∀ p i, ¬ (p = 1 ∧ 3 ≤ i ∧ i ≤ 7) → ¬ p = 3 → ¬ (20 ≤ p ∧ p ≤ 22) → g' p i = g p i
def PFM (g g' : St) : Prop := ∀ p i, ¬ (p = 0 ∧ 4 ≤ i ∧ i ≤ 7) → ¬ p = 3 → ¬ p = 7 → ¬ (26 ≤ p ∧ p < 34) → g' p i = g p i
theorem PFX.rf {g : St} : PFX g g := fun _ _ _ _ _ => rfl
theorem PFM.rf {g : St} : PFM g g := fun _ _ _ _ _ _ => rfl
theorem PFX.tr {g g1 g2 : St} (h : PFX g g1) (k : PFX g1 g2) : PFX g g2 := fun p i a b c => (k p i a b c).trans (h p i a b c)
theorem PFM.tr {g g1 g2 : St} (h : PFM g g1) (k : PFM g1 g2) : PFM g g2 := fun p i a b c d => (k p i a b c d).trans (h p i a b c d)
theorem FRX.p {g g' : St} (h : FRX g g') : PFX g g' := fun p i a _ _ => h p i a
theorem FRM.p {g g' : St} (h : FRM g g') : PFM g g' := fun p i a _ _ _ => h p i (by omega)
section PN
variable {e ft fp t t' m n N c : Nat} {b K F D : Nat → Nat} {gX gM gX' gM' g : St}
theorem LI.fr (h : LI n N c K F D gX gM) (f1 : ∀ p i, (p = 3 ∨ (20 ≤ p ∧ p ≤ 22)) → gX' p i = gX p i) (f2 : ∀ p i, (p = 3 ∨ p = 7 ∨ (26 ≤ p ∧ p < 34) ∨ (p = 0 ∧ i = 7)) → gM' p i = gM p i) : LI n N c K F D gX' gM' := by
  obtain ⟨h1, h2, h3, h4, h5, h6, h7, h8, h9, h10, h11⟩ := h
  refine ⟨h1, h2, h3, h4, (f1 3 0 (by omega)).trans h5, (f1 3 1 (by omega)).trans h6, (f2 3 0 (by omega)).trans h7, (f2 3 1 (by omega)).trans h8, (f2 0 7 (by omega)).trans h9, fun p hp => ?_, fun p hp => ?_⟩
  · rw [f1 20 p (by omega), f1 21 p (by omega), f1 22 p (by omega), f2 (26 + p) 0 (by omega), f2 (26 + p) 1 (by omega)]
    exact h10 p hp
  · rw [f2 7 p (by omega)]
    exact h11 p hp
theorem LI.frF (h : LI n N c K F D gX gM) (f1 : FRX gX gX') (f2 : FRM gM gM') : LI n N c K F D gX' gM' := h.fr (fun p i a => f1 p i (by omega)) (fun p i a => f2 p i (by omega))
theorem LI.cl (h : LI n N c K F D gX gM) (hc : c < 60) : LI n N (c + 1) K F D gX (st gM 0 7 (gM 0 7 + 1)) := by
  obtain ⟨h1, h2, h3, h4, h5, h6, h7, h8, h9, h10, h11⟩ := h
  have f : ∀ p i, ¬ (p = 0 ∧ i = 7) → (st gM 0 7 (gM 0 7 + 1)) p i = gM p i := fun p i z => by rw [st_at, if_neg z]
  refine ⟨h1, h2, h3, by omega, h5, h6, (f 3 0 (by omega)).trans h7, (f 3 1 (by omega)).trans h8, ?_, fun p hp => ?_, fun p hp => ?_⟩
  · rw [st_eq, h9]
    exact i3_add c 1
  · rw [f (26 + p) 0 (by omega), f (26 + p) 1 (by omega)]
    exact h10 p hp
  · rw [f 7 p (by omega)]
    exact h11 p hp
theorem cl_most (h : TS e b 0 fp t gX gM) (hL : LI n N c K F D gX gM) : ∃ ft' fp' t' gX' gM', fX_Land_readClause_b80 3 (i3 0) (i3 0) gX = some gX' ∧ fM_clause_b121 (i3 2) gM = some gM' ∧ TS e b ft' fp' t' gX' gM' ∧ PFX gX gX' ∧ PFM gM gM' ∧ (ft' = 0 → t < t' ∧ ∃ n' N' K' F' D', LI n' N' c K' F' D' gX' gM') := by
  obtain ⟨ft1, fp1, t1, v, gX1, gM1, a1, a2, a3, a4, a5, a6⟩ := numK h (lo := 1) (H := 4) (by omega) (by omega)
  obtain ⟨gX2, hX2⟩ : ∃ z, z = st gX1 3 1 (if ft1 = 0 then i3 v else m1) := ⟨_, rfl⟩
  obtain ⟨gM2, hM2⟩ : ∃ z, z = st gM1 3 1 (if ft1 = 0 then i3 v else i3 0) := ⟨_, rfl⟩
  have f1 : ∀ p i, ¬ (p = 3 ∧ i = 1) → gX2 p i = gX1 p i := fun p i z => by rw [hX2, st_at, if_neg z]
  have f2 : ∀ p i, ¬ (p = 3 ∧ i = 1) → gM2 p i = gM1 p i := fun p i z => by rw [hM2, st_at, if_neg z]
  have h2 : TS e b ft1 fp1 t1 gX2 gM2 := a3.fr (fun i _ => f1 1 i (by omega)) (fun i => f1 16 i (by omega)) (fun i _ _ => f2 0 i (by omega)) (fun i => f2 1 i (by omega))
  obtain ⟨ft3, fp3, t3, gX3, gM3, b1, b2, b3, b4, b5, b6, b7⟩ := sign_both h2 (s := 59) (by omega)
  refine ⟨ft3, fp3, t3, gX3, gM3, ?_, ?_, b3, (a4.p.tr (fun p i z1 z2 z3 => f1 p i (by omega))).tr b4.p, (a5.p.tr (fun p i z1 z2 z3 z4 => f2 p i (by omega))).tr b5.p, fun z => ?_⟩
  · unfold fX_Land_readClause_b80
    show (if i3 0 = i3 0 then if i3 0 = i3 0 then (fX_Text_number (i3 1) (i3 4) gX).bind _ else _ else _) = _
    rw [if_pos rfl, if_pos rfl, a1, ob_s]
    show fX_Land_readClause_b115 3 (st gX1 3 1 (if ft1 = 0 then i3 v else m1)) = _
    rw [← hX2]
    unfold fX_Land_readClause_b115
    show (fX_Text_expect (i3 59) gX2).bind _ = _
    rw [b1, ob_s]
  · unfold fM_clause_b121
    show (if i3 2 = i3 1 then _ else fM_clause_b130 (i3 2) gM) = _
    rw [if_neg (by decide)]
    unfold fM_clause_b130
    show (if i3 2 = i3 2 then (fM_number (i3 1) (i3 4) gM).bind _ else _) = _
    rw [if_pos rfl, a2, ob_s]
    show fM_clause_b147 (i3 2) (st gM1 3 1 (if ft1 = 0 then i3 v else i3 0)) = _
    rw [← hM2]
    unfold fM_clause_b147
    show (fM_sign (i3 59) gM2).bind _ = _
    rw [b2, ob_s]
    exact if_neg (show ¬ i3 2 = i3 0 by decide)
  · subst z
    obtain ⟨w1, w2, w3, w4, w5⟩ := b6 rfl
    subst w1
    obtain ⟨_, x1, x2, x3, _⟩ := a6 rfl
    rw [if_pos rfl] at hX2 hM2
    have := nb_le w4
    refine ⟨by omega, n, v, K, F, D, ?_⟩
    obtain ⟨h1, _, _, h4, h5, h6, h7, h8, h9, h10, h11⟩ := hL.frF a4 a5
    refine LI.frF (gX := gX2) (gM := gM2) ⟨h1, x1, x2, h4, (f1 3 0 (by omega)).trans h5, by rw [hX2, st_eq], (f2 3 0 (by omega)).trans h7, by rw [hM2, st_eq], (f2 0 7 (by omega)).trans h9, fun p hp => ?_, fun p hp => ?_⟩ b4 b5
    · rw [f1 20 p (by omega), f1 21 p (by omega), f1 22 p (by omega), f2 (26 + p) 0 (by omega), f2 (26 + p) 1 (by omega)]
      exact h10 p hp
    · rw [f2 7 p (by omega)]
      exact h11 p hp
theorem Xt.sound (h : Xt e b ft fp t g) : fX_Text_isSound g = if ft = 0 then i3 1 else i3 0 := by
  unfold fX_Text_isSound
  by_cases q : ft = 0
  · subst q
    rw [if_pos (show g 1 6 = 0 from h.2.1), if_pos rfl]
    rfl
  · rw [if_neg (h.n6 q), if_neg q]
    rfl
theorem or_fr {x : Nat} (hx : x < 256) {p : Nat} (hp : p < 8) : x ||| 1 <<< p < 256 := by
  have : 1 <<< p < 256 := by
    have : ∀ p, p < 8 → 1 <<< p < 256 := by decide
    exact this p hp
  exact Nat.or_lt_two_pow (n := 8) hx this
theorem cl_friend (h : TS e b 0 fp t gX gM) (hL : LI n N c K F D gX gM) : ∃ ft' fp' t' gX' gM', fX_Land_readClause_b80 3 (i3 0) (i3 1) gX = some gX' ∧ fM_clause_b121 (i3 1) gM = some gM' ∧ TS e b ft' fp' t' gX' gM' ∧ PFX gX gX' ∧ PFM gM gM' ∧ (ft' = 0 → t < t' ∧ ∃ n' N' K' F' D', LI n' N' c K' F' D' gX' gM') := by
  have hn8 := hL.1
  obtain ⟨ft1, fp1, t1, v1, gX1, gM1, a1, a2, a3, a4, a5, a6⟩ := num_both h (lo := 0) (H := n) (by omega) (by omega)
  obtain ⟨gM2, k1, k2, k3, k4⟩ := blanks_M a3.2
  obtain ⟨ft2, fp2, t2, v2, gX3, gM3, b1, b2, b3, b4, b5, b6⟩ := num_both (show TS e b ft1 fp1 t1 gX1 gM2 from ⟨a3.1, k2⟩) (lo := 0) (H := n) (by omega) (by omega)
  have hL3 : LI n N c K F D gX3 gM3 := ((hL.frF a4 a5).frF FRX.rf k3).frF b4 b5
  have n0 : gX 3 0 = i3 n := hL.2.2.2.2.1
  have n1 : gX1 3 0 = i3 n := (a4 3 0 (by omega)).trans n0
  have n2 : gM 3 0 = i3 n := hL.2.2.2.2.2.2.1
  have n3 : gM2 3 0 = i3 n := (k3 3 0 (by omega)).trans ((a5 3 0 (by omega)).trans n2)
  have P3 : PFX gX gX3 := a4.p.tr b4.p
  have Q3 : PFM gM gM3 := (a5.p.tr k3.p).tr b5.p
  -- the rest behind both numbers
  obtain ⟨ft4, fp4, t4, gX4, gM4, c1, c2, c3, c4, c5, c6⟩ : ∃ ft4 fp4 t4 gX4 gM4, fX_Land_readFriends 3 gX = some gX4 ∧ fM_friends gM = some gM4 ∧ TS e b ft4 fp4 t4 gX4 gM4 ∧ PFX gX3 gX4 ∧ PFM gM3 gM4 ∧ (ft4 = 0 → ft2 = 0 ∧ t4 = t2 ∧ ∃ F', LI n N c K F' D gX4 gM4) := by
    have eX : fX_Land_readFriends 3 gX = if (if ft1 = 0 then i3 v1 else m1) = (if ft2 = 0 then i3 v2 else m1) then lt1 (fX_Text_blame (i3 2) (gX3 1 5) gX3) (fun g35 => fX_Land_readFriends_b38 3 (if ft1 = 0 then i3 v1 else m1) (if ft2 = 0 then i3 v2 else m1) g35) else fX_Land_readFriends_b38 3 (if ft1 = 0 then i3 v1 else m1) (if ft2 = 0 then i3 v2 else m1) gX3 := by
      unfold fX_Land_readFriends
      show (fX_Text_number (i3 0) (gX 3 0 - i3 1) gX).bind _ = _
      rw [n0, a1, ob_s]
      show (fX_Text_number (i3 0) (gX1 3 0 - i3 1) gX1).bind _ = _
      rw [n1, b1, ob_s]
      rfl
    have eM : fM_friends gM = if gM3 0 5 = 0 then (if (if ft1 = 0 then i3 v1 else i3 0) = (if ft2 = 0 then i3 v2 else i3 0) then lt1 (fM_wrong (i3 2) (gM2 0 4) gM3) (fun g52 => fM_friends_b55 (if ft1 = 0 then i3 v1 else i3 0) (if ft2 = 0 then i3 v2 else i3 0) g52) else fM_friends_b55 (if ft1 = 0 then i3 v1 else i3 0) (if ft2 = 0 then i3 v2 else i3 0) gM3) else fM_friends_b55 (if ft1 = 0 then i3 v1 else i3 0) (if ft2 = 0 then i3 v2 else i3 0) gM3 := by
      unfold fM_friends
      show (fM_number (i3 0) (gM 3 0 - i3 1) gM).bind _ = _
      rw [n2, a2, ob_s]
      show (fM_blanks gM1).bind _ = _
      rw [k1, ob_s]
      show (fM_number (i3 0) (gM2 3 0 - i3 1) gM2).bind _ = _
      rw [n3, b2, ob_s]
      rfl
    by_cases q2 : ft2 = 0
    · subst q2
      obtain ⟨w1, _, w3, w4, w5, _⟩ := b6 rfl
      subst w1
      obtain ⟨_, _, x3, x4, _⟩ := a6 rfl
      rw [if_pos rfl, if_pos rfl] at eX eM
      rw [if_pos (show gM3 0 5 = 0 from b3.2.2.1)] at eM
      by_cases q : v1 = v2
      · subst q
        rw [if_pos rfl, w5] at eX
        rw [if_pos rfl, k4 rfl] at eM
        obtain ⟨gX4, d1, d2, d3⟩ := X_blame (p := t1) b3.1 (k := 2) (by omega) (by omega)
        obtain ⟨gM4, j1, j2, j3⟩ := M_wrong (p := t1) b3.2 (k := 2) (by omega) (by omega)
        rw [d1, lt1_e] at eX
        rw [j1, lt1_e] at eM
        refine ⟨2, t1, t2, gX4, gM4, ?_, ?_, ⟨d2, j2⟩, fun p i z1 z2 z3 => d3 p i (by omega), fun p i z1 z2 z3 z4 => j3 p i (by omega), fun z => absurd z (by omega)⟩
        · rw [eX]
          unfold fX_Land_readFriends_b38
          rw [d2.sound, if_neg (show ¬ (2 : Nat) = 0 by omega), if_pos (show i3 0 = (0 : Int32) from rfl)]
        · rw [eM]
          unfold fM_friends_b55
          rw [if_neg (j2.n5 (by omega))]
      · have hne : ¬ i3 v1 = i3 v2 := by rw [i3_eq (by omega) (by omega)]; exact q
        rw [if_neg hne] at eX eM
        obtain ⟨h1, h2, h3, h4, h5, h6, h7, h8, h9, h10, h11⟩ := hL3
        obtain ⟨_, _, y1, _, _, _, _⟩ := h10 v1 x3
        obtain ⟨_, _, y2, _, _, _, _⟩ := h10 v2 w3
        obtain ⟨z1, z2, z3⟩ := h11 v1 (by omega)
        obtain ⟨z4, z5, z6⟩ := h11 v2 (by omega)
        have o1 := or_fr z2 (p := v2) (by omega)
        have o2 := or_fr z5 (p := v1) (by omega)
        obtain ⟨gX4, hX4⟩ : ∃ z, z = st (st gX3 22 v1 (i3 (F v1 ||| 1 <<< v2))) 22 v2 (i3 (F v2 ||| 1 <<< v1)) := ⟨_, rfl⟩
        obtain ⟨gM4, hM4⟩ : ∃ z, z = st (st gM3 7 v1 (i3 (F v1 ||| 1 <<< v2))) 7 v2 (i3 (F v2 ||| 1 <<< v1)) := ⟨_, rfl⟩
        have f1 : ∀ p i, ¬ p = 22 → gX4 p i = gX3 p i := fun p i z => by rw [hX4, st_at, if_neg (by omega), st_at, if_neg (by omega)]
        have f2 : ∀ p i, ¬ p = 7 → gM4 p i = gM3 p i := fun p i z => by rw [hM4, st_at, if_neg (by omega), st_at, if_neg (by omega)]
        have r34 : rX 3 4 = 22 := rfl
        have eX4 : fX_Land_readFriends 3 gX = some gX4 := by
          rw [eX]
          unfold fX_Land_readFriends_b38
          rw [b3.1.sound, if_pos rfl, if_neg (show ¬ i3 1 = (0 : Int32) by decide), r34, at8 (by omega) (by omega), ob_s, bit_one v2 (by omega), y1, bit_or _ z2 _ (by omega), pu8 (by omega) (by omega), ob_s, at8 (by omega) (by omega), ob_s, st_at, if_neg (by omega), y2, bit_one v1 (by omega), bit_or _ z5 _ (by omega), pu8 (by omega) (by omega), ob_s, ← hX4]
        have eM4 : fM_friends gM = some gM4 := by
          rw [eM]
          unfold fM_friends_b55
          rw [if_pos (show gM3 0 5 = 0 from b3.2.2.1), if_pos (i3_in (by omega) (by omega)), if_pos (i3_in (by omega) (by omega)), i3_nat (by omega), i3_nat (by omega), bit_one v2 (by omega), z1, bit_or _ z2 _ (by omega), st_at, if_neg (by omega), z4, bit_one v1 (by omega), bit_or _ z5 _ (by omega), ← hM4]
        refine ⟨0, fp2, t2, gX4, gM4, eX4, eM4, b3.fr (fun i _ => f1 1 i (by omega)) (fun i => f1 16 i (by omega)) (fun i _ _ => f2 0 i (by omega)) (fun i => f2 1 i (by omega)), fun p i z1 z2 z3 => f1 p i (by omega), fun p i z1 z2 z3 z4 => f2 p i z3, fun _ => ⟨rfl, rfl, fun p => if p = v2 then F v2 ||| 1 <<< v1 else if p = v1 then F v1 ||| 1 <<< v2 else F p, h1, h2, h3, h4, (f1 3 0 (by omega)).trans h5, (f1 3 1 (by omega)).trans h6, (f2 3 0 (by omega)).trans h7, (f2 3 1 (by omega)).trans h8, (f2 0 7 (by omega)).trans h9, fun p hp => ?_, fun p hp => ?_⟩⟩
        · rw [f1 20 p (by omega), f1 21 p (by omega), f2 (26 + p) 0 (by omega), f2 (26 + p) 1 (by omega)]
          obtain ⟨p1, p2, p3, p4, p5, p6, p7⟩ := h10 p hp
          refine ⟨p1, p2, ?_, p4, p5, p6, p7⟩
          show gX4 22 p = i3 (if p = v2 then F v2 ||| 1 <<< v1 else if p = v1 then F v1 ||| 1 <<< v2 else F p)
          rw [hX4, st_at]
          by_cases w2 : p = v2
          · rw [if_pos ⟨rfl, w2⟩, if_pos w2]
          · rw [if_neg (fun z => w2 z.2), if_neg w2, st_at]
            by_cases w1 : p = v1
            · rw [if_pos ⟨rfl, w1⟩, if_pos w1]
            · rw [if_neg (fun z => w1 z.2), if_neg w1]
              exact p3
        · show gM4 7 p = i3 (if p = v2 then F v2 ||| 1 <<< v1 else if p = v1 then F v1 ||| 1 <<< v2 else F p) ∧ (if p = v2 then F v2 ||| 1 <<< v1 else if p = v1 then F v1 ||| 1 <<< v2 else F p) < 256 ∧ (n ≤ p → (if p = v2 then F v2 ||| 1 <<< v1 else if p = v1 then F v1 ||| 1 <<< v2 else F p) = 0)
          rw [hM4, st_at]
          by_cases w2 : p = v2
          · rw [if_pos ⟨rfl, w2⟩, if_pos w2]
            exact ⟨rfl, o2, fun z => by omega⟩
          · rw [if_neg (fun z => w2 z.2), if_neg w2, st_at]
            by_cases w1 : p = v1
            · rw [if_pos ⟨rfl, w1⟩, if_pos w1]
              exact ⟨rfl, o1, fun z => by omega⟩
            · rw [if_neg (fun z => w1 z.2), if_neg w1]
              exact h11 p hp
    · rw [if_neg (b3.2.n5 q2)] at eM
      refine ⟨ft2, fp2, t2, gX3, gM3, ?_, ?_, b3, PFX.rf, PFM.rf, fun z => absurd z q2⟩
      · rw [eX, X_blameF b3.1 q2, lt1_e, ite_self]
        unfold fX_Land_readFriends_b38
        rw [b3.1.sound, if_neg q2, if_pos (show i3 0 = (0 : Int32) from rfl)]
      · rw [eM]
        unfold fM_friends_b55
        rw [if_neg (b3.2.n5 q2)]
  obtain ⟨ft5, fp5, t5, gX5, gM5, d1, d2, d3, d4, d5, d6, d7⟩ := sign_both c3 (s := 59) (by omega)
  refine ⟨ft5, fp5, t5, gX5, gM5, ?_, ?_, d3, (P3.tr c4).tr d4.p, (Q3.tr c5).tr d5.p, fun z => ?_⟩
  · unfold fX_Land_readClause_b80
    show (if i3 0 = i3 0 then if i3 1 = i3 0 then _ else (fX_Land_readFriends 3 gX).bind _ else _) = _
    rw [if_pos rfl, if_neg (by decide), c1, ob_s]
    unfold fX_Land_readClause_b115
    show (fX_Text_expect (i3 59) gX4).bind _ = _
    rw [d1, ob_s]
  · unfold fM_clause_b121
    show (if i3 1 = i3 1 then (fM_friends gM).bind _ else _) = _
    rw [if_pos rfl, c2, ob_s]
    unfold fM_clause_b130
    show (if i3 1 = i3 2 then _ else fM_clause_b147 (i3 1) gM4) = _
    rw [if_neg (by decide)]
    unfold fM_clause_b147
    show (fM_sign (i3 59) gM4).bind _ = _
    rw [d2, ob_s]
    exact if_neg (show ¬ i3 1 = i3 0 by decide)
  · subst z
    obtain ⟨w1, w2, w3, w4, w5⟩ := d6 rfl
    subst w1
    obtain ⟨y1, y2, F', y3⟩ := c6 rfl
    subst y1
    obtain ⟨y4, _, _, y5, _⟩ := b6 rfl
    subst y4
    obtain ⟨_, _, _, y6, _⟩ := a6 rfl
    have := nb_le w4
    exact ⟨by omega, n, N, K, F', D, y3.frF d4 d5⟩
theorem cl_person (h : TS e b 0 fp t gX gM) (hL : LI n N c K F D gX gM) (hn : n < 8) : ∃ ft' fp' t' gX' gM', fX_Land_readClause_b80 3 (i3 1) (i3 0) gX = some gX' ∧ ((fM_number (0 : Int32) (9 : Int32) gM).bind fun z => (if ¬ (((st z.2 (26 + n) 0 z.1) 3 0) < 0 ∨ 8 ≤ ((st z.2 (26 + n) 0 z.1) 3 0).toNatClampNeg) then ((fM_number (0 : Int32) (60 : Int32) (st z.2 (26 + n) 0 z.1)).bind fun z2 => (fM_clause_b121 (i3 0) (st z2.2 (26 + ((st z.2 (26 + n) 0 z.1) 3 0).toNatClampNeg) 1 z2.1))) else none)) = some gM' ∧ TS e b ft' fp' t' gX' gM' ∧ PFX gX gX' ∧ PFM gM gM' ∧ (ft' = 0 → t < t' ∧ ∃ n' N' K' F' D', LI n' N' c K' F' D' gX' gM') := by
  obtain ⟨ft1, fp1, t1, v1, gX1, gM1, a1, a2, a3, a4, a5, a6⟩ := numK h (lo := 0) (H := 9) (by omega) (by omega)
  have hL1 := hL.frF a4 a5
  have n0 : gX 3 0 = i3 n := hL.2.2.2.2.1
  have n1 : gX1 3 0 = i3 n := hL1.2.2.2.2.1
  have n2 : gM1 3 0 = i3 n := hL1.2.2.2.2.2.2.1
  obtain ⟨gX2, hX2⟩ : ∃ z, z = st gX1 20 n (if ft1 = 0 then i3 v1 else m1) := ⟨_, rfl⟩
  obtain ⟨gM2, hM2⟩ : ∃ z, z = st gM1 (26 + n) 0 (if ft1 = 0 then i3 v1 else i3 0) := ⟨_, rfl⟩
  have f1 : ∀ p i, ¬ (p = 20 ∧ i = n) → gX2 p i = gX1 p i := fun p i z => by rw [hX2, st_at, if_neg z]
  have f2 : ∀ p i, ¬ (p = 26 + n ∧ i = 0) → gM2 p i = gM1 p i := fun p i z => by rw [hM2, st_at, if_neg z]
  have h2 : TS e b ft1 fp1 t1 gX2 gM2 := a3.fr (fun i _ => f1 1 i (by omega)) (fun i => f1 16 i (by omega)) (fun i _ _ => f2 0 i (by omega)) (fun i => f2 1 i (by omega))
  obtain ⟨ft3, fp3, t3, v3, gX3, gM3, b1, b2, b3, b4, b5, b6⟩ := numK h2 (lo := 0) (H := 60) (by omega) (by omega)
  have n3 : gX2 3 0 = i3 n := (f1 3 0 (by omega)).trans n1
  have n4 : gX3 3 0 = i3 n := (b4 3 0 (by omega)).trans n3
  have n5 : gM2 3 0 = i3 n := (f2 3 0 (by omega)).trans n2
  have n6 : gM3 3 0 = i3 n := (b5 3 0 (by omega)).trans n5
  obtain ⟨gX4, hX4⟩ : ∃ z, z = st (st (st gX3 21 n (if ft3 = 0 then i3 v3 else m1)) 22 n (i3 0)) 3 0 (i3 (n + 1)) := ⟨_, rfl⟩
  obtain ⟨gM4, hM4⟩ : ∃ z, z = st gM3 (26 + n) 1 (if ft3 = 0 then i3 v3 else i3 0) := ⟨_, rfl⟩
  have f3 : ∀ p i, ¬ (p = 21 ∧ i = n) → ¬ (p = 22 ∧ i = n) → ¬ (p = 3 ∧ i = 0) → gX4 p i = gX3 p i := fun p i z1 z2 z3 => by rw [hX4, st_at, if_neg z3, st_at, if_neg z2, st_at, if_neg z1]
  have f4 : ∀ p i, ¬ (p = 26 + n ∧ i = 1) → gM4 p i = gM3 p i := fun p i z => by rw [hM4, st_at, if_neg z]
  have h4 : TS e b ft3 fp3 t3 gX4 gM4 := b3.fr (fun i _ => f3 1 i (by omega) (by omega) (by omega)) (fun i => f3 16 i (by omega) (by omega) (by omega)) (fun i _ _ => f4 0 i (by omega)) (fun i => f4 1 i (by omega))
  obtain ⟨ft5, fp5, t5, gX5, gM5, d1, d2, d3, d4, d5, d6, d7⟩ := sign_both h4 (s := 59) (by omega)
  have n7 : gM5 3 0 = i3 n := (d5 3 0 (by omega)).trans ((f4 3 0 (by omega)).trans n6)
  have r32 : rX 3 2 = 20 := rfl
  have r33 : rX 3 3 = 21 := rfl
  have r34 : rX 3 4 = 22 := rfl
  have eX : fX_Land_readClause_b80 3 (i3 1) (i3 0) gX = some gX5 := by
    unfold fX_Land_readClause_b80
    show (if i3 1 = i3 0 then _ else (fX_Land_readPerson 3 gX).bind _) = _
    rw [if_neg (by decide)]
    have nA : ∀ V : Int32, (st gX3 21 n V) 3 0 = i3 n := fun V => by rw [st_at, if_neg (by omega)]; exact n4
    have nB : ∀ V W : Int32, (st (st gX3 21 n V) 22 n W) 3 0 = i3 n := fun V W => by rw [st_at, if_neg (by omega)]; exact nA V
    have e1 : fX_Land_readPerson 3 gX = some gX4 := by
      unfold fX_Land_readPerson
      show (fX_Text_number (i3 0) (i3 9) gX).bind _ = _
      rw [a1, ob_s]
      show (fX_Rows_put (rX 3 2) (gX 3 0) (if ft1 = 0 then i3 v1 else m1) gX1).bind _ = _
      rw [n0, r32, pu8 (by omega) (by omega), ob_s, ← hX2]
      show (fX_Text_number (i3 0) (i3 60) gX2).bind _ = _
      rw [b1, ob_s]
      show (fX_Rows_put (rX 3 3) (gX2 3 0) (if ft3 = 0 then i3 v3 else m1) gX3).bind _ = _
      rw [n3, r33, pu8 (by omega) (by omega), ob_s]
      show (fX_Rows_put (rX 3 4) ((st gX3 21 n (if ft3 = 0 then i3 v3 else m1)) 3 0) (i3 0) (st gX3 21 n (if ft3 = 0 then i3 v3 else m1))).bind _ = _
      rw [nA, r34, pu8 (by omega) (by omega), ob_s, nB]
      show some (st _ 3 0 (i3 n + i3 1)) = _
      rw [i3_add, ← hX4]
    rw [e1, ob_s]
    unfold fX_Land_readClause_b115
    show (fX_Text_expect (i3 59) gX4).bind _ = _
    rw [d1, ob_s]
  have eM : ((fM_number (0 : Int32) (9 : Int32) gM).bind fun z => (if ¬ (((st z.2 (26 + n) 0 z.1) 3 0) < 0 ∨ 8 ≤ ((st z.2 (26 + n) 0 z.1) 3 0).toNatClampNeg) then ((fM_number (0 : Int32) (60 : Int32) (st z.2 (26 + n) 0 z.1)).bind fun z2 => (fM_clause_b121 (i3 0) (st z2.2 (26 + ((st z.2 (26 + n) 0 z.1) 3 0).toNatClampNeg) 1 z2.1))) else none)) = (if gM5 0 5 = 0 then some (st gM5 3 0 (i3 (n + 1))) else some (st gM5 3 0 (i3 n))) := by
    show ((fM_number (i3 0) (i3 9) gM).bind _) = _
    rw [a2, ob_s]
    show (if ¬ (((st gM1 (26 + n) 0 (if ft1 = 0 then i3 v1 else i3 0)) 3 0) < 0 ∨ 8 ≤ ((st gM1 (26 + n) 0 (if ft1 = 0 then i3 v1 else i3 0)) 3 0).toNatClampNeg) then ((fM_number (i3 0) (i3 60) (st gM1 (26 + n) 0 (if ft1 = 0 then i3 v1 else i3 0))).bind fun z2 => (fM_clause_b121 (i3 0) (st z2.2 (26 + ((st gM1 (26 + n) 0 (if ft1 = 0 then i3 v1 else i3 0)) 3 0).toNatClampNeg) 1 z2.1))) else none) = _
    rw [← hM2, n5, if_pos (i3_in (by omega) hn), i3_nat (by omega), b2, ob_s]
    show fM_clause_b121 (i3 0) (st gM3 (26 + n) 1 (if ft3 = 0 then i3 v3 else i3 0)) = _
    rw [← hM4]
    unfold fM_clause_b121
    show (if i3 0 = i3 1 then _ else fM_clause_b130 (i3 0) gM4) = _
    rw [if_neg (by decide)]
    unfold fM_clause_b130
    show (if i3 0 = i3 2 then _ else fM_clause_b147 (i3 0) gM4) = _
    rw [if_neg (by decide)]
    unfold fM_clause_b147
    show (fM_sign (i3 59) gM4).bind _ = _
    rw [d2, ob_s]
    show (if i3 0 = i3 0 then if gM5 0 5 = 0 then fM_clause_b176 (i3 0) (gM5 3 0) (i3 1) gM5 else fM_clause_b176 (i3 0) (gM5 3 0) (i3 0) gM5 else _) = _
    rw [if_pos rfl, n7]
    unfold fM_clause_b176
    rw [if_pos (i3_in (by omega) (by omega)), i3_add, i3_add, if_pos (i3_in (by omega) (by omega))]
    rfl
  have P5 : PFX gX gX5 := ((((a4.p.tr (fun p i z1 z2 z3 => f1 p i (by omega))).tr b4.p).tr (fun p i z1 z2 z3 => f3 p i (by omega) (by omega) (by omega)))).tr d4.p
  have Q5 : PFM gM gM5 := ((((a5.p.tr (fun p i z1 z2 z3 z4 => f2 p i (by omega))).tr b5.p).tr (fun p i z1 z2 z3 z4 => f4 p i (by omega)))).tr d5.p
  by_cases q : ft5 = 0
  · subst q
    obtain ⟨w1, w2, w3, w4, w5⟩ := d6 rfl
    subst w1
    obtain ⟨w6, _, x3, x4, _⟩ := b6 rfl
    subst w6
    obtain ⟨_, _, y3, y4, _⟩ := a6 rfl
    rw [if_pos rfl] at hX2 hM2 hX4 hM4
    rw [if_pos (show gM5 0 5 = 0 from d3.2.2.1)] at eM
    have f6 : ∀ p i, ¬ (p = 3 ∧ i = 0) → (st gM5 3 0 (i3 (n + 1))) p i = gM5 p i := fun p i z => by rw [st_at, if_neg z]
    have := nb_le w4
    refine ⟨0, fp5, t5, gX5, _, eX, eM, d3.fr (fun _ _ => rfl) (fun _ => rfl) (fun i _ _ => f6 0 i (by omega)) (fun i => f6 1 i (by omega)), P5, Q5.tr (fun p i z1 z2 z3 z4 => f6 p i (by omega)), fun _ => ⟨by omega, n + 1, N, fun p => if p = n then v1 else K p, F, fun p => if p = n then v3 else D p, ?_⟩⟩
    obtain ⟨h1, h2, h3, h4, h5, h6, h7, h8, h9, h10, h11⟩ := hL1
    have gx : ∀ p i, ¬ p = 1 → ¬ (p = 20 ∧ i = n) → ¬ (p = 21 ∧ i = n) → ¬ (p = 22 ∧ i = n) → ¬ (p = 3 ∧ i = 0) → gX5 p i = gX1 p i := fun p i z1 z2 z3 z4 z5 => (d4 p i (by omega)).trans ((f3 p i z3 z4 z5).trans ((b4 p i (by omega)).trans (f1 p i z2)))
    have gm : ∀ p i, ¬ (p = 0 ∧ 4 ≤ i ∧ i ≤ 6) → ¬ (p = 26 + n ∧ i ≤ 1) → ¬ (p = 3 ∧ i = 0) → (st gM5 3 0 (i3 (n + 1))) p i = gM1 p i := fun p i z1 z2 z3 => (f6 p i z3).trans ((d5 p i z1).trans ((f4 p i (by omega)).trans ((b5 p i z1).trans (f2 p i (by omega)))))
    refine ⟨by omega, h2, h3, h4, ?_, (gx 3 1 (by omega) (by omega) (by omega) (by omega) (by omega)).trans h6, st_eq _ _ _ _, (gm 3 1 (by omega) (by omega) (by omega)).trans h8, (gm 0 7 (by omega) (by omega) (by omega)).trans h9, fun p hp => ?_, fun p hp => ?_⟩
    · rw [d4 3 0 (by omega), hX4, st_eq]
    · show gX5 20 p = i3 (if p = n then v1 else K p) ∧ gX5 21 p = i3 (if p = n then v3 else D p) ∧ gX5 22 p = i3 (F p) ∧ (st gM5 3 0 (i3 (n + 1))) (26 + p) 0 = i3 (if p = n then v1 else K p) ∧ (st gM5 3 0 (i3 (n + 1))) (26 + p) 1 = i3 (if p = n then v3 else D p) ∧ (if p = n then v1 else K p) ≤ 9 ∧ (if p = n then v3 else D p) ≤ 60
      by_cases w : p = n
      · subst w
        simp only [if_true]
        have hF : F p = 0 := (h11 p (by omega)).2.2 (Nat.le_refl _)
        refine ⟨?_, ?_, ?_, ?_, ?_, y3, x3⟩
        · rw [d4 20 p (by omega), f3 20 p (by omega) (by omega) (by omega), b4 20 p (by omega), hX2, st_eq]
        · rw [d4 21 p (by omega), hX4, st_at, if_neg (by omega), st_at, if_neg (by omega), st_eq]
        · rw [d4 22 p (by omega), hX4, st_at, if_neg (by omega), st_eq, hF]
        · rw [f6 _ 0 (by omega), d5 _ 0 (by omega), f4 _ 0 (by omega), b5 _ 0 (by omega), hM2, st_eq]
        · rw [f6 _ 1 (by omega), d5 _ 1 (by omega), hM4, st_eq]
      · simp only [if_neg w]
        rw [gx 20 p (by omega) (by omega) (by omega) (by omega) (by omega), gx 21 p (by omega) (by omega) (by omega) (by omega) (by omega), gx 22 p (by omega) (by omega) (by omega) (by omega) (by omega), gm _ 0 (by omega) (by omega) (by omega), gm _ 1 (by omega) (by omega) (by omega)]
        exact h10 p (by omega)
    · rw [gm 7 p (by omega) (by omega) (by omega)]
      obtain ⟨z1, z2, z3⟩ := h11 p hp
      exact ⟨z1, z2, fun z => z3 (by omega)⟩
  · rw [if_neg (d3.2.n5 q)] at eM
    have f6 : ∀ p i, ¬ (p = 3 ∧ i = 0) → (st gM5 3 0 (i3 n)) p i = gM5 p i := fun p i z => by rw [st_at, if_neg z]
    exact ⟨ft5, fp5, t5, gX5, _, eX, eM, d3.fr (fun _ _ => rfl) (fun _ => rfl) (fun i _ _ => f6 0 i (by omega)) (fun i => f6 1 i (by omega)), P5, Q5.tr (fun p i z1 z2 z3 z4 => f6 p i (by omega)), fun z => absurd z q⟩
end PN
