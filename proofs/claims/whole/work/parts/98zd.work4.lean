/-! PURE: work: a step is read, no again -/
def FXs (x : Nat) (g g' : St) : Prop := ∀ p i, ¬ (p = 1 ∧ 3 ≤ i ∧ i ≤ 7) → ¬ (30 ≤ p ∧ p ≤ 32 ∧ i = x) → ¬ (p = 7 ∧ i = 5) → g' p i = g p i
def FMs (s : Nat) (g g' : St) : Prop := ∀ p i, ¬ (p = 0 ∧ 4 ≤ i ∧ i ≤ 6) → ¬ (p = 378 + s ∧ 1 ≤ i) → g' p i = g p i
theorem FRX.s {x : Nat} {g g' : St} (h : FRX g g') : FXs x g g' := fun p i a _ _ => h p i a
theorem FRM.s {s : Nat} {g g' : St} (h : FRM g g') : FMs s g g' := fun p i a _ => h p i a
theorem FXs.tr {x : Nat} {g g1 g2 : St} (h : FXs x g g1) (k : FXs x g1 g2) : FXs x g g2 := fun p i a b c => (k p i a b c).trans (h p i a b c)
theorem FMs.tr {s : Nat} {g g1 g2 : St} (h : FMs s g g1) (k : FMs s g1 g2) : FMs s g g2 := fun p i a b => (k p i a b).trans (h p i a b)
def RDR (n e : Nat) (b : Nat → Nat) (t s x : Nat) (eX eM : Option St) (gX gM : St) : Prop := ∃ ft' fp' t' gX' gM', eX = some gX' ∧ eM = some gM' ∧ TS e b ft' fp' t' gX' gM' ∧ FXs x gX gX' ∧ FMs s gM gM' ∧ (ft' = 0 → t < t' ∧ (∃ c, gX' 1 3 = i3 c ∧ t < c ∧ c ≤ t') ∧ SR n gX' gM' s x ∧ gX' 7 5 = i3 (x + 1))
section RD4
variable {n e ft fp t s x : Nat} {b : Nat → Nat} {gX gM : St} {rec : St → Option St}
theorem rd_fin (h : TS e b ft fp t gX gM) (hx : gX 7 5 = i3 x) (hx1 : x < 150) (hs : gM 0 26 = i3 (s + 1)) (hs1 : s < 80) (v0 v1 v2 : Int32) : ∃ ft' fp' t' gX' gM', ((fX_Steps_add v0 v1 v2 gX).bind fun g => fX_Steps_readStep_b176 g) = some gX' ∧ fM_readsStep_b202 rec (378 + s) gM = some gM' ∧ TS e b ft' fp' t' gX' gM' ∧ (gX' 30 x = v0 ∧ gX' 31 x = v1 ∧ gX' 32 x = v2 ∧ gX' 7 5 = i3 (x + 1)) ∧ FXs x gX gX' ∧ gM' (378 + s) 3 = i3 (s + 1) ∧ (∀ p i, ¬ (p = 0 ∧ 4 ≤ i ∧ i ≤ 6) → ¬ (p = 378 + s ∧ i = 3) → gM' p i = gM p i) ∧ (ft' = 0 → ft = 0 ∧ t < t' ∧ ∃ c, gX' 1 3 = i3 c ∧ t < c ∧ c ≤ t') := by
  obtain ⟨gX1, hX1⟩ : ∃ z, z = st (st (st (st gX 30 x v0) 31 x v1) 32 x v2) 7 5 (i3 (x + 1)) := ⟨_, rfl⟩
  obtain ⟨gM1, hM1⟩ : ∃ z, z = st gM (378 + s) 3 (i3 (s + 1)) := ⟨_, rfl⟩
  have f1 : ∀ p i, ¬ (30 ≤ p ∧ p ≤ 32 ∧ i = x) → ¬ (p = 7 ∧ i = 5) → gX1 p i = gX p i := fun p i z1 z2 => by rw [hX1, st_at, if_neg z2, st_at, if_neg (by omega), st_at, if_neg (by omega), st_at, if_neg (by omega)]
  have f2 : ∀ p i, ¬ (p = 378 + s ∧ i = 3) → gM1 p i = gM p i := fun p i z => by rw [hM1, st_at, if_neg z]
  have h1 : TS e b ft fp t gX1 gM1 := h.fr (fun i _ => f1 1 i (by omega) (by omega)) (fun i => f1 16 i (by omega) (by omega)) (fun i _ _ => f2 0 i (by omega)) (fun i => f2 1 i (by omega))
  obtain ⟨ft2, fp2, t2, gX2, gM2, a1, a2, a3, a4, a5, a6, a7⟩ := sign_both h1 (s := 59) (by omega)
  have eA : fX_Steps_add v0 v1 v2 gX = some gX1 := by
    unfold fX_Steps_add
    rw [hx]
    show (if i3 150 ≤ i3 x then _ else (fX_Rows_put 30 (i3 x) v0 gX).bind _) = _
    rw [if_neg (i3_nle (by omega) hx1), pu150 (by omega) hx1, ob_s]
    show (fX_Rows_put 31 ((st gX 30 x v0) 7 5) v1 (st gX 30 x v0)).bind _ = _
    rw [show (st gX 30 x v0) 7 5 = i3 x by rw [st_ne (by omega)]; exact hx, pu150 (by omega) hx1, ob_s]
    show (fX_Rows_put 32 ((st (st gX 30 x v0) 31 x v1) 7 5) v2 (st (st gX 30 x v0) 31 x v1)).bind _ = _
    rw [show (st (st gX 30 x v0) 31 x v1) 7 5 = i3 x by rw [st_ne (by omega), st_ne (by omega)]; exact hx, pu150 (by omega) hx1, ob_s]
    rw [show (st (st (st gX 30 x v0) 31 x v1) 32 x v2) 7 5 = i3 x by rw [st_ne (by omega), st_ne (by omega), st_ne (by omega)]; exact hx]
    show some (st _ 7 5 (i3 x + i3 1)) = _
    rw [i3_add, ← hX1]
  refine ⟨ft2, fp2, t2, gX2, gM2, ?_, ?_, a3, ⟨?_, ?_, ?_, ?_⟩, fun p i z1 z2 z3 => (a4 p i z1).trans (f1 p i z2 z3), ?_, fun p i z1 z2 => (a5 p i z1).trans (f2 p i z2), fun z => ?_⟩
  · rw [eA, ob_s]
    unfold fX_Steps_readStep_b176
    show (fX_Text_expect (i3 59) gX1).bind _ = _
    rw [a1, ob_s]
  · unfold fM_readsStep_b202
    rw [ln4 hs1, if_pos (by decide), hs, ← hM1]
    show (fM_sign (i3 59) gM1).bind _ = _
    rw [a2, ob_s]
  · rw [a4 30 x (by omega), hX1, st_ne (by omega), st_ne (by omega), st_ne (by omega), st_eq]
  · rw [a4 31 x (by omega), hX1, st_ne (by omega), st_ne (by omega), st_eq]
  · rw [a4 32 x (by omega), hX1, st_ne (by omega), st_eq]
  · rw [a4 7 5 (by omega), hX1, st_eq]
  · rw [a5 _ 3 (by omega), hM1, st_eq]
  · subst z
    obtain ⟨w1, w2, w3, w4, w5⟩ := a6 rfl
    have := nb_le w4
    exact ⟨w1, by omega, t + 1, w5, by omega, by omega⟩
theorem rd_year (h : TS e b 0 fp t gX gM) (hx : gX 7 5 = i3 x) (hx1 : x < 150) (hs : gM 0 26 = i3 (s + 1)) (hs1 : s < 80) (h0 : gM (378 + s) 0 = i3 4) : RDR n e b t s x ((fX_Steps_add (4 : Int32) (0 : Int32) (0 : Int32) gX).bind fun g => fX_Steps_readStep_b176 g) (fM_readsStep_b89 rec (i3 4) (378 + s) gM) gX gM := by
  obtain ⟨ft', fp', t', gX', gM', a1, a2, a3, ⟨a4, a5, a6, a7⟩, a8, a9, a10, a11⟩ := rd_fin (rec := rec) h hx hx1 hs hs1 (4 : Int32) (0 : Int32) (0 : Int32)
  refine ⟨ft', fp', t', gX', gM', a1, ?_, a3, a8, fun p i z1 z2 => a10 p i z1 (by omega), fun z => ?_⟩
  · unfold fM_readsStep_b89
    show (if i3 4 = i3 1 then _ else fM_readsStep_b110 rec (i3 4) (378 + s) gM) = _
    rw [if_neg (by decide)]
    unfold fM_readsStep_b110
    show (if i3 4 = i3 2 then _ else if i3 4 = i3 3 then _ else fM_readsStep_b130 rec (i3 4) (378 + s) gM) = _
    rw [if_neg (by decide), if_neg (by decide)]
    unfold fM_readsStep_b130
    show (if i3 4 = i3 5 then _ else fM_readsStep_b202 rec (378 + s) gM) = _
    rw [if_neg (by decide), a2]
  · obtain ⟨w1, w2, w3⟩ := a11 z
    exact ⟨w2, w3, ⟨a9, 4, 0, 0, a4, a5, a6, (a10 _ 0 (by omega) (by omega)).trans h0, Or.inr (Or.inr (Or.inr rfl))⟩, a7⟩
/-- the first number of a step: both sides -/
theorem rd_num (hn : n ≤ 8) (h : TS e b 0 fp t gX gM) (h4 : gM 4 0 = i3 n) (hs1 : s < 80) : ∃ ft' fp' t' a gX' gM', fX_Text_number (0 : Int32) (i3 n - (1 : Int32)) gX = some ((if ft' = 0 then i3 a else m1), gX') ∧ fM_number (0 : Int32) (gM 4 0 - (1 : Int32)) gM = some ((if ft' = 0 then i3 a else i3 0), gM') ∧ TS e b ft' fp' t' gX' (st gM' (378 + s) 1 (if ft' = 0 then i3 a else i3 0)) ∧ FRX gX gX' ∧ (∀ p i, ¬ (p = 0 ∧ 4 ≤ i ∧ i ≤ 6) → ¬ (p = 378 + s ∧ i = 1) → (st gM' (378 + s) 1 (if ft' = 0 then i3 a else i3 0)) p i = gM p i) ∧ (ft' = 0 → a < n ∧ t < t') := by
  obtain ⟨ft1, fp1, t1, v, gX1, gM1, a1, a2, a3, a4, a5, a6⟩ := num_both h (lo := 0) (H := n) (by omega) (by omega)
  have f2 : ∀ (z : Int32) p i, ¬ (p = 378 + s ∧ i = 1) → (st gM1 (378 + s) 1 z) p i = gM1 p i := fun z p i w => by rw [st_at, if_neg w]
  rw [h4]
  exact ⟨ft1, fp1, t1, v, gX1, gM1, a1, a2, a3.fr (fun _ _ => rfl) (fun _ => rfl) (fun i _ _ => f2 _ 0 i (by omega)) (fun i => f2 _ 1 i (by omega)), a4, fun p i z1 z2 => (f2 _ p i z2).trans (a5 p i z1), fun z => ⟨(a6 z).2.2.1, (a6 z).2.2.2.1⟩⟩
theorem rd_die (hn : n ≤ 8) (h : TS e b 0 fp t gX gM) (h4 : gM 4 0 = i3 n) (hx : gX 7 5 = i3 x) (hx1 : x < 150) (hs : gM 0 26 = i3 (s + 1)) (hs1 : s < 80) (h0 : gM (378 + s) 0 = i3 0) : RDR n e b t s x ((fX_Text_number (0 : Int32) (i3 n - (1 : Int32)) gX).bind fun z => ((fX_Steps_add (0 : Int32) z.1 (0 : Int32) z.2).bind fun g => fX_Steps_readStep_b176 g)) ((fM_number (0 : Int32) (gM 4 0 - (1 : Int32)) gM).bind fun z => fM_readsStep_b89 rec (i3 0) (378 + s) (st z.2 (378 + s) 1 z.1)) gX gM := by
  obtain ⟨ft1, fp1, t1, a, gX1, gM1, c1, c2, c3, c4, c5, c6⟩ := rd_num hn h h4 hs1
  obtain ⟨gM2, hM2⟩ : ∃ z, z = st gM1 (378 + s) 1 (if ft1 = 0 then i3 a else i3 0) := ⟨_, rfl⟩
  rw [← hM2] at c3 c5
  obtain ⟨ft', fp', t', gX', gM', a1, a2, a3, ⟨a4, a5, a6, a7⟩, a8, a9, a10, a11⟩ := rd_fin (rec := rec) c3 ((c4 7 5 (by omega)).trans hx) hx1 ((c5 0 26 (by omega) (by omega)).trans hs) hs1 (0 : Int32) (if ft1 = 0 then i3 a else m1) (0 : Int32)
  refine ⟨ft', fp', t', gX', gM', ?_, ?_, a3, c4.s.tr a8, fun p i z1 z2 => (a10 p i z1 (by omega)).trans (c5 p i z1 (by omega)), fun z => ?_⟩
  · rw [c1, ob_s]
    exact a1
  · rw [c2, ob_s]
    show fM_readsStep_b89 rec (i3 0) (378 + s) (st gM1 (378 + s) 1 (if ft1 = 0 then i3 a else i3 0)) = _
    rw [← hM2]
    unfold fM_readsStep_b89
    show (if i3 0 = i3 1 then _ else fM_readsStep_b110 rec (i3 0) (378 + s) gM2) = _
    rw [if_neg (by decide)]
    unfold fM_readsStep_b110
    show (if i3 0 = i3 2 then _ else if i3 0 = i3 3 then _ else fM_readsStep_b130 rec (i3 0) (378 + s) gM2) = _
    rw [if_neg (by decide), if_neg (by decide)]
    unfold fM_readsStep_b130
    show (if i3 0 = i3 5 then _ else fM_readsStep_b202 rec (378 + s) gM2) = _
    rw [if_neg (by decide), a2]
  · obtain ⟨w1, w2, c, w3, w4, w5⟩ := a11 z
    subst w1
    obtain ⟨y1, y2⟩ := c6 rfl
    rw [if_pos rfl] at a5 hM2
    refine ⟨by omega, ⟨c, w3, by omega, w5⟩, ⟨a9, 0, a, 0, a4, a5, a6, ?_, Or.inl ⟨rfl, y1, ?_⟩⟩, a7⟩
    · rw [a10 _ 0 (by omega) (by omega), c5 _ 0 (by omega) (by omega)]; exact h0
    · rw [a10 _ 1 (by omega) (by omega), hM2, st_eq]
theorem rd_two {k : Nat} (hk : k = 1 ∨ k = 2 ∨ k = 3) (hn : n ≤ 8) (h : TS e b 0 fp t gX gM) (h4 : gM 4 0 = i3 n) (hx : gX 7 5 = i3 x) (hx1 : x < 150) (hs : gM 0 26 = i3 (s + 1)) (hs1 : s < 80) (h0 : gM (378 + s) 0 = i3 k) : RDR n e b t s x ((fX_Text_number (0 : Int32) (i3 n - (1 : Int32)) gX).bind fun z => ((if k = 1 then fX_Text_number (0 : Int32) (i3 n - (1 : Int32)) z.2 else fX_Text_number (1 : Int32) (60 : Int32) z.2).bind fun z2 => (fX_Steps_add (i3 k) z.1 z2.1 z2.2).bind fun g => fX_Steps_readStep_b176 g)) ((fM_number (0 : Int32) (gM 4 0 - (1 : Int32)) gM).bind fun z => fM_readsStep_b89 rec (i3 k) (378 + s) (st z.2 (378 + s) 1 z.1)) gX gM := by
  obtain ⟨ft1, fp1, t1, a, gX1, gM1, c1, c2, c3, c4, c5, c6⟩ := rd_num hn h h4 hs1
  obtain ⟨gM2, hM2⟩ : ∃ z, z = st gM1 (378 + s) 1 (if ft1 = 0 then i3 a else i3 0) := ⟨_, rfl⟩
  rw [← hM2] at c3 c5
  have h42 : gM2 4 0 = i3 n := (c5 4 0 (by omega) (by omega)).trans h4
  -- the second number
  obtain ⟨ft2, fp2, t2, c, gX3, gM3, d1, d2, d3, d4, d5, d6⟩ : ∃ ft2 fp2 t2 c gX3 gM3, (if k = 1 then fX_Text_number (0 : Int32) (i3 n - (1 : Int32)) gX1 else fX_Text_number (1 : Int32) (60 : Int32) gX1) = some ((if ft2 = 0 then i3 c else m1), gX3) ∧ (if k = 1 then fM_number (0 : Int32) (i3 n - (1 : Int32)) gM2 else fM_number (1 : Int32) (60 : Int32) gM2) = some ((if ft2 = 0 then i3 c else i3 0), gM3) ∧ TS e b ft2 fp2 t2 gX3 gM3 ∧ FRX gX1 gX3 ∧ FRM gM2 gM3 ∧ (ft2 = 0 → ft1 = 0 ∧ t1 < t2 ∧ (k = 1 → c < n) ∧ (¬ k = 1 → 1 ≤ c ∧ c ≤ 60)) := by
    by_cases q : k = 1
    · obtain ⟨ft2, fp2, t2, c, gX3, gM3, d1, d2, d3, d4, d5, d6⟩ := num_both c3 (lo := 0) (H := n) (by omega) (by omega)
      rw [if_pos q, if_pos q]
      exact ⟨ft2, fp2, t2, c, gX3, gM3, d1, d2, d3, d4, d5, fun z => ⟨(d6 z).1, (d6 z).2.2.2.1, fun _ => (d6 z).2.2.1, fun w => absurd q w⟩⟩
    · obtain ⟨ft2, fp2, t2, c, gX3, gM3, d1, d2, d3, d4, d5, d6⟩ := numK c3 (lo := 1) (H := 60) (by omega) (by omega)
      rw [if_neg q, if_neg q]
      exact ⟨ft2, fp2, t2, c, gX3, gM3, d1, d2, d3, d4, d5, fun z => ⟨(d6 z).1, (d6 z).2.2.2.1, fun w => absurd w q, fun _ => ⟨(d6 z).2.1, (d6 z).2.2.1⟩⟩⟩
  obtain ⟨gM4, hM4⟩ : ∃ z, z = st gM3 (378 + s) 2 (if ft2 = 0 then i3 c else i3 0) := ⟨_, rfl⟩
  have f4 : ∀ p i, ¬ (p = 378 + s ∧ i = 2) → gM4 p i = gM3 p i := fun p i z => by rw [hM4, st_at, if_neg z]
  have h44 : TS e b ft2 fp2 t2 gX3 gM4 := d3.fr (fun _ _ => rfl) (fun _ => rfl) (fun i _ _ => f4 0 i (by omega)) (fun i => f4 1 i (by omega))
  obtain ⟨ft', fp', t', gX', gM', a1, a2, a3, ⟨a4, a5, a6, a7⟩, a8, a9, a10, a11⟩ := rd_fin (rec := rec) h44 ((d4 7 5 (by omega)).trans ((c4 7 5 (by omega)).trans hx)) hx1 ((f4 0 26 (by omega)).trans ((d5 0 26 (by omega)).trans ((c5 0 26 (by omega) (by omega)).trans hs))) hs1 (i3 k) (if ft1 = 0 then i3 a else m1) (if ft2 = 0 then i3 c else m1)
  refine ⟨ft', fp', t', gX', gM', ?_, ?_, a3, (c4.s.tr d4.s).tr a8, fun p i z1 z2 => (a10 p i z1 (by omega)).trans ((f4 p i (by omega)).trans ((d5 p i z1).trans (c5 p i z1 (by omega)))), fun z => ?_⟩
  · rw [c1, ob_s]
    show ((if k = 1 then fX_Text_number (0 : Int32) (i3 n - (1 : Int32)) gX1 else fX_Text_number (1 : Int32) (60 : Int32) gX1).bind _) = _
    rw [d1, ob_s]
    exact a1
  · rw [c2, ob_s]
    show fM_readsStep_b89 rec (i3 k) (378 + s) (st gM1 (378 + s) 1 (if ft1 = 0 then i3 a else i3 0)) = _
    rw [← hM2]
    have h130 : fM_readsStep_b130 rec (i3 k) (378 + s) gM4 = some gM' := by
      unfold fM_readsStep_b130
      show (if i3 k = i3 5 then _ else fM_readsStep_b202 rec (378 + s) gM4) = _
      rw [if_neg (by rw [i3_eq (by omega) (by omega)]; omega), a2]
    have hlen : ¬ ((2 : Int32) < 0 ∨ lenW shM (378 + s) ≤ (2 : Int32).toNatClampNeg) := by
      rw [ln4 hs1]
      decide
    unfold fM_readsStep_b89
    by_cases q : k = 1
    · subst q
      rw [if_pos rfl] at d2
      show (if i3 1 = i3 1 then (fM_number (i3 0) (gM2 4 0 - i3 1) gM2).bind _ else _) = _
      rw [if_pos rfl, h42]
      show (fM_number (0 : Int32) (i3 n - (1 : Int32)) gM2).bind _ = _
      rw [d2, ob_s]
      show (if ¬ ((2 : Int32) < 0 ∨ lenW shM (378 + s) ≤ (2 : Int32).toNatClampNeg) then fM_readsStep_b110 rec (i3 1) (378 + s) (st gM3 (378 + s) 2 (if ft2 = 0 then i3 c else i3 0)) else none) = _
      rw [if_pos hlen, ← hM4]
      unfold fM_readsStep_b110
      show (if i3 1 = i3 2 then _ else if i3 1 = i3 3 then _ else fM_readsStep_b130 rec (i3 1) (378 + s) gM4) = _
      rw [if_neg (by decide), if_neg (by decide), h130]
    · rw [if_neg q] at d2
      show (if i3 k = i3 1 then _ else fM_readsStep_b110 rec (i3 k) (378 + s) gM2) = _
      rw [if_neg (by rw [i3_eq (by omega) (by omega)]; exact q)]
      have h120 : fM_readsStep_b120 rec (i3 k) (378 + s) gM2 = some gM' := by
        unfold fM_readsStep_b120
        rw [d2, ob_s]
        show (if ¬ ((2 : Int32) < 0 ∨ lenW shM (378 + s) ≤ (2 : Int32).toNatClampNeg) then fM_readsStep_b130 rec (i3 k) (378 + s) (st gM3 (378 + s) 2 (if ft2 = 0 then i3 c else i3 0)) else none) = _
        rw [if_pos hlen, ← hM4, h130]
      unfold fM_readsStep_b110
      show (if i3 k = i3 2 then fM_readsStep_b120 rec (i3 k) (378 + s) gM2 else if i3 k = i3 3 then fM_readsStep_b120 rec (i3 k) (378 + s) gM2 else _) = _
      by_cases q2 : k = 2
      · rw [if_pos (by rw [q2]), h120]
      · rw [if_neg (by rw [i3_eq (by omega) (by omega)]; exact q2), if_pos (by rw [(hk.resolve_left q).resolve_left q2]), h120]
  · obtain ⟨w1, w2, cc, w3, w4, w5⟩ := a11 z
    subst w1
    obtain ⟨w6, w7, w8, w9⟩ := d6 rfl
    subst w6
    obtain ⟨y1, y2⟩ := c6 rfl
    rw [if_pos rfl] at a5 a6 hM2 hM4
    have m0 : gM' (378 + s) 0 = i3 k := by rw [a10 _ 0 (by omega) (by omega), f4 _ 0 (by omega), d5 _ 0 (by omega), c5 _ 0 (by omega) (by omega)]; exact h0
    have m1' : gM' (378 + s) 1 = i3 a := by rw [a10 _ 1 (by omega) (by omega), f4 _ 1 (by omega), d5 _ 1 (by omega), hM2, st_eq]
    have m2' : gM' (378 + s) 2 = i3 c := by rw [a10 _ 2 (by omega) (by omega), hM4, st_eq]
    refine ⟨by omega, ⟨cc, w3, by omega, w5⟩, ⟨a9, k, a, c, a4, a5, a6, m0, ?_⟩, a7⟩
    by_cases q : k = 1
    · exact Or.inr (Or.inl ⟨q, y1, w8 q, m1', m2'⟩)
    · exact Or.inr (Or.inr (Or.inl ⟨hk.resolve_left q, y1, (w9 q).1, (w9 q).2, m1', m2'⟩))
end RD4
