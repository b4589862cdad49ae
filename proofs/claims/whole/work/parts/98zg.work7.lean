/-! PURE: work: agains are read -/
section AG7
variable {n e ft fp t k x s o h m t1 : Nat} {b : Nat → Nat} {g g' gX gM gX0 gM0 gX' gM' : St} {rec : St → Option St}
theorem add_st (hx : g 7 5 = i3 x) (hx1 : x < 150) (v0 v1 v2 : Int32) : fX_Steps_add v0 v1 v2 g = some (st (st (st (st g 30 x v0) 31 x v1) 32 x v2) 7 5 (i3 (x + 1))) := by
  unfold fX_Steps_add
  rw [hx]
  show (if i3 150 ≤ i3 x then _ else (fX_Rows_put 30 (i3 x) v0 g).bind _) = _
  rw [if_neg (i3_nle (by omega) hx1), pu150 (by omega) hx1, ob_s]
  show (fX_Rows_put 31 ((st g 30 x v0) 7 5) v1 (st g 30 x v0)).bind _ = _
  rw [show (st g 30 x v0) 7 5 = i3 x by rw [st_ne (by omega)]; exact hx, pu150 (by omega) hx1, ob_s]
  show (fX_Rows_put 32 ((st (st g 30 x v0) 31 x v1) 7 5) v2 (st (st g 30 x v0) 31 x v1)).bind _ = _
  rw [show (st (st g 30 x v0) 31 x v1) 7 5 = i3 x by rw [st_ne (by omega), st_ne (by omega)]; exact hx, pu150 (by omega) hx1, ob_s]
  rw [show (st (st (st g 30 x v0) 31 x v1) 32 x v2) 7 5 = i3 x by rw [st_ne (by omega), st_ne (by omega), st_ne (by omega)]; exact hx]
  show some (st _ 7 5 (i3 x + i3 1)) = _
  rw [i3_add]
theorem opW_ok (h8 : g 0 8 = i3 o) (hm : Mt e b 0 fp t g) (ho : o < 6) : ∃ g', fM_opensOne g = (i3 1, g') ∧ g' 0 8 = i3 (o + 1) ∧ Mt e b 0 fp t g' ∧ ∀ p i, ¬ (p = 0 ∧ i = 8) → g' p i = g p i := by
  have f : ∀ p i, ¬ (p = 0 ∧ i = 8) → (st g 0 8 (i3 (o + 1))) p i = g p i := fun p i z => by rw [st_at, if_neg z]
  refine ⟨_, ?_, st_eq _ _ _ _, hm.frN (fun p i z1 z2 => f p i (by omega)), f⟩
  have h0 := hm.2.1
  unfold fM_opensOne
  show (if g 0 5 = 0 then if g 0 8 = i3 6 then _ else _ else _) = _
  rw [if_pos (show g 0 5 = 0 from h0), h8, if_neg (by rw [i3_eq (by omega) (by omega)]; omega)]
  unfold fM_opensOne_b28
  rw [if_pos (show g 0 5 = 0 from h0), h8]
  unfold fM_opensOne_b45
  rw [show i3 o + (1 : Int32) = i3 (o + 1) from i3_add o 1, if_pos (show (st g 0 8 (i3 (o + 1))) 0 5 = 0 from (f 0 5 (by omega)).trans h0)]
  rfl
theorem opW_full (h8 : g 0 8 = i3 6) (hm : Mt e b 0 fp t g) (h4 : g 0 4 = i3 t) : ∃ g', fM_opensOne g = (i3 0, g') ∧ Mt e b 3 t t g' ∧ FRM g g' := by
  obtain ⟨g', e1, e2, e3⟩ := M_wrong (p := t) hm (k := 3) (by omega) (by omega)
  refine ⟨g', ?_, e2, fun p i z => e3 p i (by omega)⟩
  have h0 := hm.2.1
  unfold fM_opensOne
  show (if g 0 5 = 0 then if g 0 8 = i3 6 then lt1 (fM_wrong (i3 3) (g 0 4) g) _ else _ else _) = _
  rw [if_pos (show g 0 5 = 0 from h0), h8, if_pos rfl, h4, e1, lt1_e]
  unfold fM_opensOne_b45
  rw [if_neg (e2.n5 (by omega))]
  rfl
theorem X_numF (h : Xt e b ft fp t g) (q : ¬ ft = 0) (x y : Int32) : fX_Text_number x y g = some (m1, g) := by
  unfold fX_Text_number
  rw [if_neg (h.n6 q)]
  rfl
theorem X_expF (h : Xt e b ft fp t g) (q : ¬ ft = 0) (x : Int32) : fX_Text_expect x g = some g := by
  unfold fX_Text_expect
  rw [if_neg (h.n6 q)]
/-- what the reference does behind a body that went wrong -/
theorem tailW (hB : BADw n e b gX0 gM0 k gX gM) (hs : s < 80) : ∃ gM', ((fM_sign (93 : Int32) gM).bind fun g189 => fM_readsStep_b202 rec (378 + s) (st g189 0 8 (g189 0 8 - (1 : Int32)))) = some gM' ∧ BADw n e b gX0 gM0 k gX gM' := by
  have hB1 : BADw n e b gX0 gM0 k gX (st gM 0 8 (gM 0 8 - (1 : Int32))) := hB.M (fun p i z1 z2 => by rw [st_at, if_neg (by omega)])
  have hB2 : BADw n e b gX0 gM0 k gX (st (st gM 0 8 (gM 0 8 - (1 : Int32))) (378 + s) 3 ((st gM 0 8 (gM 0 8 - (1 : Int32))) 0 26)) := hB1.M (fun p i z1 z2 => by rw [st_at, if_neg (by omega)])
  refine ⟨_, ?_, hB2⟩
  rw [hB.sign, ob_s]
  unfold fM_readsStep_b202
  rw [ln4 hs, if_pos (by decide), hB2.sign, ob_s]
theorem tailW2 {x2 : Nat} (hB : BADw n e b gX0 gM0 k gX gM) : lp (fM_readsStep_L155 rec x2) fuel gM = some gM := by
  rw [show fuel = 999999 + 1 from rfl]
  refine lp_inr ?_
  unfold fM_readsStep_L155
  rw [if_neg hB.n5]
/-- the end of an again -/
theorem again_close (hn : n ≤ 8) (he : e ≤ 150) {N s' x' d : Nat} (hW : Ww e b fp t k x' s' (o + 1) n gX gM) (hX : WXF gX0 gX) (hM : WMF gM0 gM) (ht : t < e) (hb : b t = 93) (hN : N ≤ 60) (hs80 : s < 80) (hxx : x < x') (h30 : gX 30 x = i3 5) (h31 : gX 31 x = i3 N) (h33 : gX 33 o = i3 x) (m0 : gM (378 + s) 0 = i3 5) (m1' : gM (378 + s) 1 = i3 N) (hBk : Bk n gX gM d h (s + 1) s' (x + 1) x') : ∃ gM', ((fM_sign (93 : Int32) gM).bind fun g189 => fM_readsStep_b202 rec (378 + s) (st g189 0 8 (g189 0 8 - (1 : Int32)))) = some gM' ∧ (BADw n e b gX0 gM0 k gX gM' ∨ ∃ k' gX' fp' t', RG n k gX k' gX' ∧ Ww e b fp' t' k' (x' + 1) s' o n gX' gM' ∧ WXF gX0 gX' ∧ WMF gM0 gM' ∧ KPX x o gX gX' ∧ KPM s gM gM' ∧ t < t' ∧ Bk n gX' gM' (d + 1) (h + 1) s s' x (x' + 1)) := by
  obtain ⟨hT, w1, w2, w3, w4, w5, ⟨c, c1, c2, c3, c4, c5⟩, ho⟩ := hW
  have h600 := hT.1.c600
  have hle := Bk.le _ _ _ _ _ _ hBk
  -- the reference: the bracket
  obtain ⟨ftA, fpA, tA, gXA, gM2, _, y2, y3, _, y5, y6, y7⟩ := sign_both hT (s := 93) (by omega)
  have hA0 : ftA = 0 := by
    by_cases z : ftA = 0
    · exact z
    · exact absurd ⟨ht, hb⟩ (y7 z rfl).1
  subst hA0
  obtain ⟨_, _, _, hnA, _⟩ := y6 rfl
  have hnn := nb_le hnA
  -- the class: the bracket
  obtain ⟨g7, b1, b2, b3, _, b4⟩ := loopW (n := n) (k := k) hT.1 (by omega) ht w2 ho
  replace b4 := b4 ⟨by omega, hb⟩
  obtain ⟨p1, p2⟩ := b1.pass b3 ht hnA
  obtain ⟨g8, hg8⟩ : ∃ z, z = st g7 1 3 (i3 (t + 1)) := ⟨_, rfl⟩
  rw [← hg8] at p1 p2
  have F8 : FRX gX g8 := b2.tr (fun p i z => by rw [hg8, st_at, if_neg (by omega)])
  obtain ⟨g9, hg9⟩ : ∃ z, z = st g8 7 6 (i3 o) := ⟨_, rfl⟩
  obtain ⟨g10, hg10⟩ : ∃ z, z = st g9 32 x (i3 x') := ⟨_, rfl⟩
  obtain ⟨g11, hg11⟩ : ∃ z, z = st (st (st (st g10 30 x' (i3 6)) 31 x' (i3 x)) 32 x' (i3 0)) 7 5 (i3 (x' + 1)) := ⟨_, rfl⟩
  have f10 : ∀ p i, ¬ (p = 7 ∧ i = 6) → ¬ (p = 32 ∧ i = x) → g10 p i = g8 p i := fun p i z1 z2 => by rw [hg10, st_at, if_neg z2, hg9, st_at, if_neg z1]
  have f11 : ∀ p i, ¬ (p = 7 ∧ (i = 5 ∨ i = 6)) → ¬ (30 ≤ p ∧ p ≤ 32 ∧ i = x') → ¬ (p = 32 ∧ i = x) → g11 p i = g8 p i := fun p i z1 z2 z3 => by
    rw [hg11, st_at, if_neg (by omega), st_at, if_neg (by omega), st_at, if_neg (by omega), st_at, if_neg (by omega)]
    exact f10 p i (by omega) z3
  have eC : fX_Steps_closeAgain g8 = some g11 := by
    unfold fX_Steps_closeAgain
    have q6 : g8 7 6 = i3 (o + 1) := (F8 7 6 (by omega)).trans w2
    have q5 : g8 7 5 = i3 x' := (F8 7 5 (by omega)).trans w1
    rw [q6, q5, show i3 (o + 1) - (1 : Int32) = i3 o from (i3_sub (a := o + 1) (b := 1) (by omega)).trans (by rfl), ← hg9, at33 (by omega), ob_s, hg9, st_ne (by omega), F8 33 o (by omega), h33, ← hg9, pu150 (by omega) (by omega), ob_s, ← hg10]
    rw [show fX_Steps_add (6 : Int32) (i3 x) (0 : Int32) g10 = some g11 from (add_st (x := x') (by rw [hg10, st_ne (by omega), hg9, st_at, if_neg (by omega)]; exact q5) (by omega) _ _ _).trans (by rw [hg11]; rfl), ob_s]
  obtain ⟨gM3, hM3⟩ : ∃ z, z = st gM2 0 8 (i3 o) := ⟨_, rfl⟩
  obtain ⟨gM4, hM4⟩ : ∃ z, z = st gM3 (378 + s) 3 (i3 s') := ⟨_, rfl⟩
  have k4 : ∀ p i, ¬ (p = 0 ∧ i = 8) → ¬ (p = 378 + s ∧ i = 3) → gM4 p i = gM2 p i := fun p i z1 z2 => by rw [hM4, st_at, if_neg z2, hM3, st_at, if_neg z1]
  have hT4 : TS e b 0 fp tA g11 gM4 := by
    refine ⟨p2.fr (fun i _ => f11 1 i (by omega) (by omega) (by omega)) (fun i => f11 16 i (by omega) (by omega) (by omega)), ?_⟩
    have hm : Mt e b 0 fpA tA gM4 := y3.2.fr (fun i _ _ => k4 0 i (by omega) (by omega)) (fun i => k4 1 i (by omega) (by omega))
    exact ⟨hm.1, hm.2.1, hm.2.2.1, hm.2.2.2.1, hm.2.2.2.2.1, fun z => absurd rfl z⟩
  obtain ⟨ft5, fp5, t5, gX5, gM5, e1, e2, e3, e4, e5, e6, e7⟩ := sign_both hT4 (s := 59) (by omega)
  have eX : fX_Steps_readFrom_L12 (i3 n) (i3 k, gX) = some (.inl (i3 (k + 1), gX5)) := by
    rw [b4, p1, eC, ob_s]
    show ((fX_Text_expect (i3 59) g11).bind _) = _
    rw [e1, ob_s]
  have eM : ((fM_sign (93 : Int32) gM).bind fun g189 => fM_readsStep_b202 rec (378 + s) (st g189 0 8 (g189 0 8 - (1 : Int32)))) = some gM5 := by
    show ((fM_sign (i3 93) gM).bind _) = _
    rw [y2, ob_s, y5 0 8 (by omega), w4, show i3 (o + 1) - (1 : Int32) = i3 o from (i3_sub (a := o + 1) (b := 1) (by omega)).trans (by rfl), ← hM3]
    unfold fM_readsStep_b202
    rw [ln4 hs80, if_pos (by decide), show gM3 0 26 = i3 s' by rw [hM3, st_at, if_neg (by omega), y5 0 26 (by omega)]; exact w3, ← hM4]
    show (fM_sign (i3 59) gM4).bind _ = _
    rw [e2, ob_s]
  have GX : ∀ p i, ¬ (p = 1 ∧ 3 ≤ i ∧ i ≤ 7) → ¬ (p = 7 ∧ (i = 5 ∨ i = 6)) → ¬ (30 ≤ p ∧ p ≤ 32 ∧ i = x') → ¬ (p = 32 ∧ i = x) → gX5 p i = gX p i := fun p i z1 z2 z3 z4 => (e4 p i z1).trans ((f11 p i z2 z3 z4).trans (F8 p i z1))
  have GM : ∀ p i, ¬ (p = 0 ∧ 4 ≤ i ∧ i ≤ 6) → ¬ (p = 0 ∧ i = 8) → ¬ (p = 378 + s ∧ i = 3) → gM5 p i = gM p i := fun p i z1 z2 z3 => (e5 p i z1).trans ((k4 p i z2 z3).trans (y5 p i z1))
  have hX5 : WXF gX0 gX5 := hX.tr (fun p i z1 z2 z3 => GX p i z1 z2 (by omega) (by omega))
  have hM5 : WMF gM0 gM5 := hM.tr (fun p i z1 z2 z3 => GM p i (by omega) (by omega) (by omega))
  refine ⟨gM5, eM, ?_⟩
  by_cases q : ft5 = 0
  · subst q
    obtain ⟨_, _, _, hn5, q5⟩ := e6 rfl
    have := nb_le hn5
    right
    refine ⟨k + 1, gX5, fp5, t5, RG.one eX, ⟨e3, ?_, ?_, ?_, ?_, (GM 4 0 (by omega) (by omega) (by omega)).trans w5, ⟨tA + 1, q5, by omega, by omega, by omega, by omega⟩, by omega⟩, hX5, hM5, ⟨fun q j hq hj => GX q j (by omega) (by omega) (by omega) (by omega), fun j hj => GX 33 j (by omega) (by omega) (by omega) (by omega)⟩, fun j i hj => GM _ i (by omega) (by omega) (by omega), by omega, ?_⟩
    · rw [e4 7 5 (by omega), hg11, st_eq]
    · rw [e4 7 6 (by omega), hg11, st_at, if_neg (by omega), st_ne (by omega), st_ne (by omega), st_ne (by omega), hg10, st_ne (by omega), hg9, st_eq]
    · exact (GM 0 26 (by omega) (by omega) (by omega)).trans w3
    · rw [e5 0 8 (by omega), hM4, st_ne (by omega), hM3, st_eq]
    · refine Bk.again (N := N) ⟨hN, ?_, ?_, ?_, ?_, ?_, ?_, ?_, ?_⟩ (Bk.fr _ _ _ _ _ _ hBk (fun q j hq h1 h2 => GX q j (by omega) (by omega) (by omega) (by omega)) (fun j i h1 h2 => GM _ i (by omega) (by omega) (by omega)))
      · rw [GX 30 x (by omega) (by omega) (by omega) (by omega)]; exact h30
      · rw [GX 31 x (by omega) (by omega) (by omega) (by omega)]; exact h31
      · rw [e4 32 x (by omega), hg11, st_ne (by omega), st_at, if_neg (by omega), st_ne (by omega), st_ne (by omega), hg10, st_eq]
      · rw [e4 30 x' (by omega), hg11, st_ne (by omega), st_ne (by omega), st_ne (by omega), st_eq]
      · rw [e4 31 x' (by omega), hg11, st_ne (by omega), st_ne (by omega), st_eq]
      · rw [GM _ 0 (by omega) (by omega) (by omega)]; exact m0
      · rw [GM _ 1 (by omega) (by omega) (by omega)]; exact m1'
      · rw [e5 _ 3 (by omega), hM4, st_eq]
  · left
    exact ⟨ft5, fp5, t5, k + 1, gX5, q, e3.2, hM5, RG.one eX, by omega, hX5, wfin_fault e3.1 q _⟩
end AG7
