/-! PURE: work: reading in turns; what goes wrong; brackets' bodies -/
def WXF (g g' : St) : Prop := ∀ p i, ¬ (p = 1 ∧ 3 ≤ i ∧ i ≤ 7) → ¬ (p = 7 ∧ (i = 5 ∨ i = 6)) → ¬ (30 ≤ p ∧ p ≤ 33) → g' p i = g p i
def WMF (g g' : St) : Prop := ∀ p i, ¬ (p = 0 ∧ 4 ≤ i ∧ i ≤ 8) → ¬ (p = 0 ∧ i = 26) → ¬ (378 ≤ p ∧ p < 458) → g' p i = g p i
theorem WXF.rf {g : St} : WXF g g := fun _ _ _ _ _ => rfl
theorem WMF.rf {g : St} : WMF g g := fun _ _ _ _ _ => rfl
theorem WXF.tr {g g1 g2 : St} (h : WXF g g1) (k : WXF g1 g2) : WXF g g2 := fun p i a b c => (k p i a b c).trans (h p i a b c)
theorem WMF.tr {g g1 g2 : St} (h : WMF g g1) (k : WMF g1 g2) : WMF g g2 := fun p i a b c => (k p i a b c).trans (h p i a b c)
theorem FRX.w {g g' : St} (h : FRX g g') : WXF g g' := fun p i a _ _ => h p i a
theorem FRM.w {g g' : St} (h : FRM g g') : WMF g g' := fun p i a _ _ => h p i (by omega)
theorem FXs.w {x : Nat} {g g' : St} (h : FXs x g g') : WXF g g' := fun p i a b c => h p i a (by omega) (by omega)
def KPX (x o : Nat) (g g' : St) : Prop := (∀ q j, (q = 30 ∨ q = 31 ∨ q = 32) → j < x → g' q j = g q j) ∧ ∀ j, j < o → g' 33 j = g 33 j
def KPM (s : Nat) (g g' : St) : Prop := ∀ j i, j < s → g' (378 + j) i = g (378 + j) i
theorem KPX.rf {x o : Nat} {g : St} : KPX x o g g := ⟨fun _ _ _ _ => rfl, fun _ _ => rfl⟩
theorem KPM.rf {s : Nat} {g : St} : KPM s g g := fun _ _ _ => rfl
theorem KPX.tr {x o x' o' : Nat} {g g1 g2 : St} (h : KPX x o g g1) (k : KPX x' o' g1 g2) (hx : x ≤ x') (ho : o ≤ o') : KPX x o g g2 := ⟨fun q j hq hj => (k.1 q j hq (by omega)).trans (h.1 q j hq hj), fun j hj => (k.2 j (by omega)).trans (h.2 j hj)⟩
theorem KPM.tr {s s' : Nat} {g g1 g2 : St} (h : KPM s g g1) (k : KPM s' g1 g2) (hs : s ≤ s') : KPM s g g2 := fun j i hj => (k j i (by omega)).trans (h j i hj)
theorem FRX.kp {x o : Nat} {g g' : St} (h : FRX g g') : KPX x o g g' := ⟨fun q j hq _ => h q j (by omega), fun j _ => h 33 j (by omega)⟩
theorem FRM.kp {s : Nat} {g g' : St} (h : FRM g g') : KPM s g g' := fun j i _ => h _ i (by omega)
theorem FXs.kp {x o : Nat} {g g' : St} (h : FXs x g g') : KPX x o g g' := ⟨fun q j hq hj => h q j (by omega) (by omega) (by omega), fun j _ => h 33 j (by omega) (by omega) (by omega)⟩
theorem FMs.kp {s : Nat} {g g' : St} (h : FMs s g g') : KPM s g g' := fun j i hj => h _ i (by omega) (by omega)
def RG (n k : Nat) (g : St) (k' : Nat) (g' : St) : Prop := ∃ j, k' = k + j ∧ ∀ m, lp (fX_Steps_readFrom_L12 (i3 n)) (m + j) (i3 k, g) = lp (fX_Steps_readFrom_L12 (i3 n)) m (i3 k', g')
theorem RG.rf {n k : Nat} {g : St} : RG n k g k g := ⟨0, rfl, fun _ => rfl⟩
theorem RG.tr {n k k1 k2 : Nat} {g g1 g2 : St} (h : RG n k g k1 g1) (h2 : RG n k1 g1 k2 g2) : RG n k g k2 g2 := by
  obtain ⟨j, rfl, e⟩ := h
  obtain ⟨j2, rfl, e2⟩ := h2
  exact ⟨j + j2, by omega, fun m => by rw [show m + (j + j2) = (m + j2) + j by omega, e, e2]⟩
theorem RG.one {n k : Nat} {g g' : St} (h : fX_Steps_readFrom_L12 (i3 n) (i3 k, g) = some (.inl (i3 (k + 1), g'))) : RG n k g (k + 1) g' := ⟨1, rfl, fun _ => lp_inl h⟩
def workPost (g : St) : Option St := if g 7 6 ≤ 0 then some g else lt1 (fX_Text_blame (1 : Int32) (g 1 3) g) fun g84 => some g84
def Wfin (n e : Nat) (b : Nat → Nat) (ft fp k : Nat) (g : St) : Prop := ∃ g2 g3 t, (∀ m, lp (fX_Steps_readFrom_L12 (i3 n)) (m + 1) (i3 k, g) = some g2) ∧ workPost g2 = some g3 ∧ Xt e b ft fp t g3 ∧ WXF g g3
def BADw (n e : Nat) (b : Nat → Nat) (gX0 gM0 : St) (k : Nat) (gX gM : St) : Prop := ∃ ft fp t k' gX', ¬ ft = 0 ∧ Mt e b ft fp t gM ∧ WMF gM0 gM ∧ RG n k gX k' gX' ∧ k' ≤ 200 ∧ WXF gX0 gX' ∧ Wfin n e b ft fp k' gX'
section WF5
variable {n e ft fp t k x s o : Nat} {b : Nat → Nat} {g g' gX gM gX0 gM0 gX' gM' : St}
theorem wfin_fault (h : Xt e b ft fp t g) (q : ¬ ft = 0) (k : Nat) : Wfin n e b ft fp k g := by
  obtain ⟨g1, e1, h1, f1⟩ : ∃ g1, fX_Steps_readFrom_L12 (i3 n) (i3 k, g) = some (.inr g1) ∧ Xt e b ft fp t g1 ∧ FRX g g1 := by
    by_cases q1 : (150 : Int32) ≤ i3 k
    · exact ⟨g, by unfold fX_Steps_readFrom_L12; exact if_pos q1, h, FRX.rf⟩
    · obtain ⟨g1, a1, a2, a3, a4⟩ := more_X h
      rw [if_neg (fun z => q z.1)] at a1
      refine ⟨g1, ?_, a2, a3⟩
      unfold fX_Steps_readFrom_L12
      show (if (150 : Int32) ≤ i3 k then _ else (fX_Text_hasMore g).bind _) = _
      rw [if_neg q1, a1, ob_s]
      rfl
  refine ⟨g1, g1, t, fun m => lp_inr e1, ?_, h1, f1.w⟩
  unfold workPost
  rw [X_blameF h1 q, lt1_e, ite_self]
theorem wfin_end (h : Xt e b 0 fp e g) (h6 : g 7 6 = i3 o) (ho : o ≤ 6) (ho0 : 0 < o) {c : Nat} (hc : g 1 3 = i3 c) (hk : k ≤ c) (hce : c ≤ e) (he : e ≤ 150) : Wfin n e b 1 e k g := by
  obtain ⟨g1, e1, h1, f1, p1⟩ : ∃ g1, fX_Steps_readFrom_L12 (i3 n) (i3 k, g) = some (.inr g1) ∧ Xt e b 0 fp e g1 ∧ FRX g g1 ∧ g1 1 3 = i3 e := by
    by_cases q1 : 150 ≤ k
    · refine ⟨g, ?_, h, FRX.rf, by rw [hc]; congr 1; omega⟩
      unfold fX_Steps_readFrom_L12
      exact if_pos (i3_yle (a := 150) (b := k) (by omega) q1)
    · obtain ⟨g1, a1, a2, a3, a4⟩ := more_X h
      rw [if_neg (fun z => by omega)] at a1
      refine ⟨g1, ?_, a2, a3, a4 rfl⟩
      unfold fX_Steps_readFrom_L12
      show (if i3 150 ≤ i3 k then _ else (fX_Text_hasMore g).bind _) = _
      rw [if_neg (i3_nle (by omega) (by omega)), a1, ob_s]
      rfl
  obtain ⟨g2, e2, h2, f2⟩ := X_blame (p := e) h1 (Nat.le_refl 1) (by omega)
  refine ⟨g1, g2, e, fun m => lp_inr e1, ?_, h2, f1.w.tr (fun p i z1 z2 z3 => f2 p i (by omega))⟩
  unfold workPost
  rw [f1 7 6 (by omega), h6, if_neg (show ¬ i3 o ≤ (0 : Int32) from i3_nle (b := 0) (by omega) ho0)]
  show lt1 (fX_Text_blame (i3 1) (g1 1 3) g1) _ = _
  rw [p1, e2, lt1_e]
theorem BADw.pre {k1 : Nat} {gX1 : St} (h : RG n k gX k1 gX1) (h2 : BADw n e b gX0 gM0 k1 gX1 gM) : BADw n e b gX0 gM0 k gX gM := by
  obtain ⟨ft, fp, t, k', gX', a1, a2, a3, a4, a5, a6, a7⟩ := h2
  exact ⟨ft, fp, t, k', gX', a1, a2, a3, h.tr a4, a5, a6, a7⟩
theorem BADw.M (h : BADw n e b gX0 gM0 k gX gM) (f : ∀ p i, ¬ (p = 0 ∧ (i = 8 ∨ i = 26)) → ¬ (378 ≤ p ∧ p < 458) → gM' p i = gM p i) : BADw n e b gX0 gM0 k gX gM' := by
  obtain ⟨ft, fp, t, k', gX', a1, a2, a3, a4, a5, a6, a7⟩ := h
  exact ⟨ft, fp, t, k', gX', a1, a2.fr (fun i _ _ => f 0 i (by omega) (by omega)) (fun i => f 1 i (by omega) (by omega)), a3.tr (fun p i z1 z2 z3 => f p i (by omega) z3), a4, a5, a6, a7⟩
theorem BADw.blank (h : BADw n e b gX0 gM0 k gX gM) : ∃ gM', fM_blanks gM = some gM' ∧ BADw n e b gX0 gM0 k gX gM' := by
  obtain ⟨ft, fp, t, k', gX', a1, a2, a3, a4, a5, a6, a7⟩ := h
  obtain ⟨gM', c1, c2, c3, _⟩ := blanks_M a2
  exact ⟨gM', c1, ft, fp, t, k', gX', a1, c2, a3.tr c3.w, a4, a5, a6, a7⟩
theorem BADw.n5 (h : BADw n e b gX0 gM0 k gX gM) : ¬ gM 0 5 = 0 := by
  obtain ⟨ft, fp, t, k', gX', a1, a2, _⟩ := h
  exact a2.n5 a1
theorem BADw.sign (h : BADw n e b gX0 gM0 k gX gM) (c : Int32) : fM_sign c gM = some gM := by
  obtain ⟨ft, fp, t, k', gX', a1, a2, _⟩ := h
  exact signF a2 a1
def Ww (e : Nat) (b : Nat → Nat) (fp t k x s o n : Nat) (gX gM : St) : Prop := TS e b 0 fp t gX gM ∧ gX 7 5 = i3 x ∧ gX 7 6 = i3 o ∧ gM 0 26 = i3 s ∧ gM 0 8 = i3 o ∧ gM 4 0 = i3 n ∧ (∃ c, gX 1 3 = i3 c ∧ k ≤ c ∧ x ≤ c ∧ 3 * s ≤ c ∧ c ≤ t) ∧ o ≤ 6
theorem Ww.blank (h : Ww e b fp t k x s o n gX gM) : ∃ gM', fM_blanks gM = some gM' ∧ Ww e b fp t k x s o n gX gM' ∧ FRM gM gM' ∧ gM' 0 4 = i3 t := by
  obtain ⟨h1, h2, h3, h4, h5, h6, h7, h8⟩ := h
  obtain ⟨gM', c1, c2, c3, c4⟩ := blanks_M h1.2
  exact ⟨gM', c1, ⟨⟨h1.1, c2⟩, h2, h3, (c3 0 26 (by omega)).trans h4, (c3 0 8 (by omega)).trans h5, (c3 4 0 (by omega)).trans h6, h7, h8⟩, c3, c4 rfl⟩
/-- one turn of the class's loop -/
theorem loopW (h : Xt e b 0 fp t g) (hk : k < 150) (ht : t < e) (h6 : g 7 6 = i3 o) (ho : o ≤ 6) : ∃ g2, Xt e b 0 fp t g2 ∧ FRX g g2 ∧ g2 1 3 = i3 t ∧ (¬ (0 < o ∧ b t = 93) → fX_Steps_readFrom_L12 (i3 n) (i3 k, g) = (fX_Steps_readStep (i3 n) g2).bind fun z => some (.inl (i3 (k + 1), z))) ∧ ((0 < o ∧ b t = 93) → fX_Steps_readFrom_L12 (i3 n) (i3 k, g) = (fX_Steps_closeAgain (fX_Text_pass g2)).bind fun g47 => (fX_Text_expect (59 : Int32) g47).bind fun g53 => some (.inl (i3 (k + 1), g53))) := by
  obtain ⟨g1, a1, a2, a3, a4⟩ := more_X h
  rw [if_pos ⟨rfl, ht⟩] at a1
  have h600 := h.c600
  have h61 : g1 7 6 = i3 o := (a3 7 6 (by omega)).trans h6
  have e0 : fX_Steps_readFrom_L12 (i3 n) (i3 k, g) = if g1 7 6 ≤ i3 0 then fX_Steps_readFrom_b59 (i3 n) (i3 k) g1 else ((fX_Text_nextByte g1).bind fun z => if z.1 = i3 93 then lt1 (fX_Text_pass z.2) fun g43 => ((fX_Steps_closeAgain g43).bind fun g47 => ((fX_Text_expect (59 : Int32) g47).bind fun g53 => fX_Steps_readFrom_b65 (i3 n) (i3 k) g53)) else fX_Steps_readFrom_b59 (i3 n) (i3 k) z.2) := by
    unfold fX_Steps_readFrom_L12
    show (if i3 150 ≤ i3 k then _ else (fX_Text_hasMore g).bind _) = _
    rw [if_neg (i3_nle (by omega) hk), a1, ob_s]
    show (if i3 1 = i3 0 then _ else _) = _
    rw [if_neg (by decide)]
    rfl
  have b59 : ∀ g2 : St, fX_Steps_readFrom_b59 (i3 n) (i3 k) g2 = (fX_Steps_readStep (i3 n) g2).bind fun z => some (.inl (i3 (k + 1), z)) := fun g2 => by
    unfold fX_Steps_readFrom_b59 fX_Steps_readFrom_b65
    rw [show i3 k + (1 : Int32) = i3 (k + 1) from i3_add k 1]
  rw [h61] at e0
  by_cases q : o = 0
  · subst q
    rw [if_pos (i3_yle (by omega) (Nat.le_refl 0)), b59] at e0
    exact ⟨g1, a2, a3, a4 rfl, fun _ => e0, fun z => absurd z.1 (by omega)⟩
  · rw [if_neg (i3_nle (by omega) (by omega))] at e0
    obtain ⟨g2, c1, c2, c3, _, c5⟩ := X_next a2
    rw [if_pos ht] at c1
    have hbt := (h.1.2.2 t (by omega)).1
    rw [c1, ob_s] at e0
    refine ⟨g2, c5, a3.tr (fun p i z => c3 p i (by omega)), c2, fun z => ?_, fun z => ?_⟩
    · rw [e0, ← b59]
      show (if i3 (b t) = i3 93 then _ else _) = _
      rw [if_neg (by rw [i3_eq (by omega) (by omega)]; exact fun y => z ⟨by omega, y⟩)]
    · rw [e0]
      show (if i3 (b t) = i3 93 then lt1 (fX_Text_pass g2) (fun g43 => ((fX_Steps_closeAgain g43).bind fun g47 => ((fX_Text_expect (59 : Int32) g47).bind fun g53 => fX_Steps_readFrom_b65 (i3 n) (i3 k) g53))) else _) = _
      rw [if_pos (by rw [z.2]), lt1_e]
      unfold fX_Steps_readFrom_b65
      rw [show i3 k + (1 : Int32) = i3 (k + 1) from i3_add k 1]
def ResW (n e : Nat) (b : Nat → Nat) (gX0 gM0 : St) (h k : Nat) (gX : St) (t x s o : Nat) (gM gM' : St) : Prop := BADw n e b gX0 gM0 k gX gM' ∨ ∃ k' gX' fp' t' x' s', RG n k gX k' gX' ∧ Ww e b fp' t' k' x' s' o n gX' gM' ∧ WXF gX0 gX' ∧ WMF gM0 gM' ∧ KPX x o gX gX' ∧ KPM s gM gM' ∧ t < t' ∧ ∃ d, Bk n gX' gM' d h s s' x x'
def PSt (n h : Nat) (f : St → Option St) (o : Nat) : Prop := ∀ (e : Nat) (b : Nat → Nat) (fp t k x s : Nat) (gX0 gM0 gX gM : St), e ≤ 150 → Ww e b fp t k x s o n gX gM → WXF gX0 gX → WMF gM0 gM → (t < e ∨ 0 < o) → ¬ (t < e ∧ b t = 93 ∧ 0 < o) → ∃ gM', f gM = some gM' ∧ ResW n e b gX0 gM0 h k gX t x s o gM gM'
/-- how the reference's loops over steps stand -/
def Wlv (n e : Nat) (b : Nat → Nat) (gX0 gM0 : St) (h k : Nat) (gX : St) (t x s o : Nat) (gM : St) (j : Nat) (z : St) : Prop := (BADw n e b gX0 gM0 k gX z ∧ j = 0) ∨ ∃ k' gX' fp' t' x' s', RG n k gX k' gX' ∧ Ww e b fp' t' k' x' s' o n gX' z ∧ WXF gX0 gX' ∧ WMF gM0 z ∧ KPX x o gX gX' ∧ KPM s gM z ∧ t ≤ t' ∧ z 0 4 = i3 t' ∧ (∃ d, Bk n gX' z d h s s' x x') ∧ j = e - t' + 1
theorem wlv_step {h : Nat} {rec : St → Option St} (hp : PSt n h rec o) (he : e ≤ 150) {j : Nat} {z : St} {k' t' x' s' fp' : Nat} {gX1 : St} (a1 : RG n k gX k' gX1) (a2 : Ww e b fp' t' k' x' s' o n gX1 z) (a3 : WXF gX0 gX1) (a4 : WMF gM0 z) (a5 : KPX x o gX gX1) (a6 : KPM s gM z) (a7 : t ≤ t') (a9 : ∃ d, Bk n gX1 z d h s s' x x') (hj : j = e - t' + 1) (ht : t' < e ∨ 0 < o) (hb : ¬ (t' < e ∧ b t' = 93 ∧ 0 < o)) : ∃ z1 z2 j', j' < j ∧ rec z = some z1 ∧ fM_blanks z1 = some z2 ∧ Wlv n e b gX0 gM0 h k gX t x s o gM j' z2 := by
  obtain ⟨z1, b1, b2⟩ := hp e b fp' t' k' x' s' gX0 gM0 gX1 z he a2 a3 a4 ht hb
  rcases b2 with hB | ⟨k2, gX2, fp2, t2, x2, s2, c1, c2, c3, c4, c5, c6, c7, d2, c8⟩
  · obtain ⟨z2, y1, y2⟩ := (hB.pre a1).blank
    exact ⟨z1, z2, 0, by omega, b1, y1, Or.inl ⟨y2, rfl⟩⟩
  · obtain ⟨z2, y1, y2, y3, y4⟩ := c2.blank
    obtain ⟨d1, a9⟩ := a9
    have l1 := Bk.le _ _ _ _ _ _ a9
    have l2 := Bk.le _ _ _ _ _ _ c8
    have hte := c2.1.1.2.2.2.1
    refine ⟨z1, z2, e - t2 + 1, by omega, b1, y1, Or.inr ⟨k2, gX2, fp2, t2, x2, s2, a1.tr c1, y2, c3, c4.tr y3.w, a5.tr c5 l1.2 (Nat.le_refl o), (a6.tr c6 l1.1).tr y3.kp (Nat.le_refl s), by omega, y4, ⟨d2 + d1, ?_⟩, rfl⟩⟩
    have q1 : Bk n gX2 z1 d1 h s s' x x' := Bk.fr _ _ _ _ _ _ a9 (fun q j hq _ hj => c5.1 q j hq hj) (fun j i _ hj => c6 j i hj)
    exact Bk.fr _ _ _ _ _ _ (Bk.app _ _ _ _ _ q1 c8) (fun _ _ _ _ _ => rfl) (fun j i _ _ => y3 _ i (by omega))
theorem body_ok {h x2 : Nat} {rec : St → Option St} (hp : PSt n h rec o) (ho : 0 < o) (he : e ≤ 150) (hW : Ww e b fp t k x s o n gX gM) (hX : WXF gX0 gX) (hM : WMF gM0 gM) (h4 : gM 0 4 = i3 t) : ∃ gM', lp (fM_readsStep_L155 rec x2) fuel gM = some gM' ∧ (BADw n e b gX0 gM0 k gX gM' ∨ ∃ k' gX' fp' t' x' s', RG n k gX k' gX' ∧ Ww e b fp' t' k' x' s' o n gX' gM' ∧ WXF gX0 gX' ∧ WMF gM0 gM' ∧ KPX x o gX gX' ∧ KPM s gM gM' ∧ t ≤ t' ∧ t' < e ∧ b t' = 93 ∧ ∃ d, Bk n gX' gM' d h s s' x x') := by
  have hte := hW.1.1.2.2.2.1
  refine lp_one (f := fM_readsStep_L155 rec x2) (Wlv n e b gX0 gM0 h k gX t x s o gM) (fun gM' => BADw n e b gX0 gM0 k gX gM' ∨ ∃ k' gX' fp' t' x' s', RG n k gX k' gX' ∧ Ww e b fp' t' k' x' s' o n gX' gM' ∧ WXF gX0 gX' ∧ WMF gM0 gM' ∧ KPX x o gX gX' ∧ KPM s gM gM' ∧ t ≤ t' ∧ t' < e ∧ b t' = 93 ∧ ∃ d, Bk n gX' gM' d h s s' x x') ?_ fuel (e - t + 1) gM (Or.inr ⟨k, gX, fp, t, x, s, RG.rf, hW, hX, hM, KPX.rf, KPM.rf, Nat.le_refl _, h4, ⟨0, rfl, rfl⟩, rfl⟩) (by rw [fuel_eq]; omega)
  intro j z hz
  rcases hz with ⟨hB, rfl⟩ | ⟨k', gX', fp', t', x', s', a1, a2, a3, a4, a5, a6, a7, a8, a9, rfl⟩
  · right
    refine ⟨z, ?_, Or.inl hB⟩
    unfold fM_readsStep_L155
    rw [if_neg hB.n5]
  · have hT := a2.1
    have h600 := hT.1.c600
    have hbb := hT.2.1.byteAt (k := t') (by have := hT.1.2.2.2.1; omega)
    have e0 : fM_readsStep_L155 rec x2 z = if (if t' < e then i3 (b t') else m1) = i3 93 then some (.inr z) else ((rec z).bind fun g176 => (fM_blanks g176).bind fun g180 => some (.inl g180)) := by
      unfold fM_readsStep_L155
      rw [if_pos (show z 0 5 = 0 from hT.2.2.1), a8, hbb, ob_s]
      rfl
    by_cases q : t' < e ∧ b t' = 93
    · right
      refine ⟨z, ?_, Or.inr ⟨k', gX', fp', t', x', s', a1, a2, a3, a4, a5, a6, a7, q.1, q.2, a9⟩⟩
      rw [e0, if_pos q.1, q.2, if_pos rfl]
    · left
      obtain ⟨z1, z2, j', hj, b1, b2, b3⟩ := wlv_step hp he a1 a2 a3 a4 a5 a6 a7 a9 rfl (Or.inr ho) (fun y => q ⟨y.1, y.2.1⟩)
      refine ⟨j', z2, hj, ?_, b3⟩
      rw [e0, if_neg, b1, ob_s, b2, ob_s]
      by_cases q1 : t' < e
      · have := (hT.1.1.2.2 t' (by omega)).1
        rw [if_pos q1, i3_eq (by omega) (by omega)]
        exact fun y => q ⟨q1, y⟩
      · rw [if_neg q1, m1_eqi (by omega)]
        exact fun y => y
end WF5
