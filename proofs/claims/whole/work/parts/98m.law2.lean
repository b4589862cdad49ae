/-! PURE: law: notes; the class's loop in turns -/
def opc (c : Nat) : Nat := if c = 43 then 2 else if c = 45 then 3 else if c = 42 then 4 else if c = 47 then 5 else if c = 37 then 6 else if c = 76 then 7 else 8
def wh (c : Nat) : Nat := if c < 1000 then 0 else if c < 2000 then 1 else opc (c - 2000)
def vl (c : Nat) : Nat := if c < 1000 then c else if c < 2000 then c - 1000 else 0
def isO (c : Nat) : Bool := decide (c = 2043) || decide (c = 2045) || decide (c = 2042) || decide (c = 2047) || decide (c = 2037) || decide (c = 2076) || decide (c = 2077)
/-- how many values a row of codes leaves -/
def wfd : List Nat → Nat → Option Nat
  | [], d => some d
  | c :: L, d => if c < 1008 then wfd L (d + 1) else if isO c = true ∧ 2 ≤ d then wfd L (d - 1) else none
theorem wfd_app : ∀ (L M : List Nat) (d : Nat), wfd (L ++ M) d = (wfd L d).bind (wfd M)
  | [], M, d => rfl
  | c :: L, M, d => by
    show (if c < 1008 then wfd (L ++ M) (d + 1) else if isO c = true ∧ 2 ≤ d then wfd (L ++ M) (d - 1) else none) = (if c < 1008 then wfd L (d + 1) else if isO c = true ∧ 2 ≤ d then wfd L (d - 1) else none).bind (wfd M)
    by_cases q : c < 1008
    · rw [if_pos q, if_pos q]; exact wfd_app L M (d + 1)
    · rw [if_neg q, if_neg q]
      by_cases q2 : isO c = true ∧ 2 ≤ d
      · rw [if_pos q2, if_pos q2]; exact wfd_app L M (d - 1)
      · rw [if_neg q2, if_neg q2]; rfl
theorem wfd_v {L : List Nat} {d dd c : Nat} (h : wfd L d = some dd) (hc : c < 1008) : wfd (L ++ [c]) d = some (dd + 1) := by
  rw [wfd_app, h]
  show wfd [c] dd = _
  exact if_pos hc
theorem wfd_o {L : List Nat} {d dd c : Nat} (h : wfd L d = some (dd + 2)) (hc : isO c = true) (h8 : ¬ c < 1008) : wfd (L ++ [c]) d = some (dd + 1) := by
  rw [wfd_app, h]
  show wfd [c] (dd + 2) = _
  show (if c < 1008 then _ else if isO c = true ∧ 2 ≤ dd + 2 then some (dd + 2 - 1) else none) = _
  rw [if_neg h8, if_pos ⟨hc, by omega⟩]
  rfl
def LN (N : List Nat) (o : Nat) (g : St) : Prop := g 0 18 = i3 N.length ∧ (∀ j, j < N.length → g (202 + j) 0 = i3 (wh (N.getD j 0)) ∧ g (202 + j) 1 = i3 (vl (N.getD j 0))) ∧ g 0 8 = i3 o
def LFM (g g' : St) : Prop := ∀ p i, ¬ (p = 0 ∧ ((4 ≤ i ∧ i ≤ 8) ∨ i = 18)) → ¬ (202 ≤ p ∧ p < 362) → g' p i = g p i
def FNM (g g' : St) : Prop := ∀ p i, ¬ (p = 0 ∧ (i = 8 ∨ i = 18)) → ¬ (202 ≤ p ∧ p < 362) → g' p i = g p i
theorem LFM.rf {g : St} : LFM g g := fun _ _ _ _ => rfl
theorem LFM.tr {g g1 g2 : St} (h : LFM g g1) (k : LFM g1 g2) : LFM g g2 := fun p i a b => (k p i a b).trans (h p i a b)
theorem FRM.l {g g' : St} (h : FRM g g') : LFM g g' := fun p i a _ => h p i (by omega)
theorem FNM.l {g g' : St} (h : FNM g g') : LFM g g' := fun p i a b => h p i (by omega) b
section NN2
variable {N C w : List Nat} {o c e ft fp t k : Nat} {b : Nat → Nat} {g g' : St}
theorem LN.fr (h : LN N o g) (f : ∀ p i, ((202 ≤ p ∧ p < 362) ∨ (p = 0 ∧ (i = 8 ∨ i = 18))) → g' p i = g p i) (hl : N.length ≤ 160) : LN N o g' := by
  obtain ⟨h1, h2, h3⟩ := h
  refine ⟨(f 0 18 (by omega)).trans h1, fun j hj => ?_, (f 0 8 (by omega)).trans h3⟩
  rw [f _ 0 (by omega), f _ 1 (by omega)]
  exact h2 j hj
theorem LN.opn (h : LN N o g) (o' : Nat) (e1 : g' 0 8 = i3 o') (f : ∀ p i, ¬ (p = 0 ∧ i = 8) → g' p i = g p i) : LN N o' g' := by
  obtain ⟨h1, h2, h3⟩ := h
  refine ⟨(f 0 18 (by omega)).trans h1, fun j hj => ?_, e1⟩
  rw [f _ 0 (by omega), f _ 1 (by omega)]
  exact h2 j hj
theorem Mt.frN (h : Mt e b ft fp t g) (f : FNM g g') : Mt e b ft fp t g' := h.fr (fun i _ _ => f 0 i (by omega) (by omega)) (fun i => f 1 i (by omega) (by omega))
theorem notes_ok (h : LN N o g) (hl : N.length < 160) (h0 : g 0 5 = i3 0) (c : Nat) : ∃ g', fM_notes (i3 (wh c)) (i3 (vl c)) g = some g' ∧ LN (N ++ [c]) o g' ∧ FNM g g' := by
  obtain ⟨h1, h2, h3⟩ := h
  refine ⟨st (st (st g (202 + N.length) 0 (i3 (wh c))) (202 + N.length) 1 (i3 (vl c))) 0 18 (i3 (N.length + 1)), ?_, ⟨by rw [st_eq, len_s], fun j hj => ?_, by rw [st_at, if_neg (by omega), st_at, if_neg (by omega), st_at, if_neg (by omega)]; exact h3⟩, fun p i z1 z2 => by rw [st_at, if_neg (by omega), st_at, if_neg (by omega), st_at, if_neg (by omega)]⟩
  · have e1 : (st g (202 + N.length) 0 (i3 (wh c))) 0 18 = i3 N.length := by rw [st_at, if_neg (by omega)]; exact h1
    have e2 : (st (st g (202 + N.length) 0 (i3 (wh c))) (202 + N.length) 1 (i3 (vl c))) 0 18 = i3 N.length := by rw [st_at, if_neg (by omega)]; exact e1
    unfold fM_notes
    rw [if_pos (show g 0 5 = 0 from h0), h1, if_pos (i3_in (by omega) hl), i3_nat (by omega), e1, if_pos (i3_in (by omega) hl), i3_nat (by omega), e2]
    show some (st _ 0 18 (i3 N.length + i3 1)) = _
    rw [i3_add]
  · rw [len_s] at hj
    by_cases q : j < N.length
    · rw [gd_l q, st_at, if_neg (by omega), st_at, if_neg (by omega), st_at, if_neg (by omega), st_at, if_neg (by omega), st_at, if_neg (by omega), st_at, if_neg (by omega)]
      exact h2 j q
    · have : j = N.length := by omega
      subst this
      rw [gd_s, st_at, if_neg (by omega), st_at, if_neg (by omega), st_eq, st_at, if_neg (by omega), st_eq]
      exact ⟨rfl, rfl⟩
theorem notes_F (h : Mt e b ft fp t g) (q : ¬ ft = 0) (x y : Int32) : fM_notes x y g = some g := by
  unfold fM_notes
  rw [if_neg]
  have := h.2.2.1
  rw [h.2.1, show (0 : Int32) = i3 0 from rfl, i3_eq (by omega) (by omega)]
  exact q
theorem Mt.n5 (h : Mt e b ft fp t g) (q : ¬ ft = 0) : ¬ g 0 5 = 0 := by
  have := h.2.2.1
  rw [h.2.1, show (0 : Int32) = i3 0 from rfl, i3_eq (by omega) (by omega)]
  exact q
theorem Xt.n6 (h : Xt e b ft fp t g) (q : ¬ ft = 0) : ¬ g 1 6 = 0 := by
  have := h.2.2.1
  rw [h.2.1, show (0 : Int32) = i3 0 from rfl, i3_eq (by omega) (by omega)]
  exact q
def Go (k : Nat) (w : Int32) (g : St) (k' : Nat) (w' : Int32) (g' : St) : Prop := ∃ j, k' = k + j ∧ ∀ m, lp (fX_LawReader_readFrom_L19 5) (m + j) (w, i3 k, g) = lp (fX_LawReader_readFrom_L19 5) m (w', i3 k', g')
theorem Go.rf {k : Nat} {w : Int32} {g : St} : Go k w g k w g := ⟨0, rfl, fun _ => rfl⟩
theorem Go.tr {k k1 k2 : Nat} {w w1 w2 : Int32} {g g1 g2 : St} (h : Go k w g k1 w1 g1) (h2 : Go k1 w1 g1 k2 w2 g2) : Go k w g k2 w2 g2 := by
  obtain ⟨j, rfl, e⟩ := h
  obtain ⟨j2, rfl, e2⟩ := h2
  exact ⟨j + j2, by omega, fun m => by rw [show m + (j + j2) = (m + j2) + j by omega, e, e2]⟩
theorem Go.one {k : Nat} {w w' : Int32} {g g' : St} (h : fX_LawReader_readFrom_L19 5 (w, i3 k, g) = some (.inl (w', i3 (k + 1), g'))) : Go k w g (k + 1) w' g' := ⟨1, rfl, fun _ => lp_inl h⟩
def lawPost (x3 : Int32) (g : St) : Option St := if x3 = 0 then (if g 6 2 ≤ 0 then fX_LawReader_readFrom_b80 5 g else fX_LawReader_readFrom_b71 5 g) else fX_LawReader_readFrom_b71 5 g
def Fin' (e : Nat) (b : Nat → Nat) (ft fp k : Nat) (w : Int32) (g : St) : Prop := ∃ w2 g2 g3 t, (∀ m, lp (fX_LawReader_readFrom_L19 5) (m + 1) (w, i3 k, g) = some (w2, g2)) ∧ lawPost w2 g2 = some g3 ∧ Xt e b ft fp t g3 ∧ LFX g g3
theorem fin_fault (h : Xt e b ft fp t g) (q : ¬ ft = 0) {hh : Nat} (h6 : g 6 1 = i3 hh) (h7 : hh ≤ 1000) (k : Nat) (w : Int32) : Fin' e b ft fp k w g := by
  obtain ⟨g1, e1, h1, f1⟩ : ∃ g1, fX_LawReader_readFrom_L19 5 (w, i3 k, g) = some (.inr (w, g1)) ∧ Xt e b ft fp t g1 ∧ FRX g g1 := by
    by_cases q1 : (150 : Int32) ≤ i3 k
    · exact ⟨g, by unfold fX_LawReader_readFrom_L19; exact if_pos q1, h, FRX.rf⟩
    · obtain ⟨g1, a1, a2, a3, a4⟩ := more_X h
      rw [if_neg (fun z => q z.1)] at a1
      refine ⟨g1, ?_, a2, a3⟩
      unfold fX_LawReader_readFrom_L19
      show (if (150 : Int32) ≤ i3 k then _ else (fX_Text_hasMore g).bind _) = _
      rw [if_neg q1, a1, ob_s]
      rfl
  obtain ⟨g3, e3, f3⟩ := settle_any (g := g1) (i3 1) ((f1 6 1 (by omega)).trans h6) h7
  have e4 : fX_LawReader_readFrom_b80 5 g1 = some g3 := by
    unfold fX_LawReader_readFrom_b80
    show (fX_LawReader_settle 5 (i3 1) g1).bind _ = _
    rw [e3, ob_s]
  have e5 : fX_LawReader_readFrom_b71 5 g1 = some g3 := by
    unfold fX_LawReader_readFrom_b71
    rw [X_blameF h1 q, lt1_e, e4]
  refine ⟨w, g1, g3, t, fun m => lp_inr e1, ?_, h1.frL f3, f1.l.tr f3.l⟩
  unfold lawPost
  rw [e4, e5, ite_self, ite_self]
theorem fin_end {o : Nat} (h : Xt e b 0 fp e g) {hh : Nat} (h6 : g 6 1 = i3 hh) (h7 : hh ≤ 1000) {c : Nat} (hc : g 1 3 = i3 c) (hk : k ≤ c) (hce : c ≤ e) (he : e ≤ 150) (w : Int32) (h8 : g 6 2 = i3 o) (ho : o ≤ 6) (hw : ¬ w = 0 ∨ 0 < o) : Fin' e b 1 e k w g := by
  obtain ⟨g1, e1, h1, f1, p1⟩ : ∃ g1, fX_LawReader_readFrom_L19 5 (w, i3 k, g) = some (.inr (w, g1)) ∧ Xt e b 0 fp e g1 ∧ FRX g g1 ∧ g1 1 3 = i3 e := by
    by_cases q1 : 150 ≤ k
    · refine ⟨g, ?_, h, FRX.rf, by rw [hc]; congr 1; omega⟩
      unfold fX_LawReader_readFrom_L19
      exact if_pos (i3_yle (b := k) (by omega) q1)
    · obtain ⟨g1, a1, a2, a3, a4⟩ := more_X h
      rw [if_neg (fun z => by omega)] at a1
      refine ⟨g1, ?_, a2, a3, a4 rfl⟩
      unfold fX_LawReader_readFrom_L19
      show (if i3 150 ≤ i3 k then _ else (fX_Text_hasMore g).bind _) = _
      rw [if_neg (i3_nle (by omega) (by omega)), a1, ob_s]
      rfl
  obtain ⟨g2, e2, h2, f2⟩ := X_blame (p := e) h1 (Nat.le_refl 1) (by omega)
  obtain ⟨g3, e3, f3⟩ := settle_any (g := g2) (i3 1) ((f2 6 1 (by omega)).trans ((f1 6 1 (by omega)).trans h6)) h7
  have e5 : fX_LawReader_readFrom_b71 5 g1 = some g3 := by
    unfold fX_LawReader_readFrom_b71
    show lt1 (fX_Text_blame (i3 1) (g1 1 3) g1) _ = _
    rw [p1, e2, lt1_e]
    unfold fX_LawReader_readFrom_b80
    show (fX_LawReader_settle 5 (i3 1) g2).bind _ = _
    rw [e3, ob_s]
  refine ⟨w, g1, g3, e, fun m => lp_inr e1, ?_, h2.frL f3, (f1.l.tr (fun p i z1 z2 z3 z4 z5 => f2 p i (by omega))).tr f3.l⟩
  unfold lawPost
  by_cases q1 : w = 0
  · have ho2 : 0 < o := by
      rcases hw with z | z
      · exact absurd q1 z
      · exact z
    rw [if_pos q1, if_neg]
    · exact e5
    · rw [f1 6 2 (by omega), h8]
      exact i3_nle (b := 0) (by omega) ho2
  · rw [if_neg q1]
    exact e5
end NN2
/-- how the two sides stand while a law is read -/
def Lw (e : Nat) (b : Nat → Nat) (fp t k : Nat) (C w N : List Nat) (o dd : Nat) (gX0 gM0 gX gM : St) : Prop := TS e b 0 fp t gX gM ∧ Lc C w o gX ∧ LN N o gM ∧ LFX gX0 gX ∧ LFM gM0 gM ∧ wfd N 0 = some dd ∧ (∃ c, gX 1 3 = i3 c ∧ k ≤ c ∧ C.length + w.length ≤ c ∧ c ≤ t) ∧ o ≤ 6
def BAD (e : Nat) (b : Nat → Nat) (gX0 gM0 : St) (k : Nat) (w : Int32) (gX gM : St) : Prop := ∃ ft fp t k' w' gX', ¬ ft = 0 ∧ Mt e b ft fp t gM ∧ LFM gM0 gM ∧ Go k w gX k' w' gX' ∧ LFX gX0 gX' ∧ Fin' e b ft fp k' w' gX'
def Res (e : Nat) (b : Nat → Nat) (gX0 gM0 : St) (r : Nat) (w : List Nat) (o dd k : Nat) (wn : Int32) (gX : St) (t : Nat) (gM' : St) : Prop := BAD e b gX0 gM0 k wn gX gM' ∨ ∃ k' gX' fp' t' C' N' q, Go k wn gX k' (i3 0) gX' ∧ Lw e b fp' t' k' C' (w ++ q.reverse) N' o dd gX0 gM0 gX' gM' ∧ t < t' ∧ N' = C' ++ sg q ∧ (∀ c, c ∈ q → r ≤ rk c) ∧ (t' < e → rk (b t') < r)
def Prs (r : Nat) (f : St → Option St) (o : Nat) : Prop := ∀ (e : Nat) (b : Nat → Nat) (fp t k : Nat) (N w : List Nat) (dd : Nat) (gX0 gM0 gX gM : St), e ≤ 150 → Lw e b fp t k N w N o dd gX0 gM0 gX gM → topR w < r → ∃ gM', f gM = some gM' ∧ Res e b gX0 gM0 r w o (dd + 1) k (i3 1) gX t gM'
theorem BAD.pre {e : Nat} {b : Nat → Nat} {gX0 gM0 : St} {k k1 : Nat} {w w1 : Int32} {gX gX1 gM : St} (h : Go k w gX k1 w1 gX1) (h2 : BAD e b gX0 gM0 k1 w1 gX1 gM) : BAD e b gX0 gM0 k w gX gM := by
  obtain ⟨ft, fp, t, k', w', gX', a1, a2, a3, a4, a5, a6⟩ := h2
  exact ⟨ft, fp, t, k', w', gX', a1, a2, a3, h.tr a4, a5, a6⟩
theorem BAD.M {e : Nat} {b : Nat → Nat} {gX0 gM0 : St} {k : Nat} {w : Int32} {gX gM gM' : St} (h : BAD e b gX0 gM0 k w gX gM) (f : FNM gM gM') : BAD e b gX0 gM0 k w gX gM' := by
  obtain ⟨ft, fp, t, k', w', gX', a1, a2, a3, a4, a5, a6⟩ := h
  exact ⟨ft, fp, t, k', w', gX', a1, a2.frN f, a3.tr f.l, a4, a5, a6⟩
