/-! PURE: law: brackets -/
section QQ
variable {e fp t k o dd : Nat} {b : Nat → Nat} {C v w N q : List Nat} {gX0 gM0 gX gM g : St}
theorem push_ok (h : Lc C w o g) (ho : o < 6) (hl : C.length + w.length + 1 ≤ 150) {c : Nat} (hc : c < 256) (x3 : Int32) : ∃ g', fX_LawReader_push (i3 c) x3 g = some g' ∧ Lc C (w ++ [c]) (o + 1) g' ∧ FRL g g' := by
  have f : ∀ p i, ¬ (p = 6 ∧ i = 2) → (st g 6 2 (i3 (o + 1))) p i = g p i := fun p i z => by rw [st_at, if_neg z]
  obtain ⟨y1, y2, y3, y4, y5, y6⟩ := h
  have h1 : Lc C w (o + 1) (st g 6 2 (i3 (o + 1))) := ⟨(f 5 3 (by omega)).trans y1, y2.fr (fun j => f 26 j (by omega)), (f 6 1 (by omega)).trans y3, y4.fr (fun j => f 29 j (by omega)), st_eq _ _ _ _, y6⟩
  obtain ⟨g', e1, e2, e3⟩ := h1.hold hl hc
  refine ⟨g', ?_, e2, FRL.tr (fun p i z1 z2 z3 z4 => f p i (by omega)) e3⟩
  unfold fX_LawReader_push
  show (if g 6 2 < i3 6 then _ else _) = _
  rw [y5, if_pos (i3_ylt (by omega) ho)]
  unfold fX_LawReader_push_b15
  show (fX_LawReader_hold (i3 c) (st g 6 2 (g 6 2 + i3 1))).bind _ = _
  rw [y5, i3_add, e1, ob_s]
theorem push_full (h : Lc C w 6 g) (hx : Xt e b 0 fp t g) (hl : C.length + w.length + 1 ≤ 150) {c p : Nat} (hc : c < 256) : ∃ g', fX_LawReader_push (i3 c) (i3 p) g = some g' ∧ Xt e b 3 p t g' ∧ LFX g g' ∧ g' 6 1 = i3 (w.length + 1) := by
  obtain ⟨g1, b1, b2, b3⟩ := X_blame (p := p) hx (k := 3) (by omega) (by omega)
  have hg1 : Lc C w 6 g1 := h.fr (fun p i z => b3 p i (by omega))
  have f : ∀ p i, ¬ (p = 6 ∧ i = 2) → (st g1 6 2 (i3 7)) p i = g1 p i := fun p i z => by rw [st_at, if_neg z]
  obtain ⟨y1, y2, y3, y4, y5, y6⟩ := hg1
  have h1 : Lc C w 7 (st g1 6 2 (i3 7)) := ⟨(f 5 3 (by omega)).trans y1, y2.fr (fun j => f 26 j (by omega)), (f 6 1 (by omega)).trans y3, y4.fr (fun j => f 29 j (by omega)), st_eq _ _ _ _, y6⟩
  obtain ⟨g', e1, e2, e3⟩ := h1.hold hl hc
  have F : FRL g1 g' := FRL.tr (fun p i z1 z2 z3 z4 => f p i (by omega)) e3
  refine ⟨g', ?_, b2.frL F, LFX.tr (fun p i z1 z2 z3 z4 z5 => b3 p i (by omega)) F.l, by rw [e2.2.2.1, len_s]⟩
  unfold fX_LawReader_push
  show (if g 6 2 < i3 6 then _ else lt1 (fX_Text_blame (i3 3) (i3 p) g) _) = _
  rw [h.2.2.2.2.1, if_neg (i3_nlt (by omega) (by omega)), b1, lt1_e]
  unfold fX_LawReader_push_b15
  show (fX_LawReader_hold (i3 c) (st g1 6 2 (g1 6 2 + i3 1))).bind _ = _
  rw [y5, i3_add, e1, ob_s]
theorem opens_ok (h : LN N o g) (hm : Mt e b 0 fp t g) (ho : o < 6) : ∃ g', fM_opensOne g = (i3 1, g') ∧ LN N (o + 1) g' ∧ FNM g g' ∧ Mt e b 0 fp t g' := by
  have f : ∀ p i, ¬ (p = 0 ∧ i = 8) → (st g 0 8 (i3 (o + 1))) p i = g p i := fun p i z => by rw [st_at, if_neg z]
  have F : FNM g (st g 0 8 (i3 (o + 1))) := fun p i z1 z2 => f p i (by omega)
  refine ⟨_, ?_, h.opn (o + 1) (st_eq _ _ _ _) f, F, hm.frN F⟩
  have h0 := hm.2.1
  unfold fM_opensOne
  show (if g 0 5 = 0 then if g 0 8 = i3 6 then _ else _ else _) = _
  rw [if_pos (show g 0 5 = 0 from h0), h.2.2, if_neg (by rw [i3_eq (by omega) (by omega)]; omega)]
  unfold fM_opensOne_b28
  rw [if_pos (show g 0 5 = 0 from h0), h.2.2]
  unfold fM_opensOne_b45
  rw [show i3 o + (1 : Int32) = i3 (o + 1) from i3_add o 1, if_pos (show (st g 0 8 (i3 (o + 1))) 0 5 = 0 from (f 0 5 (by omega)).trans h0)]
  rfl
theorem opens_full (h : LN N 6 g) (hm : Mt e b 0 fp t g) (h4 : g 0 4 = i3 t) : ∃ g', fM_opensOne g = (i3 0, g') ∧ Mt e b 3 t t g' ∧ FRM g g' := by
  obtain ⟨g', e1, e2, e3⟩ := M_wrong (p := t) hm (k := 3) (by omega) (by omega)
  refine ⟨g', ?_, e2, fun p i z => e3 p i (by omega)⟩
  have h0 := hm.2.1
  unfold fM_opensOne
  show (if g 0 5 = 0 then if g 0 8 = i3 6 then lt1 (fM_wrong (i3 3) (g 0 4) g) _ else _ else _) = _
  rw [if_pos (show g 0 5 = 0 from h0), h.2.2, if_pos rfl, h4, e1, lt1_e]
  unfold fM_opensOne_b45
  rw [if_neg (e2.n5 (by omega))]
  rfl
/-- what ends a bracket, or a fault -/
theorem closeS {c top : Nat} (h : Lw e b fp t k C ((v ++ [top]) ++ q.reverse) N o dd gX0 gM0 gX gM) (he : e ≤ 150) (hq : ∀ c, c ∈ q → 1 ≤ rk c) (hN : N = C ++ sg q) (hx : t < e → rk (b t) < 1) (ho : 1 ≤ o) (pr : (c = 41 ∧ top = 40) ∨ (c = 44 ∧ (top = 108 ∨ top = 109)) ∨ (c = 93 ∧ (top = 76 ∨ top = 77))) : ∃ gM', fM_sign (i3 c) gM = some gM' ∧ (BAD e b gX0 gM0 k (i3 0) gX gM' ∨ (t < e ∧ b t = c ∧ ∃ t2, nb e b (t + 1) t2 ∧ Mt e b 0 fp t2 gM' ∧ FRM gM gM')) := by
  have hL := h
  obtain ⟨hT, hC, hNn, f0, f1, hd, ⟨c0, c1, c2, c3, c4⟩, ho6⟩ := h
  have h600 := hT.1.c600
  have hte := hT.1.2.2.2.1
  obtain ⟨ft', fp', t', gX', gM', _, a2, a3, _, a5, a6, a7⟩ := sign_both hT (s := c) (by omega)
  refine ⟨gM', a2, ?_⟩
  by_cases q0 : ft' = 0
  · subst q0
    obtain ⟨_, b1, b2, b3, _⟩ := a6 rfl
    right
    refine ⟨b1, b2, t', b3, ?_, a5⟩
    have hm := a3.2
    obtain ⟨m1', m2, m3, m4, m5, m6⟩ := hm
    exact ⟨m1', m2, m3, m4, m5, fun z => absurd rfl z⟩
  · obtain ⟨b1, z1, z2⟩ := a7 q0 rfl
    rw [z1, z2] at a3
    left
    have hrk : rk top = 0 ∧ rk c = 0 := by
      rcases pr with ⟨rfl, rfl⟩ | ⟨rfl, rfl | rfl⟩ | ⟨rfl, rfl | rfl⟩ <;> exact ⟨rfl, rfl⟩
    by_cases ht : t < e
    · have hbt := (hT.1.1.2.2 t (by omega)).1
      have hbc : ¬ b t = c := fun z => b1 ⟨ht, z⟩
      obtain ⟨g3, d1, d2, d3, d4, d5, d6⟩ := close_step hL he hq hN (by rw [topR_s]; omega) ht (by have := hx ht; omega)
      obtain ⟨x1, x2, x3⟩ := d2.at0
      obtain ⟨g4, j1, j2, j3⟩ := b64_bad (x3 := i3 (b t)) (x5 := i3 top) d1 d4 (by rw [i3_eq (by omega) (by omega), i3_eq (by omega) (by omega), i3_eq (by omega) (by omega)]; omega) (by rw [i3_eq (by omega) (by omega), i3_eq (by omega) (by omega), i3_eq (by omega) (by omega)]; omega) (by rw [i3_eq (by omega) (by omega), i3_eq (by omega) (by omega)]; omega)
      have hl := d2.2.2.2.2.2.2
      rw [len_s] at hl
      rw [x1, if_neg (i3_nle (by omega) (by omega)), i3_sub (by omega), show v.length + 1 - 1 = v.length by omega, x2, ob_s, j1, ob_s] at d6
      exact ⟨1, t, _, k + 1, i3 0, g4, by omega, a3.2, f1.tr a5.l, Go.one d6, d3.tr (fun p i z1 z2 z3 z4 z5 => j3 p i (by omega)), fin_fault j2 (by omega) ((j3 6 1 (by omega)).trans x1) (by omega) _ _⟩
    · have hte2 : e = t := by omega
      subst hte2
      have hl := hC.2.2.2.2.2.2
      exact ⟨1, _, _, k, i3 0, gX, by omega, a3.2, f1.tr a5.l, Go.rf, f0, fin_end hT.1 hC.2.2.1 (by omega) c1 c2 c4 he _ hC.2.2.2.2.1 ho6 (Or.inr (by omega))⟩
/-- round brackets end -/
theorem paren_X (h : Lw e b fp t k C ((v ++ [40]) ++ q.reverse) N o dd gX0 gM0 gX gM) (he : e ≤ 150) (hq : ∀ c, c ∈ q → 1 ≤ rk c) (hN : N = C ++ sg q) (ho : 1 ≤ o) (ht : t < e) (hb : b t = 41) {t2 : Nat} (hn : nb e b (t + 1) t2) : ∃ gX', Go k (i3 0) gX (k + 1) (i3 0) gX' ∧ Xt e b 0 fp t2 gX' ∧ Lc N v (o - 1) gX' ∧ LFX gX0 gX' ∧ gX' 1 3 = i3 (t + 1) ∧ N.length + v.length ≤ t + 1 := by
  obtain ⟨g3, d1, d2, d3, d4, d5, d6⟩ := close_step h he hq hN (by rw [topR_s]; decide) ht (by rw [hb]; rfl)
  obtain ⟨x1, x2, x3⟩ := d2.at0
  have hl := d2.2.2.2.2.2.2
  rw [len_s] at hl d5
  obtain ⟨g4, j1, j2, j3, j4, j5⟩ := b176_ok d1 d4 ht hn d2 ho (by have := h.2.2.2.2.2.2.2; omega)
  rw [x1, if_neg (i3_nle (by omega) (by omega)), i3_sub (by omega), show v.length + 1 - 1 = v.length by omega, x2, ob_s, hb] at d6
  have e1 : fX_LawReader_readSign_b64 5 (i3 41) (i3 40) g3 = some (i3 0, g4) := by
    rw [← j1]
    rfl
  rw [e1, ob_s] at d6
  exact ⟨g4, Go.one d6, j2, j3, d3.tr j4, j5, by omega⟩
/-- a comma -/
theorem comma_X {top : Nat} (htop : top = 108 ∨ top = 109) (h : Lw e b fp t k C ((v ++ [top]) ++ q.reverse) N o dd gX0 gM0 gX gM) (he : e ≤ 150) (hq : ∀ c, c ∈ q → 1 ≤ rk c) (hN : N = C ++ sg q) (ht : t < e) (hb : b t = 44) {t2 : Nat} (hn : nb e b (t + 1) t2) : ∃ gX', Go k (i3 0) gX (k + 1) (i3 1) gX' ∧ Xt e b 0 fp t2 gX' ∧ Lc N (v ++ [top - 32]) o gX' ∧ LFX gX0 gX' ∧ gX' 1 3 = i3 (t + 1) ∧ N.length + (v ++ [top - 32]).length ≤ t + 1 := by
  obtain ⟨g3, d1, d2, d3, d4, d5, d6⟩ := close_step h he hq hN (by rw [topR_s]; rcases htop with rfl | rfl <;> decide) ht (by rw [hb]; rfl)
  obtain ⟨x1, x2, x3⟩ := d2.at0
  have hl := d2.2.2.2.2.2.2
  rw [len_s] at hl d5
  have f : FRL g3 (st g3 29 v.length (i3 (top - 32))) := fun p i z1 z2 z3 z4 => by rw [st_at, if_neg (by omega)]
  have h4 := d1.frL f
  have p4 : (st g3 29 v.length (i3 (top - 32))) 1 3 = i3 t := (f 1 3 (by omega) (by omega) (by omega) (by omega)).trans d4
  obtain ⟨m1', m2⟩ := h4.pass p4 ht hn
  obtain ⟨g5, h5⟩ : ∃ z, z = st (st g3 29 v.length (i3 (top - 32))) 1 3 (i3 (t + 1)) := ⟨_, rfl⟩
  rw [← h5] at m1' m2
  have f5 : ∀ p i, ¬ (p = 1 ∧ i = 3) → g5 p i = (st g3 29 v.length (i3 (top - 32))) p i := fun p i z => by rw [h5, st_at, if_neg z]
  have f53 : g5 1 3 = i3 (t + 1) := by rw [h5, st_eq]
  have hL : Lc N (v ++ [top - 32]) o (st g3 29 v.length (i3 (top - 32))) := by
    obtain ⟨y1, y2, y3, y4, y5, y6, y7⟩ := d2
    have ff : ∀ p i, ¬ p = 29 → (st g3 29 v.length (i3 (top - 32))) p i = g3 p i := fun p i z => by rw [st_at, if_neg (by omega)]
    refine ⟨(ff 5 3 (by omega)).trans y1, y2.fr (fun j => ff 26 j (by omega)), by rw [ff 6 1 (by omega), y3, len_s, len_s], y4.pop.snoc (fun j hj => by rw [st_at, if_neg (by omega)]) (st_eq _ _ _ _), (ff 6 2 (by omega)).trans y5, fun x hx => ?_, by rw [len_s]; omega⟩
    rw [List.mem_append, List.mem_singleton] at hx
    rcases hx with hx | rfl
    · exact y6 x (by rw [List.mem_append]; exact Or.inl hx)
    · omega
  rw [x1, if_neg (i3_nle (by omega) (by omega)), i3_sub (by omega), show v.length + 1 - 1 = v.length by omega, x2, ob_s, hb] at d6
  have e1 : fX_LawReader_readSign_b64 5 (i3 44) (i3 top) g3 = some (i3 1, g5) := by
    have e2 : fX_LawReader_readSign_b110 5 (g3 6 1 - i3 1) (i3 (top - 32)) g3 = some (i3 1, g5) := by
      unfold fX_LawReader_readSign_b110
      rw [x1, i3_sub (by omega), show v.length + 1 - 1 = v.length by omega, pu150 (by omega) (by omega), ob_s, m1', lt1_e]
      rfl
    rcases htop with rfl | rfl
    · exact e2
    · exact e2
  rw [e1, ob_s] at d6
  exact ⟨_, Go.one d6, m2, hL.fr (fun p i z => f5 p i (by omega)), (d3.tr f.l).tr (fun p i z1 z2 z3 z4 z5 => f5 p i (by omega)), f53, by rw [len_s]; omega⟩
/-- square brackets end -/
theorem brack_X {top : Nat} (htop : top = 76 ∨ top = 77) (h : Lw e b fp t k C ((v ++ [top]) ++ q.reverse) N o dd gX0 gM0 gX gM) (he : e ≤ 150) (hq : ∀ c, c ∈ q → 1 ≤ rk c) (hN : N = C ++ sg q) (ho : 1 ≤ o) (ht : t < e) (hb : b t = 93) {t2 : Nat} (hn : nb e b (t + 1) t2) : ∃ gX', Go k (i3 0) gX (k + 1) (i3 0) gX' ∧ Xt e b 0 fp t2 gX' ∧ Lc (N ++ [2000 + top]) v (o - 1) gX' ∧ LFX gX0 gX' ∧ gX' 1 3 = i3 (t + 1) ∧ (N ++ [2000 + top]).length + v.length ≤ t + 1 := by
  obtain ⟨g3, d1, d2, d3, d4, d5, d6⟩ := close_step h he hq hN (by rw [topR_s]; rcases htop with rfl | rfl <;> decide) ht (by rw [hb]; rfl)
  obtain ⟨x1, x2, x3⟩ := d2.at0
  have hl := d2.2.2.2.2.2.2
  have d5' := d5
  rw [len_s] at hl d5
  have hpop : Lc N v o (st g3 6 1 (i3 v.length)) := d2.pop (st_eq _ _ _ _) (fun p i z => by rw [st_at, if_neg z])
  by_cases hfull : N.length + 1 + (v.length + 1) ≤ 150
  · obtain ⟨g4, a1, a2, a3⟩ := d2.add (by rw [len_s]; omega) (2000 + top)
    have h4 := d1.frL a3
    have p4 : g4 1 3 = i3 t := (a3 1 3 (by omega) (by omega) (by omega) (by omega)).trans d4
    obtain ⟨g5, j1, j2, j3, j4, j5⟩ := b176_ok h4 p4 ht hn a2 ho (by have := h.2.2.2.2.2.2.2; omega)
    rw [x1, if_neg (i3_nle (by omega) (by omega)), i3_sub (by omega), show v.length + 1 - 1 = v.length by omega, x2, ob_s, hb] at d6
    have e2 : fX_LawReader_readSign_b139 5 (i3 top) g3 = some (i3 0, g5) := by
      unfold fX_LawReader_readSign_b139
      show (fX_Law_add 5 (i3 2000 + i3 top) g3).bind _ = _
      rw [i3_add, a1, ob_s, j1]
    have e1 : fX_LawReader_readSign_b64 5 (i3 93) (i3 top) g3 = some (i3 0, g5) := by
      rcases htop with rfl | rfl
      · exact e2
      · exact e2
    rw [e1, ob_s] at d6
    exact ⟨g5, Go.one d6, j2, j3, (d3.tr a3.l).tr j4, j5, by rw [len_s]; omega⟩
  · omega
end QQ
