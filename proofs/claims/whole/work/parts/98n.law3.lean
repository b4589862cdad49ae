/-! PURE: law: one turn of the loop: a sign, a bracket's end -/
section SS
variable {e fp t k o dd r : Nat} {b : Nat → Nat} {C w N q : List Nat} {gX0 gM0 gX gM g : St}
theorem loop_sign (h : Xt e b 0 fp t g) (hk : k < 150) (ht : t < e) : ∃ g1, Xt e b 0 fp t g1 ∧ FRX g g1 ∧ g1 1 3 = i3 t ∧ (fX_LawReader_readFrom_L19 5 (i3 0, i3 k, g) = (fX_LawReader_readSign 5 g1).bind fun z => some (.inl (z.1, i3 (k + 1), z.2))) ∧ (fX_LawReader_readFrom_L19 5 (i3 1, i3 k, g) = (fX_LawReader_readUnit 5 g1).bind fun z => some (.inl (z.1, i3 (k + 1), z.2))) := by
  obtain ⟨g1, a1, a2, a3, a4⟩ := more_X h
  rw [if_pos ⟨rfl, ht⟩] at a1
  refine ⟨g1, a2, a3, a4 rfl, ?_, ?_⟩
  · unfold fX_LawReader_readFrom_L19
    show (if i3 150 ≤ i3 k then _ else (fX_Text_hasMore g).bind _) = _
    rw [if_neg (i3_nle (by omega) hk), a1, ob_s]
    show (if i3 1 = i3 0 then _ else if i3 0 = i3 0 then _ else _) = _
    rw [if_neg (by decide), if_pos rfl]
    unfold fX_LawReader_readFrom_b53
    rw [show i3 k + (1 : Int32) = i3 (k + 1) from i3_add k 1]
  · unfold fX_LawReader_readFrom_L19
    show (if i3 150 ≤ i3 k then _ else (fX_Text_hasMore g).bind _) = _
    rw [if_neg (i3_nle (by omega) hk), a1, ob_s]
    show (if i3 1 = i3 0 then _ else if i3 1 = i3 0 then _ else _) = _
    rw [if_neg (by decide), if_neg (by decide)]
    unfold fX_LawReader_readFrom_b53
    rw [show i3 k + (1 : Int32) = i3 (k + 1) from i3_add k 1]
theorem Xt.pass (h : Xt e b 0 fp t g) (h3 : g 1 3 = i3 t) (ht : t < e) {t2 : Nat} (hn : nb e b (t + 1) t2) : fX_Text_pass g = st g 1 3 (i3 (t + 1)) ∧ Xt e b 0 fp t2 (st g 1 3 (i3 (t + 1))) := by
  have f : FRX g (st g 1 3 (i3 (t + 1))) := fun p i z => by rw [st_at, if_neg (by omega)]
  obtain ⟨h1, h2, h3', h4, h5, h6⟩ := h
  refine ⟨?_, h1.fr5 f, by rw [st_at, if_neg (by omega)]; exact h2, by omega, (nb_le hn).2, fun _ => ⟨_, st_eq _ _ _ _, hn⟩, by rw [st_at, if_neg (by omega)]; exact h6⟩
  show st g 1 3 (g 1 3 + i3 1) = _
  rw [h3, i3_add]
theorem sign_step (h : Lw e b fp t k C (w ++ q.reverse) N o dd gX0 gM0 gX gM) (he : e ≤ 150) (hq : ∀ c, c ∈ q → r ≤ rk c) (hN : N = C ++ sg q) (hw : topR w < r) (hr : 1 ≤ r) (ht : t < e) (hb : rk (b t) = r) {t2 : Nat} (hn : nb e b (t + 1) t2) : ∃ gX', fX_LawReader_readFrom_L19 5 (i3 0, i3 k, gX) = some (.inl (i3 1, i3 (k + 1), gX')) ∧ Xt e b 0 fp t2 gX' ∧ Lc N (w ++ [b t]) o gX' ∧ LFX gX0 gX' ∧ gX' 1 3 = i3 (t + 1) ∧ N.length + (w ++ [b t]).length ≤ t + 1 := by
  obtain ⟨hT, hC, hNn, f0, f1, hd, ⟨c, c1, c2, c3, c4⟩, ho⟩ := h
  have h600 := hT.1.c600
  have hbt := (hT.1.1.2.2 t (by omega)).1
  have hr2 : r ≤ 2 := by rw [← hb]; exact rk_le _
  obtain ⟨g1, a1, a2, a3, a4, _⟩ := loop_sign hT.1 (k := k) (by omega) ht
  obtain ⟨g2, b1, b2, b3, _, b5⟩ := X_next a1
  rw [if_pos ht] at b1
  have hC2 : Lc C (w ++ q.reverse) o g2 := (hC.frX a2).fr (fun p i z => b3 p i (by omega))
  obtain ⟨g3, d1, d2, d3⟩ := settle_ok hr hr2 hw hC2 hq
  rw [← hN] at d2
  have hl : N.length + w.length = C.length + (w ++ q.reverse).length := by
    rw [hN, List.length_append, List.length_append, List.length_reverse]
    unfold sg
    rw [List.length_map]
    omega
  obtain ⟨g4, j1, j2, j3⟩ := d2.hold (by omega) hbt
  have h4 : Xt e b 0 fp t g4 := (b5.frL d3).frL j3
  have p4 : g4 1 3 = i3 t := (j3 1 3 (by omega) (by omega) (by omega) (by omega)).trans ((d3 1 3 (by omega) (by omega) (by omega) (by omega)).trans b2)
  obtain ⟨m1', m2⟩ := h4.pass p4 ht hn
  have f4 : LFX gX g4 := ((a2.l.tr (fun p i z1 z2 z3 z4 z5 => b3 p i (by omega))).tr d3.l).tr j3.l
  refine ⟨_, ?_, m2, j2.fr (fun p i z => by rw [st_at, if_neg (by omega)]), (f0.tr f4).tr (fun p i z1 z2 z3 z4 z5 => by rw [st_at, if_neg (by omega)]), st_eq _ _ _ _, by rw [len_s]; omega⟩
  rw [a4]
  unfold fX_LawReader_readSign
  rw [b1, ob_s]
  show (Option.bind (if fX_LawReader_rankOf (i3 (b t)) ≤ i3 0 then _ else (fX_LawReader_settle 5 (fX_LawReader_rankOf (i3 (b t))) g2).bind _) _) = _
  rw [rk_X _ hbt, hb, if_neg (i3_nle (by omega) hr), d1, ob_s, j1, ob_s, m1', lt1_e, ob_s]
  rfl
/-- a sign that binds nothing: what it meets -/
theorem close_step (h : Lw e b fp t k C (w ++ q.reverse) N o dd gX0 gM0 gX gM) (he : e ≤ 150) (hq : ∀ c, c ∈ q → 1 ≤ rk c) (hN : N = C ++ sg q) (hw : topR w < 1) (ht : t < e) (hb : rk (b t) = 0) : ∃ g3, Xt e b 0 fp t g3 ∧ Lc N w o g3 ∧ LFX gX0 g3 ∧ g3 1 3 = i3 t ∧ N.length + w.length ≤ t ∧ fX_LawReader_readFrom_L19 5 (i3 0, i3 k, gX) = (((if g3 6 1 ≤ i3 0 then fX_LawReader_readSign_b64 5 (i3 (b t)) m1 g3 else ((fX_Rows_at 29 (g3 6 1 - i3 1) g3).bind fun r57 => fX_LawReader_readSign_b64 5 (i3 (b t)) r57 g3)) : Option (Int32 × St)).bind fun z => some (.inl (z.1, i3 (k + 1), z.2))) := by
  obtain ⟨hT, hC, hNn, f0, f1, hd, ⟨c, c1, c2, c3, c4⟩, ho⟩ := h
  have h600 := hT.1.c600
  have hbt := (hT.1.1.2.2 t (by omega)).1
  obtain ⟨g1, a1, a2, a3, a4, _⟩ := loop_sign hT.1 (k := k) (by omega) ht
  obtain ⟨g2, b1, b2, b3, _, b5⟩ := X_next a1
  rw [if_pos ht] at b1
  have hC2 : Lc C (w ++ q.reverse) o g2 := (hC.frX a2).fr (fun p i z => b3 p i (by omega))
  obtain ⟨g3, d1, d2, d3⟩ := settle_ok (Nat.le_refl 1) (by omega) hw hC2 hq
  rw [← hN] at d2
  have hl : N.length + w.length = C.length + (w ++ q.reverse).length := by
    rw [hN, List.length_append, List.length_append, List.length_reverse]
    unfold sg
    rw [List.length_map]
    omega
  refine ⟨g3, b5.frL d3, d2, (f0.tr (a2.l.tr (fun p i z1 z2 z3 z4 z5 => b3 p i (by omega)))).tr d3.l, (d3 1 3 (by omega) (by omega) (by omega) (by omega)).trans b2, by omega, ?_⟩
  rw [a4]
  unfold fX_LawReader_readSign
  rw [b1, ob_s]
  show (Option.bind (if fX_LawReader_rankOf (i3 (b t)) ≤ i3 0 then (fX_LawReader_settle 5 (i3 1) g2).bind _ else _) _) = _
  rw [rk_X _ hbt, hb, if_pos (i3_yle (by omega) (Nat.le_refl 0)), d1, ob_s]
  rfl
/-- it meets what it doesn't end -/
theorem b64_bad {x3 x5 : Int32} (h : Xt e b 0 fp t g) (h3 : g 1 3 = i3 t) (n1 : ¬ (x3 = i3 44 ∧ (x5 = i3 108 ∨ x5 = i3 109))) (n2 : ¬ (x3 = i3 93 ∧ (x5 = i3 76 ∨ x5 = i3 77))) (n3 : ¬ (x3 = i3 41 ∧ x5 = i3 40)) : ∃ g', fX_LawReader_readSign_b64 5 x3 x5 g = some (i3 0, g') ∧ Xt e b 1 t t g' ∧ ∀ p i, ¬ (p = 1 ∧ 6 ≤ i ∧ i ≤ 7) → g' p i = g p i := by
  obtain ⟨g', e1, e2, e3⟩ := X_blame (p := t) h (Nat.le_refl 1) (by omega)
  have e4 : fX_LawReader_readSign_b165 5 g = some (i3 0, g') := by
    unfold fX_LawReader_readSign_b165
    show lt1 (fX_Text_blame (i3 1) (g 1 3) g) _ = _
    rw [h3, e1]
    rfl
  have e5 : fX_LawReader_readSign_b152 5 x3 x5 g = some (i3 0, g') := by
    unfold fX_LawReader_readSign_b152
    show (if x3 = i3 41 then if x5 = i3 40 then _ else _ else _) = _
    by_cases q1 : x3 = i3 41
    · rw [if_pos q1, if_neg (fun z => n3 ⟨q1, z⟩)]; exact e4
    · rw [if_neg q1]; exact e4
  have e6 : fX_LawReader_readSign_b119 5 x3 x5 g = some (i3 0, g') := by
    unfold fX_LawReader_readSign_b119
    show (if x3 = i3 93 then if x5 = i3 76 then _ else if x5 = i3 77 then _ else _ else _) = _
    by_cases q1 : x3 = i3 93
    · rw [if_pos q1, if_neg (fun z => n2 ⟨q1, Or.inl z⟩), if_neg (fun z => n2 ⟨q1, Or.inr z⟩)]; exact e5
    · rw [if_neg q1]; exact e5
  refine ⟨g', ?_, e2, e3⟩
  unfold fX_LawReader_readSign_b64
  show (if x3 = i3 44 then if x5 = i3 108 then _ else if x5 = i3 109 then _ else _ else _) = _
  by_cases q1 : x3 = i3 44
  · rw [if_pos q1, if_neg (fun z => n1 ⟨q1, Or.inl z⟩), if_neg (fun z => n1 ⟨q1, Or.inr z⟩)]; exact e6
  · rw [if_neg q1]; exact e6
/-- the end of brackets: the class -/
theorem b176_ok {v : List Nat} {c : Nat} (h : Xt e b 0 fp t g) (h3 : g 1 3 = i3 t) (ht : t < e) {t2 : Nat} (hn : nb e b (t + 1) t2) (hC : Lc C (v ++ [c]) o g) (ho : 1 ≤ o) (ho6 : o ≤ 7) : ∃ g', fX_LawReader_readSign_b176 5 g = some (i3 0, g') ∧ Xt e b 0 fp t2 g' ∧ Lc C v (o - 1) g' ∧ LFX g g' ∧ g' 1 3 = i3 (t + 1) := by
  obtain ⟨x1, x2, x3⟩ := hC.at0
  obtain ⟨g1, e1⟩ : ∃ z, z = st (st g 6 1 (i3 v.length)) 6 2 (i3 (o - 1)) := ⟨_, rfl⟩
  have f : FRL g g1 := fun p i z1 z2 z3 z4 => by rw [e1, st_at, if_neg (by omega), st_at, if_neg (by omega)]
  have hp := hC.pop (st_eq g 6 1 (i3 v.length)) (fun p i z => by rw [st_at, if_neg z])
  have h1 : Lc C v (o - 1) g1 := by
    obtain ⟨y1, y2, y3, y4, y5, y6⟩ := hp
    have ff : ∀ p i, ¬ (p = 6 ∧ i = 2) → g1 p i = (st g 6 1 (i3 v.length)) p i := fun p i z => by rw [e1, st_at, if_neg z]
    exact ⟨(ff 5 3 (by omega)).trans y1, y2.fr (fun j => ff 26 j (by omega)), (ff 6 1 (by omega)).trans y3, y4.fr (fun j => ff 29 j (by omega)), by rw [e1, st_eq], y6⟩
  have p1 : g1 1 3 = i3 t := (f 1 3 (by omega) (by omega) (by omega) (by omega)).trans h3
  obtain ⟨m1', m2⟩ := (h.frL f).pass p1 ht hn
  refine ⟨_, ?_, m2, h1.fr (fun p i z => by rw [st_at, if_neg (by omega)]), f.l.tr (fun p i z1 z2 z3 z4 z5 => by rw [st_at, if_neg (by omega)]), st_eq _ _ _ _⟩
  unfold fX_LawReader_readSign_b176
  show lt1 (fX_Text_pass (st (st g 6 1 (g 6 1 - i3 1)) 6 2 ((st g 6 1 (g 6 1 - i3 1)) 6 2 - i3 1))) _ = _
  rw [show (st g 6 1 (g 6 1 - i3 1)) 6 2 = i3 o by rw [st_at, if_neg (by omega)]; exact hC.2.2.2.2.1, x1, i3_sub (by omega), i3_sub ho, show v.length + 1 - 1 = v.length by omega, ← e1, m1']
  rfl
end SS
