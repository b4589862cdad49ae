/-! PURE: law: one value -/
def Flt (f : St → Option St) : Prop := ∀ g, ¬ g 0 5 = 0 → f g = some g
section OO
variable {e fp t k o dd n t' : Nat} {b : Nat → Nat} {C v w N q : List Nat} {gX0 gM0 gX gM g g3 : St} {r1 r2 r3 : St → Option St}
theorem res_one {k1 t1 fp1 : Nat} {N1 : List Nat} {gX1 gM1 : St} (h1 : Go k (i3 1) gX k1 (i3 0) gX1) (h2 : Lw e b fp1 t1 k1 N1 w N1 o dd gX0 gM0 gX1 gM1) (h3 : t < t1) : Res e b gX0 gM0 3 w o dd k (i3 1) gX t gM1 := by
  refine Or.inr ⟨k1, gX1, fp1, t1, N1, N1, [], h1, ?_, h3, (List.append_nil N1).symm, fun c hc => by simp at hc, fun _ => by have := rk_le (b t1); omega⟩
  rw [show w ++ ([] : List Nat).reverse = w from List.append_nil w]
  exact h2
theorem one_pre (h : Mt e b 0 fp t gM) (rr : RUN (ltr b) e t n) : ∃ g3, Mt e b 0 fp t g3 ∧ FRM gM g3 ∧ g3 0 4 = i3 t ∧ fM_one_o r1 r2 r3 gM = fM_one_b56 r1 r2 r3 (if isW b t n (wd 3) then i3 7 else if isW b t n (wd 4) then i3 8 else m1) g3 := by
  obtain ⟨g1, c1, c2, c3, f, _, j⟩ := M_next0 h
  obtain ⟨g2, a1, a2, a3, a4⟩ := M_isWord (x := 3) (by omega) j rr (x1 := 12) (x2 := 5) (x3 := 1) (x4 := 19) (x5 := 20) (x6 := 0) (by decide +kernel)
  obtain ⟨g3, b1, b2, b3, b4⟩ := M_isWord (x := 4) (by omega) a2 rr (x1 := 13) (x2 := 15) (x3 := 19) (x4 := 20) (x5 := 0) (x6 := 0) (by decide +kernel)
  have F1 : FRM gM g2 := FRM.tr (fun p i z => f p i (by omega)) a3
  by_cases q : isW b t n (wd 3)
  · refine ⟨g2, a2, F1, a4, ?_⟩
    rw [if_pos q] at a1 ⊢
    unfold fM_one_o
    rw [if_pos (show gM 0 5 = 0 from h.2.1), c1, ob_s, a1, ob_s]
    show (if i3 1 = i3 0 then _ else fM_one_b56 r1 r2 r3 7 g2) = _
    rw [if_neg (show ¬ i3 1 = i3 0 by decide), li_7]
  · refine ⟨g3, b2, F1.tr b3, b4, ?_⟩
    rw [if_neg q] at a1 ⊢
    unfold fM_one_o
    rw [if_pos (show gM 0 5 = 0 from h.2.1), c1, ob_s, a1, ob_s]
    show (if i3 0 = i3 0 then _ else _) = _
    rw [if_pos rfl, b1, ob_s]
    by_cases q2 : isW b t n (wd 4)
    · rw [if_pos q2, if_pos q2]
      show (if i3 1 = i3 0 then _ else fM_one_b56 r1 r2 r3 8 g3) = _
      rw [if_neg (show ¬ i3 1 = i3 0 by decide), li_8]
    · rw [if_neg q2, if_neg q2]
      show (if i3 0 = i3 0 then fM_one_b56 r1 r2 r3 (-1) g3 else _) = _
      rw [if_pos rfl, li_m1]
theorem b56_pre (m3 : Mt e b 0 fp t g3) (p3 : g3 0 4 = i3 t) (rr : RUN (ltr b) e t n) (hn : nb e b (t + n) t') (h40 : ¬ (t < e ∧ b t = 40)) : ∃ g4, Mt e b 0 fp (if fct b t n = 8 then t else t') g4 ∧ FRM g3 g4 ∧ fM_one_b56 r1 r2 r3 m1 g3 = if nm (fct b t n) = m1 then ((fM_number (i3 0) (i3 999) g4).bind fun z => (fM_notes (i3 0) z.1 z.2).bind fun g198 => some g198) else ((fM_notes (i3 1) (nm (fct b t n)) g4).bind fun g182 => some g182) := by
  have h600 := m3.c600
  have hte := m3.2.2.2.1
  obtain ⟨g4, a1, a2, a3⟩ := M_knownHere m3 rr hn
  refine ⟨g4, a2, a3, ?_⟩
  have hb := m3.1.byteAt (k := t) (by omega)
  unfold fM_one_b56
  rw [if_pos (show m1 = (-1 : Int32) from rfl), p3, hb, ob_s]
  have h4 : ¬ (if t < e then i3 (b t) else m1) = i3 40 := by
    by_cases q2 : t < e
    · have := (m3.1.2.2 t (by omega)).1
      rw [if_pos q2, i3_eq (by omega) (by omega)]
      exact fun z => h40 ⟨q2, z⟩
    · rw [if_neg q2, m1_eqi (by omega)]
      exact fun z => z
  show (if (if t < e then i3 (b t) else m1) = i3 40 then _ else _) = _
  rw [if_neg h4, a1, ob_s]
  rfl
theorem unit_pre (hL : Lw e b fp t k N w N o dd gX0 gM0 gX gM) (he : e ≤ 150) (ht : t < e) : ∃ g2, Xt e b 0 fp t g2 ∧ FRX gX g2 ∧ g2 1 3 = i3 t ∧ Lc N w o g2 ∧ fX_LawReader_readFrom_L19 5 (i3 1, i3 k, gX) = (((if fX_Text_isDigit (i3 (b t)) = 0 then (if i3 (b t) = i3 40 then ((fX_LawReader_push (i3 40) (g2 1 3) g2).bind fun g40 => some (i3 1, fX_Text_pass g40)) else ((fX_Text_word g2).bind fun g50 => (fX_LawReader_factOf g50).bind fun r54 => if r54 = m1 then ((fX_Text_isWord 3 g50).bind fun r80 => if r80 = 0 then ((fX_Text_isWord 4 g50).bind fun r103 => if r103 = 0 then fX_LawReader_readUnit_b132 5 (fX_Text_blame (i3 1) (g50 1 4) g50) else ((fX_LawReader_push (i3 109) (g50 1 4) g50).bind fun g117 => fX_LawReader_readUnit_b132 5 g117)) else ((fX_LawReader_push (i3 108) (g50 1 4) g50).bind fun g94 => fX_LawReader_readUnit_b132 5 g94)) else ((fX_Law_add 5 (i3 1000 + r54) g50).bind fun g72 => some (i3 0, g72)))) else ((fX_Text_number (i3 0) (i3 999) g2).bind fun z => (fX_Law_add 5 z.1 z.2).bind fun g21 => some (i3 0, g21))) : Option (Int32 × St)).bind fun z => some (.inl (z.1, i3 (k + 1), z.2))) := by
  obtain ⟨hT, hC, hN, f0, f1, hd, ⟨c0, c1, c2, c3, c4⟩, ho⟩ := hL
  obtain ⟨g1, a1, a2, a3, _, a5⟩ := loop_sign hT.1 (k := k) (by omega) ht
  obtain ⟨g2, b1, b2, b3, _, b5⟩ := X_next a1
  rw [if_pos ht] at b1
  have F : FRX gX g2 := FRX.tr a2 (fun p i z => b3 p i (by omega))
  refine ⟨g2, b5, F, b2, hC.frX F, ?_⟩
  rw [a5]
  unfold fX_LawReader_readUnit
  rw [b1, ob_s]
  rfl
theorem expectF {ft : Nat} (h : Xt e b ft fp t g) (q : ¬ ft = 0) : fX_LawReader_readUnit_b132 5 g = some (i3 1, g) := by
  unfold fX_LawReader_readUnit_b132
  have e1 : fX_Text_expect (91 : Int32) g = some g := by
    unfold fX_Text_expect
    rw [if_neg (h.n6 q)]
  rw [e1, ob_s]
  rfl
theorem signF {ft : Nat} {c : Int32} (h : Mt e b ft fp t g) (q : ¬ ft = 0) : fM_sign c g = some g := by
  unfold fM_sign
  rw [if_neg (h.n5 q)]
theorem one_num (hL : Lw e b fp t k N w N o dd gX0 gM0 gX gM) (he : e ≤ 150) (rr : RUN (ltr b) e t n) (hn : nb e b (t + n) t') (m3 : Mt e b 0 fp t g3) (f3 : FRM gM g3) (p3 : g3 0 4 = i3 t) (hf : fct b t n = 8) (h34 : ¬ isW b t n (wd 3) ∧ ¬ isW b t n (wd 4)) (h40 : ¬ (t < e ∧ b t = 40)) : ∃ gM', fM_one_b56 r1 r2 r3 m1 g3 = some gM' ∧ Res e b gX0 gM0 3 w o (dd + 1) k (i3 1) gX t gM' := by
  have hL' := hL
  obtain ⟨hT, hC, hN, f0, f1, hd, ⟨c0, c1, c2, c3, c4⟩, ho⟩ := hL
  have h600 := hT.1.c600
  have hCl := hC.2.2.2.2.2.2
  obtain ⟨g4, m4, f4, e4⟩ := b56_pre (r1 := r1) (r2 := r2) (r3 := r3) m3 p3 rr hn h40
  rw [hf, if_pos rfl] at m4
  rw [hf, nm_no (Nat.le_refl 8), if_pos rfl] at e4
  have F4 : LFM gM0 g4 := (f1.tr f3.l).tr f4.l
  by_cases hdg : t < e ∧ dgt b t
  · obtain ⟨g2, b1, b2, b3, b4, b5⟩ := unit_pre hL' he hdg.1
    have hbt := (hT.1.1.2.2 t (by omega)).1
    obtain ⟨ft1, fp1, t1, v, gX5, gM5, a1, a2, a3, a4, a5, a6⟩ := numK (show TS e b 0 fp t g2 g4 from ⟨b1, m4⟩) (lo := 0) (H := 999) (by omega) (by omega)
    rw [digX _ hbt, if_pos (show 48 ≤ b t ∧ b t ≤ 57 from hdg.2), if_neg (show ¬ i3 1 = (0 : Int32) by decide), a1, ob_s] at b5
    rw [a2, ob_s] at e4
    have hC5 := b4.frX a4
    by_cases q : ft1 = 0
    · subst q
      obtain ⟨_, _, hv, ht1, _, c, d1, d2, d3⟩ := a6 rfl
      have hl : N.length + 1 + w.length ≤ 150 := by omega
      obtain ⟨gX6, j1, j2, j3⟩ := hC5.add hl v
      have hN5 : LN N o gM5 := hN.fr (fun p i z => ((a5 p i (by omega)).trans (f4 p i (by omega))).trans (f3 p i (by omega))) (by omega)
      obtain ⟨gM6, n1, n2, n3⟩ := notes_ok hN5 (by omega) a3.2.2.1 v
      rw [show wh v = 0 from if_pos (by omega), show vl v = v from if_pos (by omega)] at n1
      rw [if_pos rfl] at b5 e4
      replace b5 := b5.trans (show (Option.bind ((fX_Law_add 5 (i3 v) gX5).bind fun g21 => some (i3 0, g21)) _) = _ by rw [j1, ob_s, ob_s])
      replace e4 := e4.trans (show ((fM_notes (i3 0) (i3 v) gM5).bind fun g198 => some g198) = _ by rw [n1, ob_s])
      refine ⟨gM6, e4, res_one (Go.one b5) (N1 := N ++ [v]) (fp1 := fp1) (t1 := t1) ⟨⟨a3.1.frL j3, a3.2.frN n3⟩, j2, n2, ((f0.tr b2.l).tr a4.l).tr j3.l, (F4.tr a5.l).tr n3.l, wfd_v hd (by omega), ⟨c, (j3 1 3 (by omega) (by omega) (by omega) (by omega)).trans d1, by omega, by rw [len_s]; omega, d3⟩, ho⟩ ht1⟩
    · rw [if_neg q] at b5 e4
      obtain ⟨gX6, j1, j2⟩ := add_tot m1 gX5
      have F6 : FRL gX5 gX6 := fun p i z1 z2 z3 z4 => j2 p i z1 z3
      replace b5 := b5.trans (show (Option.bind ((fX_Law_add 5 m1 gX5).bind fun g21 => some (i3 0, g21)) _) = _ by rw [j1, ob_s, ob_s])
      replace e4 := e4.trans (show ((fM_notes (i3 0) (i3 0) gM5).bind fun g198 => some g198) = _ by rw [notes_F a3.2 q, ob_s])
      exact ⟨gM5, e4, Or.inl ⟨ft1, fp1, t1, k + 1, i3 0, gX6, q, a3.2, F4.tr a5.l, Go.one b5, ((f0.tr b2.l).tr a4.l).tr F6.l, fin_fault (a3.1.frL F6) q ((j2 6 1 (by omega) (by omega)).trans hC5.2.2.1) (by omega) _ _⟩⟩
  · obtain ⟨gM5, a1, a2, a3⟩ := M_num1 m4 hdg (lo := 0) (H := 1000)
    rw [i3_sub (by omega), show 1000 - 1 = 999 from rfl] at a1
    rw [a1, ob_s] at e4
    replace e4 := e4.trans (show ((fM_notes (i3 0) (i3 0) gM5).bind fun g198 => some g198) = _ by rw [notes_F a2 (by omega), ob_s])
    refine ⟨gM5, e4, Or.inl ?_⟩
    by_cases ht : t < e
    · obtain ⟨g2, b1, b2, b3, b4, b5⟩ := unit_pre hL' he ht
      have hbt := (hT.1.1.2.2 t (by omega)).1
      obtain ⟨g50, d1, d2, d3, d4, d5⟩ := X_word b1 rr hn
      have hr1 := rr.1
      obtain ⟨g6, j1, j2, j3⟩ := X_blame (p := t) d4 (k := 1) (by omega) (by omega)
      rw [digX _ hbt, if_neg (show ¬ (48 ≤ b t ∧ b t ≤ 57) from fun z => hdg ⟨ht, z⟩), if_pos (show i3 0 = (0 : Int32) from rfl), if_neg (by rw [i3_eq (by omega) (by omega)]; exact fun z => h40 ⟨ht, z⟩), d1, ob_s, X_factOf d4.1 d4.2.1 d2 d3 hr1, ob_s, hf, nm_no (Nat.le_refl 8), if_pos rfl, X_isWord (x := 3) (by omega) d4.1 d4.2.1 d2 d3 hr1, if_neg h34.1, ob_s, if_pos (show i3 0 = (0 : Int32) from rfl), X_isWord (x := 4) (by omega) d4.1 d4.2.1 d2 d3 hr1, if_neg h34.2, ob_s, if_pos (show i3 0 = (0 : Int32) from rfl), d3, j1, expectF j2 (by omega), ob_s] at b5
      exact ⟨1, t, t, k + 1, i3 1, g6, by omega, a2, F4.tr a3.l, Go.one b5, ((f0.tr b2.l).tr d5.l).tr (fun p i z1 z2 z3 z4 z5 => j3 p i (by omega)), fin_fault j2 (by omega) ((j3 6 1 (by omega)).trans ((d5 6 1 (by omega)).trans b4.2.2.1)) (by omega) _ _⟩
    · have hte2 : t = e := by have := hT.1.2.2.2.1; omega
      subst hte2
      exact ⟨1, t, t, k, i3 1, gX, by omega, a2, F4.tr a3.l, Go.rf, f0, fin_end hT.1 hC.2.2.1 (by omega) c1 c2 c4 he _ hC.2.2.2.2.1 ho (Or.inl (by decide))⟩
theorem one_fact (hL : Lw e b fp t k N w N o dd gX0 gM0 gX gM) (he : e ≤ 150) (rr : RUN (ltr b) e t n) (hn : nb e b (t + n) t') (m3 : Mt e b 0 fp t g3) (f3 : FRM gM g3) (p3 : g3 0 4 = i3 t) (hf : ¬ fct b t n = 8) : ∃ gM', fM_one_b56 r1 r2 r3 m1 g3 = some gM' ∧ Res e b gX0 gM0 3 w o (dd + 1) k (i3 1) gX t gM' := by
  have hL' := hL
  obtain ⟨hT, hC, hN, f0, f1, hd, ⟨c0, c1, c2, c3, c4⟩, ho⟩ := hL
  have h600 := hT.1.c600
  have hCl := hC.2.2.2.2.2.2
  have hn0 : 1 ≤ n := by
    rcases n with _ | n
    · exact absurd fct_0 hf
    · omega
  have hr1 := rr.1
  have hl0 : ltr b t := rr.2.1 0 (by omega)
  have hle := fct_le (b := b) (t := t) (n := n)
  have ht : t < e := by omega
  have hl1 : 97 ≤ b t ∧ b t ≤ 122 := hl0
  obtain ⟨g4, m4, f4, e4⟩ := b56_pre (r1 := r1) (r2 := r2) (r3 := r3) m3 p3 rr hn (by omega)
  rw [if_neg hf] at m4
  generalize hF : fct b t n = F at *
  rw [nm_lt (by omega), if_neg (by rw [i3_eqm (by omega)]; exact fun z => z)] at e4
  have F4 : LFM gM0 g4 := (f1.tr f3.l).tr f4.l
  obtain ⟨g2, b1, b2, b3, b4, b5⟩ := unit_pre hL' he ht
  have hbt := (hT.1.1.2.2 t (by omega)).1
  obtain ⟨g50, d1, d2, d3, d4, d5⟩ := X_word b1 rr hn
  have hC5 := b4.frX d5
  obtain ⟨gX6, j1, j2, j3⟩ := hC5.add (by omega) (1000 + F)
  rw [digX _ hbt, if_neg (show ¬ (48 ≤ b t ∧ b t ≤ 57) by omega), if_pos (show i3 0 = (0 : Int32) from rfl), if_neg (show ¬ i3 (b t) = i3 40 by rw [i3_eq (by omega) (by omega)]; omega), d1, ob_s, X_factOf d4.1 d4.2.1 d2 d3 hr1, ob_s, hF, nm_lt (by omega), if_neg (by rw [i3_eqm (by omega)]; exact fun z => z), i3_add, j1, ob_s, ob_s] at b5
  have hN4 : LN N o g4 := hN.fr (fun p i z => (f4 p i (by omega)).trans (f3 p i (by omega))) (by omega)
  obtain ⟨gM6, n1, n2, n3⟩ := notes_ok hN4 (by omega) m4.2.1 (1000 + F)
  rw [show wh (1000 + F) = 1 from (if_neg (by omega)).trans (if_pos (by omega)), show vl (1000 + F) = F from (if_neg (by omega)).trans ((if_pos (by omega)).trans (by omega))] at n1
  rw [n1, ob_s] at e4
  have hnn := nb_le hn
  exact ⟨gM6, e4, res_one (Go.one b5) (N1 := N ++ [1000 + F]) (fp1 := fp) (t1 := t') ⟨⟨d4.frL j3, m4.frN n3⟩, j2, n2, ((f0.tr b2.l).tr d5.l).tr j3.l, F4.tr n3.l, wfd_v hd (by omega), ⟨t + n, (j3 1 3 (by omega) (by omega) (by omega) (by omega)).trans d2, by omega, by rw [len_s]; omega, hnn.1⟩, ho⟩ (by omega)⟩
end OO
