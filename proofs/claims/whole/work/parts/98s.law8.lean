/-! PURE: law: one value in brackets -/
section PP
variable {e ft fp t k o dd n t' : Nat} {b : Nat → Nat} {C v w N q : List Nat} {gX0 gM0 gX gM g g3 : St} {r1 r2 r3 : St → Option St}
theorem fn8 (g : St) (x : Int32) : FNM g (st g 0 8 x) := fun p i z1 z2 => by rw [st_at, if_neg (by omega)]
theorem LN.dec (h : LN N (o + 1) g) : LN N o (st g 0 8 (g 0 8 - 1)) := by
  refine h.opn o ?_ (fun p i z => by rw [st_at, if_neg z])
  rw [st_eq, h.2.2]
  show i3 (o + 1) - i3 1 = _
  rw [i3_sub (by omega)]
  rfl
theorem Mt.pass (h : Mt e b 0 fp t g) (ht : t < e) {t2 : Nat} (hn : nb e b (t + 1) t2) : Mt e b 0 fp t2 (st g 0 4 (i3 (t + 1))) ∧ FRM g (st g 0 4 (i3 (t + 1))) := by
  have f2 : FRM g (st g 0 4 (i3 (t + 1))) := fun p i z => by rw [st_at, if_neg (by omega)]
  exact ⟨⟨h.1.fr5 f2, by rw [st_at, if_neg (by omega)]; exact h.2.1, by omega, (nb_le hn).2, ⟨_, st_eq _ _ _ _, by omega, fun _ => hn⟩, fun z => absurd rfl z⟩, f2⟩
theorem Xt.passF (h : Xt e b ft fp t g) (q : ¬ ft = 0) : Xt e b ft fp t (fX_Text_pass g) ∧ FRX g (fX_Text_pass g) := by
  have f : FRX g (fX_Text_pass g) := fun p i z => by
    show (st g 1 3 (g 1 3 + 1)) p i = _
    rw [st_at, if_neg (by omega)]
  have f2 : ∀ p i, ¬ (p = 1 ∧ i = 3) → (fX_Text_pass g) p i = g p i := fun p i z => by
    show (st g 1 3 (g 1 3 + 1)) p i = _
    rw [st_at, if_neg z]
  obtain ⟨h1, h2, h3, h4, h5, h6⟩ := h
  exact ⟨⟨h1.fr5 f, (f2 1 6 (by omega)).trans h2, h3, h4, fun z => absurd z q, (f2 1 7 (by omega)).trans h6⟩, f⟩
theorem one_paren (hL : Lw e b fp t k N w N o dd gX0 gM0 gX gM) (he : e ≤ 150) (hs : o < 6 → Prs 1 r3 (o + 1)) (m3 : Mt e b 0 fp t g3) (f3 : FRM gM g3) (p3 : g3 0 4 = i3 t) (ht : t < e) (hb : b t = 40) : ∃ gM', fM_one_b56 r1 r2 r3 m1 g3 = some gM' ∧ Res e b gX0 gM0 3 w o (dd + 1) k (i3 1) gX t gM' := by
  have hL' := hL
  obtain ⟨hT, hC, hN, f0, f1, hd, ⟨c0, c1, c2, c3, c4⟩, ho⟩ := hL
  have h600 := hT.1.c600
  have hCl := hC.2.2.2.2.2.2
  obtain ⟨g2, b1, b2, b3, b4, b5⟩ := unit_pre hL' he ht
  rw [hb, digX 40 (by omega), if_neg (show ¬ (48 ≤ 40 ∧ 40 ≤ 57) by omega), if_pos (show i3 0 = (0 : Int32) from rfl), if_pos rfl, b3] at b5
  have hN3 : LN N o g3 := hN.fr (fun p i z => f3 p i (by omega)) (by omega)
  have F3 : LFM gM0 g3 := f1.tr f3.l
  have hbb := m3.1.byteAt (k := t) (by omega)
  rw [if_pos ht, hb] at hbb
  by_cases q6 : o < 6
  · obtain ⟨gM1, a1, a2, a3, a4⟩ := opens_ok hN3 m3 q6
    obtain ⟨t2, hn⟩ := nb_ex (e := e) (b := b) (c := t + 1) (by omega)
    have hn2 := nb_le hn
    obtain ⟨gX1, j1, j2, j3⟩ := push_ok b4 q6 (by omega) (c := 40) (by omega) (i3 t)
    have h4 := b1.frL j3
    have p4 : gX1 1 3 = i3 t := (j3 1 3 (by omega) (by omega) (by omega) (by omega)).trans b3
    obtain ⟨m1', m2⟩ := h4.pass p4 ht hn
    rw [j1, ob_s, m1', ob_s] at b5
    have p5 : gM1 0 4 = i3 t := (a3 0 4 (by omega) (by omega)).trans p3
    obtain ⟨h5, f5⟩ := a4.pass ht hn
    obtain ⟨gX2, hX2⟩ : ∃ z, z = st gX1 1 3 (i3 (t + 1)) := ⟨_, rfl⟩
    rw [← hX2] at m2 b5
    have fX2 : ∀ p i, ¬ (p = 1 ∧ i = 3) → gX2 p i = gX1 p i := fun p i z => by rw [hX2, st_at, if_neg z]
    have hL2 : Lw e b fp t2 (k + 1) N (w ++ [40]) N (o + 1) dd gX0 gM0 gX2 (st gM1 0 4 (i3 (t + 1))) := ⟨⟨m2, h5⟩, j2.fr (fun p i z => fX2 p i (by omega)), a2.fr (fun p i z => f5 p i (by omega)) (by omega), ((f0.tr b2.l).tr j3.l).tr (fun p i z1 z2 z3 z4 z5 => fX2 p i (by omega)), (F3.tr a3.l).tr f5.l, hd, ⟨t + 1, by rw [hX2, st_eq], by omega, by rw [len_s]; omega, hn2.1⟩, by omega⟩
    obtain ⟨gM3, s1, s2⟩ := hs q6 e b fp t2 (k + 1) N (w ++ [40]) dd gX0 gM0 gX2 _ he hL2 (by rw [topR_s]; decide)
    have eM : fM_one_b56 r1 r2 r3 m1 g3 = (fM_sign (i3 41) gM3).bind fun g155 => some (st g155 0 8 (g155 0 8 - 1)) := by
      unfold fM_one_b56
      rw [if_pos (show m1 = (-1 : Int32) from rfl), p3, hbb, ob_s]
      show (if i3 40 = i3 40 then lt1 (fM_opensOne g3) _ else _) = _
      rw [if_pos rfl, a1, lt1_e]
      show (if i3 1 = i3 0 then _ else (r3 (st gM1 0 4 (gM1 0 4 + i3 1))).bind _) = _
      rw [if_neg (by decide), p5, i3_add, s1, ob_s]
      rfl
    rcases s2 with hB | ⟨k', gX', fp', t1, C', N', q', x1, x2, x3, x4, x5, x6⟩
    · have hB2 := hB
      obtain ⟨ft, _, _, _, _, _, y1, y2, _⟩ := hB2
      exact ⟨_, eM.trans (by rw [signF y2 y1, ob_s]), Or.inl ((hB.pre (Go.one b5)).M (fn8 _ _))⟩
    · obtain ⟨gM4, y1, y2⟩ := closeS (c := 41) (top := 40) x2 he x5 x4 x6 (by omega) (Or.inl ⟨rfl, rfl⟩)
      rcases y2 with hB | ⟨z1, z2, t3, z3, z4, z5⟩
      · exact ⟨_, eM.trans (by rw [y1, ob_s]), Or.inl ((hB.pre ((Go.one b5).tr x1)).M (fn8 _ _))⟩
      · obtain ⟨gX4, u1, u2, u3, u4, u5, u6⟩ := paren_X x2 he x5 x4 (by omega) z1 z2 z3
        obtain ⟨hT', hC', hN', f0', f1', hd', ⟨c', d1, d2, d3, d4⟩, ho'⟩ := x2
        have hn3 := nb_le z3
        have hN4 : LN N' (o + 1) gM4 := hN'.fr (fun p i z => z5 p i (by omega)) (by omega)
        exact ⟨_, eM.trans (by rw [y1, ob_s]), res_one (((Go.one b5).tr x1).tr u1) (N1 := N') (fp1 := fp') (t1 := t3) ⟨⟨u2, z4.frN (fn8 _ _)⟩, u3, hN4.dec, u4, (f1'.tr z5.l).tr (fn8 _ _).l, hd', ⟨t1 + 1, u5, by omega, u6, by omega⟩, ho⟩ (by omega)⟩
  · have o6 : o = 6 := by omega
    subst o6
    obtain ⟨g', a1, a2, a3⟩ := opens_full hN3 m3 p3
    obtain ⟨g4, j1, j2, j3, j4⟩ := push_full (c := 40) (p := t) b4 b1 (by omega) (by omega)
    obtain ⟨h5, f5⟩ := j2.passF (by omega)
    rw [j1, ob_s, ob_s] at b5
    refine ⟨g', ?_, Or.inl ⟨3, t, t, k + 1, i3 1, fX_Text_pass g4, by omega, a2, F3.tr a3.l, Go.one b5, ((f0.tr b2.l).tr j3).tr f5.l, fin_fault h5 (by omega) ((f5 6 1 (by omega)).trans j4) (by omega) _ _⟩⟩
    unfold fM_one_b56
    rw [if_pos (show m1 = (-1 : Int32) from rfl), p3, hbb, ob_s]
    show (if i3 40 = i3 40 then lt1 (fM_opensOne g3) _ else _) = _
    rw [if_pos rfl, a1, lt1_e]
    show (if i3 0 = i3 0 then _ else _) = _
    rw [if_pos rfl]
def tl5 (s0 : Int32) (g : St) : Option St := (fM_notes s0 (0 : Int32) g).bind fun g103 => some (st g103 0 8 (g103 0 8 - (1 : Int32)))
def tl4 (s0 : Int32) (g : St) : Option St := (fM_sign (93 : Int32) g).bind fun g97 => tl5 s0 g97
def tl3 (r3 : St → Option St) (s0 : Int32) (g : St) : Option St := (r3 g).bind fun g91 => tl4 s0 g91
def tl2 (r3 : St → Option St) (s0 : Int32) (g : St) : Option St := (fM_sign (44 : Int32) g).bind fun g87 => tl3 r3 s0 g87
def tl1 (r3 : St → Option St) (s0 : Int32) (g : St) : Option St := (r3 g).bind fun g81 => tl2 r3 s0 g81
section TF
variable {s0 : Int32}
theorem tl5F (h : Mt e b ft fp t g) (q : ¬ ft = 0) : tl5 s0 g = some (st g 0 8 (g 0 8 - 1)) := by
  unfold tl5
  rw [notes_F h q, ob_s]
theorem tl4F (h : Mt e b ft fp t g) (q : ¬ ft = 0) : tl4 s0 g = some (st g 0 8 (g 0 8 - 1)) := by
  unfold tl4
  rw [signF h q, ob_s, tl5F h q]
theorem tl3F (h : Mt e b ft fp t g) (q : ¬ ft = 0) (hf : Flt r3) : tl3 r3 s0 g = some (st g 0 8 (g 0 8 - 1)) := by
  unfold tl3
  rw [hf g (h.n5 q), ob_s, tl4F h q]
theorem tl2F (h : Mt e b ft fp t g) (q : ¬ ft = 0) (hf : Flt r3) : tl2 r3 s0 g = some (st g 0 8 (g 0 8 - 1)) := by
  unfold tl2
  rw [signF h q, ob_s, tl3F h q hf]
theorem tl1F (h : Mt e b ft fp t g) (q : ¬ ft = 0) (hf : Flt r3) : tl1 r3 s0 g = some (st g 0 8 (g 0 8 - 1)) := by
  unfold tl1
  rw [hf g (h.n5 q), ob_s, tl2F h q hf]
end TF
theorem brk_op {s top : Nat} (h : (top = 108 ∧ s = 7) ∨ (top = 109 ∧ s = 8)) : wh (2000 + (top - 32)) = s ∧ vl (2000 + (top - 32)) = 0 ∧ isO (2000 + (top - 32)) = true ∧ ¬ 2000 + (top - 32) < 1008 ∧ (top - 32 = 76 ∨ top - 32 = 77) ∧ (top = 108 ∨ top = 109) ∧ top < 256 ∧ s < 9 ∧ rk top = 0 ∧ rk (top - 32) = 0 := by
  rcases h with ⟨rfl, rfl⟩ | ⟨rfl, rfl⟩
  · exact ⟨rfl, rfl, rfl, by omega, by omega, by omega, by omega, by omega, rfl, rfl⟩
  · exact ⟨rfl, rfl, rfl, by omega, by omega, by omega, by omega, by omega, rfl, rfl⟩
theorem one_brk {s top : Nat} (hst : (isW b t n (wd 3) ∧ top = 108 ∧ s = 7) ∨ (¬ isW b t n (wd 3) ∧ isW b t n (wd 4) ∧ top = 109 ∧ s = 8)) (hL : Lw e b fp t k N w N o dd gX0 gM0 gX gM) (he : e ≤ 150) (hs : o < 6 → Prs 1 r3 (o + 1)) (hf3 : Flt r3) (rr : RUN (ltr b) e t n) (hn : nb e b (t + n) t') (m3 : Mt e b 0 fp t g3) (f3 : FRM gM g3) (p3 : g3 0 4 = i3 t) : ∃ gM', fM_one_b56 r1 r2 r3 (i3 s) g3 = some gM' ∧ Res e b gX0 gM0 3 w o (dd + 1) k (i3 1) gX t gM' := by
  have hL' := hL
  obtain ⟨hT, hC, hN, f0, f1, hd, ⟨c0, c1, c2, c3, c4⟩, ho⟩ := hL
  have h600 := hT.1.c600
  have hCl := hC.2.2.2.2.2.2
  have hn0 : 1 ≤ n := by
    rcases n with _ | n
    · rcases hst with ⟨z, _⟩ | ⟨_, z, _⟩
      · exact absurd z (isW_0 (by omega))
      · exact absurd z (isW_0 (by omega))
    · omega
  have hr1 := rr.1
  have hl0 : ltr b t := rr.2.1 0 (by omega)
  have hl1 : 97 ≤ b t ∧ b t ≤ 122 := hl0
  have ht : t < e := by omega
  have hnn := nb_le hn
  have hbt := (hT.1.1.2.2 t (by omega)).1
  have hfct : fct b t n = 8 := fct_34 (by rcases hst with ⟨z, _⟩ | ⟨_, z, _⟩; exact Or.inl z; exact Or.inr z)
  obtain ⟨o1, o2, o3, o4, o5, o6, o7, o8, o9, o10⟩ := brk_op (s := s) (top := top) (by omega)
  obtain ⟨g2, b1, b2, b3, b4, b5⟩ := unit_pre hL' he ht
  obtain ⟨g50, d1, d2, d3, d4, d5⟩ := X_word b1 rr hn
  have hC5 := b4.frX d5
  have b6 : fX_LawReader_readFrom_L19 5 (i3 1, i3 k, gX) = (((fX_LawReader_push (i3 top) (i3 t) g50).bind fun g94 => fX_LawReader_readUnit_b132 5 g94) : Option (Int32 × St)).bind fun z => some (.inl (z.1, i3 (k + 1), z.2)) := by
    rw [digX _ hbt, if_neg (show ¬ (48 ≤ b t ∧ b t ≤ 57) by omega), if_pos (show i3 0 = (0 : Int32) from rfl), if_neg (show ¬ i3 (b t) = i3 40 by rw [i3_eq (by omega) (by omega)]; omega), d1, ob_s, X_factOf d4.1 d4.2.1 d2 d3 hr1, ob_s, hfct, nm_no (Nat.le_refl 8), if_pos rfl, X_isWord (x := 3) (by omega) d4.1 d4.2.1 d2 d3 hr1] at b5
    rcases hst with ⟨z1, rfl, rfl⟩ | ⟨z1, z2, rfl, rfl⟩
    · rw [if_pos z1, ob_s, if_neg (show ¬ i3 1 = (0 : Int32) by decide), d3] at b5
      exact b5
    · rw [if_neg z1, ob_s, if_pos (show i3 0 = (0 : Int32) from rfl), X_isWord (x := 4) (by omega) d4.1 d4.2.1 d2 d3 hr1, if_pos z2, ob_s, if_neg (show ¬ i3 1 = (0 : Int32) by decide), d3] at b5
      exact b5
  have hN3 : LN N o g3 := hN.fr (fun p i z => f3 p i (by omega)) (by omega)
  have F3 : LFM gM0 g3 := f1.tr f3.l
  have hm1 : ¬ i3 s = (-1 : Int32) := by
    show ¬ i3 s = m1
    rw [i3_eqm (by omega)]
    exact fun z => z
  by_cases q6 : o < 6
  · obtain ⟨gM1, a1, a2, a3, a4⟩ := opens_ok hN3 m3 q6
    have p5 : gM1 0 4 = i3 t := (a3 0 4 (by omega) (by omega)).trans p3
    obtain ⟨gM2, k1, k2, k3⟩ := M_skip a4 p5 rr hn
    obtain ⟨gX1, j1, j2, j3⟩ := push_ok hC5 q6 (by omega) o7 (i3 t)
    have h4 := d4.frL j3
    have p4 : gX1 1 3 = i3 (t + n) := (j3 1 3 (by omega) (by omega) (by omega) (by omega)).trans d2
    obtain ⟨ft1, fp1, t1, gX2, gM3, y1, y2, y3, y4, y5, y6, y7⟩ := sign_both (show TS e b 0 fp t' gX1 gM2 from ⟨h4, k2⟩) (s := 91) (by omega)
    have b7 : fX_LawReader_readFrom_L19 5 (i3 1, i3 k, gX) = some (.inl (i3 1, i3 (k + 1), gX2)) := by
      rw [b6, j1, ob_s]
      unfold fX_LawReader_readUnit_b132
      show (((fX_Text_expect (i3 91) gX1).bind _).bind _) = _
      rw [y1]
      rfl
    have eM : fM_one_b56 r1 r2 r3 (i3 s) g3 = tl1 r3 (i3 s) gM3 := by
      unfold fM_one_b56
      rw [if_neg hm1, a1, lt1_e]
      show (if i3 1 = i3 0 then _ else (fM_skipWord gM1).bind _) = _
      rw [if_neg (by decide), k1, ob_s]
      show (fM_sign (i3 91) gM2).bind _ = _
      rw [y2, ob_s]
      rfl
    have F4 : LFX gX0 gX2 := (((f0.tr b2.l).tr d5.l).tr j3.l).tr y4.l
    have F5 : LFM gM0 gM3 := ((F3.tr a3.l).tr k3.l).tr y5.l
    have hC2 := j2.frX y4
    by_cases q0 : ft1 = 0
    · subst q0
      obtain ⟨_, w1, w2, w3, w4⟩ := y6 rfl
      have hn1 := nb_le w3
      have hL2 : Lw e b fp1 t1 (k + 1) N (w ++ [top]) N (o + 1) dd gX0 gM0 gX2 gM3 := ⟨y3, hC2, (a2.fr (fun p i z => k3 p i (by omega)) (by omega)).fr (fun p i z => y5 p i (by omega)) (by omega), F4, F5, hd, ⟨t' + 1, w4, by omega, by rw [len_s]; omega, hn1.1⟩, by omega⟩
      obtain ⟨gM4, s1, s2⟩ := hs q6 e b fp1 t1 (k + 1) N (w ++ [top]) dd gX0 gM0 gX2 gM3 he hL2 (by rw [topR_s]; omega)
      have eM2 : fM_one_b56 r1 r2 r3 (i3 s) g3 = tl2 r3 (i3 s) gM4 := by
        rw [eM]
        unfold tl1
        rw [s1, ob_s]
      rcases s2 with hB | ⟨k', gX', fp', t2, C', N', q', x1, x2, x3, x4, x5, x6⟩
      · have hB2 := hB
        obtain ⟨ft, _, _, _, _, _, z1, z2, _⟩ := hB2
        exact ⟨_, eM2.trans (tl2F z2 z1 hf3), Or.inl ((hB.pre (Go.one b7)).M (fn8 _ _))⟩
      · obtain ⟨gM5, v1, v2⟩ := closeS (c := 44) (top := top) x2 he x5 x4 x6 (by omega) (Or.inr (Or.inl ⟨rfl, o6⟩))
        have eM3 : fM_one_b56 r1 r2 r3 (i3 s) g3 = tl3 r3 (i3 s) gM5 := by
          rw [eM2]
          unfold tl2
          show (fM_sign (i3 44) gM4).bind _ = _
          rw [v1, ob_s]
        have go1 := (Go.one b7).tr x1
        rcases v2 with hB | ⟨z1, z2, t3, z3, z4, z5⟩
        · have hB2 := hB
          obtain ⟨ft, _, _, _, _, _, z1, z2, _⟩ := hB2
          exact ⟨_, eM3.trans (tl3F z2 z1 hf3), Or.inl ((hB.pre go1).M (fn8 _ _))⟩
        · obtain ⟨gX4, u1, u2, u3, u4, u5, u6⟩ := comma_X o6 x2 he x5 x4 z1 z2 z3
          obtain ⟨hT', hC', hN', f0', f1', hd', ⟨c', e1, e2, e3, e4⟩, ho'⟩ := x2
          have hn3 := nb_le z3
          have hL3 : Lw e b fp' t3 (k' + 1) N' (w ++ [top - 32]) N' (o + 1) (dd + 1) gX0 gM0 gX4 gM5 := ⟨⟨u2, z4⟩, u3, hN'.fr (fun p i z => z5 p i (by omega)) (by omega), u4, f1'.tr z5.l, hd', ⟨t2 + 1, u5, by omega, u6, by omega⟩, ho'⟩
          obtain ⟨gM6, s3, s4⟩ := hs q6 e b fp' t3 (k' + 1) N' (w ++ [top - 32]) (dd + 1) gX0 gM0 gX4 gM5 he hL3 (by rw [topR_s]; omega)
          have eM4 : fM_one_b56 r1 r2 r3 (i3 s) g3 = tl4 (i3 s) gM6 := by
            rw [eM3]
            unfold tl3
            rw [s3, ob_s]
          have go2 := go1.tr u1
          rcases s4 with hB | ⟨k4, gX5, fp5, t5, C5, N5, q5, x1', x2', x3', x4', x5', x6'⟩
          · have hB2 := hB
            obtain ⟨ft, _, _, _, _, _, z1, z2, _⟩ := hB2
            exact ⟨_, eM4.trans (tl4F z2 z1), Or.inl ((hB.pre go2).M (fn8 _ _))⟩
          · obtain ⟨gM7, v3, v4⟩ := closeS (c := 93) (top := top - 32) x2' he x5' x4' x6' (by omega) (Or.inr (Or.inr ⟨rfl, o5⟩))
            have eM5 : fM_one_b56 r1 r2 r3 (i3 s) g3 = tl5 (i3 s) gM7 := by
              rw [eM4]
              unfold tl4
              show (fM_sign (i3 93) gM6).bind _ = _
              rw [v3, ob_s]
            have go3 := go2.tr x1'
            rcases v4 with hB | ⟨z6, z7, t6, z8, z9, z10⟩
            · have hB2 := hB
              obtain ⟨ft, _, _, _, _, _, z1, z2, _⟩ := hB2
              exact ⟨_, eM5.trans (tl5F z2 z1), Or.inl ((hB.pre go3).M (fn8 _ _))⟩
            · obtain ⟨gX6, u7, u8, u9, u10, u11, u12⟩ := brack_X o5 x2' he x5' x4' (by omega) z6 z7 z8
              obtain ⟨hT5, hC5', hN5, f05, f15, hd5, ⟨c5, e5, e6, e7, e8⟩, ho5⟩ := x2'
              have hn6 := nb_le z8
              have hl12 := u12
              rw [len_s] at hl12
              have hN7 : LN N5 (o + 1) gM7 := hN5.fr (fun p i z => z10 p i (by omega)) (by omega)
              obtain ⟨gM8, n1, n2, n3⟩ := notes_ok hN7 (by omega) z9.2.1 (2000 + (top - 32))
              rw [o1, o2] at n1
              have eM6 : fM_one_b56 r1 r2 r3 (i3 s) g3 = some (st gM8 0 8 (gM8 0 8 - 1)) := by
                rw [eM5]
                unfold tl5
                show (fM_notes (i3 s) (i3 0) gM7).bind _ = _
                rw [n1, ob_s]
              exact ⟨_, eM6, res_one (go3.tr u7) (N1 := N5 ++ [2000 + (top - 32)]) (fp1 := fp5) (t1 := t6) ⟨⟨u8, (z9.frN n3).frN (fn8 _ _)⟩, u9, n2.dec, u10, ((f15.tr z10.l).tr n3.l).tr (fn8 _ _).l, wfd_o hd5 o3 o4, ⟨t5 + 1, u11, by omega, u12, by omega⟩, ho⟩ (by omega)⟩
    · have h61 : gX2 6 1 = i3 (w ++ [top]).length := hC2.2.2.1
      exact ⟨_, eM.trans (tl1F y3.2 q0 hf3), Or.inl (BAD.M ⟨ft1, fp1, t1, k + 1, i3 1, gX2, q0, y3.2, F5, Go.one b7, F4, fin_fault y3.1 q0 h61 (by rw [len_s]; omega) _ _⟩ (fn8 _ _))⟩
  · have o6' : o = 6 := by omega
    subst o6'
    obtain ⟨g', a1, a2, a3⟩ := opens_full hN3 m3 p3
    obtain ⟨g4, j1, j2, j3, j4⟩ := push_full (c := top) (p := t) hC5 d4 (by omega) o7
    have j2' : Xt e b 3 t t' g4 := j2
    have b7 : fX_LawReader_readFrom_L19 5 (i3 1, i3 k, gX) = some (.inl (i3 1, i3 (k + 1), g4)) := by
      rw [b6, j1, ob_s, expectF j2 (by omega)]
      rfl
    have a2' : Mt e b 3 t t' g' := by
      obtain ⟨k1, k2, k3, k4, k5, k6⟩ := a2
      exact ⟨k1, k2, k3, hnn.2, by obtain ⟨c, c1, c2, c3⟩ := k5; exact ⟨c, c1, c2, fun z => absurd z (by omega)⟩, k6⟩
    refine ⟨g', ?_, Or.inl ⟨3, t, t', k + 1, i3 1, g4, by omega, a2', F3.tr a3.l, Go.one b7, ((f0.tr b2.l).tr d5.l).tr j3, fin_fault j2 (by omega) j4 (by omega) _ _⟩⟩
    unfold fM_one_b56
    rw [if_neg hm1, a1, lt1_e]
    show (if i3 0 = i3 0 then _ else _) = _
    rw [if_pos rfl]
theorem one_ok (hs : o < 6 → Prs 1 r3 (o + 1)) (hf3 : Flt r3) : Prs 3 (fM_one_o r1 r2 r3) o := by
  intro e b fp t k N w dd gX0 gM0 gX gM he hL hw
  obtain ⟨n, rr⟩ := run_ex (ltr b) e (e - t) t (by have := hL.1.1.2.2.2.1; omega)
  obtain ⟨t', hn⟩ := nb_ex (b := b) rr.1
  obtain ⟨g3, m3, f3, p3, e1⟩ := one_pre (r1 := r1) (r2 := r2) (r3 := r3) hL.1.2 rr
  rw [e1]
  by_cases q3 : isW b t n (wd 3)
  · rw [if_pos q3]
    exact one_brk (s := 7) (top := 108) (Or.inl ⟨q3, rfl, rfl⟩) hL he hs hf3 rr hn m3 f3 p3
  · rw [if_neg q3]
    by_cases q4 : isW b t n (wd 4)
    · rw [if_pos q4]
      exact one_brk (s := 8) (top := 109) (Or.inr ⟨q3, q4, rfl, rfl⟩) hL he hs hf3 rr hn m3 f3 p3
    · rw [if_neg q4]
      by_cases q40 : t < e ∧ b t = 40
      · exact one_paren hL he hs m3 f3 p3 q40.1 q40.2
      · by_cases qf : fct b t n = 8
        · exact one_num hL he rr hn m3 f3 p3 qf ⟨q3, q4⟩ q40
        · exact one_fact hL he rr hn m3 f3 p3 qf
end PP
/-- faults pass through -/
theorem flt_one (d : Nat) : Flt (fM_one (d + 1)) := fun g h => by
  show fM_one_o _ _ _ g = _
  unfold fM_one_o
  exact if_neg h
theorem flt_product (d : Nat) : Flt (fM_product (d + 2)) := fun g h => by
  show ((fM_one (d + 1) g).bind fun g1 => fM_product_b4 _ _ _ g1) = _
  rw [flt_one d g h, ob_s]
  unfold fM_product_b4
  rw [show fuel = 999999 + 1 from rfl, lp_inr (r := .inr g) ((spc_product _ _ _).1 g h), ob_s]
  rfl
theorem flt_sum (d : Nat) : Flt (fM_sum (d + 3)) := fun g h => by
  show ((fM_product (d + 2) g).bind fun g1 => fM_sum_b4 _ _ _ g1) = _
  rw [flt_product d g h, ob_s]
  unfold fM_sum_b4
  rw [show fuel = 999999 + 1 from rfl, lp_inr (r := .inr g) ((spc_sum _ _ _).1 g h), ob_s]
  rfl
theorem sum_go : ∀ (j o d : Nat), o + j = 6 → 3 * j + 3 ≤ d → Prs 1 (fM_sum (d + 3)) o := by
  have key : ∀ (o d : Nat), (o < 6 → Prs 1 (fM_sum d) (o + 1)) → Flt (fM_sum d) → Prs 1 (fM_sum (d + 3)) o := by
    intro o d h1 h2
    have a1 : Prs 3 (fM_one (d + 1)) o := one_ok (r1 := fM_one d) (r2 := fM_product d) (r3 := fM_sum d) h1 h2
    have a2 : Prs 2 (fM_product (d + 2)) o := level (r := 2) (by omega) a1 (spc_product (fM_one (d + 1)) (fM_product (d + 1)) (fM_sum (d + 1)))
    exact level (r := 1) (by omega) a2 (spc_sum (fM_one (d + 2)) (fM_product (d + 2)) (fM_sum (d + 2)))
  intro j
  induction j with
  | zero =>
    intro o d h1 h2
    obtain ⟨d, rfl⟩ : ∃ z, d = z + 3 := ⟨d - 3, by omega⟩
    exact key o (d + 3) (fun z => by omega) (flt_sum d)
  | succ j ih =>
    intro o d h1 h2
    obtain ⟨d, rfl⟩ : ∃ z, d = z + 3 := ⟨d - 3, by omega⟩
    exact key o (d + 3) (fun _ => ih (o + 1) d (by omega) (by omega)) (flt_sum d)
theorem sum_ok : Prs 1 (fM_sum 60) 0 := sum_go 6 0 57 rfl (by omega)
