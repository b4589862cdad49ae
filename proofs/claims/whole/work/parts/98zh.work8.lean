/-! PURE: work: a step is read, an again too; work is read -/
section AG8
variable {n e ft fp t k x s o h H m t1 : Nat} {b : Nat → Nat} {g g' g3 gX gM gM1 gX0 gM0 gX' gM' : St} {rec : St → Option St}
theorem again_ok (hs : o < 6 → PSt n h rec (o + 1)) (hH : o < 6 → H = h + 1) (hn : n ≤ 8) (he : e ≤ 150) (hW : Ww e b fp t k x s o n gX gM) (hX : WXF gX0 gX) (hM : WMF gM0 gM) (ht : t < e) (rr : RUN (ltr b) e t m) (hn1 : nb e b (t + m) t1) (hm3 : 3 ≤ m) (d4 : Xt e b 0 fp t1 g3) (d3 : g3 1 4 = i3 t) (F3 : FRX gX g3) (b4 : fX_Steps_readFrom_L12 (i3 n) (i3 k, gX) = (xrest n 5 g3).bind fun z => some (.inl (i3 (k + 1), z))) (a2 : Mt e b 0 fp t gM1) (a3 : FRM gM gM1) (a4 : gM1 0 4 = i3 t) : ∃ gM', fM_readsStep_b19 rec (i3 5) gM1 = some gM' ∧ ResW n e b gX0 gM0 H k gX t x s o gM gM' := by
  have hW' := hW
  obtain ⟨hT, w1, w2, w3, w4, w5, ⟨c, c1, c2, c3, c4, c5⟩, ho⟩ := hW
  have h600 := hT.1.c600
  have hnn := nb_le hn1
  have hr1 := rr.1
  have m8 : gM1 0 8 = i3 o := (a3 0 8 (by omega)).trans w4
  have x6 : g3 7 6 = i3 o := (F3 7 6 (by omega)).trans w2
  have x5 : g3 7 5 = i3 x := (F3 7 5 (by omega)).trans w1
  by_cases q : o < 6
  · obtain ⟨gMo, j1, j2, j3, j4⟩ := opW_ok m8 a2 q
    obtain ⟨gM2, k1, k2, k3⟩ := M_skip j3 ((j4 0 4 (by omega)).trans a4) rr hn1
    have m26 : gM2 0 26 = i3 s := (k3 0 26 (by omega)).trans ((j4 0 26 (by omega)).trans ((a3 0 26 (by omega)).trans w3))
    obtain ⟨gR, hR⟩ : ∃ z, z = st (st gM2 0 26 (i3 (s + 1))) (378 + s) 0 (i3 5) := ⟨_, rfl⟩
    have fR : ∀ p i, ¬ (p = 0 ∧ i = 26) → ¬ (p = 378 + s ∧ i = 0) → gR p i = gM2 p i := fun p i z1 z2 => by rw [hR, st_at, if_neg z2, st_at, if_neg z1]
    have hTR : TS e b 0 fp t1 g3 gR := ⟨d4, k2.fr (fun i _ _ => fR 0 i (by omega) (by omega)) (fun i => fR 1 i (by omega) (by omega))⟩
    obtain ⟨ft1, fp1, t2, v, gX4, gM4, n1, n2, n3, n4, n5, n6⟩ := numK hTR (lo := 0) (H := 60) (by omega) (by omega)
    obtain ⟨gM5, hM5⟩ : ∃ z, z = st gM4 (378 + s) 1 (if ft1 = 0 then i3 v else i3 0) := ⟨_, rfl⟩
    have f5 : ∀ p i, ¬ (p = 378 + s ∧ i = 1) → gM5 p i = gM4 p i := fun p i z => by rw [hM5, st_at, if_neg z]
    have hT5 : TS e b ft1 fp1 t2 gX4 gM5 := n3.fr (fun _ _ => rfl) (fun _ => rfl) (fun i _ _ => f5 0 i (by omega)) (fun i => f5 1 i (by omega))
    obtain ⟨ft2, fp2, t3, gX5, gM6, e1, e2, e3, e4, e5, e6, e7⟩ := sign_both hT5 (s := 91) (by omega)
    obtain ⟨gX6, hX6⟩ : ∃ z, z = st (st gX5 33 o (i3 x)) 7 6 (i3 (o + 1)) := ⟨_, rfl⟩
    obtain ⟨gX7, hX7⟩ : ∃ z, z = st (st (st (st gX6 30 x (i3 5)) 31 x (if ft1 = 0 then i3 v else m1)) 32 x (i3 0)) 7 5 (i3 (x + 1)) := ⟨_, rfl⟩
    have F5 : FRX gX gX5 := (F3.tr n4).tr e4
    have f7 : ∀ p i, ¬ (p = 7 ∧ (i = 5 ∨ i = 6)) → ¬ (30 ≤ p ∧ p ≤ 32 ∧ i = x) → ¬ (p = 33 ∧ i = o) → gX7 p i = gX5 p i := fun p i z1 z2 z3 => by
      rw [hX7, st_at, if_neg (by omega), st_at, if_neg (by omega), st_at, if_neg (by omega), st_at, if_neg (by omega), hX6, st_at, if_neg (by omega), st_at, if_neg z3]
    have eX : fX_Steps_readFrom_L12 (i3 n) (i3 k, gX) = some (.inl (i3 (k + 1), gX7)) := by
      rw [b4]
      show (((fX_Steps_openAgain g3).bind fun g15 => some g15).bind _) = _
      unfold fX_Steps_openAgain
      show (((if g3 7 6 < i3 6 then fX_Steps_openAgain_b18 g3 else _).bind fun g15 => some g15).bind _) = _
      rw [x6, if_pos (i3_ylt (by omega) q)]
      unfold fX_Steps_openAgain_b18
      show ((((fX_Text_number (i3 0) (i3 60) g3).bind _).bind fun g15 => some g15).bind _) = _
      rw [n1, ob_s]
      show ((((fX_Text_expect (i3 91) gX4).bind _).bind fun g15 => some g15).bind _) = _
      rw [e1, ob_s, F5 7 6 (by omega), F5 7 5 (by omega), w2, w1, pu33 q, ob_s]
      have ea : fX_Steps_add (5 : Int32) (if ft1 = 0 then i3 v else m1) (0 : Int32) (st (st gX5 33 o (i3 x)) 7 6 ((st gX5 33 o (i3 x)) 7 6 + (1 : Int32))) = some gX7 := by
        rw [show (st gX5 33 o (i3 x)) 7 6 + (1 : Int32) = i3 (o + 1) by rw [st_ne (by omega), F5 7 6 (by omega), w2]; exact i3_add o 1, ← hX6, hX7]
        exact add_st (x := x) (by rw [hX6, st_at, if_neg (by omega), st_ne (by omega), F5 7 5 (by omega)]; exact w1) (by omega) _ _ _
      show ((((fX_Steps_add (5 : Int32) (if ft1 = 0 then i3 v else m1) (0 : Int32) (st (st gX5 33 o (i3 x)) 7 6 ((st gX5 33 o (i3 x)) 7 6 + (1 : Int32)))).bind fun g61 => some g61).bind fun g15 => some g15).bind _) = _
      rw [ea, ob_s, ob_s, ob_s]
    have eM : fM_readsStep_b19 rec (i3 5) gM1 = (fM_blanks gM6).bind fun g152 => fM_readsStep_b155 rec (378 + s) g152 := by
      have hlen : ¬ ((1 : Int32) < 0 ∨ lenW shM (378 + s) ≤ (1 : Int32).toNatClampNeg) := by
        rw [ln4 (by omega)]
        decide
      unfold fM_readsStep_b19
      show (if i3 5 = i3 5 then lt1 (fM_opensOne gM1) _ else _) = _
      rw [if_pos rfl, j1, lt1_e]
      show (if i3 1 = i3 0 then _ else fM_readsStep_b32 rec (i3 5) gMo) = _
      rw [if_neg (by decide)]
      unfold fM_readsStep_b32
      rw [if_pos (show gMo 0 5 = 0 from j3.2.1), k1, ob_s, m26, if_pos (i3_in (by omega) (by omega)), i3_nat (by omega), show i3 s + (1 : Int32) = i3 (s + 1) from i3_add s 1, if_pos (show (4 : Int32) ≤ i3 5 by decide), ← hR]
      unfold fM_readsStep_b89
      show (if i3 5 = i3 1 then _ else fM_readsStep_b110 rec (i3 5) (378 + s) gR) = _
      rw [if_neg (by decide)]
      unfold fM_readsStep_b110
      show (if i3 5 = i3 2 then _ else if i3 5 = i3 3 then _ else fM_readsStep_b130 rec (i3 5) (378 + s) gR) = _
      rw [if_neg (by decide), if_neg (by decide)]
      unfold fM_readsStep_b130
      show (if i3 5 = i3 5 then (fM_number (i3 0) (i3 60) gR).bind _ else _) = _
      rw [if_pos rfl, n2, ob_s]
      show (if ¬ ((1 : Int32) < 0 ∨ lenW shM (378 + s) ≤ (1 : Int32).toNatClampNeg) then ((fM_sign (i3 91) (st gM4 (378 + s) 1 (if ft1 = 0 then i3 v else i3 0))).bind fun g148 => (fM_blanks g148).bind fun g152 => fM_readsStep_b155 rec (378 + s) g152) else none) = _
      rw [if_pos hlen, ← hM5, e2, ob_s]
    obtain ⟨gM7, y1, y2, y3, y4⟩ := blanks_M e3.2
    rw [y1, ob_s] at eM
    have e155 : ∀ g : St, fM_readsStep_b155 rec (378 + s) g = (lp (fM_readsStep_L155 rec (378 + s)) fuel g).bind fun g => (fM_sign (93 : Int32) g).bind fun g189 => fM_readsStep_b202 rec (378 + s) (st g189 0 8 (g189 0 8 - (1 : Int32))) := fun g => rfl
    have GX : WXF gX0 gX7 := (hX.tr F5.w).tr (fun p i z1 z2 z3 => f7 p i (by omega) (by omega) (by omega))
    have GMo : ∀ p i, ¬ (p = 0 ∧ 4 ≤ i ∧ i ≤ 6) → ¬ (p = 0 ∧ (i = 8 ∨ i = 26)) → ¬ (p = 378 + s ∧ i ≤ 1) → gM7 p i = gM p i := fun p i z1 z2 z3 => (y3 p i z1).trans ((e5 p i z1).trans ((f5 p i (by omega)).trans ((n5 p i z1).trans ((fR p i (by omega) (by omega)).trans ((k3 p i z1).trans ((j4 p i (by omega)).trans (a3 p i z1)))))))
    have GM : WMF gM0 gM7 := hM.tr (fun p i z1 z2 z3 => GMo p i (by omega) (by omega) (by omega))
    have g30 : gX7 30 x = i3 5 := by rw [hX7, st_ne (by omega), st_ne (by omega), st_ne (by omega), st_eq]
    have g33 : gX7 33 o = i3 x := by rw [hX7, st_ne (by omega), st_ne (by omega), st_ne (by omega), st_ne (by omega), hX6, st_ne (by omega), st_eq]
    have kpx : KPX x o gX gX7 := ⟨fun q j hq hj => (f7 q j (by omega) (by omega) (by omega)).trans (F5 q j (by omega)), fun j hj => (f7 33 j (by omega) (by omega) (by omega)).trans (F5 33 j (by omega))⟩
    have kpm : KPM s gM gM7 := fun j i hj => GMo _ i (by omega) (by omega) (by omega)
    by_cases q0 : ft2 = 0
    · subst q0
      obtain ⟨u1, u2, u3, u4, u5⟩ := e6 rfl
      subst u1
      obtain ⟨_, _, v60, u6, _, _⟩ := n6 rfl
      rw [if_pos rfl] at hM5 hX7
      have hn3 := nb_le u4
      have g31 : gX7 31 x = i3 v := by rw [hX7, st_ne (by omega), st_ne (by omega), st_eq]
      have hm0 : gM7 (378 + s) 0 = i3 5 := by rw [y3 _ 0 (by omega), e5 _ 0 (by omega), f5 _ 0 (by omega), n5 _ 0 (by omega), hR, st_eq]
      have hm1 : gM7 (378 + s) 1 = i3 v := by rw [y3 _ 1 (by omega), e5 _ 1 (by omega), hM5, st_eq]
      have hWw : Ww e b fp2 t3 (k + 1) (x + 1) (s + 1) (o + 1) n gX7 gM7 := by
        refine ⟨⟨e3.1.fr (fun i _ => f7 1 i (by omega) (by omega) (by omega)) (fun i => f7 16 i (by omega) (by omega) (by omega)), y2⟩, by rw [hX7, st_eq], ?_, ?_, ?_, (GMo 4 0 (by omega) (by omega) (by omega)).trans w5, ⟨t2 + 1, (f7 1 3 (by omega) (by omega) (by omega)).trans u5, by omega, by omega, by omega, by omega⟩, by omega⟩
        · rw [hX7, st_at, if_neg (by omega), st_ne (by omega), st_ne (by omega), st_ne (by omega), hX6, st_eq]
        · rw [y3 0 26 (by omega), e5 0 26 (by omega), f5 0 26 (by omega), n5 0 26 (by omega), hR, st_ne (by omega), st_eq]
        · rw [y3 0 8 (by omega), e5 0 8 (by omega), f5 0 8 (by omega), n5 0 8 (by omega), fR 0 8 (by omega) (by omega), k3 0 8 (by omega)]
          exact j2
      obtain ⟨gM8, z1, z2⟩ := body_ok (x2 := 378 + s) (hs q) (by omega) he hWw GX GM (y4 rfl)
      rw [e155, z1, ob_s] at eM
      rcases z2 with hB | ⟨k', gX', fp', t', x', s', b1, b2, b3, b4', b5, b6, b7, b8, b9, d, b10⟩
      · obtain ⟨gM9, l1, l2⟩ := tailW (rec := rec) hB (s := s) (by omega)
        exact ⟨gM9, eM.trans l1, Or.inl (l2.pre (RG.one eX))⟩
      · have hle := Bk.le _ _ _ _ _ _ b10
        obtain ⟨gM9, l1, l2⟩ := again_close (rec := rec) (o := o) (N := v) (s := s) (x := x) hn he b2 b3 b4' b8 b9 v60 (by omega) (by omega) ((b5.1 30 x (by omega) (by omega)).trans g30) ((b5.1 31 x (by omega) (by omega)).trans g31) ((b5.2 o (by omega)).trans g33) ((b6 s 0 (by omega)).trans hm0) ((b6 s 1 (by omega)).trans hm1) b10
        refine ⟨gM9, eM.trans l1, ?_⟩
        rcases l2 with hB | ⟨k2, gX2, fp5, t5, r1, r2, r3, r4, r5, r6, r7, r8⟩
        · exact Or.inl ((hB.pre b1).pre (RG.one eX))
        · right
          rw [hH q]
          exact ⟨k2, gX2, fp5, t5, x' + 1, s', ((RG.one eX).tr b1).tr r1, r2, r3, r4, (kpx.tr b5 (by omega) (by omega)).tr r5 (Nat.le_refl _) (Nat.le_refl _), (kpm.tr b6 (by omega)).tr r6 (Nat.le_refl _), by omega, d + 1, r8⟩
    · have hB : BADw n e b gX0 gM0 k gX gM7 := ⟨ft2, fp2, t3, k + 1, gX7, q0, y2, GM, RG.one eX, by omega, GX, wfin_fault (e3.1.fr (fun i _ => f7 1 i (by omega) (by omega) (by omega)) (fun i => f7 16 i (by omega) (by omega) (by omega))) q0 _⟩
      obtain ⟨gM9, l1, l2⟩ := tailW (rec := rec) hB (s := s) (by omega)
      rw [e155, tailW2 hB, ob_s] at eM
      exact ⟨gM9, eM.trans l1, Or.inl l2⟩
  · have o6 : o = 6 := by omega
    subst o6
    obtain ⟨gM2, j1, j2, j3⟩ := opW_full m8 a2 a4
    obtain ⟨g4, l1, l2, l3⟩ := X_blame (p := t) d4 (k := 3) (by omega) (by omega)
    have x46 : g4 7 6 = i3 6 := (l3 7 6 (by omega)).trans x6
    have x45 : g4 7 5 = i3 x := (l3 7 5 (by omega)).trans x5
    obtain ⟨g5, u1, u2⟩ := X_put_tot (row := 33) (n := 6) rfl (by omega) (by omega) (i3 6) (i3 x) g4
    obtain ⟨g6, hg6⟩ : ∃ z, z = st g5 7 6 (g5 7 6 + (1 : Int32)) := ⟨_, rfl⟩
    obtain ⟨g7, hg7⟩ : ∃ z, z = st (st (st (st g6 30 x (i3 5)) 31 x m1) 32 x (i3 0)) 7 5 (i3 (x + 1)) := ⟨_, rfl⟩
    have f7 : ∀ p i, ¬ (p = 7 ∧ (i = 5 ∨ i = 6)) → ¬ (30 ≤ p ∧ p ≤ 33) → g7 p i = g4 p i := fun p i z1 z2 => by
      rw [hg7, st_at, if_neg (by omega), st_at, if_neg (by omega), st_at, if_neg (by omega), st_at, if_neg (by omega), hg6, st_at, if_neg (by omega)]
      exact u2 p i (by omega)
    have eX : fX_Steps_readFrom_L12 (i3 n) (i3 k, gX) = some (.inl (i3 (k + 1), g7)) := by
      rw [b4]
      show (((fX_Steps_openAgain g3).bind fun g15 => some g15).bind _) = _
      unfold fX_Steps_openAgain
      show (((if g3 7 6 < i3 6 then _ else lt1 (fX_Text_blame (i3 3) (g3 1 4) g3) fun g15 => fX_Steps_openAgain_b18 g15).bind fun g15 => some g15).bind _) = _
      rw [x6, if_neg (i3_nlt (by omega) (Nat.le_refl _)), d3, l1, lt1_e]
      unfold fX_Steps_openAgain_b18
      rw [X_numF l2 (by omega), ob_s]
      show ((((fX_Text_expect (91 : Int32) g4).bind _).bind fun g15 => some g15).bind _) = _
      rw [X_expF l2 (by omega), ob_s, x46, x45, u1, ob_s]
      have ea : fX_Steps_add (5 : Int32) m1 (0 : Int32) (st g5 7 6 (g5 7 6 + (1 : Int32))) = some g7 := by
        rw [← hg6, hg7]
        exact add_st (x := x) (by rw [hg6, st_at, if_neg (by omega), u2 7 5 (by omega)]; exact x45) (by omega) _ _ _
      show ((((fX_Steps_add (5 : Int32) m1 (0 : Int32) (st g5 7 6 (g5 7 6 + (1 : Int32)))).bind fun g61 => some g61).bind fun g15 => some g15).bind _) = _
      rw [ea, ob_s, ob_s, ob_s]
    refine ⟨gM2, ?_, Or.inl ⟨3, t, t1, k + 1, g7, by omega, j2.any (by omega) hnn.2, (hM.tr a3.w).tr j3.w, RG.one eX, by omega, (hX.tr F3.w).tr (fun p i z1 z2 z3 => (f7 p i z2 z3).trans (l3 p i (by omega))), wfin_fault (l2.fr (fun i _ => f7 1 i (by omega) (by omega)) (fun i => f7 16 i (by omega) (by omega))) (by omega) _⟩⟩
    unfold fM_readsStep_b19
    show (if i3 5 = i3 5 then lt1 (fM_opensOne gM1) _ else _) = _
    rw [if_pos rfl, j1, lt1_e]
    show (if i3 0 = i3 0 then _ else _) = _
    rw [if_pos rfl]
theorem step_ok (hs : o < 6 → PSt n (5 - o) rec (o + 1)) (hn : n ≤ 8) : PSt n (6 - o) (fM_readsStep_o rec) o := by
  intro e b fp t k x s gX0 gM0 gX gM he hW hX hM ht hb
  have hW' := hW
  obtain ⟨hT, w1, w2, w3, w4, w5, ⟨c, c1, c2, c3, c4, c5⟩, ho⟩ := hW
  have h600 := hT.1.c600
  have hte := hT.1.2.2.2.1
  obtain ⟨m, rr⟩ := run_ex (ltr b) e (e - t) t (by omega)
  obtain ⟨t1, hn1⟩ := nb_ex (b := b) rr.1
  have hnn := nb_le hn1
  have hr1 := rr.1
  obtain ⟨gM1, a1, a2, a3, a4⟩ := M_stepRd hT.2 rr
  -- a fault at the word: the reference
  have mflt : stk b t m = 6 → ∃ gM2, fM_readsStep_o rec gM = some gM2 ∧ Mt e b 1 t t gM2 ∧ FRM gM gM2 := fun q6 => by
    rw [if_pos q6] at a1
    obtain ⟨gM2, i1, i2, i3'⟩ := M_wrong (p := t) a2 (k := 1) (by omega) (by omega)
    refine ⟨gM2, ?_, i2, a3.tr (fun p i z => i3' p i (by omega))⟩
    unfold fM_readsStep_o
    rw [a1, ob_s]
    show (if m1 = m1 then lt1 (fM_wrong (i3 1) (gM1 0 4) gM1) (fun g16 => fM_readsStep_b19 rec m1 g16) else _) = _
    rw [if_pos rfl, a4, i1, lt1_e]
    unfold fM_readsStep_b19
    show (if m1 = i3 5 then _ else fM_readsStep_b32 rec m1 gM2) = _
    rw [if_neg (by decide)]
    unfold fM_readsStep_b32
    rw [if_neg (i2.n5 (by omega))]
  by_cases q : t < e
  · obtain ⟨g2, b1, b2, b3, b4, _⟩ := loopW (n := n) (k := k) hT.1 (by omega) q w2 ho
    replace b4 := b4 (fun z => hb ⟨q, z.2, z.1⟩)
    obtain ⟨g3, d1, d2, d3, d4, d5⟩ := X_word b1 rr hn1
    rw [X_stepRd (n := n) (m := m) d1 d4.1 d4.2.1 d2 d3 hr1] at b4
    have F3 : FRX gX g3 := b2.tr d5
    by_cases q6 : stk b t m = 6
    · rw [q6] at b4
      obtain ⟨gM2, i1, i2, i3'⟩ := mflt q6
      obtain ⟨g4, j1, j2, j3⟩ := X_blame (p := t) d4 (k := 1) (by omega) (by omega)
      have e4 : xrest n 6 g3 = some g4 := by
        show lt1 (fX_Text_blame (i3 1) (g3 1 4) g3) (fun g173 => fX_Steps_readStep_b176 g173) = _
        rw [d3, j1, lt1_e]
        unfold fX_Steps_readStep_b176
        rw [X_expF j2 (by omega), ob_s]
      rw [e4, ob_s] at b4
      exact ⟨gM2, i1, Or.inl ⟨1, t, t, k + 1, g4, by omega, i2, hM.tr i3'.w, RG.one b4, by omega, (hX.tr F3.w).tr (fun p i z1 z2 z3 => j3 p i (by omega)), wfin_fault j2 (by omega) _⟩⟩
    · have hm3 := stk_len q6
      have hk6 := stk_le (b := b) (t := t) (m := m)
      rw [if_neg q6] at a1
      generalize stk b t m = k0 at *
      have eM : fM_readsStep_o rec gM = fM_readsStep_b19 rec (i3 k0) gM1 := by
        unfold fM_readsStep_o
        rw [a1, ob_s]
        show (if i3 k0 = m1 then _ else fM_readsStep_b19 rec (i3 k0) gM1) = _
        rw [if_neg (by rw [i3_eqm (by omega)]; exact fun z => z)]
      rw [eM]
      by_cases q5 : k0 = 5
      · subst q5
        exact again_ok hs (fun z => by omega) hn he hW' hX hM q rr hn1 hm3 d4 d3 F3 b4 a2 a3 a4
      · -- a simple step
        have e19 : fM_readsStep_b19 rec (i3 k0) gM1 = fM_readsStep_b32 rec (i3 k0) gM1 := by
          unfold fM_readsStep_b19
          show (if i3 k0 = i3 5 then _ else _) = _
          rw [if_neg (by rw [i3_eq (by omega) (by omega)]; exact q5)]
        obtain ⟨gM2, k1, k2, k3⟩ := M_skip a2 a4 rr hn1
        have m26 : gM2 0 26 = i3 s := (k3 0 26 (by omega)).trans ((a3 0 26 (by omega)).trans w3)
        obtain ⟨gR, hR⟩ : ∃ z, z = st (st gM2 0 26 (i3 (s + 1))) (378 + s) 0 (i3 k0) := ⟨_, rfl⟩
        have fR : ∀ p i, ¬ (p = 0 ∧ i = 26) → ¬ (p = 378 + s ∧ i = 0) → gR p i = gM2 p i := fun p i z1 z2 => by rw [hR, st_at, if_neg z2, st_at, if_neg z1]
        have hTR : TS e b 0 fp t1 g3 gR := ⟨d4, k2.fr (fun i _ _ => fR 0 i (by omega) (by omega)) (fun i => fR 1 i (by omega) (by omega))⟩
        have r4 : gR 4 0 = i3 n := (fR 4 0 (by omega) (by omega)).trans ((k3 4 0 (by omega)).trans ((a3 4 0 (by omega)).trans w5))
        have r26 : gR 0 26 = i3 (s + 1) := by rw [hR, st_ne (by omega), st_eq]
        have r0 : gR (378 + s) 0 = i3 k0 := by rw [hR, st_eq]
        have x5 : g3 7 5 = i3 x := (F3 7 5 (by omega)).trans w1
        have e32 : fM_readsStep_b32 rec (i3 k0) gM1 = if (4 : Int32) ≤ i3 k0 then fM_readsStep_b89 rec (i3 k0) (378 + s) gR else ((fM_number (0 : Int32) (gR 4 0 - (1 : Int32)) gR).bind fun z => fM_readsStep_b89 rec (i3 k0) (378 + s) (st z.2 (378 + s) 1 z.1)) := by
          unfold fM_readsStep_b32
          rw [if_pos (show gM1 0 5 = 0 from a2.2.1), k1, ob_s, m26, if_pos (i3_in (by omega) (by omega)), i3_nat (by omega), show i3 s + (1 : Int32) = i3 (s + 1) from i3_add s 1, ← hR]
        -- both sides read it
        obtain ⟨eMr, hMr, ft', fp', t', gX', gM', y1, y2, y3, y4, y5, y6⟩ : ∃ eMr, fM_readsStep_b32 rec (i3 k0) gM1 = eMr ∧ RDR n e b t1 s x (xrest n k0 g3) eMr g3 gR := by
          have hk : k0 = 0 ∨ k0 = 4 ∨ (k0 = 1 ∨ k0 = 2 ∨ k0 = 3) := by omega
          rcases hk with rfl | rfl | hk
          · rw [if_neg (show ¬ (4 : Int32) ≤ i3 0 by decide)] at e32
            exact ⟨_, e32, rd_die hn hTR r4 x5 (by omega) r26 (by omega) r0⟩
          · rw [if_pos (show (4 : Int32) ≤ i3 4 by decide)] at e32
            exact ⟨_, e32, rd_year hTR x5 (by omega) r26 (by omega) r0⟩
          · rw [if_neg (show ¬ (4 : Int32) ≤ i3 k0 from i3_nle (a := 4) (by omega) (by omega))] at e32
            refine ⟨_, e32, ?_⟩
            have hx : xrest n k0 g3 = ((fX_Text_number (0 : Int32) (i3 n - (1 : Int32)) g3).bind fun z => ((if k0 = 1 then fX_Text_number (0 : Int32) (i3 n - (1 : Int32)) z.2 else fX_Text_number (1 : Int32) (60 : Int32) z.2).bind fun z2 => (fX_Steps_add (i3 k0) z.1 z2.1 z2.2).bind fun g => fX_Steps_readStep_b176 g)) := by
              rcases hk with rfl | rfl | rfl <;> rfl
            rw [hx]
            exact rd_two hk hn hTR r4 x5 (by omega) r26 (by omega) r0
        rw [y1, ob_s] at b4
        rw [e19, hMr, y2]
        refine ⟨gM', rfl, ?_⟩
        have GM : ∀ p i, ¬ (p = 0 ∧ 4 ≤ i ∧ i ≤ 6) → ¬ (p = 0 ∧ i = 26) → ¬ (p = 378 + s) → gM' p i = gM p i := fun p i z1 z2 z3 => (y5 p i z1 (by omega)).trans ((fR p i z2 (by omega)).trans ((k3 p i z1).trans (a3 p i z1)))
        have GXw : WXF gX0 gX' := (hX.tr F3.w).tr y4.w
        have GMw : WMF gM0 gM' := hM.tr (fun p i z1 z2 z3 => GM p i (by omega) z2 (by omega))
        by_cases q0 : ft' = 0
        · subst q0
          obtain ⟨u1, ⟨c', u2, u3, u4⟩, u5, u6⟩ := y6 rfl
          right
          refine ⟨k + 1, gX', fp', t', x + 1, s + 1, RG.one b4, ⟨y3, u6, ?_, ?_, ?_, (GM 4 0 (by omega) (by omega) (by omega)).trans w5, ⟨c', u2, by omega, by omega, by omega, u4⟩, ho⟩, GXw, GMw, F3.kp.tr y4.kp (Nat.le_refl _) (Nat.le_refl _), fun j i hj => GM _ i (by omega) (by omega) (by omega), by omega, 1, Bk.one u5⟩
          · rw [y4 7 6 (by omega) (by omega) (by omega)]; exact (F3 7 6 (by omega)).trans w2
          · rw [y5 0 26 (by omega) (by omega)]; exact r26
          · rw [GM 0 8 (by omega) (by omega) (by omega)]; exact w4
        · left
          exact ⟨ft', fp', t', k + 1, gX', q0, y3.2, GMw, RG.one b4, by omega, GXw, wfin_fault y3.1 q0 _⟩
  · have ho0 : 0 < o := by
      rcases ht with z | z
      · exact absurd z q
      · exact z
    have hte2 : t = e := by omega
    subst hte2
    have hm0 : m = 0 := by omega
    subst hm0
    obtain ⟨gM2, i1, i2, i3'⟩ := mflt stk_0
    exact ⟨gM2, i1, Or.inl ⟨1, t, t, k, gX, by omega, i2, hM.tr i3'.w, RG.rf, by omega, hX, wfin_end hT.1 w2 ho ho0 c1 c2 c5 he⟩⟩
theorem read_go (hn : n ≤ 8) : ∀ (j o d : Nat), o + j = 6 → j + 1 ≤ d → PSt n (6 - o) (fM_readsStep d) o
  | 0, o, d, h1, h2 => by
    obtain ⟨d, rfl⟩ : ∃ z, d = z + 1 := ⟨d - 1, by omega⟩
    exact step_ok (rec := fM_readsStep d) (fun z => by omega) hn
  | j + 1, o, d, h1, h2 => by
    obtain ⟨d, rfl⟩ : ∃ z, d = z + 1 := ⟨d - 1, by omega⟩
    have := read_go hn j (o + 1) d (by omega) (by omega)
    rw [show 6 - (o + 1) = 5 - o by omega] at this
    exact step_ok (rec := fM_readsStep d) (fun _ => this) hn
theorem read_ok (hn : n ≤ 8) : PSt n 6 (fM_readsStep 30) 0 := read_go hn 6 0 30 rfl (by omega)
theorem work_read (hn : n ≤ 8) (he : e ≤ 150) (hW : Ww e b fp t 0 0 0 0 n gX gM) (h4 : gM 0 4 = i3 t) : ∃ gX3 gM3 ft fp' t', fX_Steps_readFrom_b12 (i3 n) (i3 0) gX = some gX3 ∧ lp fM_work_L72 fuel gM = some gM3 ∧ TS e b ft fp' t' gX3 gM3 ∧ WXF gX gX3 ∧ WMF gM gM3 ∧ (ft = 0 → ∃ d x s, Bk n gX3 gM3 d 6 0 s 0 x ∧ gX3 7 5 = i3 x ∧ gM3 0 26 = i3 s ∧ x ≤ 150 ∧ s ≤ 80) := by
  have h600 := hW.1.1.c600
  have hte := hW.1.1.2.2.2.1
  obtain ⟨gM3, e1, e2⟩ : ∃ r, lp fM_work_L72 fuel gM = some r ∧ (BADw n e b gX gM 0 gX r ∨ ∃ k' gX' fp' x' s', RG n 0 gX k' gX' ∧ Ww e b fp' e k' x' s' 0 n gX' r ∧ WXF gX gX' ∧ WMF gM r ∧ ∃ d, Bk n gX' r d 6 0 s' 0 x') := by
    refine lp_one (f := fM_work_L72) (Wlv n e b gX gM 6 0 gX t 0 0 0 gM) (fun r => BADw n e b gX gM 0 gX r ∨ ∃ k' gX' fp' x' s', RG n 0 gX k' gX' ∧ Ww e b fp' e k' x' s' 0 n gX' r ∧ WXF gX gX' ∧ WMF gM r ∧ ∃ d, Bk n gX' r d 6 0 s' 0 x') ?_ fuel (e - t + 1) gM (Or.inr ⟨0, gX, fp, t, 0, 0, RG.rf, hW, WXF.rf, WMF.rf, KPX.rf, KPM.rf, Nat.le_refl _, h4, ⟨0, rfl, rfl⟩, rfl⟩) (by rw [fuel_eq]; omega)
    intro j z hz
    rcases hz with ⟨hB, rfl⟩ | ⟨k', gX', fp', t', x', s', a1, a2, a3, a4, a5, a6, a7, a8, a9, rfl⟩
    · right
      refine ⟨z, ?_, Or.inl hB⟩
      unfold fM_work_L72
      rw [if_neg hB.n5]
    · have hT := a2.1
      have hte' := hT.1.2.2.2.1
      have p2 : z 0 2 = i3 e := hT.2.1.2.1
      have e0 : fM_work_L72 z = if i3 e ≤ i3 t' then some (.inr z) else ((fM_readsStep 30 z).bind fun g91 => (fM_blanks g91).bind fun g95 => some (.inl g95)) := by
        unfold fM_work_L72
        rw [if_pos (show z 0 5 = 0 from hT.2.2.1), p2, a8]
      by_cases q : t' < e
      · left
        obtain ⟨z1, z2, j', hj, b1, b2, b3⟩ := wlv_step (read_ok hn) he a1 a2 a3 a4 a5 a6 a7 a9 rfl (Or.inl q) (fun y => absurd y.2.2 (by omega))
        refine ⟨j', z2, hj, ?_, b3⟩
        rw [e0, if_neg (i3_nle (by omega) q), b1, ob_s, b2, ob_s]
      · right
        have te : t' = e := by omega
        subst te
        refine ⟨z, ?_, Or.inr ⟨k', gX', fp', x', s', a1, a2, a3, a4, a9⟩⟩
        rw [e0, if_pos (i3_yle (by omega) (Nat.le_refl _))]
  have hX : ∀ (k' : Nat) (gX' g2 g3 : St), RG n 0 gX k' gX' → k' ≤ 200 → (∀ m, lp (fX_Steps_readFrom_L12 (i3 n)) (m + 1) (i3 k', gX') = some g2) → workPost g2 = some g3 → fX_Steps_readFrom_b12 (i3 n) (i3 0) gX = some g3 := fun k' gX' g2 g3 hr hk h1 h2 => by
    obtain ⟨j, hj, h3⟩ := hr
    unfold fX_Steps_readFrom_b12
    rw [show fuel = (999999 - j + 1) + j by rw [fuel_eq]; omega, h3, h1, ob_s]
    exact h2
  rcases e2 with ⟨ft, fp', t', k', gX', z0, z1, z2, z3, z4, z5, g2, g3, t2, z6, z7, z8, z9⟩ | ⟨k', gX', fp', x', s', a1, a2, a3, a4, d, a5⟩
  · exact ⟨g3, gM3, ft, fp', t2, hX k' gX' g2 g3 z3 z4 z6 z7, e1, ⟨z8, z1.any z0 z8.2.2.2.1⟩, z5.tr z9, z2, fun z => absurd z z0⟩
  · obtain ⟨hT, w1, w2, w3, w4, w5, ⟨c, c1, c2, c3, c4, c5⟩, ho⟩ := a2
    obtain ⟨g1, f1, f2, f3⟩ : ∃ g1, fX_Steps_readFrom_L12 (i3 n) (i3 k', gX') = some (.inr g1) ∧ Xt e b 0 fp' e g1 ∧ FRX gX' g1 := by
      by_cases q1 : 150 ≤ k'
      · refine ⟨gX', ?_, hT.1, FRX.rf⟩
        unfold fX_Steps_readFrom_L12
        exact if_pos (i3_yle (a := 150) (b := k') (by omega) q1)
      · obtain ⟨g1, b1, b2, b3, b4⟩ := more_X hT.1
        rw [if_neg (fun z => by omega)] at b1
        refine ⟨g1, ?_, b2, b3⟩
        unfold fX_Steps_readFrom_L12
        show (if i3 150 ≤ i3 k' then _ else (fX_Text_hasMore gX').bind _) = _
        rw [if_neg (i3_nle (by omega) (by omega)), b1, ob_s]
        rfl
    refine ⟨g1, gM3, 0, fp', e, hX k' gX' g1 g1 a1 (by omega) (fun m => lp_inr f1) ?_, e1, ⟨f2, hT.2⟩, a3.tr f3.w, a4, fun _ => ⟨d, x', s', Bk.fr _ _ _ _ _ _ a5 (fun q j hq _ _ => f3 q j (by omega)) (fun _ _ _ _ => rfl), (f3 7 5 (by omega)).trans w1, w3, by omega, by omega⟩⟩
    unfold workPost
    rw [f3 7 6 (by omega), w2, if_pos (show i3 0 ≤ (0 : Int32) by decide)]
end AG8
