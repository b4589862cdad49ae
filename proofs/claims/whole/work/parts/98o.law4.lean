/-! PURE: law: sums and products -/
section MM
variable {e fp t k o dd r : Nat} {b : Nat → Nat} {C w N q : List Nat} {gX0 gM0 gX gM g : St}
theorem takesY {s : Nat} (h : Mt e b 0 fp t g) (hs : s < 256) (ht : t < e ∧ b t = s) {t2 : Nat} (hn : nb e b (t + 1) t2) : ∃ g', fM_takesSign (i3 s) g = some (i3 1, g') ∧ Mt e b 0 fp t2 g' ∧ FRM g g' := by
  obtain ⟨g1, c1, c2, c3, f, _, j⟩ := M_next0 h
  have f2 : FRM g1 (st g1 0 4 (i3 (t + 1))) := fun p i z => by rw [st_at, if_neg (by omega)]
  refine ⟨st g1 0 4 (i3 (t + 1)), ?_, ⟨j.1.fr5 f2, by rw [st_at, if_neg (by omega)]; exact j.2.1, by omega, (nb_le hn).2, ⟨_, st_eq _ _ _ _, by omega, fun _ => hn⟩, fun z => absurd rfl z⟩, fun p i z => (f2 p i z).trans (f p i (by omega))⟩
  unfold fM_takesSign
  rw [if_pos (show g 0 5 = 0 from h.2.1), c1, ob_s, c2, c3, ob_s, if_pos ht.1, ht.2, if_pos rfl]
  unfold fM_takesSign_b30
  show (if i3 1 = i3 0 then _ else some (i3 1, st g1 0 4 (g1 0 4 + i3 1))) = _
  rw [if_neg (by decide), c2, i3_add]
theorem takesN {s : Nat} (h : Mt e b 0 fp t g) (hs : s < 256) (ht : ¬ (t < e ∧ b t = s)) : ∃ g', fM_takesSign (i3 s) g = some (i3 0, g') ∧ Mt e b 0 fp t g' ∧ FRM g g' := by
  obtain ⟨g1, c1, c2, c3, f, _, j⟩ := M_next0 h
  have h600 := h.c600
  refine ⟨g1, ?_, j, fun p i z => f p i (by omega)⟩
  unfold fM_takesSign
  rw [if_pos (show g 0 5 = 0 from h.2.1), c1, ob_s, c2, c3, ob_s, if_neg]
  · unfold fM_takesSign_b30
    show (if i3 0 = i3 0 then _ else _) = _
    rw [if_pos rfl]
    rfl
  · by_cases q2 : t < e
    · have := (h.1.2.2 t (by omega)).1
      rw [if_pos q2, i3_eq (by omega) (by omega)]
      exact fun z => ht ⟨q2, z⟩
    · rw [if_neg q2, m1_eqi (by omega)]
      exact fun z => z
/-- how the reference's loop over signs goes -/
def Spc (r : Nat) (f : St → Option (St ⊕ (St ⊕ St))) (sub : St → Option St) : Prop := (∀ g, ¬ g 0 5 = 0 → f g = some (.inr (.inr g))) ∧ (∀ (e : Nat) (b : Nat → Nat) (fp t : Nat) (g : St), Mt e b 0 fp t g → t < e → rk (b t) = r → ∀ t2, nb e b (t + 1) t2 → ∃ g', Mt e b 0 fp t2 g' ∧ FRM g g' ∧ f g = (sub g').bind fun z => (fM_notes (i3 (opc (b t))) (i3 0) z).bind fun z2 => some (.inl z2)) ∧ ∀ (e : Nat) (b : Nat → Nat) (fp t : Nat) (g : St), Mt e b 0 fp t g → ¬ (t < e ∧ rk (b t) = r) → ∃ g', Mt e b 0 fp t g' ∧ FRM g g' ∧ ∃ x, f g = some (.inr x) ∧ Sum.elim (fun z => some z) (fun z => some z) x = some g'
theorem rk1 {c : Nat} : rk c = 1 ↔ c = 43 ∨ c = 45 := by
  unfold rk
  by_cases q : c = 43 ∨ c = 45
  · rw [if_pos q]; exact ⟨fun _ => q, fun _ => rfl⟩
  · rw [if_neg q]
    by_cases q2 : c = 42 ∨ c = 47 ∨ c = 37
    · rw [if_pos q2]; exact ⟨fun z => by omega, fun z => absurd z q⟩
    · rw [if_neg q2]; exact ⟨fun z => by omega, fun z => absurd z q⟩
theorem rk2 {c : Nat} : rk c = 2 ↔ c = 42 ∨ c = 47 ∨ c = 37 := by
  unfold rk
  by_cases q : c = 43 ∨ c = 45
  · rw [if_pos q]; exact ⟨fun z => by omega, fun z => by omega⟩
  · rw [if_neg q]
    by_cases q2 : c = 42 ∨ c = 47 ∨ c = 37
    · rw [if_pos q2]; exact ⟨fun _ => q2, fun _ => rfl⟩
    · rw [if_neg q2]; exact ⟨fun z => by omega, fun z => absurd z q2⟩
theorem spc_sum (r1 r2 r3 : St → Option St) : Spc 1 (fM_sum_L4 r1 r2 r3) r2 := by
  refine ⟨fun g h => ?_, fun e b fp t g h ht hr t2 hn => ?_, fun e b fp t g h ht => ?_⟩
  · unfold fM_sum_L4
    exact if_neg h
  · rcases rk1.mp hr with hb | hb
    · obtain ⟨g1, a1, a2, a3⟩ := takesY (s := 43) h (by omega) ⟨ht, hb⟩ hn
      refine ⟨g1, a2, a3, ?_⟩
      unfold fM_sum_L4
      show (if g 0 5 = 0 then (fM_takesSign (i3 43) g).bind _ else _) = _
      rw [if_pos (show g 0 5 = 0 from h.2.1), a1, ob_s, hb]
      rfl
    · obtain ⟨g0, b1, b2, b3⟩ := takesN (s := 43) h (by omega) (by omega)
      obtain ⟨g1, a1, a2, a3⟩ := takesY (s := 45) b2 (by omega) ⟨ht, hb⟩ hn
      refine ⟨g1, a2, b3.tr a3, ?_⟩
      unfold fM_sum_L4
      show (if g 0 5 = 0 then (fM_takesSign (i3 43) g).bind _ else _) = _
      rw [if_pos (show g 0 5 = 0 from h.2.1), b1, ob_s]
      show (if i3 0 = i3 0 then (fM_takesSign (i3 45) g0).bind _ else _) = _
      rw [if_pos rfl, a1, ob_s, hb]
      rfl
  · have hb : ¬ (t < e ∧ b t = 43) ∧ ¬ (t < e ∧ b t = 45) := ⟨fun z => ht ⟨z.1, rk1.mpr (Or.inl z.2)⟩, fun z => ht ⟨z.1, rk1.mpr (Or.inr z.2)⟩⟩
    obtain ⟨g0, b1, b2, b3⟩ := takesN (s := 43) h (by omega) hb.1
    obtain ⟨g1, a1, a2, a3⟩ := takesN (s := 45) b2 (by omega) hb.2
    refine ⟨g1, a2, b3.tr a3, .inl g1, ?_, rfl⟩
    unfold fM_sum_L4
    show (if g 0 5 = 0 then (fM_takesSign (i3 43) g).bind _ else _) = _
    rw [if_pos (show g 0 5 = 0 from h.2.1), b1, ob_s]
    show (if i3 0 = i3 0 then (fM_takesSign (i3 45) g0).bind _ else _) = _
    rw [if_pos rfl, a1, ob_s]
    rfl
theorem spc_product (r1 r2 r3 : St → Option St) : Spc 2 (fM_product_L4 r1 r2 r3) r1 := by
  refine ⟨fun g h => ?_, fun e b fp t g h ht hr t2 hn => ?_, fun e b fp t g h ht => ?_⟩
  · unfold fM_product_L4
    exact if_neg h
  · rcases rk2.mp hr with hb | hb | hb
    · obtain ⟨g1, a1, a2, a3⟩ := takesY (s := 42) h (by omega) ⟨ht, hb⟩ hn
      refine ⟨g1, a2, a3, ?_⟩
      unfold fM_product_L4
      show (if g 0 5 = 0 then (fM_takesSign (i3 42) g).bind _ else _) = _
      rw [if_pos (show g 0 5 = 0 from h.2.1), a1, ob_s, hb]
      rfl
    · obtain ⟨g0, b1, b2, b3⟩ := takesN (s := 42) h (by omega) (by omega)
      obtain ⟨g1, a1, a2, a3⟩ := takesY (s := 47) b2 (by omega) ⟨ht, hb⟩ hn
      refine ⟨g1, a2, b3.tr a3, ?_⟩
      unfold fM_product_L4
      show (if g 0 5 = 0 then (fM_takesSign (i3 42) g).bind _ else _) = _
      rw [if_pos (show g 0 5 = 0 from h.2.1), b1, ob_s]
      show (if i3 0 = i3 0 then (fM_takesSign (i3 47) g0).bind _ else _) = _
      rw [if_pos rfl, a1, ob_s, hb]
      rfl
    · obtain ⟨g0, b1, b2, b3⟩ := takesN (s := 42) h (by omega) (by omega)
      obtain ⟨g0', d1, d2, d3⟩ := takesN (s := 47) b2 (by omega) (by omega)
      obtain ⟨g1, a1, a2, a3⟩ := takesY (s := 37) d2 (by omega) ⟨ht, hb⟩ hn
      refine ⟨g1, a2, (b3.tr d3).tr a3, ?_⟩
      unfold fM_product_L4
      show (if g 0 5 = 0 then (fM_takesSign (i3 42) g).bind _ else _) = _
      rw [if_pos (show g 0 5 = 0 from h.2.1), b1, ob_s]
      show (if i3 0 = i3 0 then (fM_takesSign (i3 47) g0).bind _ else _) = _
      rw [if_pos rfl, d1, ob_s]
      show (if i3 0 = i3 0 then (fM_takesSign (i3 37) g0').bind _ else _) = _
      rw [if_pos rfl, a1, ob_s, hb]
      rfl
  · have hb : ¬ (t < e ∧ b t = 42) ∧ ¬ (t < e ∧ b t = 47) ∧ ¬ (t < e ∧ b t = 37) := ⟨fun z => ht ⟨z.1, rk2.mpr (Or.inl z.2)⟩, fun z => ht ⟨z.1, rk2.mpr (Or.inr (Or.inl z.2))⟩, fun z => ht ⟨z.1, rk2.mpr (Or.inr (Or.inr z.2))⟩⟩
    obtain ⟨g0, b1, b2, b3⟩ := takesN (s := 42) h (by omega) hb.1
    obtain ⟨g0', d1, d2, d3⟩ := takesN (s := 47) b2 (by omega) hb.2.1
    obtain ⟨g1, a1, a2, a3⟩ := takesN (s := 37) d2 (by omega) hb.2.2
    refine ⟨g1, a2, (b3.tr d3).tr a3, .inl g1, ?_, rfl⟩
    unfold fM_product_L4
    show (if g 0 5 = 0 then (fM_takesSign (i3 42) g).bind _ else _) = _
    rw [if_pos (show g 0 5 = 0 from h.2.1), b1, ob_s]
    show (if i3 0 = i3 0 then (fM_takesSign (i3 47) g0).bind _ else _) = _
    rw [if_pos rfl, d1, ob_s]
    show (if i3 0 = i3 0 then (fM_takesSign (i3 37) g0').bind _ else _) = _
    rw [if_pos rfl, a1, ob_s]
    rfl
theorem lp_one {σ ρ : Type} {f : σ → Option (σ ⊕ ρ)} (P : Nat → σ → Prop) (E : ρ → Prop) (h : ∀ k s, P k s → (∃ j t, j < k ∧ f s = some (.inl t) ∧ P j t) ∨ ∃ r, f s = some (.inr r) ∧ E r) : ∀ (m k : Nat) (s : σ), P k s → k < m → ∃ r, lp f m s = some r ∧ E r
  | 0, k, s, _, h1 => by omega
  | m + 1, k, s, hP, h1 => by
    rcases h k s hP with ⟨j, t, hj, e1, h3⟩ | ⟨r, e1, h3⟩
    · rw [lp_inl e1]
      exact lp_one P E h m j t h3 (by omega)
    · exact ⟨r, lp_inr e1, h3⟩
theorem opc_ok {c : Nat} (h : 1 ≤ rk c) : isO (2000 + c) = true ∧ ¬ 2000 + c < 1008 ∧ wh (2000 + c) = opc c ∧ vl (2000 + c) = 0 := by
  have hl := rk_le c
  have h2 : c = 43 ∨ c = 45 ∨ c = 42 ∨ c = 47 ∨ c = 37 := by
    rcases (show rk c = 1 ∨ rk c = 2 by omega) with q | q
    · have := rk1.mp q; omega
    · have := rk2.mp q; omega
  rcases h2 with rfl | rfl | rfl | rfl | rfl <;> exact ⟨rfl, by omega, rfl, rfl⟩
/-- one level of signs over a finer one -/
def Lvi (e : Nat) (b : Nat → Nat) (gX0 gM0 : St) (r : Nat) (w : List Nat) (o dd k : Nat) (gX : St) (t : Nat) (j : Nat) (z : St) : Prop := (BAD e b gX0 gM0 k (i3 1) gX z ∧ j = 0) ∨ ∃ k' gX' fp' t' C' N' q, Go k (i3 1) gX k' (i3 0) gX' ∧ Lw e b fp' t' k' C' (w ++ q.reverse) N' o dd gX0 gM0 gX' z ∧ t < t' ∧ N' = C' ++ sg q ∧ (∀ c, c ∈ q → r ≤ rk c) ∧ (t' < e → rk (b t') < r + 1) ∧ j = e - t' + 1
theorem level {sub : St → Option St} {f : St → Option (St ⊕ (St ⊕ St))} (h1 : 1 ≤ r) (hs : Prs (r + 1) sub o) (hf : Spc r f sub) : Prs r (fun g => (sub g).bind fun g1 => (lp f fuel g1).bind (Sum.elim (fun z => some z) (fun z => some z))) o := by
  intro e b fp t k N w dd gX0 gM0 gX gM he hL hw
  obtain ⟨gM1, a1, a2⟩ := hs e b fp t k N w dd gX0 gM0 gX gM he hL (by omega)
  obtain ⟨f1, f2, f3⟩ := hf
  have hstep : ∀ j s, Lvi e b gX0 gM0 r w o (dd + 1) k gX t j s → (∃ j' s', j' < j ∧ f s = some (.inl s') ∧ Lvi e b gX0 gM0 r w o (dd + 1) k gX t j' s') ∨ ∃ x, f s = some (.inr x) ∧ ∃ z, Sum.elim (fun z => some z) (fun z => some z) x = some z ∧ Res e b gX0 gM0 r w o (dd + 1) k (i3 1) gX t z := by
    intro j s hj
    rcases hj with ⟨hB, rfl⟩ | ⟨k', gX', fp', t', C', N', q, c1, c2, c3, c4, c5, c6, rfl⟩
    · right
      have hB2 := hB
      obtain ⟨ft, _, _, _, _, _, x1, x2, _⟩ := hB
      exact ⟨.inr s, f1 s (x2.n5 x1), s, rfl, Or.inl hB2⟩
    · have hc2 := c2
      obtain ⟨hT, hC, hN, y0, y1, hd, ⟨c, d1, d2, d3, d4⟩, ho⟩ := c2
      have h600 := hT.1.c600
      by_cases hq : t' < e ∧ rk (b t') = r
      · left
        obtain ⟨t2, hn⟩ := nb_ex (e := e) (b := b) (c := t' + 1) (by omega)
        have hn2 := nb_le hn
        obtain ⟨s1, b1, b2, b3⟩ := f2 e b fp' t' s hT.2 hq.1 hq.2 t2 hn
        obtain ⟨gX2, g1, g2, g3, g4, g5, g6⟩ := sign_step hc2 he c5 c4 hw h1 hq.1 hq.2 hn
        have hNl : N'.length ≤ 150 := by omega
        have hL2 : Lw e b fp' t2 (k' + 1) N' (w ++ [b t']) N' o (dd + 1) gX0 gM0 gX2 s1 := ⟨⟨g2, b1⟩, g3, hN.fr (fun p i z => b2 p i (by omega)) (by omega), g4, y1.tr b2.l, hd, ⟨t' + 1, g5, by omega, g6, by omega⟩, ho⟩
        obtain ⟨s2, k1, k2⟩ := hs e b fp' t2 (k' + 1) N' (w ++ [b t']) (dd + 1) gX0 gM0 gX2 s1 he hL2 (by rw [topR_s]; omega)
        have go2 : Go k (i3 1) gX (k' + 1) (i3 1) gX2 := c1.tr (Go.one g1)
        have hop := opc_ok (c := b t') (by omega)
        rcases k2 with hB | ⟨k3, gX3, fp3, t3, C3, N3, q3, m1', m2, m3, m4, m5, m6⟩
        · have hB2 := hB.pre go2
          obtain ⟨ft, _, _, _, _, _, x1, x2, _⟩ := hB
          exact ⟨0, s2, by omega, by rw [b3, k1, ob_s, notes_F x2 x1, ob_s], Or.inl ⟨hB2, rfl⟩⟩
        · obtain ⟨hT3, hC3, hN3, y03, y13, hd3, ⟨c', d1', d2', d3', d4'⟩, ho3⟩ := m2
          have hT3e := hT3.1.2.2.2.1
          have hl3 : N3.length + 1 ≤ 150 := by
            rw [m4, List.length_append]
            rw [List.length_append, List.length_append, List.length_reverse] at d3'
            unfold sg
            rw [List.length_map]
            have : [b t'].length = 1 := rfl
            omega
          obtain ⟨s3, n1, n2, n3⟩ := notes_ok hN3 (by omega) hT3.2.2.1 (2000 + b t')
          rw [hop.2.2.1, hop.2.2.2] at n1
          refine ⟨e - t3 + 1, s3, by omega, by rw [b3, k1, ob_s, n1, ob_s], Or.inr ⟨k3, gX3, fp3, t3, C3, N3 ++ [2000 + b t'], q3 ++ [b t'], go2.tr m1', ?_, by omega, ?_, fun x hx => ?_, m6, rfl⟩⟩
          · have er : w ++ (q3 ++ [b t']).reverse = (w ++ [b t']) ++ q3.reverse := by
              rw [List.reverse_append, ← List.append_assoc]
              rfl
            rw [er]
            exact ⟨⟨hT3.1, hT3.2.frN n3⟩, hC3, n2, y03, y13.tr n3.l, wfd_o hd3 hop.1 hop.2.1, ⟨c', d1', d2', d3', d4'⟩, ho3⟩
          · rw [m4, List.append_assoc]
            unfold sg
            rw [List.map_append]
            rfl
          · rw [List.mem_append, List.mem_singleton] at hx
            rcases hx with hx | rfl
            · have := m5 x hx; omega
            · omega
      · right
        obtain ⟨s1, b1, b2, x, b3, b4⟩ := f3 e b fp' t' s hT.2 hq
        refine ⟨x, b3, s1, b4, Or.inr ⟨k', gX', fp', t', C', N', q, c1, ?_, c3, c4, c5, fun z => ?_⟩⟩
        · have hCl := hC.2.2.2.2.2.2
          have hNl : N'.length ≤ 150 := by
            rw [c4, List.length_append]
            rw [List.length_append, List.length_reverse] at hCl
            unfold sg
            rw [List.length_map]
            omega
          exact ⟨⟨hT.1, b1⟩, hC, hN.fr (fun p i z => b2 p i (by omega)) (by omega), y0, y1.tr b2.l, hd, ⟨c, d1, d2, d3, d4⟩, ho⟩
        · have := c6 z
          have : ¬ rk (b t') = r := fun y => hq ⟨z, y⟩
          omega
  obtain ⟨j0, hj, hj0⟩ : ∃ j, Lvi e b gX0 gM0 r w o (dd + 1) k gX t j gM1 ∧ j < 1000000 := by
    rcases a2 with hB | ⟨k', gX', fp', t', C', N', q, c1, c2, c3, c4, c5, c6⟩
    · exact ⟨0, Or.inl ⟨hB, rfl⟩, by omega⟩
    · exact ⟨e - t' + 1, Or.inr ⟨k', gX', fp', t', C', N', q, c1, c2, c3, c4, fun x hx => by have := c5 x hx; omega, c6, rfl⟩, by omega⟩
  obtain ⟨x, e1, z, e2, e3⟩ := lp_one (f := f) _ _ hstep fuel j0 gM1 hj (by rw [fuel_eq]; exact hj0)
  refine ⟨z, ?_, e3⟩
  show ((sub gM).bind fun g1 => (lp f fuel g1).bind (Sum.elim (fun z => some z) (fun z => some z))) = _
  rw [a1, ob_s, e1, ob_s, e2]
end MM
