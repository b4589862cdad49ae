/-! PURE: work: rows of steps on both sides; a step is done -/
/-- a step that is no again -/
def SR (n : Nat) (gX gM : St) (s x : Nat) : Prop := gM (378 + s) 3 = i3 (s + 1) ∧ ∃ k a c, gX 30 x = i3 k ∧ gX 31 x = i3 a ∧ gX 32 x = i3 c ∧ gM (378 + s) 0 = i3 k ∧ ((k = 0 ∧ a < n ∧ gM (378 + s) 1 = i3 a) ∨ (k = 1 ∧ a < n ∧ c < n ∧ gM (378 + s) 1 = i3 a ∧ gM (378 + s) 2 = i3 c) ∨ ((k = 2 ∨ k = 3) ∧ a < n ∧ 1 ≤ c ∧ c ≤ 60 ∧ gM (378 + s) 1 = i3 a ∧ gM (378 + s) 2 = i3 c) ∨ k = 4)
/-- an again and its end -/
def AG (gX gM : St) (s x s1 x1 N : Nat) : Prop := N ≤ 60 ∧ gX 30 x = i3 5 ∧ gX 31 x = i3 N ∧ gX 32 x = i3 x1 ∧ gX 30 x1 = i3 6 ∧ gX 31 x1 = i3 x ∧ gM (378 + s) 0 = i3 5 ∧ gM (378 + s) 1 = i3 N ∧ gM (378 + s) 3 = i3 s1
/-- steps from s to s' are those from x to x', nested no deeper than h -/
def Bk (n : Nat) (gX gM : St) : Nat → Nat → Nat → Nat → Nat → Nat → Prop
  | 0, _, s, s', x, x' => s = s' ∧ x = x'
  | d + 1, h, s, s', x, x' => (s = s' ∧ x = x') ∨ (SR n gX gM s x ∧ Bk n gX gM d h (s + 1) s' (x + 1) x') ∨ ∃ h' s1 x1 N, h = h' + 1 ∧ AG gX gM s x s1 x1 N ∧ Bk n gX gM d h' (s + 1) s1 (x + 1) x1 ∧ Bk n gX gM d h s1 s' (x1 + 1) x'
section BKK
variable {n : Nat} {gX gM gX' gM' : St}
theorem SR.fr {s x : Nat} (h : SR n gX gM s x) (e : ∀ q, (q = 30 ∨ q = 31 ∨ q = 32) → gX' q x = gX q x) (f : ∀ i, gM' (378 + s) i = gM (378 + s) i) : SR n gX' gM' s x := by
  unfold SR
  rw [e 30 (by omega), e 31 (by omega), e 32 (by omega), f 0, f 1, f 2, f 3]
  exact h
theorem AG.fr {s x s1 x1 N : Nat} (h : AG gX gM s x s1 x1 N) (e : ∀ q, (q = 30 ∨ q = 31 ∨ q = 32) → gX' q x = gX q x ∧ gX' q x1 = gX q x1) (f : ∀ i, gM' (378 + s) i = gM (378 + s) i) : AG gX' gM' s x s1 x1 N := by
  unfold AG
  rw [(e 30 (by omega)).1, (e 30 (by omega)).2, (e 31 (by omega)).1, (e 31 (by omega)).2, (e 32 (by omega)).1, f 0, f 1, f 3]
  exact h
theorem Bk.le : ∀ (d h s s' x x' : Nat), Bk n gX gM d h s s' x x' → s ≤ s' ∧ x ≤ x'
  | 0, _, s, s', x, x', hb => by
    obtain ⟨rfl, rfl⟩ := hb
    exact ⟨Nat.le_refl _, Nat.le_refl _⟩
  | d + 1, h, s, s', x, x', hb => by
    rcases hb with ⟨rfl, rfl⟩ | ⟨_, h2⟩ | ⟨h', s1, x1, N, _, _, h2, h3⟩
    · exact ⟨Nat.le_refl _, Nat.le_refl _⟩
    · have := Bk.le d h _ _ _ _ h2
      omega
    · have := Bk.le d h' _ _ _ _ h2
      have := Bk.le d h _ _ _ _ h3
      omega
theorem Bk.fr : ∀ (d h s s' x x' : Nat), Bk n gX gM d h s s' x x' → (∀ q j, (q = 30 ∨ q = 31 ∨ q = 32) → x ≤ j → j < x' → gX' q j = gX q j) → (∀ j i, s ≤ j → j < s' → gM' (378 + j) i = gM (378 + j) i) → Bk n gX' gM' d h s s' x x'
  | 0, _, s, s', x, x', hb, _, _ => hb
  | d + 1, h, s, s', x, x', hb, e, f => by
    rcases hb with hq | ⟨h1, h2⟩ | ⟨h', s1, x1, N, hh, h1, h2, h3⟩
    · exact Or.inl hq
    · have l := Bk.le d h _ _ _ _ h2
      exact Or.inr (Or.inl ⟨h1.fr (fun q hq => e q x hq (by omega) (by omega)) (fun i => f s i (by omega) (by omega)), Bk.fr d h _ _ _ _ h2 (fun q j hq a b => e q j hq (by omega) b) (fun j i a b => f j i (by omega) b)⟩)
    · have l2 := Bk.le d h' _ _ _ _ h2
      have l3 := Bk.le d h _ _ _ _ h3
      exact Or.inr (Or.inr ⟨h', s1, x1, N, hh, h1.fr (fun q hq => ⟨e q x hq (by omega) (by omega), e q x1 hq (by omega) (by omega)⟩) (fun i => f s i (by omega) (by omega)), Bk.fr d h' _ _ _ _ h2 (fun q j hq a b => e q j hq (by omega) (by omega)) (fun j i a b => f j i (by omega) (by omega)), Bk.fr d h _ _ _ _ h3 (fun q j hq a b => e q j hq (by omega) b) (fun j i a b => f j i (by omega) b)⟩)
theorem Bk.up : ∀ (d h s s' x x' : Nat), Bk n gX gM d h s s' x x' → Bk n gX gM (d + 1) h s s' x x'
  | 0, _, s, s', x, x', hb => Or.inl hb
  | d + 1, h, s, s', x, x', hb => by
    rcases hb with hq | ⟨h1, h2⟩ | ⟨h', s1, x1, N, hh, h1, h2, h3⟩
    · exact Or.inl hq
    · exact Or.inr (Or.inl ⟨h1, Bk.up d h _ _ _ _ h2⟩)
    · exact Or.inr (Or.inr ⟨h', s1, x1, N, hh, h1, Bk.up d h' _ _ _ _ h2, Bk.up d h _ _ _ _ h3⟩)
theorem Bk.ups {h s s' x x' d : Nat} (hb : Bk n gX gM d h s s' x x') : ∀ k, Bk n gX gM (d + k) h s s' x x'
  | 0 => hb
  | k + 1 => Bk.up _ _ _ _ _ _ (Bk.ups hb k)
theorem Bk.app {h s2 x2 d2 : Nat} : ∀ (d s s1 x x1 : Nat), Bk n gX gM d h s s1 x x1 → Bk n gX gM d2 h s1 s2 x1 x2 → Bk n gX gM (d2 + d) h s s2 x x2
  | 0, s, s1, x, x1, hb, hb2 => by
    obtain ⟨rfl, rfl⟩ := hb
    exact hb2
  | d + 1, s, s1, x, x1, hb, hb2 => by
    rcases hb with ⟨rfl, rfl⟩ | ⟨h1, h2⟩ | ⟨h', s3, x3, N, hh, h1, h2, h3⟩
    · exact Bk.ups hb2 (d + 1)
    · exact Or.inr (Or.inl ⟨h1, Bk.app d _ _ _ _ h2 hb2⟩)
    · exact Or.inr (Or.inr ⟨h', s3, x3, N, hh, h1, (by rw [show d2.add d = d + d2 from Nat.add_comm d2 d]; exact Bk.ups h2 d2), Bk.app d _ _ _ _ h3 hb2⟩)
theorem Bk.one {h s x : Nat} (hs : SR n gX gM s x) : Bk n gX gM 1 h s (s + 1) x (x + 1) := Or.inr (Or.inl ⟨hs, rfl, rfl⟩)
theorem Bk.again {d h s x s1 x1 N : Nat} (hs : AG gX gM s x s1 x1 N) (hb : Bk n gX gM d h (s + 1) s1 (x + 1) x1) : Bk n gX gM (d + 1) (h + 1) s s1 x (x1 + 1) := by
  refine Or.inr (Or.inr ⟨h, s1, x1, N, rfl, hs, hb, ?_⟩)
  cases d with
  | zero => exact ⟨rfl, rfl⟩
  | succ d => exact Or.inl ⟨rfl, rfl⟩
end BKK
/-- both states, while work is done -/
def SS (W : (Nat → Nat) → Nat) (n N : Nat) (K F : Nat → Nat) (gX gM : St) : Prop := ∃ D U T Y d, EC W n N K F D U T Y 10 gX ∧ EMd W n N K F D U T Y 16 gM ∧ Y ≤ 900 ∧ WF U T d
section SSS
variable {W : (Nat → Nat) → Nat} {n N : Nat} {K F : Nat → Nat} {gX gM gX' gM' : St}
theorem SS.fr (h : SS W n N K F gX gM) (e : KX6 gX gX') (f : KM6 gM gM') : SS W n N K F gX' gM' := by
  obtain ⟨D, U, T, Y, d, h1, h2, h3, h4⟩ := h
  exact ⟨D, U, T, Y, d, h1.fr6 e, h2.fr6 f, h3, h4⟩
theorem i3_any (x : Int32) : ∃ k, x = i3 k := by
  refine ⟨x.toBitVec.toNat, ?_⟩
  apply Int32.toBitVec_inj.mp
  show x.toBitVec = BitVec.ofNat 32 x.toBitVec.toNat
  rw [BitVec.ofNat_toNat, BitVec.setWidth_eq]
theorem does_both {s x k : Nat} (h : SS W n N K F gX gM) (hs : SR n gX gM s x) (hs80 : s < 80) (hk : gX 30 x = i3 k) (hk5 : k < 2147483648) : k ≤ 4 ∧ gM (378 + s) 0 = i3 k ∧ ∃ r gX' gM', r ≤ 1 ∧ fX_State_does 10 (i3 k) (gX 31 x) (gX 32 x) gX = some (i3 r, gX') ∧ fM_does 16 (378 + s) gM = some (i3 r, gM') ∧ SS W n N K F gX' gM' ∧ FX2 10 gX gX' ∧ FM2 16 gM gM' := by
  obtain ⟨h3, k', a, c, e1, e2, e3, e4, hc⟩ := hs
  obtain ⟨D, U, T, Y, d, hX, hM, hY, hW⟩ := h
  have hk4 : k' ≤ 4 := by omega
  have hkk : k = k' := by
    rw [hk, i3_eq hk5 (by omega)] at e1
    exact e1
  subst hkk
  refine ⟨hk4, e4, ?_⟩
  rw [e2, e3]
  have hB := hX.2.2.1
  have hW99 := hX.2.2.2.2.2
  rcases hc with ⟨rfl, ha, m1'⟩ | ⟨rfl, ha, hcn, m1', m2'⟩ | ⟨hk23, ha, hc1, hc60, m1', m2'⟩ | rfl
  · obtain ⟨b2, hb2⟩ := i3_any (gM (378 + s) 2)
    obtain ⟨gX', a1, a2, a3⟩ := hX.die ha (i3 c)
    obtain ⟨gM', b1, b2', b3⟩ := hM.step0 hs80 ⟨e4, m1', hb2⟩ ha
    obtain ⟨d', hd'⟩ := WF.die (W := W) (n := n) (N := N) (K := K) (F := F) (s := (D, U, T, Y)) hB hW99 hW ha
    refine ⟨_, gX', gM', ?_, a1, b1, ⟨_, _, _, _, d', a2, b2', ?_, hd'⟩, a3, b3⟩
    · by_cases q : T a = 0
      · rw [if_pos q]; omega
      · rw [if_neg q]; omega
    · have : (dieS W n N K F (D, U, T, Y) a).2.2.2 = Y := by
        unfold dieS
        by_cases q : T a = 0
        · rw [if_pos q]
          by_cases q2 : lnd W n N K F D U (updN T a (Y + 1)) Y a = 8
          · rw [if_pos q2]
          · rw [if_neg q2]
        · rw [if_neg q]
      rw [this]
      exact hY
  · obtain ⟨gX', a1, a2, a3⟩ := hX.late ha hcn
    obtain ⟨gM', b1, b2', b3⟩ := hM.step1 hs80 ⟨e4, m1', m2'⟩ ha hcn
    obtain ⟨d', hd'⟩ := WF.late (W := W) (n := n) (N := N) (K := K) (F := F) (s := (D, U, T, Y)) hB hW ha hcn
    refine ⟨_, gX', gM', ?_, a1, b1, ⟨_, _, _, _, d', a2, b2', ?_, hd'⟩, a3, b3⟩
    · by_cases q : lateP W n N K F (D, U, T, Y) a c
      · rw [if_pos q]; omega
      · rw [if_neg q]; omega
    · have : (lateS W n N K F (D, U, T, Y) a c).2.2.2 = Y := by
        unfold lateS
        by_cases q : lateP W n N K F (D, U, T, Y) a c
        · rw [if_pos q]
        · rw [if_neg q]
      rw [this]
      exact hY
  · rcases hk23 with rfl | rfl
    · obtain ⟨gX', a1, a2, a3⟩ := hX.pay ha hc60
      obtain ⟨gM', b1, b2', b3⟩ := hM.step2 hs80 ⟨e4, m1', m2'⟩ ha ⟨hc1, hc60⟩
      refine ⟨_, gX', gM', ?_, a1, b1, ⟨_, _, _, _, d, a2, b2', hY, hW⟩, a3, b3⟩
      by_cases q : 0 < D a
      · rw [if_pos q]; omega
      · rw [if_neg q]; omega
    · obtain ⟨gX', a1, a2, a3⟩ := hX.owe ha hc60
      obtain ⟨gM', b1, b2', b3⟩ := hM.step3 hs80 ⟨e4, m1', m2'⟩ ha ⟨hc1, hc60⟩
      refine ⟨_, gX', gM', ?_, a1, b1, ⟨_, _, _, _, d, a2, b2', hY, hW⟩, a3, b3⟩
      by_cases q : T a = 0 ∧ D a < 999
      · rw [if_pos q]; omega
      · rw [if_neg q]; omega
  · obtain ⟨gX', a1, a2, a3⟩ := hX.year (i3 a) (i3 c)
    obtain ⟨gM', b1, b2', b3⟩ := hM.step4 hs80 e4
    refine ⟨_, gX', gM', ?_, a1, b1, ⟨_, _, _, _, d, a2, b2', ?_, hW⟩, a3, b3⟩
    · by_cases q : Y < 900
      · rw [if_pos q]; omega
      · rw [if_neg q]; omega
    · by_cases q : Y < 900
      · rw [if_pos q]; omega
      · rw [if_neg q]; omega
end SSS
