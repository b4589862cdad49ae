/-! PURE: the reference's loops over the orders -/
section DF
variable {W : (Nat → Nat) → Nat} {n N : Nat} {K F : Nat → Nat} {s : AS} {b q : Nat} {f : Nat → Nat}
theorem dieS_far (h : q ≠ b ∨ s.2.2.1 q ≠ 0) : (dieS W n N K F s b).2.2.1 q = s.2.2.1 q ∧ (dieS W n N K F s b).2.1 q = s.2.1 q := by
  unfold dieS
  by_cases z : s.2.2.1 b = 0
  · have e : q ≠ b := fun e => by
      rcases h with h | h
      · exact h e
      · rw [e] at h; exact h z
    rw [if_pos z]
    by_cases z2 : lnd W n N K F s.1 s.2.1 (updN s.2.2.1 b (s.2.2.2 + 1)) s.2.2.2 b = 8
    · rw [if_pos z2]; exact ⟨updN_ne e, rfl⟩
    · rw [if_neg z2]; exact ⟨updN_ne e, updN_ne e⟩
  · rw [if_neg z]; exact ⟨rfl, rfl⟩
theorem dfo_far : ∀ m, ((∀ k, k < m → f k ≠ q) ∨ s.2.2.1 q ≠ 0) → (dfo W n N K F s f m).2.2.1 q = s.2.2.1 q ∧ (dfo W n N K F s f m).2.1 q = s.2.1 q
  | 0, _ => ⟨rfl, rfl⟩
  | m + 1, h => by
    have ih := dfo_far m (h.imp (fun h k hk => h k (by omega)) id)
    have h2 : q ≠ f m ∨ (dfo W n N K F s f m).2.2.1 q ≠ 0 := by
      rcases h with h | h
      · exact Or.inl (fun e => h m (by omega) e.symm)
      · exact Or.inr (by rw [ih.1]; exact h)
    have h3 := dieS_far (W := W) (n := n) (N := N) (K := K) (F := F) h2
    exact ⟨h3.1.trans ih.1, h3.2.trans ih.2⟩
end DF
theorem cnt_add {a b c : Nat → Bool} : ∀ k, (∀ p, p < k → a p = (b p || c p) ∧ ¬ (b p = true ∧ c p = true)) → cntB a k = cntB b k + cntB c k
  | 0, _ => rfl
  | k + 1, h => by
    have ih := cnt_add k (fun p hp => h p (by omega))
    obtain ⟨h1, h2⟩ := h k (by omega)
    by_cases q : b k = true
    · have q2 : ¬ c k = true := fun z => h2 ⟨q, z⟩
      rw [cnt_T (by rw [h1, q]; rfl), cnt_T q, cnt_F q2, ih]; omega
    · by_cases q2 : c k = true
      · rw [cnt_T (by rw [h1, q2, Bool.or_true]), cnt_F q, cnt_T q2, ih]; omega
      · rw [cnt_F (by rw [h1, Bool.or_eq_true]; exact fun z => z.elim q q2), cnt_F q, cnt_F q2, ih]
def dO (W : (Nat → Nat) → Nat) (n N : Nat) (K F : Nat → Nat) (s : AS) (S P m k : Nat) : Nat := cntB (fun p => ((msk (fun p => decide (¬ (zO W n N K F s S m k).2.2.1 p = 0 ∧ (zO W n N K F s S m k).2.1 p = 8)) n &&& P) &&& msk (fun p => decide (s.2.2.1 p = 0)) n).testBit p) 8
section TM
variable {W : (Nat → Nat) → Nat} {n N : Nat} {K F : Nat → Nat} {g : St} {s : AS} {S P m l t : Nat} {A V : Nat → Nat}
theorem cO_split (h8 : n ≤ 8) (hm : m ≤ 5) (hS : S = P &&& msk (fun p => decide (s.2.2.1 p = 0)) n) (hf : ∀ k, k < m → S.testBit (oF (firstL S) k) = true) (k : Nat) : cO W n N K F s S m k = dO W n N K F s S P m k + cntB (fun p => decide (¬ s.2.2.1 p = 0 ∧ s.2.1 p = 8)) n := by
  have hf2 : ∀ j, j < m → S.testBit (oF (seqL m (firstL S) k) j) = true := seq_all (Q := fun p => S.testBit p = true) hm hf k
  unfold cO dO
  rw [← cnt_msk (fun p => decide (¬ (zO W n N K F s S m k).2.2.1 p = 0 ∧ (zO W n N K F s S m k).2.1 p = 8)) h8, ← cnt_msk (fun p => decide (¬ s.2.2.1 p = 0 ∧ s.2.1 p = 8)) h8]
  refine cnt_add 8 (fun p hp => ?_)
  have hSp : S.testBit p = (P.testBit p && (decide (p < n) && decide (s.2.2.1 p = 0))) := by rw [hS, Nat.testBit_and, msk_bit]
  rw [Nat.testBit_and, Nat.testBit_and, msk_bit, msk_bit, msk_bit]
  by_cases z : s.2.2.1 p = 0
  · by_cases z2 : S.testBit p = true
    · rw [hSp, Bool.and_eq_true, Bool.and_eq_true] at z2
      obtain ⟨y1, y2, y3⟩ := z2
      rw [y1, y2, y3]
      simp [z]
    · have far : (zO W n N K F s S m k).2.2.1 p = s.2.2.1 p ∧ (zO W n N K F s S m k).2.1 p = s.2.1 p := dfo_far m (Or.inl (fun j hj e => z2 (by rw [← e]; exact hf2 j hj)))
      rw [far.1, far.2]
      simp [z]
  · have far : (zO W n N K F s S m k).2.2.1 p = s.2.2.1 p ∧ (zO W n N K F s S m k).2.1 p = s.2.1 p := dfo_far m (Or.inr z)
    rw [far.1, far.2]
    simp [z]
theorem fwS_ge {c : Nat → Nat} {c0 : Nat} (h : ∀ k, c0 ≤ c k) (h9 : c0 ≤ 9) : ∀ k, c0 ≤ fwS c k
  | 0 => h9
  | k + 1 => by
    have := h k
    have := fwS_ge h h9 k
    show c0 ≤ if c k < fwS c k then c k else fwS c k
    by_cases q : c k < fwS c k
    · rw [if_pos q]; omega
    · rw [if_neg q]; omega
theorem less_nat {a b : Nat} (ha : a < 1000) (hb : b < 1000) : fM_less (i3 a) (i3 b) = i3 (if b ≤ a then b else a) := by
  unfold fM_less
  by_cases q : b ≤ a
  · rw [if_pos (i3_yle (by omega) q), if_pos q]
  · rw [if_neg (i3_nle (by omega) (by omega)), if_neg q]
theorem orderM (h : EMs W n N K F s 16 g) (hP : P < 256) (hm : m ≤ 5) (hS : S = P &&& msk (fun p => decide (s.2.2.1 p = 0)) n) (hd : g 0 45 = i3 m) (ho : ORD 23 m (oF (firstL S)) g) (hf : ∀ k, k < m → S.testBit (oF (firstL S) k) = true) (ht0 : fiI (oF (seqL m (firstL S) t)) (m - 1) = 0) (ht1 : ∀ j, j < t → fiI (oF (seqL m (firstL S) j)) (m - 1) ≠ 0) (ht : t < 120) (x2 : Int32) : ∃ g', lp (fM_order_L48 (i3 P) x2) fuel (m1, i3 0, g) = some (i3 (fwS (cO W n N K F s S m) (t + 1) - cntB (fun p => decide (¬ s.2.2.1 p = 0 ∧ s.2.1 p = 8)) n), i3 (bdS (cO W n N K F s S m) (eO S m) (t + 1)), g') ∧ KM g g' ∧ g' 0 = g 0 := by
  have h8 := h.1.2.2.1.1
  have hfn : ∀ k, k < m → oF (firstL S) k < n := fun k hk => by
    have z := hf k hk
    have z2 : (P &&& msk (fun p => decide (s.2.2.1 p = 0)) n).testBit (oF (firstL S) k) = true := by rw [← hS]; exact z
    rw [Nat.testBit_and, msk_bit, Bool.and_eq_true, Bool.and_eq_true] at z2
    exact of_decide_eq_true z2.2.1
  obtain ⟨c, hc⟩ : ∃ c, c = cO W n N K F s S m := ⟨_, rfl⟩
  obtain ⟨c0, hc0⟩ : ∃ c0, c0 = cntB (fun p => decide (¬ s.2.2.1 p = 0 ∧ s.2.1 p = 8)) n := ⟨_, rfl⟩
  have hc8 : c0 ≤ 8 := by rw [hc0]; exact Nat.le_trans (cntB_le _ n) h8
  have hs : ∀ k, c k = dO W n N K F s S P m k + c0 := fun k => by rw [hc, hc0]; exact cO_split h8 hm hS hf k
  have hck : ∀ k, c k ≤ 8 := fun k => by rw [hc]; exact Nat.le_trans (cntB_le _ n) h8
  have hge := fwS_ge (c := c) (c0 := c0) (fun k => by rw [hs k]; omega) (by omega)
  rw [← hc, ← hc0]
  obtain ⟨z, e, g', hz, hk⟩ : ∃ z, lp (fM_order_L48 (i3 P) x2) fuel (m1, i3 0, g) = some z ∧ ∃ g', z = (i3 (fwS c (t + 1) - c0), i3 (bdS c (eO S m) (t + 1)), g') ∧ KM g g' ∧ g' 0 = g 0 := by
    refine lp_for (fun k z => k ≤ t ∧ ∃ g1, z = ((if k = 0 then m1 else i3 (fwS c k - c0)), i3 (bdS c (eO S m) k), g1) ∧ KM g g1 ∧ g1 0 = g 0 ∧ ORD 23 m (oF (seqL m (firstL S) k)) g1) (fun z : Int32 × Int32 × St => ∃ g', z = (i3 (fwS c (t + 1) - c0), i3 (bdS c (eO S m) (t + 1)), g') ∧ KM g g' ∧ g' 0 = g 0) (t + 1) (by omega) ?_ ?_ ⟨Nat.zero_le _, g, by rw [if_pos rfl]; rfl, KM.rf, rfl, ho⟩
    · rintro k z hk ⟨_, g1, rfl, k1, r1, o1⟩
      have d1 : g1 0 45 = i3 m := by rw [r1]; exact hd
      have hn2 : ∀ j, j < m → oF (seqL m (firstL S) k) j < n := seq_all (Q := fun p => p < n) hm hfn k
      obtain ⟨g2, e2, E2, f2⟩ := deathsM (EMd.frK h k1) hm o1 hn2 d1
      have E2' : EMd W n N K F (zO W n N K F s S m k).1 (zO W n N K F s S m k).2.1 (zO W n N K F s S m k).2.2.1 (zO W n N K F s S m k).2.2.2 17 g2 := E2
      have en := E2'.1.nameless
      have r2 : g2 0 = g 0 := by rw [f2 0 (by omega) (by omega) (by omega)]; exact r1
      have d2 : g2 0 45 = i3 m := by rw [f2 0 (by omega) (by omega) (by omega)]; exact d1
      have o2 : ORD 23 m (oF (seqL m (firstL S) k)) g2 := fun j hj => by rw [f2 23 (by omega) (by omega) (by omega)]; exact o1 j hj
      have k2 : KM g g2 := k1.tr f2.k
      have hL : g2 16 24 = i3 (msk (fun p => decide (s.2.2.1 p = 0)) n) := (k2 16 24 (by omega)).trans h.1.2.1.2.2.1
      have e3 := M_ones ((msk (fun p => decide (¬ (zO W n N K F s S m k).2.2.1 p = 0 ∧ (zO W n N K F s S m k).2.1 p = 8)) n &&& P) &&& msk (fun p => decide (s.2.2.1 p = 0)) n) (and_lt (and_lt (msk_lt8 _ h8)))
      have e3' : fM_ones ((i3 (msk (fun p => decide (¬ (zO W n N K F s S m k).2.2.1 p = 0 ∧ (zO W n N K F s S m k).2.1 p = 8)) n) &&& i3 P) &&& i3 (msk (fun p => decide (s.2.2.1 p = 0)) n)) = some (i3 (dO W n N K F s S P m k)) := by
        rw [i3_and, i3_and]; exact e3
      have e4 : fM_digits g2 = some (i3 (eO S m k)) := M_digits hm o2 d2
      obtain ⟨u, hu⟩ : ∃ u, u = msk (fun p => decide (¬ (zO W n N K F s S m k).2.2.1 p = 0 ∧ (zO W n N K F s S m k).2.1 p = 8)) n := ⟨_, rfl⟩
      obtain ⟨v, hv⟩ : ∃ v, v = msk (fun p => decide (s.2.2.1 p = 0)) n := ⟨_, rfl⟩
      obtain ⟨dk, hdk⟩ : ∃ dk, dk = dO W n N K F s S P m k := ⟨_, rfl⟩
      obtain ⟨ek, hek⟩ : ∃ ek, ek = eO S m k := ⟨_, rfl⟩
      rw [← hu, ← hv, ← hdk] at e3'
      rw [← hu] at en
      rw [← hv] at hL
      rw [← hek] at e4
      have hsk := hs k
      have hck' := hck k
      rw [← hdk] at hsk
      have s1 : fwS c (k + 1) = if c k < fwS c k then c k else fwS c k := rfl
      have s2 : bdS c (eO S m) (k + 1) = if c k < fwS c k then eO S m k else bdS c (eO S m) k := rfl
      rw [← hek] at s2
      have hle := fwS_le c k
      have hgek := hge k
      have eA : fM_order_L48 (i3 P) x2 ((if k = 0 then m1 else i3 (fwS c k - c0)), i3 (bdS c (eO S m) k), g1) = fM_order_b113 (i3 P) x2 (i3 (bdS c (eO S m) (k + 1))) (i3 (fwS c (k + 1) - c0)) g2 := by
        have eH : ∀ x3 x4, fM_order_L48 (i3 P) x2 (x3, x4, g1) = (if x3 = m1 then fM_order_b86 (i3 P) x2 x3 (i3 dk) g2 else if x3 ≤ i3 dk then fM_order_b95 (i3 P) x2 x3 (i3 dk) x4 g2 else fM_order_b86 (i3 P) x2 x3 (i3 dk) g2) := fun x3 x4 => by
          show (fM_dieSo g1).bind _ = _
          rw [e2, ob_s, en, ob_s, hL, e3', ob_s]
          rfl
        have eB : ∀ x3, fM_order_b86 (i3 P) x2 x3 (i3 dk) g2 = fM_order_b95 (i3 P) x2 x3 (i3 dk) (i3 ek) g2 := fun x3 => by
          unfold fM_order_b86
          rw [e4, ob_s]
        rw [eH]
        by_cases q0 : k = 0
        · have q1 : fwS c k = 9 := by rw [q0]; rfl
          rw [if_pos (by omega)] at s1 s2
          rw [if_pos q0, if_pos rfl, eB, s2, s1]
          unfold fM_order_b95
          rw [if_pos (show m1 = (-1 : Int32) from rfl), show c k - c0 = dk by omega]
        · rw [if_neg q0, if_neg (show ¬ i3 (fwS c k - c0) = m1 from fun z => by rw [i3_eqm (by omega)] at z; exact z)]
          have hne : ¬ i3 (fwS c k - c0) = (-1 : Int32) := fun z => by rw [li_m1, i3_eqm (by omega)] at z; exact z
          by_cases q : c k < fwS c k
          · rw [if_pos q] at s1 s2
            rw [if_neg (i3_nle (by omega) (by omega)), eB, s2, s1]
            unfold fM_order_b95
            rw [if_neg hne, less_nat (by omega) (by omega), if_neg (by omega), show c k - c0 = dk by omega]
          · rw [if_neg q] at s1 s2
            rw [if_pos (i3_yle (by omega) (by omega)), s2, s1]
            unfold fM_order_b95
            rw [if_neg hne, less_nat (by omega) (by omega), if_pos (by omega)]
      rw [eA]
      unfold fM_order_b113
      rcases M_next hm o2 d2 with ⟨z1, e6⟩ | ⟨z1, g6, e6, o6, f6⟩
      · have q : k = t := by
          by_cases q : k < t
          · exact absurd z1 (ht1 k q)
          · omega
        subst q
        refine Or.inr ⟨(i3 (fwS c (k + 1) - c0), i3 (bdS c (eO S m) (k + 1)), g2), ?_, g2, rfl, k2, r2⟩
        rw [e6, ob_s]
        rfl
      · have q : k < t := by
          by_cases q : k = t
          · subst q; exact absurd ht0 z1
          · omega
        refine Or.inl ⟨(i3 (fwS c (k + 1) - c0), i3 (bdS c (eO S m) (k + 1)), g6), ?_, by omega, g6, by rw [if_neg (by omega)], k2.tr (fun p i w => by rw [f6 p (by omega)]), by rw [f6 0 (by omega)]; exact r2, o6.cg (fun j hj => (oF_nx (by omega)).symm)⟩
        rw [e6, ob_s]
        rfl
    · rintro z ⟨h1, _⟩
      omega
  rw [hz] at e
  exact ⟨g', e, hk⟩
end TM
