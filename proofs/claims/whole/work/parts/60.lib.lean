/-! PURE: loops, small numbers, sets of persons -/
/-- a loop: each turn goes on, nearer to the end, or is done -/
theorem lp_ind {σ ρ : Type} {f : σ → Option (σ ⊕ ρ)} (I : σ → Prop) (μ : σ → Nat) (E : ρ → Prop) (h : ∀ s, I s → (∃ t, f s = some (.inl t) ∧ I t ∧ μ t < μ s) ∨ ∃ r, f s = some (.inr r) ∧ E r) : ∀ (k : Nat) (s : σ), I s → μ s < k → ∃ r, lp f k s = some r ∧ E r := by
  intro k
  induction k with
  | zero => intro s _ hk; omega
  | succ k ih =>
    intro s hs hk
    rcases h s hs with ⟨t, e, ht, hm⟩ | ⟨r, e, hr⟩
    · obtain ⟨r, e2, hr⟩ := ih t ht (by omega)
      exact ⟨r, by unfold lp; rw [e]; exact e2, hr⟩
    · exact ⟨r, by unfold lp; rw [e]; rfl, hr⟩
theorem fuel_eq : fuel = 1000000 := rfl
/-- small numbers -/
def i3 (k : Nat) : Int32 := Int32.ofNat k
theorem i3_int {k : Nat} (h : k < 2147483648) : (i3 k).toInt = (k : Int) := Int32.toInt_ofNat_of_lt h
theorem i3_nat {k : Nat} (h : k < 2147483648) : (i3 k).toNatClampNeg = k := by
  show (i3 k).toInt.toNat = k
  rw [i3_int h]
  omega
theorem i3_lt {a b : Nat} (ha : a < 2147483648) (hb : b < 2147483648) : (i3 a < i3 b) = (a < b) := by
  rw [Int32.lt_iff_toInt_lt, i3_int ha, i3_int hb]
  exact propext (by omega)
theorem i3_le {a b : Nat} (ha : a < 2147483648) (hb : b < 2147483648) : (i3 a ≤ i3 b) = (a ≤ b) := by
  rw [Int32.le_iff_toInt_le, i3_int ha, i3_int hb]
  exact propext (by omega)
theorem i3_nle {a b : Nat} (ha : a < 2147483648) (h : b < a) : ¬ i3 a ≤ i3 b := by rw [i3_le ha (by omega)]; omega
theorem i3_yle {a b : Nat} (hb : b < 2147483648) (h : a ≤ b) : i3 a ≤ i3 b := by rw [i3_le (by omega) hb]; exact h
theorem i3_nlt {a b : Nat} (ha : a < 2147483648) (h : b ≤ a) : ¬ i3 a < i3 b := by rw [i3_lt ha (by omega)]; omega
theorem i3_ylt {a b : Nat} (hb : b < 2147483648) (h : a < b) : i3 a < i3 b := by rw [i3_lt (by omega) hb]; exact h
theorem i3_eq {a b : Nat} (ha : a < 2147483648) (hb : b < 2147483648) : (i3 a = i3 b) = (a = b) := by
  refine propext ⟨fun h => ?_, fun h => by rw [h]⟩
  have := congrArg Int32.toInt h
  rw [i3_int ha, i3_int hb] at this
  omega
theorem i3_add (a b : Nat) : i3 a + i3 b = i3 (a + b) := (Int32.ofNat_add a b).symm
theorem i3_sub {a b : Nat} (h : b ≤ a) : i3 a - i3 b = i3 (a - b) := by
  have e : i3 (a - b) + i3 b = i3 a := by rw [i3_add, Nat.sub_add_cancel h]
  rw [← e, Int32.add_sub_cancel]
theorem i3_in {k n : Nat} (h : k < 2147483648) (hn : k < n) : ¬ (i3 k < 0 ∨ n ≤ (i3 k).toNatClampNeg) := by
  rw [i3_nat h]
  rintro (h1 | h1)
  · have h2 : i3 k < i3 0 := h1
    rw [i3_lt h (by decide)] at h2
    omega
  · omega
/-- sets of persons -/
theorem bit_has : ∀ m, m < 256 → ∀ p, p < 8 → ((i3 m >>> (i3 p &&& 31)) &&& 1) = if m.testBit p then 1 else 0 := by decide +kernel
theorem bit_one : ∀ p, p < 8 → ((1 : Int32) <<< (i3 p &&& 31)) = i3 (1 <<< p) := by decide +kernel
theorem bit_or : ∀ m, m < 256 → ∀ p, p < 8 → i3 m ||| i3 (1 <<< p) = i3 (m ||| 1 <<< p) := by decide +kernel
theorem bit_off : ∀ m, m < 256 → ∀ p, p < 8 → (i3 m &&& (((1 : Int32) <<< (i3 p &&& 31)) ^^^ (-1 : Int32))) = i3 (m &&& (255 - 1 <<< p)) := by decide +kernel
/-- a counted loop -/
theorem lp_at {σ ρ : Type} {f : σ → Option (σ ⊕ ρ)} (S : Nat → σ) {r : ρ} (N : Nat) (hs : ∀ k, k < N → f (S k) = some (.inl (S (k + 1)))) (he : f (S N) = some (.inr r)) : ∀ (d k m : Nat), k + d = N → d < m → lp f m (S k) = some r := by
  intro d
  induction d with
  | zero =>
    intro k m h1 h2
    obtain ⟨m, rfl⟩ : ∃ j, m = j + 1 := ⟨m - 1, by omega⟩
    have : k = N := by omega
    subst this
    unfold lp
    rw [he]
    rfl
  | succ d ih =>
    intro k m h1 h2
    obtain ⟨m, rfl⟩ : ∃ j, m = j + 1 := ⟨m - 1, by omega⟩
    unfold lp
    rw [hs k (by omega)]
    exact ih (k + 1) m (by omega) (by omega)
theorem lp_cnt {σ ρ : Type} {f : σ → Option (σ ⊕ ρ)} (S : Nat → σ) {r : ρ} (N : Nat) (hN : N < 1000000) (hs : ∀ k, k < N → f (S k) = some (.inl (S (k + 1)))) (he : f (S N) = some (.inr r)) : lp f fuel (S 0) = some r := lp_at S N hs he N 0 fuel (by omega) (by rw [fuel_eq]; exact hN)
/-- how many of the first k -/
def cntB (b : Nat → Bool) : Nat → Nat
  | 0 => 0
  | k + 1 => cntB b k + if b k then 1 else 0
/-- the set of those of the first k -/
def msk (b : Nat → Bool) : Nat → Nat
  | 0 => 0
  | k + 1 => msk b k ||| if b k then 1 <<< k else 0
theorem cntB_le (b : Nat → Bool) : ∀ k, cntB b k ≤ k
  | 0 => Nat.le_refl _
  | k + 1 => by
    have := cntB_le b k
    unfold cntB
    by_cases h : b k = true
    · rw [if_pos h]; omega
    · rw [if_neg h]; omega
theorem msk_bit (b : Nat → Bool) : ∀ k p, (msk b k).testBit p = (decide (p < k) && b p)
  | 0, p => by simp [msk]
  | k + 1, p => by
    unfold msk
    rw [Nat.testBit_or, msk_bit b k p]
    by_cases h : b k = true
    · rw [if_pos h, Nat.one_shiftLeft, Nat.testBit_two_pow]
      by_cases e : k = p
      · subst e; simp [h]
      · have : (p < k + 1) ↔ (p < k) := by omega
        simp [e, this]
    · rw [if_neg h]
      by_cases e : p = k
      · subst e; simp [h]
      · have : (p < k + 1) ↔ (p < k) := by omega
        simp [this]
theorem msk_lt (b : Nat → Bool) (k : Nat) : msk b k < 2 ^ k := by
  apply Nat.lt_pow_two_of_testBit
  intro i hi
  rw [msk_bit]
  simp
  omega
theorem msk_lt8 (b : Nat → Bool) {k : Nat} (h : k ≤ 8) : msk b k < 256 := Nat.lt_of_lt_of_le (msk_lt b k) (Nat.pow_le_pow_right (by decide) h)
theorem M_ones (m : Nat) (hm : m < 256) : fM_ones (i3 m) = some (i3 (cntB (fun p => m.testBit p) 8)) := by
  unfold fM_ones fM_ones_b4
  rw [show lp (fM_ones_L4 (i3 m)) fuel (0, 0) = some (i3 (cntB (fun p => m.testBit p) 8)) from ?_]
  · rfl
  · refine lp_cnt (fun k => (i3 (cntB (fun p => m.testBit p) k), i3 k)) 8 (by decide) (fun k hk => ?_) ?_
    · show fM_ones_L4 _ _ = _
      unfold fM_ones_L4
      dsimp only
      rw [if_neg (show ¬ (8 : Int32) ≤ i3 k from i3_nle (by decide) hk), bit_has m hm k hk]
      rw [show i3 k + 1 = i3 (k + 1) from i3_add k 1]
      have e : i3 (cntB (fun p => m.testBit p) k) + (if m.testBit k then (1 : Int32) else 0) = i3 (cntB (fun p => m.testBit p) (k + 1)) := by
        show _ = i3 (cntB (fun p => m.testBit p) k + if m.testBit k then 1 else 0)
        rw [← i3_add]
        by_cases h : m.testBit k = true
        · rw [if_pos h, if_pos h]; rfl
        · rw [if_neg h, if_neg h]; rfl
      rw [e]
    · show fM_ones_L4 _ _ = _
      unfold fM_ones_L4
      dsimp only
      rw [if_pos (show (8 : Int32) ≤ i3 8 from i3_yle (by decide) (Nat.le_refl _))]
