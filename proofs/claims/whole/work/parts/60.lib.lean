/-! PURE: loops, small numbers, sets of persons -/
/-- a loop: each turn goes on, nearer to the end, or is done -/
theorem lp_ind {σ ρ : Type} {f : σ → Option (σ ⊕ ρ)} (I : σ → Prop) (μ : σ → Nat) (E : ρ → Prop) (h : ∀ s, I s → (∃ t, f s = some (.inl t) ∧ I t ∧ μ t < μ s) ∨ ∃ r, f s = some (.inr r) ∧ E r) : ∀ (k : Nat) (s : σ), I s → μ s < k → ∃ r, lp f k s = some r ∧ E r := by
  intro k
  induction k with
  | zero => intro s _ hk; omega
  | succ k ih =>
    intro s hs hk
    rcases h s hs with ⟨t, e, ht, hm⟩ | ⟨r, e, hr⟩
    · obtain ⟨r, e2, hr⟩ := ih t ht (by omega)
      exact ⟨r, by unfold lp; rw [e]; exact e2, hr⟩
    · exact ⟨r, by unfold lp; rw [e]; rfl, hr⟩
theorem fuel_eq : fuel = 1000000 := rfl
/-- small numbers -/
abbrev i3 (k : Nat) : Int32 := Int32.ofNat k
theorem i3_int {k : Nat} (h : k < 2147483648) : (i3 k).toInt = (k : Int) := Int32.toInt_ofNat_of_lt h
theorem i3_nat {k : Nat} (h : k < 2147483648) : (i3 k).toNatClampNeg = k := by
  show (i3 k).toInt.toNat = k
  rw [i3_int h]
  omega
theorem i3_lt {a b : Nat} (ha : a < 2147483648) (hb : b < 2147483648) : (i3 a < i3 b) = (a < b) := by
  rw [Int32.lt_iff_toInt_lt, i3_int ha, i3_int hb]
  exact propext (by omega)
theorem i3_le {a b : Nat} (ha : a < 2147483648) (hb : b < 2147483648) : (i3 a ≤ i3 b) = (a ≤ b) := by
  rw [Int32.le_iff_toInt_le, i3_int ha, i3_int hb]
  exact propext (by omega)
theorem i3_eq {a b : Nat} (ha : a < 2147483648) (hb : b < 2147483648) : (i3 a = i3 b) = (a = b) := by
  refine propext ⟨fun h => ?_, fun h => by rw [h]⟩
  have := congrArg Int32.toInt h
  rw [i3_int ha, i3_int hb] at this
  omega
theorem i3_add (a b : Nat) : i3 a + i3 b = i3 (a + b) := (Int32.ofNat_add a b).symm
theorem i3_sub {a b : Nat} (h : b ≤ a) : i3 a - i3 b = i3 (a - b) := by
  have e : i3 (a - b) + i3 b = i3 a := by rw [i3_add, Nat.sub_add_cancel h]
  rw [← e, Int32.add_sub_cancel]
theorem i3_in {k n : Nat} (h : k < 2147483648) (hn : k < n) : ¬ (i3 k < 0 ∨ n ≤ (i3 k).toNatClampNeg) := by
  rw [i3_nat h]
  rintro (h1 | h1)
  · have h2 : i3 k < i3 0 := h1
    rw [i3_lt h (by decide)] at h2
    omega
  · omega
/-- sets of persons -/
theorem bit_has : ∀ m, m < 256 → ∀ p, p < 8 → ((i3 m >>> (i3 p &&& 31)) &&& 1) = if m.testBit p then 1 else 0 := by decide +kernel
theorem bit_one : ∀ p, p < 8 → ((1 : Int32) <<< (i3 p &&& 31)) = i3 (1 <<< p) := by decide +kernel
theorem bit_or : ∀ m, m < 256 → ∀ p, p < 8 → i3 m ||| i3 (1 <<< p) = i3 (m ||| 1 <<< p) := by decide +kernel
theorem bit_off : ∀ m, m < 256 → ∀ p, p < 8 → (i3 m &&& (((1 : Int32) <<< (i3 p &&& 31)) ^^^ (-1 : Int32))) = i3 (m &&& (255 - 1 <<< p)) := by decide +kernel
