/-! PURE: who is come to, on and on -/
def sub (A B : Nat) : Prop := ∀ i, A.testBit i = true → B.testBit i = true
theorem sub_rf (A : Nat) : sub A A := fun _ h => h
theorem sub_tr {A B C : Nat} (h : sub A B) (k : sub B C) : sub A C := fun i a => k i (h i a)
theorem sub_or {A B C : Nat} (h : sub A C) (k : sub B C) : sub (A ||| B) C := fun i a => by
  rw [Nat.testBit_or, Bool.or_eq_true] at a
  rcases a with a | a
  · exact h i a
  · exact k i a
theorem sub_l (A B : Nat) : sub A (A ||| B) := fun i a => by rw [Nat.testBit_or, a]; rfl
theorem sub_r (A B : Nat) : sub B (A ||| B) := fun i a => by rw [Nat.testBit_or, a, Bool.or_true]
theorem sub_eq {A B : Nat} (h : sub A B) (k : sub B A) : A = B := Nat.eq_of_testBit_eq fun i => by
  have h1 := h i
  have h2 := k i
  cases q : A.testBit i with
  | true => exact (h1 q).symm
  | false =>
    cases q2 : B.testBit i with
    | false => rfl
    | true => rw [h2 q2] at q; cases q
theorem sub_le {A B : Nat} (h : sub A B) : A ≤ B := by
  have e : A &&& B = A := Nat.eq_of_testBit_eq fun i => by
    rw [Nat.testBit_and]
    cases q : A.testBit i with
    | true => rw [h i q]; rfl
    | false => rfl
  rw [← e]
  exact Nat.and_le_right
def clo (n : Nat) (G : Nat → Nat) (B : Nat) : Prop := ∀ a, a < n → B.testBit a = true → sub (G a) B
def jac (G : Nat → Nat) (B : Nat) : Nat → Nat
  | 0 => B
  | k + 1 => if B.testBit k = true then jac G B k ||| G k else jac G B k
def gss (G : Nat → Nat) (B : Nat) : Nat → Nat
  | 0 => B
  | k + 1 => if (gss G B k).testBit k = true then gss G B k ||| G k else gss G B k
section CLO
variable {G : Nat → Nat} {n : Nat}
theorem jac_s (B k : Nat) : jac G B (k + 1) = if B.testBit k = true then jac G B k ||| G k else jac G B k := rfl
theorem gss_s (B k : Nat) : gss G B (k + 1) = if (gss G B k).testBit k = true then gss G B k ||| G k else gss G B k := rfl
theorem jac_up (B k : Nat) : sub (jac G B k) (jac G B (k + 1)) := by
  rw [jac_s]
  by_cases q : B.testBit k = true
  · rw [if_pos q]; exact sub_l _ _
  · rw [if_neg q]; exact sub_rf _
theorem gss_up (B k : Nat) : sub (gss G B k) (gss G B (k + 1)) := by
  rw [gss_s]
  by_cases q : (gss G B k).testBit k = true
  · rw [if_pos q]; exact sub_l _ _
  · rw [if_neg q]; exact sub_rf _
theorem jac_mono (B : Nat) : ∀ d k, sub (jac G B k) (jac G B (k + d))
  | 0, _ => sub_rf _
  | d + 1, k => sub_tr (jac_mono B d k) (jac_up B (k + d))
theorem gss_mono (B : Nat) : ∀ d k, sub (gss G B k) (gss G B (k + d))
  | 0, _ => sub_rf _
  | d + 1, k => sub_tr (gss_mono B d k) (gss_up B (k + d))
theorem jac_le {B C : Nat} (hC : clo n G C) (h : sub B C) : ∀ k, k ≤ n → sub (jac G B k) C
  | 0, _ => h
  | k + 1, hk => by
    have h1 := jac_le hC h k (by omega)
    rw [jac_s]
    by_cases q : B.testBit k = true
    · rw [if_pos q]; exact sub_or h1 (hC k (by omega) (h k q))
    · rw [if_neg q]; exact h1
theorem gss_le {B C : Nat} (hC : clo n G C) (h : sub B C) : ∀ k, k ≤ n → sub (gss G B k) C
  | 0, _ => h
  | k + 1, hk => by
    have h1 := gss_le hC h k (by omega)
    rw [gss_s]
    by_cases q : (gss G B k).testBit k = true
    · rw [if_pos q]; exact sub_or h1 (hC k (by omega) (h1 k q))
    · rw [if_neg q]; exact h1
theorem jac_clo {B : Nat} (h : jac G B n = B) : clo n G B := fun a ha q => by
  have h1 : sub (G a) (jac G B (a + 1)) := by
    rw [jac_s, if_pos q]
    exact sub_r _ _
  have h2 := jac_mono (G := G) B (n - (a + 1)) (a + 1)
  rw [show a + 1 + (n - (a + 1)) = n by omega, h] at h2
  exact sub_tr h1 h2
theorem gss_clo {B : Nat} (h : gss G B n = B) : clo n G B := fun a ha q => by
  have h0 : sub B (gss G B a) := by
    have := gss_mono (G := G) B a 0
    rw [Nat.zero_add] at this
    exact this
  have h1 : sub (G a) (gss G B (a + 1)) := by
    rw [gss_s, if_pos (h0 a q)]
    exact sub_r _ _
  have h2 := gss_mono (G := G) B (n - (a + 1)) (a + 1)
  rw [show a + 1 + (n - (a + 1)) = n by omega, h] at h2
  exact sub_tr h1 h2
theorem jac_lt {B : Nat} (hG : ∀ a, a < n → G a < 256) (hB : B < 256) : ∀ k, k ≤ n → jac G B k < 256
  | 0, _ => hB
  | k + 1, hk => by
    have h1 := jac_lt hG hB k (by omega)
    rw [jac_s]
    by_cases q : B.testBit k = true
    · rw [if_pos q]; exact Nat.or_lt_two_pow (n := 8) h1 (hG k (by omega))
    · rw [if_neg q]; exact h1
theorem gss_lt {B : Nat} (hG : ∀ a, a < n → G a < 256) (hB : B < 256) : ∀ k, k ≤ n → gss G B k < 256
  | 0, _ => hB
  | k + 1, hk => by
    have h1 := gss_lt hG hB k (by omega)
    rw [gss_s]
    by_cases q : (gss G B k).testBit k = true
    · rw [if_pos q]; exact Nat.or_lt_two_pow (n := 8) h1 (hG k (by omega))
    · rw [if_neg q]; exact h1
theorem jac_sub (B : Nat) : sub B (jac G B n) := by
  have := jac_mono (G := G) B n 0
  rw [Nat.zero_add] at this
  exact this
theorem gss_sub (B : Nat) : sub B (gss G B n) := by
  have := gss_mono (G := G) B n 0
  rw [Nat.zero_add] at this
  exact this
/-- the least closed set -/
def LC (n : Nat) (G : Nat → Nat) (S B : Nat) : Prop := sub S B ∧ clo n G B ∧ ∀ C, clo n G C → sub S C → sub B C
theorem LC.uniq {S B B' : Nat} (h : LC n G S B) (k : LC n G S B') : B = B' := sub_eq (h.2.2 B' k.2.1 k.1) (k.2.2 B h.2.1 h.1)
def gsN (n : Nat) (G : Nat → Nat) (S : Nat) : Nat → Nat
  | 0 => S
  | k + 1 => gss G (gsN n G S k) n
theorem cnt_sub {A B : Nat} (h : sub A B) : ∀ k, cntB (fun p => A.testBit p) k ≤ cntB (fun p => B.testBit p) k
  | 0 => Nat.le_refl _
  | k + 1 => by
    have h1 := cnt_sub h k
    by_cases q : A.testBit k = true
    · rw [cnt_T (b := fun p => A.testBit p) q, cnt_T (b := fun p => B.testBit p) (h k q)]; omega
    · by_cases q2 : B.testBit k = true
      · rw [cnt_F (b := fun p => A.testBit p) q, cnt_T (b := fun p => B.testBit p) q2]; omega
      · rw [cnt_F (b := fun p => A.testBit p) q, cnt_F (b := fun p => B.testBit p) q2]; exact h1
theorem cnt_str {A B : Nat} (h : sub A B) {i : Nat} (h1 : A.testBit i = false) (h2 : B.testBit i = true) : ∀ k, i < k → cntB (fun p => A.testBit p) k < cntB (fun p => B.testBit p) k
  | 0, hk => by omega
  | k + 1, hk => by
    by_cases e : i = k
    · subst e
      have h3 := cnt_sub h i
      rw [cnt_F (b := fun p => A.testBit p) (by simp [h1]), cnt_T (b := fun p => B.testBit p) h2]
      omega
    · have h3 := cnt_str h h1 h2 k (by omega)
      by_cases q : A.testBit k = true
      · rw [cnt_T (b := fun p => A.testBit p) q, cnt_T (b := fun p => B.testBit p) (h k q)]; omega
      · by_cases q2 : B.testBit k = true
        · rw [cnt_F (b := fun p => A.testBit p) q, cnt_T (b := fun p => B.testBit p) q2]; omega
        · rw [cnt_F (b := fun p => A.testBit p) q, cnt_F (b := fun p => B.testBit p) q2]; exact h3
theorem gsN_lt {S : Nat} (hG : ∀ a, a < n → G a < 256) (hS : S < 256) : ∀ k, gsN n G S k < 256
  | 0 => hS
  | k + 1 => gss_lt hG (gsN_lt hG hS k) n (Nat.le_refl n)
theorem gsN_cnt {S : Nat} (hG : ∀ a, a < n → G a < 256) (hS : S < 256) (h0 : S ≠ 0) : ∀ k, gss G (gsN n G S k) n = gsN n G S k ∨ k + 1 ≤ cntB (fun p => (gsN n G S k).testBit p) 8
  | 0 => by
    refine Or.inr ?_
    refine Classical.byContradiction fun q => h0 ?_
    apply Nat.eq_of_testBit_eq
    intro i
    rw [Nat.zero_testBit]
    cases e : S.testBit i with
    | false => rfl
    | true =>
      have hi : i < 8 := by
        refine Classical.byContradiction fun z => ?_
        have := Nat.testBit_lt_two_pow (x := S) (i := i) (Nat.lt_of_lt_of_le (show S < 2 ^ 8 from hS) (Nat.pow_le_pow_right (by decide) (show 8 ≤ i by omega)))
        rw [e] at this
        cases this
      have h1 := cnt_str (A := 0) (B := S) (fun j h => by rw [Nat.zero_testBit] at h; cases h) (i := i) (Nat.zero_testBit i) e 8 hi
      have h2 : gsN n G S 0 = S := rfl
      rw [h2] at q
      omega
  | k + 1 => by
    rcases gsN_cnt hG hS h0 k with h | h
    · left
      show gss G (gss G (gsN n G S k) n) n = gss G (gsN n G S k) n
      rw [h, h]
    · by_cases q : gss G (gsN n G S k) n = gsN n G S k
      · left
        show gss G (gss G (gsN n G S k) n) n = gss G (gsN n G S k) n
        rw [q, q]
      · right
        have hs := gss_sub (G := G) (n := n) (gsN n G S k)
        obtain ⟨i, h1, h2⟩ : ∃ i, (gsN n G S k).testBit i = false ∧ (gss G (gsN n G S k) n).testBit i = true := by
          refine Classical.byContradiction fun z => q ?_
          refine sub_eq (fun i hi => ?_) hs
          cases e : (gsN n G S k).testBit i with
          | true => rfl
          | false => exact absurd ⟨i, e, hi⟩ z
        have hi : i < 8 := by
          refine Classical.byContradiction fun z => ?_
          have hl := gsN_lt hG hS (k + 1)
          have := Nat.testBit_lt_two_pow (x := gss G (gsN n G S k) n) (i := i) (Nat.lt_of_lt_of_le (show gss G (gsN n G S k) n < 2 ^ 8 from hl) (Nat.pow_le_pow_right (by decide) (show 8 ≤ i by omega)))
          rw [h2] at this
          cases this
        have h3 := cnt_str hs h1 h2 8 hi
        show k + 1 + 1 ≤ cntB (fun p => (gss G (gsN n G S k) n).testBit p) 8
        omega
theorem gsN_LC {S : Nat} (hG : ∀ a, a < n → G a < 256) (hS : S < 256) : LC n G S (gsN n G S 8) := by
  have hup : ∀ k, sub S (gsN n G S k) := fun k => by
    induction k with
    | zero => exact sub_rf _
    | succ k ih => exact sub_tr ih (gss_sub _)
  have hle : ∀ C, clo n G C → sub S C → ∀ k, sub (gsN n G S k) C := fun C hC h k => by
    induction k with
    | zero => exact h
    | succ k ih => exact gss_le hC ih n (Nat.le_refl n)
  refine ⟨hup 8, ?_, fun C hC h => hle C hC h 8⟩
  by_cases h0 : S = 0
  · subst h0
    have hz : clo n G 0 := fun a ha q => by rw [Nat.zero_testBit] at q; cases q
    have e : gsN n G 0 8 = 0 := sub_eq (hle 0 hz (sub_rf 0) 8) (hup 8)
    rw [e]
    exact hz
  · rcases gsN_cnt hG hS h0 8 with h | h
    · exact gss_clo h
    · have := cntB_le (fun p => (gsN n G S 8).testBit p) 8
      omega
/-- the reference's loop: till nobody comes -/
theorem jacLoop {f : Int32 × Int32 → Option ((Int32 × Int32) ⊕ Int32)} (hG : ∀ a, a < n → G a < 256) (hf : ∀ B P, B < 256 → P < 256 → f (i3 B, i3 P) = if B = P then some (.inr (i3 B)) else some (.inl (i3 (jac G B n), i3 B))) {S : Nat} (hS : S < 256) : ∃ B, lp f fuel (i3 S, i3 0) = some (i3 B) ∧ B < 256 ∧ LC n G S B := by
  have key := lp_ind (f := f) (fun s => ∃ B P, s = (i3 B, i3 P) ∧ B < 256 ∧ P < 256 ∧ sub S B ∧ sub P B ∧ (P = 0 ∨ B = jac G P n) ∧ ∀ C, clo n G C → sub S C → sub B C) (fun s => 256 - s.2.toNatClampNeg) (fun r => ∃ B, r = i3 B ∧ B < 256 ∧ LC n G S B) (fun s hs => by
    obtain ⟨B, P, rfl, hB, hP, h1, h2, h3, h4⟩ := hs
    have e := hf B P hB hP
    by_cases q : B = P
    · rw [if_pos q] at e
      refine Or.inr ⟨_, e, B, rfl, hB, h1, ?_, h4⟩
      rcases h3 with h3 | h3
      · have hz : B = 0 := by omega
        rw [hz]
        exact fun a ha z => by rw [Nat.zero_testBit] at z; cases z
      · rw [← q] at h3
        exact jac_clo h3.symm
    · rw [if_neg q] at e
      refine Or.inl ⟨_, e, ⟨jac G B n, B, rfl, jac_lt hG hB n (Nat.le_refl n), hB, sub_tr h1 (jac_sub B), jac_sub B, Or.inr rfl, fun C hC h => jac_le hC (h4 C hC h) n (Nat.le_refl n)⟩, ?_⟩
      have h5 := sub_le h2
      show 256 - (i3 B).toNatClampNeg < 256 - (i3 P).toNatClampNeg
      rw [i3_nat (by omega), i3_nat (by omega)]
      omega) 1000000 (i3 S, i3 0) ⟨S, 0, rfl, hS, by omega, sub_rf S, (fun i h => by rw [Nat.zero_testBit] at h; cases h), Or.inl rfl, fun C _ h => h⟩ (by
      show 256 - (i3 0).toNatClampNeg < 1000000
      rw [i3_nat (by omega)]; omega)
  obtain ⟨r, e, B, rfl, hB, hL⟩ := key
  exact ⟨B, e, hB, hL⟩
end CLO
