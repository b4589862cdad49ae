/-! PURE: orders, one behind the other -/
def oF (l : List Nat) : Nat → Nat := fun k => l.getD k 0
def fiI (f : Nat → Nat) : Nat → Nat
  | 0 => 0
  | k + 1 => if f (k + 1) < f k then fiI f k else k + 1
def fjI (f : Nat → Nat) (i : Nat) : Nat → Nat
  | 0 => 0
  | k + 1 => if f (k + 1) < f i then fjI f i k else k + 1
def swp (f : Nat → Nat) (i j : Nat) : Nat → Nat := updN (updN f i (f j)) j (f i)
def rvN : Nat → (Nat → Nat) → Nat → Nat → (Nat → Nat)
  | 0, f, _, _ => f
  | d + 1, f, a, b => if a < b then rvN d (swp f a b) (a + 1) (b - 1) else f
def nxF (m : Nat) (f : Nat → Nat) : Nat → Nat := rvN 3 (swp f (fiI f (m - 1) - 1) (fjI f (fiI f (m - 1) - 1) (m - 1))) (fiI f (m - 1)) (m - 1)
def nxL (m : Nat) (l : List Nat) : List Nat := [nxF m (oF l) 0, nxF m (oF l) 1, nxF m (oF l) 2, nxF m (oF l) 3, nxF m (oF l) 4]
def inv1 (f : Nat → Nat) (i : Nat) : Nat → Nat
  | 0 => 0
  | k + 1 => inv1 f i k + if i < k ∧ f k < f i then 1 else 0
def rank5 (m : Nat) (f : Nat → Nat) : Nat := inv1 f 0 m * [1, 1, 1, 2, 6, 24].getD m 0 + inv1 f 1 m * [1, 1, 1, 1, 2, 6].getD m 0 + inv1 f 2 m * [1, 1, 1, 1, 1, 2].getD m 0 + inv1 f 3 m
def ok5 (m : Nat) (l : List Nat) : Prop := (∀ i, i < 5 → l.getD i 0 < 8 ∧ (m ≤ i → l.getD i 0 = 0)) ∧ ∀ i, i < m → ∀ j, j < m → i ≠ j → l.getD i 0 ≠ l.getD j 0
def good5 (m : Nat) (l : List Nat) : Prop := fiI (oF l) (m - 1) = 0 ∨ (rank5 m (oF l) < rank5 m (oF (nxL m l)) ∧ ok5 m (nxL m l))
def ok5b (m : Nat) (l : List Nat) : Bool := ((List.range 5).all fun i => decide (l.getD i 0 < 8) && (decide (i < m) || decide (l.getD i 0 = 0))) && (List.range m).all fun i => (List.range m).all fun j => decide (i = j) || !decide (l.getD i 0 = l.getD j 0)
noncomputable def frc (c : Nat) (f : Nat → Bool) : Bool := Nat.rec (motive := fun _ => Bool) (f 0) (fun n _ => f (n + 1)) c
theorem frc_eq (c : Nat) (f : Nat → Bool) : frc c f = f c := by cases c <;> rfl
noncomputable def g5b (m : Nat) (l : List Nat) : Bool := decide (fiI (oF l) (m - 1) = 0) || frc (nxF m (oF l) 0) fun a => frc (nxF m (oF l) 1) fun b => frc (nxF m (oF l) 2) fun c => frc (nxF m (oF l) 3) fun d => frc (nxF m (oF l) 4) fun e => decide (rank5 m (oF l) < rank5 m (oF [a, b, c, d, e])) && ok5b m [a, b, c, d, e]
def rg5 (m i : Nat) : List Nat := List.range (if i < m then 8 else 1)
noncomputable def chkB (m a b : Nat) : Bool := (decide (1 < m) && decide (a = b)) || (rg5 m 2).all fun c => (decide (2 < m) && (decide (a = c) || decide (b = c))) || (rg5 m 3).all fun d => (decide (3 < m) && (decide (a = d) || (decide (b = d) || decide (c = d)))) || (rg5 m 4).all fun e => (decide (4 < m) && (decide (a = e) || (decide (b = e) || (decide (c = e) || decide (d = e))))) || g5b m [a, b, c, d, e]
noncomputable def chk5 (m : Nat) : Bool := (rg5 m 0).all fun a => (rg5 m 1).all fun b => chkB m a b
theorem chk5_0 : chk5 0 = true := by decide +kernel
theorem chk5_1 : chk5 1 = true := by decide +kernel
theorem chk5_2 : chk5 2 = true := by decide +kernel
theorem chk5_3 : chk5 3 = true := by decide +kernel
theorem chk5_4 : chk5 4 = true := by decide +kernel
theorem chkA_0 : ((rg5 5 1).all fun b => chkB 5 0 b) = true := by decide +kernel
theorem chkA_1 : ((rg5 5 1).all fun b => chkB 5 1 b) = true := by decide +kernel
theorem chkA_2 : ((rg5 5 1).all fun b => chkB 5 2 b) = true := by decide +kernel
theorem chkA_3 : ((rg5 5 1).all fun b => chkB 5 3 b) = true := by decide +kernel
theorem chkA_4 : ((rg5 5 1).all fun b => chkB 5 4 b) = true := by decide +kernel
theorem chkA_5 : ((rg5 5 1).all fun b => chkB 5 5 b) = true := by decide +kernel
theorem chkA_6 : ((rg5 5 1).all fun b => chkB 5 6 b) = true := by decide +kernel
theorem chkA_7 : ((rg5 5 1).all fun b => chkB 5 7 b) = true := by decide +kernel
theorem chk5_5 : chk5 5 = true := by
  unfold chk5
  rw [List.all_eq_true]
  intro a ha
  have h : a < 8 := List.mem_range.mp ha
  rcases (show a = 0 ∨ a = 1 ∨ a = 2 ∨ a = 3 ∨ a = 4 ∨ a = 5 ∨ a = 6 ∨ a = 7 by omega) with rfl | rfl | rfl | rfl | rfl | rfl | rfl | rfl
  · exact chkA_0
  · exact chkA_1
  · exact chkA_2
  · exact chkA_3
  · exact chkA_4
  · exact chkA_5
  · exact chkA_6
  · exact chkA_7
theorem chk5_m {m : Nat} (h : m ≤ 5) : chk5 m = true := by
  rcases (show m = 0 ∨ m = 1 ∨ m = 2 ∨ m = 3 ∨ m = 4 ∨ m = 5 by omega) with rfl | rfl | rfl | rfl | rfl | rfl
  · exact chk5_0
  · exact chk5_1
  · exact chk5_2
  · exact chk5_3
  · exact chk5_4
  · exact chk5_5
theorem ok5_of {m : Nat} {l : List Nat} (h : ok5b m l = true) : ok5 m l := by
  unfold ok5b at h
  rw [Bool.and_eq_true, List.all_eq_true, List.all_eq_true] at h
  refine ⟨fun i hi => ?_, fun i hi j hj q => ?_⟩
  · have h1 := h.1 i (List.mem_range.mpr hi)
    rw [Bool.and_eq_true, decide_eq_true_eq, Bool.or_eq_true, decide_eq_true_eq, decide_eq_true_eq] at h1
    exact ⟨h1.1, fun z => by rcases h1.2 with y | y; omega; exact y⟩
  · have h1 := h.2 i (List.mem_range.mpr hi)
    rw [List.all_eq_true] at h1
    have h2 := h1 j (List.mem_range.mpr hj)
    rw [Bool.or_eq_true, decide_eq_true_eq] at h2
    rcases h2 with h2 | h2
    · exact absurd h2 q
    · simpa using h2
theorem rg5_in {m i v : Nat} (h : v < 8) (h0 : m ≤ i → v = 0) : v ∈ rg5 m i := by
  unfold rg5
  rw [List.mem_range]
  by_cases q : i < m
  · rw [if_pos q]; exact h
  · rw [if_neg q]; have := h0 (by omega); omega
theorem perm_next {m a b c d e : Nat} (hm : m ≤ 5) (h : ok5 m [a, b, c, d, e]) : good5 m [a, b, c, d, e] := by
  have hc := chk5_m hm
  obtain ⟨h1, h2⟩ := h
  have ha := h1 0 (by omega)
  have hb := h1 1 (by omega)
  have hcc := h1 2 (by omega)
  have hd := h1 3 (by omega)
  have he := h1 4 (by omega)
  unfold chk5 at hc
  rw [List.all_eq_true] at hc
  have c1 := hc a (rg5_in ha.1 ha.2)
  rw [List.all_eq_true] at c1
  have c2 := c1 b (rg5_in hb.1 hb.2)
  unfold chkB at c2
  rw [Bool.or_eq_true] at c2
  rcases c2 with c2 | c2
  · simp only [Bool.and_eq_true, decide_eq_true_eq] at c2
    exact absurd c2.2 (h2 0 (by omega) 1 (by omega) (by omega))
  rw [List.all_eq_true] at c2
  have c3 := c2 c (rg5_in hcc.1 hcc.2)
  rw [Bool.or_eq_true] at c3
  rcases c3 with c3 | c3
  · simp only [Bool.and_eq_true, Bool.or_eq_true, decide_eq_true_eq] at c3
    rcases c3.2 with z | z
    · exact absurd z (h2 0 (by omega) 2 (by omega) (by omega))
    · exact absurd z (h2 1 (by omega) 2 (by omega) (by omega))
  rw [List.all_eq_true] at c3
  have c4 := c3 d (rg5_in hd.1 hd.2)
  rw [Bool.or_eq_true] at c4
  rcases c4 with c4 | c4
  · simp only [Bool.and_eq_true, Bool.or_eq_true, decide_eq_true_eq] at c4
    rcases c4.2 with z | z | z
    · exact absurd z (h2 0 (by omega) 3 (by omega) (by omega))
    · exact absurd z (h2 1 (by omega) 3 (by omega) (by omega))
    · exact absurd z (h2 2 (by omega) 3 (by omega) (by omega))
  rw [List.all_eq_true] at c4
  have c5 := c4 e (rg5_in he.1 he.2)
  rw [Bool.or_eq_true] at c5
  rcases c5 with c5 | c5
  · simp only [Bool.and_eq_true, Bool.or_eq_true, decide_eq_true_eq] at c5
    rcases c5.2 with z | z | z | z
    · exact absurd z (h2 0 (by omega) 4 (by omega) (by omega))
    · exact absurd z (h2 1 (by omega) 4 (by omega) (by omega))
    · exact absurd z (h2 2 (by omega) 4 (by omega) (by omega))
    · exact absurd z (h2 3 (by omega) 4 (by omega) (by omega))
  unfold g5b at c5
  rw [frc_eq, frc_eq, frc_eq, frc_eq, frc_eq, Bool.or_eq_true, decide_eq_true_eq, Bool.and_eq_true, decide_eq_true_eq] at c5
  rcases c5 with z | z
  · exact Or.inl z
  · exact Or.inr ⟨z.1, ok5_of z.2⟩
theorem inv1_le (f : Nat → Nat) (i : Nat) : ∀ k, inv1 f i k ≤ k - (i + 1)
  | 0 => Nat.zero_le _
  | k + 1 => by
    have h := inv1_le f i k
    show inv1 f i k + (if i < k ∧ f k < f i then 1 else 0) ≤ _
    by_cases q : i < k ∧ f k < f i
    · rw [if_pos q]; omega
    · rw [if_neg q]; omega
theorem rank_lt {m : Nat} (hm : m ≤ 5) (f : Nat → Nat) : rank5 m f < 120 := by
  have h0 := inv1_le f 0 m
  have h1 := inv1_le f 1 m
  have h2 := inv1_le f 2 m
  have h3 := inv1_le f 3 m
  unfold rank5
  rcases (show m = 0 ∨ m = 1 ∨ m = 2 ∨ m = 3 ∨ m = 4 ∨ m = 5 by omega) with rfl | rfl | rfl | rfl | rfl | rfl <;> simp <;> omega
/-- the orders from a first one on -/
def seqL (m : Nat) (l : List Nat) : Nat → List Nat
  | 0 => l
  | k + 1 => nxL m (seqL m l k)
def five (l : List Nat) : Prop := ∃ a b c d e, l = [a, b, c, d, e]
theorem seq_ok {m : Nat} (hm : m ≤ 5) {l : List Nat} (h5 : five l) (h : ok5 m l) : ∀ k, (∀ j, j < k → fiI (oF (seqL m l j)) (m - 1) ≠ 0) → five (seqL m l k) ∧ ok5 m (seqL m l k) ∧ k ≤ rank5 m (oF (seqL m l k))
  | 0, _ => ⟨h5, h, Nat.zero_le _⟩
  | k + 1, hk => by
    obtain ⟨⟨a, b, c, d, e, e1⟩, h2, h3⟩ := seq_ok hm h5 h k (fun j hj => hk j (by omega))
    have h4 := hk k (by omega)
    rw [e1] at h2 h4
    rcases perm_next hm h2 with z | z
    · exact absurd z h4
    · refine ⟨⟨_, _, _, _, _, rfl⟩, ?_, ?_⟩
      · show ok5 m (nxL m (seqL m l k))
        rw [e1]; exact z.2
      · show k + 1 ≤ rank5 m (oF (nxL m (seqL m l k)))
        rw [e1] at h3
        rw [e1]; omega
/-- there is a last order, before the 120th turn -/
theorem seq_end {m : Nat} (hm : m ≤ 5) {l : List Nat} (h5 : five l) (h : ok5 m l) : ∃ t, t < 120 ∧ fiI (oF (seqL m l t)) (m - 1) = 0 ∧ ∀ j, j < t → fiI (oF (seqL m l j)) (m - 1) ≠ 0 := by
  refine Classical.byContradiction fun hc => ?_
  have key : ∀ k, k ≤ 120 → ∀ j, j < k → fiI (oF (seqL m l j)) (m - 1) ≠ 0 := by
    intro k
    induction k with
    | zero => intro _ j hj; omega
    | succ k ih =>
      intro hk j hj
      by_cases q : j < k
      · exact ih (by omega) j q
      · have : j = k := by omega
        subst this
        exact fun z => hc ⟨j, by omega, z, ih (by omega)⟩
  have h1 := (seq_ok hm h5 h 120 (key 120 (by omega))).2.2
  have h2 := rank_lt hm (oF (seqL m l 120))
  omega
