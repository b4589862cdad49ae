/-! PURE: law: lists in rows; what waits is put down -/
theorem gd_l {L M : List Nat} {j : Nat} (h : j < L.length) : (L ++ M).getD j 0 = L.getD j 0 := by
  rw [List.getD_eq_getElem?_getD, List.getD_eq_getElem?_getD, List.getElem?_append_left h]
theorem gd_s (L : List Nat) (c : Nat) : (L ++ [c]).getD L.length 0 = c := by
  rw [List.getD_eq_getElem?_getD, List.getElem?_append_right (Nat.le_refl _), Nat.sub_self]
  rfl
theorem snoc_cases (w : List Nat) : w = [] ∨ ∃ v c, w = v ++ [c] := by
  cases h : w.reverse with
  | nil => exact Or.inl (List.reverse_eq_nil_iff.mp h)
  | cons c v => exact Or.inr ⟨v.reverse, c, by rw [← List.reverse_reverse w, h, List.reverse_cons]⟩
theorem len_s (L : List Nat) (c : Nat) : (L ++ [c]).length = L.length + 1 := by rw [List.length_append]; rfl
def RowX (row : Nat) (L : List Nat) (g : St) : Prop := ∀ j, j < L.length → g row j = i3 (L.getD j 0)
section RX
variable {row c : Nat} {L : List Nat} {g g' : St}
theorem RowX.fr (h : RowX row L g) (e : ∀ j, g' row j = g row j) : RowX row L g' := fun j hj => (e j).trans (h j hj)
theorem RowX.pop (h : RowX row (L ++ [c]) g) : RowX row L g := fun j hj => by
  have := h j (by rw [len_s]; omega)
  rw [gd_l hj] at this
  exact this
theorem RowX.top (h : RowX row (L ++ [c]) g) : g row L.length = i3 c := by
  have := h L.length (by rw [len_s]; omega)
  rw [gd_s] at this
  exact this
theorem RowX.snoc (h : RowX row L g) (e : ∀ j, j < L.length → g' row j = g row j) (e2 : g' row L.length = i3 c) : RowX row (L ++ [c]) g' := fun j hj => by
  rw [len_s] at hj
  by_cases q : j < L.length
  · rw [gd_l q, e j q]; exact h j q
  · have : j = L.length := by omega
    subst this
    rw [gd_s]; exact e2
end RX
def rk (c : Nat) : Nat := if c = 43 ∨ c = 45 then 1 else if c = 42 ∨ c = 47 ∨ c = 37 then 2 else 0
theorem rk_X : ∀ c, c < 256 → fX_LawReader_rankOf (i3 c) = i3 (rk c) := by decide +kernel
theorem rk_le (c : Nat) : rk c ≤ 2 := by
  unfold rk
  by_cases q : c = 43 ∨ c = 45
  · rw [if_pos q]; omega
  · rw [if_neg q]
    by_cases q2 : c = 42 ∨ c = 47 ∨ c = 37
    · rw [if_pos q2]; omega
    · rw [if_neg q2]; omega
def topR (w : List Nat) : Nat := match w.reverse with
  | [] => 0
  | c :: _ => rk c
theorem topR_s (w : List Nat) (c : Nat) : topR (w ++ [c]) = rk c := by
  unfold topR
  rw [List.reverse_append]
  rfl
def sg (q : List Nat) : List Nat := q.map (fun c => 2000 + c)
/-- the class's reader: codes, what waits, how many brackets -/
def Lc (C w : List Nat) (o : Nat) (g : St) : Prop := g 5 3 = i3 C.length ∧ RowX 26 C g ∧ g 6 1 = i3 w.length ∧ RowX 29 w g ∧ g 6 2 = i3 o ∧ (∀ c, c ∈ w → c < 256) ∧ C.length + w.length ≤ 150
def FRL (g g' : St) : Prop := ∀ p i, ¬ p = 5 → ¬ p = 6 → ¬ p = 26 → ¬ p = 29 → g' p i = g p i
def LFX (g g' : St) : Prop := ∀ p i, ¬ (p = 1 ∧ 3 ≤ i ∧ i ≤ 7) → ¬ p = 5 → ¬ p = 6 → ¬ p = 26 → ¬ p = 29 → g' p i = g p i
theorem FRL.rf {g : St} : FRL g g := fun _ _ _ _ _ _ => rfl
theorem LFX.rf {g : St} : LFX g g := fun _ _ _ _ _ _ _ => rfl
theorem FRL.tr {g g1 g2 : St} (h : FRL g g1) (k : FRL g1 g2) : FRL g g2 := fun p i a b c d => (k p i a b c d).trans (h p i a b c d)
theorem LFX.tr {g g1 g2 : St} (h : LFX g g1) (k : LFX g1 g2) : LFX g g2 := fun p i z a b c d => (k p i z a b c d).trans (h p i z a b c d)
theorem FRL.l {g g' : St} (h : FRL g g') : LFX g g' := fun p i _ a b c d => h p i a b c d
theorem FRX.l {g g' : St} (h : FRX g g') : LFX g g' := fun p i z _ _ _ _ => h p i z
section LL
variable {C w : List Nat} {o c r : Nat} {g g' : St}
theorem Xt.frL {e ft fp t : Nat} {b : Nat → Nat} (h : Xt e b ft fp t g) (f : FRL g g') : Xt e b ft fp t g' := h.fr (fun i _ => f 1 i (by omega) (by omega) (by omega) (by omega)) (fun i => f 16 i (by omega) (by omega) (by omega) (by omega))
theorem Lc.fr (h : Lc C w o g) (f : ∀ p i, (p = 5 ∨ p = 6 ∨ p = 26 ∨ p = 29) → g' p i = g p i) : Lc C w o g' := by
  obtain ⟨h1, h2, h3, h4, h5, h6⟩ := h
  exact ⟨(f 5 3 (by omega)).trans h1, h2.fr (fun j => f 26 j (by omega)), (f 6 1 (by omega)).trans h3, h4.fr (fun j => f 29 j (by omega)), (f 6 2 (by omega)).trans h5, h6⟩
theorem Lc.frX (h : Lc C w o g) (f : FRX g g') : Lc C w o g' := h.fr (fun p i a => f p i (by omega))
theorem Lc.add (h : Lc C w o g) (hl : C.length + 1 + w.length ≤ 150) (c : Nat) : ∃ g', fX_Law_add 5 (i3 c) g = some g' ∧ Lc (C ++ [c]) w o g' ∧ FRL g g' := by
  obtain ⟨h1, h2, h3, h4, h5, h6, h7⟩ := h
  have f : FRL g (st (st g 26 C.length (i3 c)) 5 3 (i3 (C.length + 1))) := fun p i a1 a2 a3 a4 => by rw [st_at, if_neg (by omega), st_at, if_neg (by omega)]
  refine ⟨_, ?_, ⟨?_, ?_, ?_, ?_, ?_, h6, ?_⟩, f⟩
  · unfold fX_Law_add
    rw [h1]
    show (if i3 150 ≤ i3 C.length then _ else (fX_Rows_put 26 (i3 C.length) (i3 c) g).bind _) = _
    rw [if_neg (i3_nle (by omega) (by omega)), pu150 (by omega) (by omega), ob_s]
    show some (st (st g 26 C.length (i3 c)) 5 3 ((st g 26 C.length (i3 c)) 5 3 + i3 1)) = _
    rw [st_at, if_neg (by omega), h1, i3_add]
  · rw [st_eq, len_s]
  · exact h2.snoc (fun j hj => by rw [st_at, if_neg (by omega), st_at, if_neg (by omega)]) (by rw [st_at, if_neg (by omega), st_eq])
  · rw [st_at, if_neg (by omega), st_at, if_neg (by omega)]; exact h3
  · exact h4.fr (fun j => by rw [st_at, if_neg (by omega), st_at, if_neg (by omega)])
  · rw [st_at, if_neg (by omega), st_at, if_neg (by omega)]; exact h5
  · rw [len_s]; omega
theorem Lc.hold (h : Lc C w o g) (hl : C.length + w.length + 1 ≤ 150) (hc : c < 256) : ∃ g', fX_LawReader_hold (i3 c) g = some g' ∧ Lc C (w ++ [c]) o g' ∧ FRL g g' := by
  obtain ⟨h1, h2, h3, h4, h5, h6, h7⟩ := h
  have f : FRL g (st (st g 29 w.length (i3 c)) 6 1 (i3 (w.length + 1))) := fun p i a1 a2 a3 a4 => by rw [st_at, if_neg (by omega), st_at, if_neg (by omega)]
  refine ⟨_, ?_, ⟨?_, ?_, ?_, ?_, ?_, fun x hx => ?_, ?_⟩, f⟩
  · unfold fX_LawReader_hold
    rw [h3]
    show (if i3 150 ≤ i3 w.length then _ else (fX_Rows_put 29 (i3 w.length) (i3 c) g).bind _) = _
    rw [if_neg (i3_nle (by omega) (by omega)), pu150 (by omega) (by omega), ob_s]
    show some (st (st g 29 w.length (i3 c)) 6 1 ((st g 29 w.length (i3 c)) 6 1 + i3 1)) = _
    rw [st_at, if_neg (by omega), h3, i3_add]
  · rw [st_at, if_neg (by omega), st_at, if_neg (by omega)]; exact h1
  · exact h2.fr (fun j => by rw [st_at, if_neg (by omega), st_at, if_neg (by omega)])
  · rw [st_eq, len_s]
  · exact h4.snoc (fun j hj => by rw [st_at, if_neg (by omega), st_at, if_neg (by omega)]) (by rw [st_at, if_neg (by omega), st_eq])
  · rw [st_at, if_neg (by omega), st_at, if_neg (by omega)]; exact h5
  · rw [List.mem_append, List.mem_singleton] at hx
    rcases hx with hx | rfl
    · exact h6 x hx
    · exact hc
  · rw [len_s]; omega
theorem Lc.at0 {L : List Nat} (h : Lc C (L ++ [c]) o g) : g 6 1 = i3 (L.length + 1) ∧ fX_Rows_at 29 (i3 L.length) g = some (i3 c) ∧ c < 256 := by
  obtain ⟨h1, h2, h3, h4, h5, h6, h7⟩ := h
  rw [len_s] at h3 h7
  exact ⟨h3, by rw [at150 (by omega) (by omega), h4.top], h6 c (by simp)⟩
theorem Lc.pop (h : Lc C (w ++ [c]) o g) (e1 : g' 6 1 = i3 w.length) (e2 : ∀ p i, ¬ (p = 6 ∧ i = 1) → g' p i = g p i) : Lc C w o g' := by
  obtain ⟨h1, h2, h3, h4, h5, h6, h7⟩ := h
  rw [len_s] at h7
  exact ⟨(e2 5 3 (by omega)).trans h1, h2.fr (fun j => e2 26 j (by omega)), e1, h4.pop.fr (fun j => e2 29 j (by omega)), (e2 6 2 (by omega)).trans h5, fun x hx => h6 x (by rw [List.mem_append]; exact Or.inl hx), by omega⟩
theorem settle_go (hr : 1 ≤ r) (hr2 : r ≤ 2) (hw : topR w < r) : ∀ (q C : List Nat) (g : St) (m : Nat), Lc C (w ++ q.reverse) o g → (∀ c, c ∈ q → r ≤ rk c) → q.length < m → ∃ g', lp (fX_LawReader_settle_L0 5 (i3 r)) m g = some g' ∧ Lc (C ++ sg q) w o g' ∧ FRL g g'
  | [], C, g, m, h, _, hm => by
    obtain ⟨m, rfl⟩ : ∃ j, m = j + 1 := ⟨m - 1, by have : ([] : List Nat).length = 0 := rfl; omega⟩
    have e0 : w ++ ([] : List Nat).reverse = w := List.append_nil w
    rw [e0] at h
    refine ⟨g, lp_inr ?_, by rw [show C ++ sg [] = C from List.append_nil C]; exact h, FRL.rf⟩
    unfold fX_LawReader_settle_L0
    rcases snoc_cases w with rfl | ⟨v, c, rfl⟩
    · have : g 6 1 = i3 0 := h.2.2.1
      rw [this]
      rfl
    · obtain ⟨a1, a2, a3⟩ := h.at0
      rw [topR_s] at hw
      have hl := h.2.2.2.2.2.2
      rw [len_s] at hl
      show (if g 6 1 ≤ i3 0 then _ else (fX_Rows_at 29 (g 6 1 - i3 1) g).bind _) = _
      rw [a1, if_neg (i3_nle (by omega) (by omega)), i3_sub (by omega), show v.length + 1 - 1 = v.length by omega, a2, ob_s, rk_X c a3, if_pos (i3_ylt (by omega) hw)]
  | c :: q, C, g, m, h, hq, hm => by
    obtain ⟨m, rfl⟩ : ∃ j, m = j + 1 := ⟨m - 1, by omega⟩
    rw [List.reverse_cons, ← List.append_assoc] at h
    obtain ⟨a1, a2, a3⟩ := h.at0
    have hl := h.2.2.2.2.2.2
    rw [len_s] at hl
    have e2 : ∀ p i, ¬ (p = 6 ∧ i = 1) → (st g 6 1 (i3 (w ++ q.reverse).length)) p i = g p i := fun p i z => by rw [st_at, if_neg z]
    have h1 := h.pop (st_eq g 6 1 (i3 (w ++ q.reverse).length)) e2
    have a4 : fX_Rows_at 29 (i3 (w ++ q.reverse).length) (st g 6 1 (i3 (w ++ q.reverse).length)) = some (i3 c) := by
      rw [at150 (by omega) (by omega)] at a2 ⊢
      rw [e2 29 _ (by omega)]
      exact a2
    obtain ⟨g1, b1, b2, b3⟩ := h1.add (by omega) (2000 + c)
    obtain ⟨g2, d1, d2, d3⟩ := settle_go hr hr2 hw q (C ++ [2000 + c]) g1 m b2 (fun x hx => hq x (List.mem_cons_of_mem _ hx)) (by rw [List.length_cons] at hm; omega)
    refine ⟨g2, ?_, ?_, ?_⟩
    · rw [lp_inl (t := g1)]
      · exact d1
      · unfold fX_LawReader_settle_L0
        have a5 : g 6 1 - (1 : Int32) = i3 (w ++ q.reverse).length := by
          rw [a1]
          show i3 _ - i3 1 = _
          rw [i3_sub (by omega)]
          congr 1
        show (if g 6 1 ≤ i3 0 then _ else _) = _
        rw [if_neg (by rw [a1]; exact i3_nle (by omega) (by omega)), a5, a2, ob_s, rk_X c a3, if_neg (i3_nlt (by have := rk_le c; omega) (hq c (List.mem_cons_self))), a4, ob_s]
        show (fX_Law_add 5 (i3 2000 + i3 c) _).bind _ = _
        rw [i3_add, b1, ob_s]
    · rw [List.append_assoc] at d2
      exact d2
    · exact FRL.tr (FRL.tr (fun p i z1 z2 z3 z4 => e2 p i (by omega)) b3) d3
theorem settle_ok (hr : 1 ≤ r) (hr2 : r ≤ 2) (hw : topR w < r) {q : List Nat} (h : Lc C (w ++ q.reverse) o g) (hq : ∀ c, c ∈ q → r ≤ rk c) : ∃ g', fX_LawReader_settle 5 (i3 r) g = some g' ∧ Lc (C ++ sg q) w o g' ∧ FRL g g' := by
  have hl := h.2.2.2.2.2.2
  rw [List.length_append, List.length_reverse] at hl
  obtain ⟨g', e1, e2, e3⟩ := settle_go hr hr2 hw q C g fuel h hq (by rw [fuel_eq]; omega)
  refine ⟨g', ?_, e2, e3⟩
  unfold fX_LawReader_settle fX_LawReader_settle_b0
  rw [e1, ob_s]
/-- whatever waits: it is put down somehow -/
theorem X_at_tot {row n : Nat} (hl : lenW shX row = n) (h0 : 0 < n) (hn : n < 100000) (i : Int32) (g : St) : ∃ v, fX_Rows_at row i g = some v := by
  rcases i3_cases i with h | ⟨k, hk, rfl⟩
  · exact ⟨_, X_at_neg h⟩
  · by_cases q : k < n
    · exact ⟨_, X_at hl q hn⟩
    · refine ⟨i3 0, ?_⟩
      unfold fX_Rows_at
      rw [hl, if_neg (show ¬ i3 k < 0 from i3_nlt (b := 0) (by omega) (by omega)), if_pos h0, if_pos (show Int32.ofNat n ≤ i3 k from i3_yle (by omega) (by omega))]
      rfl
theorem X_put_tot {row n : Nat} (hl : lenW shX row = n) (h0 : 0 < n) (hn : n < 100000) (i v : Int32) (g : St) : ∃ g', fX_Rows_put row i v g = some g' ∧ ∀ p j, ¬ p = row → g' p j = g p j := by
  rcases i3_cases i with h | ⟨k, hk, rfl⟩
  · exact ⟨_, X_put_neg h, fun _ _ _ => rfl⟩
  · by_cases q : k < n
    · exact ⟨_, X_put hl q hn, fun p j w => by rw [st_at, if_neg (fun z => w z.1)]⟩
    · refine ⟨g, ?_, fun _ _ _ => rfl⟩
      unfold fX_Rows_put
      rw [hl, if_neg (show ¬ i3 k < 0 from i3_nlt (b := 0) (by omega) (by omega)), if_pos h0, if_pos (show Int32.ofNat n ≤ i3 k from i3_yle (by omega) (by omega))]
theorem add_tot (x : Int32) (g : St) : ∃ g', fX_Law_add 5 x g = some g' ∧ ∀ p i, ¬ p = 5 → ¬ p = 26 → g' p i = g p i := by
  unfold fX_Law_add
  by_cases q : (150 : Int32) ≤ g 5 3
  · exact ⟨g, if_pos q, fun _ _ _ _ => rfl⟩
  · rw [if_neg q]
    obtain ⟨g1, e1, f1⟩ := X_put_tot (row := 26) (ln150 (by omega)) (by omega) (by omega) (g 5 3) x g
    refine ⟨st g1 5 3 (g1 5 3 + 1), ?_, fun p i z1 z2 => by rw [st_at, if_neg (by omega)]; exact f1 p i z2⟩
    show (fX_Rows_put 26 (g 5 3) x g).bind _ = _
    rw [e1, ob_s]
theorem settle_tot (x2 : Int32) : ∀ (h : Nat) (g : St) (m : Nat), g 6 1 = i3 h → h ≤ 1000 → h < m → ∃ g', lp (fX_LawReader_settle_L0 5 x2) m g = some g' ∧ FRL g g'
  | 0, g, m, e, _, hm => by
    obtain ⟨m, rfl⟩ : ∃ j, m = j + 1 := ⟨m - 1, by omega⟩
    refine ⟨g, lp_inr ?_, FRL.rf⟩
    unfold fX_LawReader_settle_L0
    rw [e]
    rfl
  | h + 1, g, m, e, hh, hm => by
    obtain ⟨m, rfl⟩ : ∃ j, m = j + 1 := ⟨m - 1, by omega⟩
    have e1 : g 6 1 - (1 : Int32) = i3 h := by
      rw [e]
      show i3 (h + 1) - i3 1 = _
      rw [i3_sub (by omega)]
      rfl
    obtain ⟨v, a1⟩ := X_at_tot (row := 29) (ln150 (by omega)) (by omega) (by omega) (i3 h) g
    by_cases q : fX_LawReader_rankOf v < x2
    · refine ⟨g, lp_inr ?_, FRL.rf⟩
      unfold fX_LawReader_settle_L0
      rw [e1, a1, ob_s, if_pos q, e]
      exact if_neg (i3_nle (b := 0) (by omega) (by omega))
    · obtain ⟨v2, a2⟩ := X_at_tot (row := 29) (ln150 (by omega)) (by omega) (by omega) (i3 h) (st g 6 1 (i3 h))
      obtain ⟨g1, a3, f1⟩ := add_tot (2000 + v2) (st g 6 1 (i3 h))
      obtain ⟨g2, a4, f2⟩ := settle_tot x2 h g1 m ((f1 6 1 (by omega) (by omega)).trans (st_eq _ _ _ _)) (by omega) (by omega)
      refine ⟨g2, ?_, fun p i z1 z2 z3 z4 => (f2 p i z1 z2 z3 z4).trans ((f1 p i z1 z3).trans (by rw [st_at, if_neg (by omega)]))⟩
      rw [lp_inl (t := g1)]
      · exact a4
      · unfold fX_LawReader_settle_L0
        rw [e1, a1, ob_s, if_neg q, a2, ob_s, a3, ob_s, e]
        exact if_neg (i3_nle (b := 0) (by omega) (by omega))
theorem settle_any (x2 : Int32) {h : Nat} (e : g 6 1 = i3 h) (hh : h ≤ 1000) : ∃ g', fX_LawReader_settle 5 x2 g = some g' ∧ FRL g g' := by
  obtain ⟨g', e1, e2⟩ := settle_tot x2 h g fuel e hh (by rw [fuel_eq]; omega)
  refine ⟨g', ?_, e2⟩
  unfold fX_LawReader_settle fX_LawReader_settle_b0
  rw [e1, ob_s]
end LL
