/-! PURE: literals in one form; names and years; the frame -/
def m1 : Int32 := -1
theorem m1_int : m1.toInt = -1 := by decide
theorem li_m1 : (-1 : Int32) = m1 := rfl
theorem li_m1b : -(i3 1) = m1 := by decide
theorem li_0 : (0 : Int32) = i3 0 := rfl
theorem li_1 : (1 : Int32) = i3 1 := rfl
theorem li_2 : (2 : Int32) = i3 2 := rfl
theorem li_3 : (3 : Int32) = i3 3 := rfl
theorem li_4 : (4 : Int32) = i3 4 := rfl
theorem li_5 : (5 : Int32) = i3 5 := rfl
theorem li_6 : (6 : Int32) = i3 6 := rfl
theorem li_7 : (7 : Int32) = i3 7 := rfl
theorem li_8 : (8 : Int32) = i3 8 := rfl
theorem li_9 : (9 : Int32) = i3 9 := rfl
theorem li_10 : (10 : Int32) = i3 10 := rfl
theorem li_11 : (11 : Int32) = i3 11 := rfl
theorem li_12 : (12 : Int32) = i3 12 := rfl
theorem li_13 : (13 : Int32) = i3 13 := rfl
theorem li_14 : (14 : Int32) = i3 14 := rfl
theorem li_15 : (15 : Int32) = i3 15 := rfl
theorem li_16 : (16 : Int32) = i3 16 := rfl
theorem li_17 : (17 : Int32) = i3 17 := rfl
theorem li_18 : (18 : Int32) = i3 18 := rfl
theorem li_19 : (19 : Int32) = i3 19 := rfl
theorem li_20 : (20 : Int32) = i3 20 := rfl
theorem li_21 : (21 : Int32) = i3 21 := rfl
theorem li_22 : (22 : Int32) = i3 22 := rfl
theorem li_23 : (23 : Int32) = i3 23 := rfl
theorem li_24 : (24 : Int32) = i3 24 := rfl
theorem li_25 : (25 : Int32) = i3 25 := rfl
theorem li_26 : (26 : Int32) = i3 26 := rfl
theorem li_27 : (27 : Int32) = i3 27 := rfl
theorem li_28 : (28 : Int32) = i3 28 := rfl
theorem li_29 : (29 : Int32) = i3 29 := rfl
theorem li_30 : (30 : Int32) = i3 30 := rfl
theorem li_31 : (31 : Int32) = i3 31 := rfl
theorem li_32 : (32 : Int32) = i3 32 := rfl
theorem li_33 : (33 : Int32) = i3 33 := rfl
theorem li_34 : (34 : Int32) = i3 34 := rfl
theorem li_35 : (35 : Int32) = i3 35 := rfl
theorem li_36 : (36 : Int32) = i3 36 := rfl
theorem li_37 : (37 : Int32) = i3 37 := rfl
theorem li_38 : (38 : Int32) = i3 38 := rfl
theorem li_39 : (39 : Int32) = i3 39 := rfl
theorem li_40 : (40 : Int32) = i3 40 := rfl
theorem li_41 : (41 : Int32) = i3 41 := rfl
theorem li_42 : (42 : Int32) = i3 42 := rfl
theorem li_43 : (43 : Int32) = i3 43 := rfl
theorem li_44 : (44 : Int32) = i3 44 := rfl
theorem li_45 : (45 : Int32) = i3 45 := rfl
theorem li_46 : (46 : Int32) = i3 46 := rfl
theorem li_47 : (47 : Int32) = i3 47 := rfl
theorem li_48 : (48 : Int32) = i3 48 := rfl
theorem li_49 : (49 : Int32) = i3 49 := rfl
theorem li_50 : (50 : Int32) = i3 50 := rfl
theorem li_51 : (51 : Int32) = i3 51 := rfl
theorem li_52 : (52 : Int32) = i3 52 := rfl
theorem li_53 : (53 : Int32) = i3 53 := rfl
theorem li_54 : (54 : Int32) = i3 54 := rfl
theorem li_55 : (55 : Int32) = i3 55 := rfl
theorem li_56 : (56 : Int32) = i3 56 := rfl
theorem li_57 : (57 : Int32) = i3 57 := rfl
theorem li_58 : (58 : Int32) = i3 58 := rfl
theorem li_59 : (59 : Int32) = i3 59 := rfl
theorem li_60 : (60 : Int32) = i3 60 := rfl
theorem li_63 : (63 : Int32) = i3 63 := rfl
theorem li_64 : (64 : Int32) = i3 64 := rfl
theorem li_72 : (72 : Int32) = i3 72 := rfl
theorem li_76 : (76 : Int32) = i3 76 := rfl
theorem li_77 : (77 : Int32) = i3 77 := rfl
theorem li_91 : (91 : Int32) = i3 91 := rfl
theorem li_93 : (93 : Int32) = i3 93 := rfl
theorem li_96 : (96 : Int32) = i3 96 := rfl
theorem li_97 : (97 : Int32) = i3 97 := rfl
theorem li_99 : (99 : Int32) = i3 99 := rfl
theorem li_108 : (108 : Int32) = i3 108 := rfl
theorem li_109 : (109 : Int32) = i3 109 := rfl
theorem li_120 : (120 : Int32) = i3 120 := rfl
theorem li_122 : (122 : Int32) = i3 122 := rfl
theorem li_150 : (150 : Int32) = i3 150 := rfl
theorem li_200 : (200 : Int32) = i3 200 := rfl
theorem li_255 : (255 : Int32) = i3 255 := rfl
theorem li_400 : (400 : Int32) = i3 400 := rfl
theorem li_426 : (426 : Int32) = i3 426 := rfl
theorem li_600 : (600 : Int32) = i3 600 := rfl
theorem li_900 : (900 : Int32) = i3 900 := rfl
theorem li_999 : (999 : Int32) = i3 999 := rfl
theorem li_1000 : (1000 : Int32) = i3 1000 := rfl
theorem li_1002 : (1002 : Int32) = i3 1002 := rfl
theorem li_1003 : (1003 : Int32) = i3 1003 := rfl
theorem li_2000 : (2000 : Int32) = i3 2000 := rfl
theorem li_2042 : (2042 : Int32) = i3 2042 := rfl
theorem li_2043 : (2043 : Int32) = i3 2043 := rfl
theorem li_2045 : (2045 : Int32) = i3 2045 := rfl
theorem li_10000 : (10000 : Int32) = i3 10000 := rfl
theorem li_32767 : (32767 : Int32) = i3 32767 := rfl
theorem li_100000 : (100000 : Int32) = i3 100000 := rfl
theorem li_1000000 : (1000000 : Int32) = i3 1000000 := rfl
theorem ob_s {α β : Type} (a : α) (f : α → Option β) : (some a).bind f = f a := rfl
theorem lt1_e {α β : Type} (a : α) (f : α → β) : lt1 a f = f a := rfl
theorem se_l {α β γ : Type} (f : α → γ) (g : β → γ) (a : α) : Sum.elim f g (.inl a) = f a := rfl
theorem se_r {α β γ : Type} (f : α → γ) (g : β → γ) (a : β) : Sum.elim f g (.inr a) = g a := rfl
theorem i3_mul (a b : Nat) : i3 a * i3 b = i3 (a * b) := (Int32.ofNat_mul a b).symm
theorem i3_eqm {k : Nat} (h : k < 2147483648) : (i3 k = m1) = False := by
  refine eq_false (fun e => ?_)
  have h1 := congrArg Int32.toInt e
  rw [i3_int h, m1_int] at h1
  omega
theorem m1_eqi {k : Nat} (h : k < 2147483648) : (m1 = i3 k) = False := by
  refine eq_false (fun e => ?_)
  have h1 := congrArg Int32.toInt e
  rw [i3_int h, m1_int] at h1
  omega
theorem m1_lti {k : Nat} (h : k < 2147483648) : (m1 < i3 k) = True := by
  refine eq_true ?_
  rw [Int32.lt_iff_toInt_lt, i3_int h, m1_int]
  omega
theorem m1_lei {k : Nat} (h : k < 2147483648) : (m1 ≤ i3 k) = True := by
  refine eq_true ?_
  rw [Int32.le_iff_toInt_le, i3_int h, m1_int]
  omega
theorem i3_ltm {k : Nat} (h : k < 2147483648) : (i3 k < m1) = False := by
  refine eq_false ?_
  rw [Int32.lt_iff_toInt_lt, i3_int h, m1_int]
  omega
theorem i3_lem {k : Nat} (h : k < 2147483648) : (i3 k ≤ m1) = False := by
  refine eq_false ?_
  rw [Int32.le_iff_toInt_le, i3_int h, m1_int]
  omega
theorem i3_decm {k : Nat} (h : 1 ≤ k) : i3 k + m1 = i3 (k - 1) := by
  have e : i3 (k - 1) + i3 1 = i3 k := by rw [i3_add, Nat.sub_add_cancel h]
  have e2 : i3 1 + m1 = i3 0 := by decide
  rw [← e, Int32.add_assoc, e2]
  exact Int32.add_zero _
theorem i3_dec0 : i3 0 + m1 = m1 := by decide
theorem i3_sub0 : i3 0 - i3 1 = m1 := by decide
theorem mxor0 (x : Int32) : x ||| i3 0 = x := Int32.or_zero
/-- a name: a person, or none (8) -/
def nm (k : Nat) : Int32 := if k < 8 then i3 k else m1
theorem nm_lt {k : Nat} (h : k < 8) : nm k = i3 k := if_pos h
theorem nm_no {k : Nat} (h : 8 ≤ k) : nm k = m1 := if_neg (by omega)
theorem nm_eqm (k : Nat) : (nm k = m1) = (8 ≤ k) := by
  unfold nm
  by_cases h : k < 8
  · rw [if_pos h, i3_eqm (by omega)]
    exact propext ⟨False.elim, fun q => by omega⟩
  · rw [if_neg h]
    exact propext ⟨fun _ => by omega, fun _ => rfl⟩
theorem nm_eqi {a b : Nat} (hb : b < 8) : (nm a = i3 b) = (a = b) := by
  unfold nm
  by_cases h : a < 8
  · rw [if_pos h, i3_eq (by omega) (by omega)]
  · rw [if_neg h, m1_eqi (by omega)]
    exact propext ⟨False.elim, fun q => by omega⟩
/-- a year of death: none (0), or the year and 1 -/
def yr (k : Nat) : Int32 := if k = 0 then m1 else i3 (k - 1)
theorem yr_eqm {k : Nat} (h : k < 2147483648) : (yr k = m1) = (k = 0) := by
  unfold yr
  by_cases e : k = 0
  · rw [if_pos e]
    exact propext ⟨fun _ => e, fun _ => rfl⟩
  · rw [if_neg e, i3_eqm (by omega)]
    exact propext ⟨False.elim, fun q => e q⟩
theorem yr_0 : yr 0 = m1 := rfl
theorem yr_s {k : Nat} (h : k ≠ 0) : yr k = i3 (k - 1) := if_neg h
theorem yr_s1 (k : Nat) : yr (k + 1) = i3 k := rfl
theorem yr_le {a b : Nat} (ha : a < 2147483648) (hb : b < 2147483648) : (yr a ≤ yr b) = (a ≤ b) := by
  unfold yr
  by_cases h1 : a = 0 <;> by_cases h2 : b = 0
  · rw [if_pos h1, if_pos h2]
    exact propext ⟨fun _ => by omega, fun _ => Int32.le_refl _⟩
  · rw [if_pos h1, if_neg h2, m1_lei (by omega)]
    exact propext ⟨fun _ => by omega, fun _ => trivial⟩
  · rw [if_neg h1, if_pos h2, i3_lem (by omega)]
    exact propext ⟨False.elim, fun q => by omega⟩
  · rw [if_neg h1, if_neg h2, i3_le (by omega) (by omega)]
    exact propext (by omega)
theorem i3_cases (x : Int32) : x < i3 0 ∨ ∃ k, k < 2147483648 ∧ x = i3 k := by
  by_cases h : x < i3 0
  · exact Or.inl h
  · refine Or.inr ⟨x.toInt.toNat, ?_, ?_⟩
    · have h1 := Int32.toInt_lt x
      omega
    · have h1 := Int32.toInt_lt x
      rw [Int32.lt_iff_toInt_lt] at h
      have h0 : (i3 0).toInt = 0 := rfl
      rw [h0] at h
      refine Int32.toInt_inj.mp ?_
      rw [i3_int (by omega)]
      omega
theorem neg_lt {x : Int32} (h : x < i3 0) : (x < i3 0) = True := eq_true h
/-- the frame -/
theorem st_ne {g : St} {p i a : Nat} {v : Int32} (h : a ≠ p) : st g p i v a = g a := by unfold st; rw [if_neg h]
theorem bit_sh {k : Nat} (h : k < 8) : i3 1 <<< (i3 k &&& i3 31) = i3 (1 <<< k) := bit_one k h
theorem bit_in {m k : Nat} (hm : m < 256) (h : k < 8) : (i3 m >>> (i3 k &&& i3 31)) &&& i3 1 = i3 (if m.testBit k then 1 else 0) := by
  have e : (i3 m >>> (i3 k &&& i3 31)) &&& i3 1 = if m.testBit k then i3 1 else i3 0 := bit_has m hm k h
  rw [e]
  by_cases q : m.testBit k = true
  · rw [if_pos q, if_pos q]
  · rw [if_neg q, if_neg q]
theorem lp_inl {σ ρ : Type} {f : σ → Option (σ ⊕ ρ)} {s t : σ} {m : Nat} (h : f s = some (.inl t)) : lp f (m + 1) s = lp f m t := by
  show (f s).bind _ = _
  rw [h]
  rfl
theorem lp_inr {σ ρ : Type} {f : σ → Option (σ ⊕ ρ)} {s : σ} {r : ρ} {m : Nat} (h : f s = some (.inr r)) : lp f (m + 1) s = some r := by
  show (f s).bind _ = _
  rw [h]
  rfl
theorem lp_inrF {σ ρ : Type} {f : σ → Option (σ ⊕ ρ)} {s : σ} {r : ρ} (h : f s = some (.inr r)) : lp f fuel s = some r := lp_inr (m := 999999) h
theorem lp_cnt0 {σ ρ : Type} {f : σ → Option (σ ⊕ ρ)} (S : Nat → σ) {r : ρ} {s0 : σ} (h0 : S 0 = s0) (N : Nat) (hN : N < 1000000) (hs : ∀ k, k < N → f (S k) = some (.inl (S (k + 1)))) (he : f (S N) = some (.inr r)) : lp f fuel s0 = some r := by
  subst h0
  exact lp_cnt S N hN hs he
theorem lp_for {σ ρ : Type} {f : σ → Option (σ ⊕ ρ)} (P : Nat → σ → Prop) (E : ρ → Prop) (N : Nat) (hN : N < 1000000) (hs : ∀ k s, k < N → P k s → (∃ t, f s = some (.inl t) ∧ P (k + 1) t) ∨ ∃ r, f s = some (.inr r) ∧ E r) (he : ∀ s, P N s → ∃ r, f s = some (.inr r) ∧ E r) {s0 : σ} (h0 : P 0 s0) : ∃ r, lp f fuel s0 = some r ∧ E r := by
  have key : ∀ d k m s, k + d = N → d < m → P k s → ∃ r, lp f m s = some r ∧ E r := by
    intro d
    induction d with
    | zero =>
      intro k m s h1 h2 h3
      obtain ⟨m, rfl⟩ : ∃ j, m = j + 1 := ⟨m - 1, by omega⟩
      have : k = N := by omega
      subst this
      obtain ⟨r, e, hr⟩ := he s h3
      exact ⟨r, by unfold lp; rw [e]; rfl, hr⟩
    | succ d ih =>
      intro k m s h1 h2 h3
      obtain ⟨m, rfl⟩ : ∃ j, m = j + 1 := ⟨m - 1, by omega⟩
      rcases hs k s (by omega) h3 with ⟨t, e, ht⟩ | ⟨r, e, hr⟩
      · obtain ⟨r, e2, hr⟩ := ih (k + 1) m t (by omega) (by omega) ht
        exact ⟨r, by unfold lp; rw [e]; exact e2, hr⟩
      · exact ⟨r, by unfold lp; rw [e]; rfl, hr⟩
  exact key N 0 fuel s0 (by omega) (by rw [fuel_eq]; exact hN) h0
/-- a counted loop that goes to its end -/
theorem lp_all {σ ρ : Type} {f : σ → Option (σ ⊕ ρ)} (P : Nat → σ → Prop) (E : ρ → Prop) (N : Nat) (hN : N < 1000000) (hs : ∀ k s, k < N → P k s → ∃ t, f s = some (.inl t) ∧ P (k + 1) t) (he : ∀ s, P N s → ∃ r, f s = some (.inr r) ∧ E r) {s0 : σ} (h0 : P 0 s0) : ∃ r, lp f fuel s0 = some r ∧ E r := lp_for P E N hN (fun k s hk h => Or.inl (hs k s hk h)) he h0
theorem msk_T {b : Nat → Bool} {k : Nat} (h : b k = true) : msk b (k + 1) = msk b k ||| 1 <<< k := by
  show (msk b k ||| if b k = true then 1 <<< k else 0) = _
  rw [if_pos h]
theorem msk_F {b : Nat → Bool} {k : Nat} (h : ¬ b k = true) : msk b (k + 1) = msk b k := by
  show (msk b k ||| if b k = true then 1 <<< k else 0) = _
  rw [if_neg h, Nat.or_zero]
theorem cnt_T {b : Nat → Bool} {k : Nat} (h : b k = true) : cntB b (k + 1) = cntB b k + 1 := by
  show (cntB b k + if b k = true then 1 else 0) = _
  rw [if_pos h]
theorem cnt_F {b : Nat → Bool} {k : Nat} (h : ¬ b k = true) : cntB b (k + 1) = cntB b k := by
  show (cntB b k + if b k = true then 1 else 0) = _
  rw [if_neg h, Nat.add_zero]
theorem msk_congr {b c : Nat → Bool} : ∀ k, (∀ p, p < k → b p = c p) → msk b k = msk c k
  | 0, _ => rfl
  | k + 1, h => by
    unfold msk
    rw [msk_congr k (fun p hp => h p (by omega)), h k (by omega)]
/-- a loop that gathers a set -/
theorem lp_msk {f : Int32 × Int32 → Option ((Int32 × Int32) ⊕ Int32)} (P : Nat → Prop) (dp : ∀ p, Decidable (P p)) {n : Nat} (hn : n ≤ 8) (hs : ∀ k, k < n → f (i3 (msk (fun p => decide (P p)) k), i3 k) = some (.inl (if P k then i3 (msk (fun p => decide (P p)) k) ||| i3 (1 <<< k) else i3 (msk (fun p => decide (P p)) k), i3 (k + 1)))) (he : f (i3 (msk (fun p => decide (P p)) n), i3 n) = some (.inr (i3 (msk (fun p => decide (P p)) n)))) : lp f fuel (i3 0, i3 0) = some (i3 (msk (fun p => decide (P p)) n)) := by
  refine lp_cnt (fun k => (i3 (msk (fun p => decide (P p)) k), i3 k)) n (by omega) (fun k hk => ?_) he
  show f (i3 (msk (fun p => decide (P p)) k), i3 k) = some (.inl (i3 (msk (fun p => decide (P p)) (k + 1)), i3 (k + 1)))
  rw [hs k hk]
  by_cases h : P k
  · rw [if_pos h, bit_or _ (msk_lt8 _ (by omega)) k (by omega), msk_T (decide_eq_true h)]
  · rw [if_neg h, msk_F (by simpa using h)]
/-- a loop that counts -/
theorem lp_num {f : Int32 × Int32 → Option ((Int32 × Int32) ⊕ Int32)} (P : Nat → Prop) (dp : ∀ p, Decidable (P p)) {n : Nat} (hn : n ≤ 8) (hs : ∀ k, k < n → f (i3 (cntB (fun p => decide (P p)) k), i3 k) = some (.inl (if P k then i3 (cntB (fun p => decide (P p)) k + 1) else i3 (cntB (fun p => decide (P p)) k), i3 (k + 1)))) (he : f (i3 (cntB (fun p => decide (P p)) n), i3 n) = some (.inr (i3 (cntB (fun p => decide (P p)) n)))) : lp f fuel (i3 0, i3 0) = some (i3 (cntB (fun p => decide (P p)) n)) := by
  refine lp_cnt (fun k => (i3 (cntB (fun p => decide (P p)) k), i3 k)) n (by omega) (fun k hk => ?_) he
  show f (i3 (cntB (fun p => decide (P p)) k), i3 k) = some (.inl (i3 (cntB (fun p => decide (P p)) (k + 1)), i3 (k + 1)))
  rw [hs k hk]
  by_cases h : P k
  · rw [if_pos h, cnt_T (decide_eq_true h)]
  · rw [if_neg h, cnt_F (by simpa using h)]
/-- sums of the first k -/
def sumN (f : Nat → Nat) : Nat → Nat
  | 0 => 0
  | k + 1 => sumN f k + f k
theorem sumN_le {f : Nat → Nat} {B : Nat} : ∀ k, (∀ p, p < k → f p ≤ B) → sumN f k ≤ k * B
  | 0, _ => Nat.zero_le _
  | k + 1, h => by
    unfold sumN
    have h1 := sumN_le k (fun p hp => h p (by omega))
    have h2 := h k (by omega)
    rw [Nat.succ_mul]
    omega
theorem sumN_congr {f h : Nat → Nat} : ∀ k, (∀ p, p < k → f p = h p) → sumN f k = sumN h k
  | 0, _ => rfl
  | k + 1, e => by
    unfold sumN
    rw [sumN_congr k (fun p hp => e p (by omega)), e k (by omega)]
theorem sumN_more {f : Nat → Nat} {k : Nat} : ∀ m, k ≤ m → (∀ p, k ≤ p → p < m → f p = 0) → sumN f m = sumN f k
  | 0, h, _ => by rw [show k = 0 by omega]
  | m + 1, h, hb => by
    by_cases e : k = m + 1
    · rw [e]
    · show sumN f m + f m = sumN f k
      rw [hb m (by omega) (by omega), Nat.add_zero]
      exact sumN_more m (by omega) (fun p h1 h2 => hb p h1 (by omega))
theorem lp_sum {f : Int32 × Int32 → Option ((Int32 × Int32) ⊕ Int32)} (F : Nat → Nat) {n : Nat} (hn : n ≤ 8) (hs : ∀ k, k < n → f (i3 (sumN F k), i3 k) = some (.inl (i3 (sumN F k + F k), i3 (k + 1)))) (he : f (i3 (sumN F n), i3 n) = some (.inr (i3 (sumN F n)))) : lp f fuel (i3 0, i3 0) = some (i3 (sumN F n)) := by
  refine lp_cnt (fun k => (i3 (sumN F k), i3 k)) n (by omega) (fun k hk => ?_) he
  exact hs k hk
/-- bits of a word's number: how many (the machine's own way) -/
theorem bc_small : ∀ m, m < 256 → fX_J_bitCount (i3 m) = i3 (cntB (fun p => m.testBit p) 8) := by decide +kernel
theorem fX_bc {m : Nat} (h : m < 256) : fX_J_bitCount (i3 m) = i3 (cntB (fun p => m.testBit p) 8) := bc_small m h
theorem bc_msk (b : Nat → Bool) {n : Nat} (h : n ≤ 8) : fX_J_bitCount (i3 (msk b n)) = i3 (cntB b n) := by rw [fX_bc (msk_lt8 b h), cnt_msk b h]
