/-! PURE: longs; fractions -/
def i6 (k : Nat) : Int64 := Int64.ofNat k
theorem i6_int {k : Nat} (h : k < 9223372036854775808) : (i6 k).toInt = (k : Int) := Int64.toInt_ofNat_of_lt h
theorem i6_add (a b : Nat) : i6 a + i6 b = i6 (a + b) := (Int64.ofNat_add a b).symm
theorem i6_mul (a b : Nat) : i6 a * i6 b = i6 (a * b) := (Int64.ofNat_mul a b).symm
theorem i6_sub {a b : Nat} (h : b ≤ a) : i6 a - i6 b = i6 (a - b) := by
  have e : i6 (a - b) + i6 b = i6 a := by rw [i6_add, Nat.sub_add_cancel h]
  rw [← e, Int64.add_sub_cancel]
theorem i6_eq0 {a : Nat} (h : a < 9223372036854775808) : i6 a = 0 ↔ a = 0 := by
  constructor
  · intro e
    have e2 := congrArg Int64.toInt e
    rw [i6_int h] at e2
    have e3 : (0 : Int64).toInt = 0 := by decide
    rw [e3] at e2
    omega
  · intro e
    rw [e]; rfl
theorem i6_div {a b : Nat} (ha : a < 9223372036854775808) (hb : b < 9223372036854775808) : i6 a / i6 b = i6 (a / b) := by
  have h0 : a / b ≤ a := Nat.div_le_self a b
  apply Int64.toInt_inj.mp
  rw [Int64.toInt_div, i6_int ha, i6_int hb, i6_int (by omega), Int.tdiv_eq_ediv_of_nonneg (by omega)]
  have e : ((a : Int) / (b : Int)) = ((a / b : Nat) : Int) := (Int.natCast_ediv a b).symm
  rw [e]
  generalize a / b = c at h0 ⊢
  rw [Int.bmod_eq_of_le (by omega) (by omega)]
theorem i6_rem {a b : Nat} (ha : a < 9223372036854775808) (hb : b < 9223372036854775808) : i6 a - i6 a / i6 b * i6 b = i6 (a % b) := by
  have h0 : a / b * b ≤ a := Nat.div_mul_le_self a b
  rw [i6_div ha hb, i6_mul, i6_sub h0]
  have h1 := Nat.div_add_mod a b
  rw [Nat.mul_comm] at h1
  congr 1
  omega
theorem cmp0 {a : Nat} (h : a < 9223372036854775808) : lg_cmp (i6 a) (0 : Int64) = 0 ↔ a = 0 := by
  have h0 : (0 : Int64).toInt = 0 := by decide
  unfold lg_cmp
  by_cases e : a = 0
  · rw [e]
    exact ⟨fun _ => rfl, fun _ => by decide⟩
  · have h1 : i6 a > 0 := by
      show (0 : Int64) < i6 a
      rw [Int64.lt_iff_toInt_lt, i6_int h, h0]
      omega
    rw [if_pos h1]
    exact ⟨fun z => absurd z (by decide), fun z => absurd z e⟩
theorem cmp1 {a : Nat} (h : a < 9223372036854775808) : lg_cmp (i6 a) (1 : Int64) ≤ 0 ↔ a ≤ 1 := by
  have h0 : (1 : Int64).toInt = 1 := by decide
  unfold lg_cmp
  by_cases e : 1 < a
  · have h1 : i6 a > 1 := by
      show (1 : Int64) < i6 a
      rw [Int64.lt_iff_toInt_lt, i6_int h, h0]
      omega
    rw [if_pos h1]
    exact ⟨fun z => absurd z (by decide), fun z => by omega⟩
  · have h1 : ¬ i6 a > 1 := by
      show ¬ (1 : Int64) < i6 a
      rw [Int64.lt_iff_toInt_lt, i6_int h, h0]
      omega
    rw [if_neg h1]
    refine ⟨fun _ => by omega, fun _ => ?_⟩
    by_cases q : i6 a = 1
    · rw [if_pos q]; decide
    · rw [if_neg q]; decide
theorem i6_odd (a : Nat) : i6 a &&& (1 : Int64) = i6 (a % 2) := by
  apply Int64.toBitVec_inj.mp
  show BitVec.ofNat 64 a &&& BitVec.ofNat 64 1 = BitVec.ofNat 64 (a % 2)
  apply BitVec.eq_of_toNat_eq
  rw [BitVec.toNat_and, BitVec.toNat_ofNat, BitVec.toNat_ofNat, BitVec.toNat_ofNat]
  rw [show (1 % 2 ^ 64) = 1 from rfl, Nat.and_one_is_mod, Nat.mod_mod_of_dvd _ (by decide : 2 ∣ 2 ^ 64)]
  have := Nat.mod_lt a (show 2 > 0 by decide)
  rw [Nat.mod_eq_of_lt (show a % 2 < 2 ^ 64 by omega)]
theorem i6_half {a : Nat} (h : a < 9223372036854775808) : i6 a >>> ((1 : Int32).toInt64 &&& 63) = i6 (a / 2) := by
  have e1 : ((1 : Int32).toInt64 &&& 63) = (1 : Int64) := by decide
  rw [e1]
  apply Int64.toBitVec_inj.mp
  rw [Int64.toBitVec_shiftRight]
  have e2 : ((1 : Int64).toBitVec.smod 64) = 1#64 := by decide
  rw [e2]
  show (BitVec.ofNat 64 a).sshiftRight' 1#64 = BitVec.ofNat 64 (a / 2)
  show (BitVec.ofNat 64 a).sshiftRight 1 = _
  rw [BitVec.sshiftRight_eq_of_msb_false]
  · apply BitVec.eq_of_toNat_eq
    rw [BitVec.toNat_ushiftRight, BitVec.toNat_ofNat, BitVec.toNat_ofNat, Nat.mod_eq_of_lt (by omega), Nat.mod_eq_of_lt (by omega)]
    show a >>> 1 = a / 2
    rw [Nat.shiftRight_succ, Nat.shiftRight_zero]
  · rw [BitVec.msb_eq_false_iff_two_mul_lt, BitVec.toNat_ofNat, Nat.mod_eq_of_lt (by omega)]
    omega
theorem lp_s {σ ρ : Type} {f : σ → Option (σ ⊕ ρ)} {k : Nat} {s t : σ} (h : f s = some (Sum.inl t)) : lp f (k + 1) s = lp f k t := by
  show (f s).bind _ = _
  rw [h]
  rfl
theorem lp_e {σ ρ : Type} {f : σ → Option (σ ⊕ ρ)} {k : Nat} {s : σ} {r : ρ} (h : f s = some (Sum.inr r)) : lp f (k + 1) s = some r := by
  show (f s).bind _ = _
  rw [h]
  rfl
theorem nle64 {i : Nat} (h : i < 64) : ¬ (64 : Int32) ≤ i3 i := by
  simp (disch := (first | omega | assumption | trivial)) only [li_0, li_1, li_2, li_3, li_4, li_5, li_6, li_7, li_8, li_9, li_10, li_11, li_12, li_13, li_14, li_15, li_16, li_17, li_18, li_19, li_20, li_21, li_22, li_23, li_24, li_25, li_26, li_27, li_28, li_29, li_30, li_31, li_32, li_33, li_34, li_35, li_36, li_37, li_38, li_39, li_40, li_41, li_42, li_43, li_44, li_45, li_46, li_47, li_48, li_49, li_50, li_51, li_52, li_53, li_54, li_55, li_56, li_57, li_58, li_59, li_60, li_63, li_64, li_72, li_76, li_77, li_91, li_93, li_96, li_97, li_99, li_108, li_109, li_120, li_122, li_150, li_200, li_255, li_400, li_426, li_600, li_900, li_999, li_1000, li_1002, li_1003, li_2000, li_2042, li_2043, li_2045, li_10000, li_32767, li_100000, li_1000000, li_m1, li_m1b, ob_s, lt1_e, se_l, se_r, if_true, if_false, true_and, and_true, false_and, and_false, st_at, i3_add, i3_mul, i3_sub, i3_lt, i3_le, i3_eq, i3_nat, m1_eqi, i3_eqm, m1_lti, m1_lei, i3_ltm, i3_lem, i3_decm, i3_dec0, nm_eqm, yr_eqm, mxor0, Nat.zero_add, if_pos, if_neg, eq_self, ne_eq, not_true_eq_false, not_false_eq_true]
  omega
theorem gcdM {x4 : Int32} {y z : Int64} {g : St} {x : Sl} : ∀ d a b k, b ≤ a → a < 2 ^ d → d ≤ 60 → 2 * d + 1 ≤ k → lp (fM_home_L212 x4 y z g x) k (i6 a, i6 b) = some (i6 (Nat.gcd a b)) := by
  have stop : ∀ a k, lp (fM_home_L212 x4 y z g x) (k + 1) (i6 a, i6 0) = some (i6 a) := fun a k => by
    refine lp_e ?_
    show (if lg_cmp (i6 0) (0 : Int64) = 0 then some (Sum.inr (i6 a) : (Int64 × Int64) ⊕ Int64) else if ¬ i6 0 = 0 then some (Sum.inl (i6 0, i6 a - i6 a / i6 0 * i6 0) : (Int64 × Int64) ⊕ Int64) else none) = _
    rw [if_pos ((cmp0 (by omega)).mpr rfl)]
  have go : ∀ a b k, b ≠ 0 → a < 9223372036854775808 → b < 9223372036854775808 → lp (fM_home_L212 x4 y z g x) (k + 1) (i6 a, i6 b) = lp (fM_home_L212 x4 y z g x) k (i6 b, i6 (a % b)) := fun a b k hb h1 h2 => by
    refine lp_s ?_
    show (if lg_cmp (i6 b) (0 : Int64) = 0 then some (Sum.inr (i6 a) : (Int64 × Int64) ⊕ Int64) else if ¬ i6 b = 0 then some (Sum.inl (i6 b, i6 a - i6 a / i6 b * i6 b) : (Int64 × Int64) ⊕ Int64) else none) = _
    rw [if_neg (fun e => hb ((cmp0 h2).mp e)), if_pos (fun e => hb ((i6_eq0 h2).mp e)), i6_rem h1 h2]
  intro d
  induction d with
  | zero =>
    intro a b k h1 h2 h3 h4
    obtain ⟨k, rfl⟩ : ∃ j, k = j + 1 := ⟨k - 1, by omega⟩
    have ha : a = 0 := by omega
    have hb : b = 0 := by omega
    rw [ha, hb, stop]
    rfl
  | succ d ih =>
    intro a b k h1 h2 h3 h4
    have hp : 2 ^ (d + 1) ≤ 2 ^ 60 := Nat.pow_le_pow_right (by omega) h3
    have h63 : a < 9223372036854775808 := Nat.lt_of_lt_of_le h2 (Nat.le_trans hp (by decide))
    obtain ⟨k, rfl⟩ : ∃ j, k = j + 1 := ⟨k - 1, by omega⟩
    by_cases q : b = 0
    · rw [q, stop, Nat.gcd_zero_right]
    · rw [go a b k q h63 (by omega)]
      obtain ⟨k, rfl⟩ : ∃ j, k = j + 1 := ⟨k - 1, by omega⟩
      have hm := Nat.mod_lt a (show b > 0 by omega)
      have eg : Nat.gcd a b = Nat.gcd b (a % b) := by rw [Nat.gcd_comm a b, Nat.gcd_rec b a, Nat.gcd_comm]
      rw [eg]
      by_cases q2 : a % b = 0
      · rw [q2, stop, Nat.gcd_zero_right]
      · rw [go b (a % b) k q2 (by omega) (by omega)]
        have eg2 : Nat.gcd b (a % b) = Nat.gcd (a % b) (b % (a % b)) := by rw [Nat.gcd_comm b, Nat.gcd_rec (a % b) b, Nat.gcd_comm]
        rw [eg2]
        have hm2 := Nat.mod_lt b (show a % b > 0 by omega)
        refine ih (a % b) (b % (a % b)) k (by omega) ?_ (by omega) (by omega)
        have e3 : 2 ^ (d + 1) = 2 * 2 ^ d := by rw [Nat.pow_succ, Nat.mul_comm]
        have e4 := Nat.div_add_mod a b
        have e5 : 1 ≤ a / b := Nat.div_pos h1 (by omega)
        have e6 : b * 1 ≤ b * (a / b) := Nat.mul_le_mul_left b e5
        omega
theorem halfX {x4 : Int32} {g : St} {x : Sl} : ∀ e a i k, e + i ≤ 60 → a < 9223372036854775808 → e + 1 ≤ k → lp (fX_home_L115 x4 g x) k (i6 a, i6 (2 ^ e), i3 i) = some (i6 (a / Nat.gcd (2 ^ e) a), i6 (2 ^ e / Nat.gcd (2 ^ e) a)) := by
  intro e
  induction e with
  | zero =>
    intro a i k h1 h2 h3
    obtain ⟨k, rfl⟩ : ∃ j, k = j + 1 := ⟨k - 1, by omega⟩
    refine lp_e ?_
    show (if (64 : Int32) ≤ i3 i then some (Sum.inr (i6 a, i6 (2 ^ 0)) : (Int64 × Int64 × Int32) ⊕ (Int64 × Int64)) else if lg_cmp (i6 (2 ^ 0)) (1 : Int64) ≤ 0 then some (Sum.inr (i6 a, i6 (2 ^ 0)) : (Int64 × Int64 × Int32) ⊕ (Int64 × Int64)) else if lg_cmp (i6 a &&& (1 : Int64)) (0 : Int64) = 0 then some (Sum.inl (i6 a >>> ((1 : Int32).toInt64 &&& 63), i6 (2 ^ 0) >>> ((1 : Int32).toInt64 &&& 63), i3 i + (1 : Int32)) : (Int64 × Int64 × Int32) ⊕ (Int64 × Int64)) else some (Sum.inr (i6 a, i6 (2 ^ 0)) : (Int64 × Int64 × Int32) ⊕ (Int64 × Int64))) = _
    rw [if_neg (nle64 (by omega)), if_pos ((cmp1 (by decide)).mpr (by decide)), show 2 ^ 0 = 1 from rfl, Nat.gcd_one_left, Nat.div_one, Nat.div_one]
  | succ e ih =>
    intro a i k h1 h2 h3
    obtain ⟨k, rfl⟩ : ∃ j, k = j + 1 := ⟨k - 1, by omega⟩
    have hp : 2 ^ (e + 1) ≤ 2 ^ 60 := Nat.pow_le_pow_right (by omega) (by omega)
    have hp1 : 2 ^ 1 ≤ 2 ^ (e + 1) := Nat.pow_le_pow_right (by omega) (by omega)
    have h63 : 2 ^ (e + 1) < 9223372036854775808 := Nat.lt_of_le_of_lt hp (by decide)
    have eT : fX_home_L115 x4 g x (i6 a, i6 (2 ^ (e + 1)), i3 i) = if lg_cmp (i6 (a % 2)) (0 : Int64) = 0 then some (Sum.inl (i6 a >>> ((1 : Int32).toInt64 &&& 63), i6 (2 ^ (e + 1)) >>> ((1 : Int32).toInt64 &&& 63), i3 i + (1 : Int32)) : (Int64 × Int64 × Int32) ⊕ (Int64 × Int64)) else some (Sum.inr (i6 a, i6 (2 ^ (e + 1))) : (Int64 × Int64 × Int32) ⊕ (Int64 × Int64)) := by
      show (if (64 : Int32) ≤ i3 i then some (Sum.inr (i6 a, i6 (2 ^ (e + 1))) : (Int64 × Int64 × Int32) ⊕ (Int64 × Int64)) else if lg_cmp (i6 (2 ^ (e + 1))) (1 : Int64) ≤ 0 then some (Sum.inr (i6 a, i6 (2 ^ (e + 1))) : (Int64 × Int64 × Int32) ⊕ (Int64 × Int64)) else if lg_cmp (i6 a &&& (1 : Int64)) (0 : Int64) = 0 then some (Sum.inl (i6 a >>> ((1 : Int32).toInt64 &&& 63), i6 (2 ^ (e + 1)) >>> ((1 : Int32).toInt64 &&& 63), i3 i + (1 : Int32)) : (Int64 × Int64 × Int32) ⊕ (Int64 × Int64)) else some (Sum.inr (i6 a, i6 (2 ^ (e + 1))) : (Int64 × Int64 × Int32) ⊕ (Int64 × Int64))) = _
      rw [if_neg (nle64 (by omega)), if_neg (fun z => by have := (cmp1 h63).mp z; omega), i6_odd]
    have e3 : 2 ^ (e + 1) = 2 * 2 ^ e := by rw [Nat.pow_succ, Nat.mul_comm]
    have hm := Nat.mod_lt a (show 2 > 0 by decide)
    by_cases q : a % 2 = 0
    · rw [if_pos ((cmp0 (by omega)).mpr q), i6_half h2, i6_half h63, show i3 i + (1 : Int32) = i3 (i + 1) from i3_add i 1, show 2 ^ (e + 1) / 2 = 2 ^ e by omega] at eT
      rw [lp_s eT]
      obtain ⟨b, rfl⟩ : ∃ b, a = 2 * b := ⟨a / 2, by omega⟩
      rw [show 2 * b / 2 = b by omega, ih b (i + 1) k (by omega) (by omega) (by omega), e3, Nat.gcd_mul_left, Nat.mul_div_mul_left _ _ (by decide), Nat.mul_div_mul_left _ _ (by decide)]
    · rw [if_neg (fun z => q ((cmp0 (by omega)).mp z))] at eT
      rw [lp_e eT]
      have eg : Nat.gcd (2 ^ (e + 1)) a = 1 := by
        refine Nat.Coprime.pow_left (e + 1) ?_
        show Nat.gcd 2 a = 1
        rw [Nat.gcd_rec, show a % 2 = 1 by omega]
        rfl
      rw [eg, Nat.div_one, Nat.div_one]
