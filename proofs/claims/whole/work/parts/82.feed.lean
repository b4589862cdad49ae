/-! PURE: the tape is fed, works undone -/
/-- what the states of the relation look at is kept -/
def KX5 (g g' : St) : Prop := ∀ p i, (p = 2 ∨ p = 10 ∨ p = 12 ∨ p = 17 ∨ p = 19 ∨ p = 23 ∨ p = 35 ∨ (37 ≤ p ∧ p ≤ 39) ∨ p = 43 ∨ p = 44 ∨ (p = 4 ∧ i = 3) ∨ (p = 8 ∧ i = 1)) → g' p i = g p i
def KM5 (g g' : St) : Prop := ∀ p i, (p = 4 ∨ p = 8 ∨ p = 16 ∨ (34 ≤ p ∧ p < 202) ∨ (362 ≤ p ∧ p < 370) ∨ (458 ≤ p ∧ p < 477) ∨ (p = 0 ∧ (i = 17 ∨ i = 31 ∨ i = 32 ∨ i = 34))) → g' p i = g p i
theorem R7.fr5 {n : Nat} {gX gM gX' gM' : St} (h : R7 n gX gM) (e : KX5 gX gX') (f : KM5 gM gM') : R7 n gX' gM' := by
  obtain ⟨⟨w, w1, w2, w3, w4⟩, m, m1, m2, m3, m4⟩ := h
  refine ⟨⟨w, w1, by rw [e 12 2 (by omega)]; exact w2, by rw [f 0 32 (by omega)]; exact w3, fun k hk => (w4 k hk).fr (fun i => e 43 i (by omega)) (fun i => f _ i (by omega))⟩, m, m1, by rw [e 12 3 (by omega)]; exact m2, by rw [f 0 34 (by omega)]; exact m3, fun j hj => ?_⟩
  obtain ⟨v, v1, v2, v3, v4, v5⟩ := m4 j hj
  exact ⟨v, v1, by rw [e 44 _ (by omega)]; exact v2, by rw [f _ 0 (by omega)]; exact v3, v4.fr (fun i => e 44 i (by omega)) (fun i => f _ i (by omega)), fun k hk => (v5 k hk).fr (fun i => e 44 i (by omega)) (fun i => f _ i (by omega))⟩
theorem R6.fr5 {n : Nat} {gX gM gX' gM' : St} (h : R6 n gX gM) (e : KX5 gX gX') (f : KM5 gM gM') : R6 n gX' gM' := by
  obtain ⟨l, A, V, B, l1, l2, l3, l4, l5⟩ := h
  refine ⟨l, A, V, B, l1, by rw [e 8 1 (by omega)]; exact l2, by rw [f 0 31 (by omega)]; exact l3, fun k hk => ?_, fun h0 p hp => ?_⟩
  · rw [f _ 0 (by omega), f _ 1 (by omega)]; exact l4 k hk
  · rw [e 35 p (by omega)]; exact l5 h0 p hp
theorem EC.frK5 {W : (Nat → Nat) → Nat} {n N : Nat} {K F D U T : Nat → Nat} {Y : Nat} {g g' : St} (h : EC W n N K F D U T Y 10 g) (e : KX5 g g') : EC W n N K F D U T Y 10 g' := by
  obtain ⟨hr, hS, hB, hC, hL, hW⟩ := h
  have E : ∀ p, (p = 2 ∨ p = 10 ∨ p = 17 ∨ p = 19 ∨ p = 23 ∨ (37 ≤ p ∧ p ≤ 39)) → g' p = g p := fun p hp => funext fun i => e p i (by omega)
  exact ⟨hr, hS.fr (E 10 (by omega)) (E _ (by omega)) (E _ (by omega)) (E _ (by omega)), hB, hC.fr (E 2 (by omega)) (E 17 (by omega)) (E 19 (by omega)), hL.fr (e 4 3 (by omega)) (E 23 (by omega)), hW⟩
theorem EMd.frK5 {W : (Nat → Nat) → Nat} {n N : Nat} {K F D U T : Nat → Nat} {Y : Nat} {g g' : St} (h : EMd W n N K F D U T Y 16 g) (e : KM5 g g') : EMd W n N K F D U T Y 16 g' := by
  obtain ⟨⟨hr, hS, hB, hC, hL, hW⟩, hd⟩ := h
  have E : ∀ p, (p = 4 ∨ p = 8 ∨ p = 16 ∨ (34 ≤ p ∧ p < 202)) → g' p = g p := fun p hp => funext fun i => e p i (by omega)
  refine ⟨⟨hr, hS.fr (E 16 (by omega)), hB, hC.fr hB.1 (E 4 (by omega)) (E 8 (by omega)) (fun p hp => E _ (by omega)), hL.fr (e 0 17 (by omega)) (fun p a b => E p (by omega)), hW⟩, fun p hp => ?_⟩
  rw [E 16 (by omega)]
  exact hd p hp
theorem R5.fr5 {gX gM gX' gM' : St} (h : R5 gX gM) (e : KX5 gX gX') (f : KM5 gM gM') : R5 gX' gM' := by
  obtain ⟨W, n, N, K, F, D, U, T, Y, d, hX, hM, hY, hW, h6, h7⟩ := h
  exact ⟨W, n, N, K, F, D, U, T, Y, d, hX.frK5 e, hM.frK5 f, hY, hW, h6.fr5 e f, h7.fr5 e f⟩
theorem KX5.rf {g : St} : KX5 g g := fun _ _ _ => rfl
theorem KM5.rf {g : St} : KM5 g g := fun _ _ _ => rfl
/-- bytes of a number -/
def by4 (x : Int32) (j : Nat) : Nat := (((x >>> (i3 (24 - 8 * j) &&& i3 31)) &&& i3 255).toBitVec).toNat
theorem by4_eq (x : Int32) (j : Nat) : (x >>> (i3 (24 - 8 * j) &&& i3 31)) &&& i3 255 = i3 (by4 x j) := by
  apply Int32.toBitVec_inj.mp
  show ((x >>> (i3 (24 - 8 * j) &&& i3 31)) &&& i3 255).toBitVec = BitVec.ofNat 32 (by4 x j)
  unfold by4
  rw [BitVec.ofNat_toNat, BitVec.setWidth_eq]
theorem by4_lt (x : Int32) (j : Nat) : by4 x j < 256 := by
  unfold by4
  rw [Int32.toBitVec_and, BitVec.toNat_and]
  exact Nat.lt_of_le_of_lt Nat.and_le_right (by decide)

theorem shr_24 (x : Int32) : ((x.toUInt32 >>> ((i3 24).toUInt32 &&& Int32.toUInt32 (i3 31))).toInt32) &&& i3 255 = (x >>> (i3 24 &&& i3 31)) &&& i3 255 := by
  apply Int32.toBitVec_inj.mp
  rw [Int32.toBitVec_and, Int32.toBitVec_and, Int32.toBitVec_shiftRight]
  have e1 : ((x.toUInt32 >>> ((i3 24).toUInt32 &&& Int32.toUInt32 (i3 31))).toInt32).toBitVec = x.toBitVec >>> (24 : Nat) := rfl
  have e2 : (x.toBitVec.sshiftRight' ((i3 24 &&& i3 31).toBitVec.smod 32)) = x.toBitVec.sshiftRight 24 := by
    have e3 : ((i3 24 &&& i3 31).toBitVec.smod 32) = 24#32 := by decide
    rw [e3]
    rfl
  have e4 : (i3 255).toBitVec = 255#32 := rfl
  rw [e1, e2, e4]
  apply BitVec.eq_of_getLsbD_eq
  intro i hi
  rw [BitVec.getLsbD_and, BitVec.getLsbD_and]
  by_cases q : i < 8
  · rw [BitVec.getLsbD_ushiftRight, BitVec.getLsbD_sshiftRight]
    rw [if_pos (by omega), decide_eq_false (show ¬ 32 ≤ i by omega)]
    rfl
  · have e5 : (255#32).getLsbD i = false := by
      rcases (show i = 8 ∨ i = 9 ∨ i = 10 ∨ i = 11 ∨ i = 12 ∨ i = 13 ∨ i = 14 ∨ i = 15 ∨ i = 16 ∨ i = 17 ∨ i = 18 ∨ i = 19 ∨ i = 20 ∨ i = 21 ∨ i = 22 ∨ i = 23 ∨ i = 24 ∨ i = 25 ∨ i = 26 ∨ i = 27 ∨ i = 28 ∨ i = 29 ∨ i = 30 ∨ i = 31 by omega) with rfl | rfl | rfl | rfl | rfl | rfl | rfl | rfl | rfl | rfl | rfl | rfl | rfl | rfl | rfl | rfl | rfl | rfl | rfl | rfl | rfl | rfl | rfl | rfl <;> decide
    rw [e5, Bool.and_false, Bool.and_false]
theorem shr_16 (x : Int32) : ((x.toUInt32 >>> ((i3 16).toUInt32 &&& Int32.toUInt32 (i3 31))).toInt32) &&& i3 255 = (x >>> (i3 16 &&& i3 31)) &&& i3 255 := by
  apply Int32.toBitVec_inj.mp
  rw [Int32.toBitVec_and, Int32.toBitVec_and, Int32.toBitVec_shiftRight]
  have e1 : ((x.toUInt32 >>> ((i3 16).toUInt32 &&& Int32.toUInt32 (i3 31))).toInt32).toBitVec = x.toBitVec >>> (16 : Nat) := rfl
  have e2 : (x.toBitVec.sshiftRight' ((i3 16 &&& i3 31).toBitVec.smod 32)) = x.toBitVec.sshiftRight 16 := by
    have e3 : ((i3 16 &&& i3 31).toBitVec.smod 32) = 16#32 := by decide
    rw [e3]
    rfl
  have e4 : (i3 255).toBitVec = 255#32 := rfl
  rw [e1, e2, e4]
  apply BitVec.eq_of_getLsbD_eq
  intro i hi
  rw [BitVec.getLsbD_and, BitVec.getLsbD_and]
  by_cases q : i < 8
  · rw [BitVec.getLsbD_ushiftRight, BitVec.getLsbD_sshiftRight]
    rw [if_pos (by omega), decide_eq_false (show ¬ 32 ≤ i by omega)]
    rfl
  · have e5 : (255#32).getLsbD i = false := by
      rcases (show i = 8 ∨ i = 9 ∨ i = 10 ∨ i = 11 ∨ i = 12 ∨ i = 13 ∨ i = 14 ∨ i = 15 ∨ i = 16 ∨ i = 17 ∨ i = 18 ∨ i = 19 ∨ i = 20 ∨ i = 21 ∨ i = 22 ∨ i = 23 ∨ i = 24 ∨ i = 25 ∨ i = 26 ∨ i = 27 ∨ i = 28 ∨ i = 29 ∨ i = 30 ∨ i = 31 by omega) with rfl | rfl | rfl | rfl | rfl | rfl | rfl | rfl | rfl | rfl | rfl | rfl | rfl | rfl | rfl | rfl | rfl | rfl | rfl | rfl | rfl | rfl | rfl | rfl <;> decide
    rw [e5, Bool.and_false, Bool.and_false]
theorem shr_8 (x : Int32) : ((x.toUInt32 >>> ((i3 8).toUInt32 &&& Int32.toUInt32 (i3 31))).toInt32) &&& i3 255 = (x >>> (i3 8 &&& i3 31)) &&& i3 255 := by
  apply Int32.toBitVec_inj.mp
  rw [Int32.toBitVec_and, Int32.toBitVec_and, Int32.toBitVec_shiftRight]
  have e1 : ((x.toUInt32 >>> ((i3 8).toUInt32 &&& Int32.toUInt32 (i3 31))).toInt32).toBitVec = x.toBitVec >>> (8 : Nat) := rfl
  have e2 : (x.toBitVec.sshiftRight' ((i3 8 &&& i3 31).toBitVec.smod 32)) = x.toBitVec.sshiftRight 8 := by
    have e3 : ((i3 8 &&& i3 31).toBitVec.smod 32) = 8#32 := by decide
    rw [e3]
    rfl
  have e4 : (i3 255).toBitVec = 255#32 := rfl
  rw [e1, e2, e4]
  apply BitVec.eq_of_getLsbD_eq
  intro i hi
  rw [BitVec.getLsbD_and, BitVec.getLsbD_and]
  by_cases q : i < 8
  · rw [BitVec.getLsbD_ushiftRight, BitVec.getLsbD_sshiftRight]
    rw [if_pos (by omega), decide_eq_false (show ¬ 32 ≤ i by omega)]
    rfl
  · have e5 : (255#32).getLsbD i = false := by
      rcases (show i = 8 ∨ i = 9 ∨ i = 10 ∨ i = 11 ∨ i = 12 ∨ i = 13 ∨ i = 14 ∨ i = 15 ∨ i = 16 ∨ i = 17 ∨ i = 18 ∨ i = 19 ∨ i = 20 ∨ i = 21 ∨ i = 22 ∨ i = 23 ∨ i = 24 ∨ i = 25 ∨ i = 26 ∨ i = 27 ∨ i = 28 ∨ i = 29 ∨ i = 30 ∨ i = 31 by omega) with rfl | rfl | rfl | rfl | rfl | rfl | rfl | rfl | rfl | rfl | rfl | rfl | rfl | rfl | rfl | rfl | rfl | rfl | rfl | rfl | rfl | rfl | rfl | rfl <;> decide
    rw [e5, Bool.and_false, Bool.and_false]
theorem shr_0 (x : Int32) : ((x.toUInt32 >>> ((i3 0).toUInt32 &&& Int32.toUInt32 (i3 31))).toInt32) &&& i3 255 = (x >>> (i3 0 &&& i3 31)) &&& i3 255 := by
  apply Int32.toBitVec_inj.mp
  rw [Int32.toBitVec_and, Int32.toBitVec_and, Int32.toBitVec_shiftRight]
  have e1 : ((x.toUInt32 >>> ((i3 0).toUInt32 &&& Int32.toUInt32 (i3 31))).toInt32).toBitVec = x.toBitVec >>> (0 : Nat) := rfl
  have e2 : (x.toBitVec.sshiftRight' ((i3 0 &&& i3 31).toBitVec.smod 32)) = x.toBitVec.sshiftRight 0 := by
    have e3 : ((i3 0 &&& i3 31).toBitVec.smod 32) = 0#32 := by decide
    rw [e3]
    rfl
  have e4 : (i3 255).toBitVec = 255#32 := rfl
  rw [e1, e2, e4]
  apply BitVec.eq_of_getLsbD_eq
  intro i hi
  rw [BitVec.getLsbD_and, BitVec.getLsbD_and]
  by_cases q : i < 8
  · rw [BitVec.getLsbD_ushiftRight, BitVec.getLsbD_sshiftRight]
    rw [if_pos (by omega), decide_eq_false (show ¬ 32 ≤ i by omega)]
    rfl
  · have e5 : (255#32).getLsbD i = false := by
      rcases (show i = 8 ∨ i = 9 ∨ i = 10 ∨ i = 11 ∨ i = 12 ∨ i = 13 ∨ i = 14 ∨ i = 15 ∨ i = 16 ∨ i = 17 ∨ i = 18 ∨ i = 19 ∨ i = 20 ∨ i = 21 ∨ i = 22 ∨ i = 23 ∨ i = 24 ∨ i = 25 ∨ i = 26 ∨ i = 27 ∨ i = 28 ∨ i = 29 ∨ i = 30 ∨ i = 31 by omega) with rfl | rfl | rfl | rfl | rfl | rfl | rfl | rfl | rfl | rfl | rfl | rfl | rfl | rfl | rfl | rfl | rfl | rfl | rfl | rfl | rfl | rfl | rfl | rfl <;> decide
    rw [e5, Bool.and_false, Bool.and_false]
/-- cells are written one behind the other -/
def wrS (g : St) (b p m : Nat) (f : Nat → Int32) : St := fun x y => if x = b ∧ p ≤ y ∧ y < p + m then f (y - p) else g x y
theorem wrS_0 (g : St) (b p : Nat) (f : Nat → Int32) : wrS g b p 0 f = g := by
  funext x y
  unfold wrS
  rw [if_neg (by omega)]
theorem wrS_out {g : St} {b p m x y : Nat} {f : Nat → Int32} (h : ¬ (x = b ∧ p ≤ y ∧ y < p + m)) : wrS g b p m f x y = g x y := by
  unfold wrS
  rw [if_neg h]
def TX (g : St) (len m : Nat) (f : Nat → Int32) : St := st (wrS g 16 len m f) 1 1 (i3 (len + m))
def TM (g : St) (len m : Nat) (f : Nat → Int32) : St := st (wrS g 1 len m f) 0 1 (i3 (len + m))
theorem TX_1 (g : St) (len m : Nat) (f : Nat → Int32) : TX g len m f 1 1 = i3 (len + m) := st_eq _ _ _ _
theorem TM_1 (g : St) (len m : Nat) (f : Nat → Int32) : TM g len m f 0 1 = i3 (len + m) := st_eq _ _ _ _
theorem TX_s (g : St) (len m : Nat) (f : Nat → Int32) : st (st (TX g len m f) 16 (len + m) (f m)) 1 1 (i3 (len + m + 1)) = TX g len (m + 1) f := by
  funext x y
  unfold TX
  rw [st_at, st_at, st_at, st_at]
  by_cases q : x = 1 ∧ y = 1
  · rw [if_pos q, if_pos q, Nat.add_assoc]
  · rw [if_neg q, if_neg q, if_neg q]
    unfold wrS
    by_cases q2 : x = 16 ∧ y = len + m
    · rw [if_pos q2, if_pos ⟨q2.1, by omega, by omega⟩, q2.2, show len + m - len = m by omega]
    · rw [if_neg q2]
      by_cases q3 : x = 16 ∧ len ≤ y ∧ y < len + m
      · rw [if_pos q3, if_pos ⟨q3.1, q3.2.1, by omega⟩]
      · rw [if_neg q3, if_neg (by omega)]
theorem TM_s (g : St) (len m : Nat) (f : Nat → Int32) : st (st (TM g len m f) 1 (len + m) (f m)) 0 1 (i3 (len + m + 1)) = TM g len (m + 1) f := by
  funext x y
  unfold TM
  rw [st_at, st_at, st_at, st_at]
  by_cases q : x = 0 ∧ y = 1
  · rw [if_pos q, if_pos q, Nat.add_assoc]
  · rw [if_neg q, if_neg q, if_neg q]
    unfold wrS
    by_cases q2 : x = 1 ∧ y = len + m
    · rw [if_pos q2, if_pos ⟨q2.1, by omega, by omega⟩, q2.2, show len + m - len = m by omega]
    · rw [if_neg q2]
      by_cases q3 : x = 1 ∧ len ≤ y ∧ y < len + m
      · rw [if_pos q3, if_pos ⟨q3.1, q3.2.1, by omega⟩]
      · rw [if_neg q3, if_neg (by omega)]
theorem X_take {g : St} {len m : Nat} {f : Nat → Int32} {x : Int32} (hl : len + m + 4 ≤ 600) (hf : ∀ j, j < 4 → f (m + j) = i3 (by4 x j)) : fX_Text_takeNumber x (TX g len m f) = some (TX g len (m + 4) f) := by
  have fu : fuel = 999995 + 1 + 1 + 1 + 1 + 1 := rfl
  have f0 := hf 0 (by omega)
  have f1 := hf 1 (by omega)
  have f2 := hf 2 (by omega)
  have f3 := hf 3 (by omega)
  have b0 := (shr_24 x).trans (by4_eq x 0)
  have b1 := (shr_16 x).trans (by4_eq x 1)
  have b2 := (shr_8 x).trans (by4_eq x 2)
  have b3 := (shr_0 x).trans (by4_eq x 3)
  rw [← f0, Nat.add_zero] at b0
  rw [← f1] at b1
  rw [← f2] at b2
  rw [← f3] at b3
  have c0 : i3 24 + -(i3 8) = i3 16 := by decide
  have c1 : i3 16 + -(i3 8) = i3 8 := by decide
  have c2 : i3 8 + -(i3 8) = i3 0 := by decide
  have c3 : ¬ i3 0 ≤ i3 0 + -(i3 8) := by decide
  have c4 : i3 0 + -(i3 8) < i3 0 := by decide
  have t0 := TX_1 g len m f
  have t1 := TX_1 g len (m + 1) f
  have t2 := TX_1 g len (m + 2) f
  have t3 := TX_1 g len (m + 3) f
  have u0 := TX_s g len m f
  have u1 := TX_s g len (m + 1) f
  have u2 := TX_s g len (m + 2) f
  have u3 := TX_s g len (m + 3) f
  have s0 : fX_Text_takeNumber_L3 x (i3 24, TX g len m f) = some (.inl (i3 16, TX g len (m + 1) f)) := by
    simp (disch := (first | omega | assumption | trivial)) only [li_0, li_1, li_2, li_3, li_4, li_5, li_6, li_7, li_8, li_9, li_10, li_11, li_12, li_13, li_14, li_15, li_16, li_17, li_18, li_19, li_20, li_21, li_22, li_23, li_24, li_25, li_26, li_27, li_28, li_29, li_30, li_31, li_32, li_33, li_34, li_35, li_36, li_37, li_38, li_39, li_40, li_41, li_42, li_43, li_44, li_45, li_46, li_47, li_48, li_49, li_50, li_51, li_52, li_53, li_54, li_55, li_56, li_57, li_58, li_59, li_60, li_63, li_64, li_72, li_76, li_77, li_91, li_93, li_96, li_97, li_99, li_108, li_109, li_120, li_122, li_150, li_200, li_255, li_400, li_426, li_600, li_900, li_999, li_1000, li_1002, li_1003, li_2000, li_2042, li_2043, li_2045, li_10000, li_32767, li_100000, li_1000000, li_m1, li_m1b, ob_s, lt1_e, se_l, se_r, if_true, if_false, true_and, and_true, false_and, and_false, st_at, i3_add, i3_mul, i3_sub, i3_lt, i3_le, i3_eq, i3_nat, m1_eqi, i3_eqm, m1_lti, m1_lei, i3_ltm, i3_lem, i3_decm, i3_dec0, nm_eqm, yr_eqm, mxor0, Nat.zero_add, if_pos, if_neg, eq_self, ne_eq, not_true_eq_false, not_false_eq_true, fX_Text_takeNumber_L3, t0, pu16, b0, c0, u0]
  have s1 : fX_Text_takeNumber_L3 x (i3 16, TX g len (m + 1) f) = some (.inl (i3 8, TX g len (m + 2) f)) := by
    simp (disch := (first | omega | assumption | trivial)) only [li_0, li_1, li_2, li_3, li_4, li_5, li_6, li_7, li_8, li_9, li_10, li_11, li_12, li_13, li_14, li_15, li_16, li_17, li_18, li_19, li_20, li_21, li_22, li_23, li_24, li_25, li_26, li_27, li_28, li_29, li_30, li_31, li_32, li_33, li_34, li_35, li_36, li_37, li_38, li_39, li_40, li_41, li_42, li_43, li_44, li_45, li_46, li_47, li_48, li_49, li_50, li_51, li_52, li_53, li_54, li_55, li_56, li_57, li_58, li_59, li_60, li_63, li_64, li_72, li_76, li_77, li_91, li_93, li_96, li_97, li_99, li_108, li_109, li_120, li_122, li_150, li_200, li_255, li_400, li_426, li_600, li_900, li_999, li_1000, li_1002, li_1003, li_2000, li_2042, li_2043, li_2045, li_10000, li_32767, li_100000, li_1000000, li_m1, li_m1b, ob_s, lt1_e, se_l, se_r, if_true, if_false, true_and, and_true, false_and, and_false, st_at, i3_add, i3_mul, i3_sub, i3_lt, i3_le, i3_eq, i3_nat, m1_eqi, i3_eqm, m1_lti, m1_lei, i3_ltm, i3_lem, i3_decm, i3_dec0, nm_eqm, yr_eqm, mxor0, Nat.zero_add, if_pos, if_neg, eq_self, ne_eq, not_true_eq_false, not_false_eq_true, fX_Text_takeNumber_L3, t1, pu16, b1, c1, u1]
  have s2 : fX_Text_takeNumber_L3 x (i3 8, TX g len (m + 2) f) = some (.inl (i3 0, TX g len (m + 3) f)) := by
    simp (disch := (first | omega | assumption | trivial)) only [li_0, li_1, li_2, li_3, li_4, li_5, li_6, li_7, li_8, li_9, li_10, li_11, li_12, li_13, li_14, li_15, li_16, li_17, li_18, li_19, li_20, li_21, li_22, li_23, li_24, li_25, li_26, li_27, li_28, li_29, li_30, li_31, li_32, li_33, li_34, li_35, li_36, li_37, li_38, li_39, li_40, li_41, li_42, li_43, li_44, li_45, li_46, li_47, li_48, li_49, li_50, li_51, li_52, li_53, li_54, li_55, li_56, li_57, li_58, li_59, li_60, li_63, li_64, li_72, li_76, li_77, li_91, li_93, li_96, li_97, li_99, li_108, li_109, li_120, li_122, li_150, li_200, li_255, li_400, li_426, li_600, li_900, li_999, li_1000, li_1002, li_1003, li_2000, li_2042, li_2043, li_2045, li_10000, li_32767, li_100000, li_1000000, li_m1, li_m1b, ob_s, lt1_e, se_l, se_r, if_true, if_false, true_and, and_true, false_and, and_false, st_at, i3_add, i3_mul, i3_sub, i3_lt, i3_le, i3_eq, i3_nat, m1_eqi, i3_eqm, m1_lti, m1_lei, i3_ltm, i3_lem, i3_decm, i3_dec0, nm_eqm, yr_eqm, mxor0, Nat.zero_add, if_pos, if_neg, eq_self, ne_eq, not_true_eq_false, not_false_eq_true, fX_Text_takeNumber_L3, t2, pu16, b2, c2, u2]
  have s3 : fX_Text_takeNumber_L3 x (i3 0, TX g len (m + 3) f) = some (.inl (i3 0 + -(i3 8), TX g len (m + 4) f)) := by
    simp (disch := (first | omega | assumption | trivial)) only [li_0, li_1, li_2, li_3, li_4, li_5, li_6, li_7, li_8, li_9, li_10, li_11, li_12, li_13, li_14, li_15, li_16, li_17, li_18, li_19, li_20, li_21, li_22, li_23, li_24, li_25, li_26, li_27, li_28, li_29, li_30, li_31, li_32, li_33, li_34, li_35, li_36, li_37, li_38, li_39, li_40, li_41, li_42, li_43, li_44, li_45, li_46, li_47, li_48, li_49, li_50, li_51, li_52, li_53, li_54, li_55, li_56, li_57, li_58, li_59, li_60, li_63, li_64, li_72, li_76, li_77, li_91, li_93, li_96, li_97, li_99, li_108, li_109, li_120, li_122, li_150, li_200, li_255, li_400, li_426, li_600, li_900, li_999, li_1000, li_1002, li_1003, li_2000, li_2042, li_2043, li_2045, li_10000, li_32767, li_100000, li_1000000, li_m1, li_m1b, ob_s, lt1_e, se_l, se_r, if_true, if_false, true_and, and_true, false_and, and_false, st_at, i3_add, i3_mul, i3_sub, i3_lt, i3_le, i3_eq, i3_nat, m1_eqi, i3_eqm, m1_lti, m1_lei, i3_ltm, i3_lem, i3_decm, i3_dec0, nm_eqm, yr_eqm, mxor0, Nat.zero_add, if_pos, if_neg, eq_self, ne_eq, not_true_eq_false, not_false_eq_true, fX_Text_takeNumber_L3, t3, pu16, b3, u3]
  have s4 : fX_Text_takeNumber_L3 x (i3 0 + -(i3 8), TX g len (m + 4) f) = some (.inr (TX g len (m + 4) f)) := by
    unfold fX_Text_takeNumber_L3
    exact if_pos c4
  simp only [fX_Text_takeNumber, fX_Text_takeNumber_b3, li_0, li_1, li_2, li_3, li_4, li_5, li_6, li_7, li_8, li_9, li_10, li_11, li_12, li_13, li_14, li_15, li_16, li_17, li_18, li_19, li_20, li_21, li_22, li_23, li_24, li_25, li_26, li_27, li_28, li_29, li_30, li_31, li_32, li_33, li_34, li_35, li_36, li_37, li_38, li_39, li_40, li_41, li_42, li_43, li_44, li_45, li_46, li_47, li_48, li_49, li_50, li_51, li_52, li_53, li_54, li_55, li_56, li_57, li_58, li_59, li_60, li_63, li_64, li_72, li_76, li_77, li_91, li_93, li_96, li_97, li_99, li_108, li_109, li_120, li_122, li_150, li_200, li_255, li_400, li_426, li_600, li_900, li_999, li_1000, li_1002, li_1003, li_2000, li_2042, li_2043, li_2045, li_10000, li_32767, li_100000, li_1000000, li_m1, li_m1b]
  rw [fu, lp_inl s0, lp_inl s1, lp_inl s2, lp_inl s3, lp_inr (m := 999995) s4]
  rfl

theorem S_feed : Sim_feed R := by
  intro gX xX gM xM x1 x2 x3 x4 x5 hR
  obtain ⟨W, n, N, K, F, D, U, T, Y, d, hX, hM, hY, hW, h6, h7⟩ := id hR.2.2.2
  have h8 := hX.2.2.1.1
  have nX := hX.2.2.2.1.1
  obtain ⟨g0, hg0⟩ : ∃ g0, g0 = st gM 0 0 (i3 0) := ⟨_, rfl⟩
  have t0 : g0 0 0 = i3 0 := by rw [hg0, st_eq]
  have k0 : KM gM g0 := by rw [hg0]; exact KM.thrown
  have hR0 : R gX xX g0 xM := hR.fr KX.rf k0
  have hM0 : EMd W n N K F D U T Y 16 g0 := hM.frK k0
  have nM := hM0.1.2.2.2.1.1
  obtain ⟨len, b, l1, l2, l3, l4⟩ := hR0.1
  have l3' : gM 0 1 = i3 len := by rw [← l3, hg0, st_at, if_neg (by omega)]
  by_cases q : len + 20 ≤ 600
  · let fB : Nat → Nat := fun j => by4 (if j < 4 then x1 else if j < 8 then x2 else if j < 12 then x3 else if j < 16 then x4 else x5) (j % 4)
    have hfB : ∀ j, fB j < 256 := fun j => by4_lt _ _
    let f : Nat → Int32 := fun j => i3 (fB j)
    have z0 : TX gX len 0 f = gX := by
      funext x y
      unfold TX
      rw [wrS_0, Nat.add_zero, ← l2, st_at]
      by_cases q2 : x = 1 ∧ y = 1
      · rw [if_pos q2, q2.1, q2.2]
      · rw [if_neg q2]
    have w0 : TM g0 len 0 f = g0 := by
      funext x y
      unfold TM
      rw [wrS_0, Nat.add_zero, ← l3, st_at]
      by_cases q2 : x = 0 ∧ y = 1
      · rw [if_pos q2, q2.1, q2.2]
      · rw [if_neg q2]
    have a1 := X_take (g := gX) (len := len) (m := 0) (f := f) (x := x1) (by omega) (fun j hj => by
      rcases (show j = 0 ∨ j = 1 ∨ j = 2 ∨ j = 3 by omega) with rfl | rfl | rfl | rfl <;> rfl)
    have a2 := X_take (g := gX) (len := len) (m := 4) (f := f) (x := x2) (by omega) (fun j hj => by
      rcases (show j = 0 ∨ j = 1 ∨ j = 2 ∨ j = 3 by omega) with rfl | rfl | rfl | rfl <;> rfl)
    have a3 := X_take (g := gX) (len := len) (m := 8) (f := f) (x := x3) (by omega) (fun j hj => by
      rcases (show j = 0 ∨ j = 1 ∨ j = 2 ∨ j = 3 by omega) with rfl | rfl | rfl | rfl <;> rfl)
    have a4 := X_take (g := gX) (len := len) (m := 12) (f := f) (x := x4) (by omega) (fun j hj => by
      rcases (show j = 0 ∨ j = 1 ∨ j = 2 ∨ j = 3 by omega) with rfl | rfl | rfl | rfl <;> rfl)
    have a5 := X_take (g := gX) (len := len) (m := 16) (f := f) (x := x5) (by omega) (fun j hj => by
      rcases (show j = 0 ∨ j = 1 ∨ j = 2 ∨ j = 3 by omega) with rfl | rfl | rfl | rfl <;> rfl)
    rw [z0] at a1
    have eM : lp (fM_feed_L23 x1 x2 x3 x4 x5) fuel (i3 0, g0) = some (TM g0 len 20 f) := by
      refine lp_cnt0 (fun k => (i3 k, TM g0 len k f)) (by show (i3 0, TM g0 len 0 f) = _; rw [w0]) 20 (by omega) (fun k hk => ?_) ?_
      · have u1 := TM_1 g0 len k f
        have u2 := TM_s g0 len k f
        have u3 := i3_rem (a := k) (b := 4) (by omega) (by omega)
        have u4 : f k = i3 (fB k) := rfl
        have u5 : ∀ x, (x >>> (i3 (24 - 8 * (k % 4)) &&& i3 31)) &&& i3 255 = i3 (by4 x (k % 4)) := fun x => by4_eq x (k % 4)
        by_cases q1 : k < 4
        · have u6 : i3 (by4 x1 (k % 4)) = f k := by show _ = i3 (by4 (if k < 4 then x1 else _) (k % 4)); rw [if_pos q1]
          simp (disch := (first | omega | assumption | trivial)) only [li_0, li_1, li_2, li_3, li_4, li_5, li_6, li_7, li_8, li_9, li_10, li_11, li_12, li_13, li_14, li_15, li_16, li_17, li_18, li_19, li_20, li_21, li_22, li_23, li_24, li_25, li_26, li_27, li_28, li_29, li_30, li_31, li_32, li_33, li_34, li_35, li_36, li_37, li_38, li_39, li_40, li_41, li_42, li_43, li_44, li_45, li_46, li_47, li_48, li_49, li_50, li_51, li_52, li_53, li_54, li_55, li_56, li_57, li_58, li_59, li_60, li_63, li_64, li_72, li_76, li_77, li_91, li_93, li_96, li_97, li_99, li_108, li_109, li_120, li_122, li_150, li_200, li_255, li_400, li_426, li_600, li_900, li_999, li_1000, li_1002, li_1003, li_2000, li_2042, li_2043, li_2045, li_10000, li_32767, li_100000, li_1000000, li_m1, li_m1b, ob_s, lt1_e, se_l, se_r, if_true, if_false, true_and, and_true, false_and, and_false, st_at, i3_add, i3_mul, i3_sub, i3_lt, i3_le, i3_eq, i3_nat, m1_eqi, i3_eqm, m1_lti, m1_lei, i3_ltm, i3_lem, i3_decm, i3_dec0, nm_eqm, yr_eqm, mxor0, Nat.zero_add, if_pos, if_neg, eq_self, ne_eq, not_true_eq_false, not_false_eq_true, fM_feed_L23, fM_feed_b76, u1, u3, u5, u6, u2]
        · by_cases q2 : k < 8
          · have u6 : i3 (by4 x2 (k % 4)) = f k := by show _ = i3 (by4 (if k < 4 then x1 else if k < 8 then x2 else _) (k % 4)); rw [if_neg q1, if_pos q2]
            simp (disch := (first | omega | assumption | trivial)) only [li_0, li_1, li_2, li_3, li_4, li_5, li_6, li_7, li_8, li_9, li_10, li_11, li_12, li_13, li_14, li_15, li_16, li_17, li_18, li_19, li_20, li_21, li_22, li_23, li_24, li_25, li_26, li_27, li_28, li_29, li_30, li_31, li_32, li_33, li_34, li_35, li_36, li_37, li_38, li_39, li_40, li_41, li_42, li_43, li_44, li_45, li_46, li_47, li_48, li_49, li_50, li_51, li_52, li_53, li_54, li_55, li_56, li_57, li_58, li_59, li_60, li_63, li_64, li_72, li_76, li_77, li_91, li_93, li_96, li_97, li_99, li_108, li_109, li_120, li_122, li_150, li_200, li_255, li_400, li_426, li_600, li_900, li_999, li_1000, li_1002, li_1003, li_2000, li_2042, li_2043, li_2045, li_10000, li_32767, li_100000, li_1000000, li_m1, li_m1b, ob_s, lt1_e, se_l, se_r, if_true, if_false, true_and, and_true, false_and, and_false, st_at, i3_add, i3_mul, i3_sub, i3_lt, i3_le, i3_eq, i3_nat, m1_eqi, i3_eqm, m1_lti, m1_lei, i3_ltm, i3_lem, i3_decm, i3_dec0, nm_eqm, yr_eqm, mxor0, Nat.zero_add, if_pos, if_neg, eq_self, ne_eq, not_true_eq_false, not_false_eq_true, fM_feed_L23, fM_feed_b76, u1, u3, u5, u6, u2]
          · by_cases q3 : k < 12
            · have u6 : i3 (by4 x3 (k % 4)) = f k := by show _ = i3 (by4 (if k < 4 then x1 else if k < 8 then x2 else if k < 12 then x3 else _) (k % 4)); rw [if_neg q1, if_neg q2, if_pos q3]
              simp (disch := (first | omega | assumption | trivial)) only [li_0, li_1, li_2, li_3, li_4, li_5, li_6, li_7, li_8, li_9, li_10, li_11, li_12, li_13, li_14, li_15, li_16, li_17, li_18, li_19, li_20, li_21, li_22, li_23, li_24, li_25, li_26, li_27, li_28, li_29, li_30, li_31, li_32, li_33, li_34, li_35, li_36, li_37, li_38, li_39, li_40, li_41, li_42, li_43, li_44, li_45, li_46, li_47, li_48, li_49, li_50, li_51, li_52, li_53, li_54, li_55, li_56, li_57, li_58, li_59, li_60, li_63, li_64, li_72, li_76, li_77, li_91, li_93, li_96, li_97, li_99, li_108, li_109, li_120, li_122, li_150, li_200, li_255, li_400, li_426, li_600, li_900, li_999, li_1000, li_1002, li_1003, li_2000, li_2042, li_2043, li_2045, li_10000, li_32767, li_100000, li_1000000, li_m1, li_m1b, ob_s, lt1_e, se_l, se_r, if_true, if_false, true_and, and_true, false_and, and_false, st_at, i3_add, i3_mul, i3_sub, i3_lt, i3_le, i3_eq, i3_nat, m1_eqi, i3_eqm, m1_lti, m1_lei, i3_ltm, i3_lem, i3_decm, i3_dec0, nm_eqm, yr_eqm, mxor0, Nat.zero_add, if_pos, if_neg, eq_self, ne_eq, not_true_eq_false, not_false_eq_true, fM_feed_L23, fM_feed_b76, u1, u3, u5, u6, u2]
            · by_cases q4 : k < 16
              · have u6 : i3 (by4 x4 (k % 4)) = f k := by show _ = i3 (by4 (if k < 4 then x1 else if k < 8 then x2 else if k < 12 then x3 else if k < 16 then x4 else _) (k % 4)); rw [if_neg q1, if_neg q2, if_neg q3, if_pos q4]
                simp (disch := (first | omega | assumption | trivial)) only [li_0, li_1, li_2, li_3, li_4, li_5, li_6, li_7, li_8, li_9, li_10, li_11, li_12, li_13, li_14, li_15, li_16, li_17, li_18, li_19, li_20, li_21, li_22, li_23, li_24, li_25, li_26, li_27, li_28, li_29, li_30, li_31, li_32, li_33, li_34, li_35, li_36, li_37, li_38, li_39, li_40, li_41, li_42, li_43, li_44, li_45, li_46, li_47, li_48, li_49, li_50, li_51, li_52, li_53, li_54, li_55, li_56, li_57, li_58, li_59, li_60, li_63, li_64, li_72, li_76, li_77, li_91, li_93, li_96, li_97, li_99, li_108, li_109, li_120, li_122, li_150, li_200, li_255, li_400, li_426, li_600, li_900, li_999, li_1000, li_1002, li_1003, li_2000, li_2042, li_2043, li_2045, li_10000, li_32767, li_100000, li_1000000, li_m1, li_m1b, ob_s, lt1_e, se_l, se_r, if_true, if_false, true_and, and_true, false_and, and_false, st_at, i3_add, i3_mul, i3_sub, i3_lt, i3_le, i3_eq, i3_nat, m1_eqi, i3_eqm, m1_lti, m1_lei, i3_ltm, i3_lem, i3_decm, i3_dec0, nm_eqm, yr_eqm, mxor0, Nat.zero_add, if_pos, if_neg, eq_self, ne_eq, not_true_eq_false, not_false_eq_true, fM_feed_L23, fM_feed_b76, u1, u3, u5, u6, u2]
              · have u6 : i3 (by4 x5 (k % 4)) = f k := by show _ = i3 (by4 (if k < 4 then x1 else if k < 8 then x2 else if k < 12 then x3 else if k < 16 then x4 else x5) (k % 4)); rw [if_neg q1, if_neg q2, if_neg q3, if_neg q4]
                simp (disch := (first | omega | assumption | trivial)) only [li_0, li_1, li_2, li_3, li_4, li_5, li_6, li_7, li_8, li_9, li_10, li_11, li_12, li_13, li_14, li_15, li_16, li_17, li_18, li_19, li_20, li_21, li_22, li_23, li_24, li_25, li_26, li_27, li_28, li_29, li_30, li_31, li_32, li_33, li_34, li_35, li_36, li_37, li_38, li_39, li_40, li_41, li_42, li_43, li_44, li_45, li_46, li_47, li_48, li_49, li_50, li_51, li_52, li_53, li_54, li_55, li_56, li_57, li_58, li_59, li_60, li_63, li_64, li_72, li_76, li_77, li_91, li_93, li_96, li_97, li_99, li_108, li_109, li_120, li_122, li_150, li_200, li_255, li_400, li_426, li_600, li_900, li_999, li_1000, li_1002, li_1003, li_2000, li_2042, li_2043, li_2045, li_10000, li_32767, li_100000, li_1000000, li_m1, li_m1b, ob_s, lt1_e, se_l, se_r, if_true, if_false, true_and, and_true, false_and, and_false, st_at, i3_add, i3_mul, i3_sub, i3_lt, i3_le, i3_eq, i3_nat, m1_eqi, i3_eqm, m1_lti, m1_lei, i3_ltm, i3_lem, i3_decm, i3_dec0, nm_eqm, yr_eqm, mxor0, Nat.zero_add, if_pos, if_neg, eq_self, ne_eq, not_true_eq_false, not_false_eq_true, fM_feed_L23, fM_feed_b76, u1, u3, u5, u6, u2]
      · simp (disch := (first | omega | assumption | trivial)) only [li_0, li_1, li_2, li_3, li_4, li_5, li_6, li_7, li_8, li_9, li_10, li_11, li_12, li_13, li_14, li_15, li_16, li_17, li_18, li_19, li_20, li_21, li_22, li_23, li_24, li_25, li_26, li_27, li_28, li_29, li_30, li_31, li_32, li_33, li_34, li_35, li_36, li_37, li_38, li_39, li_40, li_41, li_42, li_43, li_44, li_45, li_46, li_47, li_48, li_49, li_50, li_51, li_52, li_53, li_54, li_55, li_56, li_57, li_58, li_59, li_60, li_63, li_64, li_72, li_76, li_77, li_91, li_93, li_96, li_97, li_99, li_108, li_109, li_120, li_122, li_150, li_200, li_255, li_400, li_426, li_600, li_900, li_999, li_1000, li_1002, li_1003, li_2000, li_2042, li_2043, li_2045, li_10000, li_32767, li_100000, li_1000000, li_m1, li_m1b, ob_s, lt1_e, se_l, se_r, if_true, if_false, true_and, and_true, false_and, and_false, st_at, i3_add, i3_mul, i3_sub, i3_lt, i3_le, i3_eq, i3_nat, m1_eqi, i3_eqm, m1_lti, m1_lei, i3_ltm, i3_lem, i3_decm, i3_dec0, nm_eqm, yr_eqm, mxor0, Nat.zero_add, if_pos, if_neg, eq_self, ne_eq, not_true_eq_false, not_false_eq_true, fM_feed_L23]
    have xo : ∀ p i, ¬ p = 16 → ¬ (p = 1 ∧ i = 1) → TX gX len 20 f p i = gX p i := fun p i h1 h2 => by
      unfold TX
      rw [st_at, if_neg h2, wrS_out (fun z => h1 z.1)]
    have mo : ∀ p i, ¬ p = 1 → ¬ (p = 0 ∧ i = 1) → TM g0 len 20 f p i = g0 p i := fun p i h1 h2 => by
      unfold TM
      rw [st_at, if_neg h2, wrS_out (fun z => h1 z.1)]
    obtain ⟨b1, b2, b3⟩ := hR0.2.1
    have hRR : R (TX gX len 20 f) xX (TM g0 len 20 f) xM := by
      refine ⟨⟨len + 20, fun k => if len ≤ k ∧ k < len + 20 then fB (k - len) else b k, q, TX_1 gX len 20 f, TM_1 g0 len 20 f, fun k hk => ?_⟩, ⟨?_, ?_, ?_⟩, ?_, ?_⟩
      · by_cases q2 : len ≤ k ∧ k < len + 20
        · dsimp only
          rw [if_pos q2]
          refine ⟨hfB _, ?_, ?_⟩
          · unfold TX
            rw [st_at, if_neg (by omega)]
            unfold wrS
            rw [if_pos ⟨rfl, q2.1, q2.2⟩]
          · unfold TM
            rw [st_at, if_neg (by omega)]
            unfold wrS
            rw [if_pos ⟨rfl, q2.1, q2.2⟩]
        · dsimp only
          rw [if_neg q2]
          refine ⟨(l4 k hk).1, ?_, ?_⟩
          · unfold TX
            rw [st_at, if_neg (by omega), wrS_out (fun z => q2 z.2)]
            exact (l4 k hk).2.1
          · unfold TM
            rw [st_at, if_neg (by omega), wrS_out (fun z => q2 z.2)]
            exact (l4 k hk).2.2
      · rw [xo 1 7 (by omega) (by omega), mo 0 3 (by omega) (by omega)]; exact b1
      · rw [xo 0 17 (by omega) (by omega), mo 2 0 (by omega) (by omega)]; exact b2
      · rw [xo 0 18 (by omega) (by omega), mo 2 1 (by omega) (by omega)]; exact b3
      · unfold R4
        rw [xo 0 16 (by omega) (by omega), mo 0 33 (by omega) (by omega)]
        exact hR0.2.2.1
      · exact hR0.2.2.2.fr5 (fun p i h => xo p i (by omega) (by omega)) (fun p i h => mo p i (by omega) (by omega))
    refine ⟨(i3 (len + 20), TX gX len 20 f), (i3 (len + 20), TM g0 len 20 f), ?_, ?_, hRR, rfl⟩
    · have tt := TX_1 gX len 20 f
      have l2' : gX 1 1 = i3 len := l2
      simp (disch := (first | omega | assumption | trivial)) only [li_0, li_1, li_2, li_3, li_4, li_5, li_6, li_7, li_8, li_9, li_10, li_11, li_12, li_13, li_14, li_15, li_16, li_17, li_18, li_19, li_20, li_21, li_22, li_23, li_24, li_25, li_26, li_27, li_28, li_29, li_30, li_31, li_32, li_33, li_34, li_35, li_36, li_37, li_38, li_39, li_40, li_41, li_42, li_43, li_44, li_45, li_46, li_47, li_48, li_49, li_50, li_51, li_52, li_53, li_54, li_55, li_56, li_57, li_58, li_59, li_60, li_63, li_64, li_72, li_76, li_77, li_91, li_93, li_96, li_97, li_99, li_108, li_109, li_120, li_122, li_150, li_200, li_255, li_400, li_426, li_600, li_900, li_999, li_1000, li_1002, li_1003, li_2000, li_2042, li_2043, li_2045, li_10000, li_32767, li_100000, li_1000000, li_m1, li_m1b, ob_s, lt1_e, se_l, se_r, if_true, if_false, true_and, and_true, false_and, and_false, st_at, i3_add, i3_mul, i3_sub, i3_lt, i3_le, i3_eq, i3_nat, m1_eqi, i3_eqm, m1_lti, m1_lei, i3_ltm, i3_lem, i3_decm, i3_dec0, nm_eqm, yr_eqm, mxor0, Nat.zero_add, if_pos, if_neg, eq_self, ne_eq, not_true_eq_false, not_false_eq_true, fX_feed, fX_Text_takesTwenty, l2', a1, a2, a3, a4, a5, tt]
    · have tt := TM_1 g0 len 20 f
      simp (disch := (first | omega | assumption | trivial)) only [li_0, li_1, li_2, li_3, li_4, li_5, li_6, li_7, li_8, li_9, li_10, li_11, li_12, li_13, li_14, li_15, li_16, li_17, li_18, li_19, li_20, li_21, li_22, li_23, li_24, li_25, li_26, li_27, li_28, li_29, li_30, li_31, li_32, li_33, li_34, li_35, li_36, li_37, li_38, li_39, li_40, li_41, li_42, li_43, li_44, li_45, li_46, li_47, li_48, li_49, li_50, li_51, li_52, li_53, li_54, li_55, li_56, li_57, li_58, li_59, li_60, li_63, li_64, li_72, li_76, li_77, li_91, li_93, li_96, li_97, li_99, li_108, li_109, li_120, li_122, li_150, li_200, li_255, li_400, li_426, li_600, li_900, li_999, li_1000, li_1002, li_1003, li_2000, li_2042, li_2043, li_2045, li_10000, li_32767, li_100000, li_1000000, li_m1, li_m1b, ob_s, lt1_e, se_l, se_r, if_true, if_false, true_and, and_true, false_and, and_false, st_at, i3_add, i3_mul, i3_sub, i3_lt, i3_le, i3_eq, i3_nat, m1_eqi, i3_eqm, m1_lti, m1_lei, i3_ltm, i3_lem, i3_decm, i3_dec0, nm_eqm, yr_eqm, mxor0, Nat.zero_add, if_pos, if_neg, eq_self, ne_eq, not_true_eq_false, not_false_eq_true, fM_feed, hg0.symm, fM_feed_b23, l3', eM, tt]
  · refine ⟨(m1, gX), (m1, g0), ?_, ?_, hR0, rfl⟩
    · have l2' : gX 1 1 = i3 len := l2
      simp (disch := (first | omega | assumption | trivial)) only [li_0, li_1, li_2, li_3, li_4, li_5, li_6, li_7, li_8, li_9, li_10, li_11, li_12, li_13, li_14, li_15, li_16, li_17, li_18, li_19, li_20, li_21, li_22, li_23, li_24, li_25, li_26, li_27, li_28, li_29, li_30, li_31, li_32, li_33, li_34, li_35, li_36, li_37, li_38, li_39, li_40, li_41, li_42, li_43, li_44, li_45, li_46, li_47, li_48, li_49, li_50, li_51, li_52, li_53, li_54, li_55, li_56, li_57, li_58, li_59, li_60, li_63, li_64, li_72, li_76, li_77, li_91, li_93, li_96, li_97, li_99, li_108, li_109, li_120, li_122, li_150, li_200, li_255, li_400, li_426, li_600, li_900, li_999, li_1000, li_1002, li_1003, li_2000, li_2042, li_2043, li_2045, li_10000, li_32767, li_100000, li_1000000, li_m1, li_m1b, ob_s, lt1_e, se_l, se_r, if_true, if_false, true_and, and_true, false_and, and_false, st_at, i3_add, i3_mul, i3_sub, i3_lt, i3_le, i3_eq, i3_nat, m1_eqi, i3_eqm, m1_lti, m1_lei, i3_ltm, i3_lem, i3_decm, i3_dec0, nm_eqm, yr_eqm, mxor0, Nat.zero_add, if_pos, if_neg, eq_self, ne_eq, not_true_eq_false, not_false_eq_true, fX_feed, fX_Text_takesTwenty, l2']
    · simp (disch := (first | omega | assumption | trivial)) only [li_0, li_1, li_2, li_3, li_4, li_5, li_6, li_7, li_8, li_9, li_10, li_11, li_12, li_13, li_14, li_15, li_16, li_17, li_18, li_19, li_20, li_21, li_22, li_23, li_24, li_25, li_26, li_27, li_28, li_29, li_30, li_31, li_32, li_33, li_34, li_35, li_36, li_37, li_38, li_39, li_40, li_41, li_42, li_43, li_44, li_45, li_46, li_47, li_48, li_49, li_50, li_51, li_52, li_53, li_54, li_55, li_56, li_57, li_58, li_59, li_60, li_63, li_64, li_72, li_76, li_77, li_91, li_93, li_96, li_97, li_99, li_108, li_109, li_120, li_122, li_150, li_200, li_255, li_400, li_426, li_600, li_900, li_999, li_1000, li_1002, li_1003, li_2000, li_2042, li_2043, li_2045, li_10000, li_32767, li_100000, li_1000000, li_m1, li_m1b, ob_s, lt1_e, se_l, se_r, if_true, if_false, true_and, and_true, false_and, and_false, st_at, i3_add, i3_mul, i3_sub, i3_lt, i3_le, i3_eq, i3_nat, m1_eqi, i3_eqm, m1_lti, m1_lei, i3_ltm, i3_lem, i3_decm, i3_dec0, nm_eqm, yr_eqm, mxor0, Nat.zero_add, if_pos, if_neg, eq_self, ne_eq, not_true_eq_false, not_false_eq_true, fM_feed, hg0.symm, l3']
