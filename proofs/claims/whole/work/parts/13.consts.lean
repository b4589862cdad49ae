theorem ic_m1 : Int32.ofInt (-1) = -1 := by decide
theorem ic_0 : Int32.ofInt (0) = 0 := by decide
theorem ic_1 : Int32.ofInt (1) = 1 := by decide
theorem ic_2 : Int32.ofInt (2) = 2 := by decide
theorem ic_3 : Int32.ofInt (3) = 3 := by decide
theorem ic_4 : Int32.ofInt (4) = 4 := by decide
theorem ic_5 : Int32.ofInt (5) = 5 := by decide
theorem bp_m20 : (Int8.ofInt (-20)).toInt32 = -20 := by decide
theorem bp_6 : (Int8.ofInt (6)).toInt32 = 6 := by decide
theorem bp_7 : (Int8.ofInt (7)).toInt32 = 7 := by decide
theorem bp_8 : (Int8.ofInt (8)).toInt32 = 8 := by decide
theorem bp_9 : (Int8.ofInt (9)).toInt32 = 9 := by decide
theorem bp_10 : (Int8.ofInt (10)).toInt32 = 10 := by decide
theorem bp_11 : (Int8.ofInt (11)).toInt32 = 11 := by decide
theorem bp_12 : (Int8.ofInt (12)).toInt32 = 12 := by decide
theorem bp_13 : (Int8.ofInt (13)).toInt32 = 13 := by decide
theorem bp_14 : (Int8.ofInt (14)).toInt32 = 14 := by decide
theorem bp_15 : (Int8.ofInt (15)).toInt32 = 15 := by decide
theorem bp_16 : (Int8.ofInt (16)).toInt32 = 16 := by decide
theorem bp_18 : (Int8.ofInt (18)).toInt32 = 18 := by decide
theorem bp_19 : (Int8.ofInt (19)).toInt32 = 19 := by decide
theorem bp_20 : (Int8.ofInt (20)).toInt32 = 20 := by decide
theorem bp_23 : (Int8.ofInt (23)).toInt32 = 23 := by decide
theorem bp_24 : (Int8.ofInt (24)).toInt32 = 24 := by decide
theorem bp_25 : (Int8.ofInt (25)).toInt32 = 25 := by decide
theorem bp_26 : (Int8.ofInt (26)).toInt32 = 26 := by decide
theorem bp_27 : (Int8.ofInt (27)).toInt32 = 27 := by decide
theorem bp_32 : (Int8.ofInt (32)).toInt32 = 32 := by decide
theorem bp_37 : (Int8.ofInt (37)).toInt32 = 37 := by decide
theorem bp_40 : (Int8.ofInt (40)).toInt32 = 40 := by decide
theorem bp_41 : (Int8.ofInt (41)).toInt32 = 41 := by decide
theorem bp_42 : (Int8.ofInt (42)).toInt32 = 42 := by decide
theorem bp_43 : (Int8.ofInt (43)).toInt32 = 43 := by decide
theorem bp_44 : (Int8.ofInt (44)).toInt32 = 44 := by decide
theorem bp_45 : (Int8.ofInt (45)).toInt32 = 45 := by decide
theorem bp_47 : (Int8.ofInt (47)).toInt32 = 47 := by decide
theorem bp_48 : (Int8.ofInt (48)).toInt32 = 48 := by decide
theorem bp_57 : (Int8.ofInt (57)).toInt32 = 57 := by decide
theorem bp_59 : (Int8.ofInt (59)).toInt32 = 59 := by decide
theorem bp_60 : (Int8.ofInt (60)).toInt32 = 60 := by decide
theorem bp_91 : (Int8.ofInt (91)).toInt32 = 91 := by decide
theorem bp_93 : (Int8.ofInt (93)).toInt32 = 93 := by decide
theorem bp_96 : (Int8.ofInt (96)).toInt32 = 96 := by decide
theorem bp_97 : (Int8.ofInt (97)).toInt32 = 97 := by decide
theorem bp_99 : (Int8.ofInt (99)).toInt32 = 99 := by decide
theorem bp_122 : (Int8.ofInt (122)).toInt32 = 122 := by decide
theorem sp_150 : (Int16.ofInt (150)).toInt32 = 150 := by decide
theorem sp_200 : (Int16.ofInt (200)).toInt32 = 200 := by decide
theorem sp_255 : (Int16.ofInt (255)).toInt32 = 255 := by decide
theorem sp_600 : (Int16.ofInt (600)).toInt32 = 600 := by decide
theorem sp_900 : (Int16.ofInt (900)).toInt32 = 900 := by decide
theorem sp_999 : (Int16.ofInt (999)).toInt32 = 999 := by decide
theorem sp_12345 : (Int16.ofInt (12345)).toInt32 = 12345 := by decide
theorem sp_32767 : (Int16.ofInt (32767)).toInt32 = 32767 := by decide
theorem lc_0 : Int64.ofNat ((0 : Fin 2) : Nat) = 0 := by decide
theorem lc_1 : Int64.ofNat ((1 : Fin 2) : Nat) = 1 := by decide
theorem ii_m1 (u : Int32) : u + Int32.ofInt (-1) = u + (-1 : Int32) := by rw [show Int32.ofInt (-1) = -1 from by decide]
theorem ii_1 (u : Int32) : u + Int32.ofInt (1) = u + (1 : Int32) := by rw [show Int32.ofInt (1) = 1 from by decide]
theorem cl_0 : (0 : Int32).toNatClampNeg = 0 := by decide
theorem cl_1 : (1 : Int32).toNatClampNeg = 1 := by decide
theorem cl_2 : (2 : Int32).toNatClampNeg = 2 := by decide
theorem cl_3 : (3 : Int32).toNatClampNeg = 3 := by decide
theorem cl_4 : (4 : Int32).toNatClampNeg = 4 := by decide
theorem cl_5 : (5 : Int32).toNatClampNeg = 5 := by decide
theorem cl_6 : (6 : Int32).toNatClampNeg = 6 := by decide
theorem cl_7 : (7 : Int32).toNatClampNeg = 7 := by decide
theorem cl_24 : (24 : Int32).toNatClampNeg = 24 := by decide
theorem cl_25 : (25 : Int32).toNatClampNeg = 25 := by decide
theorem ln_1 : lenW shM 1 = 600 := by decide
theorem ln_2 : lenW shM 2 = 2 := by decide
theorem ln_3 : lenW shM 3 = 2 := by decide
theorem ln_4 : lenW shM 4 = 2 := by decide
theorem ln_7 : lenW shM 7 = 8 := by decide
theorem ln_8 : lenW shM 8 = 8 := by decide
theorem ln_13 : lenW shM 13 = 160 := by decide
theorem ln_14 : lenW shM 14 = 8 := by decide
theorem ln_16 : lenW shM 16 = 26 := by decide
theorem ln_17 : lenW shM 17 = 26 := by decide
theorem ln_20 : lenW shM 20 = 8 := by decide
theorem ln_21 : lenW shM 21 = 8 := by decide
theorem ln_22 : lenW shM 22 = 8 := by decide
theorem ln_23 : lenW shM 23 = 8 := by decide
theorem ln_24 : lenW shM 24 = 9 := by decide
theorem lnl_25 : lnlW shM 25 = 14 := by decide
theorem lg_5 : lngW shM 5 = 8 := by decide
theorem lg_6 : lngW shM 6 = 8 := by decide
theorem lg_9 : lngW shM 9 = 160 := by decide
theorem lg_10 : lngW shM 10 = 160 := by decide
theorem lg_11 : lngW shM 11 = 8 := by decide
theorem lg_12 : lngW shM 12 = 8 := by decide
theorem lg_15 : lngW shM 15 = 80 := by decide
theorem lg_18 : lngW shM 18 = 16 := by decide
theorem lg_19 : lngW shM 19 = 3 := by decide
theorem tab_0_3 (u : Int32) (c0 : ¬ u = 0) (c1 : ¬ u = 1) (c2 : ¬ u = 2) (c3 : ¬ u = 3) : u.toInt < 0 ∨ 3 < u.toInt := by
  have e0 : u.toInt ≠ 0 := fun q => c0 (Int32.toInt_inj.mp (q.trans (by decide)))
  have e1 : u.toInt ≠ 1 := fun q => c1 (Int32.toInt_inj.mp (q.trans (by decide)))
  have e2 : u.toInt ≠ 2 := fun q => c2 (Int32.toInt_inj.mp (q.trans (by decide)))
  have e3 : u.toInt ≠ 3 := fun q => c3 (Int32.toInt_inj.mp (q.trans (by decide)))
  omega
theorem tab_0_6 (u : Int32) (c0 : ¬ u = 0) (c1 : ¬ u = 1) (c2 : ¬ u = 2) (c3 : ¬ u = 3) (c4 : ¬ u = 4) (c5 : ¬ u = 5) (c6 : ¬ u = 6) : u.toInt < 0 ∨ 6 < u.toInt := by
  have e0 : u.toInt ≠ 0 := fun q => c0 (Int32.toInt_inj.mp (q.trans (by decide)))
  have e1 : u.toInt ≠ 1 := fun q => c1 (Int32.toInt_inj.mp (q.trans (by decide)))
  have e2 : u.toInt ≠ 2 := fun q => c2 (Int32.toInt_inj.mp (q.trans (by decide)))
  have e3 : u.toInt ≠ 3 := fun q => c3 (Int32.toInt_inj.mp (q.trans (by decide)))
  have e4 : u.toInt ≠ 4 := fun q => c4 (Int32.toInt_inj.mp (q.trans (by decide)))
  have e5 : u.toInt ≠ 5 := fun q => c5 (Int32.toInt_inj.mp (q.trans (by decide)))
  have e6 : u.toInt ≠ 6 := fun q => c6 (Int32.toInt_inj.mp (q.trans (by decide)))
  omega
theorem tab_0_10 (u : Int32) (c0 : ¬ u = 0) (c1 : ¬ u = 1) (c2 : ¬ u = 2) (c3 : ¬ u = 3) (c4 : ¬ u = 4) (c5 : ¬ u = 5) (c6 : ¬ u = 6) (c7 : ¬ u = 7) (c8 : ¬ u = 8) (c9 : ¬ u = 9) (c10 : ¬ u = 10) : u.toInt < 0 ∨ 10 < u.toInt := by
  have e0 : u.toInt ≠ 0 := fun q => c0 (Int32.toInt_inj.mp (q.trans (by decide)))
  have e1 : u.toInt ≠ 1 := fun q => c1 (Int32.toInt_inj.mp (q.trans (by decide)))
  have e2 : u.toInt ≠ 2 := fun q => c2 (Int32.toInt_inj.mp (q.trans (by decide)))
  have e3 : u.toInt ≠ 3 := fun q => c3 (Int32.toInt_inj.mp (q.trans (by decide)))
  have e4 : u.toInt ≠ 4 := fun q => c4 (Int32.toInt_inj.mp (q.trans (by decide)))
  have e5 : u.toInt ≠ 5 := fun q => c5 (Int32.toInt_inj.mp (q.trans (by decide)))
  have e6 : u.toInt ≠ 6 := fun q => c6 (Int32.toInt_inj.mp (q.trans (by decide)))
  have e7 : u.toInt ≠ 7 := fun q => c7 (Int32.toInt_inj.mp (q.trans (by decide)))
  have e8 : u.toInt ≠ 8 := fun q => c8 (Int32.toInt_inj.mp (q.trans (by decide)))
  have e9 : u.toInt ≠ 9 := fun q => c9 (Int32.toInt_inj.mp (q.trans (by decide)))
  have e10 : u.toInt ≠ 10 := fun q => c10 (Int32.toInt_inj.mp (q.trans (by decide)))
  omega
theorem tab_2_7 (u : Int32) (c2 : ¬ u = 2) (c3 : ¬ u = 3) (c4 : ¬ u = 4) (c5 : ¬ u = 5) (c6 : ¬ u = 6) (c7 : ¬ u = 7) : u.toInt < 2 ∨ 7 < u.toInt := by
  have e2 : u.toInt ≠ 2 := fun q => c2 (Int32.toInt_inj.mp (q.trans (by decide)))
  have e3 : u.toInt ≠ 3 := fun q => c3 (Int32.toInt_inj.mp (q.trans (by decide)))
  have e4 : u.toInt ≠ 4 := fun q => c4 (Int32.toInt_inj.mp (q.trans (by decide)))
  have e5 : u.toInt ≠ 5 := fun q => c5 (Int32.toInt_inj.mp (q.trans (by decide)))
  have e6 : u.toInt ≠ 6 := fun q => c6 (Int32.toInt_inj.mp (q.trans (by decide)))
  have e7 : u.toInt ≠ 7 := fun q => c7 (Int32.toInt_inj.mp (q.trans (by decide)))
  omega
def rmR (fb lb st d : Nat) : Room := { frames := fb + d, cells := 0, slots := 0, locals := lb + st * d }
def fuel : Nat := 1000000
def lt1 {α β : Type} (a : α) (f : α → β) : β := f a
theorem ltb {α β : Type} {a : α} {f : α → β} {o : β} (h : lt1 a f = o) : ∃ r, a = r ∧ f r = o := ⟨a, rfl, h⟩
