theorem bp_63 : (Int8.ofInt (63)).toInt32 = 63 := by decide
theorem bp_64 : (Int8.ofInt (64)).toInt32 = 64 := by decide
theorem bp_76 : (Int8.ofInt (76)).toInt32 = 76 := by decide
theorem bp_77 : (Int8.ofInt (77)).toInt32 = 77 := by decide
theorem bp_108 : (Int8.ofInt (108)).toInt32 = 108 := by decide
theorem bp_109 : (Int8.ofInt (109)).toInt32 = 109 := by decide
theorem bp_120 : (Int8.ofInt (120)).toInt32 = 120 := by decide
theorem sp_400 : (Int16.ofInt (400)).toInt32 = 400 := by decide
theorem sp_426 : (Int16.ofInt (426)).toInt32 = 426 := by decide
theorem sp_1000 : (Int16.ofInt (1000)).toInt32 = 1000 := by decide
theorem sp_1002 : (Int16.ofInt (1002)).toInt32 = 1002 := by decide
theorem sp_1003 : (Int16.ofInt (1003)).toInt32 = 1003 := by decide
theorem sp_2000 : (Int16.ofInt (2000)).toInt32 = 2000 := by decide
theorem sp_2042 : (Int16.ofInt (2042)).toInt32 = 2042 := by decide
theorem sp_2043 : (Int16.ofInt (2043)).toInt32 = 2043 := by decide
theorem sp_2045 : (Int16.ofInt (2045)).toInt32 = 2045 := by decide
theorem sp_10000 : (Int16.ofInt (10000)).toInt32 = 10000 := by decide
theorem ii_m8 (u : Int32) : u + Int32.ofInt (-8) = u + (-8 : Int32) := by rw [show Int32.ofInt (-8) = -8 from by decide]
theorem lnlX_15 : lnlW shX 15 = 13 := by decide
theorem lnX_46 : lenW shX 46 = 72 := by decide
theorem tab_0_2 (u : Int32) (c0 : ¬ u = 0) (c1 : ¬ u = 1) (c2 : ¬ u = 2) : u.toInt < 0 ∨ 2 < u.toInt := by
  have e0 : u.toInt ≠ 0 := fun q => c0 (Int32.toInt_inj.mp (q.trans (by decide)))
  have e1 : u.toInt ≠ 1 := fun q => c1 (Int32.toInt_inj.mp (q.trans (by decide)))
  have e2 : u.toInt ≠ 2 := fun q => c2 (Int32.toInt_inj.mp (q.trans (by decide)))
  omega
theorem tab_0_4 (u : Int32) (c0 : ¬ u = 0) (c1 : ¬ u = 1) (c2 : ¬ u = 2) (c3 : ¬ u = 3) (c4 : ¬ u = 4) : u.toInt < 0 ∨ 4 < u.toInt := by
  have e0 : u.toInt ≠ 0 := fun q => c0 (Int32.toInt_inj.mp (q.trans (by decide)))
  have e1 : u.toInt ≠ 1 := fun q => c1 (Int32.toInt_inj.mp (q.trans (by decide)))
  have e2 : u.toInt ≠ 2 := fun q => c2 (Int32.toInt_inj.mp (q.trans (by decide)))
  have e3 : u.toInt ≠ 3 := fun q => c3 (Int32.toInt_inj.mp (q.trans (by decide)))
  have e4 : u.toInt ≠ 4 := fun q => c4 (Int32.toInt_inj.mp (q.trans (by decide)))
  omega
theorem tab_37_47 (u : Int32) (c37 : ¬ u = 37) (c38 : ¬ u = 38) (c39 : ¬ u = 39) (c40 : ¬ u = 40) (c41 : ¬ u = 41) (c42 : ¬ u = 42) (c43 : ¬ u = 43) (c44 : ¬ u = 44) (c45 : ¬ u = 45) (c46 : ¬ u = 46) (c47 : ¬ u = 47) : u.toInt < 37 ∨ 47 < u.toInt := by
  have e37 : u.toInt ≠ 37 := fun q => c37 (Int32.toInt_inj.mp (q.trans (by decide)))
  have e38 : u.toInt ≠ 38 := fun q => c38 (Int32.toInt_inj.mp (q.trans (by decide)))
  have e39 : u.toInt ≠ 39 := fun q => c39 (Int32.toInt_inj.mp (q.trans (by decide)))
  have e40 : u.toInt ≠ 40 := fun q => c40 (Int32.toInt_inj.mp (q.trans (by decide)))
  have e41 : u.toInt ≠ 41 := fun q => c41 (Int32.toInt_inj.mp (q.trans (by decide)))
  have e42 : u.toInt ≠ 42 := fun q => c42 (Int32.toInt_inj.mp (q.trans (by decide)))
  have e43 : u.toInt ≠ 43 := fun q => c43 (Int32.toInt_inj.mp (q.trans (by decide)))
  have e44 : u.toInt ≠ 44 := fun q => c44 (Int32.toInt_inj.mp (q.trans (by decide)))
  have e45 : u.toInt ≠ 45 := fun q => c45 (Int32.toInt_inj.mp (q.trans (by decide)))
  have e46 : u.toInt ≠ 46 := fun q => c46 (Int32.toInt_inj.mp (q.trans (by decide)))
  have e47 : u.toInt ≠ 47 := fun q => c47 (Int32.toInt_inj.mp (q.trans (by decide)))
  omega
theorem lk_Law_joined_1 (u : Int32) (c0 : ¬ u = 37) (c1 : ¬ u = 42) (c2 : ¬ u = 43) (c3 : ¬ u = 45) (c4 : ¬ u = 47) (c5 : ¬ u = 76) : Op.lookupswitch.offset (#[(37, 83), (42, 67), (43, 59), (45, 63), (47, 71), (76, 95)] : Array (Int × Int)).toList 106 u.toInt = 106 := by
  have e0 : ¬ u.toInt = 37 := fun q => c0 (Int32.toInt_inj.mp (q.trans (by decide)))
  have f0 : ¬ (37 : Int) = u.toInt := fun q => e0 q.symm
  have e1 : ¬ u.toInt = 42 := fun q => c1 (Int32.toInt_inj.mp (q.trans (by decide)))
  have f1 : ¬ (42 : Int) = u.toInt := fun q => e1 q.symm
  have e2 : ¬ u.toInt = 43 := fun q => c2 (Int32.toInt_inj.mp (q.trans (by decide)))
  have f2 : ¬ (43 : Int) = u.toInt := fun q => e2 q.symm
  have e3 : ¬ u.toInt = 45 := fun q => c3 (Int32.toInt_inj.mp (q.trans (by decide)))
  have f3 : ¬ (45 : Int) = u.toInt := fun q => e3 q.symm
  have e4 : ¬ u.toInt = 47 := fun q => c4 (Int32.toInt_inj.mp (q.trans (by decide)))
  have f4 : ¬ (47 : Int) = u.toInt := fun q => e4 q.symm
  have e5 : ¬ u.toInt = 76 := fun q => c5 (Int32.toInt_inj.mp (q.trans (by decide)))
  have f5 : ¬ (76 : Int) = u.toInt := fun q => e5 q.symm
  simp [Op.lookupswitch.offset, e0, f0, e1, f1, e2, f2, e3, f3, e4, f4, e5, f5]
theorem lk_ahead_60 (u : Int32) (c0 : ¬ u = 0) (c1 : ¬ u = 1) : Op.lookupswitch.offset (#[(0, 28), (1, 36)] : Array (Int × Int)).toList 44 u.toInt = 44 := by
  have e0 : ¬ u.toInt = 0 := fun q => c0 (Int32.toInt_inj.mp (q.trans (by decide)))
  have f0 : ¬ (0 : Int) = u.toInt := fun q => e0 q.symm
  have e1 : ¬ u.toInt = 1 := fun q => c1 (Int32.toInt_inj.mp (q.trans (by decide)))
  have f1 : ¬ (1 : Int) = u.toInt := fun q => e1 q.symm
  simp [Op.lookupswitch.offset, e0, f0, e1, f1]
theorem selR {α β γ : Type} {f : α → γ} {g : β → γ} {v : β} {o : γ} (h : Sum.elim f g (Sum.inr v) = o) : g v = o := h
def fX_J_length (i : Nat) : Int32 := Int32.ofNat (strB i).length
def fX_J_charAt (i : Nat) (k : Int32) : Option Int32 := if ¬ (k < 0 ∨ (strB i).length ≤ k.toNatClampNeg) then some ((strB i).getD k.toNatClampNeg 0) else none
def rmX_J_length : Room := { frames := 3, cells := 0, slots := 0, locals := 60 }
def rmX_J_charAt : Room := { frames := 6, cells := 0, slots := 0, locals := 140 }
