def fX_Book_clear_L7 (th : Nat) : (Int32 × St) → Option ((Int32 × St) ⊕ (St)) := fun ⟨x1, g⟩ =>
  if (8 : Int32) ≤ x1 then
    (some (.inr g))
  else
    (if ¬ (x1 < 0 ∨ 8 ≤ x1.toNatClampNeg) then (some (.inl ((x1 + (1 : Int32)), (st g (rX th 0) x1.toNatClampNeg (-1 : Int32))))) else none)
def fX_Book_clear_b7 (th : Nat) (x1 : Int32) (g : St) : Option (St) :=
  (lp (fX_Book_clear_L7 th) fuel (x1, g)).bind (fun g => some g)
def fX_Book_clear (th : Nat) (g : St) : Option (St) :=
  fX_Book_clear_b7 th (0 : Int32) (st g th 1 (0 : Int32))
def rmX_Book_clear : Room := { frames := 0, cells := 0, slots := 0, locals := 0 }
abbrev GcX_Book_clear (l : Launch) (D : va_G) (T : cT) (ad : Nat → Nat) (Γ : Cxt) (o : St) (xo : Sl) (x : Sl) (g : St) (pc : Nat) (lv : List (Nat × Value)) (stk : List Value) : Prop := Gj l shX D T ad 2 (rmX_Book_clear) 0 0 Γ (MQ Γ.below (va_Qv (eqV o xo) (wPost shX D T ad Γ.A) Γ.A) Γ.args Γ.s 0 0 Γ.A) x g pc lv stk
set_option maxRecDepth 100000 in
set_option maxHeartbeats 4000000 in
theorem cX_Book_clear (l : Launch) (D : va_G) (T : cT) (ad : Nat → Nat) (sK sV : Nat → Nat) (xo : Sl) (g : St) (th : Nat) (hth : isBook th) (o : St) (h : fX_Book_clear th g = some o) (sz : Nat) : Met l yX0_clear wX_Book_clear (rmX_Book_clear) (va_Pc [.ref (ad th)] (xPre shX D T ad sK sV xo g sz)) (va_Qv (eqV o xo) (wPost shX D T ad (aW shX T ad xo g sz)) (aW shX T ad xo g sz)) 0 0 (aW shX T ad xo g sz) := by
  refine g_startx (Qc := fun A => va_Qv (eqV o xo) (wPost shX D T ad A) A) (by decide +kernel) rfl rfl (Nat.le_of_ble_eq_true rfl) (lv := [(0, .ref (ad th))]) rfl (fun Γ Y => ?_)
  have C := Y.1
  show GcX_Book_clear l D T ad Γ o xo xo g 0 [(0, .ref (ad th))] []
  have J7 : ∀ (x1 : Int32) (g : St), fX_Book_clear_b7 th x1 g = some o → GcX_Book_clear l D T ad Γ o xo xo g 7 [(0, .ref (ad th)), (1, .int x1)] [] := by
    intro x1 g h
    obtain ⟨g, ht, h⟩ := bnd h
    refine lp_run (P := fun t : Int32 × St => match t with | (x1, g) => GcX_Book_clear l D T ad Γ o xo xo g 7 [(0, .ref (ad th)), (1, .int x1)] []) (E := fun g : St => GcX_Book_clear l D T ad Γ o xo xo g 29 [] []) ?_ _ _ _ ht ?_
    · rintro ⟨x1, g⟩ z h Kt Ke
      show GcX_Book_clear l D T ad Γ o xo xo g 7 [(0, .ref (ad th)), (1, .int x1)] []
      refine g_iload_n C dX0_clear_7 rfl 1 rfl ?_
      refine g_aload_n C dX0_clear_8 rfl 0 rfl ?_
      refine gX_get_X0_9 C (ob_Book hth) (rf_Book_0 hth) dX0_clear_9 ?_
      refine g_alen (n := 8) (v := (8 : Int32)) C (ln_Book_0 hth) (Nat.le_of_ble_eq_true rfl) rfl dX0_clear_12 ?_
      refine g_icmp_ge C 29 dX0_clear_13 (by decide) (fun c13 => ?_) (fun c13 => ?_)
      · have h := iteT c13 h
        exact g_sub [] rfl (Ke _ (Option.some.inj h).symm)
      · have h := iteF c13 h
        refine g_aload_n C dX0_clear_16 rfl 0 rfl ?_
        refine gX_get_X0_9 C (ob_Book hth) (rf_Book_0 hth) dX0_clear_17 ?_
        refine g_iload_n C dX0_clear_20 rfl 1 rfl ?_
        refine g_iconst C dX0_clear_21 ic_m1 ?_
        obtain ⟨hi22, h⟩ := grd h
        refine g_iast (n := 8) (q := x1.toNatClampNeg) C (ln_Book_0 hth) hi22 rfl dX0_clear_22 ?_
        refine g_iinc (lv' := [(1, .int (x1 + (1 : Int32))), (0, .ref (ad th))]) C dX0_clear_23 1 rfl (ii_1 _) (Nat.le_of_ble_eq_true rfl) rfl ?_
        refine g_goto (tgt := 7) C dX0_clear_26 (by decide) ?_
        exact g_sub [1, 0] rfl (Kt _ (Option.some.inj h).symm)
    · show GcX_Book_clear l D T ad Γ o xo xo g 29 [] []
      obtain rfl := Option.some.inj h
      exact g_vret C rfl rfl dX0_clear_29
  refine g_aload_n C dX0_clear_0 rfl 0 rfl ?_
  refine g_iconst C dX0_clear_1 ic_0 ?_
  refine gX_put_X0_15 C (ob_Book hth) (rf_Book_1 hth) dX0_clear_2 ?_
  refine g_iconst C dX0_clear_5 ic_0 ?_
  refine g_istore_n (lv' := [(1, .int (0 : Int32)), (0, .ref (ad th))]) C dX0_clear_6 rfl (Nat.le_of_ble_eq_true rfl) rfl ?_
  exact g_sub [1, 0] rfl (J7 (0 : Int32) (st g th 1 (0 : Int32)) h)
def fX_Rows_at (x0 : Nat) (x1 : Int32) (g : St) : Option (Int32) :=
  if x1 < 0 then
    (some (0 : Int32))
  else
    (if 0 < (lenW shX x0) then (if (Int32.ofNat ((lenW shX x0))) ≤ x1 then
    (some (0 : Int32))
  else
    (if ¬ (x1 < 0 ∨ (lenW shX x0) ≤ x1.toNatClampNeg) then (some (g x0 x1.toNatClampNeg)) else none)) else none)
def rmX_Rows_at : Room := { frames := 0, cells := 0, slots := 0, locals := 0 }
abbrev GcX_Rows_at (l : Launch) (D : va_G) (T : cT) (ad : Nat → Nat) (Γ : Cxt) (o : Int32) (xo : Sl) (g0 : St) (x : Sl) (g : St) (pc : Nat) (lv : List (Nat × Value)) (stk : List Value) : Prop := Gj l shX D T ad 2 (rmX_Rows_at) 0 0 Γ (MQ Γ.below (va_Qi (eqI o g0 xo) (wPost shX D T ad Γ.A) Γ.A) Γ.args Γ.s 0 0 Γ.A) x g pc lv stk
set_option maxRecDepth 100000 in
set_option maxHeartbeats 4000000 in
theorem cX_Rows_at (l : Launch) (D : va_G) (T : cT) (ad : Nat → Nat) (sK sV : Nat → Nat) (xo : Sl) (g : St) (x0 : Nat) (x1 : Int32) (o : Int32) (h : fX_Rows_at x0 x1 g = some o) (sz : Nat) : Met l yX6_at wX_Rows_at (rmX_Rows_at) (va_Pc [.ref (ad x0), .int x1] (xPre shX D T ad sK sV xo g sz)) (va_Qi (eqI o g xo) (wPost shX D T ad (aW shX T ad xo g sz)) (aW shX T ad xo g sz)) 0 0 (aW shX T ad xo g sz) := by
  refine g_startx (Qc := fun A => va_Qi (eqI o g xo) (wPost shX D T ad A) A) (by decide +kernel) rfl rfl (Nat.le_of_ble_eq_true rfl) (lv := [(0, .ref (ad x0)), (1, .int x1)]) rfl (fun Γ Y => ?_)
  have C := Y.1
  show GcX_Rows_at l D T ad Γ o xo g xo g 0 [(0, .ref (ad x0)), (1, .int x1)] []
  refine g_aload_n C dX6_at_0 rfl 0 rfl ?_
  refine g_ifnull C dX6_at_1 ?_
  refine g_iload_n C dX6_at_4 rfl 1 rfl ?_
  refine g_if_lt C 20 dX6_at_5 (by decide) (fun c5 => ?_) (fun c5 => ?_)
  · have h := iteT c5 h
    refine g_iconst C dX6_at_20 ic_0 ?_
    obtain rfl := Option.some.inj h
    exact g_iret C rfl rfl rfl dX6_at_21
  · have h := iteF c5 h
    refine g_iload_n C dX6_at_8 rfl 1 rfl ?_
    refine g_aload_n C dX6_at_9 rfl 0 rfl ?_
    obtain ⟨hl10, h⟩ := grd h
    refine g_alen (n := (lenW shX x0)) (v := Int32.ofNat ((lenW shX x0))) C rfl hl10 rfl dX6_at_10 ?_
    refine g_icmp_ge C 20 dX6_at_11 (by decide) (fun c11 => ?_) (fun c11 => ?_)
    · have h := iteT c11 h
      refine g_iconst C dX6_at_20 ic_0 ?_
      obtain rfl := Option.some.inj h
      exact g_iret C rfl rfl rfl dX6_at_21
    · have h := iteF c11 h
      refine g_aload_n C dX6_at_14 rfl 0 rfl ?_
      refine g_iload_n C dX6_at_15 rfl 1 rfl ?_
      obtain ⟨hi16, h⟩ := grd h
      refine g_iald (n := (lenW shX x0)) (v := g x0 x1.toNatClampNeg) C rfl hi16 rfl dX6_at_16 ?_
      refine g_goto (tgt := 21) C dX6_at_17 (by decide) ?_
      obtain rfl := Option.some.inj h
      exact g_iret C rfl rfl rfl dX6_at_21
def fX_Rows_put (x0 : Nat) (x1 : Int32) (x2 : Int32) (g : St) : Option (St) :=
  if x1 < 0 then
    (some g)
  else
    (if 0 < (lenW shX x0) then (if (Int32.ofNat ((lenW shX x0))) ≤ x1 then
    (some g)
  else
    (if ¬ (x1 < 0 ∨ (lenW shX x0) ≤ x1.toNatClampNeg) then (some (st g x0 x1.toNatClampNeg x2)) else none)) else none)
def rmX_Rows_put : Room := { frames := 0, cells := 0, slots := 0, locals := 0 }
abbrev GcX_Rows_put (l : Launch) (D : va_G) (T : cT) (ad : Nat → Nat) (Γ : Cxt) (o : St) (xo : Sl) (x : Sl) (g : St) (pc : Nat) (lv : List (Nat × Value)) (stk : List Value) : Prop := Gj l shX D T ad 3 (rmX_Rows_put) 0 0 Γ (MQ Γ.below (va_Qv (eqV o xo) (wPost shX D T ad Γ.A) Γ.A) Γ.args Γ.s 0 0 Γ.A) x g pc lv stk
set_option maxRecDepth 100000 in
set_option maxHeartbeats 4000000 in
theorem cX_Rows_put (l : Launch) (D : va_G) (T : cT) (ad : Nat → Nat) (sK sV : Nat → Nat) (xo : Sl) (g : St) (x0 : Nat) (x1 : Int32) (x2 : Int32) (o : St) (h : fX_Rows_put x0 x1 x2 g = some o) (sz : Nat) : Met l yX6_put wX_Rows_put (rmX_Rows_put) (va_Pc [.ref (ad x0), .int x1, .int x2] (xPre shX D T ad sK sV xo g sz)) (va_Qv (eqV o xo) (wPost shX D T ad (aW shX T ad xo g sz)) (aW shX T ad xo g sz)) 0 0 (aW shX T ad xo g sz) := by
  refine g_startx (Qc := fun A => va_Qv (eqV o xo) (wPost shX D T ad A) A) (by decide +kernel) rfl rfl (Nat.le_of_ble_eq_true rfl) (lv := [(0, .ref (ad x0)), (1, .int x1), (2, .int x2)]) rfl (fun Γ Y => ?_)
  have C := Y.1
  show GcX_Rows_put l D T ad Γ o xo xo g 0 [(0, .ref (ad x0)), (1, .int x1), (2, .int x2)] []
  refine g_aload_n C dX6_put_0 rfl 0 rfl ?_
  refine g_ifnull C dX6_put_1 ?_
  refine g_iload_n C dX6_put_4 rfl 1 rfl ?_
  refine g_if_lt C 18 dX6_put_5 (by decide) (fun c5 => ?_) (fun c5 => ?_)
  · have h := iteT c5 h
    obtain rfl := Option.some.inj h
    exact g_vret C rfl rfl dX6_put_18
  · have h := iteF c5 h
    refine g_iload_n C dX6_put_8 rfl 1 rfl ?_
    refine g_aload_n C dX6_put_9 rfl 0 rfl ?_
    obtain ⟨hl10, h⟩ := grd h
    refine g_alen (n := (lenW shX x0)) (v := Int32.ofNat ((lenW shX x0))) C rfl hl10 rfl dX6_put_10 ?_
    refine g_icmp_ge C 18 dX6_put_11 (by decide) (fun c11 => ?_) (fun c11 => ?_)
    · have h := iteT c11 h
      obtain rfl := Option.some.inj h
      exact g_vret C rfl rfl dX6_put_18
    · have h := iteF c11 h
      refine g_aload_n C dX6_put_14 rfl 0 rfl ?_
      refine g_iload_n C dX6_put_15 rfl 1 rfl ?_
      refine g_iload_n C dX6_put_16 rfl 2 rfl ?_
      obtain ⟨hi17, h⟩ := grd h
      refine g_iast (n := (lenW shX x0)) (q := x1.toNatClampNeg) C rfl hi17 rfl dX6_put_17 ?_
      obtain rfl := Option.some.inj h
      exact g_vret C rfl rfl dX6_put_18
def fX_Rows_copy_L3 (x0 : Nat) (x2 : Nat) (x1 : Int32) (x3 : Int32) (x4 : Int32) : (Int32 × St) → Option ((Int32 × St) ⊕ (St)) := fun ⟨x5, g⟩ =>
  if x4 ≤ x5 then
    (some (.inr g))
  else
    ((fX_Rows_at x0 (x1 + x5) g).bind fun r20 => ((fX_Rows_put x2 (x3 + x5) r20 g).bind fun g23 => (some (.inl ((x5 + (1 : Int32)), g23)))))
def fX_Rows_copy_b3 (x0 : Nat) (x2 : Nat) (x1 : Int32) (x3 : Int32) (x4 : Int32) (x5 : Int32) (g : St) : Option (St) :=
  (lp (fX_Rows_copy_L3 x0 x2 x1 x3 x4) fuel (x5, g)).bind (fun g => some g)
def fX_Rows_copy (x0 : Nat) (x1 : Int32) (x2 : Nat) (x3 : Int32) (x4 : Int32) (g : St) : Option (St) :=
  fX_Rows_copy_b3 x0 x2 x1 x3 x4 (0 : Int32) g
def rmX_Rows_copy : Room := { frames := 1, cells := 0, slots := 0, locals := 22 }
abbrev GcX_Rows_copy (l : Launch) (D : va_G) (T : cT) (ad : Nat → Nat) (Γ : Cxt) (o : St) (xo : Sl) (x : Sl) (g : St) (pc : Nat) (lv : List (Nat × Value)) (stk : List Value) : Prop := Gj l shX D T ad 6 (rmX_Rows_copy) 0 0 Γ (MQ Γ.below (va_Qv (eqV o xo) (wPost shX D T ad Γ.A) Γ.A) Γ.args Γ.s 0 0 Γ.A) x g pc lv stk
set_option maxRecDepth 100000 in
set_option maxHeartbeats 4000000 in
theorem cX_Rows_copy (l : Launch) (D : va_G) (T : cT) (ad : Nat → Nat) (sK sV : Nat → Nat) (xo : Sl) (g : St) (x0 : Nat) (x1 : Int32) (x2 : Nat) (x3 : Int32) (x4 : Int32) (o : St) (h : fX_Rows_copy x0 x1 x2 x3 x4 g = some o) (sz : Nat) : Met l yX6_copy wX_Rows_copy (rmX_Rows_copy) (va_Pc [.ref (ad x0), .int x1, .ref (ad x2), .int x3, .int x4] (xPre shX D T ad sK sV xo g sz)) (va_Qv (eqV o xo) (wPost shX D T ad (aW shX T ad xo g sz)) (aW shX T ad xo g sz)) 0 0 (aW shX T ad xo g sz) := by
  refine g_startx (Qc := fun A => va_Qv (eqV o xo) (wPost shX D T ad A) A) (by decide +kernel) rfl rfl (Nat.le_of_ble_eq_true rfl) (lv := [(0, .ref (ad x0)), (1, .int x1), (2, .ref (ad x2)), (3, .int x3), (4, .int x4)]) rfl (fun Γ Y => ?_)
  have C := Y.1
  show GcX_Rows_copy l D T ad Γ o xo xo g 0 [(0, .ref (ad x0)), (1, .int x1), (2, .ref (ad x2)), (3, .int x3), (4, .int x4)] []
  have J3 : ∀ (x1 : Int32) (x3 : Int32) (x4 : Int32) (x5 : Int32) (g : St), fX_Rows_copy_b3 x0 x2 x1 x3 x4 x5 g = some o → GcX_Rows_copy l D T ad Γ o xo xo g 3 [(0, .ref (ad x0)), (1, .int x1), (2, .ref (ad x2)), (3, .int x3), (4, .int x4), (5, .int x5)] [] := by
    intro x1 x3 x4 x5 g h
    obtain ⟨g, ht, h⟩ := bnd h
    refine lp_run (P := fun t : Int32 × St => match t with | (x5, g) => GcX_Rows_copy l D T ad Γ o xo xo g 3 [(0, .ref (ad x0)), (1, .int x1), (2, .ref (ad x2)), (3, .int x3), (4, .int x4), (5, .int x5)] []) (E := fun g : St => GcX_Rows_copy l D T ad Γ o xo xo g 32 [] []) ?_ _ _ _ ht ?_
    · rintro ⟨x5, g⟩ z h Kt Ke
      show GcX_Rows_copy l D T ad Γ o xo xo g 3 [(0, .ref (ad x0)), (1, .int x1), (2, .ref (ad x2)), (3, .int x3), (4, .int x4), (5, .int x5)] []
      refine g_iload C dX6_copy_3 5 rfl ?_
      refine g_iload C dX6_copy_5 4 rfl ?_
      refine g_icmp_ge C 32 dX6_copy_7 (by decide) (fun c7 => ?_) (fun c7 => ?_)
      · have h := iteT c7 h
        exact g_sub [] rfl (Ke _ (Option.some.inj h).symm)
      · have h := iteF c7 h
        refine g_aload_n C dX6_copy_10 rfl 2 rfl ?_
        refine g_iload_n C dX6_copy_11 rfl 3 rfl ?_
        refine g_iload C dX6_copy_12 5 rfl ?_
        refine g_iadd C dX6_copy_14 ?_
        refine g_aload_n C dX6_copy_15 rfl 0 rfl ?_
        refine g_iload_n C dX6_copy_16 rfl 1 rfl ?_
        refine g_iload C dX6_copy_17 5 rfl ?_
        refine g_iadd C dX6_copy_19 ?_
        obtain ⟨r20, hr20, h⟩ := bnd h
        refine g_xSi (As := [.ref (ad x0), .int (x1 + x5)]) (rest := [.int (x3 + x5), .ref (ad x2)]) (ro := r20) (go := g) (xo := xo) Y (fun sz => cX_Rows_at l D T ad sK sV xo g x0 (x1 + x5) _ hr20 sz) kX_RX6_7_Rows_at ⟨Nat.le_of_ble_eq_true rfl, Nat.le_of_ble_eq_true rfl⟩ ⟨rfl, rfl⟩ ⟨Nat.zero_le _, Nat.zero_le _⟩ rfl rfl (Nat.le_of_ble_eq_true rfl) dX6_copy_20 ?_
        obtain ⟨g23, hr23, h⟩ := bnd h
        refine g_xSv (As := [.ref (ad x2), .int (x3 + x5), .int r20]) (rest := []) (go := g23) (xo := xo) Y (fun sz => cX_Rows_put l D T ad sK sV xo g x2 (x3 + x5) r20 _ hr23 sz) kX_RX6_13_Rows_put ⟨Nat.le_of_ble_eq_true rfl, Nat.le_of_ble_eq_true rfl⟩ ⟨rfl, rfl⟩ ⟨Nat.zero_le _, Nat.zero_le _⟩ rfl rfl (Nat.le_of_ble_eq_true rfl) dX6_copy_23 ?_
        refine g_iinc (lv' := [(5, .int (x5 + (1 : Int32))), (0, .ref (ad x0)), (1, .int x1), (2, .ref (ad x2)), (3, .int x3), (4, .int x4)]) C dX6_copy_26 5 rfl (ii_1 _) (Nat.le_of_ble_eq_true rfl) rfl ?_
        refine g_goto (tgt := 3) C dX6_copy_29 (by decide) ?_
        exact g_sub [1, 2, 3, 4, 5, 0] rfl (Kt _ (Option.some.inj h).symm)
    · show GcX_Rows_copy l D T ad Γ o xo xo g 32 [] []
      obtain rfl := Option.some.inj h
      exact g_vret C rfl rfl dX6_copy_32
  refine g_iconst C dX6_copy_0 ic_0 ?_
  refine g_istore (lv' := [(5, .int (0 : Int32)), (0, .ref (ad x0)), (1, .int x1), (2, .ref (ad x2)), (3, .int x3), (4, .int x4)]) C dX6_copy_1 (Nat.le_of_ble_eq_true rfl) rfl ?_
  exact g_sub [1, 2, 3, 4, 5, 0] rfl (J3 x1 x3 x4 (0 : Int32) g h)
def fX_Book_take (th : Nat) (x1 : Nat) (g : St) : Option (St) :=
  (fX_Rows_copy (rX x1 0) (0 : Int32) (rX th 0) (0 : Int32) (8 : Int32) (st g th 1 (g x1 1))).bind fun g20 => (some g20)
def rmX_Book_take : Room := { frames := 2, cells := 0, slots := 0, locals := 47 }
abbrev GcX_Book_take (l : Launch) (D : va_G) (T : cT) (ad : Nat → Nat) (Γ : Cxt) (o : St) (xo : Sl) (x : Sl) (g : St) (pc : Nat) (lv : List (Nat × Value)) (stk : List Value) : Prop := Gj l shX D T ad 2 (rmX_Book_take) 0 0 Γ (MQ Γ.below (va_Qv (eqV o xo) (wPost shX D T ad Γ.A) Γ.A) Γ.args Γ.s 0 0 Γ.A) x g pc lv stk
set_option maxRecDepth 100000 in
set_option maxHeartbeats 4000000 in
theorem cX_Book_take (l : Launch) (D : va_G) (T : cT) (ad : Nat → Nat) (sK sV : Nat → Nat) (xo : Sl) (g : St) (th : Nat) (x1 : Nat) (hth : isBook th) (hx1 : isBook x1) (o : St) (h : fX_Book_take th x1 g = some o) (sz : Nat) : Met l yX0_take wX_Book_take (rmX_Book_take) (va_Pc [.ref (ad th), .ref (ad x1)] (xPre shX D T ad sK sV xo g sz)) (va_Qv (eqV o xo) (wPost shX D T ad (aW shX T ad xo g sz)) (aW shX T ad xo g sz)) 0 0 (aW shX T ad xo g sz) := by
  refine g_startx (Qc := fun A => va_Qv (eqV o xo) (wPost shX D T ad A) A) (by decide +kernel) rfl rfl (Nat.le_of_ble_eq_true rfl) (lv := [(0, .ref (ad th)), (1, .ref (ad x1))]) rfl (fun Γ Y => ?_)
  have C := Y.1
  show GcX_Book_take l D T ad Γ o xo xo g 0 [(0, .ref (ad th)), (1, .ref (ad x1))] []
  refine g_aload_n C dX0_take_0 rfl 0 rfl ?_
  refine g_aload_n C dX0_take_1 rfl 1 rfl ?_
  refine gX_get_X0_15 (v := g x1 1) C (ob_Book hx1) (rf_Book_1 hx1) rfl dX0_take_2 ?_
  refine gX_put_X0_15 C (ob_Book hth) (rf_Book_1 hth) dX0_take_5 ?_
  refine g_aload_n C dX0_take_8 rfl 1 rfl ?_
  refine gX_get_X0_9 C (ob_Book hx1) (rf_Book_0 hx1) dX0_take_9 ?_
  refine g_iconst C dX0_take_12 ic_0 ?_
  refine g_aload_n C dX0_take_13 rfl 0 rfl ?_
  refine gX_get_X0_9 C (ob_Book hth) (rf_Book_0 hth) dX0_take_14 ?_
  refine g_iconst C dX0_take_17 ic_0 ?_
  refine g_bipush C dX0_take_18 bp_8 ?_
  obtain ⟨g20, hr20, h⟩ := bnd h
  refine g_xSv (As := [.ref (ad (rX x1 0)), .int (0 : Int32), .ref (ad (rX th 0)), .int (0 : Int32), .int (8 : Int32)]) (rest := []) (go := g20) (xo := xo) Y (fun sz => cX_Rows_copy l D T ad sK sV xo (st g th 1 (g x1 1)) (rX x1 0) (0 : Int32) (rX th 0) (0 : Int32) (8 : Int32) _ hr20 sz) kX_RX0_19_Rows_copy ⟨Nat.le_of_ble_eq_true rfl, Nat.le_of_ble_eq_true rfl⟩ ⟨rfl, rfl⟩ ⟨Nat.zero_le _, Nat.zero_le _⟩ rfl rfl (Nat.le_of_ble_eq_true rfl) dX0_take_20 ?_
  obtain rfl := Option.some.inj h
  exact g_vret C rfl rfl dX0_take_23
def fX_Book_tellsOf (th : Nat) (x1 : Int32) (g : St) : Option (Int32) :=
  if (g th 1) ≤ 0 then
    (some (0 : Int32))
  else
    ((fX_Rows_at (rX th 0) x1 g).bind fun r12 => (if r12 = (-1 : Int32) then
    (some (0 : Int32))
  else
    (some (1 : Int32))))
def rmX_Book_tellsOf : Room := { frames := 1, cells := 0, slots := 0, locals := 21 }
abbrev GcX_Book_tellsOf (l : Launch) (D : va_G) (T : cT) (ad : Nat → Nat) (Γ : Cxt) (o : Int32) (xo : Sl) (g0 : St) (x : Sl) (g : St) (pc : Nat) (lv : List (Nat × Value)) (stk : List Value) : Prop := Gj l shX D T ad 2 (rmX_Book_tellsOf) 0 0 Γ (MQ Γ.below (va_Qi (eqZ o g0 xo) (wPost shX D T ad Γ.A) Γ.A) Γ.args Γ.s 0 0 Γ.A) x g pc lv stk
set_option maxRecDepth 100000 in
set_option maxHeartbeats 4000000 in
theorem cX_Book_tellsOf (l : Launch) (D : va_G) (T : cT) (ad : Nat → Nat) (sK sV : Nat → Nat) (xo : Sl) (g : St) (th : Nat) (x1 : Int32) (hth : isBook th) (o : Int32) (h : fX_Book_tellsOf th x1 g = some o) (sz : Nat) : Met l yX0_tellsOf wX_Book_tellsOf (rmX_Book_tellsOf) (va_Pc [.ref (ad th), .int x1] (xPre shX D T ad sK sV xo g sz)) (va_Qi (eqZ o g xo) (wPost shX D T ad (aW shX T ad xo g sz)) (aW shX T ad xo g sz)) 0 0 (aW shX T ad xo g sz) := by
  refine g_startx (Qc := fun A => va_Qi (eqZ o g xo) (wPost shX D T ad A) A) (by decide +kernel) rfl rfl (Nat.le_of_ble_eq_true rfl) (lv := [(0, .ref (ad th)), (1, .int x1)]) rfl (fun Γ Y => ?_)
  have C := Y.1
  show GcX_Book_tellsOf l D T ad Γ o xo g xo g 0 [(0, .ref (ad th)), (1, .int x1)] []
  refine g_aload_n C dX0_tellsOf_0 rfl 0 rfl ?_
  refine gX_get_X0_15 (v := g th 1) C (ob_Book hth) (rf_Book_1 hth) rfl dX0_tellsOf_1 ?_
  refine g_if_le C 23 dX0_tellsOf_4 (by decide) (fun c4 => ?_) (fun c4 => ?_)
  · have h := iteT c4 h
    refine g_iconst C dX0_tellsOf_23 ic_0 ?_
    obtain rfl := Option.some.inj h
    exact g_zret C rfl rfl rfl rfl dX0_tellsOf_24
  · have h := iteF c4 h
    refine g_aload_n C dX0_tellsOf_7 rfl 0 rfl ?_
    refine gX_get_X0_9 C (ob_Book hth) (rf_Book_0 hth) dX0_tellsOf_8 ?_
    refine g_iload_n C dX0_tellsOf_11 rfl 1 rfl ?_
    obtain ⟨r12, hr12, h⟩ := bnd h
    refine g_xSi (As := [.ref (ad (rX th 0)), .int x1]) (rest := []) (ro := r12) (go := g) (xo := xo) Y (fun sz => cX_Rows_at l D T ad sK sV xo g (rX th 0) x1 _ hr12 sz) kX_RX0_25_Rows_at ⟨Nat.le_of_ble_eq_true rfl, Nat.le_of_ble_eq_true rfl⟩ ⟨rfl, rfl⟩ ⟨Nat.zero_le _, Nat.zero_le _⟩ rfl rfl (Nat.le_of_ble_eq_true rfl) dX0_tellsOf_12 ?_
    refine g_iconst C dX0_tellsOf_15 ic_m1 ?_
    refine g_icmp_eq C 23 dX0_tellsOf_16 (by decide) (fun c16 => ?_) (fun c16 => ?_)
    · have h := iteT c16 h
      refine g_iconst C dX0_tellsOf_23 ic_0 ?_
      obtain rfl := Option.some.inj h
      exact g_zret C rfl rfl rfl rfl dX0_tellsOf_24
    · have h := iteF c16 h
      refine g_iconst C dX0_tellsOf_19 ic_1 ?_
      refine g_goto (tgt := 24) C dX0_tellsOf_20 (by decide) ?_
      obtain rfl := Option.some.inj h
      exact g_zret C rfl rfl rfl rfl dX0_tellsOf_24
def fX_State_stonesOf_b26 (th : Nat) (x1 : Int32) (x2 : Int32) (x3 : Int32) (g : St) : Option ((Int32 × Int32) ⊕ (Int32)) :=
  some (.inl (x2, (x3 + (1 : Int32))))
def fX_State_stonesOf_L4 (th : Nat) (x1 : Int32) (g : St) : (Int32 × Int32) → Option ((Int32 × Int32) ⊕ (Int32)) := fun ⟨x2, x3⟩ =>
  if (8 : Int32) ≤ x3 then
    (some (.inr x2))
  else
    (if ¬ (x3 < 0 ∨ 8 ≤ x3.toNatClampNeg) then (if (g (rX th 3) x3.toNatClampNeg) = x1 then
    (fX_State_stonesOf_b26 th x1 (x2 + (1 : Int32)) x3 g)
  else
    (fX_State_stonesOf_b26 th x1 x2 x3 g)) else none)
def fX_State_stonesOf_b4 (th : Nat) (x1 : Int32) (x2 : Int32) (x3 : Int32) (g : St) : Option (Int32) :=
  (lp (fX_State_stonesOf_L4 th x1 g) fuel (x2, x3)).bind (fun x2 => some x2)
def fX_State_stonesOf (th : Nat) (x1 : Int32) (g : St) : Option (Int32) :=
  fX_State_stonesOf_b4 th x1 (0 : Int32) (0 : Int32) g
def rmX_State_stonesOf : Room := { frames := 0, cells := 0, slots := 0, locals := 0 }
abbrev GcX_State_stonesOf (l : Launch) (D : va_G) (T : cT) (ad : Nat → Nat) (Γ : Cxt) (o : Int32) (xo : Sl) (g0 : St) (x : Sl) (g : St) (pc : Nat) (lv : List (Nat × Value)) (stk : List Value) : Prop := Gj l shX D T ad 4 (rmX_State_stonesOf) 0 0 Γ (MQ Γ.below (va_Qi (eqI o g0 xo) (wPost shX D T ad Γ.A) Γ.A) Γ.args Γ.s 0 0 Γ.A) x g pc lv stk
set_option maxRecDepth 100000 in
set_option maxHeartbeats 4000000 in
theorem cX_State_stonesOf (l : Launch) (D : va_G) (T : cT) (ad : Nat → Nat) (sK sV : Nat → Nat) (xo : Sl) (g : St) (th : Nat) (x1 : Int32) (hth : isState th) (o : Int32) (h : fX_State_stonesOf th x1 g = some o) (sz : Nat) : Met l yX7_stonesOf wX_State_stonesOf (rmX_State_stonesOf) (va_Pc [.ref (ad th), .int x1] (xPre shX D T ad sK sV xo g sz)) (va_Qi (eqI o g xo) (wPost shX D T ad (aW shX T ad xo g sz)) (aW shX T ad xo g sz)) 0 0 (aW shX T ad xo g sz) := by
  refine g_startx (Qc := fun A => va_Qi (eqI o g xo) (wPost shX D T ad A) A) (by decide +kernel) rfl rfl (Nat.le_of_ble_eq_true rfl) (lv := [(0, .ref (ad th)), (1, .int x1)]) rfl (fun Γ Y => ?_)
  have C := Y.1
  show GcX_State_stonesOf l D T ad Γ o xo g xo g 0 [(0, .ref (ad th)), (1, .int x1)] []
  have J4 : ∀ (x1 : Int32) (x2 : Int32) (x3 : Int32), fX_State_stonesOf_b4 th x1 x2 x3 g = some o → GcX_State_stonesOf l D T ad Γ o xo g xo g 4 [(0, .ref (ad th)), (1, .int x1), (2, .int x2), (3, .int x3)] [] := by
    intro x1 x2 x3 h
    obtain ⟨x2, ht, h⟩ := bnd h
    refine lp_run (P := fun t : Int32 × Int32 => match t with | (x2, x3) => GcX_State_stonesOf l D T ad Γ o xo g xo g 4 [(0, .ref (ad th)), (1, .int x1), (2, .int x2), (3, .int x3)] []) (E := fun x2 : Int32 => GcX_State_stonesOf l D T ad Γ o xo g xo g 32 [(2, .int x2)] []) ?_ _ _ _ ht ?_
    · rintro ⟨x2, x3⟩ z h Kt Ke
      show GcX_State_stonesOf l D T ad Γ o xo g xo g 4 [(0, .ref (ad th)), (1, .int x1), (2, .int x2), (3, .int x3)] []
      have J26 : ∀ (x2 : Int32) (x3 : Int32), fX_State_stonesOf_b26 th x1 x2 x3 g = some z → GcX_State_stonesOf l D T ad Γ o xo g xo g 26 [(0, .ref (ad th)), (1, .int x1), (2, .int x2), (3, .int x3)] [] := by
        intro x2 x3 h
        refine g_iinc (lv' := [(3, .int (x3 + (1 : Int32))), (0, .ref (ad th)), (1, .int x1), (2, .int x2)]) C dX7_stonesOf_26 3 rfl (ii_1 _) (Nat.le_of_ble_eq_true rfl) rfl ?_
        refine g_goto (tgt := 4) C dX7_stonesOf_29 (by decide) ?_
        exact g_sub [1, 2, 3, 0] rfl (Kt _ (Option.some.inj h).symm)
      refine g_iload_n C dX7_stonesOf_4 rfl 3 rfl ?_
      refine g_aload_n C dX7_stonesOf_5 rfl 0 rfl ?_
      refine gX_get_X7_15 C (ob_State hth) (rf_State_3 hth) dX7_stonesOf_6 ?_
      refine g_alen (n := 8) (v := (8 : Int32)) C (ln_State_3 hth) (Nat.le_of_ble_eq_true rfl) rfl dX7_stonesOf_9 ?_
      refine g_icmp_ge C 32 dX7_stonesOf_10 (by decide) (fun c10 => ?_) (fun c10 => ?_)
      · have h := iteT c10 h
        exact g_sub [2] rfl (Ke _ (Option.some.inj h).symm)
      · have h := iteF c10 h
        refine g_aload_n C dX7_stonesOf_13 rfl 0 rfl ?_
        refine gX_get_X7_15 C (ob_State hth) (rf_State_3 hth) dX7_stonesOf_14 ?_
        refine g_iload_n C dX7_stonesOf_17 rfl 3 rfl ?_
        obtain ⟨hi18, h⟩ := grd h
        refine g_iald (n := 8) (v := g (rX th 3) x3.toNatClampNeg) C (ln_State_3 hth) hi18 rfl dX7_stonesOf_18 ?_
        refine g_iload_n C dX7_stonesOf_19 rfl 1 rfl ?_
        refine g_icmp_ne C 26 dX7_stonesOf_20 (by decide) (fun c20 => ?_) (fun c20 => ?_)
        · have h := iteT c20 h
          refine g_iinc (lv' := [(2, .int (x2 + (1 : Int32))), (0, .ref (ad th)), (1, .int x1), (3, .int x3)]) C dX7_stonesOf_23 2 rfl (ii_1 _) (Nat.le_of_ble_eq_true rfl) rfl ?_
          exact g_sub [1, 2, 0, 3] rfl (J26 (x2 + (1 : Int32)) x3 h)
        · have h := iteF c20 h
          exact J26 x2 x3 h
    · show GcX_State_stonesOf l D T ad Γ o xo g xo g 32 [(2, .int x2)] []
      refine g_iload_n C dX7_stonesOf_32 rfl 0 rfl ?_
      obtain rfl := Option.some.inj h
      exact g_iret C rfl rfl rfl dX7_stonesOf_33
  refine g_iconst C dX7_stonesOf_0 ic_0 ?_
  refine g_istore_n (lv' := [(2, .int (0 : Int32)), (0, .ref (ad th)), (1, .int x1)]) C dX7_stonesOf_1 rfl (Nat.le_of_ble_eq_true rfl) rfl ?_
  refine g_iconst C dX7_stonesOf_2 ic_0 ?_
  refine g_istore_n (lv' := [(3, .int (0 : Int32)), (2, .int (0 : Int32)), (0, .ref (ad th)), (1, .int x1)]) C dX7_stonesOf_3 rfl (Nat.le_of_ble_eq_true rfl) rfl ?_
  exact g_sub [2, 3, 1, 0] rfl (J4 x1 (0 : Int32) (0 : Int32) h)
def fX_Book_isRightFor_b34 (th : Nat) (x1 : Nat) (x2 : Int32) (g : St) : Option ((Int32) ⊕ (Unit ⊕ Unit)) :=
  some (.inl (x2 + (1 : Int32)))
def fX_Book_isRightFor_L2 (th : Nat) (x1 : Nat) (g : St) : Int32 → Option ((Int32) ⊕ (Unit ⊕ Unit)) := fun x2 =>
  if (8 : Int32) ≤ x2 then
    (some (.inr (.inr ())))
  else
    ((fX_Book_tellsOf th x2 g).bind fun r10 => (if r10 = 0 then
    (fX_Book_isRightFor_b34 th x1 x2 g)
  else
    ((fX_State_stonesOf x1 x2 g).bind fun r18 => ((fX_Rows_at (rX th 0) x2 g).bind fun r26 => (if r18 = r26 then
    (fX_Book_isRightFor_b34 th x1 x2 g)
  else
    (some (.inr (.inl ()))))))))
def fX_Book_isRightFor_b2 (th : Nat) (x1 : Nat) (x2 : Int32) (g : St) : Option (Int32) :=
  (lp (fX_Book_isRightFor_L2 th x1 g) fuel x2).bind (Sum.elim (fun _ => some (0 : Int32)) (fun _ => some (1 : Int32)))
def fX_Book_isRightFor (th : Nat) (x1 : Nat) (g : St) : Option (Int32) :=
  fX_Book_isRightFor_b2 th x1 (0 : Int32) g
def rmX_Book_isRightFor : Room := { frames := 2, cells := 0, slots := 0, locals := 42 }
abbrev GcX_Book_isRightFor (l : Launch) (D : va_G) (T : cT) (ad : Nat → Nat) (Γ : Cxt) (o : Int32) (xo : Sl) (g0 : St) (x : Sl) (g : St) (pc : Nat) (lv : List (Nat × Value)) (stk : List Value) : Prop := Gj l shX D T ad 3 (rmX_Book_isRightFor) 0 0 Γ (MQ Γ.below (va_Qi (eqZ o g0 xo) (wPost shX D T ad Γ.A) Γ.A) Γ.args Γ.s 0 0 Γ.A) x g pc lv stk
set_option maxRecDepth 100000 in
set_option maxHeartbeats 4000000 in
theorem cX_Book_isRightFor (l : Launch) (D : va_G) (T : cT) (ad : Nat → Nat) (sK sV : Nat → Nat) (xo : Sl) (g : St) (th : Nat) (x1 : Nat) (hth : isBook th) (hx1 : isState x1) (o : Int32) (h : fX_Book_isRightFor th x1 g = some o) (sz : Nat) : Met l yX0_isRightFor wX_Book_isRightFor (rmX_Book_isRightFor) (va_Pc [.ref (ad th), .ref (ad x1)] (xPre shX D T ad sK sV xo g sz)) (va_Qi (eqZ o g xo) (wPost shX D T ad (aW shX T ad xo g sz)) (aW shX T ad xo g sz)) 0 0 (aW shX T ad xo g sz) := by
  refine g_startx (Qc := fun A => va_Qi (eqZ o g xo) (wPost shX D T ad A) A) (by decide +kernel) rfl rfl (Nat.le_of_ble_eq_true rfl) (lv := [(0, .ref (ad th)), (1, .ref (ad x1))]) rfl (fun Γ Y => ?_)
  have C := Y.1
  show GcX_Book_isRightFor l D T ad Γ o xo g xo g 0 [(0, .ref (ad th)), (1, .ref (ad x1))] []
  have J2 : ∀ (x2 : Int32), fX_Book_isRightFor_b2 th x1 x2 g = some o → GcX_Book_isRightFor l D T ad Γ o xo g xo g 2 [(0, .ref (ad th)), (1, .ref (ad x1)), (2, .int x2)] [] := by
    intro x2 h
    obtain ⟨t, ht, h⟩ := bnd h
    refine lp_run (P := fun x2 : Int32 => GcX_Book_isRightFor l D T ad Γ o xo g xo g 2 [(0, .ref (ad th)), (1, .ref (ad x1)), (2, .int x2)] []) (E := Sum.elim (fun _ : Unit => GcX_Book_isRightFor l D T ad Γ o xo g xo g 32 [] []) (fun _ : Unit => GcX_Book_isRightFor l D T ad Γ o xo g xo g 40 [] [])) ?_ _ _ _ ht ?_
    · rintro x2 z h Kt Ke
      show GcX_Book_isRightFor l D T ad Γ o xo g xo g 2 [(0, .ref (ad th)), (1, .ref (ad x1)), (2, .int x2)] []
      have J34 : ∀ (x2 : Int32), fX_Book_isRightFor_b34 th x1 x2 g = some z → GcX_Book_isRightFor l D T ad Γ o xo g xo g 34 [(0, .ref (ad th)), (1, .ref (ad x1)), (2, .int x2)] [] := by
        intro x2 h
        refine g_iinc (lv' := [(2, .int (x2 + (1 : Int32))), (0, .ref (ad th)), (1, .ref (ad x1))]) C dX0_isRightFor_34 2 rfl (ii_1 _) (Nat.le_of_ble_eq_true rfl) rfl ?_
        refine g_goto (tgt := 2) C dX0_isRightFor_37 (by decide) ?_
        exact g_sub [1, 2, 0] rfl (Kt _ (Option.some.inj h).symm)
      refine g_iload_n C dX0_isRightFor_2 rfl 2 rfl ?_
      refine g_bipush C dX0_isRightFor_3 bp_8 ?_
      refine g_icmp_ge C 40 dX0_isRightFor_5 (by decide) (fun c5 => ?_) (fun c5 => ?_)
      · have h := iteT c5 h
        exact g_sub [] rfl (Ke _ (Option.some.inj h).symm)
      · have h := iteF c5 h
        refine g_aload_n C dX0_isRightFor_8 rfl 0 rfl ?_
        refine g_iload_n C dX0_isRightFor_9 rfl 2 rfl ?_
        obtain ⟨r10, hr10, h⟩ := bnd h
        refine g_xVz (k := th) (As := [.int x2]) (rest := []) (ro := r10) (go := g) (xo := xo) Y (fun sz => cX_Book_tellsOf l D T ad sK sV xo g th x2 hth _ hr10 sz) kX_RX0_29_Book_tellsOf ⟨Nat.le_of_ble_eq_true rfl, Nat.le_of_ble_eq_true rfl⟩ ⟨rfl, rfl⟩ ⟨Nat.zero_le _, Nat.zero_le _⟩ (rfl : vwCl[0]? = some (RX0, TX0, 2)) (ob_Book hth) rfl rfl (Nat.le_of_ble_eq_true rfl) dX0_isRightFor_10 (fun hz10 => ?_)
        refine g_if_eq C 34 dX0_isRightFor_13 (by decide) (fun c13 => ?_) (fun c13 => ?_)
        · have h := iteT c13 h
          exact J34 x2 h
        · have h := iteF c13 h
          refine g_aload_n C dX0_isRightFor_16 rfl 1 rfl ?_
          refine g_iload_n C dX0_isRightFor_17 rfl 2 rfl ?_
          obtain ⟨r18, hr18, h⟩ := bnd h
          refine g_xVi (k := x1) (As := [.int x2]) (rest := []) (ro := r18) (go := g) (xo := xo) Y (fun sz => cX_State_stonesOf l D T ad sK sV xo g x1 x2 hx1 _ hr18 sz) kX_RX0_33_State_stonesOf ⟨Nat.le_of_ble_eq_true rfl, Nat.le_of_ble_eq_true rfl⟩ ⟨rfl, rfl⟩ ⟨Nat.zero_le _, Nat.zero_le _⟩ (rfl : vwCl[6]? = some (RX7, TX7, 6)) (ob_State hx1) rfl rfl (Nat.le_of_ble_eq_true rfl) dX0_isRightFor_18 ?_
          refine g_aload_n C dX0_isRightFor_21 rfl 0 rfl ?_
          refine gX_get_X0_9 C (ob_Book hth) (rf_Book_0 hth) dX0_isRightFor_22 ?_
          refine g_iload_n C dX0_isRightFor_25 rfl 2 rfl ?_
          obtain ⟨r26, hr26, h⟩ := bnd h
          refine g_xSi (As := [.ref (ad (rX th 0)), .int x2]) (rest := [.int r18]) (ro := r26) (go := g) (xo := xo) Y (fun sz => cX_Rows_at l D T ad sK sV xo g (rX th 0) x2 _ hr26 sz) kX_RX0_25_Rows_at ⟨Nat.le_of_ble_eq_true rfl, Nat.le_of_ble_eq_true rfl⟩ ⟨rfl, rfl⟩ ⟨Nat.zero_le _, Nat.zero_le _⟩ rfl rfl (Nat.le_of_ble_eq_true rfl) dX0_isRightFor_26 ?_
          refine g_icmp_eq C 34 dX0_isRightFor_29 (by decide) (fun c29 => ?_) (fun c29 => ?_)
          · have h := iteT c29 h
            exact J34 x2 h
          · have h := iteF c29 h
            exact g_sub [] rfl (Ke _ (Option.some.inj h).symm)
    · rcases t with _ | _
      · show GcX_Book_isRightFor l D T ad Γ o xo g xo g 32 [] []
        refine g_iconst C dX0_isRightFor_32 ic_0 ?_
        obtain rfl := Option.some.inj h
        exact g_zret C rfl rfl rfl rfl dX0_isRightFor_33
      · show GcX_Book_isRightFor l D T ad Γ o xo g xo g 40 [] []
        refine g_iconst C dX0_isRightFor_40 ic_1 ?_
        obtain rfl := Option.some.inj h
        exact g_zret C rfl rfl rfl rfl dX0_isRightFor_41
  refine g_iconst C dX0_isRightFor_0 ic_0 ?_
  refine g_istore_n (lv' := [(2, .int (0 : Int32)), (0, .ref (ad th)), (1, .ref (ad x1))]) C dX0_isRightFor_1 rfl (Nat.le_of_ble_eq_true rfl) rfl ?_
  exact g_sub [1, 2, 0] rfl (J2 (0 : Int32) h)
def fX_Text_nextByte_L0 : St → Option ((St) ⊕ (St)) := fun g =>
  if (g 1 2) ≤ (g 1 3) then
    (some (.inr g))
  else
    ((fX_Rows_at 16 (g 1 3) g).bind fun r19 => (if r19 = (32 : Int32) then
    (some (.inl (st g 1 3 ((g 1 3) + (1 : Int32)))))
  else
    (some (.inr g))))
def fX_Text_nextByte_b0 (g : St) : Option (Int32 × St) :=
  (lp (fX_Text_nextByte_L0) fuel g).bind (fun g => if (g 1 2) ≤ (g 1 3) then
    (some ((-1 : Int32), g))
  else
    ((fX_Rows_at 16 (g 1 3) g).bind fun r59 => (some (r59, g))))
def fX_Text_nextByte (g : St) : Option (Int32 × St) :=
  fX_Text_nextByte_b0 g
def rmX_Text_nextByte : Room := { frames := 1, cells := 0, slots := 0, locals := 21 }
abbrev GcX_Text_nextByte (l : Launch) (D : va_G) (T : cT) (ad : Nat → Nat) (Γ : Cxt) (o : Int32 × St) (xo : Sl) (x : Sl) (g : St) (pc : Nat) (lv : List (Nat × Value)) (stk : List Value) : Prop := Gj l shX D T ad 1 (rmX_Text_nextByte) 0 0 Γ (MQ Γ.below (va_Qi (eqI o.1 o.2 xo) (wPost shX D T ad Γ.A) Γ.A) Γ.args Γ.s 0 0 Γ.A) x g pc lv stk
set_option maxRecDepth 100000 in
set_option maxHeartbeats 4000000 in
theorem cX_Text_nextByte (l : Launch) (D : va_G) (T : cT) (ad : Nat → Nat) (sK sV : Nat → Nat) (xo : Sl) (g : St) (o : Int32 × St) (h : fX_Text_nextByte g = some o) (sz : Nat) : Met l yX9_nextByte wX_Text_nextByte (rmX_Text_nextByte) (va_Pc [.ref (ad 1)] (xPre shX D T ad sK sV xo g sz)) (va_Qi (eqI o.1 o.2 xo) (wPost shX D T ad (aW shX T ad xo g sz)) (aW shX T ad xo g sz)) 0 0 (aW shX T ad xo g sz) := by
  refine g_startx (Qc := fun A => va_Qi (eqI o.1 o.2 xo) (wPost shX D T ad A) A) (by decide +kernel) rfl rfl (Nat.le_of_ble_eq_true rfl) (lv := [(0, .ref (ad 1))]) rfl (fun Γ Y => ?_)
  have C := Y.1
  show GcX_Text_nextByte l D T ad Γ o xo xo g 0 [(0, .ref (ad 1))] []
  have J0 : ∀ (g : St), fX_Text_nextByte_b0 g = some o → GcX_Text_nextByte l D T ad Γ o xo xo g 0 [(0, .ref (ad 1))] [] := by
    intro g h
    obtain ⟨g, ht, h⟩ := bnd h
    refine lp_run (P := fun g : St => GcX_Text_nextByte l D T ad Γ o xo xo g 0 [(0, .ref (ad 1))] []) (E := fun g : St => GcX_Text_nextByte l D T ad Γ o xo xo g 40 [(0, .ref (ad 1))] []) ?_ _ _ _ ht ?_
    · rintro g z h Kt Ke
      show GcX_Text_nextByte l D T ad Γ o xo xo g 0 [(0, .ref (ad 1))] []
      refine g_aload_n C dX9_nextByte_0 rfl 0 rfl ?_
      refine gX_get_X9_31 (v := g 1 3) C ob_1 rfl rfl dX9_nextByte_1 ?_
      refine g_aload_n C dX9_nextByte_4 rfl 0 rfl ?_
      refine gX_get_X9_28 (v := g 1 2) C ob_1 rfl rfl dX9_nextByte_5 ?_
      refine g_icmp_ge C 40 dX9_nextByte_8 (by decide) (fun c8 => ?_) (fun c8 => ?_)
      · have h := iteT c8 h
        exact g_sub [0] rfl (Ke _ (Option.some.inj h).symm)
      · have h := iteF c8 h
        refine g_aload_n C dX9_nextByte_11 rfl 0 rfl ?_
        refine gX_get_X9_9 C ob_1 rfl dX9_nextByte_12 ?_
        refine g_aload_n C dX9_nextByte_15 rfl 0 rfl ?_
        refine gX_get_X9_31 (v := g 1 3) C ob_1 rfl rfl dX9_nextByte_16 ?_
        obtain ⟨r19, hr19, h⟩ := bnd h
        refine g_xSi (As := [.ref (ad 16), .int (g 1 3)]) (rest := []) (ro := r19) (go := g) (xo := xo) Y (fun sz => cX_Rows_at l D T ad sK sV xo g 16 (g 1 3) _ hr19 sz) kX_RX9_37_Rows_at ⟨Nat.le_of_ble_eq_true rfl, Nat.le_of_ble_eq_true rfl⟩ ⟨rfl, rfl⟩ ⟨Nat.zero_le _, Nat.zero_le _⟩ rfl rfl (Nat.le_of_ble_eq_true rfl) dX9_nextByte_19 ?_
        refine g_bipush C dX9_nextByte_22 bp_32 ?_
        refine g_icmp_ne C 40 dX9_nextByte_24 (by decide) (fun c24 => ?_) (fun c24 => ?_)
        · have h := iteT c24 h
          refine g_aload_n C dX9_nextByte_27 rfl 0 rfl ?_
          refine g_dup C dX9_nextByte_28 rfl ?_
          refine gX_get_X9_31 (v := g 1 3) C ob_1 rfl rfl dX9_nextByte_29 ?_
          refine g_iconst C dX9_nextByte_32 ic_1 ?_
          refine g_iadd C dX9_nextByte_33 ?_
          refine gX_put_X9_31 C ob_1 rfl dX9_nextByte_34 ?_
          refine g_goto (tgt := 0) C dX9_nextByte_37 (by decide) ?_
          exact g_sub [0] rfl (Kt _ (Option.some.inj h).symm)
        · have h := iteF c24 h
          exact g_sub [0] rfl (Ke _ (Option.some.inj h).symm)
    · show GcX_Text_nextByte l D T ad Γ o xo xo g 40 [(0, .ref (ad 1))] []
      refine g_aload_n C dX9_nextByte_40 rfl 0 rfl ?_
      refine gX_get_X9_31 (v := g 1 3) C ob_1 rfl rfl dX9_nextByte_41 ?_
      refine g_aload_n C dX9_nextByte_44 rfl 0 rfl ?_
      refine gX_get_X9_28 (v := g 1 2) C ob_1 rfl rfl dX9_nextByte_45 ?_
      refine g_icmp_ge C 65 dX9_nextByte_48 (by decide) (fun c48 => ?_) (fun c48 => ?_)
      · have h := iteT c48 h
        refine g_iconst C dX9_nextByte_65 ic_m1 ?_
        obtain rfl := Option.some.inj h
        exact g_iret C rfl rfl rfl dX9_nextByte_66
      · have h := iteF c48 h
        refine g_aload_n C dX9_nextByte_51 rfl 0 rfl ?_
        refine gX_get_X9_9 C ob_1 rfl dX9_nextByte_52 ?_
        refine g_aload_n C dX9_nextByte_55 rfl 0 rfl ?_
        refine gX_get_X9_31 (v := g 1 3) C ob_1 rfl rfl dX9_nextByte_56 ?_
        obtain ⟨r59, hr59, h⟩ := bnd h
        refine g_xSi (As := [.ref (ad 16), .int (g 1 3)]) (rest := []) (ro := r59) (go := g) (xo := xo) Y (fun sz => cX_Rows_at l D T ad sK sV xo g 16 (g 1 3) _ hr59 sz) kX_RX9_37_Rows_at ⟨Nat.le_of_ble_eq_true rfl, Nat.le_of_ble_eq_true rfl⟩ ⟨rfl, rfl⟩ ⟨Nat.zero_le _, Nat.zero_le _⟩ rfl rfl (Nat.le_of_ble_eq_true rfl) dX9_nextByte_59 ?_
        refine g_goto (tgt := 66) C dX9_nextByte_62 (by decide) ?_
        obtain rfl := Option.some.inj h
        exact g_iret C rfl rfl rfl dX9_nextByte_66
  exact J0 g h
def fX_Text_hasMore (g : St) : Option (Int32 × St) :=
  if (g 1 6) = 0 then
    ((fX_Text_nextByte g).bind fun ⟨r8, g8⟩ => (if r8 = (-1 : Int32) then
    (some ((0 : Int32), g8))
  else
    (some ((1 : Int32), g8))))
  else
    (some ((0 : Int32), g))
def rmX_Text_hasMore : Room := { frames := 2, cells := 0, slots := 0, locals := 41 }
abbrev GcX_Text_hasMore (l : Launch) (D : va_G) (T : cT) (ad : Nat → Nat) (Γ : Cxt) (o : Int32 × St) (xo : Sl) (x : Sl) (g : St) (pc : Nat) (lv : List (Nat × Value)) (stk : List Value) : Prop := Gj l shX D T ad 1 (rmX_Text_hasMore) 0 0 Γ (MQ Γ.below (va_Qi (eqZ o.1 o.2 xo) (wPost shX D T ad Γ.A) Γ.A) Γ.args Γ.s 0 0 Γ.A) x g pc lv stk
set_option maxRecDepth 100000 in
set_option maxHeartbeats 4000000 in
theorem cX_Text_hasMore (l : Launch) (D : va_G) (T : cT) (ad : Nat → Nat) (sK sV : Nat → Nat) (xo : Sl) (g : St) (o : Int32 × St) (h : fX_Text_hasMore g = some o) (sz : Nat) : Met l yX9_hasMore wX_Text_hasMore (rmX_Text_hasMore) (va_Pc [.ref (ad 1)] (xPre shX D T ad sK sV xo g sz)) (va_Qi (eqZ o.1 o.2 xo) (wPost shX D T ad (aW shX T ad xo g sz)) (aW shX T ad xo g sz)) 0 0 (aW shX T ad xo g sz) := by
  refine g_startx (Qc := fun A => va_Qi (eqZ o.1 o.2 xo) (wPost shX D T ad A) A) (by decide +kernel) rfl rfl (Nat.le_of_ble_eq_true rfl) (lv := [(0, .ref (ad 1))]) rfl (fun Γ Y => ?_)
  have C := Y.1
  show GcX_Text_hasMore l D T ad Γ o xo xo g 0 [(0, .ref (ad 1))] []
  refine g_aload_n C dX9_hasMore_0 rfl 0 rfl ?_
  refine gX_get_X9_34 (v := g 1 6) C ob_1 rfl rfl dX9_hasMore_1 ?_
  refine g_if_ne C 19 dX9_hasMore_4 (by decide) (fun c4 => ?_) (fun c4 => ?_)
  · have h := iteT c4 h
    refine g_aload_n C dX9_hasMore_7 rfl 0 rfl ?_
    obtain ⟨⟨r8, g8⟩, hr8, h⟩ := bnd h
    refine g_xVi (k := 1) (As := []) (rest := []) (ro := r8) (go := g8) (xo := xo) Y (fun sz => cX_Text_nextByte l D T ad sK sV xo g _ hr8 sz) kX_RX9_41_Text_nextByte ⟨Nat.le_of_ble_eq_true rfl, Nat.le_of_ble_eq_true rfl⟩ ⟨rfl, rfl⟩ ⟨Nat.zero_le _, Nat.zero_le _⟩ (rfl : vwCl[8]? = some (RX9, TX9, 8)) ob_1 rfl rfl (Nat.le_of_ble_eq_true rfl) dX9_hasMore_8 ?_
    refine g_iconst C dX9_hasMore_11 ic_m1 ?_
    refine g_icmp_eq C 19 dX9_hasMore_12 (by decide) (fun c12 => ?_) (fun c12 => ?_)
    · have h := iteT c12 h
      refine g_iconst C dX9_hasMore_19 ic_0 ?_
      obtain rfl := Option.some.inj h
      exact g_zret C rfl rfl rfl rfl dX9_hasMore_20
    · have h := iteF c12 h
      refine g_iconst C dX9_hasMore_15 ic_1 ?_
      refine g_goto (tgt := 20) C dX9_hasMore_16 (by decide) ?_
      obtain rfl := Option.some.inj h
      exact g_zret C rfl rfl rfl rfl dX9_hasMore_20
  · have h := iteF c4 h
    refine g_iconst C dX9_hasMore_19 ic_0 ?_
    obtain rfl := Option.some.inj h
    exact g_zret C rfl rfl rfl rfl dX9_hasMore_20
def fX_Text_isDigit (x0 : Int32) : Int32 :=
  if x0 < (48 : Int32) then
    ((0 : Int32))
  else
    (if (57 : Int32) < x0 then
    ((0 : Int32))
  else
    ((1 : Int32)))
def rmX_Text_isDigit : Room := { frames := 0, cells := 0, slots := 0, locals := 0 }
abbrev GcX_Text_isDigit (l : Launch) (D : va_G) (T : cT) (ad : Nat → Nat) (Γ : Cxt) (o : Int32) (xo : Sl) (g0 : St) (x : Sl) (g : St) (pc : Nat) (lv : List (Nat × Value)) (stk : List Value) : Prop := Gj l shX D T ad 1 (rmX_Text_isDigit) 0 0 Γ (MQ Γ.below (va_Qi (eqZ o g0 xo) (wPost shX D T ad Γ.A) Γ.A) Γ.args Γ.s 0 0 Γ.A) x g pc lv stk
set_option maxRecDepth 100000 in
set_option maxHeartbeats 4000000 in
theorem cX_Text_isDigit (l : Launch) (D : va_G) (T : cT) (ad : Nat → Nat) (sK sV : Nat → Nat) (xo : Sl) (g : St) (x0 : Int32) (o : Int32) (h : fX_Text_isDigit x0 = o) (sz : Nat) : Met l yX9_isDigit wX_Text_isDigit (rmX_Text_isDigit) (va_Pc [.int x0] (xPre shX D T ad sK sV xo g sz)) (va_Qi (eqZ o g xo) (wPost shX D T ad (aW shX T ad xo g sz)) (aW shX T ad xo g sz)) 0 0 (aW shX T ad xo g sz) := by
  refine g_startx (Qc := fun A => va_Qi (eqZ o g xo) (wPost shX D T ad A) A) (by decide +kernel) rfl rfl (Nat.le_of_ble_eq_true rfl) (lv := [(0, .int x0)]) rfl (fun Γ Y => ?_)
  have C := Y.1
  show GcX_Text_isDigit l D T ad Γ o xo g xo g 0 [(0, .int x0)] []
  refine g_iload_n C dX9_isDigit_0 rfl 0 rfl ?_
  refine g_bipush C dX9_isDigit_1 bp_48 ?_
  refine g_icmp_lt C 16 dX9_isDigit_3 (by decide) (fun c3 => ?_) (fun c3 => ?_)
  · have h := iteT c3 h
    refine g_iconst C dX9_isDigit_16 ic_0 ?_
    subst h
    exact g_zret C rfl rfl rfl rfl dX9_isDigit_17
  · have h := iteF c3 h
    refine g_iload_n C dX9_isDigit_6 rfl 0 rfl ?_
    refine g_bipush C dX9_isDigit_7 bp_57 ?_
    refine g_icmp_gt C 16 dX9_isDigit_9 (by decide) (fun c9 => ?_) (fun c9 => ?_)
    · have h := iteT c9 h
      refine g_iconst C dX9_isDigit_16 ic_0 ?_
      subst h
      exact g_zret C rfl rfl rfl rfl dX9_isDigit_17
    · have h := iteF c9 h
      refine g_iconst C dX9_isDigit_12 ic_1 ?_
      refine g_goto (tgt := 17) C dX9_isDigit_13 (by decide) ?_
      subst h
      exact g_zret C rfl rfl rfl rfl dX9_isDigit_17
def fX_Text_blame (x1 : Int32) (x2 : Int32) (g : St) : St :=
  if (g 1 6) = 0 then
    ((st (st g 1 6 x1) 1 7 x2))
  else
    (g)
def rmX_Text_blame : Room := { frames := 0, cells := 0, slots := 0, locals := 0 }
abbrev GcX_Text_blame (l : Launch) (D : va_G) (T : cT) (ad : Nat → Nat) (Γ : Cxt) (o : St) (xo : Sl) (x : Sl) (g : St) (pc : Nat) (lv : List (Nat × Value)) (stk : List Value) : Prop := Gj l shX D T ad 3 (rmX_Text_blame) 0 0 Γ (MQ Γ.below (va_Qv (eqV o xo) (wPost shX D T ad Γ.A) Γ.A) Γ.args Γ.s 0 0 Γ.A) x g pc lv stk
set_option maxRecDepth 100000 in
set_option maxHeartbeats 4000000 in
theorem cX_Text_blame (l : Launch) (D : va_G) (T : cT) (ad : Nat → Nat) (sK sV : Nat → Nat) (xo : Sl) (g : St) (x1 : Int32) (x2 : Int32) (o : St) (h : fX_Text_blame x1 x2 g = o) (sz : Nat) : Met l yX9_blame wX_Text_blame (rmX_Text_blame) (va_Pc [.ref (ad 1), .int x1, .int x2] (xPre shX D T ad sK sV xo g sz)) (va_Qv (eqV o xo) (wPost shX D T ad (aW shX T ad xo g sz)) (aW shX T ad xo g sz)) 0 0 (aW shX T ad xo g sz) := by
  refine g_startx (Qc := fun A => va_Qv (eqV o xo) (wPost shX D T ad A) A) (by decide +kernel) rfl rfl (Nat.le_of_ble_eq_true rfl) (lv := [(0, .ref (ad 1)), (1, .int x1), (2, .int x2)]) rfl (fun Γ Y => ?_)
  have C := Y.1
  show GcX_Text_blame l D T ad Γ o xo xo g 0 [(0, .ref (ad 1)), (1, .int x1), (2, .int x2)] []
  refine g_aload_n C dX9_blame_0 rfl 0 rfl ?_
  refine gX_get_X9_34 (v := g 1 6) C ob_1 rfl rfl dX9_blame_1 ?_
  refine g_if_ne C 17 dX9_blame_4 (by decide) (fun c4 => ?_) (fun c4 => ?_)
  · have h := iteT c4 h
    refine g_aload_n C dX9_blame_7 rfl 0 rfl ?_
    refine g_iload_n C dX9_blame_8 rfl 1 rfl ?_
    refine gX_put_X9_34 C ob_1 rfl dX9_blame_9 ?_
    refine g_aload_n C dX9_blame_12 rfl 0 rfl ?_
    refine g_iload_n C dX9_blame_13 rfl 2 rfl ?_
    refine gX_put_X9_15 C ob_1 rfl dX9_blame_14 ?_
    subst h
    exact g_vret C rfl rfl dX9_blame_17
  · have h := iteF c4 h
    subst h
    exact g_vret C rfl rfl dX9_blame_17
def fX_Text_number_b117 (g : St) : Option (Int32 × St) :=
  lt1 (fX_Text_blame (2 : Int32) (g 1 5) g) fun g123 => (some ((-1 : Int32), g123))
def fX_Text_number_L40 (x1 : Int32) (x2 : Int32) : (Int32 × St) → Option ((Int32 × St) ⊕ ((Int32 × St))) := fun ⟨x3, g⟩ =>
  if (g 1 2) ≤ (g 1 3) then
    (some (.inr (x3, g)))
  else
    ((fX_Rows_at 16 (g 1 3) g).bind fun r59 => (if (fX_Text_isDigit r59) = 0 then
    (some (.inr (x3, g)))
  else
    ((fX_Rows_at 16 (g 1 3) g).bind fun r83 => (some (.inl ((if (((x3 * (10 : Int32)) + r83) - (48 : Int32)) < (10000 : Int32) then (((x3 * (10 : Int32)) + r83) - (48 : Int32)) else (10000 : Int32)), (st g 1 3 ((g 1 3) + (1 : Int32)))))))))
def fX_Text_number_b40 (x1 : Int32) (x2 : Int32) (x3 : Int32) (g : St) : Option (Int32 × St) :=
  (lp (fX_Text_number_L40 x1 x2) fuel (x3, g)).bind (fun ⟨x3, g⟩ => if x3 < x1 then
    (fX_Text_number_b117 g)
  else
    (if x3 ≤ x2 then
    (some (x3, g))
  else
    (fX_Text_number_b117 g)))
def fX_Text_number (x1 : Int32) (x2 : Int32) (g : St) : Option (Int32 × St) :=
  if (g 1 6) = 0 then
    ((fX_Text_nextByte g).bind fun ⟨r10, g10⟩ => (if (fX_Text_isDigit r10) = 0 then
    (lt1 (fX_Text_blame (1 : Int32) (g10 1 3) g10) fun g25 => (some ((-1 : Int32), g25)))
  else
    (fX_Text_number_b40 x1 x2 (0 : Int32) (st g10 1 5 (g10 1 3)))))
  else
    (some ((-1 : Int32), g))
def rmX_Text_number : Room := { frames := 2, cells := 0, slots := 0, locals := 41 }
abbrev GcX_Text_number (l : Launch) (D : va_G) (T : cT) (ad : Nat → Nat) (Γ : Cxt) (o : Int32 × St) (xo : Sl) (x : Sl) (g : St) (pc : Nat) (lv : List (Nat × Value)) (stk : List Value) : Prop := Gj l shX D T ad 4 (rmX_Text_number) 0 0 Γ (MQ Γ.below (va_Qi (eqI o.1 o.2 xo) (wPost shX D T ad Γ.A) Γ.A) Γ.args Γ.s 0 0 Γ.A) x g pc lv stk
set_option maxRecDepth 100000 in
set_option maxHeartbeats 4000000 in
theorem cX_Text_number (l : Launch) (D : va_G) (T : cT) (ad : Nat → Nat) (sK sV : Nat → Nat) (xo : Sl) (g : St) (x1 : Int32) (x2 : Int32) (o : Int32 × St) (h : fX_Text_number x1 x2 g = some o) (sz : Nat) : Met l yX9_number wX_Text_number (rmX_Text_number) (va_Pc [.ref (ad 1), .int x1, .int x2] (xPre shX D T ad sK sV xo g sz)) (va_Qi (eqI o.1 o.2 xo) (wPost shX D T ad (aW shX T ad xo g sz)) (aW shX T ad xo g sz)) 0 0 (aW shX T ad xo g sz) := by
  refine g_startx (Qc := fun A => va_Qi (eqI o.1 o.2 xo) (wPost shX D T ad A) A) (by decide +kernel) rfl rfl (Nat.le_of_ble_eq_true rfl) (lv := [(0, .ref (ad 1)), (1, .int x1), (2, .int x2)]) rfl (fun Γ Y => ?_)
  have C := Y.1
  show GcX_Text_number l D T ad Γ o xo xo g 0 [(0, .ref (ad 1)), (1, .int x1), (2, .int x2)] []
  have J117 : ∀ (g : St), fX_Text_number_b117 g = some o → GcX_Text_number l D T ad Γ o xo xo g 117 [(0, .ref (ad 1))] [] := by
    intro g h
    refine g_aload_n C dX9_number_117 rfl 0 rfl ?_
    refine g_iconst C dX9_number_118 ic_2 ?_
    refine g_aload_n C dX9_number_119 rfl 0 rfl ?_
    refine gX_get_X9_53 (v := g 1 5) C ob_1 rfl rfl dX9_number_120 ?_
    obtain ⟨g123, hr123, h⟩ := ltb h
    refine g_xVv (k := 1) (As := [.int (2 : Int32), .int (g 1 5)]) (rest := []) (go := g123) (xo := xo) Y (fun sz => cX_Text_blame l D T ad sK sV xo g (2 : Int32) (g 1 5) _ hr123 sz) kX_RX9_45_Text_blame ⟨Nat.le_of_ble_eq_true rfl, Nat.le_of_ble_eq_true rfl⟩ ⟨rfl, rfl⟩ ⟨Nat.zero_le _, Nat.zero_le _⟩ (rfl : vwCl[8]? = some (RX9, TX9, 8)) ob_1 rfl rfl (Nat.le_of_ble_eq_true rfl) dX9_number_123 ?_
    refine g_iconst C dX9_number_126 ic_m1 ?_
    obtain rfl := Option.some.inj h
    exact g_iret C rfl rfl rfl dX9_number_127
  have J40 : ∀ (x1 : Int32) (x2 : Int32) (x3 : Int32) (g : St), fX_Text_number_b40 x1 x2 x3 g = some o → GcX_Text_number l D T ad Γ o xo xo g 40 [(0, .ref (ad 1)), (1, .int x1), (2, .int x2), (3, .int x3)] [] := by
    intro x1 x2 x3 g h
    obtain ⟨⟨x3, g⟩, ht, h⟩ := bnd h
    refine lp_run (P := fun t : Int32 × St => match t with | (x3, g) => GcX_Text_number l D T ad Γ o xo xo g 40 [(0, .ref (ad 1)), (1, .int x1), (2, .int x2), (3, .int x3)] []) (E := fun t : Int32 × St => match t with | (x3, g) => GcX_Text_number l D T ad Γ o xo xo g 107 [(0, .ref (ad 1)), (1, .int x1), (2, .int x2), (3, .int x3)] []) ?_ _ _ _ ht ?_
    · rintro ⟨x3, g⟩ z h Kt Ke
      show GcX_Text_number l D T ad Γ o xo xo g 40 [(0, .ref (ad 1)), (1, .int x1), (2, .int x2), (3, .int x3)] []
      refine g_aload_n C dX9_number_40 rfl 0 rfl ?_
      refine gX_get_X9_31 (v := g 1 3) C ob_1 rfl rfl dX9_number_41 ?_
      refine g_aload_n C dX9_number_44 rfl 0 rfl ?_
      refine gX_get_X9_28 (v := g 1 2) C ob_1 rfl rfl dX9_number_45 ?_
      refine g_icmp_ge C 107 dX9_number_48 (by decide) (fun c48 => ?_) (fun c48 => ?_)
      · have h := iteT c48 h
        exact g_sub [0, 1, 2, 3] rfl (Ke _ (Option.some.inj h).symm)
      · have h := iteF c48 h
        refine g_aload_n C dX9_number_51 rfl 0 rfl ?_
        refine gX_get_X9_9 C ob_1 rfl dX9_number_52 ?_
        refine g_aload_n C dX9_number_55 rfl 0 rfl ?_
        refine gX_get_X9_31 (v := g 1 3) C ob_1 rfl rfl dX9_number_56 ?_
        obtain ⟨r59, hr59, h⟩ := bnd h
        refine g_xSi (As := [.ref (ad 16), .int (g 1 3)]) (rest := []) (ro := r59) (go := g) (xo := xo) Y (fun sz => cX_Rows_at l D T ad sK sV xo g 16 (g 1 3) _ hr59 sz) kX_RX9_37_Rows_at ⟨Nat.le_of_ble_eq_true rfl, Nat.le_of_ble_eq_true rfl⟩ ⟨rfl, rfl⟩ ⟨Nat.zero_le _, Nat.zero_le _⟩ rfl rfl (Nat.le_of_ble_eq_true rfl) dX9_number_59 ?_
        refine g_xSz (As := [.int r59]) (rest := []) (ro := (fX_Text_isDigit r59)) (go := g) (xo := xo) Y (fun sz => cX_Text_isDigit l D T ad sK sV xo g r59 _ rfl sz) kX_RX9_49_Text_isDigit ⟨Nat.le_of_ble_eq_true rfl, Nat.le_of_ble_eq_true rfl⟩ ⟨rfl, rfl⟩ ⟨Nat.zero_le _, Nat.zero_le _⟩ rfl rfl (Nat.le_of_ble_eq_true rfl) dX9_number_62 (fun hz62 => ?_)
        refine g_if_eq C 107 dX9_number_65 (by decide) (fun c65 => ?_) (fun c65 => ?_)
        · have h := iteT c65 h
          exact g_sub [0, 1, 2, 3] rfl (Ke _ (Option.some.inj h).symm)
        · have h := iteF c65 h
          refine g_sipush C dX9_number_68 sp_10000 ?_
          refine g_iload_n C dX9_number_71 rfl 3 rfl ?_
          refine g_bipush C dX9_number_72 bp_10 ?_
          refine g_imul C dX9_number_74 ?_
          refine g_aload_n C dX9_number_75 rfl 0 rfl ?_
          refine gX_get_X9_9 C ob_1 rfl dX9_number_76 ?_
          refine g_aload_n C dX9_number_79 rfl 0 rfl ?_
          refine gX_get_X9_31 (v := g 1 3) C ob_1 rfl rfl dX9_number_80 ?_
          obtain ⟨r83, hr83, h⟩ := bnd h
          refine g_xSi (As := [.ref (ad 16), .int (g 1 3)]) (rest := [.int (x3 * (10 : Int32)), .int (10000 : Int32)]) (ro := r83) (go := g) (xo := xo) Y (fun sz => cX_Rows_at l D T ad sK sV xo g 16 (g 1 3) _ hr83 sz) kX_RX9_37_Rows_at ⟨Nat.le_of_ble_eq_true rfl, Nat.le_of_ble_eq_true rfl⟩ ⟨rfl, rfl⟩ ⟨Nat.zero_le _, Nat.zero_le _⟩ rfl rfl (Nat.le_of_ble_eq_true rfl) dX9_number_83 ?_
          refine g_iadd C dX9_number_86 ?_
          refine g_bipush C dX9_number_87 bp_48 ?_
          refine g_isub C dX9_number_89 ?_
          refine g_mmin (rest := []) C (List.mem_cons_of_mem _ bx_55) (List.mem_cons_of_mem _ bx_56) (List.mem_cons_of_mem _ bx_57) (List.mem_cons_of_mem _ bx_58) (Nat.le_of_ble_eq_true rfl) (Nat.le_of_ble_eq_true rfl) ⟨Nat.zero_le _, Nat.zero_le _⟩ dX9_number_90 ?_
          refine g_istore_n (lv' := [(3, .int (if (((x3 * (10 : Int32)) + r83) - (48 : Int32)) < (10000 : Int32) then (((x3 * (10 : Int32)) + r83) - (48 : Int32)) else (10000 : Int32))), (0, .ref (ad 1)), (1, .int x1), (2, .int x2)]) C dX9_number_93 rfl (Nat.le_of_ble_eq_true rfl) rfl ?_
          refine g_aload_n C dX9_number_94 rfl 1 rfl ?_
          refine g_dup C dX9_number_95 rfl ?_
          refine gX_get_X9_31 (v := g 1 3) C ob_1 rfl rfl dX9_number_96 ?_
          refine g_iconst C dX9_number_99 ic_1 ?_
          refine g_iadd C dX9_number_100 ?_
          refine gX_put_X9_31 C ob_1 rfl dX9_number_101 ?_
          refine g_goto (tgt := 40) C dX9_number_104 (by decide) ?_
          exact g_sub [1, 2, 3, 0] rfl (Kt _ (Option.some.inj h).symm)
    · show GcX_Text_number l D T ad Γ o xo xo g 107 [(0, .ref (ad 1)), (1, .int x1), (2, .int x2), (3, .int x3)] []
      refine g_iload_n C dX9_number_107 rfl 3 rfl ?_
      refine g_iload_n C dX9_number_108 rfl 1 rfl ?_
      refine g_icmp_lt C 117 dX9_number_109 (by decide) (fun c109 => ?_) (fun c109 => ?_)
      · have h := iteT c109 h
        exact g_sub [0] rfl (J117 g h)
      · have h := iteF c109 h
        refine g_iload_n C dX9_number_112 rfl 3 rfl ?_
        refine g_iload_n C dX9_number_113 rfl 2 rfl ?_
        refine g_icmp_le C 128 dX9_number_114 (by decide) (fun c114 => ?_) (fun c114 => ?_)
        · have h := iteT c114 h
          refine g_iload_n C dX9_number_128 rfl 3 rfl ?_
          obtain rfl := Option.some.inj h
          exact g_iret C rfl rfl rfl dX9_number_129
        · have h := iteF c114 h
          exact g_sub [0] rfl (J117 g h)
  refine g_aload_n C dX9_number_0 rfl 0 rfl ?_
  refine gX_get_X9_34 (v := g 1 6) C ob_1 rfl rfl dX9_number_1 ?_
  refine g_if_eq C 9 dX9_number_4 (by decide) (fun c4 => ?_) (fun c4 => ?_)
  · have h := iteT c4 h
    refine g_aload_n C dX9_number_9 rfl 0 rfl ?_
    obtain ⟨⟨r10, g10⟩, hr10, h⟩ := bnd h
    refine g_xVi (k := 1) (As := []) (rest := []) (ro := r10) (go := g10) (xo := xo) Y (fun sz => cX_Text_nextByte l D T ad sK sV xo g _ hr10 sz) kX_RX9_41_Text_nextByte ⟨Nat.le_of_ble_eq_true rfl, Nat.le_of_ble_eq_true rfl⟩ ⟨rfl, rfl⟩ ⟨Nat.zero_le _, Nat.zero_le _⟩ (rfl : vwCl[8]? = some (RX9, TX9, 8)) ob_1 rfl rfl (Nat.le_of_ble_eq_true rfl) dX9_number_10 ?_
    refine g_xSz (As := [.int r10]) (rest := []) (ro := (fX_Text_isDigit r10)) (go := g10) (xo := xo) Y (fun sz => cX_Text_isDigit l D T ad sK sV xo g10 r10 _ rfl sz) kX_RX9_49_Text_isDigit ⟨Nat.le_of_ble_eq_true rfl, Nat.le_of_ble_eq_true rfl⟩ ⟨rfl, rfl⟩ ⟨Nat.zero_le _, Nat.zero_le _⟩ rfl rfl (Nat.le_of_ble_eq_true rfl) dX9_number_13 (fun hz13 => ?_)
    refine g_if_ne C 30 dX9_number_16 (by decide) (fun c16 => ?_) (fun c16 => ?_)
    · have h := iteT c16 h
      refine g_aload_n C dX9_number_19 rfl 0 rfl ?_
      refine g_iconst C dX9_number_20 ic_1 ?_
      refine g_aload_n C dX9_number_21 rfl 0 rfl ?_
      refine gX_get_X9_31 (v := g10 1 3) C ob_1 rfl rfl dX9_number_22 ?_
      obtain ⟨g25, hr25, h⟩ := ltb h
      refine g_xVv (k := 1) (As := [.int (1 : Int32), .int (g10 1 3)]) (rest := []) (go := g25) (xo := xo) Y (fun sz => cX_Text_blame l D T ad sK sV xo g10 (1 : Int32) (g10 1 3) _ hr25 sz) kX_RX9_45_Text_blame ⟨Nat.le_of_ble_eq_true rfl, Nat.le_of_ble_eq_true rfl⟩ ⟨rfl, rfl⟩ ⟨Nat.zero_le _, Nat.zero_le _⟩ (rfl : vwCl[8]? = some (RX9, TX9, 8)) ob_1 rfl rfl (Nat.le_of_ble_eq_true rfl) dX9_number_25 ?_
      refine g_iconst C dX9_number_28 ic_m1 ?_
      obtain rfl := Option.some.inj h
      exact g_iret C rfl rfl rfl dX9_number_29
    · have h := iteF c16 h
      refine g_aload_n C dX9_number_30 rfl 0 rfl ?_
      refine g_aload_n C dX9_number_31 rfl 0 rfl ?_
      refine gX_get_X9_31 (v := g10 1 3) C ob_1 rfl rfl dX9_number_32 ?_
      refine gX_put_X9_53 C ob_1 rfl dX9_number_35 ?_
      refine g_iconst C dX9_number_38 ic_0 ?_
      refine g_istore_n (lv' := [(3, .int (0 : Int32)), (0, .ref (ad 1)), (1, .int x1), (2, .int x2)]) C dX9_number_39 rfl (Nat.le_of_ble_eq_true rfl) rfl ?_
      exact g_sub [1, 2, 3, 0] rfl (J40 x1 x2 (0 : Int32) (st g10 1 5 (g10 1 3)) h)
  · have h := iteF c4 h
    refine g_iconst C dX9_number_7 ic_m1 ?_
    obtain rfl := Option.some.inj h
    exact g_iret C rfl rfl rfl dX9_number_8
def fX_Text_isSound (g : St) : Int32 :=
  if (g 1 6) = 0 then
    ((1 : Int32))
  else
    ((0 : Int32))
def rmX_Text_isSound : Room := { frames := 0, cells := 0, slots := 0, locals := 0 }
abbrev GcX_Text_isSound (l : Launch) (D : va_G) (T : cT) (ad : Nat → Nat) (Γ : Cxt) (o : Int32) (xo : Sl) (g0 : St) (x : Sl) (g : St) (pc : Nat) (lv : List (Nat × Value)) (stk : List Value) : Prop := Gj l shX D T ad 1 (rmX_Text_isSound) 0 0 Γ (MQ Γ.below (va_Qi (eqZ o g0 xo) (wPost shX D T ad Γ.A) Γ.A) Γ.args Γ.s 0 0 Γ.A) x g pc lv stk
set_option maxRecDepth 100000 in
set_option maxHeartbeats 4000000 in
theorem cX_Text_isSound (l : Launch) (D : va_G) (T : cT) (ad : Nat → Nat) (sK sV : Nat → Nat) (xo : Sl) (g : St) (o : Int32) (h : fX_Text_isSound g = o) (sz : Nat) : Met l yX9_isSound wX_Text_isSound (rmX_Text_isSound) (va_Pc [.ref (ad 1)] (xPre shX D T ad sK sV xo g sz)) (va_Qi (eqZ o g xo) (wPost shX D T ad (aW shX T ad xo g sz)) (aW shX T ad xo g sz)) 0 0 (aW shX T ad xo g sz) := by
  refine g_startx (Qc := fun A => va_Qi (eqZ o g xo) (wPost shX D T ad A) A) (by decide +kernel) rfl rfl (Nat.le_of_ble_eq_true rfl) (lv := [(0, .ref (ad 1))]) rfl (fun Γ Y => ?_)
  have C := Y.1
  show GcX_Text_isSound l D T ad Γ o xo g xo g 0 [(0, .ref (ad 1))] []
  refine g_aload_n C dX9_isSound_0 rfl 0 rfl ?_
  refine gX_get_X9_34 (v := g 1 6) C ob_1 rfl rfl dX9_isSound_1 ?_
  refine g_if_ne C 11 dX9_isSound_4 (by decide) (fun c4 => ?_) (fun c4 => ?_)
  · have h := iteT c4 h
    refine g_iconst C dX9_isSound_7 ic_1 ?_
    refine g_goto (tgt := 12) C dX9_isSound_8 (by decide) ?_
    subst h
    exact g_zret C rfl rfl rfl rfl dX9_isSound_12
  · have h := iteF c4 h
    refine g_iconst C dX9_isSound_11 ic_0 ?_
    subst h
    exact g_zret C rfl rfl rfl rfl dX9_isSound_12
def fX_Text_expect (x1 : Int32) (g : St) : Option (St) :=
  if (g 1 6) = 0 then
    ((fX_Text_nextByte g).bind fun ⟨r9, g9⟩ => (if r9 = x1 then
    (some (st g9 1 3 ((g9 1 3) + (1 : Int32))))
  else
    (lt1 (fX_Text_blame (1 : Int32) (g9 1 3) g9) fun g35 => (some g35))))
  else
    (some g)
def rmX_Text_expect : Room := { frames := 2, cells := 0, slots := 0, locals := 41 }
abbrev GcX_Text_expect (l : Launch) (D : va_G) (T : cT) (ad : Nat → Nat) (Γ : Cxt) (o : St) (xo : Sl) (x : Sl) (g : St) (pc : Nat) (lv : List (Nat × Value)) (stk : List Value) : Prop := Gj l shX D T ad 2 (rmX_Text_expect) 0 0 Γ (MQ Γ.below (va_Qv (eqV o xo) (wPost shX D T ad Γ.A) Γ.A) Γ.args Γ.s 0 0 Γ.A) x g pc lv stk
set_option maxRecDepth 100000 in
set_option maxHeartbeats 4000000 in
theorem cX_Text_expect (l : Launch) (D : va_G) (T : cT) (ad : Nat → Nat) (sK sV : Nat → Nat) (xo : Sl) (g : St) (x1 : Int32) (o : St) (h : fX_Text_expect x1 g = some o) (sz : Nat) : Met l yX9_expect wX_Text_expect (rmX_Text_expect) (va_Pc [.ref (ad 1), .int x1] (xPre shX D T ad sK sV xo g sz)) (va_Qv (eqV o xo) (wPost shX D T ad (aW shX T ad xo g sz)) (aW shX T ad xo g sz)) 0 0 (aW shX T ad xo g sz) := by
  refine g_startx (Qc := fun A => va_Qv (eqV o xo) (wPost shX D T ad A) A) (by decide +kernel) rfl rfl (Nat.le_of_ble_eq_true rfl) (lv := [(0, .ref (ad 1)), (1, .int x1)]) rfl (fun Γ Y => ?_)
  have C := Y.1
  show GcX_Text_expect l D T ad Γ o xo xo g 0 [(0, .ref (ad 1)), (1, .int x1)] []
  refine g_aload_n C dX9_expect_0 rfl 0 rfl ?_
  refine gX_get_X9_34 (v := g 1 6) C ob_1 rfl rfl dX9_expect_1 ?_
  refine g_if_eq C 8 dX9_expect_4 (by decide) (fun c4 => ?_) (fun c4 => ?_)
  · have h := iteT c4 h
    refine g_aload_n C dX9_expect_8 rfl 0 rfl ?_
    obtain ⟨⟨r9, g9⟩, hr9, h⟩ := bnd h
    refine g_xVi (k := 1) (As := []) (rest := []) (ro := r9) (go := g9) (xo := xo) Y (fun sz => cX_Text_nextByte l D T ad sK sV xo g _ hr9 sz) kX_RX9_41_Text_nextByte ⟨Nat.le_of_ble_eq_true rfl, Nat.le_of_ble_eq_true rfl⟩ ⟨rfl, rfl⟩ ⟨Nat.zero_le _, Nat.zero_le _⟩ (rfl : vwCl[8]? = some (RX9, TX9, 8)) ob_1 rfl rfl (Nat.le_of_ble_eq_true rfl) dX9_expect_9 ?_
    refine g_iload_n C dX9_expect_12 rfl 1 rfl ?_
    refine g_icmp_ne C 29 dX9_expect_13 (by decide) (fun c13 => ?_) (fun c13 => ?_)
    · have h := iteT c13 h
      refine g_aload_n C dX9_expect_16 rfl 0 rfl ?_
      refine g_dup C dX9_expect_17 rfl ?_
      refine gX_get_X9_31 (v := g9 1 3) C ob_1 rfl rfl dX9_expect_18 ?_
      refine g_iconst C dX9_expect_21 ic_1 ?_
      refine g_iadd C dX9_expect_22 ?_
      refine gX_put_X9_31 C ob_1 rfl dX9_expect_23 ?_
      refine g_goto (tgt := 38) C dX9_expect_26 (by decide) ?_
      obtain rfl := Option.some.inj h
      exact g_vret C rfl rfl dX9_expect_38
    · have h := iteF c13 h
      refine g_aload_n C dX9_expect_29 rfl 0 rfl ?_
      refine g_iconst C dX9_expect_30 ic_1 ?_
      refine g_aload_n C dX9_expect_31 rfl 0 rfl ?_
      refine gX_get_X9_31 (v := g9 1 3) C ob_1 rfl rfl dX9_expect_32 ?_
      obtain ⟨g35, hr35, h⟩ := ltb h
      refine g_xVv (k := 1) (As := [.int (1 : Int32), .int (g9 1 3)]) (rest := []) (go := g35) (xo := xo) Y (fun sz => cX_Text_blame l D T ad sK sV xo g9 (1 : Int32) (g9 1 3) _ hr35 sz) kX_RX9_45_Text_blame ⟨Nat.le_of_ble_eq_true rfl, Nat.le_of_ble_eq_true rfl⟩ ⟨rfl, rfl⟩ ⟨Nat.zero_le _, Nat.zero_le _⟩ (rfl : vwCl[8]? = some (RX9, TX9, 8)) ob_1 rfl rfl (Nat.le_of_ble_eq_true rfl) dX9_expect_35 ?_
      obtain rfl := Option.some.inj h
      exact g_vret C rfl rfl dX9_expect_38
  · have h := iteF c4 h
    obtain rfl := Option.some.inj h
    exact g_vret C rfl rfl dX9_expect_7
def fX_Book_readFrom_b54 (th : Nat) (x2 : Int32) (x3 : Int32) (x4 : Int32) (g : St) : Option ((Int32 × St) ⊕ (St)) :=
  (fX_Text_number (0 : Int32) (8 : Int32) g).bind fun ⟨r64, g64⟩ => ((fX_Rows_put (rX th 0) x4 r64 g64).bind fun g67 => ((fX_Text_expect (59 : Int32) (st g67 th 1 ((g67 th 1) + (1 : Int32)))).bind fun g83 => (some (.inl ((x3 + (1 : Int32)), g83)))))
def fX_Book_readFrom_L6 (th : Nat) (x2 : Int32) : (Int32 × St) → Option ((Int32 × St) ⊕ (St)) := fun ⟨x3, g⟩ =>
  if (8 : Int32) < x3 then
    (some (.inr g))
  else
    ((fX_Text_hasMore g).bind fun ⟨r13, g13⟩ => (if r13 = 0 then
    (some (.inr g13))
  else
    ((fX_Text_number (0 : Int32) (x2 - (1 : Int32)) g13).bind fun ⟨r24, g24⟩ => (if (fX_Text_isSound g24) = 0 then
    (fX_Book_readFrom_b54 th x2 x3 r24 g24)
  else
    ((fX_Book_tellsOf th r24 g24).bind fun r39 => (if r39 = 0 then
    (fX_Book_readFrom_b54 th x2 x3 r24 g24)
  else
    (lt1 (fX_Text_blame (2 : Int32) (g24 1 5) g24) fun g51 => (fX_Book_readFrom_b54 th x2 x3 r24 g51))))))))
def fX_Book_readFrom_b6 (th : Nat) (x2 : Int32) (x3 : Int32) (g : St) : Option (St) :=
  (lp (fX_Book_readFrom_L6 th x2) fuel (x3, g)).bind (fun g => some g)
def fX_Book_readFrom (th : Nat) (x2 : Int32) (g : St) : Option (St) :=
  (fX_Book_clear th g).bind fun g1 => (fX_Book_readFrom_b6 th x2 (0 : Int32) g1)
def rmX_Book_readFrom : Room := { frames := 3, cells := 0, slots := 0, locals := 64 }
abbrev GcX_Book_readFrom (l : Launch) (D : va_G) (T : cT) (ad : Nat → Nat) (Γ : Cxt) (o : St) (xo : Sl) (x : Sl) (g : St) (pc : Nat) (lv : List (Nat × Value)) (stk : List Value) : Prop := Gj l shX D T ad 5 (rmX_Book_readFrom) 0 0 Γ (MQ Γ.below (va_Qv (eqV o xo) (wPost shX D T ad Γ.A) Γ.A) Γ.args Γ.s 0 0 Γ.A) x g pc lv stk
set_option maxRecDepth 100000 in
set_option maxHeartbeats 4000000 in
theorem cX_Book_readFrom (l : Launch) (D : va_G) (T : cT) (ad : Nat → Nat) (sK sV : Nat → Nat) (xo : Sl) (g : St) (th : Nat) (x2 : Int32) (hth : isBook th) (o : St) (h : fX_Book_readFrom th x2 g = some o) (sz : Nat) : Met l yX0_readFrom wX_Book_readFrom (rmX_Book_readFrom) (va_Pc [.ref (ad th), .ref (ad 1), .int x2] (xPre shX D T ad sK sV xo g sz)) (va_Qv (eqV o xo) (wPost shX D T ad (aW shX T ad xo g sz)) (aW shX T ad xo g sz)) 0 0 (aW shX T ad xo g sz) := by
  refine g_startx (Qc := fun A => va_Qv (eqV o xo) (wPost shX D T ad A) A) (by decide +kernel) rfl rfl (Nat.le_of_ble_eq_true rfl) (lv := [(0, .ref (ad th)), (1, .ref (ad 1)), (2, .int x2)]) rfl (fun Γ Y => ?_)
  have C := Y.1
  show GcX_Book_readFrom l D T ad Γ o xo xo g 0 [(0, .ref (ad th)), (1, .ref (ad 1)), (2, .int x2)] []
  have J6 : ∀ (x2 : Int32) (x3 : Int32) (g : St), fX_Book_readFrom_b6 th x2 x3 g = some o → GcX_Book_readFrom l D T ad Γ o xo xo g 6 [(0, .ref (ad th)), (1, .ref (ad 1)), (2, .int x2), (3, .int x3)] [] := by
    intro x2 x3 g h
    obtain ⟨g, ht, h⟩ := bnd h
    refine lp_run (P := fun t : Int32 × St => match t with | (x3, g) => GcX_Book_readFrom l D T ad Γ o xo xo g 6 [(0, .ref (ad th)), (1, .ref (ad 1)), (2, .int x2), (3, .int x3)] []) (E := fun g : St => GcX_Book_readFrom l D T ad Γ o xo xo g 92 [] []) ?_ _ _ _ ht ?_
    · rintro ⟨x3, g⟩ z h Kt Ke
      show GcX_Book_readFrom l D T ad Γ o xo xo g 6 [(0, .ref (ad th)), (1, .ref (ad 1)), (2, .int x2), (3, .int x3)] []
      have J54 : ∀ (x3 : Int32) (x4 : Int32) (g : St), fX_Book_readFrom_b54 th x2 x3 x4 g = some z → GcX_Book_readFrom l D T ad Γ o xo xo g 54 [(0, .ref (ad th)), (1, .ref (ad 1)), (2, .int x2), (3, .int x3), (4, .int x4)] [] := by
        intro x3 x4 g h
        refine g_aload_n C dX0_readFrom_54 rfl 0 rfl ?_
        refine gX_get_X0_9 C (ob_Book hth) (rf_Book_0 hth) dX0_readFrom_55 ?_
        refine g_iload C dX0_readFrom_58 4 rfl ?_
        refine g_aload_n C dX0_readFrom_60 rfl 1 rfl ?_
        refine g_iconst C dX0_readFrom_61 ic_0 ?_
        refine g_bipush C dX0_readFrom_62 bp_8 ?_
        obtain ⟨⟨r64, g64⟩, hr64, h⟩ := bnd h
        refine g_xVi (k := 1) (As := [.int (0 : Int32), .int (8 : Int32)]) (rest := [.int x4, .ref (ad (rX th 0))]) (ro := r64) (go := g64) (xo := xo) Y (fun sz => cX_Text_number l D T ad sK sV xo g (0 : Int32) (8 : Int32) _ hr64 sz) kX_RX0_48_Text_number ⟨Nat.le_of_ble_eq_true rfl, Nat.le_of_ble_eq_true rfl⟩ ⟨rfl, rfl⟩ ⟨Nat.zero_le _, Nat.zero_le _⟩ (rfl : vwCl[8]? = some (RX9, TX9, 8)) ob_1 rfl rfl (Nat.le_of_ble_eq_true rfl) dX0_readFrom_64 ?_
        obtain ⟨g67, hr67, h⟩ := bnd h
        refine g_xSv (As := [.ref (ad (rX th 0)), .int x4, .int r64]) (rest := []) (go := g67) (xo := xo) Y (fun sz => cX_Rows_put l D T ad sK sV xo g64 (rX th 0) x4 r64 _ hr67 sz) kX_RX0_62_Rows_put ⟨Nat.le_of_ble_eq_true rfl, Nat.le_of_ble_eq_true rfl⟩ ⟨rfl, rfl⟩ ⟨Nat.zero_le _, Nat.zero_le _⟩ rfl rfl (Nat.le_of_ble_eq_true rfl) dX0_readFrom_67 ?_
        refine g_aload_n C dX0_readFrom_70 rfl 0 rfl ?_
        refine g_dup C dX0_readFrom_71 rfl ?_
        refine gX_get_X0_15 (v := g67 th 1) C (ob_Book hth) (rf_Book_1 hth) rfl dX0_readFrom_72 ?_
        refine g_iconst C dX0_readFrom_75 ic_1 ?_
        refine g_iadd C dX0_readFrom_76 ?_
        refine gX_put_X0_15 C (ob_Book hth) (rf_Book_1 hth) dX0_readFrom_77 ?_
        refine g_aload_n C dX0_readFrom_80 rfl 1 rfl ?_
        refine g_bipush C dX0_readFrom_81 bp_59 ?_
        obtain ⟨g83, hr83, h⟩ := bnd h
        refine g_xVv (k := 1) (As := [.int (59 : Int32)]) (rest := []) (go := g83) (xo := xo) Y (fun sz => cX_Text_expect l D T ad sK sV xo (st g67 th 1 ((g67 th 1) + (1 : Int32))) (59 : Int32) _ hr83 sz) kX_RX0_66_Text_expect ⟨Nat.le_of_ble_eq_true rfl, Nat.le_of_ble_eq_true rfl⟩ ⟨rfl, rfl⟩ ⟨Nat.zero_le _, Nat.zero_le _⟩ (rfl : vwCl[8]? = some (RX9, TX9, 8)) ob_1 rfl rfl (Nat.le_of_ble_eq_true rfl) dX0_readFrom_83 ?_
        refine g_iinc (lv' := [(3, .int (x3 + (1 : Int32))), (0, .ref (ad th)), (1, .ref (ad 1)), (2, .int x2), (4, .int x4)]) C dX0_readFrom_86 3 rfl (ii_1 _) (Nat.le_of_ble_eq_true rfl) rfl ?_
        refine g_goto (tgt := 6) C dX0_readFrom_89 (by decide) ?_
        exact g_sub [1, 2, 3, 0] rfl (Kt _ (Option.some.inj h).symm)
      refine g_iload_n C dX0_readFrom_6 rfl 3 rfl ?_
      refine g_bipush C dX0_readFrom_7 bp_8 ?_
      refine g_icmp_gt C 92 dX0_readFrom_9 (by decide) (fun c9 => ?_) (fun c9 => ?_)
      · have h := iteT c9 h
        exact g_sub [] rfl (Ke _ (Option.some.inj h).symm)
      · have h := iteF c9 h
        refine g_aload_n C dX0_readFrom_12 rfl 1 rfl ?_
        obtain ⟨⟨r13, g13⟩, hr13, h⟩ := bnd h
        refine g_xVz (k := 1) (As := []) (rest := []) (ro := r13) (go := g13) (xo := xo) Y (fun sz => cX_Text_hasMore l D T ad sK sV xo g _ hr13 sz) kX_RX0_42_Text_hasMore ⟨Nat.le_of_ble_eq_true rfl, Nat.le_of_ble_eq_true rfl⟩ ⟨rfl, rfl⟩ ⟨Nat.zero_le _, Nat.zero_le _⟩ (rfl : vwCl[8]? = some (RX9, TX9, 8)) ob_1 rfl rfl (Nat.le_of_ble_eq_true rfl) dX0_readFrom_13 (fun hz13 => ?_)
        refine g_if_eq C 92 dX0_readFrom_16 (by decide) (fun c16 => ?_) (fun c16 => ?_)
        · have h := iteT c16 h
          exact g_sub [] rfl (Ke _ (Option.some.inj h).symm)
        · have h := iteF c16 h
          refine g_aload_n C dX0_readFrom_19 rfl 1 rfl ?_
          refine g_iconst C dX0_readFrom_20 ic_0 ?_
          refine g_iload_n C dX0_readFrom_21 rfl 2 rfl ?_
          refine g_iconst C dX0_readFrom_22 ic_1 ?_
          refine g_isub C dX0_readFrom_23 ?_
          obtain ⟨⟨r24, g24⟩, hr24, h⟩ := bnd h
          refine g_xVi (k := 1) (As := [.int (0 : Int32), .int (x2 - (1 : Int32))]) (rest := []) (ro := r24) (go := g24) (xo := xo) Y (fun sz => cX_Text_number l D T ad sK sV xo g13 (0 : Int32) (x2 - (1 : Int32)) _ hr24 sz) kX_RX0_48_Text_number ⟨Nat.le_of_ble_eq_true rfl, Nat.le_of_ble_eq_true rfl⟩ ⟨rfl, rfl⟩ ⟨Nat.zero_le _, Nat.zero_le _⟩ (rfl : vwCl[8]? = some (RX9, TX9, 8)) ob_1 rfl rfl (Nat.le_of_ble_eq_true rfl) dX0_readFrom_24 ?_
          refine g_istore (lv' := [(4, .int r24), (0, .ref (ad th)), (1, .ref (ad 1)), (2, .int x2), (3, .int x3)]) C dX0_readFrom_27 (Nat.le_of_ble_eq_true rfl) rfl ?_
          refine g_aload_n C dX0_readFrom_29 rfl 2 rfl ?_
          refine g_xVz (k := 1) (As := []) (rest := []) (ro := (fX_Text_isSound g24)) (go := g24) (xo := xo) Y (fun sz => cX_Text_isSound l D T ad sK sV xo g24 _ rfl sz) kX_RX0_52_Text_isSound ⟨Nat.le_of_ble_eq_true rfl, Nat.le_of_ble_eq_true rfl⟩ ⟨rfl, rfl⟩ ⟨Nat.zero_le _, Nat.zero_le _⟩ (rfl : vwCl[8]? = some (RX9, TX9, 8)) ob_1 rfl rfl (Nat.le_of_ble_eq_true rfl) dX0_readFrom_30 (fun hz30 => ?_)
          refine g_if_eq C 54 dX0_readFrom_33 (by decide) (fun c33 => ?_) (fun c33 => ?_)
          · have h := iteT c33 h
            exact g_sub [1, 2, 3, 4, 0] rfl (J54 x3 r24 g24 h)
          · have h := iteF c33 h
            refine g_aload_n C dX0_readFrom_36 rfl 1 rfl ?_
            refine g_iload C dX0_readFrom_37 0 rfl ?_
            obtain ⟨r39, hr39, h⟩ := bnd h
            refine g_xVz (k := th) (As := [.int r24]) (rest := []) (ro := r39) (go := g24) (xo := xo) Y (fun sz => cX_Book_tellsOf l D T ad sK sV xo g24 th r24 hth _ hr39 sz) kX_RX0_29_Book_tellsOf ⟨Nat.le_of_ble_eq_true rfl, Nat.le_of_ble_eq_true rfl⟩ ⟨rfl, rfl⟩ ⟨Nat.zero_le _, Nat.zero_le _⟩ (rfl : vwCl[0]? = some (RX0, TX0, 2)) (ob_Book hth) rfl rfl (Nat.le_of_ble_eq_true rfl) dX0_readFrom_39 (fun hz39 => ?_)
            refine g_if_eq C 54 dX0_readFrom_42 (by decide) (fun c42 => ?_) (fun c42 => ?_)
            · have h := iteT c42 h
              exact g_sub [1, 2, 3, 4, 0] rfl (J54 x3 r24 g24 h)
            · have h := iteF c42 h
              refine g_aload_n C dX0_readFrom_45 rfl 2 rfl ?_
              refine g_iconst C dX0_readFrom_46 ic_2 ?_
              refine g_aload_n C dX0_readFrom_47 rfl 2 rfl ?_
              refine gX_get_X0_55 (v := g24 1 5) C ob_1 rfl rfl dX0_readFrom_48 ?_
              obtain ⟨g51, hr51, h⟩ := ltb h
              refine g_xVv (k := 1) (As := [.int (2 : Int32), .int (g24 1 5)]) (rest := []) (go := g51) (xo := xo) Y (fun sz => cX_Text_blame l D T ad sK sV xo g24 (2 : Int32) (g24 1 5) _ hr51 sz) kX_RX0_58_Text_blame ⟨Nat.le_of_ble_eq_true rfl, Nat.le_of_ble_eq_true rfl⟩ ⟨rfl, rfl⟩ ⟨Nat.zero_le _, Nat.zero_le _⟩ (rfl : vwCl[8]? = some (RX9, TX9, 8)) ob_1 rfl rfl (Nat.le_of_ble_eq_true rfl) dX0_readFrom_51 ?_
              exact g_sub [1, 2, 3, 4, 0] rfl (J54 x3 r24 g51 h)
    · show GcX_Book_readFrom l D T ad Γ o xo xo g 92 [] []
      obtain rfl := Option.some.inj h
      exact g_vret C rfl rfl dX0_readFrom_92
  refine g_aload_n C dX0_readFrom_0 rfl 0 rfl ?_
  obtain ⟨g1, hr1, h⟩ := bnd h
  refine g_xVv (k := th) (As := []) (rest := []) (go := g1) (xo := xo) Y (fun sz => cX_Book_clear l D T ad sK sV xo g th hth _ hr1 sz) kX_RX0_39_Book_clear ⟨Nat.le_of_ble_eq_true rfl, Nat.le_of_ble_eq_true rfl⟩ ⟨rfl, rfl⟩ ⟨Nat.zero_le _, Nat.zero_le _⟩ (rfl : vwCl[0]? = some (RX0, TX0, 2)) (ob_Book hth) rfl rfl (Nat.le_of_ble_eq_true rfl) dX0_readFrom_1 ?_
  refine g_iconst C dX0_readFrom_4 ic_0 ?_
  refine g_istore_n (lv' := [(3, .int (0 : Int32)), (0, .ref (ad th)), (1, .ref (ad 1)), (2, .int x2)]) C dX0_readFrom_5 rfl (Nat.le_of_ble_eq_true rfl) rfl ?_
  exact g_sub [1, 2, 3, 0] rfl (J6 x2 (0 : Int32) g1 h)
def fX_Land_take (th : Nat) (x1 : Nat) (g : St) : Option (St) :=
  (fX_Rows_copy (rX x1 2) (0 : Int32) (rX th 2) (0 : Int32) (8 : Int32) (st (st g th 0 (g x1 0)) th 1 ((st g th 0 (g x1 0)) x1 1))).bind fun g28 => ((fX_Rows_copy (rX x1 3) (0 : Int32) (rX th 3) (0 : Int32) (8 : Int32) g28).bind fun g43 => ((fX_Rows_copy (rX x1 4) (0 : Int32) (rX th 4) (0 : Int32) (8 : Int32) g43).bind fun g58 => (some g58)))
def rmX_Land_take : Room := { frames := 2, cells := 0, slots := 0, locals := 47 }
abbrev GcX_Land_take (l : Launch) (D : va_G) (T : cT) (ad : Nat → Nat) (Γ : Cxt) (o : St) (xo : Sl) (x : Sl) (g : St) (pc : Nat) (lv : List (Nat × Value)) (stk : List Value) : Prop := Gj l shX D T ad 2 (rmX_Land_take) 0 0 Γ (MQ Γ.below (va_Qv (eqV o xo) (wPost shX D T ad Γ.A) Γ.A) Γ.args Γ.s 0 0 Γ.A) x g pc lv stk
set_option maxRecDepth 100000 in
set_option maxHeartbeats 4000000 in
theorem cX_Land_take (l : Launch) (D : va_G) (T : cT) (ad : Nat → Nat) (sK sV : Nat → Nat) (xo : Sl) (g : St) (th : Nat) (x1 : Nat) (hth : isLand th) (hx1 : isLand x1) (o : St) (h : fX_Land_take th x1 g = some o) (sz : Nat) : Met l yX1_take wX_Land_take (rmX_Land_take) (va_Pc [.ref (ad th), .ref (ad x1)] (xPre shX D T ad sK sV xo g sz)) (va_Qv (eqV o xo) (wPost shX D T ad (aW shX T ad xo g sz)) (aW shX T ad xo g sz)) 0 0 (aW shX T ad xo g sz) := by
  refine g_startx (Qc := fun A => va_Qv (eqV o xo) (wPost shX D T ad A) A) (by decide +kernel) rfl rfl (Nat.le_of_ble_eq_true rfl) (lv := [(0, .ref (ad th)), (1, .ref (ad x1))]) rfl (fun Γ Y => ?_)
  have C := Y.1
  show GcX_Land_take l D T ad Γ o xo xo g 0 [(0, .ref (ad th)), (1, .ref (ad x1))] []
  refine g_aload_n C dX1_take_0 rfl 0 rfl ?_
  refine g_aload_n C dX1_take_1 rfl 1 rfl ?_
  refine gX_get_X1_25 (v := g x1 0) C (ob_Land hx1) (rf_Land_0 hx1) rfl dX1_take_2 ?_
  refine gX_put_X1_25 C (ob_Land hth) (rf_Land_0 hth) dX1_take_5 ?_
  refine g_aload_n C dX1_take_8 rfl 0 rfl ?_
  refine g_aload_n C dX1_take_9 rfl 1 rfl ?_
  refine gX_get_X1_9 (v := (st g th 0 (g x1 0)) x1 1) C (ob_Land hx1) (rf_Land_1 hx1) rfl dX1_take_10 ?_
  refine gX_put_X1_9 C (ob_Land hth) (rf_Land_1 hth) dX1_take_13 ?_
  refine g_aload_n C dX1_take_16 rfl 1 rfl ?_
  refine gX_get_X1_15 C (ob_Land hx1) (rf_Land_2 hx1) dX1_take_17 ?_
  refine g_iconst C dX1_take_20 ic_0 ?_
  refine g_aload_n C dX1_take_21 rfl 0 rfl ?_
  refine gX_get_X1_15 C (ob_Land hth) (rf_Land_2 hth) dX1_take_22 ?_
  refine g_iconst C dX1_take_25 ic_0 ?_
  refine g_bipush C dX1_take_26 bp_8 ?_
  obtain ⟨g28, hr28, h⟩ := bnd h
  refine g_xSv (As := [.ref (ad (rX x1 2)), .int (0 : Int32), .ref (ad (rX th 2)), .int (0 : Int32), .int (8 : Int32)]) (rest := []) (go := g28) (xo := xo) Y (fun sz => cX_Rows_copy l D T ad sK sV xo (st (st g th 0 (g x1 0)) th 1 ((st g th 0 (g x1 0)) x1 1)) (rX x1 2) (0 : Int32) (rX th 2) (0 : Int32) (8 : Int32) _ hr28 sz) kX_RX1_28_Rows_copy ⟨Nat.le_of_ble_eq_true rfl, Nat.le_of_ble_eq_true rfl⟩ ⟨rfl, rfl⟩ ⟨Nat.zero_le _, Nat.zero_le _⟩ rfl rfl (Nat.le_of_ble_eq_true rfl) dX1_take_28 ?_
  refine g_aload_n C dX1_take_31 rfl 1 rfl ?_
  refine gX_get_X1_19 C (ob_Land hx1) (rf_Land_3 hx1) dX1_take_32 ?_
  refine g_iconst C dX1_take_35 ic_0 ?_
  refine g_aload_n C dX1_take_36 rfl 0 rfl ?_
  refine gX_get_X1_19 C (ob_Land hth) (rf_Land_3 hth) dX1_take_37 ?_
  refine g_iconst C dX1_take_40 ic_0 ?_
  refine g_bipush C dX1_take_41 bp_8 ?_
  obtain ⟨g43, hr43, h⟩ := bnd h
  refine g_xSv (As := [.ref (ad (rX x1 3)), .int (0 : Int32), .ref (ad (rX th 3)), .int (0 : Int32), .int (8 : Int32)]) (rest := []) (go := g43) (xo := xo) Y (fun sz => cX_Rows_copy l D T ad sK sV xo g28 (rX x1 3) (0 : Int32) (rX th 3) (0 : Int32) (8 : Int32) _ hr43 sz) kX_RX1_28_Rows_copy ⟨Nat.le_of_ble_eq_true rfl, Nat.le_of_ble_eq_true rfl⟩ ⟨rfl, rfl⟩ ⟨Nat.zero_le _, Nat.zero_le _⟩ rfl rfl (Nat.le_of_ble_eq_true rfl) dX1_take_43 ?_
  refine g_aload_n C dX1_take_46 rfl 1 rfl ?_
  refine gX_get_X1_22 C (ob_Land hx1) (rf_Land_4 hx1) dX1_take_47 ?_
  refine g_iconst C dX1_take_50 ic_0 ?_
  refine g_aload_n C dX1_take_51 rfl 0 rfl ?_
  refine gX_get_X1_22 C (ob_Land hth) (rf_Land_4 hth) dX1_take_52 ?_
  refine g_iconst C dX1_take_55 ic_0 ?_
  refine g_bipush C dX1_take_56 bp_8 ?_
  obtain ⟨g58, hr58, h⟩ := bnd h
  refine g_xSv (As := [.ref (ad (rX x1 4)), .int (0 : Int32), .ref (ad (rX th 4)), .int (0 : Int32), .int (8 : Int32)]) (rest := []) (go := g58) (xo := xo) Y (fun sz => cX_Rows_copy l D T ad sK sV xo g43 (rX x1 4) (0 : Int32) (rX th 4) (0 : Int32) (8 : Int32) _ hr58 sz) kX_RX1_28_Rows_copy ⟨Nat.le_of_ble_eq_true rfl, Nat.le_of_ble_eq_true rfl⟩ ⟨rfl, rfl⟩ ⟨Nat.zero_le _, Nat.zero_le _⟩ rfl rfl (Nat.le_of_ble_eq_true rfl) dX1_take_58 ?_
  obtain rfl := Option.some.inj h
  exact g_vret C rfl rfl dX1_take_61
def fX_Land_areFriends (th : Nat) (x1 : Int32) (x2 : Int32) (g : St) : Option (Int32) :=
  if x2 < 0 then
    (some (0 : Int32))
  else
    (if (8 : Int32) ≤ x2 then
    (some (0 : Int32))
  else
    ((fX_Rows_at (rX th 4) x1 g).bind fun r15 => (if ((r15 >>> (x2 &&& 31)) &&& (1 : Int32)) = (1 : Int32) then
    (some (1 : Int32))
  else
    (some (0 : Int32)))))
def rmX_Land_areFriends : Room := { frames := 1, cells := 0, slots := 0, locals := 21 }
abbrev GcX_Land_areFriends (l : Launch) (D : va_G) (T : cT) (ad : Nat → Nat) (Γ : Cxt) (o : Int32) (xo : Sl) (g0 : St) (x : Sl) (g : St) (pc : Nat) (lv : List (Nat × Value)) (stk : List Value) : Prop := Gj l shX D T ad 3 (rmX_Land_areFriends) 0 0 Γ (MQ Γ.below (va_Qi (eqZ o g0 xo) (wPost shX D T ad Γ.A) Γ.A) Γ.args Γ.s 0 0 Γ.A) x g pc lv stk
set_option maxRecDepth 100000 in
set_option maxHeartbeats 4000000 in
theorem cX_Land_areFriends (l : Launch) (D : va_G) (T : cT) (ad : Nat → Nat) (sK sV : Nat → Nat) (xo : Sl) (g : St) (th : Nat) (x1 : Int32) (x2 : Int32) (hth : isLand th) (o : Int32) (h : fX_Land_areFriends th x1 x2 g = some o) (sz : Nat) : Met l yX1_areFriends wX_Land_areFriends (rmX_Land_areFriends) (va_Pc [.ref (ad th), .int x1, .int x2] (xPre shX D T ad sK sV xo g sz)) (va_Qi (eqZ o g xo) (wPost shX D T ad (aW shX T ad xo g sz)) (aW shX T ad xo g sz)) 0 0 (aW shX T ad xo g sz) := by
  refine g_startx (Qc := fun A => va_Qi (eqZ o g xo) (wPost shX D T ad A) A) (by decide +kernel) rfl rfl (Nat.le_of_ble_eq_true rfl) (lv := [(0, .ref (ad th)), (1, .int x1), (2, .int x2)]) rfl (fun Γ Y => ?_)
  have C := Y.1
  show GcX_Land_areFriends l D T ad Γ o xo g xo g 0 [(0, .ref (ad th)), (1, .int x1), (2, .int x2)] []
  refine g_iload_n C dX1_areFriends_0 rfl 2 rfl ?_
  refine g_if_lt C 30 dX1_areFriends_1 (by decide) (fun c1 => ?_) (fun c1 => ?_)
  · have h := iteT c1 h
    refine g_iconst C dX1_areFriends_30 ic_0 ?_
    obtain rfl := Option.some.inj h
    exact g_zret C rfl rfl rfl rfl dX1_areFriends_31
  · have h := iteF c1 h
    refine g_iload_n C dX1_areFriends_4 rfl 2 rfl ?_
    refine g_bipush C dX1_areFriends_5 bp_8 ?_
    refine g_icmp_ge C 30 dX1_areFriends_7 (by decide) (fun c7 => ?_) (fun c7 => ?_)
    · have h := iteT c7 h
      refine g_iconst C dX1_areFriends_30 ic_0 ?_
      obtain rfl := Option.some.inj h
      exact g_zret C rfl rfl rfl rfl dX1_areFriends_31
    · have h := iteF c7 h
      refine g_aload_n C dX1_areFriends_10 rfl 0 rfl ?_
      refine gX_get_X1_22 C (ob_Land hth) (rf_Land_4 hth) dX1_areFriends_11 ?_
      refine g_iload_n C dX1_areFriends_14 rfl 1 rfl ?_
      obtain ⟨r15, hr15, h⟩ := bnd h
      refine g_xSi (As := [.ref (ad (rX th 4)), .int x1]) (rest := []) (ro := r15) (go := g) (xo := xo) Y (fun sz => cX_Rows_at l D T ad sK sV xo g (rX th 4) x1 _ hr15 sz) kX_RX1_34_Rows_at ⟨Nat.le_of_ble_eq_true rfl, Nat.le_of_ble_eq_true rfl⟩ ⟨rfl, rfl⟩ ⟨Nat.zero_le _, Nat.zero_le _⟩ rfl rfl (Nat.le_of_ble_eq_true rfl) dX1_areFriends_15 ?_
      refine g_iload_n C dX1_areFriends_18 rfl 2 rfl ?_
      refine g_ishr C dX1_areFriends_19 ?_
      refine g_iconst C dX1_areFriends_20 ic_1 ?_
      refine g_iand C dX1_areFriends_21 ?_
      refine g_iconst C dX1_areFriends_22 ic_1 ?_
      refine g_icmp_ne C 30 dX1_areFriends_23 (by decide) (fun c23 => ?_) (fun c23 => ?_)
      · have h := iteT c23 h
        refine g_iconst C dX1_areFriends_26 ic_1 ?_
        refine g_goto (tgt := 31) C dX1_areFriends_27 (by decide) ?_
        obtain rfl := Option.some.inj h
        exact g_zret C rfl rfl rfl rfl dX1_areFriends_31
      · have h := iteF c23 h
        refine g_iconst C dX1_areFriends_30 ic_0 ?_
        obtain rfl := Option.some.inj h
        exact g_zret C rfl rfl rfl rfl dX1_areFriends_31
def fX_Text_isLetter (x0 : Int32) : Int32 :=
  if x0 < (97 : Int32) then
    ((0 : Int32))
  else
    (if (122 : Int32) < x0 then
    ((0 : Int32))
  else
    ((1 : Int32)))
def rmX_Text_isLetter : Room := { frames := 0, cells := 0, slots := 0, locals := 0 }
abbrev GcX_Text_isLetter (l : Launch) (D : va_G) (T : cT) (ad : Nat → Nat) (Γ : Cxt) (o : Int32) (xo : Sl) (g0 : St) (x : Sl) (g : St) (pc : Nat) (lv : List (Nat × Value)) (stk : List Value) : Prop := Gj l shX D T ad 1 (rmX_Text_isLetter) 0 0 Γ (MQ Γ.below (va_Qi (eqZ o g0 xo) (wPost shX D T ad Γ.A) Γ.A) Γ.args Γ.s 0 0 Γ.A) x g pc lv stk
set_option maxRecDepth 100000 in
set_option maxHeartbeats 4000000 in
theorem cX_Text_isLetter (l : Launch) (D : va_G) (T : cT) (ad : Nat → Nat) (sK sV : Nat → Nat) (xo : Sl) (g : St) (x0 : Int32) (o : Int32) (h : fX_Text_isLetter x0 = o) (sz : Nat) : Met l yX9_isLetter wX_Text_isLetter (rmX_Text_isLetter) (va_Pc [.int x0] (xPre shX D T ad sK sV xo g sz)) (va_Qi (eqZ o g xo) (wPost shX D T ad (aW shX T ad xo g sz)) (aW shX T ad xo g sz)) 0 0 (aW shX T ad xo g sz) := by
  refine g_startx (Qc := fun A => va_Qi (eqZ o g xo) (wPost shX D T ad A) A) (by decide +kernel) rfl rfl (Nat.le_of_ble_eq_true rfl) (lv := [(0, .int x0)]) rfl (fun Γ Y => ?_)
  have C := Y.1
  show GcX_Text_isLetter l D T ad Γ o xo g xo g 0 [(0, .int x0)] []
  refine g_iload_n C dX9_isLetter_0 rfl 0 rfl ?_
  refine g_bipush C dX9_isLetter_1 bp_97 ?_
  refine g_icmp_lt C 16 dX9_isLetter_3 (by decide) (fun c3 => ?_) (fun c3 => ?_)
  · have h := iteT c3 h
    refine g_iconst C dX9_isLetter_16 ic_0 ?_
    subst h
    exact g_zret C rfl rfl rfl rfl dX9_isLetter_17
  · have h := iteF c3 h
    refine g_iload_n C dX9_isLetter_6 rfl 0 rfl ?_
    refine g_bipush C dX9_isLetter_7 bp_122 ?_
    refine g_icmp_gt C 16 dX9_isLetter_9 (by decide) (fun c9 => ?_) (fun c9 => ?_)
    · have h := iteT c9 h
      refine g_iconst C dX9_isLetter_16 ic_0 ?_
      subst h
      exact g_zret C rfl rfl rfl rfl dX9_isLetter_17
    · have h := iteF c9 h
      refine g_iconst C dX9_isLetter_12 ic_1 ?_
      refine g_goto (tgt := 17) C dX9_isLetter_13 (by decide) ?_
      subst h
      exact g_zret C rfl rfl rfl rfl dX9_isLetter_17
def fX_Text_word_L21 : St → Option ((St) ⊕ (St)) := fun g =>
  if (g 1 2) ≤ (g 1 3) then
    (some (.inr g))
  else
    ((fX_Rows_at 16 (g 1 3) g).bind fun r40 => (if (fX_Text_isLetter r40) = 0 then
    (some (.inr g))
  else
    (some (.inl (st g 1 3 ((g 1 3) + (1 : Int32)))))))
def fX_Text_word_b21 (g : St) : Option (St) :=
  (lp (fX_Text_word_L21) fuel g).bind (fun g => some g)
def fX_Text_word (g : St) : Option (St) :=
  if (g 1 6) = 0 then
    ((fX_Text_nextByte g).bind fun ⟨r9, g9⟩ => (fX_Text_word_b21 (st g9 1 4 (g9 1 3))))
  else
    (some g)
def rmX_Text_word : Room := { frames := 2, cells := 0, slots := 0, locals := 41 }
abbrev GcX_Text_word (l : Launch) (D : va_G) (T : cT) (ad : Nat → Nat) (Γ : Cxt) (o : St) (xo : Sl) (x : Sl) (g : St) (pc : Nat) (lv : List (Nat × Value)) (stk : List Value) : Prop := Gj l shX D T ad 1 (rmX_Text_word) 0 0 Γ (MQ Γ.below (va_Qv (eqV o xo) (wPost shX D T ad Γ.A) Γ.A) Γ.args Γ.s 0 0 Γ.A) x g pc lv stk
set_option maxRecDepth 100000 in
set_option maxHeartbeats 4000000 in
theorem cX_Text_word (l : Launch) (D : va_G) (T : cT) (ad : Nat → Nat) (sK sV : Nat → Nat) (xo : Sl) (g : St) (o : St) (h : fX_Text_word g = some o) (sz : Nat) : Met l yX9_word wX_Text_word (rmX_Text_word) (va_Pc [.ref (ad 1)] (xPre shX D T ad sK sV xo g sz)) (va_Qv (eqV o xo) (wPost shX D T ad (aW shX T ad xo g sz)) (aW shX T ad xo g sz)) 0 0 (aW shX T ad xo g sz) := by
  refine g_startx (Qc := fun A => va_Qv (eqV o xo) (wPost shX D T ad A) A) (by decide +kernel) rfl rfl (Nat.le_of_ble_eq_true rfl) (lv := [(0, .ref (ad 1))]) rfl (fun Γ Y => ?_)
  have C := Y.1
  show GcX_Text_word l D T ad Γ o xo xo g 0 [(0, .ref (ad 1))] []
  have J21 : ∀ (g : St), fX_Text_word_b21 g = some o → GcX_Text_word l D T ad Γ o xo xo g 21 [(0, .ref (ad 1))] [] := by
    intro g h
    obtain ⟨g, ht, h⟩ := bnd h
    refine lp_run (P := fun g : St => GcX_Text_word l D T ad Γ o xo xo g 21 [(0, .ref (ad 1))] []) (E := fun g : St => GcX_Text_word l D T ad Γ o xo xo g 62 [] []) ?_ _ _ _ ht ?_
    · rintro g z h Kt Ke
      show GcX_Text_word l D T ad Γ o xo xo g 21 [(0, .ref (ad 1))] []
      refine g_aload_n C dX9_word_21 rfl 0 rfl ?_
      refine gX_get_X9_31 (v := g 1 3) C ob_1 rfl rfl dX9_word_22 ?_
      refine g_aload_n C dX9_word_25 rfl 0 rfl ?_
      refine gX_get_X9_28 (v := g 1 2) C ob_1 rfl rfl dX9_word_26 ?_
      refine g_icmp_ge C 62 dX9_word_29 (by decide) (fun c29 => ?_) (fun c29 => ?_)
      · have h := iteT c29 h
        exact g_sub [] rfl (Ke _ (Option.some.inj h).symm)
      · have h := iteF c29 h
        refine g_aload_n C dX9_word_32 rfl 0 rfl ?_
        refine gX_get_X9_9 C ob_1 rfl dX9_word_33 ?_
        refine g_aload_n C dX9_word_36 rfl 0 rfl ?_
        refine gX_get_X9_31 (v := g 1 3) C ob_1 rfl rfl dX9_word_37 ?_
        obtain ⟨r40, hr40, h⟩ := bnd h
        refine g_xSi (As := [.ref (ad 16), .int (g 1 3)]) (rest := []) (ro := r40) (go := g) (xo := xo) Y (fun sz => cX_Rows_at l D T ad sK sV xo g 16 (g 1 3) _ hr40 sz) kX_RX9_37_Rows_at ⟨Nat.le_of_ble_eq_true rfl, Nat.le_of_ble_eq_true rfl⟩ ⟨rfl, rfl⟩ ⟨Nat.zero_le _, Nat.zero_le _⟩ rfl rfl (Nat.le_of_ble_eq_true rfl) dX9_word_40 ?_
        refine g_xSz (As := [.int r40]) (rest := []) (ro := (fX_Text_isLetter r40)) (go := g) (xo := xo) Y (fun sz => cX_Text_isLetter l D T ad sK sV xo g r40 _ rfl sz) kX_RX9_65_Text_isLetter ⟨Nat.le_of_ble_eq_true rfl, Nat.le_of_ble_eq_true rfl⟩ ⟨rfl, rfl⟩ ⟨Nat.zero_le _, Nat.zero_le _⟩ rfl rfl (Nat.le_of_ble_eq_true rfl) dX9_word_43 (fun hz43 => ?_)
        refine g_if_eq C 62 dX9_word_46 (by decide) (fun c46 => ?_) (fun c46 => ?_)
        · have h := iteT c46 h
          exact g_sub [] rfl (Ke _ (Option.some.inj h).symm)
        · have h := iteF c46 h
          refine g_aload_n C dX9_word_49 rfl 0 rfl ?_
          refine g_dup C dX9_word_50 rfl ?_
          refine gX_get_X9_31 (v := g 1 3) C ob_1 rfl rfl dX9_word_51 ?_
          refine g_iconst C dX9_word_54 ic_1 ?_
          refine g_iadd C dX9_word_55 ?_
          refine gX_put_X9_31 C ob_1 rfl dX9_word_56 ?_
          refine g_goto (tgt := 21) C dX9_word_59 (by decide) ?_
          exact g_sub [0] rfl (Kt _ (Option.some.inj h).symm)
    · show GcX_Text_word l D T ad Γ o xo xo g 62 [] []
      obtain rfl := Option.some.inj h
      exact g_vret C rfl rfl dX9_word_62
  refine g_aload_n C dX9_word_0 rfl 0 rfl ?_
  refine gX_get_X9_34 (v := g 1 6) C ob_1 rfl rfl dX9_word_1 ?_
  refine g_if_eq C 8 dX9_word_4 (by decide) (fun c4 => ?_) (fun c4 => ?_)
  · have h := iteT c4 h
    refine g_aload_n C dX9_word_8 rfl 0 rfl ?_
    obtain ⟨⟨r9, g9⟩, hr9, h⟩ := bnd h
    refine g_xVi (k := 1) (As := []) (rest := []) (ro := r9) (go := g9) (xo := xo) Y (fun sz => cX_Text_nextByte l D T ad sK sV xo g _ hr9 sz) kX_RX9_41_Text_nextByte ⟨Nat.le_of_ble_eq_true rfl, Nat.le_of_ble_eq_true rfl⟩ ⟨rfl, rfl⟩ ⟨Nat.zero_le _, Nat.zero_le _⟩ (rfl : vwCl[8]? = some (RX9, TX9, 8)) ob_1 rfl rfl (Nat.le_of_ble_eq_true rfl) dX9_word_9 ?_
    refine g_pop C dX9_word_12 rfl ?_
    refine g_aload_n C dX9_word_13 rfl 0 rfl ?_
    refine g_aload_n C dX9_word_14 rfl 0 rfl ?_
    refine gX_get_X9_31 (v := g9 1 3) C ob_1 rfl rfl dX9_word_15 ?_
    refine gX_put_X9_62 C ob_1 rfl dX9_word_18 ?_
    exact J21 (st g9 1 4 (g9 1 3)) h
  · have h := iteF c4 h
    obtain rfl := Option.some.inj h
    exact g_vret C rfl rfl dX9_word_7
def fX_Text_isWord_L27 (x1 : Nat) (g : St) : Int32 → Option ((Int32) ⊕ (Unit ⊕ Unit)) := fun x2 =>
  if (fX_J_length x1) ≤ x2 then
    (some (.inr (.inr ())))
  else
    ((fX_Rows_at 16 ((g 1 4) + x2) g).bind fun r45 => ((fX_J_charAt x1 x2).bind fun r50 => (if r45 = r50 then
    (some (.inl (x2 + (1 : Int32))))
  else
    (some (.inr (.inl ()))))))
def fX_Text_isWord_b27 (x1 : Nat) (x2 : Int32) (g : St) : Option (Int32) :=
  (lp (fX_Text_isWord_L27 x1 g) fuel x2).bind (Sum.elim (fun _ => some (0 : Int32)) (fun _ => some (1 : Int32)))
def fX_Text_isWord (x1 : Nat) (g : St) : Option (Int32) :=
  if (g 1 6) = 0 then
    (if ((g 1 3) - (g 1 4)) = (fX_J_length x1) then
    (fX_Text_isWord_b27 x1 (0 : Int32) g)
  else
    (some (0 : Int32)))
  else
    (some (0 : Int32))
def rmX_Text_isWord : Room := { frames := 7, cells := 0, slots := 0, locals := 161 }
abbrev GcX_Text_isWord (l : Launch) (D : va_G) (T : cT) (ad : Nat → Nat) (Γ : Cxt) (o : Int32) (xo : Sl) (g0 : St) (x : Sl) (g : St) (pc : Nat) (lv : List (Nat × Value)) (stk : List Value) : Prop := Gj l shX D T ad 3 (rmX_Text_isWord) 0 0 Γ (MQ Γ.below (va_Qi (eqZ o g0 xo) (wPost shX D T ad Γ.A) Γ.A) Γ.args Γ.s 0 0 Γ.A) x g pc lv stk
set_option maxRecDepth 100000 in
set_option maxHeartbeats 4000000 in
theorem cX_Text_isWord (l : Launch) (D : va_G) (T : cT) (ad : Nat → Nat) (sK sV : Nat → Nat) (xo : Sl) (g : St) (x1 : Nat) (hx1 : x1 < nStr) (o : Int32) (h : fX_Text_isWord x1 g = some o) (sz : Nat) : Met l yX9_isWord wX_Text_isWord (rmX_Text_isWord) (va_Pc [.ref (ad 1), .ref (sK x1)] (xPre shX D T ad sK sV xo g sz)) (va_Qi (eqZ o g xo) (wPost shX D T ad (aW shX T ad xo g sz)) (aW shX T ad xo g sz)) 0 0 (aW shX T ad xo g sz) := by
  refine g_startx (Qc := fun A => va_Qi (eqZ o g xo) (wPost shX D T ad A) A) (by decide +kernel) rfl rfl (Nat.le_of_ble_eq_true rfl) (lv := [(0, .ref (ad 1)), (1, .ref (sK x1))]) rfl (fun Γ Y => ?_)
  have C := Y.1
  show GcX_Text_isWord l D T ad Γ o xo g xo g 0 [(0, .ref (ad 1)), (1, .ref (sK x1))] []
  have J27 : ∀ (x2 : Int32), fX_Text_isWord_b27 x1 x2 g = some o → GcX_Text_isWord l D T ad Γ o xo g xo g 27 [(0, .ref (ad 1)), (1, .ref (sK x1)), (2, .int x2)] [] := by
    intro x2 h
    obtain ⟨t, ht, h⟩ := bnd h
    refine lp_run (P := fun x2 : Int32 => GcX_Text_isWord l D T ad Γ o xo g xo g 27 [(0, .ref (ad 1)), (1, .ref (sK x1)), (2, .int x2)] []) (E := Sum.elim (fun _ : Unit => GcX_Text_isWord l D T ad Γ o xo g xo g 56 [] []) (fun _ : Unit => GcX_Text_isWord l D T ad Γ o xo g xo g 64 [] [])) ?_ _ _ _ ht ?_
    · rintro x2 z h Kt Ke
      show GcX_Text_isWord l D T ad Γ o xo g xo g 27 [(0, .ref (ad 1)), (1, .ref (sK x1)), (2, .int x2)] []
      refine g_iload_n C dX9_isWord_27 rfl 2 rfl ?_
      refine g_aload_n C dX9_isWord_28 rfl 1 rfl ?_
      refine g_xTi (i := x1) (As := []) (rest := [.int x2]) (ro := (fX_J_length x1)) (go := g) (xo := xo) Y (fun sz => cX_J_length l D T ad sK sV xo g x1 hx1 _ rfl sz) kX_RX9_68_J_length ⟨Nat.le_of_ble_eq_true rfl, Nat.le_of_ble_eq_true rfl⟩ ⟨rfl, rfl⟩ ⟨Nat.zero_le _, Nat.zero_le _⟩ hx1 rfl rfl (Nat.le_of_ble_eq_true rfl) dX9_isWord_29 ?_
      refine g_icmp_ge C 64 dX9_isWord_32 (by decide) (fun c32 => ?_) (fun c32 => ?_)
      · have h := iteT c32 h
        exact g_sub [] rfl (Ke _ (Option.some.inj h).symm)
      · have h := iteF c32 h
        refine g_aload_n C dX9_isWord_35 rfl 0 rfl ?_
        refine gX_get_X9_9 C ob_1 rfl dX9_isWord_36 ?_
        refine g_aload_n C dX9_isWord_39 rfl 0 rfl ?_
        refine gX_get_X9_62 (v := g 1 4) C ob_1 rfl rfl dX9_isWord_40 ?_
        refine g_iload_n C dX9_isWord_43 rfl 2 rfl ?_
        refine g_iadd C dX9_isWord_44 ?_
        obtain ⟨r45, hr45, h⟩ := bnd h
        refine g_xSi (As := [.ref (ad 16), .int ((g 1 4) + x2)]) (rest := []) (ro := r45) (go := g) (xo := xo) Y (fun sz => cX_Rows_at l D T ad sK sV xo g 16 ((g 1 4) + x2) _ hr45 sz) kX_RX9_37_Rows_at ⟨Nat.le_of_ble_eq_true rfl, Nat.le_of_ble_eq_true rfl⟩ ⟨rfl, rfl⟩ ⟨Nat.zero_le _, Nat.zero_le _⟩ rfl rfl (Nat.le_of_ble_eq_true rfl) dX9_isWord_45 ?_
        refine g_aload_n C dX9_isWord_48 rfl 1 rfl ?_
        refine g_iload_n C dX9_isWord_49 rfl 2 rfl ?_
        obtain ⟨r50, hr50, h⟩ := bnd h
        refine g_xTi (i := x1) (As := [.int x2]) (rest := [.int r45]) (ro := r50) (go := g) (xo := xo) Y (fun sz => cX_J_charAt l D T ad sK sV xo g x1 x2 hx1 _ hr50 sz) kX_RX9_73_J_charAt ⟨Nat.le_of_ble_eq_true rfl, Nat.le_of_ble_eq_true rfl⟩ ⟨rfl, rfl⟩ ⟨Nat.zero_le _, Nat.zero_le _⟩ hx1 rfl rfl (Nat.le_of_ble_eq_true rfl) dX9_isWord_50 ?_
        refine g_icmp_eq C 58 dX9_isWord_53 (by decide) (fun c53 => ?_) (fun c53 => ?_)
        · have h := iteT c53 h
          refine g_iinc (lv' := [(2, .int (x2 + (1 : Int32))), (0, .ref (ad 1)), (1, .ref (sK x1))]) C dX9_isWord_58 2 rfl (ii_1 _) (Nat.le_of_ble_eq_true rfl) rfl ?_
          refine g_goto (tgt := 27) C dX9_isWord_61 (by decide) ?_
          exact g_sub [1, 2, 0] rfl (Kt _ (Option.some.inj h).symm)
        · have h := iteF c53 h
          exact g_sub [] rfl (Ke _ (Option.some.inj h).symm)
    · rcases t with _ | _
      · show GcX_Text_isWord l D T ad Γ o xo g xo g 56 [] []
        refine g_iconst C dX9_isWord_56 ic_0 ?_
        obtain rfl := Option.some.inj h
        exact g_zret C rfl rfl rfl rfl dX9_isWord_57
      · show GcX_Text_isWord l D T ad Γ o xo g xo g 64 [] []
        refine g_iconst C dX9_isWord_64 ic_1 ?_
        obtain rfl := Option.some.inj h
        exact g_zret C rfl rfl rfl rfl dX9_isWord_65
  refine g_aload_n C dX9_isWord_0 rfl 0 rfl ?_
  refine gX_get_X9_34 (v := g 1 6) C ob_1 rfl rfl dX9_isWord_1 ?_
  refine g_if_ne C 23 dX9_isWord_4 (by decide) (fun c4 => ?_) (fun c4 => ?_)
  · have h := iteT c4 h
    refine g_aload_n C dX9_isWord_7 rfl 0 rfl ?_
    refine gX_get_X9_31 (v := g 1 3) C ob_1 rfl rfl dX9_isWord_8 ?_
    refine g_aload_n C dX9_isWord_11 rfl 0 rfl ?_
    refine gX_get_X9_62 (v := g 1 4) C ob_1 rfl rfl dX9_isWord_12 ?_
    refine g_isub C dX9_isWord_15 ?_
    refine g_aload_n C dX9_isWord_16 rfl 1 rfl ?_
    refine g_xTi (i := x1) (As := []) (rest := [.int ((g 1 3) - (g 1 4))]) (ro := (fX_J_length x1)) (go := g) (xo := xo) Y (fun sz => cX_J_length l D T ad sK sV xo g x1 hx1 _ rfl sz) kX_RX9_68_J_length ⟨Nat.le_of_ble_eq_true rfl, Nat.le_of_ble_eq_true rfl⟩ ⟨rfl, rfl⟩ ⟨Nat.zero_le _, Nat.zero_le _⟩ hx1 rfl rfl (Nat.le_of_ble_eq_true rfl) dX9_isWord_17 ?_
    refine g_icmp_eq C 25 dX9_isWord_20 (by decide) (fun c20 => ?_) (fun c20 => ?_)
    · have h := iteT c20 h
      refine g_iconst C dX9_isWord_25 ic_0 ?_
      refine g_istore_n (lv' := [(2, .int (0 : Int32)), (0, .ref (ad 1)), (1, .ref (sK x1))]) C dX9_isWord_26 rfl (Nat.le_of_ble_eq_true rfl) rfl ?_
      exact g_sub [1, 2, 0] rfl (J27 (0 : Int32) h)
    · have h := iteF c20 h
      refine g_iconst C dX9_isWord_23 ic_0 ?_
      obtain rfl := Option.some.inj h
      exact g_zret C rfl rfl rfl rfl dX9_isWord_24
  · have h := iteF c4 h
    refine g_iconst C dX9_isWord_23 ic_0 ?_
    obtain rfl := Option.some.inj h
    exact g_zret C rfl rfl rfl rfl dX9_isWord_24
def fX_Land_readPerson (th : Nat) (g : St) : Option (St) :=
  (fX_Text_number (0 : Int32) (9 : Int32) g).bind fun ⟨r12, g12⟩ => ((fX_Rows_put (rX th 2) (g th 0) r12 g12).bind fun g15 => ((fX_Text_number (0 : Int32) (60 : Int32) g15).bind fun ⟨r30, g30⟩ => ((fX_Rows_put (rX th 3) (g15 th 0) r30 g30).bind fun g33 => ((fX_Rows_put (rX th 4) (g33 th 0) (0 : Int32) g33).bind fun g45 => (some (st g45 th 0 ((g45 th 0) + (1 : Int32))))))))
def rmX_Land_readPerson : Room := { frames := 3, cells := 0, slots := 0, locals := 64 }
abbrev GcX_Land_readPerson (l : Launch) (D : va_G) (T : cT) (ad : Nat → Nat) (Γ : Cxt) (o : St) (xo : Sl) (x : Sl) (g : St) (pc : Nat) (lv : List (Nat × Value)) (stk : List Value) : Prop := Gj l shX D T ad 2 (rmX_Land_readPerson) 0 0 Γ (MQ Γ.below (va_Qv (eqV o xo) (wPost shX D T ad Γ.A) Γ.A) Γ.args Γ.s 0 0 Γ.A) x g pc lv stk
set_option maxRecDepth 100000 in
set_option maxHeartbeats 4000000 in
theorem cX_Land_readPerson (l : Launch) (D : va_G) (T : cT) (ad : Nat → Nat) (sK sV : Nat → Nat) (xo : Sl) (g : St) (th : Nat) (hth : isLand th) (o : St) (h : fX_Land_readPerson th g = some o) (sz : Nat) : Met l yX1_readPerson wX_Land_readPerson (rmX_Land_readPerson) (va_Pc [.ref (ad th), .ref (ad 1)] (xPre shX D T ad sK sV xo g sz)) (va_Qv (eqV o xo) (wPost shX D T ad (aW shX T ad xo g sz)) (aW shX T ad xo g sz)) 0 0 (aW shX T ad xo g sz) := by
  refine g_startx (Qc := fun A => va_Qv (eqV o xo) (wPost shX D T ad A) A) (by decide +kernel) rfl rfl (Nat.le_of_ble_eq_true rfl) (lv := [(0, .ref (ad th)), (1, .ref (ad 1))]) rfl (fun Γ Y => ?_)
  have C := Y.1
  show GcX_Land_readPerson l D T ad Γ o xo xo g 0 [(0, .ref (ad th)), (1, .ref (ad 1))] []
  refine g_aload_n C dX1_readPerson_0 rfl 0 rfl ?_
  refine gX_get_X1_15 C (ob_Land hth) (rf_Land_2 hth) dX1_readPerson_1 ?_
  refine g_aload_n C dX1_readPerson_4 rfl 0 rfl ?_
  refine gX_get_X1_25 (v := g th 0) C (ob_Land hth) (rf_Land_0 hth) rfl dX1_readPerson_5 ?_
  refine g_aload_n C dX1_readPerson_8 rfl 1 rfl ?_
  refine g_iconst C dX1_readPerson_9 ic_0 ?_
  refine g_bipush C dX1_readPerson_10 bp_9 ?_
  obtain ⟨⟨r12, g12⟩, hr12, h⟩ := bnd h
  refine g_xVi (k := 1) (As := [.int (0 : Int32), .int (9 : Int32)]) (rest := [.int (g th 0), .ref (ad (rX th 2))]) (ro := r12) (go := g12) (xo := xo) Y (fun sz => cX_Text_number l D T ad sK sV xo g (0 : Int32) (9 : Int32) _ hr12 sz) kX_RX1_74_Text_number ⟨Nat.le_of_ble_eq_true rfl, Nat.le_of_ble_eq_true rfl⟩ ⟨rfl, rfl⟩ ⟨Nat.zero_le _, Nat.zero_le _⟩ (rfl : vwCl[8]? = some (RX9, TX9, 8)) ob_1 rfl rfl (Nat.le_of_ble_eq_true rfl) dX1_readPerson_12 ?_
  obtain ⟨g15, hr15, h⟩ := bnd h
  refine g_xSv (As := [.ref (ad (rX th 2)), .int (g th 0), .int r12]) (rest := []) (go := g15) (xo := xo) Y (fun sz => cX_Rows_put l D T ad sK sV xo g12 (rX th 2) (g th 0) r12 _ hr15 sz) kX_RX1_82_Rows_put ⟨Nat.le_of_ble_eq_true rfl, Nat.le_of_ble_eq_true rfl⟩ ⟨rfl, rfl⟩ ⟨Nat.zero_le _, Nat.zero_le _⟩ rfl rfl (Nat.le_of_ble_eq_true rfl) dX1_readPerson_15 ?_
  refine g_aload_n C dX1_readPerson_18 rfl 0 rfl ?_
  refine gX_get_X1_19 C (ob_Land hth) (rf_Land_3 hth) dX1_readPerson_19 ?_
  refine g_aload_n C dX1_readPerson_22 rfl 0 rfl ?_
  refine gX_get_X1_25 (v := g15 th 0) C (ob_Land hth) (rf_Land_0 hth) rfl dX1_readPerson_23 ?_
  refine g_aload_n C dX1_readPerson_26 rfl 1 rfl ?_
  refine g_iconst C dX1_readPerson_27 ic_0 ?_
  refine g_bipush C dX1_readPerson_28 bp_60 ?_
  obtain ⟨⟨r30, g30⟩, hr30, h⟩ := bnd h
  refine g_xVi (k := 1) (As := [.int (0 : Int32), .int (60 : Int32)]) (rest := [.int (g15 th 0), .ref (ad (rX th 3))]) (ro := r30) (go := g30) (xo := xo) Y (fun sz => cX_Text_number l D T ad sK sV xo g15 (0 : Int32) (60 : Int32) _ hr30 sz) kX_RX1_74_Text_number ⟨Nat.le_of_ble_eq_true rfl, Nat.le_of_ble_eq_true rfl⟩ ⟨rfl, rfl⟩ ⟨Nat.zero_le _, Nat.zero_le _⟩ (rfl : vwCl[8]? = some (RX9, TX9, 8)) ob_1 rfl rfl (Nat.le_of_ble_eq_true rfl) dX1_readPerson_30 ?_
  obtain ⟨g33, hr33, h⟩ := bnd h
  refine g_xSv (As := [.ref (ad (rX th 3)), .int (g15 th 0), .int r30]) (rest := []) (go := g33) (xo := xo) Y (fun sz => cX_Rows_put l D T ad sK sV xo g30 (rX th 3) (g15 th 0) r30 _ hr33 sz) kX_RX1_82_Rows_put ⟨Nat.le_of_ble_eq_true rfl, Nat.le_of_ble_eq_true rfl⟩ ⟨rfl, rfl⟩ ⟨Nat.zero_le _, Nat.zero_le _⟩ rfl rfl (Nat.le_of_ble_eq_true rfl) dX1_readPerson_33 ?_
  refine g_aload_n C dX1_readPerson_36 rfl 0 rfl ?_
  refine gX_get_X1_22 C (ob_Land hth) (rf_Land_4 hth) dX1_readPerson_37 ?_
  refine g_aload_n C dX1_readPerson_40 rfl 0 rfl ?_
  refine gX_get_X1_25 (v := g33 th 0) C (ob_Land hth) (rf_Land_0 hth) rfl dX1_readPerson_41 ?_
  refine g_iconst C dX1_readPerson_44 ic_0 ?_
  obtain ⟨g45, hr45, h⟩ := bnd h
  refine g_xSv (As := [.ref (ad (rX th 4)), .int (g33 th 0), .int (0 : Int32)]) (rest := []) (go := g45) (xo := xo) Y (fun sz => cX_Rows_put l D T ad sK sV xo g33 (rX th 4) (g33 th 0) (0 : Int32) _ hr45 sz) kX_RX1_82_Rows_put ⟨Nat.le_of_ble_eq_true rfl, Nat.le_of_ble_eq_true rfl⟩ ⟨rfl, rfl⟩ ⟨Nat.zero_le _, Nat.zero_le _⟩ rfl rfl (Nat.le_of_ble_eq_true rfl) dX1_readPerson_45 ?_
  refine g_aload_n C dX1_readPerson_48 rfl 0 rfl ?_
  refine g_dup C dX1_readPerson_49 rfl ?_
  refine gX_get_X1_25 (v := g45 th 0) C (ob_Land hth) (rf_Land_0 hth) rfl dX1_readPerson_50 ?_
  refine g_iconst C dX1_readPerson_53 ic_1 ?_
  refine g_iadd C dX1_readPerson_54 ?_
  refine gX_put_X1_25 C (ob_Land hth) (rf_Land_0 hth) dX1_readPerson_55 ?_
  obtain rfl := Option.some.inj h
  exact g_vret C rfl rfl dX1_readPerson_58
def fX_Land_readFriends_b38 (th : Nat) (x2 : Int32) (x3 : Int32) (g : St) : Option (St) :=
  if (fX_Text_isSound g) = 0 then
    (some g)
  else
    ((fX_Rows_at (rX th 4) x2 g).bind fun r55 => ((fX_Rows_put (rX th 4) x2 (r55 ||| ((1 : Int32) <<< (x3 &&& 31))) g).bind fun g62 => ((fX_Rows_at (rX th 4) x3 g62).bind fun r75 => ((fX_Rows_put (rX th 4) x3 (r75 ||| ((1 : Int32) <<< (x2 &&& 31))) g62).bind fun g82 => (some g82)))))
def fX_Land_readFriends (th : Nat) (g : St) : Option (St) :=
  (fX_Text_number (0 : Int32) ((g th 0) - (1 : Int32)) g).bind fun ⟨r8, g8⟩ => ((fX_Text_number (0 : Int32) ((g8 th 0) - (1 : Int32)) g8).bind fun ⟨r20, g20⟩ => (if r8 = r20 then
    (lt1 (fX_Text_blame (2 : Int32) (g20 1 5) g20) fun g35 => (fX_Land_readFriends_b38 th r8 r20 g35))
  else
    (fX_Land_readFriends_b38 th r8 r20 g20)))
def rmX_Land_readFriends : Room := { frames := 3, cells := 0, slots := 0, locals := 64 }
abbrev GcX_Land_readFriends (l : Launch) (D : va_G) (T : cT) (ad : Nat → Nat) (Γ : Cxt) (o : St) (xo : Sl) (x : Sl) (g : St) (pc : Nat) (lv : List (Nat × Value)) (stk : List Value) : Prop := Gj l shX D T ad 4 (rmX_Land_readFriends) 0 0 Γ (MQ Γ.below (va_Qv (eqV o xo) (wPost shX D T ad Γ.A) Γ.A) Γ.args Γ.s 0 0 Γ.A) x g pc lv stk
set_option maxRecDepth 100000 in
set_option maxHeartbeats 4000000 in
theorem cX_Land_readFriends (l : Launch) (D : va_G) (T : cT) (ad : Nat → Nat) (sK sV : Nat → Nat) (xo : Sl) (g : St) (th : Nat) (hth : isLand th) (o : St) (h : fX_Land_readFriends th g = some o) (sz : Nat) : Met l yX1_readFriends wX_Land_readFriends (rmX_Land_readFriends) (va_Pc [.ref (ad th), .ref (ad 1)] (xPre shX D T ad sK sV xo g sz)) (va_Qv (eqV o xo) (wPost shX D T ad (aW shX T ad xo g sz)) (aW shX T ad xo g sz)) 0 0 (aW shX T ad xo g sz) := by
  refine g_startx (Qc := fun A => va_Qv (eqV o xo) (wPost shX D T ad A) A) (by decide +kernel) rfl rfl (Nat.le_of_ble_eq_true rfl) (lv := [(0, .ref (ad th)), (1, .ref (ad 1))]) rfl (fun Γ Y => ?_)
  have C := Y.1
  show GcX_Land_readFriends l D T ad Γ o xo xo g 0 [(0, .ref (ad th)), (1, .ref (ad 1))] []
  have J38 : ∀ (x2 : Int32) (x3 : Int32) (g : St), fX_Land_readFriends_b38 th x2 x3 g = some o → GcX_Land_readFriends l D T ad Γ o xo xo g 38 [(0, .ref (ad th)), (1, .ref (ad 1)), (2, .int x2), (3, .int x3)] [] := by
    intro x2 x3 g h
    refine g_aload_n C dX1_readFriends_38 rfl 1 rfl ?_
    refine g_xVz (k := 1) (As := []) (rest := []) (ro := (fX_Text_isSound g)) (go := g) (xo := xo) Y (fun sz => cX_Text_isSound l D T ad sK sV xo g _ rfl sz) kX_RX1_89_Text_isSound ⟨Nat.le_of_ble_eq_true rfl, Nat.le_of_ble_eq_true rfl⟩ ⟨rfl, rfl⟩ ⟨Nat.zero_le _, Nat.zero_le _⟩ (rfl : vwCl[8]? = some (RX9, TX9, 8)) ob_1 rfl rfl (Nat.le_of_ble_eq_true rfl) dX1_readFriends_39 (fun hz39 => ?_)
    refine g_if_eq C 85 dX1_readFriends_42 (by decide) (fun c42 => ?_) (fun c42 => ?_)
    · have h := iteT c42 h
      obtain rfl := Option.some.inj h
      exact g_vret C rfl rfl dX1_readFriends_85
    · have h := iteF c42 h
      refine g_aload_n C dX1_readFriends_45 rfl 0 rfl ?_
      refine gX_get_X1_22 C (ob_Land hth) (rf_Land_4 hth) dX1_readFriends_46 ?_
      refine g_iload_n C dX1_readFriends_49 rfl 2 rfl ?_
      refine g_aload_n C dX1_readFriends_50 rfl 0 rfl ?_
      refine gX_get_X1_22 C (ob_Land hth) (rf_Land_4 hth) dX1_readFriends_51 ?_
      refine g_iload_n C dX1_readFriends_54 rfl 2 rfl ?_
      obtain ⟨r55, hr55, h⟩ := bnd h
      refine g_xSi (As := [.ref (ad (rX th 4)), .int x2]) (rest := [.int x2, .ref (ad (rX th 4))]) (ro := r55) (go := g) (xo := xo) Y (fun sz => cX_Rows_at l D T ad sK sV xo g (rX th 4) x2 _ hr55 sz) kX_RX1_34_Rows_at ⟨Nat.le_of_ble_eq_true rfl, Nat.le_of_ble_eq_true rfl⟩ ⟨rfl, rfl⟩ ⟨Nat.zero_le _, Nat.zero_le _⟩ rfl rfl (Nat.le_of_ble_eq_true rfl) dX1_readFriends_55 ?_
      refine g_iconst C dX1_readFriends_58 ic_1 ?_
      refine g_iload_n C dX1_readFriends_59 rfl 3 rfl ?_
      refine g_ishl C dX1_readFriends_60 ?_
      refine g_ior C dX1_readFriends_61 ?_
      obtain ⟨g62, hr62, h⟩ := bnd h
      refine g_xSv (As := [.ref (ad (rX th 4)), .int x2, .int (r55 ||| ((1 : Int32) <<< (x3 &&& 31)))]) (rest := []) (go := g62) (xo := xo) Y (fun sz => cX_Rows_put l D T ad sK sV xo g (rX th 4) x2 (r55 ||| ((1 : Int32) <<< (x3 &&& 31))) _ hr62 sz) kX_RX1_82_Rows_put ⟨Nat.le_of_ble_eq_true rfl, Nat.le_of_ble_eq_true rfl⟩ ⟨rfl, rfl⟩ ⟨Nat.zero_le _, Nat.zero_le _⟩ rfl rfl (Nat.le_of_ble_eq_true rfl) dX1_readFriends_62 ?_
      refine g_aload_n C dX1_readFriends_65 rfl 0 rfl ?_
      refine gX_get_X1_22 C (ob_Land hth) (rf_Land_4 hth) dX1_readFriends_66 ?_
      refine g_iload_n C dX1_readFriends_69 rfl 3 rfl ?_
      refine g_aload_n C dX1_readFriends_70 rfl 0 rfl ?_
      refine gX_get_X1_22 C (ob_Land hth) (rf_Land_4 hth) dX1_readFriends_71 ?_
      refine g_iload_n C dX1_readFriends_74 rfl 3 rfl ?_
      obtain ⟨r75, hr75, h⟩ := bnd h
      refine g_xSi (As := [.ref (ad (rX th 4)), .int x3]) (rest := [.int x3, .ref (ad (rX th 4))]) (ro := r75) (go := g62) (xo := xo) Y (fun sz => cX_Rows_at l D T ad sK sV xo g62 (rX th 4) x3 _ hr75 sz) kX_RX1_34_Rows_at ⟨Nat.le_of_ble_eq_true rfl, Nat.le_of_ble_eq_true rfl⟩ ⟨rfl, rfl⟩ ⟨Nat.zero_le _, Nat.zero_le _⟩ rfl rfl (Nat.le_of_ble_eq_true rfl) dX1_readFriends_75 ?_
      refine g_iconst C dX1_readFriends_78 ic_1 ?_
      refine g_iload_n C dX1_readFriends_79 rfl 2 rfl ?_
      refine g_ishl C dX1_readFriends_80 ?_
      refine g_ior C dX1_readFriends_81 ?_
      obtain ⟨g82, hr82, h⟩ := bnd h
      refine g_xSv (As := [.ref (ad (rX th 4)), .int x3, .int (r75 ||| ((1 : Int32) <<< (x2 &&& 31)))]) (rest := []) (go := g82) (xo := xo) Y (fun sz => cX_Rows_put l D T ad sK sV xo g62 (rX th 4) x3 (r75 ||| ((1 : Int32) <<< (x2 &&& 31))) _ hr82 sz) kX_RX1_82_Rows_put ⟨Nat.le_of_ble_eq_true rfl, Nat.le_of_ble_eq_true rfl⟩ ⟨rfl, rfl⟩ ⟨Nat.zero_le _, Nat.zero_le _⟩ rfl rfl (Nat.le_of_ble_eq_true rfl) dX1_readFriends_82 ?_
      obtain rfl := Option.some.inj h
      exact g_vret C rfl rfl dX1_readFriends_85
  refine g_aload_n C dX1_readFriends_0 rfl 1 rfl ?_
  refine g_iconst C dX1_readFriends_1 ic_0 ?_
  refine g_aload_n C dX1_readFriends_2 rfl 0 rfl ?_
  refine gX_get_X1_25 (v := g th 0) C (ob_Land hth) (rf_Land_0 hth) rfl dX1_readFriends_3 ?_
  refine g_iconst C dX1_readFriends_6 ic_1 ?_
  refine g_isub C dX1_readFriends_7 ?_
  obtain ⟨⟨r8, g8⟩, hr8, h⟩ := bnd h
  refine g_xVi (k := 1) (As := [.int (0 : Int32), .int ((g th 0) - (1 : Int32))]) (rest := []) (ro := r8) (go := g8) (xo := xo) Y (fun sz => cX_Text_number l D T ad sK sV xo g (0 : Int32) ((g th 0) - (1 : Int32)) _ hr8 sz) kX_RX1_74_Text_number ⟨Nat.le_of_ble_eq_true rfl, Nat.le_of_ble_eq_true rfl⟩ ⟨rfl, rfl⟩ ⟨Nat.zero_le _, Nat.zero_le _⟩ (rfl : vwCl[8]? = some (RX9, TX9, 8)) ob_1 rfl rfl (Nat.le_of_ble_eq_true rfl) dX1_readFriends_8 ?_
  refine g_istore_n (lv' := [(2, .int r8), (0, .ref (ad th)), (1, .ref (ad 1))]) C dX1_readFriends_11 rfl (Nat.le_of_ble_eq_true rfl) rfl ?_
  refine g_aload_n C dX1_readFriends_12 rfl 2 rfl ?_
  refine g_iconst C dX1_readFriends_13 ic_0 ?_
  refine g_aload_n C dX1_readFriends_14 rfl 1 rfl ?_
  refine gX_get_X1_25 (v := g8 th 0) C (ob_Land hth) (rf_Land_0 hth) rfl dX1_readFriends_15 ?_
  refine g_iconst C dX1_readFriends_18 ic_1 ?_
  refine g_isub C dX1_readFriends_19 ?_
  obtain ⟨⟨r20, g20⟩, hr20, h⟩ := bnd h
  refine g_xVi (k := 1) (As := [.int (0 : Int32), .int ((g8 th 0) - (1 : Int32))]) (rest := []) (ro := r20) (go := g20) (xo := xo) Y (fun sz => cX_Text_number l D T ad sK sV xo g8 (0 : Int32) ((g8 th 0) - (1 : Int32)) _ hr20 sz) kX_RX1_74_Text_number ⟨Nat.le_of_ble_eq_true rfl, Nat.le_of_ble_eq_true rfl⟩ ⟨rfl, rfl⟩ ⟨Nat.zero_le _, Nat.zero_le _⟩ (rfl : vwCl[8]? = some (RX9, TX9, 8)) ob_1 rfl rfl (Nat.le_of_ble_eq_true rfl) dX1_readFriends_20 ?_
  refine g_istore_n (lv' := [(3, .int r20), (2, .int r8), (0, .ref (ad th)), (1, .ref (ad 1))]) C dX1_readFriends_23 rfl (Nat.le_of_ble_eq_true rfl) rfl ?_
  refine g_iload_n C dX1_readFriends_24 rfl 1 rfl ?_
  refine g_iload_n C dX1_readFriends_25 rfl 0 rfl ?_
  refine g_icmp_ne C 38 dX1_readFriends_26 (by decide) (fun c26 => ?_) (fun c26 => ?_)
  · have h := iteT c26 h
    refine g_aload_n C dX1_readFriends_29 rfl 3 rfl ?_
    refine g_iconst C dX1_readFriends_30 ic_2 ?_
    refine g_aload_n C dX1_readFriends_31 rfl 3 rfl ?_
    refine gX_get_X1_86 (v := g20 1 5) C ob_1 rfl rfl dX1_readFriends_32 ?_
    obtain ⟨g35, hr35, h⟩ := ltb h
    refine g_xVv (k := 1) (As := [.int (2 : Int32), .int (g20 1 5)]) (rest := []) (go := g35) (xo := xo) Y (fun sz => cX_Text_blame l D T ad sK sV xo g20 (2 : Int32) (g20 1 5) _ hr35 sz) kX_RX1_63_Text_blame ⟨Nat.le_of_ble_eq_true rfl, Nat.le_of_ble_eq_true rfl⟩ ⟨rfl, rfl⟩ ⟨Nat.zero_le _, Nat.zero_le _⟩ (rfl : vwCl[8]? = some (RX9, TX9, 8)) ob_1 rfl rfl (Nat.le_of_ble_eq_true rfl) dX1_readFriends_35 ?_
    exact g_sub [2, 3, 1, 0] rfl (J38 r8 r20 g35 h)
  · have h := iteF c26 h
    exact g_sub [2, 3, 1, 0] rfl (J38 r8 r20 g20 h)
def fX_Land_readClause_b115 (th : Nat) (g : St) : Option (St) :=
  (fX_Text_expect (59 : Int32) g).bind fun g118 => (some g118)
def fX_Land_readClause_b80 (th : Nat) (x3 : Int32) (x4 : Int32) (g : St) : Option (St) :=
  if x3 = 0 then
    (if x4 = 0 then
    ((fX_Text_number (1 : Int32) (4 : Int32) g).bind fun ⟨r109, g109⟩ => (fX_Land_readClause_b115 th (st g109 th 1 r109)))
  else
    ((fX_Land_readFriends th g).bind fun g99 => (fX_Land_readClause_b115 th g99)))
  else
    ((fX_Land_readPerson th g).bind fun g86 => (fX_Land_readClause_b115 th g86))
def fX_Land_readClause_b68 (th : Nat) (g : St) : Option (St) :=
  lt1 (fX_Text_blame (3 : Int32) (g 1 4) g) fun g74 => (fX_Land_readClause_b115 th g74)
def fX_Land_readClause_b49 (th : Nat) (x2 : Int32) (x3 : Int32) (x4 : Int32) (g : St) : Option (St) :=
  if (60 : Int32) ≤ x2 then
    (fX_Land_readClause_b68 th g)
  else
    (if x3 = 0 then
    (fX_Land_readClause_b80 th x3 x4 g)
  else
    (if (g th 0) < (8 : Int32) then
    (fX_Land_readClause_b80 th x3 x4 g)
  else
    (fX_Land_readClause_b68 th g)))
def fX_Land_readClause (th : Nat) (x2 : Int32) (g : St) : Option (St) :=
  (fX_Text_word g).bind fun g1 => ((fX_Text_isWord 0 g1).bind fun r7 => ((fX_Text_isWord 1 g1).bind fun r14 => (if r7 = 0 then
    (if r14 = 0 then
    ((fX_Text_isWord 2 g1).bind fun r31 => (if r31 = 0 then
    (lt1 (fX_Text_blame (1 : Int32) (g1 1 4) g1) fun g43 => (fX_Land_readClause_b115 th g43))
  else
    (fX_Land_readClause_b49 th x2 r7 r14 g1)))
  else
    (fX_Land_readClause_b49 th x2 r7 r14 g1))
  else
    (fX_Land_readClause_b49 th x2 r7 r14 g1))))
def rmX_Land_readClause : Room := { frames := 8, cells := 0, slots := 0, locals := 183 }
abbrev GcX_Land_readClause (l : Launch) (D : va_G) (T : cT) (ad : Nat → Nat) (Γ : Cxt) (o : St) (xo : Sl) (x : Sl) (g : St) (pc : Nat) (lv : List (Nat × Value)) (stk : List Value) : Prop := Gj l shX D T ad 5 (rmX_Land_readClause) 0 0 Γ (MQ Γ.below (va_Qv (eqV o xo) (wPost shX D T ad Γ.A) Γ.A) Γ.args Γ.s 0 0 Γ.A) x g pc lv stk
set_option maxRecDepth 100000 in
set_option maxHeartbeats 4000000 in
theorem cX_Land_readClause (l : Launch) (D : va_G) (T : cT) (ad : Nat → Nat) (sK sV : Nat → Nat) (xo : Sl) (g : St) (th : Nat) (x2 : Int32) (hth : isLand th) (o : St) (h : fX_Land_readClause th x2 g = some o) (sz : Nat) : Met l yX1_readClause wX_Land_readClause (rmX_Land_readClause) (va_Pc [.ref (ad th), .ref (ad 1), .int x2] (xPre shX D T ad sK sV xo g sz)) (va_Qv (eqV o xo) (wPost shX D T ad (aW shX T ad xo g sz)) (aW shX T ad xo g sz)) 0 0 (aW shX T ad xo g sz) := by
  refine g_startx (Qc := fun A => va_Qv (eqV o xo) (wPost shX D T ad A) A) (by decide +kernel) rfl rfl (Nat.le_of_ble_eq_true rfl) (lv := [(0, .ref (ad th)), (1, .ref (ad 1)), (2, .int x2)]) rfl (fun Γ Y => ?_)
  have C := Y.1
  show GcX_Land_readClause l D T ad Γ o xo xo g 0 [(0, .ref (ad th)), (1, .ref (ad 1)), (2, .int x2)] []
  have J115 : ∀ (g : St), fX_Land_readClause_b115 th g = some o → GcX_Land_readClause l D T ad Γ o xo xo g 115 [(1, .ref (ad 1))] [] := by
    intro g h
    refine g_aload_n C dX1_readClause_115 rfl 0 rfl ?_
    refine g_bipush C dX1_readClause_116 bp_59 ?_
    obtain ⟨g118, hr118, h⟩ := bnd h
    refine g_xVv (k := 1) (As := [.int (59 : Int32)]) (rest := []) (go := g118) (xo := xo) Y (fun sz => cX_Text_expect l D T ad sK sV xo g (59 : Int32) _ hr118 sz) kX_RX1_78_Text_expect ⟨Nat.le_of_ble_eq_true rfl, Nat.le_of_ble_eq_true rfl⟩ ⟨rfl, rfl⟩ ⟨Nat.zero_le _, Nat.zero_le _⟩ (rfl : vwCl[8]? = some (RX9, TX9, 8)) ob_1 rfl rfl (Nat.le_of_ble_eq_true rfl) dX1_readClause_118 ?_
    obtain rfl := Option.some.inj h
    exact g_vret C rfl rfl dX1_readClause_121
  have J80 : ∀ (x3 : Int32) (x4 : Int32) (g : St), fX_Land_readClause_b80 th x3 x4 g = some o → GcX_Land_readClause l D T ad Γ o xo xo g 80 [(0, .ref (ad th)), (1, .ref (ad 1)), (3, .int x3), (4, .int x4)] [] := by
    intro x3 x4 g h
    refine g_iload_n C dX1_readClause_80 rfl 2 rfl ?_
    refine g_if_eq C 92 dX1_readClause_81 (by decide) (fun c81 => ?_) (fun c81 => ?_)
    · have h := iteT c81 h
      refine g_iload C dX1_readClause_92 3 rfl ?_
      refine g_if_eq C 105 dX1_readClause_94 (by decide) (fun c94 => ?_) (fun c94 => ?_)
      · have h := iteT c94 h
        refine g_aload_n C dX1_readClause_105 rfl 0 rfl ?_
        refine g_aload_n C dX1_readClause_106 rfl 1 rfl ?_
        refine g_iconst C dX1_readClause_107 ic_1 ?_
        refine g_iconst C dX1_readClause_108 ic_4 ?_
        obtain ⟨⟨r109, g109⟩, hr109, h⟩ := bnd h
        refine g_xVi (k := 1) (As := [.int (1 : Int32), .int (4 : Int32)]) (rest := [.ref (ad th)]) (ro := r109) (go := g109) (xo := xo) Y (fun sz => cX_Text_number l D T ad sK sV xo g (1 : Int32) (4 : Int32) _ hr109 sz) kX_RX1_74_Text_number ⟨Nat.le_of_ble_eq_true rfl, Nat.le_of_ble_eq_true rfl⟩ ⟨rfl, rfl⟩ ⟨Nat.zero_le _, Nat.zero_le _⟩ (rfl : vwCl[8]? = some (RX9, TX9, 8)) ob_1 rfl rfl (Nat.le_of_ble_eq_true rfl) dX1_readClause_109 ?_
        refine gX_put_X1_9 C (ob_Land hth) (rf_Land_1 hth) dX1_readClause_112 ?_
        exact g_sub [1] rfl (J115 (st g109 th 1 r109) h)
      · have h := iteF c94 h
        refine g_aload_n C dX1_readClause_97 rfl 0 rfl ?_
        refine g_aload_n C dX1_readClause_98 rfl 1 rfl ?_
        obtain ⟨g99, hr99, h⟩ := bnd h
        refine g_xVv (k := th) (As := [.ref (ad 1)]) (rest := []) (go := g99) (xo := xo) Y (fun sz => cX_Land_readFriends l D T ad sK sV xo g th hth _ hr99 sz) kX_RX1_71_Land_readFriends ⟨Nat.le_of_ble_eq_true rfl, Nat.le_of_ble_eq_true rfl⟩ ⟨rfl, rfl⟩ ⟨Nat.zero_le _, Nat.zero_le _⟩ (rfl : vwCl[1]? = some (RX1, TX1, 5)) (ob_Land hth) rfl rfl (Nat.le_of_ble_eq_true rfl) dX1_readClause_99 ?_
        refine g_goto (tgt := 115) C dX1_readClause_102 (by decide) ?_
        exact g_sub [1] rfl (J115 g99 h)
    · have h := iteF c81 h
      refine g_aload_n C dX1_readClause_84 rfl 0 rfl ?_
      refine g_aload_n C dX1_readClause_85 rfl 1 rfl ?_
      obtain ⟨g86, hr86, h⟩ := bnd h
      refine g_xVv (k := th) (As := [.ref (ad 1)]) (rest := []) (go := g86) (xo := xo) Y (fun sz => cX_Land_readPerson l D T ad sK sV xo g th hth _ hr86 sz) kX_RX1_67_Land_readPerson ⟨Nat.le_of_ble_eq_true rfl, Nat.le_of_ble_eq_true rfl⟩ ⟨rfl, rfl⟩ ⟨Nat.zero_le _, Nat.zero_le _⟩ (rfl : vwCl[1]? = some (RX1, TX1, 5)) (ob_Land hth) rfl rfl (Nat.le_of_ble_eq_true rfl) dX1_readClause_86 ?_
      refine g_goto (tgt := 115) C dX1_readClause_89 (by decide) ?_
      exact g_sub [1] rfl (J115 g86 h)
  have J68 : ∀ (g : St), fX_Land_readClause_b68 th g = some o → GcX_Land_readClause l D T ad Γ o xo xo g 68 [(1, .ref (ad 1))] [] := by
    intro g h
    refine g_aload_n C dX1_readClause_68 rfl 0 rfl ?_
    refine g_iconst C dX1_readClause_69 ic_3 ?_
    refine g_aload_n C dX1_readClause_70 rfl 0 rfl ?_
    refine gX_get_X1_60 (v := g 1 4) C ob_1 rfl rfl dX1_readClause_71 ?_
    obtain ⟨g74, hr74, h⟩ := ltb h
    refine g_xVv (k := 1) (As := [.int (3 : Int32), .int (g 1 4)]) (rest := []) (go := g74) (xo := xo) Y (fun sz => cX_Text_blame l D T ad sK sV xo g (3 : Int32) (g 1 4) _ hr74 sz) kX_RX1_63_Text_blame ⟨Nat.le_of_ble_eq_true rfl, Nat.le_of_ble_eq_true rfl⟩ ⟨rfl, rfl⟩ ⟨Nat.zero_le _, Nat.zero_le _⟩ (rfl : vwCl[8]? = some (RX9, TX9, 8)) ob_1 rfl rfl (Nat.le_of_ble_eq_true rfl) dX1_readClause_74 ?_
    refine g_goto (tgt := 115) C dX1_readClause_77 (by decide) ?_
    exact J115 g74 h
  have J49 : ∀ (x2 : Int32) (x3 : Int32) (x4 : Int32) (g : St), fX_Land_readClause_b49 th x2 x3 x4 g = some o → GcX_Land_readClause l D T ad Γ o xo xo g 49 [(0, .ref (ad th)), (1, .ref (ad 1)), (2, .int x2), (3, .int x3), (4, .int x4)] [] := by
    intro x2 x3 x4 g h
    refine g_iload_n C dX1_readClause_49 rfl 2 rfl ?_
    refine g_bipush C dX1_readClause_50 bp_60 ?_
    refine g_icmp_ge C 68 dX1_readClause_52 (by decide) (fun c52 => ?_) (fun c52 => ?_)
    · have h := iteT c52 h
      exact g_sub [1] rfl (J68 g h)
    · have h := iteF c52 h
      refine g_iload_n C dX1_readClause_55 rfl 3 rfl ?_
      refine g_if_eq C 80 dX1_readClause_56 (by decide) (fun c56 => ?_) (fun c56 => ?_)
      · have h := iteT c56 h
        exact g_sub [0, 1, 3, 4] rfl (J80 x3 x4 g h)
      · have h := iteF c56 h
        refine g_aload_n C dX1_readClause_59 rfl 0 rfl ?_
        refine gX_get_X1_25 (v := g th 0) C (ob_Land hth) (rf_Land_0 hth) rfl dX1_readClause_60 ?_
        refine g_bipush C dX1_readClause_63 bp_8 ?_
        refine g_icmp_lt C 80 dX1_readClause_65 (by decide) (fun c65 => ?_) (fun c65 => ?_)
        · have h := iteT c65 h
          exact g_sub [0, 1, 3, 4] rfl (J80 x3 x4 g h)
        · have h := iteF c65 h
          exact g_sub [1] rfl (J68 g h)
  refine g_aload_n C dX1_readClause_0 rfl 1 rfl ?_
  obtain ⟨g1, hr1, h⟩ := bnd h
  refine g_xVv (k := 1) (As := []) (rest := []) (go := g1) (xo := xo) Y (fun sz => cX_Text_word l D T ad sK sV xo g _ hr1 sz) kX_RX1_48_Text_word ⟨Nat.le_of_ble_eq_true rfl, Nat.le_of_ble_eq_true rfl⟩ ⟨rfl, rfl⟩ ⟨Nat.zero_le _, Nat.zero_le _⟩ (rfl : vwCl[8]? = some (RX9, TX9, 8)) ob_1 rfl rfl (Nat.le_of_ble_eq_true rfl) dX1_readClause_1 ?_
  refine g_aload_n C dX1_readClause_4 rfl 1 rfl ?_
  refine g_ldcS Y 0 rfl rfl rfl dX1_readClause_5 ?_
  obtain ⟨r7, hr7, h⟩ := bnd h
  refine g_xVz (k := 1) (As := [.ref (sK 0)]) (rest := []) (ro := r7) (go := g1) (xo := xo) Y (fun sz => cX_Text_isWord l D T ad sK sV xo g1 0 (by decide) _ hr7 sz) kX_RX1_53_Text_isWord ⟨Nat.le_of_ble_eq_true rfl, Nat.le_of_ble_eq_true rfl⟩ ⟨rfl, rfl⟩ ⟨Nat.zero_le _, Nat.zero_le _⟩ (rfl : vwCl[8]? = some (RX9, TX9, 8)) ob_1 rfl rfl (Nat.le_of_ble_eq_true rfl) dX1_readClause_7 (fun hz7 => ?_)
  refine g_istore_n (lv' := [(3, .int r7), (0, .ref (ad th)), (1, .ref (ad 1)), (2, .int x2)]) C dX1_readClause_10 rfl (Nat.le_of_ble_eq_true rfl) rfl ?_
  refine g_aload_n C dX1_readClause_11 rfl 2 rfl ?_
  refine g_ldcS Y 1 rfl rfl rfl dX1_readClause_12 ?_
  obtain ⟨r14, hr14, h⟩ := bnd h
  refine g_xVz (k := 1) (As := [.ref (sK 1)]) (rest := []) (ro := r14) (go := g1) (xo := xo) Y (fun sz => cX_Text_isWord l D T ad sK sV xo g1 1 (by decide) _ hr14 sz) kX_RX1_53_Text_isWord ⟨Nat.le_of_ble_eq_true rfl, Nat.le_of_ble_eq_true rfl⟩ ⟨rfl, rfl⟩ ⟨Nat.zero_le _, Nat.zero_le _⟩ (rfl : vwCl[8]? = some (RX9, TX9, 8)) ob_1 rfl rfl (Nat.le_of_ble_eq_true rfl) dX1_readClause_14 (fun hz14 => ?_)
  refine g_istore (lv' := [(4, .int r14), (3, .int r7), (0, .ref (ad th)), (1, .ref (ad 1)), (2, .int x2)]) C dX1_readClause_17 (Nat.le_of_ble_eq_true rfl) rfl ?_
  refine g_iload_n C dX1_readClause_19 rfl 1 rfl ?_
  refine g_if_ne C 49 dX1_readClause_20 (by decide) (fun c20 => ?_) (fun c20 => ?_)
  · have h := iteT c20 h
    refine g_iload C dX1_readClause_23 0 rfl ?_
    refine g_if_ne C 49 dX1_readClause_25 (by decide) (fun c25 => ?_) (fun c25 => ?_)
    · have h := iteT c25 h
      refine g_aload_n C dX1_readClause_28 rfl 3 rfl ?_
      refine g_ldcS Y 2 rfl rfl rfl dX1_readClause_29 ?_
      obtain ⟨r31, hr31, h⟩ := bnd h
      refine g_xVz (k := 1) (As := [.ref (sK 2)]) (rest := []) (ro := r31) (go := g1) (xo := xo) Y (fun sz => cX_Text_isWord l D T ad sK sV xo g1 2 (by decide) _ hr31 sz) kX_RX1_53_Text_isWord ⟨Nat.le_of_ble_eq_true rfl, Nat.le_of_ble_eq_true rfl⟩ ⟨rfl, rfl⟩ ⟨Nat.zero_le _, Nat.zero_le _⟩ (rfl : vwCl[8]? = some (RX9, TX9, 8)) ob_1 rfl rfl (Nat.le_of_ble_eq_true rfl) dX1_readClause_31 (fun hz31 => ?_)
      refine g_if_ne C 49 dX1_readClause_34 (by decide) (fun c34 => ?_) (fun c34 => ?_)
      · have h := iteT c34 h
        refine g_aload_n C dX1_readClause_37 rfl 3 rfl ?_
        refine g_iconst C dX1_readClause_38 ic_1 ?_
        refine g_aload_n C dX1_readClause_39 rfl 3 rfl ?_
        refine gX_get_X1_60 (v := g1 1 4) C ob_1 rfl rfl dX1_readClause_40 ?_
        obtain ⟨g43, hr43, h⟩ := ltb h
        refine g_xVv (k := 1) (As := [.int (1 : Int32), .int (g1 1 4)]) (rest := []) (go := g43) (xo := xo) Y (fun sz => cX_Text_blame l D T ad sK sV xo g1 (1 : Int32) (g1 1 4) _ hr43 sz) kX_RX1_63_Text_blame ⟨Nat.le_of_ble_eq_true rfl, Nat.le_of_ble_eq_true rfl⟩ ⟨rfl, rfl⟩ ⟨Nat.zero_le _, Nat.zero_le _⟩ (rfl : vwCl[8]? = some (RX9, TX9, 8)) ob_1 rfl rfl (Nat.le_of_ble_eq_true rfl) dX1_readClause_43 ?_
        refine g_goto (tgt := 115) C dX1_readClause_46 (by decide) ?_
        exact g_sub [3] rfl (J115 g43 h)
      · have h := iteF c34 h
        exact g_sub [2, 3, 4, 1, 0] rfl (J49 x2 r7 r14 g1 h)
    · have h := iteF c25 h
      exact g_sub [2, 3, 4, 1, 0] rfl (J49 x2 r7 r14 g1 h)
  · have h := iteF c20 h
    exact g_sub [2, 3, 4, 1, 0] rfl (J49 x2 r7 r14 g1 h)
def fX_Land_readFrom_L12 (th : Nat) : (Int32 × St) → Option ((Int32 × St) ⊕ (St)) := fun ⟨x2, g⟩ =>
  if (60 : Int32) < x2 then
    (some (.inr g))
  else
    ((fX_Text_hasMore g).bind fun ⟨r19, g19⟩ => (if r19 = 0 then
    (some (.inr g19))
  else
    ((fX_Land_readClause th x2 g19).bind fun g28 => (some (.inl ((x2 + (1 : Int32)), g28))))))
def fX_Land_readFrom_b12 (th : Nat) (x2 : Int32) (g : St) : Option (St) :=
  (lp (fX_Land_readFrom_L12 th) fuel (x2, g)).bind (fun g => some g)
def fX_Land_readFrom (th : Nat) (g : St) : Option (St) :=
  fX_Land_readFrom_b12 th (0 : Int32) (st (st g th 0 (0 : Int32)) th 1 (3 : Int32))
def rmX_Land_readFrom : Room := { frames := 9, cells := 0, slots := 0, locals := 207 }
abbrev GcX_Land_readFrom (l : Launch) (D : va_G) (T : cT) (ad : Nat → Nat) (Γ : Cxt) (o : St) (xo : Sl) (x : Sl) (g : St) (pc : Nat) (lv : List (Nat × Value)) (stk : List Value) : Prop := Gj l shX D T ad 3 (rmX_Land_readFrom) 0 0 Γ (MQ Γ.below (va_Qv (eqV o xo) (wPost shX D T ad Γ.A) Γ.A) Γ.args Γ.s 0 0 Γ.A) x g pc lv stk
set_option maxRecDepth 100000 in
set_option maxHeartbeats 4000000 in
theorem cX_Land_readFrom (l : Launch) (D : va_G) (T : cT) (ad : Nat → Nat) (sK sV : Nat → Nat) (xo : Sl) (g : St) (th : Nat) (hth : isLand th) (o : St) (h : fX_Land_readFrom th g = some o) (sz : Nat) : Met l yX1_readFrom wX_Land_readFrom (rmX_Land_readFrom) (va_Pc [.ref (ad th), .ref (ad 1)] (xPre shX D T ad sK sV xo g sz)) (va_Qv (eqV o xo) (wPost shX D T ad (aW shX T ad xo g sz)) (aW shX T ad xo g sz)) 0 0 (aW shX T ad xo g sz) := by
  refine g_startx (Qc := fun A => va_Qv (eqV o xo) (wPost shX D T ad A) A) (by decide +kernel) rfl rfl (Nat.le_of_ble_eq_true rfl) (lv := [(0, .ref (ad th)), (1, .ref (ad 1))]) rfl (fun Γ Y => ?_)
  have C := Y.1
  show GcX_Land_readFrom l D T ad Γ o xo xo g 0 [(0, .ref (ad th)), (1, .ref (ad 1))] []
  have J12 : ∀ (x2 : Int32) (g : St), fX_Land_readFrom_b12 th x2 g = some o → GcX_Land_readFrom l D T ad Γ o xo xo g 12 [(0, .ref (ad th)), (1, .ref (ad 1)), (2, .int x2)] [] := by
    intro x2 g h
    obtain ⟨g, ht, h⟩ := bnd h
    refine lp_run (P := fun t : Int32 × St => match t with | (x2, g) => GcX_Land_readFrom l D T ad Γ o xo xo g 12 [(0, .ref (ad th)), (1, .ref (ad 1)), (2, .int x2)] []) (E := fun g : St => GcX_Land_readFrom l D T ad Γ o xo xo g 37 [] []) ?_ _ _ _ ht ?_
    · rintro ⟨x2, g⟩ z h Kt Ke
      show GcX_Land_readFrom l D T ad Γ o xo xo g 12 [(0, .ref (ad th)), (1, .ref (ad 1)), (2, .int x2)] []
      refine g_iload_n C dX1_readFrom_12 rfl 2 rfl ?_
      refine g_bipush C dX1_readFrom_13 bp_60 ?_
      refine g_icmp_gt C 37 dX1_readFrom_15 (by decide) (fun c15 => ?_) (fun c15 => ?_)
      · have h := iteT c15 h
        exact g_sub [] rfl (Ke _ (Option.some.inj h).symm)
      · have h := iteF c15 h
        refine g_aload_n C dX1_readFrom_18 rfl 1 rfl ?_
        obtain ⟨⟨r19, g19⟩, hr19, h⟩ := bnd h
        refine g_xVz (k := 1) (As := []) (rest := []) (ro := r19) (go := g19) (xo := xo) Y (fun sz => cX_Text_hasMore l D T ad sK sV xo g _ hr19 sz) kX_RX1_38_Text_hasMore ⟨Nat.le_of_ble_eq_true rfl, Nat.le_of_ble_eq_true rfl⟩ ⟨rfl, rfl⟩ ⟨Nat.zero_le _, Nat.zero_le _⟩ (rfl : vwCl[8]? = some (RX9, TX9, 8)) ob_1 rfl rfl (Nat.le_of_ble_eq_true rfl) dX1_readFrom_19 (fun hz19 => ?_)
        refine g_if_eq C 37 dX1_readFrom_22 (by decide) (fun c22 => ?_) (fun c22 => ?_)
        · have h := iteT c22 h
          exact g_sub [] rfl (Ke _ (Option.some.inj h).symm)
        · have h := iteF c22 h
          refine g_aload_n C dX1_readFrom_25 rfl 0 rfl ?_
          refine g_aload_n C dX1_readFrom_26 rfl 1 rfl ?_
          refine g_iload_n C dX1_readFrom_27 rfl 2 rfl ?_
          obtain ⟨g28, hr28, h⟩ := bnd h
          refine g_xVv (k := th) (As := [.ref (ad 1), .int x2]) (rest := []) (go := g28) (xo := xo) Y (fun sz => cX_Land_readClause l D T ad sK sV xo g19 th x2 hth _ hr28 sz) kX_RX1_44_Land_readClause ⟨Nat.le_of_ble_eq_true rfl, Nat.le_of_ble_eq_true rfl⟩ ⟨rfl, rfl⟩ ⟨Nat.zero_le _, Nat.zero_le _⟩ (rfl : vwCl[1]? = some (RX1, TX1, 5)) (ob_Land hth) rfl rfl (Nat.le_of_ble_eq_true rfl) dX1_readFrom_28 ?_
          refine g_iinc (lv' := [(2, .int (x2 + (1 : Int32))), (0, .ref (ad th)), (1, .ref (ad 1))]) C dX1_readFrom_31 2 rfl (ii_1 _) (Nat.le_of_ble_eq_true rfl) rfl ?_
          refine g_goto (tgt := 12) C dX1_readFrom_34 (by decide) ?_
          exact g_sub [1, 2, 0] rfl (Kt _ (Option.some.inj h).symm)
    · show GcX_Land_readFrom l D T ad Γ o xo xo g 37 [] []
      obtain rfl := Option.some.inj h
      exact g_vret C rfl rfl dX1_readFrom_37
  refine g_aload_n C dX1_readFrom_0 rfl 0 rfl ?_
  refine g_iconst C dX1_readFrom_1 ic_0 ?_
  refine gX_put_X1_25 C (ob_Land hth) (rf_Land_0 hth) dX1_readFrom_2 ?_
  refine g_aload_n C dX1_readFrom_5 rfl 0 rfl ?_
  refine g_iconst C dX1_readFrom_6 ic_3 ?_
  refine gX_put_X1_9 C (ob_Land hth) (rf_Land_1 hth) dX1_readFrom_7 ?_
  refine g_iconst C dX1_readFrom_10 ic_0 ?_
  refine g_istore_n (lv' := [(2, .int (0 : Int32)), (0, .ref (ad th)), (1, .ref (ad 1))]) C dX1_readFrom_11 rfl (Nat.le_of_ble_eq_true rfl) rfl ?_
  exact g_sub [1, 2, 0] rfl (J12 (0 : Int32) (st (st g th 0 (0 : Int32)) th 1 (3 : Int32)) h)
def fX_Law_clear (th : Nat) (g : St) : St :=
  (st g th 3 (0 : Int32))
def rmX_Law_clear : Room := { frames := 0, cells := 0, slots := 0, locals := 0 }
abbrev GcX_Law_clear (l : Launch) (D : va_G) (T : cT) (ad : Nat → Nat) (Γ : Cxt) (o : St) (xo : Sl) (x : Sl) (g : St) (pc : Nat) (lv : List (Nat × Value)) (stk : List Value) : Prop := Gj l shX D T ad 1 (rmX_Law_clear) 0 0 Γ (MQ Γ.below (va_Qv (eqV o xo) (wPost shX D T ad Γ.A) Γ.A) Γ.args Γ.s 0 0 Γ.A) x g pc lv stk
set_option maxRecDepth 100000 in
set_option maxHeartbeats 4000000 in
theorem cX_Law_clear (l : Launch) (D : va_G) (T : cT) (ad : Nat → Nat) (sK sV : Nat → Nat) (xo : Sl) (g : St) (th : Nat) (hth : isLaw th) (o : St) (h : fX_Law_clear th g = o) (sz : Nat) : Met l yX2_clear wX_Law_clear (rmX_Law_clear) (va_Pc [.ref (ad th)] (xPre shX D T ad sK sV xo g sz)) (va_Qv (eqV o xo) (wPost shX D T ad (aW shX T ad xo g sz)) (aW shX T ad xo g sz)) 0 0 (aW shX T ad xo g sz) := by
  refine g_startx (Qc := fun A => va_Qv (eqV o xo) (wPost shX D T ad A) A) (by decide +kernel) rfl rfl (Nat.le_of_ble_eq_true rfl) (lv := [(0, .ref (ad th))]) rfl (fun Γ Y => ?_)
  have C := Y.1
  show GcX_Law_clear l D T ad Γ o xo xo g 0 [(0, .ref (ad th))] []
  refine g_aload_n C dX2_clear_0 rfl 0 rfl ?_
  refine g_iconst C dX2_clear_1 ic_0 ?_
  refine gX_put_X2_21 C (ob_Law hth) (rf_Law_3 hth) dX2_clear_2 ?_
  subst h
  exact g_vret C rfl rfl dX2_clear_5
def fX_Law_add (th : Nat) (x1 : Int32) (g : St) : Option (St) :=
  if (150 : Int32) ≤ (g th 3) then
    (some g)
  else
    ((fX_Rows_put (rX th 0) (g th 3) x1 g).bind fun g19 => (some (st g19 th 3 ((g19 th 3) + (1 : Int32)))))
def rmX_Law_add : Room := { frames := 1, cells := 0, slots := 0, locals := 22 }
abbrev GcX_Law_add (l : Launch) (D : va_G) (T : cT) (ad : Nat → Nat) (Γ : Cxt) (o : St) (xo : Sl) (x : Sl) (g : St) (pc : Nat) (lv : List (Nat × Value)) (stk : List Value) : Prop := Gj l shX D T ad 2 (rmX_Law_add) 0 0 Γ (MQ Γ.below (va_Qv (eqV o xo) (wPost shX D T ad Γ.A) Γ.A) Γ.args Γ.s 0 0 Γ.A) x g pc lv stk
set_option maxRecDepth 100000 in
set_option maxHeartbeats 4000000 in
theorem cX_Law_add (l : Launch) (D : va_G) (T : cT) (ad : Nat → Nat) (sK sV : Nat → Nat) (xo : Sl) (g : St) (th : Nat) (x1 : Int32) (hth : isLaw th) (o : St) (h : fX_Law_add th x1 g = some o) (sz : Nat) : Met l yX2_add wX_Law_add (rmX_Law_add) (va_Pc [.ref (ad th), .int x1] (xPre shX D T ad sK sV xo g sz)) (va_Qv (eqV o xo) (wPost shX D T ad (aW shX T ad xo g sz)) (aW shX T ad xo g sz)) 0 0 (aW shX T ad xo g sz) := by
  refine g_startx (Qc := fun A => va_Qv (eqV o xo) (wPost shX D T ad A) A) (by decide +kernel) rfl rfl (Nat.le_of_ble_eq_true rfl) (lv := [(0, .ref (ad th)), (1, .int x1)]) rfl (fun Γ Y => ?_)
  have C := Y.1
  show GcX_Law_add l D T ad Γ o xo xo g 0 [(0, .ref (ad th)), (1, .int x1)] []
  refine g_aload_n C dX2_add_0 rfl 0 rfl ?_
  refine gX_get_X2_21 (v := g th 3) C (ob_Law hth) (rf_Law_3 hth) rfl dX2_add_1 ?_
  refine g_sipush C dX2_add_4 sp_150 ?_
  refine g_icmp_ge C 32 dX2_add_7 (by decide) (fun c7 => ?_) (fun c7 => ?_)
  · have h := iteT c7 h
    obtain rfl := Option.some.inj h
    exact g_vret C rfl rfl dX2_add_32
  · have h := iteF c7 h
    refine g_aload_n C dX2_add_10 rfl 0 rfl ?_
    refine gX_get_X2_9 C (ob_Law hth) (rf_Law_0 hth) dX2_add_11 ?_
    refine g_aload_n C dX2_add_14 rfl 0 rfl ?_
    refine gX_get_X2_21 (v := g th 3) C (ob_Law hth) (rf_Law_3 hth) rfl dX2_add_15 ?_
    refine g_iload_n C dX2_add_18 rfl 1 rfl ?_
    obtain ⟨g19, hr19, h⟩ := bnd h
    refine g_xSv (As := [.ref (ad (rX th 0)), .int (g th 3), .int x1]) (rest := []) (go := g19) (xo := xo) Y (fun sz => cX_Rows_put l D T ad sK sV xo g (rX th 0) (g th 3) x1 _ hr19 sz) kX_RX2_25_Rows_put ⟨Nat.le_of_ble_eq_true rfl, Nat.le_of_ble_eq_true rfl⟩ ⟨rfl, rfl⟩ ⟨Nat.zero_le _, Nat.zero_le _⟩ rfl rfl (Nat.le_of_ble_eq_true rfl) dX2_add_19 ?_
    refine g_aload_n C dX2_add_22 rfl 0 rfl ?_
    refine g_dup C dX2_add_23 rfl ?_
    refine gX_get_X2_21 (v := g19 th 3) C (ob_Law hth) (rf_Law_3 hth) rfl dX2_add_24 ?_
    refine g_iconst C dX2_add_27 ic_1 ?_
    refine g_iadd C dX2_add_28 ?_
    refine gX_put_X2_21 C (ob_Law hth) (rf_Law_3 hth) dX2_add_29 ?_
    obtain rfl := Option.some.inj h
    exact g_vret C rfl rfl dX2_add_32
def fX_Law_take (th : Nat) (x1 : Nat) (g : St) : Option (St) :=
  (fX_Rows_copy (rX x1 0) (0 : Int32) (rX th 0) (0 : Int32) ((st g th 3 (g x1 3)) x1 3) (st g th 3 (g x1 3))).bind fun g22 => (some g22)
def rmX_Law_take : Room := { frames := 2, cells := 0, slots := 0, locals := 47 }
abbrev GcX_Law_take (l : Launch) (D : va_G) (T : cT) (ad : Nat → Nat) (Γ : Cxt) (o : St) (xo : Sl) (x : Sl) (g : St) (pc : Nat) (lv : List (Nat × Value)) (stk : List Value) : Prop := Gj l shX D T ad 2 (rmX_Law_take) 0 0 Γ (MQ Γ.below (va_Qv (eqV o xo) (wPost shX D T ad Γ.A) Γ.A) Γ.args Γ.s 0 0 Γ.A) x g pc lv stk
set_option maxRecDepth 100000 in
set_option maxHeartbeats 4000000 in
theorem cX_Law_take (l : Launch) (D : va_G) (T : cT) (ad : Nat → Nat) (sK sV : Nat → Nat) (xo : Sl) (g : St) (th : Nat) (x1 : Nat) (hth : isLaw th) (hx1 : isLaw x1) (o : St) (h : fX_Law_take th x1 g = some o) (sz : Nat) : Met l yX2_take wX_Law_take (rmX_Law_take) (va_Pc [.ref (ad th), .ref (ad x1)] (xPre shX D T ad sK sV xo g sz)) (va_Qv (eqV o xo) (wPost shX D T ad (aW shX T ad xo g sz)) (aW shX T ad xo g sz)) 0 0 (aW shX T ad xo g sz) := by
  refine g_startx (Qc := fun A => va_Qv (eqV o xo) (wPost shX D T ad A) A) (by decide +kernel) rfl rfl (Nat.le_of_ble_eq_true rfl) (lv := [(0, .ref (ad th)), (1, .ref (ad x1))]) rfl (fun Γ Y => ?_)
  have C := Y.1
  show GcX_Law_take l D T ad Γ o xo xo g 0 [(0, .ref (ad th)), (1, .ref (ad x1))] []
  refine g_aload_n C dX2_take_0 rfl 0 rfl ?_
  refine g_aload_n C dX2_take_1 rfl 1 rfl ?_
  refine gX_get_X2_21 (v := g x1 3) C (ob_Law hx1) (rf_Law_3 hx1) rfl dX2_take_2 ?_
  refine gX_put_X2_21 C (ob_Law hth) (rf_Law_3 hth) dX2_take_5 ?_
  refine g_aload_n C dX2_take_8 rfl 1 rfl ?_
  refine gX_get_X2_9 C (ob_Law hx1) (rf_Law_0 hx1) dX2_take_9 ?_
  refine g_iconst C dX2_take_12 ic_0 ?_
  refine g_aload_n C dX2_take_13 rfl 0 rfl ?_
  refine gX_get_X2_9 C (ob_Law hth) (rf_Law_0 hth) dX2_take_14 ?_
  refine g_iconst C dX2_take_17 ic_0 ?_
  refine g_aload_n C dX2_take_18 rfl 1 rfl ?_
  refine gX_get_X2_21 (v := (st g th 3 (g x1 3)) x1 3) C (ob_Law hx1) (rf_Law_3 hx1) rfl dX2_take_19 ?_
  obtain ⟨g22, hr22, h⟩ := bnd h
  refine g_xSv (As := [.ref (ad (rX x1 0)), .int (0 : Int32), .ref (ad (rX th 0)), .int (0 : Int32), .int ((st g th 3 (g x1 3)) x1 3)]) (rest := []) (go := g22) (xo := xo) Y (fun sz => cX_Rows_copy l D T ad sK sV xo (st g th 3 (g x1 3)) (rX x1 0) (0 : Int32) (rX th 0) (0 : Int32) ((st g th 3 (g x1 3)) x1 3) _ hr22 sz) kX_RX2_31_Rows_copy ⟨Nat.le_of_ble_eq_true rfl, Nat.le_of_ble_eq_true rfl⟩ ⟨rfl, rfl⟩ ⟨Nat.zero_le _, Nat.zero_le _⟩ rfl rfl (Nat.le_of_ble_eq_true rfl) dX2_take_22 ?_
  obtain rfl := Option.some.inj h
  exact g_vret C rfl rfl dX2_take_25
