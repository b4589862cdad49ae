def fX_latest_b69 (x1 : Int32) (x2 : Int32) (x3 : Int32) (x4 : Int32) (g : St) : Option ((Int32 × Int32 × Int32) ⊕ ((Int32 × Int32))) :=
  some (.inl (x2, x3, (x4 + (1 : Int32))))
def fX_latest_L25 (x1 : Int32) (g : St) : (Int32 × Int32 × Int32) → Option ((Int32 × Int32 × Int32) ⊕ ((Int32 × Int32))) := fun ⟨x2, x3, x4⟩ =>
  if (g 2 0) ≤ x4 then
    (some (.inr (x2, x3)))
  else
    ((fX_Rows_at 39 x4 g).bind fun r46 => (if r46 ≤ x3 then
    (fX_latest_b69 x1 x2 x3 x4 g)
  else
    ((fX_Rows_at 39 x4 g).bind fun r65 => (fX_latest_b69 x1 x4 r65 x4 g))))
def fX_latest_b25 (x1 : Int32) (x2 : Int32) (x3 : Int32) (x4 : Int32) (g : St) : Option ((Nat ⊕ Int32) × St) :=
  (lp (fX_latest_L25 x1 g) fuel (x2, x3, x4)).bind (fun ⟨x2, x3⟩ => if x1 = 0 then
    (some (.inr x2, g))
  else
    (some (.inr x3, g)))
def fX_latest_b15 (x1 : Int32) (s1 : Int32) (g : St) : Option ((Nat ⊕ Int32) × St) :=
  lt1 (fX_need s1 g) fun ⟨r15, g15⟩ => Sum.elim (fun k => some (.inl k, g15)) (fun _ => fX_latest_b25 x1 (-1 : Int32) (-1 : Int32) (0 : Int32) g15) r15
def fX_latest_b10 (x1 : Int32) (g : St) : Option ((Nat ⊕ Int32) × St) :=
  fX_latest_b15 x1 (1 : Int32) g
def fX_latest (x1 : Int32) (g : St) : Option ((Nat ⊕ Int32) × St) :=
  if x1 = 0 then
    (fX_latest_b10 x1 g)
  else
    (if x1 = (1 : Int32) then
    (fX_latest_b10 x1 g)
  else
    (fX_latest_b15 x1 (0 : Int32) g))
def rmX_latest : Room := { frames := 9, cells := 1, slots := 6, locals := 141 }
abbrev GcX_latest (l : Launch) (D : va_G) (T : cT) (ad : Nat → Nat) (Γ : Cxt) (o : (Nat ⊕ Int32) × St) (xo : Sl) (kc : Nat) (x : Sl) (g : St) (pc : Nat) (lv : List (Nat × Value)) (stk : List Value) : Prop := Gj l shX D T ad 5 (rmX_latest) kc (6 * kc) Γ (vx_MQ Γ.below (va_Qi (xoI o xo) (wPost shX D T ad Γ.A) Γ.A) (xoX shX D T ad o.1 (o.2, xo) Γ.A) Γ.args Γ.s 1 6 Γ.A) x g pc lv stk
set_option maxRecDepth 100000 in
set_option maxHeartbeats 4000000 in
theorem cX_latest (l : Launch) (hl0 : l.stackTraces = false) (D : va_G) (T : cT) (ad : Nat → Nat) (sK sV : Nat → Nat) (xo : Sl) (g : St) (x1 : Int32) (o : (Nat ⊕ Int32) × St) (h : fX_latest x1 g = some o) (sz : Nat) : vx_Met l yX11_latest wX_latest (rmX_latest) (va_Pc [.ref (ad 0), .int x1] (xPre shX D T ad sK sV xo g sz)) (va_Qi (xoI o xo) (wPost shX D T ad (aW shX T ad xo g sz)) (aW shX T ad xo g sz)) (xoX shX D T ad o.1 (o.2, xo) (aW shX T ad xo g sz)) 1 6 (aW shX T ad xo g sz) := by
  refine g_startt (Qc := fun A => va_Qi (xoI o xo) (wPost shX D T ad A) A) (XC := fun A => xoX shX D T ad o.1 (o.2, xo) A) hl0 (by decide +kernel) rfl rfl (Nat.le_of_ble_eq_true rfl) (lv := [(0, .ref (ad 0)), (1, .int x1)]) rfl (fun Γ Z => ?_)
  have Y := Z.1
  have C := Y.1
  show GcX_latest l D T ad Γ o xo 0 xo g 0 [(0, .ref (ad 0)), (1, .int x1)] []
  have J25 : ∀ (x1 : Int32) (x2 : Int32) (x3 : Int32) (x4 : Int32) (g : St), fX_latest_b25 x1 x2 x3 x4 g = some o → GcX_latest l D T ad Γ o xo 1 xo g 25 [(0, .ref (ad 0)), (1, .int x1), (2, .int x2), (3, .int x3), (4, .int x4)] [] := by
    intro x1 x2 x3 x4 g h
    obtain ⟨⟨x2, x3⟩, ht, h⟩ := bnd h
    refine lp_run (P := fun t : Int32 × Int32 × Int32 => match t with | (x2, x3, x4) => GcX_latest l D T ad Γ o xo 1 xo g 25 [(0, .ref (ad 0)), (1, .int x1), (2, .int x2), (3, .int x3), (4, .int x4)] []) (E := fun t : Int32 × Int32 => match t with | (x2, x3) => GcX_latest l D T ad Γ o xo 1 xo g 75 [(1, .int x1), (2, .int x2), (3, .int x3)] []) ?_ _ _ _ ht ?_
    · rintro ⟨x2, x3, x4⟩ z h Kt Ke
      show GcX_latest l D T ad Γ o xo 1 xo g 25 [(0, .ref (ad 0)), (1, .int x1), (2, .int x2), (3, .int x3), (4, .int x4)] []
      have J69 : ∀ (x2 : Int32) (x3 : Int32) (x4 : Int32), fX_latest_b69 x1 x2 x3 x4 g = some z → GcX_latest l D T ad Γ o xo 1 xo g 69 [(0, .ref (ad 0)), (1, .int x1), (2, .int x2), (3, .int x3), (4, .int x4)] [] := by
        intro x2 x3 x4 h
        refine g_iinc (lv' := [(4, .int (x4 + (1 : Int32))), (0, .ref (ad 0)), (1, .int x1), (2, .int x2), (3, .int x3)]) C dX11_latest_69 4 rfl (ii_1 _) (Nat.le_of_ble_eq_true rfl) rfl ?_
        refine g_goto (tgt := 25) C dX11_latest_72 (by decide) ?_
        exact g_sub [1, 2, 3, 4, 0] rfl (Kt _ (Option.some.inj h).symm)
      refine g_iload C dX11_latest_25 4 rfl ?_
      refine g_aload_n C dX11_latest_27 rfl 0 rfl ?_
      refine gX_get_X11_19 C ob_0 rfl dX11_latest_28 ?_
      refine gX_get_X11_143 (v := g 2 0) C ob_2 rfl rfl dX11_latest_31 ?_
      refine g_icmp_ge C 75 dX11_latest_34 (by decide) (fun c34 => ?_) (fun c34 => ?_)
      · have h := iteT c34 h
        exact g_sub [1, 2, 3] rfl (Ke _ (Option.some.inj h).symm)
      · have h := iteF c34 h
        refine g_aload_n C dX11_latest_37 rfl 0 rfl ?_
        refine gX_get_X11_65 C ob_0 rfl dX11_latest_38 ?_
        refine gX_get_X11_247 C ob_10 rfl dX11_latest_41 ?_
        refine g_iload C dX11_latest_44 4 rfl ?_
        obtain ⟨r46, hr46, h⟩ := bnd h
        refine g_xSi (As := [.ref (ad 39), .int x4]) (rest := []) (ro := r46) (go := g) (xo := xo) Y (fun sz => cX_Rows_at l D T ad sK sV xo g 39 x4 _ hr46 sz) kX_RX11_221_Rows_at ⟨Nat.le_of_ble_eq_true rfl, Nat.le_of_ble_eq_true rfl⟩ ⟨rfl, rfl⟩ ⟨Nat.le_of_ble_eq_true rfl, Nat.le_of_ble_eq_true rfl⟩ rfl rfl (Nat.le_of_ble_eq_true rfl) dX11_latest_46 ?_
        refine g_iload_n C dX11_latest_49 rfl 3 rfl ?_
        refine g_icmp_le C 69 dX11_latest_50 (by decide) (fun c50 => ?_) (fun c50 => ?_)
        · have h := iteT c50 h
          exact J69 x2 x3 x4 h
        · have h := iteF c50 h
          refine g_iload C dX11_latest_53 4 rfl ?_
          refine g_istore_n (lv' := [(2, .int x4), (0, .ref (ad 0)), (1, .int x1), (3, .int x3), (4, .int x4)]) C dX11_latest_55 rfl (Nat.le_of_ble_eq_true rfl) rfl ?_
          refine g_aload_n C dX11_latest_56 rfl 1 rfl ?_
          refine gX_get_X11_65 C ob_0 rfl dX11_latest_57 ?_
          refine gX_get_X11_247 C ob_10 rfl dX11_latest_60 ?_
          refine g_iload C dX11_latest_63 4 rfl ?_
          obtain ⟨r65, hr65, h⟩ := bnd h
          refine g_xSi (As := [.ref (ad 39), .int x4]) (rest := []) (ro := r65) (go := g) (xo := xo) Y (fun sz => cX_Rows_at l D T ad sK sV xo g 39 x4 _ hr65 sz) kX_RX11_221_Rows_at ⟨Nat.le_of_ble_eq_true rfl, Nat.le_of_ble_eq_true rfl⟩ ⟨rfl, rfl⟩ ⟨Nat.le_of_ble_eq_true rfl, Nat.le_of_ble_eq_true rfl⟩ rfl rfl (Nat.le_of_ble_eq_true rfl) dX11_latest_65 ?_
          refine g_istore_n (lv' := [(3, .int r65), (2, .int x4), (0, .ref (ad 0)), (1, .int x1), (4, .int x4)]) C dX11_latest_68 rfl (Nat.le_of_ble_eq_true rfl) rfl ?_
          exact g_sub [2, 3, 1, 0, 4] rfl (J69 x4 r65 x4 h)
    · show GcX_latest l D T ad Γ o xo 1 xo g 75 [(1, .int x1), (2, .int x2), (3, .int x3)] []
      refine g_iload_n C dX11_latest_75 rfl 0 rfl ?_
      refine g_if_ne C 83 dX11_latest_76 (by decide) (fun c76 => ?_) (fun c76 => ?_)
      · have h := iteT c76 h
        refine g_iload_n C dX11_latest_79 rfl 1 rfl ?_
        refine g_goto (tgt := 84) C dX11_latest_80 (by decide) ?_
        obtain rfl := Option.some.inj h
        exact g_treti Z rfl rfl ⟨Nat.le_of_ble_eq_true rfl, Nat.le_of_ble_eq_true rfl⟩ dX11_latest_84
      · have h := iteF c76 h
        refine g_iload_n C dX11_latest_83 rfl 2 rfl ?_
        obtain rfl := Option.some.inj h
        exact g_treti Z rfl rfl ⟨Nat.le_of_ble_eq_true rfl, Nat.le_of_ble_eq_true rfl⟩ dX11_latest_84
  have J15 : ∀ (x1 : Int32) (s1 : Int32) (g : St), fX_latest_b15 x1 s1 g = some o → GcX_latest l D T ad Γ o xo 0 xo g 15 [(0, .ref (ad 0)), (1, .int x1)] [.int s1, .ref (ad 0)] := by
    intro x1 s1 g h
    obtain ⟨⟨r15, g15⟩, hr15, h⟩ := ltb h
    refine g_tVv (k := 0) (As := [.int s1]) (rest := []) (o := (r15, g15)) (xo := xo) Z (fun sz => cX_need l hl0 D T ad sK sV xo g s1 _ hr15 sz) kX_RX11_115_need ⟨Nat.le_of_ble_eq_true rfl, Nat.le_of_ble_eq_true rfl⟩ ⟨rfl, rfl⟩ ⟨Nat.le_of_ble_eq_true rfl, Nat.le_of_ble_eq_true rfl⟩ (rfl : vwCl[10]? = some (RX11, TX11, 19)) ob_0 rfl rfl (Nat.le_of_ble_eq_true rfl) dX11_latest_15 ⟨Nat.le_of_ble_eq_true rfl, Nat.le_of_ble_eq_true rfl⟩ (fun k9 hk9 => ?_) (fun v9 hv9 => ?_)
    · subst hk9
      obtain rfl := Option.some.inj h
      exact ⟨rfl, rfl⟩
    · subst hv9
      have h := selR h
      refine g_iconst C dX11_latest_18 ic_m1 ?_
      refine g_istore_n (lv' := [(2, .int (-1 : Int32)), (0, .ref (ad 0)), (1, .int x1)]) C dX11_latest_19 rfl (Nat.le_of_ble_eq_true rfl) rfl ?_
      refine g_iconst C dX11_latest_20 ic_m1 ?_
      refine g_istore_n (lv' := [(3, .int (-1 : Int32)), (2, .int (-1 : Int32)), (0, .ref (ad 0)), (1, .int x1)]) C dX11_latest_21 rfl (Nat.le_of_ble_eq_true rfl) rfl ?_
      refine g_iconst C dX11_latest_22 ic_0 ?_
      refine g_istore (lv' := [(4, .int (0 : Int32)), (3, .int (-1 : Int32)), (2, .int (-1 : Int32)), (0, .ref (ad 0)), (1, .int x1)]) C dX11_latest_23 (Nat.le_of_ble_eq_true rfl) rfl ?_
      exact g_sub [3, 4, 2, 1, 0] rfl (J25 x1 (-1 : Int32) (-1 : Int32) (0 : Int32) g15 h)
  have J10 : ∀ (x1 : Int32) (g : St), fX_latest_b10 x1 g = some o → GcX_latest l D T ad Γ o xo 0 xo g 10 [(0, .ref (ad 0)), (1, .int x1)] [.ref (ad 0)] := by
    intro x1 g h
    refine g_iconst C dX11_latest_10 ic_1 ?_
    refine g_goto (tgt := 15) C dX11_latest_11 (by decide) ?_
    exact J15 x1 (1 : Int32) g h
  refine g_aload_n C dX11_latest_0 rfl 0 rfl ?_
  refine g_iload_n C dX11_latest_1 rfl 1 rfl ?_
  refine g_if_eq C 10 dX11_latest_2 (by decide) (fun c2 => ?_) (fun c2 => ?_)
  · have h := iteT c2 h
    exact J10 x1 g h
  · have h := iteF c2 h
    refine g_iload_n C dX11_latest_5 rfl 1 rfl ?_
    refine g_iconst C dX11_latest_6 ic_1 ?_
    refine g_icmp_ne C 14 dX11_latest_7 (by decide) (fun c7 => ?_) (fun c7 => ?_)
    · have h := iteT c7 h
      exact J10 x1 g h
    · have h := iteF c7 h
      refine g_iconst C dX11_latest_14 ic_0 ?_
      exact J15 x1 (0 : Int32) g h
def fX_drawn (x1 : Int32) (g : St) : Option (Int32 × St) :=
  if x1 ≤ 0 then
    (some ((0 : Int32), (st g 0 15 (((g 0 15) * (1103515245 : Int32)) + (12345 : Int32)))))
  else
    (if ¬ x1 = 0 then (some ((((((((g 0 15) * (1103515245 : Int32)) + (12345 : Int32)).toUInt32 >>> ((16 : Int32).toUInt32 &&& Int32.toUInt32 31)).toInt32) &&& (32767 : Int32)) - ((((((g 0 15) * (1103515245 : Int32)) + (12345 : Int32)).toUInt32 >>> ((16 : Int32).toUInt32 &&& Int32.toUInt32 31)).toInt32) &&& (32767 : Int32)) / x1 * x1), (st g 0 15 (((g 0 15) * (1103515245 : Int32)) + (12345 : Int32))))) else none)
def rmX_drawn : Room := { frames := 0, cells := 0, slots := 0, locals := 0 }
abbrev GcX_drawn (l : Launch) (D : va_G) (T : cT) (ad : Nat → Nat) (Γ : Cxt) (o : Int32 × St) (xo : Sl) (x : Sl) (g : St) (pc : Nat) (lv : List (Nat × Value)) (stk : List Value) : Prop := Gj l shX D T ad 3 (rmX_drawn) 0 0 Γ (MQ Γ.below (va_Qi (eqI o.1 o.2 xo) (wPost shX D T ad Γ.A) Γ.A) Γ.args Γ.s 0 0 Γ.A) x g pc lv stk
set_option maxRecDepth 100000 in
set_option maxHeartbeats 4000000 in
theorem cX_drawn (l : Launch) (D : va_G) (T : cT) (ad : Nat → Nat) (sK sV : Nat → Nat) (xo : Sl) (g : St) (x1 : Int32) (o : Int32 × St) (h : fX_drawn x1 g = some o) (sz : Nat) : Met l yX11_drawn wX_drawn (rmX_drawn) (va_Pc [.ref (ad 0), .int x1] (xPre shX D T ad sK sV xo g sz)) (va_Qi (eqI o.1 o.2 xo) (wPost shX D T ad (aW shX T ad xo g sz)) (aW shX T ad xo g sz)) 0 0 (aW shX T ad xo g sz) := by
  refine g_startx (Qc := fun A => va_Qi (eqI o.1 o.2 xo) (wPost shX D T ad A) A) (by decide +kernel) rfl rfl (Nat.le_of_ble_eq_true rfl) (lv := [(0, .ref (ad 0)), (1, .int x1)]) rfl (fun Γ Y => ?_)
  have C := Y.1
  show GcX_drawn l D T ad Γ o xo xo g 0 [(0, .ref (ad 0)), (1, .int x1)] []
  refine g_aload_n C dX11_drawn_0 rfl 0 rfl ?_
  refine g_aload_n C dX11_drawn_1 rfl 0 rfl ?_
  refine gX_get_X11_411 (v := g 0 15) C ob_0 rfl rfl dX11_drawn_2 ?_
  refine g_ldc_w C dX11_drawn_5 (List.mem_cons_of_mem _ bx_774) ?_
  refine g_imul C dX11_drawn_8 ?_
  refine g_sipush C dX11_drawn_9 sp_12345 ?_
  refine g_iadd C dX11_drawn_12 ?_
  refine gX_put_X11_411 C ob_0 rfl dX11_drawn_13 ?_
  refine g_aload_n C dX11_drawn_16 rfl 0 rfl ?_
  refine gX_get_X11_411 (v := ((g 0 15) * (1103515245 : Int32)) + (12345 : Int32)) C ob_0 rfl rfl dX11_drawn_17 ?_
  refine g_bipush C dX11_drawn_20 bp_16 ?_
  refine g_iushr C dX11_drawn_22 ?_
  refine g_sipush C dX11_drawn_23 sp_32767 ?_
  refine g_iand C dX11_drawn_26 ?_
  refine g_istore_n (lv' := [(2, .int ((((((g 0 15) * (1103515245 : Int32)) + (12345 : Int32)).toUInt32 >>> ((16 : Int32).toUInt32 &&& Int32.toUInt32 31)).toInt32) &&& (32767 : Int32))), (0, .ref (ad 0)), (1, .int x1)]) C dX11_drawn_27 rfl (Nat.le_of_ble_eq_true rfl) rfl ?_
  refine g_iload_n C dX11_drawn_28 rfl 2 rfl ?_
  refine g_if_le C 38 dX11_drawn_29 (by decide) (fun c29 => ?_) (fun c29 => ?_)
  · have h := iteT c29 h
    refine g_iconst C dX11_drawn_38 ic_0 ?_
    obtain rfl := Option.some.inj h
    exact g_iret C rfl rfl rfl dX11_drawn_39
  · have h := iteF c29 h
    refine g_iload_n C dX11_drawn_32 rfl 0 rfl ?_
    refine g_iload_n C dX11_drawn_33 rfl 2 rfl ?_
    obtain ⟨hd34, h⟩ := grd h
    refine g_irem C dX11_drawn_34 hd34 ?_
    refine g_goto (tgt := 39) C dX11_drawn_35 (by decide) ?_
    obtain rfl := Option.some.inj h
    exact g_iret C rfl rfl rfl dX11_drawn_39
def fX_passCentury_b105 (x2 : Int32) (x3 : Int32) (x4 : Int32) (g : St) : Option ((Int32 × St) ⊕ (St)) :=
  (fX_State_passYear 11 g).bind fun g109 => (some (.inl ((x4 + (1 : Int32)), g109)))
def fX_passCentury_b66 (x2 : Int32) (x3 : Int32) (x4 : Int32) (g : St) : Option ((Int32 × St) ⊕ (St)) :=
  (fX_drawn (g 2 0) g).bind fun ⟨r74, g74⟩ => ((fX_drawn (g74 2 0) g74).bind fun ⟨r87, g87⟩ => ((fX_State_does 11 (1 : Int32) r74 r87 g87).bind fun ⟨r101, g101⟩ => (fX_passCentury_b105 x2 x3 x4 g101)))
def fX_passCentury_L19 (x2 : Int32) (x3 : Int32) : (Int32 × St) → Option ((Int32 × St) ⊕ (St)) := fun ⟨x4, g⟩ =>
  if x2 ≤ x4 then
    (some (.inr g))
  else
    (if (g 2 0) ≤ 0 then
    (fX_passCentury_b105 x2 x3 x4 g)
  else
    ((fX_drawn (16 : Int32) g).bind fun ⟨r38, g38⟩ => (if x3 ≤ r38 then
    (fX_passCentury_b66 x2 x3 x4 g38)
  else
    ((fX_drawn (g38 2 0) g38).bind fun ⟨r58, g58⟩ => ((fX_State_does 11 (0 : Int32) r58 (0 : Int32) g58).bind fun ⟨r62, g62⟩ => (fX_passCentury_b66 x2 x3 x4 g62))))))
def fX_passCentury_b19 (x2 : Int32) (x3 : Int32) (x4 : Int32) (g : St) : Option (St) :=
  (lp (fX_passCentury_L19 x2 x3) fuel (x4, g)).bind (fun g => some g)
def fX_passCentury (x1 : Int32) (x2 : Int32) (x3 : Int32) (g : St) : Option (St) :=
  (fX_State_take 11 10 g).bind fun g8 => (fX_passCentury_b19 x2 x3 (0 : Int32) (st g8 0 15 x1))
def rmX_passCentury : Room := { frames := 5, cells := 0, slots := 0, locals := 119 }
abbrev GcX_passCentury (l : Launch) (D : va_G) (T : cT) (ad : Nat → Nat) (Γ : Cxt) (o : St) (xo : Sl) (x : Sl) (g : St) (pc : Nat) (lv : List (Nat × Value)) (stk : List Value) : Prop := Gj l shX D T ad 7 (rmX_passCentury) 0 0 Γ (MQ Γ.below (va_Qv (eqV o xo) (wPost shX D T ad Γ.A) Γ.A) Γ.args Γ.s 0 0 Γ.A) x g pc lv stk
set_option maxRecDepth 100000 in
set_option maxHeartbeats 4000000 in
theorem cX_passCentury (l : Launch) (D : va_G) (T : cT) (ad : Nat → Nat) (sK sV : Nat → Nat) (xo : Sl) (g : St) (x1 : Int32) (x2 : Int32) (x3 : Int32) (o : St) (h : fX_passCentury x1 x2 x3 g = some o) (sz : Nat) : Met l yX11_passCentury wX_passCentury (rmX_passCentury) (va_Pc [.ref (ad 0), .int x1, .int x2, .int x3] (xPre shX D T ad sK sV xo g sz)) (va_Qv (eqV o xo) (wPost shX D T ad (aW shX T ad xo g sz)) (aW shX T ad xo g sz)) 0 0 (aW shX T ad xo g sz) := by
  refine g_startx (Qc := fun A => va_Qv (eqV o xo) (wPost shX D T ad A) A) (by decide +kernel) rfl rfl (Nat.le_of_ble_eq_true rfl) (lv := [(0, .ref (ad 0)), (1, .int x1), (2, .int x2), (3, .int x3)]) rfl (fun Γ Y => ?_)
  have C := Y.1
  show GcX_passCentury l D T ad Γ o xo xo g 0 [(0, .ref (ad 0)), (1, .int x1), (2, .int x2), (3, .int x3)] []
  have J19 : ∀ (x2 : Int32) (x3 : Int32) (x4 : Int32) (g : St), fX_passCentury_b19 x2 x3 x4 g = some o → GcX_passCentury l D T ad Γ o xo xo g 19 [(0, .ref (ad 0)), (2, .int x2), (3, .int x3), (4, .int x4)] [] := by
    intro x2 x3 x4 g h
    obtain ⟨g, ht, h⟩ := bnd h
    refine lp_run (P := fun t : Int32 × St => match t with | (x4, g) => GcX_passCentury l D T ad Γ o xo xo g 19 [(0, .ref (ad 0)), (2, .int x2), (3, .int x3), (4, .int x4)] []) (E := fun g : St => GcX_passCentury l D T ad Γ o xo xo g 118 [] []) ?_ _ _ _ ht ?_
    · rintro ⟨x4, g⟩ z h Kt Ke
      show GcX_passCentury l D T ad Γ o xo xo g 19 [(0, .ref (ad 0)), (2, .int x2), (3, .int x3), (4, .int x4)] []
      have J105 : ∀ (x4 : Int32) (g : St), fX_passCentury_b105 x2 x3 x4 g = some z → GcX_passCentury l D T ad Γ o xo xo g 105 [(0, .ref (ad 0)), (2, .int x2), (3, .int x3), (4, .int x4)] [] := by
        intro x4 g h
        refine g_aload_n C dX11_passCentury_105 rfl 0 rfl ?_
        refine gX_get_X11_69 C ob_0 rfl dX11_passCentury_106 ?_
        obtain ⟨g109, hr109, h⟩ := bnd h
        refine g_xVv (k := 11) (As := []) (rest := []) (go := g109) (xo := xo) Y (fun sz => cX_State_passYear l D T ad sK sV xo g 11 (Or.inr rfl) _ hr109 sz) kX_RX11_273_State_passYear ⟨Nat.le_of_ble_eq_true rfl, Nat.le_of_ble_eq_true rfl⟩ ⟨rfl, rfl⟩ ⟨Nat.zero_le _, Nat.zero_le _⟩ (rfl : vwCl[6]? = some (RX7, TX7, 6)) ob_11 rfl rfl (Nat.le_of_ble_eq_true rfl) dX11_passCentury_109 ?_
        refine g_iinc (lv' := [(4, .int (x4 + (1 : Int32))), (0, .ref (ad 0)), (2, .int x2), (3, .int x3)]) C dX11_passCentury_112 3 rfl (ii_1 _) (Nat.le_of_ble_eq_true rfl) rfl ?_
        refine g_goto (tgt := 19) C dX11_passCentury_115 (by decide) ?_
        exact g_sub [1, 2, 3, 0] rfl (Kt _ (Option.some.inj h).symm)
      have J66 : ∀ (x4 : Int32) (g : St), fX_passCentury_b66 x2 x3 x4 g = some z → GcX_passCentury l D T ad Γ o xo xo g 66 [(0, .ref (ad 0)), (2, .int x2), (3, .int x3), (4, .int x4)] [] := by
        intro x4 g h
        refine g_aload_n C dX11_passCentury_66 rfl 0 rfl ?_
        refine g_aload_n C dX11_passCentury_67 rfl 0 rfl ?_
        refine gX_get_X11_19 C ob_0 rfl dX11_passCentury_68 ?_
        refine gX_get_X11_143 (v := g 2 0) C ob_2 rfl rfl dX11_passCentury_71 ?_
        obtain ⟨⟨r74, g74⟩, hr74, h⟩ := bnd h
        refine g_xVi (k := 0) (As := [.int (g 2 0)]) (rest := []) (ro := r74) (go := g74) (xo := xo) Y (fun sz => cX_drawn l D T ad sK sV xo g (g 2 0) _ hr74 sz) kX_RX11_414_drawn ⟨Nat.le_of_ble_eq_true rfl, Nat.le_of_ble_eq_true rfl⟩ ⟨rfl, rfl⟩ ⟨Nat.zero_le _, Nat.zero_le _⟩ (rfl : vwCl[10]? = some (RX11, TX11, 19)) ob_0 rfl rfl (Nat.le_of_ble_eq_true rfl) dX11_passCentury_74 ?_
        refine g_istore (lv' := [(5, .int r74), (0, .ref (ad 0)), (2, .int x2), (3, .int x3), (4, .int x4)]) C dX11_passCentury_77 (Nat.le_of_ble_eq_true rfl) rfl ?_
        refine g_aload_n C dX11_passCentury_79 rfl 1 rfl ?_
        refine g_aload_n C dX11_passCentury_80 rfl 1 rfl ?_
        refine gX_get_X11_19 C ob_0 rfl dX11_passCentury_81 ?_
        refine gX_get_X11_143 (v := g74 2 0) C ob_2 rfl rfl dX11_passCentury_84 ?_
        obtain ⟨⟨r87, g87⟩, hr87, h⟩ := bnd h
        refine g_xVi (k := 0) (As := [.int (g74 2 0)]) (rest := []) (ro := r87) (go := g87) (xo := xo) Y (fun sz => cX_drawn l D T ad sK sV xo g74 (g74 2 0) _ hr87 sz) kX_RX11_414_drawn ⟨Nat.le_of_ble_eq_true rfl, Nat.le_of_ble_eq_true rfl⟩ ⟨rfl, rfl⟩ ⟨Nat.zero_le _, Nat.zero_le _⟩ (rfl : vwCl[10]? = some (RX11, TX11, 19)) ob_0 rfl rfl (Nat.le_of_ble_eq_true rfl) dX11_passCentury_87 ?_
        refine g_istore (lv' := [(6, .int r87), (5, .int r74), (0, .ref (ad 0)), (2, .int x2), (3, .int x3), (4, .int x4)]) C dX11_passCentury_90 (Nat.le_of_ble_eq_true rfl) rfl ?_
        refine g_aload_n C dX11_passCentury_92 rfl 2 rfl ?_
        refine gX_get_X11_69 C ob_0 rfl dX11_passCentury_93 ?_
        refine g_iconst C dX11_passCentury_96 ic_1 ?_
        refine g_iload C dX11_passCentury_97 1 rfl ?_
        refine g_iload C dX11_passCentury_99 0 rfl ?_
        obtain ⟨⟨r101, g101⟩, hr101, h⟩ := bnd h
        refine g_xVz (k := 11) (As := [.int (1 : Int32), .int r74, .int r87]) (rest := []) (ro := r101) (go := g101) (xo := xo) Y (fun sz => cX_State_does l D T ad sK sV xo g87 11 (1 : Int32) r74 r87 (Or.inr rfl) _ hr101 sz) kX_RX11_396_State_does ⟨Nat.le_of_ble_eq_true rfl, Nat.le_of_ble_eq_true rfl⟩ ⟨rfl, rfl⟩ ⟨Nat.zero_le _, Nat.zero_le _⟩ (rfl : vwCl[6]? = some (RX7, TX7, 6)) ob_11 rfl rfl (Nat.le_of_ble_eq_true rfl) dX11_passCentury_101 (fun hz101 => ?_)
        refine g_pop C dX11_passCentury_104 rfl ?_
        exact g_sub [2, 3, 4, 5] rfl (J105 x4 g101 h)
      refine g_iload C dX11_passCentury_19 3 rfl ?_
      refine g_iload_n C dX11_passCentury_21 rfl 1 rfl ?_
      refine g_icmp_ge C 118 dX11_passCentury_22 (by decide) (fun c22 => ?_) (fun c22 => ?_)
      · have h := iteT c22 h
        exact g_sub [] rfl (Ke _ (Option.some.inj h).symm)
      · have h := iteF c22 h
        refine g_aload_n C dX11_passCentury_25 rfl 0 rfl ?_
        refine gX_get_X11_19 C ob_0 rfl dX11_passCentury_26 ?_
        refine gX_get_X11_143 (v := g 2 0) C ob_2 rfl rfl dX11_passCentury_29 ?_
        refine g_if_le C 105 dX11_passCentury_32 (by decide) (fun c32 => ?_) (fun c32 => ?_)
        · have h := iteT c32 h
          exact J105 x4 g h
        · have h := iteF c32 h
          refine g_aload_n C dX11_passCentury_35 rfl 0 rfl ?_
          refine g_bipush C dX11_passCentury_36 bp_16 ?_
          obtain ⟨⟨r38, g38⟩, hr38, h⟩ := bnd h
          refine g_xVi (k := 0) (As := [.int (16 : Int32)]) (rest := []) (ro := r38) (go := g38) (xo := xo) Y (fun sz => cX_drawn l D T ad sK sV xo g (16 : Int32) _ hr38 sz) kX_RX11_414_drawn ⟨Nat.le_of_ble_eq_true rfl, Nat.le_of_ble_eq_true rfl⟩ ⟨rfl, rfl⟩ ⟨Nat.zero_le _, Nat.zero_le _⟩ (rfl : vwCl[10]? = some (RX11, TX11, 19)) ob_0 rfl rfl (Nat.le_of_ble_eq_true rfl) dX11_passCentury_38 ?_
          refine g_iload_n C dX11_passCentury_41 rfl 2 rfl ?_
          refine g_icmp_ge C 66 dX11_passCentury_42 (by decide) (fun c42 => ?_) (fun c42 => ?_)
          · have h := iteT c42 h
            exact J66 x4 g38 h
          · have h := iteF c42 h
            refine g_aload_n C dX11_passCentury_45 rfl 0 rfl ?_
            refine gX_get_X11_69 C ob_0 rfl dX11_passCentury_46 ?_
            refine g_iconst C dX11_passCentury_49 ic_0 ?_
            refine g_aload_n C dX11_passCentury_50 rfl 0 rfl ?_
            refine g_aload_n C dX11_passCentury_51 rfl 0 rfl ?_
            refine gX_get_X11_19 C ob_0 rfl dX11_passCentury_52 ?_
            refine gX_get_X11_143 (v := g38 2 0) C ob_2 rfl rfl dX11_passCentury_55 ?_
            obtain ⟨⟨r58, g58⟩, hr58, h⟩ := bnd h
            refine g_xVi (k := 0) (As := [.int (g38 2 0)]) (rest := [.int (0 : Int32), .ref (ad 11)]) (ro := r58) (go := g58) (xo := xo) Y (fun sz => cX_drawn l D T ad sK sV xo g38 (g38 2 0) _ hr58 sz) kX_RX11_414_drawn ⟨Nat.le_of_ble_eq_true rfl, Nat.le_of_ble_eq_true rfl⟩ ⟨rfl, rfl⟩ ⟨Nat.zero_le _, Nat.zero_le _⟩ (rfl : vwCl[10]? = some (RX11, TX11, 19)) ob_0 rfl rfl (Nat.le_of_ble_eq_true rfl) dX11_passCentury_58 ?_
            refine g_iconst C dX11_passCentury_61 ic_0 ?_
            obtain ⟨⟨r62, g62⟩, hr62, h⟩ := bnd h
            refine g_xVz (k := 11) (As := [.int (0 : Int32), .int r58, .int (0 : Int32)]) (rest := []) (ro := r62) (go := g62) (xo := xo) Y (fun sz => cX_State_does l D T ad sK sV xo g58 11 (0 : Int32) r58 (0 : Int32) (Or.inr rfl) _ hr62 sz) kX_RX11_396_State_does ⟨Nat.le_of_ble_eq_true rfl, Nat.le_of_ble_eq_true rfl⟩ ⟨rfl, rfl⟩ ⟨Nat.zero_le _, Nat.zero_le _⟩ (rfl : vwCl[6]? = some (RX7, TX7, 6)) ob_11 rfl rfl (Nat.le_of_ble_eq_true rfl) dX11_passCentury_62 (fun hz62 => ?_)
            refine g_pop C dX11_passCentury_65 rfl ?_
            exact J66 x4 g62 h
    · show GcX_passCentury l D T ad Γ o xo xo g 118 [] []
      obtain rfl := Option.some.inj h
      exact g_vret C rfl rfl dX11_passCentury_118
  refine g_aload_n C dX11_passCentury_0 rfl 0 rfl ?_
  refine gX_get_X11_69 C ob_0 rfl dX11_passCentury_1 ?_
  refine g_aload_n C dX11_passCentury_4 rfl 0 rfl ?_
  refine gX_get_X11_65 C ob_0 rfl dX11_passCentury_5 ?_
  obtain ⟨g8, hr8, h⟩ := bnd h
  refine g_xVv (k := 11) (As := [.ref (ad 10)]) (rest := []) (go := g8) (xo := xo) Y (fun sz => cX_State_take l D T ad sK sV xo g 11 10 (Or.inr rfl) (Or.inl rfl) _ hr8 sz) kX_RX11_271_State_take ⟨Nat.le_of_ble_eq_true rfl, Nat.le_of_ble_eq_true rfl⟩ ⟨rfl, rfl⟩ ⟨Nat.zero_le _, Nat.zero_le _⟩ (rfl : vwCl[6]? = some (RX7, TX7, 6)) ob_11 rfl rfl (Nat.le_of_ble_eq_true rfl) dX11_passCentury_8 ?_
  refine g_aload_n C dX11_passCentury_11 rfl 0 rfl ?_
  refine g_iload_n C dX11_passCentury_12 rfl 1 rfl ?_
  refine gX_put_X11_411 C ob_0 rfl dX11_passCentury_13 ?_
  refine g_iconst C dX11_passCentury_16 ic_0 ?_
  refine g_istore (lv' := [(4, .int (0 : Int32)), (0, .ref (ad 0)), (1, .int x1), (2, .int x2), (3, .int x3)]) C dX11_passCentury_17 (Nat.le_of_ble_eq_true rfl) rfl ?_
  exact g_sub [1, 3, 4, 0] rfl (J19 x2 x3 (0 : Int32) (st g8 0 15 x1) h)
def fX_century_b38 (x1 : Int32) (x2 : Int32) (x3 : Int32) (x4 : Int32) (s1 : Int32) (g : St) : Option ((Nat ⊕ Int32) × St) :=
  lt1 (fX_need s1 g) fun ⟨r38, g38⟩ => Sum.elim (fun k => some (.inl k, g38)) (fun _ => (fX_passCentury x1 x2 x3 g38).bind fun g45 => (if x4 = 0 then
    ((fX_State_living 11 g45).bind fun r80 => (some (.inr r80, g45)))
  else
    (if x4 = 1 then
    ((fX_State_nameless 11 g45).bind fun r88 => (some (.inr r88, g45)))
  else
    (if x4 = 2 then
    ((fX_State_allDebts 11 g45).bind fun r96 => (some (.inr r96, g45)))
  else
    ((fX_State_longestChain 11 g45).bind fun r104 => (some (.inr r104, g45))))))) r38
def fX_century_b37 (x1 : Int32) (x2 : Int32) (x3 : Int32) (x4 : Int32) (g : St) : Option ((Nat ⊕ Int32) × St) :=
  fX_century_b38 x1 x2 x3 x4 (0 : Int32) g
def fX_century (x1 : Int32) (x2 : Int32) (x3 : Int32) (x4 : Int32) (g : St) : Option ((Nat ⊕ Int32) × St) :=
  if x2 < (1 : Int32) then
    (fX_century_b37 x1 x2 x3 x4 g)
  else
    (if (96 : Int32) < x2 then
    (fX_century_b37 x1 x2 x3 x4 g)
  else
    (if x3 < 0 then
    (fX_century_b37 x1 x2 x3 x4 g)
  else
    (if (16 : Int32) < x3 then
    (fX_century_b37 x1 x2 x3 x4 g)
  else
    (if x4 < 0 then
    (fX_century_b37 x1 x2 x3 x4 g)
  else
    (if (3 : Int32) < x4 then
    (fX_century_b37 x1 x2 x3 x4 g)
  else
    (fX_century_b38 x1 x2 x3 x4 (1 : Int32) g))))))
def rmX_century : Room := { frames := 9, cells := 1, slots := 6, locals := 145 }
abbrev GcX_century (l : Launch) (D : va_G) (T : cT) (ad : Nat → Nat) (Γ : Cxt) (o : (Nat ⊕ Int32) × St) (xo : Sl) (kc : Nat) (x : Sl) (g : St) (pc : Nat) (lv : List (Nat × Value)) (stk : List Value) : Prop := Gj l shX D T ad 5 (rmX_century) kc (6 * kc) Γ (vx_MQ Γ.below (va_Qi (xoI o xo) (wPost shX D T ad Γ.A) Γ.A) (xoX shX D T ad o.1 (o.2, xo) Γ.A) Γ.args Γ.s 1 6 Γ.A) x g pc lv stk
set_option maxRecDepth 100000 in
set_option maxHeartbeats 4000000 in
theorem cX_century (l : Launch) (hl0 : l.stackTraces = false) (D : va_G) (T : cT) (ad : Nat → Nat) (sK sV : Nat → Nat) (xo : Sl) (g : St) (x1 : Int32) (x2 : Int32) (x3 : Int32) (x4 : Int32) (o : (Nat ⊕ Int32) × St) (h : fX_century x1 x2 x3 x4 g = some o) (sz : Nat) : vx_Met l yX11_century wX_century (rmX_century) (va_Pc [.ref (ad 0), .int x1, .int x2, .int x3, .int x4] (xPre shX D T ad sK sV xo g sz)) (va_Qi (xoI o xo) (wPost shX D T ad (aW shX T ad xo g sz)) (aW shX T ad xo g sz)) (xoX shX D T ad o.1 (o.2, xo) (aW shX T ad xo g sz)) 1 6 (aW shX T ad xo g sz) := by
  refine g_startt (Qc := fun A => va_Qi (xoI o xo) (wPost shX D T ad A) A) (XC := fun A => xoX shX D T ad o.1 (o.2, xo) A) hl0 (by decide +kernel) rfl rfl (Nat.le_of_ble_eq_true rfl) (lv := [(0, .ref (ad 0)), (1, .int x1), (2, .int x2), (3, .int x3), (4, .int x4)]) rfl (fun Γ Z => ?_)
  have Y := Z.1
  have C := Y.1
  show GcX_century l D T ad Γ o xo 0 xo g 0 [(0, .ref (ad 0)), (1, .int x1), (2, .int x2), (3, .int x3), (4, .int x4)] []
  have J38 : ∀ (x1 : Int32) (x2 : Int32) (x3 : Int32) (x4 : Int32) (s1 : Int32) (g : St), fX_century_b38 x1 x2 x3 x4 s1 g = some o → GcX_century l D T ad Γ o xo 0 xo g 38 [(0, .ref (ad 0)), (1, .int x1), (2, .int x2), (3, .int x3), (4, .int x4)] [.int s1, .ref (ad 0)] := by
    intro x1 x2 x3 x4 s1 g h
    obtain ⟨⟨r38, g38⟩, hr38, h⟩ := ltb h
    refine g_tVv (k := 0) (As := [.int s1]) (rest := []) (o := (r38, g38)) (xo := xo) Z (fun sz => cX_need l hl0 D T ad sK sV xo g s1 _ hr38 sz) kX_RX11_115_need ⟨Nat.le_of_ble_eq_true rfl, Nat.le_of_ble_eq_true rfl⟩ ⟨rfl, rfl⟩ ⟨Nat.le_of_ble_eq_true rfl, Nat.le_of_ble_eq_true rfl⟩ (rfl : vwCl[10]? = some (RX11, TX11, 19)) ob_0 rfl rfl (Nat.le_of_ble_eq_true rfl) dX11_century_38 ⟨Nat.le_of_ble_eq_true rfl, Nat.le_of_ble_eq_true rfl⟩ (fun k9 hk9 => ?_) (fun v9 hv9 => ?_)
    · subst hk9
      obtain rfl := Option.some.inj h
      exact ⟨rfl, rfl⟩
    · subst hv9
      have h := selR h
      refine g_aload_n C dX11_century_41 rfl 0 rfl ?_
      refine g_iload_n C dX11_century_42 rfl 1 rfl ?_
      refine g_iload_n C dX11_century_43 rfl 2 rfl ?_
      refine g_iload_n C dX11_century_44 rfl 3 rfl ?_
      obtain ⟨g45, hr45, h⟩ := bnd h
      refine g_xVv (k := 0) (As := [.int x1, .int x2, .int x3]) (rest := []) (go := g45) (xo := xo) Y (fun sz => cX_passCentury l D T ad sK sV xo g38 x1 x2 x3 _ hr45 sz) kX_RX11_355_passCentury ⟨Nat.le_of_ble_eq_true rfl, Nat.le_of_ble_eq_true rfl⟩ ⟨rfl, rfl⟩ ⟨Nat.le_of_ble_eq_true rfl, Nat.le_of_ble_eq_true rfl⟩ (rfl : vwCl[10]? = some (RX11, TX11, 19)) ob_0 rfl rfl (Nat.le_of_ble_eq_true rfl) dX11_century_45 ?_
      refine g_iload C dX11_century_48 4 rfl ?_
      by_cases c50_0 : x4 = 0
      · have h := iteT c50_0 h
        refine g_tabIn C 0 76 dX11_century_50 c50_0 (by decide) (by decide) rfl (by decide) ?_
        refine g_aload_n C dX11_century_76 rfl 0 rfl ?_
        refine gX_get_X11_69 C ob_0 rfl dX11_century_77 ?_
        obtain ⟨r80, hr80, h⟩ := bnd h
        refine g_xVi (k := 11) (As := []) (rest := []) (ro := r80) (go := g45) (xo := xo) Y (fun sz => cX_State_living l D T ad sK sV xo g45 11 (Or.inr rfl) _ hr80 sz) kX_RX11_187_State_living ⟨Nat.le_of_ble_eq_true rfl, Nat.le_of_ble_eq_true rfl⟩ ⟨rfl, rfl⟩ ⟨Nat.le_of_ble_eq_true rfl, Nat.le_of_ble_eq_true rfl⟩ (rfl : vwCl[6]? = some (RX7, TX7, 6)) ob_11 rfl rfl (Nat.le_of_ble_eq_true rfl) dX11_century_80 ?_
        obtain rfl := Option.some.inj h
        exact g_treti Z rfl rfl ⟨Nat.le_of_ble_eq_true rfl, Nat.le_of_ble_eq_true rfl⟩ dX11_century_83
      have h := iteF c50_0 h
      by_cases c50_1 : x4 = 1
      · have h := iteT c50_1 h
        refine g_tabIn C 1 84 dX11_century_50 c50_1 (by decide) (by decide) rfl (by decide) ?_
        refine g_aload_n C dX11_century_84 rfl 0 rfl ?_
        refine gX_get_X11_69 C ob_0 rfl dX11_century_85 ?_
        obtain ⟨r88, hr88, h⟩ := bnd h
        refine g_xVi (k := 11) (As := []) (rest := []) (ro := r88) (go := g45) (xo := xo) Y (fun sz => cX_State_nameless l D T ad sK sV xo g45 11 (Or.inr rfl) _ hr88 sz) kX_RX11_190_State_nameless ⟨Nat.le_of_ble_eq_true rfl, Nat.le_of_ble_eq_true rfl⟩ ⟨rfl, rfl⟩ ⟨Nat.le_of_ble_eq_true rfl, Nat.le_of_ble_eq_true rfl⟩ (rfl : vwCl[6]? = some (RX7, TX7, 6)) ob_11 rfl rfl (Nat.le_of_ble_eq_true rfl) dX11_century_88 ?_
        obtain rfl := Option.some.inj h
        exact g_treti Z rfl rfl ⟨Nat.le_of_ble_eq_true rfl, Nat.le_of_ble_eq_true rfl⟩ dX11_century_91
      have h := iteF c50_1 h
      by_cases c50_2 : x4 = 2
      · have h := iteT c50_2 h
        refine g_tabIn C 2 92 dX11_century_50 c50_2 (by decide) (by decide) rfl (by decide) ?_
        refine g_aload_n C dX11_century_92 rfl 0 rfl ?_
        refine gX_get_X11_69 C ob_0 rfl dX11_century_93 ?_
        obtain ⟨r96, hr96, h⟩ := bnd h
        refine g_xVi (k := 11) (As := []) (rest := []) (ro := r96) (go := g45) (xo := xo) Y (fun sz => cX_State_allDebts l D T ad sK sV xo g45 11 (Or.inr rfl) _ hr96 sz) kX_RX11_199_State_allDebts ⟨Nat.le_of_ble_eq_true rfl, Nat.le_of_ble_eq_true rfl⟩ ⟨rfl, rfl⟩ ⟨Nat.le_of_ble_eq_true rfl, Nat.le_of_ble_eq_true rfl⟩ (rfl : vwCl[6]? = some (RX7, TX7, 6)) ob_11 rfl rfl (Nat.le_of_ble_eq_true rfl) dX11_century_96 ?_
        obtain rfl := Option.some.inj h
        exact g_treti Z rfl rfl ⟨Nat.le_of_ble_eq_true rfl, Nat.le_of_ble_eq_true rfl⟩ dX11_century_99
      have h := iteF c50_2 h
      refine g_tabOut C 100 dX11_century_50 (tab_0_2 _ c50_0 c50_1 c50_2) (by decide) ?_
      refine g_aload_n C dX11_century_100 rfl 0 rfl ?_
      refine gX_get_X11_69 C ob_0 rfl dX11_century_101 ?_
      obtain ⟨r104, hr104, h⟩ := bnd h
      refine g_xVi (k := 11) (As := []) (rest := []) (ro := r104) (go := g45) (xo := xo) Y (fun sz => cX_State_longestChain l D T ad sK sV xo g45 11 (Or.inr rfl) _ hr104 sz) kX_RX11_211_State_longestChain ⟨Nat.le_of_ble_eq_true rfl, Nat.le_of_ble_eq_true rfl⟩ ⟨rfl, rfl⟩ ⟨Nat.le_of_ble_eq_true rfl, Nat.le_of_ble_eq_true rfl⟩ (rfl : vwCl[6]? = some (RX7, TX7, 6)) ob_11 rfl rfl (Nat.le_of_ble_eq_true rfl) dX11_century_104 ?_
      obtain rfl := Option.some.inj h
      exact g_treti Z rfl rfl ⟨Nat.le_of_ble_eq_true rfl, Nat.le_of_ble_eq_true rfl⟩ dX11_century_107
  have J37 : ∀ (x1 : Int32) (x2 : Int32) (x3 : Int32) (x4 : Int32) (g : St), fX_century_b37 x1 x2 x3 x4 g = some o → GcX_century l D T ad Γ o xo 0 xo g 37 [(0, .ref (ad 0)), (1, .int x1), (2, .int x2), (3, .int x3), (4, .int x4)] [.ref (ad 0)] := by
    intro x1 x2 x3 x4 g h
    refine g_iconst C dX11_century_37 ic_0 ?_
    exact J38 x1 x2 x3 x4 (0 : Int32) g h
  refine g_aload_n C dX11_century_0 rfl 0 rfl ?_
  refine g_iload_n C dX11_century_1 rfl 2 rfl ?_
  refine g_iconst C dX11_century_2 ic_1 ?_
  refine g_icmp_lt C 37 dX11_century_3 (by decide) (fun c3 => ?_) (fun c3 => ?_)
  · have h := iteT c3 h
    exact J37 x1 x2 x3 x4 g h
  · have h := iteF c3 h
    refine g_iload_n C dX11_century_6 rfl 2 rfl ?_
    refine g_bipush C dX11_century_7 bp_96 ?_
    refine g_icmp_gt C 37 dX11_century_9 (by decide) (fun c9 => ?_) (fun c9 => ?_)
    · have h := iteT c9 h
      exact J37 x1 x2 x3 x4 g h
    · have h := iteF c9 h
      refine g_iload_n C dX11_century_12 rfl 3 rfl ?_
      refine g_if_lt C 37 dX11_century_13 (by decide) (fun c13 => ?_) (fun c13 => ?_)
      · have h := iteT c13 h
        exact J37 x1 x2 x3 x4 g h
      · have h := iteF c13 h
        refine g_iload_n C dX11_century_16 rfl 3 rfl ?_
        refine g_bipush C dX11_century_17 bp_16 ?_
        refine g_icmp_gt C 37 dX11_century_19 (by decide) (fun c19 => ?_) (fun c19 => ?_)
        · have h := iteT c19 h
          exact J37 x1 x2 x3 x4 g h
        · have h := iteF c19 h
          refine g_iload C dX11_century_22 4 rfl ?_
          refine g_if_lt C 37 dX11_century_24 (by decide) (fun c24 => ?_) (fun c24 => ?_)
          · have h := iteT c24 h
            exact J37 x1 x2 x3 x4 g h
          · have h := iteF c24 h
            refine g_iload C dX11_century_27 4 rfl ?_
            refine g_iconst C dX11_century_29 ic_3 ?_
            refine g_icmp_gt C 37 dX11_century_30 (by decide) (fun c30 => ?_) (fun c30 => ?_)
            · have h := iteT c30 h
              exact J37 x1 x2 x3 x4 g h
            · have h := iteF c30 h
              refine g_iconst C dX11_century_33 ic_1 ?_
              refine g_goto (tgt := 38) C dX11_century_34 (by decide) ?_
              exact J38 x1 x2 x3 x4 (1 : Int32) g h
def fX_span_b159 (x1 : Int32) (x2 : Int32) (x3 : Int32) (x4 : Int32) (x5 : Int32) (x6 : Int32) (x7 : Int32) (x8 : Int32) (x10 : Int32) (s0 : Int32) (s1 : Int32) (g : St) : Option ((Int32 × Int32 × Int32 × Int32 × St) ⊕ ((Int32 × Int32 × Int32 × St))) :=
  some (.inl (x7, x8, (s0 + s1), (x10 + (1 : Int32)), g))
def fX_span_L93 (x1 : Int32) (x2 : Int32) (x3 : Int32) (x4 : Int32) (x5 : Int32) (x6 : Int32) : (Int32 × Int32 × Int32 × Int32 × St) → Option ((Int32 × Int32 × Int32 × Int32 × St) ⊕ ((Int32 × Int32 × Int32 × St))) := fun ⟨x7, x8, x9, x10, g⟩ =>
  if x2 ≤ x10 then
    (some (.inr (x7, x8, x9, g)))
  else
    ((fX_passCentury (x1 + x10) x3 x4 g).bind fun g107 => ((fX_State_nameless 11 g107).bind fun r114 => ((fX_State_lives 11 x6 g107).bind fun r148 => (if r148 = 0 then
    (fX_span_b159 x1 x2 x3 x4 x5 x6 (if (fX_J_bitCount r114) < x7 then (fX_J_bitCount r114) else x7) (if x8 < (fX_J_bitCount r114) then (fX_J_bitCount r114) else x8) x10 x9 (0 : Int32) g107)
  else
    (fX_span_b159 x1 x2 x3 x4 x5 x6 (if (fX_J_bitCount r114) < x7 then (fX_J_bitCount r114) else x7) (if x8 < (fX_J_bitCount r114) then (fX_J_bitCount r114) else x8) x10 x9 (1 : Int32) g107)))))
def fX_span_b93 (x1 : Int32) (x2 : Int32) (x3 : Int32) (x4 : Int32) (x5 : Int32) (x6 : Int32) (x7 : Int32) (x8 : Int32) (x9 : Int32) (x10 : Int32) (g : St) : Option ((Nat ⊕ Int32) × St) :=
  (lp (fX_span_L93 x1 x2 x3 x4 x5 x6) fuel (x7, x8, x9, x10, g)).bind (fun ⟨x7, x8, x9, g⟩ => if x5 = 0 then
    (some (.inr x7, g))
  else
    (if x5 = (1 : Int32) then
    (some (.inr x8, g))
  else
    (some (.inr x9, g))))
def fX_span_b77 (x1 : Int32) (x2 : Int32) (x3 : Int32) (x4 : Int32) (x5 : Int32) (x6 : Int32) (s1 : Int32) (g : St) : Option ((Nat ⊕ Int32) × St) :=
  lt1 (fX_need s1 g) fun ⟨r77, g77⟩ => Sum.elim (fun k => some (.inl k, g77)) (fun _ => fX_span_b93 x1 x2 x3 x4 x5 x6 (9 : Int32) (0 : Int32) (0 : Int32) (0 : Int32) g77) r77
def fX_span_b76 (x1 : Int32) (x2 : Int32) (x3 : Int32) (x4 : Int32) (x5 : Int32) (x6 : Int32) (g : St) : Option ((Nat ⊕ Int32) × St) :=
  fX_span_b77 x1 x2 x3 x4 x5 x6 (0 : Int32) g
def fX_span_b40 (x1 : Int32) (x2 : Int32) (x3 : Int32) (x4 : Int32) (x5 : Int32) (x6 : Int32) (s1 : Int32) (g : St) : Option ((Nat ⊕ Int32) × St) :=
  lt1 (fX_need s1 g) fun ⟨r40, g40⟩ => Sum.elim (fun k => some (.inl k, g40)) (fun _ => if x5 < 0 then
    (fX_span_b76 x1 x2 x3 x4 x5 x6 g40)
  else
    (if (2 : Int32) < x5 then
    (fX_span_b76 x1 x2 x3 x4 x5 x6 g40)
  else
    (if x6 < 0 then
    (fX_span_b76 x1 x2 x3 x4 x5 x6 g40)
  else
    (if (g40 2 0) ≤ x6 then
    (fX_span_b76 x1 x2 x3 x4 x5 x6 g40)
  else
    (fX_span_b77 x1 x2 x3 x4 x5 x6 (1 : Int32) g40))))) r40
def fX_span_b39 (x1 : Int32) (x2 : Int32) (x3 : Int32) (x4 : Int32) (x5 : Int32) (x6 : Int32) (g : St) : Option ((Nat ⊕ Int32) × St) :=
  fX_span_b40 x1 x2 x3 x4 x5 x6 (0 : Int32) g
def fX_span (x1 : Int32) (x2 : Int32) (x3 : Int32) (x4 : Int32) (x5 : Int32) (x6 : Int32) (g : St) : Option ((Nat ⊕ Int32) × St) :=
  if x2 < (1 : Int32) then
    (fX_span_b39 x1 x2 x3 x4 x5 x6 g)
  else
    (if (20 : Int32) < x2 then
    (fX_span_b39 x1 x2 x3 x4 x5 x6 g)
  else
    (if x3 < (1 : Int32) then
    (fX_span_b39 x1 x2 x3 x4 x5 x6 g)
  else
    (if (96 : Int32) < x3 then
    (fX_span_b39 x1 x2 x3 x4 x5 x6 g)
  else
    (if x4 < 0 then
    (fX_span_b39 x1 x2 x3 x4 x5 x6 g)
  else
    (if (16 : Int32) < x4 then
    (fX_span_b39 x1 x2 x3 x4 x5 x6 g)
  else
    (fX_span_b40 x1 x2 x3 x4 x5 x6 (1 : Int32) g))))))
def rmX_span : Room := { frames := 9, cells := 2, slots := 12, locals := 145 }
abbrev GcX_span (l : Launch) (D : va_G) (T : cT) (ad : Nat → Nat) (Γ : Cxt) (o : (Nat ⊕ Int32) × St) (xo : Sl) (kc : Nat) (x : Sl) (g : St) (pc : Nat) (lv : List (Nat × Value)) (stk : List Value) : Prop := Gj l shX D T ad 12 (rmX_span) kc (6 * kc) Γ (vx_MQ Γ.below (va_Qi (xoI o xo) (wPost shX D T ad Γ.A) Γ.A) (xoX shX D T ad o.1 (o.2, xo) Γ.A) Γ.args Γ.s 2 12 Γ.A) x g pc lv stk
set_option maxRecDepth 100000 in
set_option maxHeartbeats 4000000 in
theorem cX_span (l : Launch) (hl0 : l.stackTraces = false) (D : va_G) (T : cT) (ad : Nat → Nat) (sK sV : Nat → Nat) (xo : Sl) (g : St) (x1 : Int32) (x2 : Int32) (x3 : Int32) (x4 : Int32) (x5 : Int32) (x6 : Int32) (o : (Nat ⊕ Int32) × St) (h : fX_span x1 x2 x3 x4 x5 x6 g = some o) (sz : Nat) : vx_Met l yX11_span wX_span (rmX_span) (va_Pc [.ref (ad 0), .int x1, .int x2, .int x3, .int x4, .int x5, .int x6] (xPre shX D T ad sK sV xo g sz)) (va_Qi (xoI o xo) (wPost shX D T ad (aW shX T ad xo g sz)) (aW shX T ad xo g sz)) (xoX shX D T ad o.1 (o.2, xo) (aW shX T ad xo g sz)) 2 12 (aW shX T ad xo g sz) := by
  refine g_startt (Qc := fun A => va_Qi (xoI o xo) (wPost shX D T ad A) A) (XC := fun A => xoX shX D T ad o.1 (o.2, xo) A) hl0 (by decide +kernel) rfl rfl (Nat.le_of_ble_eq_true rfl) (lv := [(0, .ref (ad 0)), (1, .int x1), (2, .int x2), (3, .int x3), (4, .int x4), (5, .int x5), (6, .int x6)]) rfl (fun Γ Z => ?_)
  have Y := Z.1
  have C := Y.1
  show GcX_span l D T ad Γ o xo 0 xo g 0 [(0, .ref (ad 0)), (1, .int x1), (2, .int x2), (3, .int x3), (4, .int x4), (5, .int x5), (6, .int x6)] []
  have J93 : ∀ (x1 : Int32) (x2 : Int32) (x3 : Int32) (x4 : Int32) (x5 : Int32) (x6 : Int32) (x7 : Int32) (x8 : Int32) (x9 : Int32) (x10 : Int32) (g : St), fX_span_b93 x1 x2 x3 x4 x5 x6 x7 x8 x9 x10 g = some o → GcX_span l D T ad Γ o xo 2 xo g 93 [(0, .ref (ad 0)), (1, .int x1), (2, .int x2), (3, .int x3), (4, .int x4), (5, .int x5), (6, .int x6), (7, .int x7), (8, .int x8), (9, .int x9), (10, .int x10)] [] := by
    intro x1 x2 x3 x4 x5 x6 x7 x8 x9 x10 g h
    obtain ⟨⟨x7, x8, x9, g⟩, ht, h⟩ := bnd h
    refine lp_run (P := fun t : Int32 × Int32 × Int32 × Int32 × St => match t with | (x7, x8, x9, x10, g) => GcX_span l D T ad Γ o xo 2 xo g 93 [(0, .ref (ad 0)), (1, .int x1), (2, .int x2), (3, .int x3), (4, .int x4), (5, .int x5), (6, .int x6), (7, .int x7), (8, .int x8), (9, .int x9), (10, .int x10)] []) (E := fun t : Int32 × Int32 × Int32 × St => match t with | (x7, x8, x9, g) => GcX_span l D T ad Γ o xo 2 xo g 168 [(5, .int x5), (7, .int x7), (8, .int x8), (9, .int x9)] []) ?_ _ _ _ ht ?_
    · rintro ⟨x7, x8, x9, x10, g⟩ z h Kt Ke
      show GcX_span l D T ad Γ o xo 2 xo g 93 [(0, .ref (ad 0)), (1, .int x1), (2, .int x2), (3, .int x3), (4, .int x4), (5, .int x5), (6, .int x6), (7, .int x7), (8, .int x8), (9, .int x9), (10, .int x10)] []
      have J159 : ∀ (x7 : Int32) (x8 : Int32) (x10 : Int32) (s0 : Int32) (s1 : Int32) (g : St), fX_span_b159 x1 x2 x3 x4 x5 x6 x7 x8 x10 s0 s1 g = some z → GcX_span l D T ad Γ o xo 2 xo g 159 [(0, .ref (ad 0)), (1, .int x1), (2, .int x2), (3, .int x3), (4, .int x4), (5, .int x5), (6, .int x6), (7, .int x7), (8, .int x8), (10, .int x10)] [.int s1, .int s0] := by
        intro x7 x8 x10 s0 s1 g h
        refine g_iadd C dX11_span_159 ?_
        refine g_istore (lv' := [(9, .int (s0 + s1)), (0, .ref (ad 0)), (1, .int x1), (2, .int x2), (3, .int x3), (4, .int x4), (5, .int x5), (6, .int x6), (7, .int x7), (8, .int x8), (10, .int x10)]) C dX11_span_160 (Nat.le_of_ble_eq_true rfl) rfl ?_
        refine g_iinc (lv' := [(10, .int (x10 + (1 : Int32))), (9, .int (s0 + s1)), (0, .ref (ad 0)), (1, .int x1), (2, .int x2), (3, .int x3), (4, .int x4), (5, .int x5), (6, .int x6), (7, .int x7), (8, .int x8)]) C dX11_span_162 10 rfl (ii_1 _) (Nat.le_of_ble_eq_true rfl) rfl ?_
        refine g_goto (tgt := 93) C dX11_span_165 (by decide) ?_
        exact g_sub [2, 3, 4, 5, 6, 7, 8, 9, 10, 1, 0] rfl (Kt _ (Option.some.inj h).symm)
      refine g_iload C dX11_span_93 10 rfl ?_
      refine g_iload_n C dX11_span_95 rfl 2 rfl ?_
      refine g_icmp_ge C 168 dX11_span_96 (by decide) (fun c96 => ?_) (fun c96 => ?_)
      · have h := iteT c96 h
        exact g_sub [5, 7, 8, 9] rfl (Ke _ (Option.some.inj h).symm)
      · have h := iteF c96 h
        refine g_aload_n C dX11_span_99 rfl 0 rfl ?_
        refine g_iload_n C dX11_span_100 rfl 1 rfl ?_
        refine g_iload C dX11_span_101 10 rfl ?_
        refine g_iadd C dX11_span_103 ?_
        refine g_iload_n C dX11_span_104 rfl 3 rfl ?_
        refine g_iload C dX11_span_105 4 rfl ?_
        obtain ⟨g107, hr107, h⟩ := bnd h
        refine g_xVv (k := 0) (As := [.int (x1 + x10), .int x3, .int x4]) (rest := []) (go := g107) (xo := xo) Y (fun sz => cX_passCentury l D T ad sK sV xo g (x1 + x10) x3 x4 _ hr107 sz) kX_RX11_355_passCentury ⟨Nat.le_of_ble_eq_true rfl, Nat.le_of_ble_eq_true rfl⟩ ⟨rfl, rfl⟩ ⟨Nat.le_of_ble_eq_true rfl, Nat.le_of_ble_eq_true rfl⟩ (rfl : vwCl[10]? = some (RX11, TX11, 19)) ob_0 rfl rfl (Nat.le_of_ble_eq_true rfl) dX11_span_107 ?_
        refine g_aload_n C dX11_span_110 rfl 0 rfl ?_
        refine gX_get_X11_69 C ob_0 rfl dX11_span_111 ?_
        obtain ⟨r114, hr114, h⟩ := bnd h
        refine g_xVi (k := 11) (As := []) (rest := []) (ro := r114) (go := g107) (xo := xo) Y (fun sz => cX_State_nameless l D T ad sK sV xo g107 11 (Or.inr rfl) _ hr114 sz) kX_RX11_190_State_nameless ⟨Nat.le_of_ble_eq_true rfl, Nat.le_of_ble_eq_true rfl⟩ ⟨rfl, rfl⟩ ⟨Nat.le_of_ble_eq_true rfl, Nat.le_of_ble_eq_true rfl⟩ (rfl : vwCl[6]? = some (RX7, TX7, 6)) ob_11 rfl rfl (Nat.le_of_ble_eq_true rfl) dX11_span_114 ?_
        refine g_xSi (As := [.int r114]) (rest := []) (ro := (fX_J_bitCount r114)) (go := g107) (xo := xo) Y (fun sz => cX_J_bitCount l D T ad sK sV xo g107 r114 _ rfl sz) kX_RX11_314_J_bitCount ⟨Nat.le_of_ble_eq_true rfl, Nat.le_of_ble_eq_true rfl⟩ ⟨rfl, rfl⟩ ⟨Nat.le_of_ble_eq_true rfl, Nat.le_of_ble_eq_true rfl⟩ rfl rfl (Nat.le_of_ble_eq_true rfl) dX11_span_117 ?_
        refine g_istore (lv' := [(11, .int (fX_J_bitCount r114)), (0, .ref (ad 0)), (1, .int x1), (2, .int x2), (3, .int x3), (4, .int x4), (5, .int x5), (6, .int x6), (7, .int x7), (8, .int x8), (9, .int x9), (10, .int x10)]) C dX11_span_120 (Nat.le_of_ble_eq_true rfl) rfl ?_
        refine g_iload C dX11_span_122 8 rfl ?_
        refine g_iload C dX11_span_124 0 rfl ?_
        refine g_mmin (rest := []) C (List.mem_cons_of_mem _ bx_756) (List.mem_cons_of_mem _ bx_56) (List.mem_cons_of_mem _ bx_57) (List.mem_cons_of_mem _ bx_58) (Nat.le_of_ble_eq_true rfl) (Nat.le_of_ble_eq_true rfl) ⟨Nat.le_of_ble_eq_true rfl, Nat.le_of_ble_eq_true rfl⟩ dX11_span_126 ?_
        refine g_istore (lv' := [(7, .int (if (fX_J_bitCount r114) < x7 then (fX_J_bitCount r114) else x7)), (11, .int (fX_J_bitCount r114)), (0, .ref (ad 0)), (1, .int x1), (2, .int x2), (3, .int x3), (4, .int x4), (5, .int x5), (6, .int x6), (8, .int x8), (9, .int x9), (10, .int x10)]) C dX11_span_129 (Nat.le_of_ble_eq_true rfl) rfl ?_
        refine g_iload C dX11_span_131 9 rfl ?_
        refine g_iload C dX11_span_133 1 rfl ?_
        refine g_mmax (rest := []) C (List.mem_cons_of_mem _ bx_783) (List.mem_cons_of_mem _ bx_305) (List.mem_cons_of_mem _ bx_57) (List.mem_cons_of_mem _ bx_306) (Nat.le_of_ble_eq_true rfl) (Nat.le_of_ble_eq_true rfl) ⟨Nat.le_of_ble_eq_true rfl, Nat.le_of_ble_eq_true rfl⟩ dX11_span_135 ?_
        refine g_istore (lv' := [(8, .int (if x8 < (fX_J_bitCount r114) then (fX_J_bitCount r114) else x8)), (7, .int (if (fX_J_bitCount r114) < x7 then (fX_J_bitCount r114) else x7)), (11, .int (fX_J_bitCount r114)), (0, .ref (ad 0)), (1, .int x1), (2, .int x2), (3, .int x3), (4, .int x4), (5, .int x5), (6, .int x6), (9, .int x9), (10, .int x10)]) C dX11_span_138 (Nat.le_of_ble_eq_true rfl) rfl ?_
        refine g_iload C dX11_span_140 10 rfl ?_
        refine g_aload_n C dX11_span_142 rfl 3 rfl ?_
        refine gX_get_X11_69 C ob_0 rfl dX11_span_143 ?_
        refine g_iload C dX11_span_146 9 rfl ?_
        obtain ⟨r148, hr148, h⟩ := bnd h
        refine g_xVz (k := 11) (As := [.int x6]) (rest := [.int x9]) (ro := r148) (go := g107) (xo := xo) Y (fun sz => cX_State_lives l D T ad sK sV xo g107 11 x6 (Or.inr rfl) _ hr148 sz) kX_RX11_230_State_lives ⟨Nat.le_of_ble_eq_true rfl, Nat.le_of_ble_eq_true rfl⟩ ⟨rfl, rfl⟩ ⟨Nat.le_of_ble_eq_true rfl, Nat.le_of_ble_eq_true rfl⟩ (rfl : vwCl[6]? = some (RX7, TX7, 6)) ob_11 rfl rfl (Nat.le_of_ble_eq_true rfl) dX11_span_148 (fun hz148 => ?_)
        refine g_if_eq C 158 dX11_span_151 (by decide) (fun c151 => ?_) (fun c151 => ?_)
        · have h := iteT c151 h
          refine g_iconst C dX11_span_158 ic_0 ?_
          exact g_sub [3, 4, 5, 6, 7, 8, 9, 1, 0, 11] rfl (J159 (if (fX_J_bitCount r114) < x7 then (fX_J_bitCount r114) else x7) (if x8 < (fX_J_bitCount r114) then (fX_J_bitCount r114) else x8) x10 x9 (0 : Int32) g107 h)
        · have h := iteF c151 h
          refine g_iconst C dX11_span_154 ic_1 ?_
          refine g_goto (tgt := 159) C dX11_span_155 (by decide) ?_
          exact g_sub [3, 4, 5, 6, 7, 8, 9, 1, 0, 11] rfl (J159 (if (fX_J_bitCount r114) < x7 then (fX_J_bitCount r114) else x7) (if x8 < (fX_J_bitCount r114) then (fX_J_bitCount r114) else x8) x10 x9 (1 : Int32) g107 h)
    · show GcX_span l D T ad Γ o xo 2 xo g 168 [(5, .int x5), (7, .int x7), (8, .int x8), (9, .int x9)] []
      refine g_iload C dX11_span_168 0 rfl ?_
      refine g_if_ne C 178 dX11_span_170 (by decide) (fun c170 => ?_) (fun c170 => ?_)
      · have h := iteT c170 h
        refine g_iload C dX11_span_173 1 rfl ?_
        refine g_goto (tgt := 191) C dX11_span_175 (by decide) ?_
        obtain rfl := Option.some.inj h
        exact g_treti Z rfl rfl ⟨Nat.le_of_ble_eq_true rfl, Nat.le_of_ble_eq_true rfl⟩ dX11_span_191
      · have h := iteF c170 h
        refine g_iload C dX11_span_178 0 rfl ?_
        refine g_iconst C dX11_span_180 ic_1 ?_
        refine g_icmp_ne C 189 dX11_span_181 (by decide) (fun c181 => ?_) (fun c181 => ?_)
        · have h := iteT c181 h
          refine g_iload C dX11_span_184 2 rfl ?_
          refine g_goto (tgt := 191) C dX11_span_186 (by decide) ?_
          obtain rfl := Option.some.inj h
          exact g_treti Z rfl rfl ⟨Nat.le_of_ble_eq_true rfl, Nat.le_of_ble_eq_true rfl⟩ dX11_span_191
        · have h := iteF c181 h
          refine g_iload C dX11_span_189 3 rfl ?_
          obtain rfl := Option.some.inj h
          exact g_treti Z rfl rfl ⟨Nat.le_of_ble_eq_true rfl, Nat.le_of_ble_eq_true rfl⟩ dX11_span_191
  have J77 : ∀ (x1 : Int32) (x2 : Int32) (x3 : Int32) (x4 : Int32) (x5 : Int32) (x6 : Int32) (s1 : Int32) (g : St), fX_span_b77 x1 x2 x3 x4 x5 x6 s1 g = some o → GcX_span l D T ad Γ o xo 1 xo g 77 [(0, .ref (ad 0)), (1, .int x1), (2, .int x2), (3, .int x3), (4, .int x4), (5, .int x5), (6, .int x6)] [.int s1, .ref (ad 0)] := by
    intro x1 x2 x3 x4 x5 x6 s1 g h
    obtain ⟨⟨r77, g77⟩, hr77, h⟩ := ltb h
    refine g_tVv (k := 0) (As := [.int s1]) (rest := []) (o := (r77, g77)) (xo := xo) Z (fun sz => cX_need l hl0 D T ad sK sV xo g s1 _ hr77 sz) kX_RX11_115_need ⟨Nat.le_of_ble_eq_true rfl, Nat.le_of_ble_eq_true rfl⟩ ⟨rfl, rfl⟩ ⟨Nat.le_of_ble_eq_true rfl, Nat.le_of_ble_eq_true rfl⟩ (rfl : vwCl[10]? = some (RX11, TX11, 19)) ob_0 rfl rfl (Nat.le_of_ble_eq_true rfl) dX11_span_77 ⟨Nat.le_of_ble_eq_true rfl, Nat.le_of_ble_eq_true rfl⟩ (fun k9 hk9 => ?_) (fun v9 hv9 => ?_)
    · subst hk9
      obtain rfl := Option.some.inj h
      exact ⟨rfl, rfl⟩
    · subst hv9
      have h := selR h
      refine g_bipush C dX11_span_80 bp_9 ?_
      refine g_istore (lv' := [(7, .int (9 : Int32)), (0, .ref (ad 0)), (1, .int x1), (2, .int x2), (3, .int x3), (4, .int x4), (5, .int x5), (6, .int x6)]) C dX11_span_82 (Nat.le_of_ble_eq_true rfl) rfl ?_
      refine g_iconst C dX11_span_84 ic_0 ?_
      refine g_istore (lv' := [(8, .int (0 : Int32)), (7, .int (9 : Int32)), (0, .ref (ad 0)), (1, .int x1), (2, .int x2), (3, .int x3), (4, .int x4), (5, .int x5), (6, .int x6)]) C dX11_span_85 (Nat.le_of_ble_eq_true rfl) rfl ?_
      refine g_iconst C dX11_span_87 ic_0 ?_
      refine g_istore (lv' := [(9, .int (0 : Int32)), (8, .int (0 : Int32)), (7, .int (9 : Int32)), (0, .ref (ad 0)), (1, .int x1), (2, .int x2), (3, .int x3), (4, .int x4), (5, .int x5), (6, .int x6)]) C dX11_span_88 (Nat.le_of_ble_eq_true rfl) rfl ?_
      refine g_iconst C dX11_span_90 ic_0 ?_
      refine g_istore (lv' := [(10, .int (0 : Int32)), (9, .int (0 : Int32)), (8, .int (0 : Int32)), (7, .int (9 : Int32)), (0, .ref (ad 0)), (1, .int x1), (2, .int x2), (3, .int x3), (4, .int x4), (5, .int x5), (6, .int x6)]) C dX11_span_91 (Nat.le_of_ble_eq_true rfl) rfl ?_
      exact g_sub [4, 5, 6, 7, 8, 9, 10, 3, 2, 1, 0] rfl (J93 x1 x2 x3 x4 x5 x6 (9 : Int32) (0 : Int32) (0 : Int32) (0 : Int32) g77 h)
  have J76 : ∀ (x1 : Int32) (x2 : Int32) (x3 : Int32) (x4 : Int32) (x5 : Int32) (x6 : Int32) (g : St), fX_span_b76 x1 x2 x3 x4 x5 x6 g = some o → GcX_span l D T ad Γ o xo 1 xo g 76 [(0, .ref (ad 0)), (1, .int x1), (2, .int x2), (3, .int x3), (4, .int x4), (5, .int x5), (6, .int x6)] [.ref (ad 0)] := by
    intro x1 x2 x3 x4 x5 x6 g h
    refine g_iconst C dX11_span_76 ic_0 ?_
    exact J77 x1 x2 x3 x4 x5 x6 (0 : Int32) g h
  have J40 : ∀ (x1 : Int32) (x2 : Int32) (x3 : Int32) (x4 : Int32) (x5 : Int32) (x6 : Int32) (s1 : Int32) (g : St), fX_span_b40 x1 x2 x3 x4 x5 x6 s1 g = some o → GcX_span l D T ad Γ o xo 0 xo g 40 [(0, .ref (ad 0)), (1, .int x1), (2, .int x2), (3, .int x3), (4, .int x4), (5, .int x5), (6, .int x6)] [.int s1, .ref (ad 0)] := by
    intro x1 x2 x3 x4 x5 x6 s1 g h
    obtain ⟨⟨r40, g40⟩, hr40, h⟩ := ltb h
    refine g_tVv (k := 0) (As := [.int s1]) (rest := []) (o := (r40, g40)) (xo := xo) Z (fun sz => cX_need l hl0 D T ad sK sV xo g s1 _ hr40 sz) kX_RX11_115_need ⟨Nat.le_of_ble_eq_true rfl, Nat.le_of_ble_eq_true rfl⟩ ⟨rfl, rfl⟩ ⟨Nat.le_of_ble_eq_true rfl, Nat.le_of_ble_eq_true rfl⟩ (rfl : vwCl[10]? = some (RX11, TX11, 19)) ob_0 rfl rfl (Nat.le_of_ble_eq_true rfl) dX11_span_40 ⟨Nat.le_of_ble_eq_true rfl, Nat.le_of_ble_eq_true rfl⟩ (fun k9 hk9 => ?_) (fun v9 hv9 => ?_)
    · subst hk9
      obtain rfl := Option.some.inj h
      exact ⟨rfl, rfl⟩
    · subst hv9
      have h := selR h
      refine g_aload_n C dX11_span_43 rfl 0 rfl ?_
      refine g_iload C dX11_span_44 5 rfl ?_
      refine g_if_lt C 76 dX11_span_46 (by decide) (fun c46 => ?_) (fun c46 => ?_)
      · have h := iteT c46 h
        exact J76 x1 x2 x3 x4 x5 x6 g40 h
      · have h := iteF c46 h
        refine g_iload C dX11_span_49 5 rfl ?_
        refine g_iconst C dX11_span_51 ic_2 ?_
        refine g_icmp_gt C 76 dX11_span_52 (by decide) (fun c52 => ?_) (fun c52 => ?_)
        · have h := iteT c52 h
          exact J76 x1 x2 x3 x4 x5 x6 g40 h
        · have h := iteF c52 h
          refine g_iload C dX11_span_55 6 rfl ?_
          refine g_if_lt C 76 dX11_span_57 (by decide) (fun c57 => ?_) (fun c57 => ?_)
          · have h := iteT c57 h
            exact J76 x1 x2 x3 x4 x5 x6 g40 h
          · have h := iteF c57 h
            refine g_iload C dX11_span_60 6 rfl ?_
            refine g_aload_n C dX11_span_62 rfl 0 rfl ?_
            refine gX_get_X11_19 C ob_0 rfl dX11_span_63 ?_
            refine gX_get_X11_143 (v := g40 2 0) C ob_2 rfl rfl dX11_span_66 ?_
            refine g_icmp_ge C 76 dX11_span_69 (by decide) (fun c69 => ?_) (fun c69 => ?_)
            · have h := iteT c69 h
              exact J76 x1 x2 x3 x4 x5 x6 g40 h
            · have h := iteF c69 h
              refine g_iconst C dX11_span_72 ic_1 ?_
              refine g_goto (tgt := 77) C dX11_span_73 (by decide) ?_
              exact J77 x1 x2 x3 x4 x5 x6 (1 : Int32) g40 h
  have J39 : ∀ (x1 : Int32) (x2 : Int32) (x3 : Int32) (x4 : Int32) (x5 : Int32) (x6 : Int32) (g : St), fX_span_b39 x1 x2 x3 x4 x5 x6 g = some o → GcX_span l D T ad Γ o xo 0 xo g 39 [(0, .ref (ad 0)), (1, .int x1), (2, .int x2), (3, .int x3), (4, .int x4), (5, .int x5), (6, .int x6)] [.ref (ad 0)] := by
    intro x1 x2 x3 x4 x5 x6 g h
    refine g_iconst C dX11_span_39 ic_0 ?_
    exact J40 x1 x2 x3 x4 x5 x6 (0 : Int32) g h
  refine g_aload_n C dX11_span_0 rfl 0 rfl ?_
  refine g_iload_n C dX11_span_1 rfl 2 rfl ?_
  refine g_iconst C dX11_span_2 ic_1 ?_
  refine g_icmp_lt C 39 dX11_span_3 (by decide) (fun c3 => ?_) (fun c3 => ?_)
  · have h := iteT c3 h
    exact J39 x1 x2 x3 x4 x5 x6 g h
  · have h := iteF c3 h
    refine g_iload_n C dX11_span_6 rfl 2 rfl ?_
    refine g_bipush C dX11_span_7 bp_20 ?_
    refine g_icmp_gt C 39 dX11_span_9 (by decide) (fun c9 => ?_) (fun c9 => ?_)
    · have h := iteT c9 h
      exact J39 x1 x2 x3 x4 x5 x6 g h
    · have h := iteF c9 h
      refine g_iload_n C dX11_span_12 rfl 3 rfl ?_
      refine g_iconst C dX11_span_13 ic_1 ?_
      refine g_icmp_lt C 39 dX11_span_14 (by decide) (fun c14 => ?_) (fun c14 => ?_)
      · have h := iteT c14 h
        exact J39 x1 x2 x3 x4 x5 x6 g h
      · have h := iteF c14 h
        refine g_iload_n C dX11_span_17 rfl 3 rfl ?_
        refine g_bipush C dX11_span_18 bp_96 ?_
        refine g_icmp_gt C 39 dX11_span_20 (by decide) (fun c20 => ?_) (fun c20 => ?_)
        · have h := iteT c20 h
          exact J39 x1 x2 x3 x4 x5 x6 g h
        · have h := iteF c20 h
          refine g_iload C dX11_span_23 4 rfl ?_
          refine g_if_lt C 39 dX11_span_25 (by decide) (fun c25 => ?_) (fun c25 => ?_)
          · have h := iteT c25 h
            exact J39 x1 x2 x3 x4 x5 x6 g h
          · have h := iteF c25 h
            refine g_iload C dX11_span_28 4 rfl ?_
            refine g_bipush C dX11_span_30 bp_16 ?_
            refine g_icmp_gt C 39 dX11_span_32 (by decide) (fun c32 => ?_) (fun c32 => ?_)
            · have h := iteT c32 h
              exact J39 x1 x2 x3 x4 x5 x6 g h
            · have h := iteF c32 h
              refine g_iconst C dX11_span_35 ic_1 ?_
              refine g_goto (tgt := 40) C dX11_span_36 (by decide) ?_
              exact J40 x1 x2 x3 x4 x5 x6 (1 : Int32) g h
def fX_image (g : St) : Option (Int32 × St) :=
  if (g 12 3) < (3 : Int32) then
    ((fX_Past_keepImage 10 g).bind fun g21 => (some ((g21 12 3), g21)))
  else
    (some ((-1 : Int32), g))
def rmX_image : Room := { frames := 4, cells := 0, slots := 0, locals := 91 }
abbrev GcX_image (l : Launch) (D : va_G) (T : cT) (ad : Nat → Nat) (Γ : Cxt) (o : Int32 × St) (xo : Sl) (x : Sl) (g : St) (pc : Nat) (lv : List (Nat × Value)) (stk : List Value) : Prop := Gj l shX D T ad 1 (rmX_image) 0 0 Γ (MQ Γ.below (va_Qi (eqI o.1 o.2 xo) (wPost shX D T ad Γ.A) Γ.A) Γ.args Γ.s 0 0 Γ.A) x g pc lv stk
set_option maxRecDepth 100000 in
set_option maxHeartbeats 4000000 in
theorem cX_image (l : Launch) (D : va_G) (T : cT) (ad : Nat → Nat) (sK sV : Nat → Nat) (xo : Sl) (g : St) (o : Int32 × St) (h : fX_image g = some o) (sz : Nat) : Met l yX11_image wX_image (rmX_image) (va_Pc [.ref (ad 0)] (xPre shX D T ad sK sV xo g sz)) (va_Qi (eqI o.1 o.2 xo) (wPost shX D T ad (aW shX T ad xo g sz)) (aW shX T ad xo g sz)) 0 0 (aW shX T ad xo g sz) := by
  refine g_startx (Qc := fun A => va_Qi (eqI o.1 o.2 xo) (wPost shX D T ad A) A) (by decide +kernel) rfl rfl (Nat.le_of_ble_eq_true rfl) (lv := [(0, .ref (ad 0))]) rfl (fun Γ Y => ?_)
  have C := Y.1
  show GcX_image l D T ad Γ o xo xo g 0 [(0, .ref (ad 0))] []
  refine g_aload_n C dX11_image_0 rfl 0 rfl ?_
  refine gX_get_X11_75 C ob_0 rfl dX11_image_1 ?_
  refine gX_get_X11_362 (v := g 12 3) C ob_12 rfl rfl dX11_image_4 ?_
  refine g_iconst C dX11_image_7 ic_3 ?_
  refine g_icmp_lt C 13 dX11_image_8 (by decide) (fun c8 => ?_) (fun c8 => ?_)
  · have h := iteT c8 h
    refine g_aload_n C dX11_image_13 rfl 0 rfl ?_
    refine gX_get_X11_75 C ob_0 rfl dX11_image_14 ?_
    refine g_aload_n C dX11_image_17 rfl 0 rfl ?_
    refine gX_get_X11_65 C ob_0 rfl dX11_image_18 ?_
    obtain ⟨g21, hr21, h⟩ := bnd h
    refine g_xVv (k := 12) (As := [.ref (ad 10)]) (rest := []) (go := g21) (xo := xo) Y (fun sz => cX_Past_keepImage l D T ad sK sV xo g 10 (Or.inl rfl) _ hr21 sz) kX_RX11_365_Past_keepImage ⟨Nat.le_of_ble_eq_true rfl, Nat.le_of_ble_eq_true rfl⟩ ⟨rfl, rfl⟩ ⟨Nat.zero_le _, Nat.zero_le _⟩ (rfl : vwCl[5]? = some (RX5, TX5, 4)) ob_12 rfl rfl (Nat.le_of_ble_eq_true rfl) dX11_image_21 ?_
    refine g_aload_n C dX11_image_24 rfl 0 rfl ?_
    refine gX_get_X11_75 C ob_0 rfl dX11_image_25 ?_
    refine gX_get_X11_362 (v := g21 12 3) C ob_12 rfl rfl dX11_image_28 ?_
    obtain rfl := Option.some.inj h
    exact g_iret C rfl rfl rfl dX11_image_31
  · have h := iteF c8 h
    refine g_iconst C dX11_image_11 ic_m1 ?_
    obtain rfl := Option.some.inj h
    exact g_iret C rfl rfl rfl dX11_image_12
def fX_restore (g : St) : Option (Int32 × St) :=
  if 0 < (g 12 3) then
    ((fX_Past_restoreImage 10 g).bind fun g20 => (some ((g20 12 3), (st g20 0 16 (0 : Int32)))))
  else
    (some ((-1 : Int32), g))
def rmX_restore : Room := { frames := 4, cells := 0, slots := 0, locals := 91 }
abbrev GcX_restore (l : Launch) (D : va_G) (T : cT) (ad : Nat → Nat) (Γ : Cxt) (o : Int32 × St) (xo : Sl) (x : Sl) (g : St) (pc : Nat) (lv : List (Nat × Value)) (stk : List Value) : Prop := Gj l shX D T ad 1 (rmX_restore) 0 0 Γ (MQ Γ.below (va_Qi (eqI o.1 o.2 xo) (wPost shX D T ad Γ.A) Γ.A) Γ.args Γ.s 0 0 Γ.A) x g pc lv stk
set_option maxRecDepth 100000 in
set_option maxHeartbeats 4000000 in
theorem cX_restore (l : Launch) (D : va_G) (T : cT) (ad : Nat → Nat) (sK sV : Nat → Nat) (xo : Sl) (g : St) (o : Int32 × St) (h : fX_restore g = some o) (sz : Nat) : Met l yX11_restore wX_restore (rmX_restore) (va_Pc [.ref (ad 0)] (xPre shX D T ad sK sV xo g sz)) (va_Qi (eqI o.1 o.2 xo) (wPost shX D T ad (aW shX T ad xo g sz)) (aW shX T ad xo g sz)) 0 0 (aW shX T ad xo g sz) := by
  refine g_startx (Qc := fun A => va_Qi (eqI o.1 o.2 xo) (wPost shX D T ad A) A) (by decide +kernel) rfl rfl (Nat.le_of_ble_eq_true rfl) (lv := [(0, .ref (ad 0))]) rfl (fun Γ Y => ?_)
  have C := Y.1
  show GcX_restore l D T ad Γ o xo xo g 0 [(0, .ref (ad 0))] []
  refine g_aload_n C dX11_restore_0 rfl 0 rfl ?_
  refine gX_get_X11_75 C ob_0 rfl dX11_restore_1 ?_
  refine gX_get_X11_362 (v := g 12 3) C ob_12 rfl rfl dX11_restore_4 ?_
  refine g_if_gt C 12 dX11_restore_7 (by decide) (fun c7 => ?_) (fun c7 => ?_)
  · have h := iteT c7 h
    refine g_aload_n C dX11_restore_12 rfl 0 rfl ?_
    refine gX_get_X11_75 C ob_0 rfl dX11_restore_13 ?_
    refine g_aload_n C dX11_restore_16 rfl 0 rfl ?_
    refine gX_get_X11_65 C ob_0 rfl dX11_restore_17 ?_
    obtain ⟨g20, hr20, h⟩ := bnd h
    refine g_xVv (k := 12) (As := [.ref (ad 10)]) (rest := []) (go := g20) (xo := xo) Y (fun sz => cX_Past_restoreImage l D T ad sK sV xo g 10 (Or.inl rfl) _ hr20 sz) kX_RX11_368_Past_restoreImage ⟨Nat.le_of_ble_eq_true rfl, Nat.le_of_ble_eq_true rfl⟩ ⟨rfl, rfl⟩ ⟨Nat.zero_le _, Nat.zero_le _⟩ (rfl : vwCl[5]? = some (RX5, TX5, 4)) ob_12 rfl rfl (Nat.le_of_ble_eq_true rfl) dX11_restore_20 ?_
    refine g_aload_n C dX11_restore_23 rfl 0 rfl ?_
    refine g_iconst C dX11_restore_24 ic_0 ?_
    refine gX_put_X11_140 C ob_0 rfl dX11_restore_25 ?_
    refine g_aload_n C dX11_restore_28 rfl 0 rfl ?_
    refine gX_get_X11_75 C ob_0 rfl dX11_restore_29 ?_
    refine gX_get_X11_362 (v := g20 12 3) C ob_12 rfl rfl dX11_restore_32 ?_
    obtain rfl := Option.some.inj h
    exact g_iret C rfl rfl rfl dX11_restore_35
  · have h := iteF c7 h
    refine g_iconst C dX11_restore_10 ic_m1 ?_
    obtain rfl := Option.some.inj h
    exact g_iret C rfl rfl rfl dX11_restore_11
def fX_status (x1 : Int32) (g : St) : Int32 :=
  if x1 = 0 then
    ((g 0 17))
  else
    (if x1 = (1 : Int32) then
    ((g 0 18))
  else
    ((-1 : Int32)))
def rmX_status : Room := { frames := 0, cells := 0, slots := 0, locals := 0 }
abbrev GcX_status (l : Launch) (D : va_G) (T : cT) (ad : Nat → Nat) (Γ : Cxt) (o : Int32) (xo : Sl) (g0 : St) (x : Sl) (g : St) (pc : Nat) (lv : List (Nat × Value)) (stk : List Value) : Prop := Gj l shX D T ad 2 (rmX_status) 0 0 Γ (MQ Γ.below (va_Qi (eqI o g0 xo) (wPost shX D T ad Γ.A) Γ.A) Γ.args Γ.s 0 0 Γ.A) x g pc lv stk
set_option maxRecDepth 100000 in
set_option maxHeartbeats 4000000 in
theorem cX_status (l : Launch) (D : va_G) (T : cT) (ad : Nat → Nat) (sK sV : Nat → Nat) (xo : Sl) (g : St) (x1 : Int32) (o : Int32) (h : fX_status x1 g = o) (sz : Nat) : Met l yX11_status wX_status (rmX_status) (va_Pc [.ref (ad 0), .int x1] (xPre shX D T ad sK sV xo g sz)) (va_Qi (eqI o g xo) (wPost shX D T ad (aW shX T ad xo g sz)) (aW shX T ad xo g sz)) 0 0 (aW shX T ad xo g sz) := by
  refine g_startx (Qc := fun A => va_Qi (eqI o g xo) (wPost shX D T ad A) A) (by decide +kernel) rfl rfl (Nat.le_of_ble_eq_true rfl) (lv := [(0, .ref (ad 0)), (1, .int x1)]) rfl (fun Γ Y => ?_)
  have C := Y.1
  show GcX_status l D T ad Γ o xo g xo g 0 [(0, .ref (ad 0)), (1, .int x1)] []
  refine g_iload_n C dX11_status_0 rfl 1 rfl ?_
  refine g_if_ne C 11 dX11_status_1 (by decide) (fun c1 => ?_) (fun c1 => ?_)
  · have h := iteT c1 h
    refine g_aload_n C dX11_status_4 rfl 0 rfl ?_
    refine gX_get_X11_371 (v := g 0 17) C ob_0 rfl rfl dX11_status_5 ?_
    refine g_goto (tgt := 24) C dX11_status_8 (by decide) ?_
    subst h
    exact g_iret C rfl rfl rfl dX11_status_24
  · have h := iteF c1 h
    refine g_iload_n C dX11_status_11 rfl 1 rfl ?_
    refine g_iconst C dX11_status_12 ic_1 ?_
    refine g_icmp_ne C 23 dX11_status_13 (by decide) (fun c13 => ?_) (fun c13 => ?_)
    · have h := iteT c13 h
      refine g_aload_n C dX11_status_16 rfl 0 rfl ?_
      refine gX_get_X11_374 (v := g 0 18) C ob_0 rfl rfl dX11_status_17 ?_
      refine g_goto (tgt := 24) C dX11_status_20 (by decide) ?_
      subst h
      exact g_iret C rfl rfl rfl dX11_status_24
    · have h := iteF c13 h
      refine g_iconst C dX11_status_23 ic_m1 ?_
      subst h
      exact g_iret C rfl rfl rfl dX11_status_24
def fX_count (x1 : Int32) (g : St) : Int32 :=
  if x1 = 0 then
    ((g 12 3))
  else
    (if x1 = 1 then
    ((g 1 1))
  else
    (if x1 = 2 then
    ((g 12 2))
  else
    ((-1 : Int32))))
def rmX_count : Room := { frames := 0, cells := 0, slots := 0, locals := 0 }
abbrev GcX_count (l : Launch) (D : va_G) (T : cT) (ad : Nat → Nat) (Γ : Cxt) (o : Int32) (xo : Sl) (g0 : St) (x : Sl) (g : St) (pc : Nat) (lv : List (Nat × Value)) (stk : List Value) : Prop := Gj l shX D T ad 2 (rmX_count) 0 0 Γ (MQ Γ.below (va_Qi (eqI o g0 xo) (wPost shX D T ad Γ.A) Γ.A) Γ.args Γ.s 0 0 Γ.A) x g pc lv stk
set_option maxRecDepth 100000 in
set_option maxHeartbeats 4000000 in
theorem cX_count (l : Launch) (D : va_G) (T : cT) (ad : Nat → Nat) (sK sV : Nat → Nat) (xo : Sl) (g : St) (x1 : Int32) (o : Int32) (h : fX_count x1 g = o) (sz : Nat) : Met l yX11_count wX_count (rmX_count) (va_Pc [.ref (ad 0), .int x1] (xPre shX D T ad sK sV xo g sz)) (va_Qi (eqI o g xo) (wPost shX D T ad (aW shX T ad xo g sz)) (aW shX T ad xo g sz)) 0 0 (aW shX T ad xo g sz) := by
  refine g_startx (Qc := fun A => va_Qi (eqI o g xo) (wPost shX D T ad A) A) (by decide +kernel) rfl rfl (Nat.le_of_ble_eq_true rfl) (lv := [(0, .ref (ad 0)), (1, .int x1)]) rfl (fun Γ Y => ?_)
  have C := Y.1
  show GcX_count l D T ad Γ o xo g xo g 0 [(0, .ref (ad 0)), (1, .int x1)] []
  refine g_iload_n C dX11_count_0 rfl 1 rfl ?_
  by_cases c1_0 : x1 = 0
  · have h := iteT c1_0 h
    refine g_tabIn C 0 28 dX11_count_1 c1_0 (by decide) (by decide) rfl (by decide) ?_
    refine g_aload_n C dX11_count_28 rfl 0 rfl ?_
    refine gX_get_X11_75 C ob_0 rfl dX11_count_29 ?_
    refine gX_get_X11_362 (v := g 12 3) C ob_12 rfl rfl dX11_count_32 ?_
    subst h
    exact g_iret C rfl rfl rfl dX11_count_35
  have h := iteF c1_0 h
  by_cases c1_1 : x1 = 1
  · have h := iteT c1_1 h
    refine g_tabIn C 1 36 dX11_count_1 c1_1 (by decide) (by decide) rfl (by decide) ?_
    refine g_aload_n C dX11_count_36 rfl 0 rfl ?_
    refine gX_get_X11_10 C ob_0 rfl dX11_count_37 ?_
    refine gX_get_X11_111 (v := g 1 1) C ob_1 rfl rfl dX11_count_40 ?_
    subst h
    exact g_iret C rfl rfl rfl dX11_count_43
  have h := iteF c1_1 h
  by_cases c1_2 : x1 = 2
  · have h := iteT c1_2 h
    refine g_tabIn C 2 44 dX11_count_1 c1_2 (by decide) (by decide) rfl (by decide) ?_
    refine g_aload_n C dX11_count_44 rfl 0 rfl ?_
    refine gX_get_X11_75 C ob_0 rfl dX11_count_45 ?_
    refine gX_get_X11_181 (v := g 12 2) C ob_12 rfl rfl dX11_count_48 ?_
    subst h
    exact g_iret C rfl rfl rfl dX11_count_51
  have h := iteF c1_2 h
  refine g_tabOut C 52 dX11_count_1 (tab_0_2 _ c1_0 c1_1 c1_2) (by decide) ?_
  refine g_iconst C dX11_count_52 ic_m1 ?_
  subst h
  exact g_iret C rfl rfl rfl dX11_count_53
