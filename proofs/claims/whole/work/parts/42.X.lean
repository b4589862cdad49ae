def fX_Orders_step_L99 : (Int32 × Int32 × St) → Option ((Int32 × Int32 × St) ⊕ (St)) := fun ⟨x3, x4, g⟩ =>
  if x4 ≤ x3 then
    (some (.inr g))
  else
    ((fX_Orders_swap x3 x4 g).bind fun g109 => (some (.inl ((x3 + (1 : Int32)), (x4 + (-1 : Int32)), g109))))
def fX_Orders_step_b99 (x3 : Int32) (x4 : Int32) (g : St) : Option (Int32 × St) :=
  (lp (fX_Orders_step_L99) fuel (x3, x4, g)).bind (fun g => some ((1 : Int32), g))
def fX_Orders_step_L51 (x1 : Int32) (g : St) : Int32 → Option ((Int32) ⊕ (Int32)) := fun x2 =>
  if x2 ≤ x1 then
    (some (.inr x2))
  else
    ((fX_Rows_at 45 x2 g).bind fun r61 => ((fX_Rows_at 45 x1 g).bind fun r69 => (if r69 ≤ r61 then
    (some (.inr x2))
  else
    (some (.inl (x2 + (-1 : Int32)))))))
def fX_Orders_step_b51 (x1 : Int32) (x2 : Int32) (g : St) : Option (Int32 × St) :=
  (lp (fX_Orders_step_L51 x1 g) fuel x2).bind (fun x2 => (fX_Orders_swap x1 x2 g).bind fun g84 => (fX_Orders_step_b99 (x1 + (1 : Int32)) ((g84 13 2) - (1 : Int32)) g84))
def fX_Orders_step_L7 (g : St) : Int32 → Option ((Int32) ⊕ (Int32)) := fun x1 =>
  if x1 < 0 then
    (some (.inr x1))
  else
    ((fX_Rows_at 45 x1 g).bind fun r16 => ((fX_Rows_at 45 (x1 + (1 : Int32)) g).bind fun r26 => (if r16 ≤ r26 then
    (some (.inr x1))
  else
    (some (.inl (x1 + (-1 : Int32)))))))
def fX_Orders_step_b7 (x1 : Int32) (g : St) : Option (Int32 × St) :=
  (lp (fX_Orders_step_L7 g) fuel x1).bind (fun x1 => if 0 ≤ x1 then
    (fX_Orders_step_b51 x1 ((g 13 2) - (1 : Int32)) g)
  else
    (some ((0 : Int32), g)))
def fX_Orders_step (g : St) : Option (Int32 × St) :=
  fX_Orders_step_b7 ((g 13 2) - (2 : Int32)) g
def rmX_Orders_step : Room := { frames := 2, cells := 0, slots := 0, locals := 45 }
abbrev GcX_Orders_step (l : Launch) (D : va_G) (T : cT) (ad : Nat → Nat) (Γ : Cxt) (o : Int32 × St) (xo : Sl) (x : Sl) (g : St) (pc : Nat) (lv : List (Nat × Value)) (stk : List Value) : Prop := Gj l shX D T ad 5 (rmX_Orders_step) 0 0 Γ (MQ Γ.below (va_Qi (eqZ o.1 o.2 xo) (wPost shX D T ad Γ.A) Γ.A) Γ.args Γ.s 0 0 Γ.A) x g pc lv stk
set_option maxRecDepth 100000 in
set_option maxHeartbeats 4000000 in
theorem cX_Orders_step (l : Launch) (D : va_G) (T : cT) (ad : Nat → Nat) (sK sV : Nat → Nat) (xo : Sl) (g : St) (o : Int32 × St) (h : fX_Orders_step g = some o) (sz : Nat) : Met l yX4_step wX_Orders_step (rmX_Orders_step) (va_Pc [.ref (ad 13)] (xPre shX D T ad sK sV xo g sz)) (va_Qi (eqZ o.1 o.2 xo) (wPost shX D T ad (aW shX T ad xo g sz)) (aW shX T ad xo g sz)) 0 0 (aW shX T ad xo g sz) := by
  refine g_startx (Qc := fun A => va_Qi (eqZ o.1 o.2 xo) (wPost shX D T ad A) A) (by decide +kernel) rfl rfl (Nat.le_of_ble_eq_true rfl) (lv := [(0, .ref (ad 13))]) rfl (fun Γ Y => ?_)
  have C := Y.1
  show GcX_Orders_step l D T ad Γ o xo xo g 0 [(0, .ref (ad 13))] []
  have J99 : ∀ (x3 : Int32) (x4 : Int32) (g : St), fX_Orders_step_b99 x3 x4 g = some o → GcX_Orders_step l D T ad Γ o xo xo g 99 [(0, .ref (ad 13)), (3, .int x3), (4, .int x4)] [] := by
    intro x3 x4 g h
    obtain ⟨g, ht, h⟩ := bnd h
    refine lp_run (P := fun t : Int32 × Int32 × St => match t with | (x3, x4, g) => GcX_Orders_step l D T ad Γ o xo xo g 99 [(0, .ref (ad 13)), (3, .int x3), (4, .int x4)] []) (E := fun g : St => GcX_Orders_step l D T ad Γ o xo xo g 121 [] []) ?_ _ _ _ ht ?_
    · rintro ⟨x3, x4, g⟩ z h Kt Ke
      show GcX_Orders_step l D T ad Γ o xo xo g 99 [(0, .ref (ad 13)), (3, .int x3), (4, .int x4)] []
      refine g_iload_n C dX4_step_99 rfl 1 rfl ?_
      refine g_iload C dX4_step_100 2 rfl ?_
      refine g_icmp_ge C 121 dX4_step_102 (by decide) (fun c102 => ?_) (fun c102 => ?_)
      · have h := iteT c102 h
        exact g_sub [] rfl (Ke _ (Option.some.inj h).symm)
      · have h := iteF c102 h
        refine g_aload_n C dX4_step_105 rfl 0 rfl ?_
        refine g_iload_n C dX4_step_106 rfl 1 rfl ?_
        refine g_iload C dX4_step_107 2 rfl ?_
        obtain ⟨g109, hr109, h⟩ := bnd h
        refine g_xVv (k := 13) (As := [.int x3, .int x4]) (rest := []) (go := g109) (xo := xo) Y (fun sz => cX_Orders_swap l D T ad sK sV xo g x3 x4 _ hr109 sz) kX_RX4_44_Orders_swap ⟨Nat.le_of_ble_eq_true rfl, Nat.le_of_ble_eq_true rfl⟩ ⟨rfl, rfl⟩ ⟨Nat.zero_le _, Nat.zero_le _⟩ (rfl : vwCl[4]? = some (RX4, TX4, 7)) ob_13 rfl rfl (Nat.le_of_ble_eq_true rfl) dX4_step_109 ?_
        refine g_iinc (lv' := [(3, .int (x3 + (1 : Int32))), (0, .ref (ad 13)), (4, .int x4)]) C dX4_step_112 1 rfl (ii_1 _) (Nat.le_of_ble_eq_true rfl) rfl ?_
        refine g_iinc (lv' := [(4, .int (x4 + (-1 : Int32))), (3, .int (x3 + (1 : Int32))), (0, .ref (ad 13))]) C dX4_step_115 2 rfl (ii_m1 _) (Nat.le_of_ble_eq_true rfl) rfl ?_
        refine g_goto (tgt := 99) C dX4_step_118 (by decide) ?_
        exact g_sub [2, 1, 0] rfl (Kt _ (Option.some.inj h).symm)
    · show GcX_Orders_step l D T ad Γ o xo xo g 121 [] []
      refine g_iconst C dX4_step_121 ic_1 ?_
      obtain rfl := Option.some.inj h
      exact g_zret C rfl rfl rfl rfl dX4_step_122
  have J51 : ∀ (x1 : Int32) (x2 : Int32) (g : St), fX_Orders_step_b51 x1 x2 g = some o → GcX_Orders_step l D T ad Γ o xo xo g 51 [(0, .ref (ad 13)), (1, .int x1), (2, .int x2)] [] := by
    intro x1 x2 g h
    obtain ⟨x2, ht, h⟩ := bnd h
    refine lp_run (P := fun x2 : Int32 => GcX_Orders_step l D T ad Γ o xo xo g 51 [(0, .ref (ad 13)), (1, .int x1), (2, .int x2)] []) (E := fun x2 : Int32 => GcX_Orders_step l D T ad Γ o xo xo g 81 [(0, .ref (ad 13)), (1, .int x1), (2, .int x2)] []) ?_ _ _ _ ht ?_
    · rintro x2 z h Kt Ke
      show GcX_Orders_step l D T ad Γ o xo xo g 51 [(0, .ref (ad 13)), (1, .int x1), (2, .int x2)] []
      refine g_iload_n C dX4_step_51 rfl 2 rfl ?_
      refine g_iload_n C dX4_step_52 rfl 1 rfl ?_
      refine g_icmp_le C 81 dX4_step_53 (by decide) (fun c53 => ?_) (fun c53 => ?_)
      · have h := iteT c53 h
        exact g_sub [0, 1, 2] rfl (Ke _ (Option.some.inj h).symm)
      · have h := iteF c53 h
        refine g_aload_n C dX4_step_56 rfl 0 rfl ?_
        refine gX_get_X4_9 C ob_13 rfl dX4_step_57 ?_
        refine g_iload_n C dX4_step_60 rfl 2 rfl ?_
        obtain ⟨r61, hr61, h⟩ := bnd h
        refine g_xSi (As := [.ref (ad 45), .int x2]) (rest := []) (ro := r61) (go := g) (xo := xo) Y (fun sz => cX_Rows_at l D T ad sK sV xo g 45 x2 _ hr61 sz) kX_RX4_40_Rows_at ⟨Nat.le_of_ble_eq_true rfl, Nat.le_of_ble_eq_true rfl⟩ ⟨rfl, rfl⟩ ⟨Nat.zero_le _, Nat.zero_le _⟩ rfl rfl (Nat.le_of_ble_eq_true rfl) dX4_step_61 ?_
        refine g_aload_n C dX4_step_64 rfl 0 rfl ?_
        refine gX_get_X4_9 C ob_13 rfl dX4_step_65 ?_
        refine g_iload_n C dX4_step_68 rfl 1 rfl ?_
        obtain ⟨r69, hr69, h⟩ := bnd h
        refine g_xSi (As := [.ref (ad 45), .int x1]) (rest := [.int r61]) (ro := r69) (go := g) (xo := xo) Y (fun sz => cX_Rows_at l D T ad sK sV xo g 45 x1 _ hr69 sz) kX_RX4_40_Rows_at ⟨Nat.le_of_ble_eq_true rfl, Nat.le_of_ble_eq_true rfl⟩ ⟨rfl, rfl⟩ ⟨Nat.zero_le _, Nat.zero_le _⟩ rfl rfl (Nat.le_of_ble_eq_true rfl) dX4_step_69 ?_
        refine g_icmp_ge C 81 dX4_step_72 (by decide) (fun c72 => ?_) (fun c72 => ?_)
        · have h := iteT c72 h
          exact g_sub [0, 1, 2] rfl (Ke _ (Option.some.inj h).symm)
        · have h := iteF c72 h
          refine g_iinc (lv' := [(2, .int (x2 + (-1 : Int32))), (0, .ref (ad 13)), (1, .int x1)]) C dX4_step_75 2 rfl (ii_m1 _) (Nat.le_of_ble_eq_true rfl) rfl ?_
          refine g_goto (tgt := 51) C dX4_step_78 (by decide) ?_
          exact g_sub [1, 2, 0] rfl (Kt _ (Option.some.inj h).symm)
    · show GcX_Orders_step l D T ad Γ o xo xo g 81 [(0, .ref (ad 13)), (1, .int x1), (2, .int x2)] []
      refine g_aload_n C dX4_step_81 rfl 0 rfl ?_
      refine g_iload_n C dX4_step_82 rfl 1 rfl ?_
      refine g_iload_n C dX4_step_83 rfl 2 rfl ?_
      obtain ⟨g84, hr84, h⟩ := bnd h
      refine g_xVv (k := 13) (As := [.int x1, .int x2]) (rest := []) (go := g84) (xo := xo) Y (fun sz => cX_Orders_swap l D T ad sK sV xo g x1 x2 _ hr84 sz) kX_RX4_44_Orders_swap ⟨Nat.le_of_ble_eq_true rfl, Nat.le_of_ble_eq_true rfl⟩ ⟨rfl, rfl⟩ ⟨Nat.zero_le _, Nat.zero_le _⟩ (rfl : vwCl[4]? = some (RX4, TX4, 7)) ob_13 rfl rfl (Nat.le_of_ble_eq_true rfl) dX4_step_84 ?_
      refine g_iload_n C dX4_step_87 rfl 1 rfl ?_
      refine g_iconst C dX4_step_88 ic_1 ?_
      refine g_iadd C dX4_step_89 ?_
      refine g_istore_n (lv' := [(3, .int (x1 + (1 : Int32))), (0, .ref (ad 13)), (1, .int x1), (2, .int x2)]) C dX4_step_90 rfl (Nat.le_of_ble_eq_true rfl) rfl ?_
      refine g_aload_n C dX4_step_91 rfl 1 rfl ?_
      refine gX_get_X4_18 (v := g84 13 2) C ob_13 rfl rfl dX4_step_92 ?_
      refine g_iconst C dX4_step_95 ic_1 ?_
      refine g_isub C dX4_step_96 ?_
      refine g_istore (lv' := [(4, .int ((g84 13 2) - (1 : Int32))), (3, .int (x1 + (1 : Int32))), (0, .ref (ad 13)), (1, .int x1), (2, .int x2)]) C dX4_step_97 (Nat.le_of_ble_eq_true rfl) rfl ?_
      exact g_sub [2, 1, 0] rfl (J99 (x1 + (1 : Int32)) ((g84 13 2) - (1 : Int32)) g84 h)
  have J7 : ∀ (x1 : Int32) (g : St), fX_Orders_step_b7 x1 g = some o → GcX_Orders_step l D T ad Γ o xo xo g 7 [(0, .ref (ad 13)), (1, .int x1)] [] := by
    intro x1 g h
    obtain ⟨x1, ht, h⟩ := bnd h
    refine lp_run (P := fun x1 : Int32 => GcX_Orders_step l D T ad Γ o xo xo g 7 [(0, .ref (ad 13)), (1, .int x1)] []) (E := fun x1 : Int32 => GcX_Orders_step l D T ad Γ o xo xo g 38 [(0, .ref (ad 13)), (1, .int x1)] []) ?_ _ _ _ ht ?_
    · rintro x1 z h Kt Ke
      show GcX_Orders_step l D T ad Γ o xo xo g 7 [(0, .ref (ad 13)), (1, .int x1)] []
      refine g_iload_n C dX4_step_7 rfl 1 rfl ?_
      refine g_if_lt C 38 dX4_step_8 (by decide) (fun c8 => ?_) (fun c8 => ?_)
      · have h := iteT c8 h
        exact g_sub [0, 1] rfl (Ke _ (Option.some.inj h).symm)
      · have h := iteF c8 h
        refine g_aload_n C dX4_step_11 rfl 0 rfl ?_
        refine gX_get_X4_9 C ob_13 rfl dX4_step_12 ?_
        refine g_iload_n C dX4_step_15 rfl 1 rfl ?_
        obtain ⟨r16, hr16, h⟩ := bnd h
        refine g_xSi (As := [.ref (ad 45), .int x1]) (rest := []) (ro := r16) (go := g) (xo := xo) Y (fun sz => cX_Rows_at l D T ad sK sV xo g 45 x1 _ hr16 sz) kX_RX4_40_Rows_at ⟨Nat.le_of_ble_eq_true rfl, Nat.le_of_ble_eq_true rfl⟩ ⟨rfl, rfl⟩ ⟨Nat.zero_le _, Nat.zero_le _⟩ rfl rfl (Nat.le_of_ble_eq_true rfl) dX4_step_16 ?_
        refine g_aload_n C dX4_step_19 rfl 0 rfl ?_
        refine gX_get_X4_9 C ob_13 rfl dX4_step_20 ?_
        refine g_iload_n C dX4_step_23 rfl 1 rfl ?_
        refine g_iconst C dX4_step_24 ic_1 ?_
        refine g_iadd C dX4_step_25 ?_
        obtain ⟨r26, hr26, h⟩ := bnd h
        refine g_xSi (As := [.ref (ad 45), .int (x1 + (1 : Int32))]) (rest := [.int r16]) (ro := r26) (go := g) (xo := xo) Y (fun sz => cX_Rows_at l D T ad sK sV xo g 45 (x1 + (1 : Int32)) _ hr26 sz) kX_RX4_40_Rows_at ⟨Nat.le_of_ble_eq_true rfl, Nat.le_of_ble_eq_true rfl⟩ ⟨rfl, rfl⟩ ⟨Nat.zero_le _, Nat.zero_le _⟩ rfl rfl (Nat.le_of_ble_eq_true rfl) dX4_step_26 ?_
        refine g_icmp_le C 38 dX4_step_29 (by decide) (fun c29 => ?_) (fun c29 => ?_)
        · have h := iteT c29 h
          exact g_sub [0, 1] rfl (Ke _ (Option.some.inj h).symm)
        · have h := iteF c29 h
          refine g_iinc (lv' := [(1, .int (x1 + (-1 : Int32))), (0, .ref (ad 13))]) C dX4_step_32 1 rfl (ii_m1 _) (Nat.le_of_ble_eq_true rfl) rfl ?_
          refine g_goto (tgt := 7) C dX4_step_35 (by decide) ?_
          exact g_sub [1, 0] rfl (Kt _ (Option.some.inj h).symm)
    · show GcX_Orders_step l D T ad Γ o xo xo g 38 [(0, .ref (ad 13)), (1, .int x1)] []
      refine g_iload_n C dX4_step_38 rfl 1 rfl ?_
      refine g_if_ge C 44 dX4_step_39 (by decide) (fun c39 => ?_) (fun c39 => ?_)
      · have h := iteT c39 h
        refine g_aload_n C dX4_step_44 rfl 0 rfl ?_
        refine gX_get_X4_18 (v := g 13 2) C ob_13 rfl rfl dX4_step_45 ?_
        refine g_iconst C dX4_step_48 ic_1 ?_
        refine g_isub C dX4_step_49 ?_
        refine g_istore_n (lv' := [(2, .int ((g 13 2) - (1 : Int32))), (0, .ref (ad 13)), (1, .int x1)]) C dX4_step_50 rfl (Nat.le_of_ble_eq_true rfl) rfl ?_
        exact g_sub [1, 2, 0] rfl (J51 x1 ((g 13 2) - (1 : Int32)) g h)
      · have h := iteF c39 h
        refine g_iconst C dX4_step_42 ic_0 ?_
        obtain rfl := Option.some.inj h
        exact g_zret C rfl rfl rfl rfl dX4_step_43
  refine g_aload_n C dX4_step_0 rfl 0 rfl ?_
  refine gX_get_X4_18 (v := g 13 2) C ob_13 rfl rfl dX4_step_1 ?_
  refine g_iconst C dX4_step_4 ic_2 ?_
  refine g_isub C dX4_step_5 ?_
  refine g_istore_n (lv' := [(1, .int ((g 13 2) - (2 : Int32))), (0, .ref (ad 13))]) C dX4_step_6 rfl (Nat.le_of_ble_eq_true rfl) rfl ?_
  exact g_sub [1, 0] rfl (J7 ((g 13 2) - (2 : Int32)) g h)
def fX_Orders_digits_L9 (g : St) : (Int32 × Int32) → Option ((Int32 × Int32) ⊕ (Int32)) := fun ⟨x1, x2⟩ =>
  if x2 < 0 then
    (some (.inr x1))
  else
    ((fX_Rows_at 45 x2 g).bind fun r22 => (some (.inl (((x1 * (8 : Int32)) + r22), (x2 + (-1 : Int32))))))
def fX_Orders_digits_b9 (x1 : Int32) (x2 : Int32) (g : St) : Option (Int32) :=
  (lp (fX_Orders_digits_L9 g) fuel (x1, x2)).bind (fun x1 => some x1)
def fX_Orders_digits (g : St) : Option (Int32) :=
  fX_Orders_digits_b9 (0 : Int32) ((g 13 2) - (1 : Int32)) g
def rmX_Orders_digits : Room := { frames := 1, cells := 0, slots := 0, locals := 21 }
abbrev GcX_Orders_digits (l : Launch) (D : va_G) (T : cT) (ad : Nat → Nat) (Γ : Cxt) (o : Int32) (xo : Sl) (g0 : St) (x : Sl) (g : St) (pc : Nat) (lv : List (Nat × Value)) (stk : List Value) : Prop := Gj l shX D T ad 3 (rmX_Orders_digits) 0 0 Γ (MQ Γ.below (va_Qi (eqI o g0 xo) (wPost shX D T ad Γ.A) Γ.A) Γ.args Γ.s 0 0 Γ.A) x g pc lv stk
set_option maxRecDepth 100000 in
set_option maxHeartbeats 4000000 in
theorem cX_Orders_digits (l : Launch) (D : va_G) (T : cT) (ad : Nat → Nat) (sK sV : Nat → Nat) (xo : Sl) (g : St) (o : Int32) (h : fX_Orders_digits g = some o) (sz : Nat) : Met l yX4_digits wX_Orders_digits (rmX_Orders_digits) (va_Pc [.ref (ad 13)] (xPre shX D T ad sK sV xo g sz)) (va_Qi (eqI o g xo) (wPost shX D T ad (aW shX T ad xo g sz)) (aW shX T ad xo g sz)) 0 0 (aW shX T ad xo g sz) := by
  refine g_startx (Qc := fun A => va_Qi (eqI o g xo) (wPost shX D T ad A) A) (by decide +kernel) rfl rfl (Nat.le_of_ble_eq_true rfl) (lv := [(0, .ref (ad 13))]) rfl (fun Γ Y => ?_)
  have C := Y.1
  show GcX_Orders_digits l D T ad Γ o xo g xo g 0 [(0, .ref (ad 13))] []
  have J9 : ∀ (x1 : Int32) (x2 : Int32), fX_Orders_digits_b9 x1 x2 g = some o → GcX_Orders_digits l D T ad Γ o xo g xo g 9 [(0, .ref (ad 13)), (1, .int x1), (2, .int x2)] [] := by
    intro x1 x2 h
    obtain ⟨x1, ht, h⟩ := bnd h
    refine lp_run (P := fun t : Int32 × Int32 => match t with | (x1, x2) => GcX_Orders_digits l D T ad Γ o xo g xo g 9 [(0, .ref (ad 13)), (1, .int x1), (2, .int x2)] []) (E := fun x1 : Int32 => GcX_Orders_digits l D T ad Γ o xo g xo g 33 [(1, .int x1)] []) ?_ _ _ _ ht ?_
    · rintro ⟨x1, x2⟩ z h Kt Ke
      show GcX_Orders_digits l D T ad Γ o xo g xo g 9 [(0, .ref (ad 13)), (1, .int x1), (2, .int x2)] []
      refine g_iload_n C dX4_digits_9 rfl 2 rfl ?_
      refine g_if_lt C 33 dX4_digits_10 (by decide) (fun c10 => ?_) (fun c10 => ?_)
      · have h := iteT c10 h
        exact g_sub [1] rfl (Ke _ (Option.some.inj h).symm)
      · have h := iteF c10 h
        refine g_iload_n C dX4_digits_13 rfl 1 rfl ?_
        refine g_bipush C dX4_digits_14 bp_8 ?_
        refine g_imul C dX4_digits_16 ?_
        refine g_aload_n C dX4_digits_17 rfl 0 rfl ?_
        refine gX_get_X4_9 C ob_13 rfl dX4_digits_18 ?_
        refine g_iload_n C dX4_digits_21 rfl 2 rfl ?_
        obtain ⟨r22, hr22, h⟩ := bnd h
        refine g_xSi (As := [.ref (ad 45), .int x2]) (rest := [.int (x1 * (8 : Int32))]) (ro := r22) (go := g) (xo := xo) Y (fun sz => cX_Rows_at l D T ad sK sV xo g 45 x2 _ hr22 sz) kX_RX4_40_Rows_at ⟨Nat.le_of_ble_eq_true rfl, Nat.le_of_ble_eq_true rfl⟩ ⟨rfl, rfl⟩ ⟨Nat.zero_le _, Nat.zero_le _⟩ rfl rfl (Nat.le_of_ble_eq_true rfl) dX4_digits_22 ?_
        refine g_iadd C dX4_digits_25 ?_
        refine g_istore_n (lv' := [(1, .int ((x1 * (8 : Int32)) + r22)), (0, .ref (ad 13)), (2, .int x2)]) C dX4_digits_26 rfl (Nat.le_of_ble_eq_true rfl) rfl ?_
        refine g_iinc (lv' := [(2, .int (x2 + (-1 : Int32))), (1, .int ((x1 * (8 : Int32)) + r22)), (0, .ref (ad 13))]) C dX4_digits_27 2 rfl (ii_m1 _) (Nat.le_of_ble_eq_true rfl) rfl ?_
        refine g_goto (tgt := 9) C dX4_digits_30 (by decide) ?_
        exact g_sub [2, 1, 0] rfl (Kt _ (Option.some.inj h).symm)
    · show GcX_Orders_digits l D T ad Γ o xo g xo g 33 [(1, .int x1)] []
      refine g_iload_n C dX4_digits_33 rfl 0 rfl ?_
      obtain rfl := Option.some.inj h
      exact g_iret C rfl rfl rfl dX4_digits_34
  refine g_iconst C dX4_digits_0 ic_0 ?_
  refine g_istore_n (lv' := [(1, .int (0 : Int32)), (0, .ref (ad 13))]) C dX4_digits_1 rfl (Nat.le_of_ble_eq_true rfl) rfl ?_
  refine g_aload_n C dX4_digits_2 rfl 1 rfl ?_
  refine gX_get_X4_18 (v := g 13 2) C ob_13 rfl rfl dX4_digits_3 ?_
  refine g_iconst C dX4_digits_6 ic_1 ?_
  refine g_isub C dX4_digits_7 ?_
  refine g_istore_n (lv' := [(2, .int ((g 13 2) - (1 : Int32))), (1, .int (0 : Int32)), (0, .ref (ad 13))]) C dX4_digits_8 rfl (Nat.le_of_ble_eq_true rfl) rfl ?_
  exact g_sub [2, 1, 0] rfl (J9 (0 : Int32) ((g 13 2) - (1 : Int32)) h)
def fX_Orders_forget_L23 : (Int32 × St) → Option ((Int32 × St) ⊕ (St)) := fun ⟨x1, g⟩ =>
  if (72 : Int32) ≤ x1 then
    (some (.inr g))
  else
    (if ¬ (x1 < 0 ∨ 72 ≤ x1.toNatClampNeg) then (some (.inl ((x1 + (1 : Int32)), (st g 46 x1.toNatClampNeg (0 : Int32))))) else none)
def fX_Orders_forget_b23 (x1 : Int32) (g : St) : Option (St) :=
  (lp (fX_Orders_forget_L23) fuel (x1, g)).bind (fun g => some g)
def fX_Orders_forget (g : St) : Option (St) :=
  fX_Orders_forget_b23 (0 : Int32) (st (st (st (st g 13 3 (9 : Int32)) 13 4 (0 : Int32)) 13 5 (0 : Int32)) 13 6 (-1 : Int32))
def rmX_Orders_forget : Room := { frames := 0, cells := 0, slots := 0, locals := 0 }
abbrev GcX_Orders_forget (l : Launch) (D : va_G) (T : cT) (ad : Nat → Nat) (Γ : Cxt) (o : St) (xo : Sl) (x : Sl) (g : St) (pc : Nat) (lv : List (Nat × Value)) (stk : List Value) : Prop := Gj l shX D T ad 2 (rmX_Orders_forget) 0 0 Γ (MQ Γ.below (va_Qv (eqV o xo) (wPost shX D T ad Γ.A) Γ.A) Γ.args Γ.s 0 0 Γ.A) x g pc lv stk
set_option maxRecDepth 100000 in
set_option maxHeartbeats 4000000 in
theorem cX_Orders_forget (l : Launch) (D : va_G) (T : cT) (ad : Nat → Nat) (sK sV : Nat → Nat) (xo : Sl) (g : St) (o : St) (h : fX_Orders_forget g = some o) (sz : Nat) : Met l yX4_forget wX_Orders_forget (rmX_Orders_forget) (va_Pc [.ref (ad 13)] (xPre shX D T ad sK sV xo g sz)) (va_Qv (eqV o xo) (wPost shX D T ad (aW shX T ad xo g sz)) (aW shX T ad xo g sz)) 0 0 (aW shX T ad xo g sz) := by
  refine g_startx (Qc := fun A => va_Qv (eqV o xo) (wPost shX D T ad A) A) (by decide +kernel) rfl rfl (Nat.le_of_ble_eq_true rfl) (lv := [(0, .ref (ad 13))]) rfl (fun Γ Y => ?_)
  have C := Y.1
  show GcX_Orders_forget l D T ad Γ o xo xo g 0 [(0, .ref (ad 13))] []
  have J23 : ∀ (x1 : Int32) (g : St), fX_Orders_forget_b23 x1 g = some o → GcX_Orders_forget l D T ad Γ o xo xo g 23 [(0, .ref (ad 13)), (1, .int x1)] [] := by
    intro x1 g h
    obtain ⟨g, ht, h⟩ := bnd h
    refine lp_run (P := fun t : Int32 × St => match t with | (x1, g) => GcX_Orders_forget l D T ad Γ o xo xo g 23 [(0, .ref (ad 13)), (1, .int x1)] []) (E := fun g : St => GcX_Orders_forget l D T ad Γ o xo xo g 45 [] []) ?_ _ _ _ ht ?_
    · rintro ⟨x1, g⟩ z h Kt Ke
      show GcX_Orders_forget l D T ad Γ o xo xo g 23 [(0, .ref (ad 13)), (1, .int x1)] []
      refine g_iload_n C dX4_forget_23 rfl 1 rfl ?_
      refine g_aload_n C dX4_forget_24 rfl 0 rfl ?_
      refine gX_get_X4_15 C ob_13 rfl dX4_forget_25 ?_
      refine g_alen (n := 72) (v := (72 : Int32)) C lnX_46 (Nat.le_of_ble_eq_true rfl) rfl dX4_forget_28 ?_
      refine g_icmp_ge C 45 dX4_forget_29 (by decide) (fun c29 => ?_) (fun c29 => ?_)
      · have h := iteT c29 h
        exact g_sub [] rfl (Ke _ (Option.some.inj h).symm)
      · have h := iteF c29 h
        refine g_aload_n C dX4_forget_32 rfl 0 rfl ?_
        refine gX_get_X4_15 C ob_13 rfl dX4_forget_33 ?_
        refine g_iload_n C dX4_forget_36 rfl 1 rfl ?_
        refine g_iconst C dX4_forget_37 ic_0 ?_
        obtain ⟨hi38, h⟩ := grd h
        refine g_iast (n := 72) (q := x1.toNatClampNeg) C lnX_46 hi38 rfl dX4_forget_38 ?_
        refine g_iinc (lv' := [(1, .int (x1 + (1 : Int32))), (0, .ref (ad 13))]) C dX4_forget_39 1 rfl (ii_1 _) (Nat.le_of_ble_eq_true rfl) rfl ?_
        refine g_goto (tgt := 23) C dX4_forget_42 (by decide) ?_
        exact g_sub [1, 0] rfl (Kt _ (Option.some.inj h).symm)
    · show GcX_Orders_forget l D T ad Γ o xo xo g 45 [] []
      obtain rfl := Option.some.inj h
      exact g_vret C rfl rfl dX4_forget_45
  refine g_aload_n C dX4_forget_0 rfl 0 rfl ?_
  refine g_bipush C dX4_forget_1 bp_9 ?_
  refine gX_put_X4_48 C ob_13 rfl dX4_forget_3 ?_
  refine g_aload_n C dX4_forget_6 rfl 0 rfl ?_
  refine g_iconst C dX4_forget_7 ic_0 ?_
  refine gX_put_X4_51 C ob_13 rfl dX4_forget_8 ?_
  refine g_aload_n C dX4_forget_11 rfl 0 rfl ?_
  refine g_iconst C dX4_forget_12 ic_0 ?_
  refine gX_put_X4_54 C ob_13 rfl dX4_forget_13 ?_
  refine g_aload_n C dX4_forget_16 rfl 0 rfl ?_
  refine g_iconst C dX4_forget_17 ic_m1 ?_
  refine gX_put_X4_57 C ob_13 rfl dX4_forget_18 ?_
  refine g_iconst C dX4_forget_21 ic_0 ?_
  refine g_istore_n (lv' := [(1, .int (0 : Int32)), (0, .ref (ad 13))]) C dX4_forget_22 rfl (Nat.le_of_ble_eq_true rfl) rfl ?_
  exact g_sub [1, 0] rfl (J23 (0 : Int32) (st (st (st (st g 13 3 (9 : Int32)) 13 4 (0 : Int32)) 13 5 (0 : Int32)) 13 6 (-1 : Int32)) h)
def fX_State_isDead (th : Nat) (x1 : Int32) (g : St) : Option (Int32) :=
  if x1 < 0 then
    (some (0 : Int32))
  else
    (if (g 2 0) ≤ x1 then
    (some (0 : Int32))
  else
    ((fX_Rows_at (rX th 4) x1 g).bind fun r20 => (if r20 = (-1 : Int32) then
    (some (0 : Int32))
  else
    (some (1 : Int32)))))
def rmX_State_isDead : Room := { frames := 1, cells := 0, slots := 0, locals := 21 }
abbrev GcX_State_isDead (l : Launch) (D : va_G) (T : cT) (ad : Nat → Nat) (Γ : Cxt) (o : Int32) (xo : Sl) (g0 : St) (x : Sl) (g : St) (pc : Nat) (lv : List (Nat × Value)) (stk : List Value) : Prop := Gj l shX D T ad 2 (rmX_State_isDead) 0 0 Γ (MQ Γ.below (va_Qi (eqZ o g0 xo) (wPost shX D T ad Γ.A) Γ.A) Γ.args Γ.s 0 0 Γ.A) x g pc lv stk
set_option maxRecDepth 100000 in
set_option maxHeartbeats 4000000 in
theorem cX_State_isDead (l : Launch) (D : va_G) (T : cT) (ad : Nat → Nat) (sK sV : Nat → Nat) (xo : Sl) (g : St) (th : Nat) (x1 : Int32) (hth : isState th) (o : Int32) (h : fX_State_isDead th x1 g = some o) (sz : Nat) : Met l yX7_isDead wX_State_isDead (rmX_State_isDead) (va_Pc [.ref (ad th), .int x1] (xPre shX D T ad sK sV xo g sz)) (va_Qi (eqZ o g xo) (wPost shX D T ad (aW shX T ad xo g sz)) (aW shX T ad xo g sz)) 0 0 (aW shX T ad xo g sz) := by
  refine g_startx (Qc := fun A => va_Qi (eqZ o g xo) (wPost shX D T ad A) A) (by decide +kernel) rfl rfl (Nat.le_of_ble_eq_true rfl) (lv := [(0, .ref (ad th)), (1, .int x1)]) rfl (fun Γ Y => ?_)
  have C := Y.1
  show GcX_State_isDead l D T ad Γ o xo g xo g 0 [(0, .ref (ad th)), (1, .int x1)] []
  refine g_iload_n C dX7_isDead_0 rfl 1 rfl ?_
  refine g_if_lt C 31 dX7_isDead_1 (by decide) (fun c1 => ?_) (fun c1 => ?_)
  · have h := iteT c1 h
    refine g_iconst C dX7_isDead_31 ic_0 ?_
    obtain rfl := Option.some.inj h
    exact g_zret C rfl rfl rfl rfl dX7_isDead_32
  · have h := iteF c1 h
    refine g_iload_n C dX7_isDead_4 rfl 1 rfl ?_
    refine g_aload_n C dX7_isDead_5 rfl 0 rfl ?_
    refine gX_get_X7_21 C (ob_State hth) (rf_State_0 hth) dX7_isDead_6 ?_
    refine gX_get_X7_33 (v := g 2 0) C ob_2 rfl rfl dX7_isDead_9 ?_
    refine g_icmp_ge C 31 dX7_isDead_12 (by decide) (fun c12 => ?_) (fun c12 => ?_)
    · have h := iteT c12 h
      refine g_iconst C dX7_isDead_31 ic_0 ?_
      obtain rfl := Option.some.inj h
      exact g_zret C rfl rfl rfl rfl dX7_isDead_32
    · have h := iteF c12 h
      refine g_aload_n C dX7_isDead_15 rfl 0 rfl ?_
      refine gX_get_X7_18 C (ob_State hth) (rf_State_4 hth) dX7_isDead_16 ?_
      refine g_iload_n C dX7_isDead_19 rfl 1 rfl ?_
      obtain ⟨r20, hr20, h⟩ := bnd h
      refine g_xSi (As := [.ref (ad (rX th 4)), .int x1]) (rest := []) (ro := r20) (go := g) (xo := xo) Y (fun sz => cX_Rows_at l D T ad sK sV xo g (rX th 4) x1 _ hr20 sz) kX_RX7_41_Rows_at ⟨Nat.le_of_ble_eq_true rfl, Nat.le_of_ble_eq_true rfl⟩ ⟨rfl, rfl⟩ ⟨Nat.zero_le _, Nat.zero_le _⟩ rfl rfl (Nat.le_of_ble_eq_true rfl) dX7_isDead_20 ?_
      refine g_iconst C dX7_isDead_23 ic_m1 ?_
      refine g_icmp_eq C 31 dX7_isDead_24 (by decide) (fun c24 => ?_) (fun c24 => ?_)
      · have h := iteT c24 h
        refine g_iconst C dX7_isDead_31 ic_0 ?_
        obtain rfl := Option.some.inj h
        exact g_zret C rfl rfl rfl rfl dX7_isDead_32
      · have h := iteF c24 h
        refine g_iconst C dX7_isDead_27 ic_1 ?_
        refine g_goto (tgt := 32) C dX7_isDead_28 (by decide) ?_
        obtain rfl := Option.some.inj h
        exact g_zret C rfl rfl rfl rfl dX7_isDead_32
def fX_State_nameless_b41 (th : Nat) (x1 : Int32) (x2 : Int32) (g : St) : Option ((Int32 × Int32) ⊕ (Int32)) :=
  some (.inl (x1, (x2 + (1 : Int32))))
def fX_State_nameless_L4 (th : Nat) (g : St) : (Int32 × Int32) → Option ((Int32 × Int32) ⊕ (Int32)) := fun ⟨x1, x2⟩ =>
  if (g 2 0) ≤ x2 then
    (some (.inr x1))
  else
    ((fX_State_isDead th x2 g).bind fun r17 => (if r17 = 0 then
    (fX_State_nameless_b41 th x1 x2 g)
  else
    ((fX_Rows_at (rX th 3) x2 g).bind fun r28 => (if r28 = (-1 : Int32) then
    (fX_State_nameless_b41 th (x1 ||| ((1 : Int32) <<< (x2 &&& 31))) x2 g)
  else
    (fX_State_nameless_b41 th x1 x2 g)))))
def fX_State_nameless_b4 (th : Nat) (x1 : Int32) (x2 : Int32) (g : St) : Option (Int32) :=
  (lp (fX_State_nameless_L4 th g) fuel (x1, x2)).bind (fun x1 => some x1)
def fX_State_nameless (th : Nat) (g : St) : Option (Int32) :=
  fX_State_nameless_b4 th (0 : Int32) (0 : Int32) g
def rmX_State_nameless : Room := { frames := 2, cells := 0, slots := 0, locals := 42 }
abbrev GcX_State_nameless (l : Launch) (D : va_G) (T : cT) (ad : Nat → Nat) (Γ : Cxt) (o : Int32) (xo : Sl) (g0 : St) (x : Sl) (g : St) (pc : Nat) (lv : List (Nat × Value)) (stk : List Value) : Prop := Gj l shX D T ad 3 (rmX_State_nameless) 0 0 Γ (MQ Γ.below (va_Qi (eqI o g0 xo) (wPost shX D T ad Γ.A) Γ.A) Γ.args Γ.s 0 0 Γ.A) x g pc lv stk
set_option maxRecDepth 100000 in
set_option maxHeartbeats 4000000 in
theorem cX_State_nameless (l : Launch) (D : va_G) (T : cT) (ad : Nat → Nat) (sK sV : Nat → Nat) (xo : Sl) (g : St) (th : Nat) (hth : isState th) (o : Int32) (h : fX_State_nameless th g = some o) (sz : Nat) : Met l yX7_nameless wX_State_nameless (rmX_State_nameless) (va_Pc [.ref (ad th)] (xPre shX D T ad sK sV xo g sz)) (va_Qi (eqI o g xo) (wPost shX D T ad (aW shX T ad xo g sz)) (aW shX T ad xo g sz)) 0 0 (aW shX T ad xo g sz) := by
  refine g_startx (Qc := fun A => va_Qi (eqI o g xo) (wPost shX D T ad A) A) (by decide +kernel) rfl rfl (Nat.le_of_ble_eq_true rfl) (lv := [(0, .ref (ad th))]) rfl (fun Γ Y => ?_)
  have C := Y.1
  show GcX_State_nameless l D T ad Γ o xo g xo g 0 [(0, .ref (ad th))] []
  have J4 : ∀ (x1 : Int32) (x2 : Int32), fX_State_nameless_b4 th x1 x2 g = some o → GcX_State_nameless l D T ad Γ o xo g xo g 4 [(0, .ref (ad th)), (1, .int x1), (2, .int x2)] [] := by
    intro x1 x2 h
    obtain ⟨x1, ht, h⟩ := bnd h
    refine lp_run (P := fun t : Int32 × Int32 => match t with | (x1, x2) => GcX_State_nameless l D T ad Γ o xo g xo g 4 [(0, .ref (ad th)), (1, .int x1), (2, .int x2)] []) (E := fun x1 : Int32 => GcX_State_nameless l D T ad Γ o xo g xo g 47 [(1, .int x1)] []) ?_ _ _ _ ht ?_
    · rintro ⟨x1, x2⟩ z h Kt Ke
      show GcX_State_nameless l D T ad Γ o xo g xo g 4 [(0, .ref (ad th)), (1, .int x1), (2, .int x2)] []
      have J41 : ∀ (x1 : Int32) (x2 : Int32), fX_State_nameless_b41 th x1 x2 g = some z → GcX_State_nameless l D T ad Γ o xo g xo g 41 [(0, .ref (ad th)), (1, .int x1), (2, .int x2)] [] := by
        intro x1 x2 h
        refine g_iinc (lv' := [(2, .int (x2 + (1 : Int32))), (0, .ref (ad th)), (1, .int x1)]) C dX7_nameless_41 2 rfl (ii_1 _) (Nat.le_of_ble_eq_true rfl) rfl ?_
        refine g_goto (tgt := 4) C dX7_nameless_44 (by decide) ?_
        exact g_sub [1, 2, 0] rfl (Kt _ (Option.some.inj h).symm)
      refine g_iload_n C dX7_nameless_4 rfl 2 rfl ?_
      refine g_aload_n C dX7_nameless_5 rfl 0 rfl ?_
      refine gX_get_X7_21 C (ob_State hth) (rf_State_0 hth) dX7_nameless_6 ?_
      refine gX_get_X7_33 (v := g 2 0) C ob_2 rfl rfl dX7_nameless_9 ?_
      refine g_icmp_ge C 47 dX7_nameless_12 (by decide) (fun c12 => ?_) (fun c12 => ?_)
      · have h := iteT c12 h
        exact g_sub [1] rfl (Ke _ (Option.some.inj h).symm)
      · have h := iteF c12 h
        refine g_aload_n C dX7_nameless_15 rfl 0 rfl ?_
        refine g_iload_n C dX7_nameless_16 rfl 2 rfl ?_
        obtain ⟨r17, hr17, h⟩ := bnd h
        refine g_xVz (k := th) (As := [.int x2]) (rest := []) (ro := r17) (go := g) (xo := xo) Y (fun sz => cX_State_isDead l D T ad sK sV xo g th x2 hth _ hr17 sz) kX_RX7_59_State_isDead ⟨Nat.le_of_ble_eq_true rfl, Nat.le_of_ble_eq_true rfl⟩ ⟨rfl, rfl⟩ ⟨Nat.zero_le _, Nat.zero_le _⟩ (rfl : vwCl[6]? = some (RX7, TX7, 6)) (ob_State hth) rfl rfl (Nat.le_of_ble_eq_true rfl) dX7_nameless_17 (fun hz17 => ?_)
        refine g_if_eq C 41 dX7_nameless_20 (by decide) (fun c20 => ?_) (fun c20 => ?_)
        · have h := iteT c20 h
          exact J41 x1 x2 h
        · have h := iteF c20 h
          refine g_aload_n C dX7_nameless_23 rfl 0 rfl ?_
          refine gX_get_X7_15 C (ob_State hth) (rf_State_3 hth) dX7_nameless_24 ?_
          refine g_iload_n C dX7_nameless_27 rfl 2 rfl ?_
          obtain ⟨r28, hr28, h⟩ := bnd h
          refine g_xSi (As := [.ref (ad (rX th 3)), .int x2]) (rest := []) (ro := r28) (go := g) (xo := xo) Y (fun sz => cX_Rows_at l D T ad sK sV xo g (rX th 3) x2 _ hr28 sz) kX_RX7_41_Rows_at ⟨Nat.le_of_ble_eq_true rfl, Nat.le_of_ble_eq_true rfl⟩ ⟨rfl, rfl⟩ ⟨Nat.zero_le _, Nat.zero_le _⟩ rfl rfl (Nat.le_of_ble_eq_true rfl) dX7_nameless_28 ?_
          refine g_iconst C dX7_nameless_31 ic_m1 ?_
          refine g_icmp_ne C 41 dX7_nameless_32 (by decide) (fun c32 => ?_) (fun c32 => ?_)
          · have h := iteT c32 h
            refine g_iload_n C dX7_nameless_35 rfl 1 rfl ?_
            refine g_iconst C dX7_nameless_36 ic_1 ?_
            refine g_iload_n C dX7_nameless_37 rfl 2 rfl ?_
            refine g_ishl C dX7_nameless_38 ?_
            refine g_ior C dX7_nameless_39 ?_
            refine g_istore_n (lv' := [(1, .int (x1 ||| ((1 : Int32) <<< (x2 &&& 31)))), (0, .ref (ad th)), (2, .int x2)]) C dX7_nameless_40 rfl (Nat.le_of_ble_eq_true rfl) rfl ?_
            exact g_sub [1, 0, 2] rfl (J41 (x1 ||| ((1 : Int32) <<< (x2 &&& 31))) x2 h)
          · have h := iteF c32 h
            exact J41 x1 x2 h
    · show GcX_State_nameless l D T ad Γ o xo g xo g 47 [(1, .int x1)] []
      refine g_iload_n C dX7_nameless_47 rfl 0 rfl ?_
      obtain rfl := Option.some.inj h
      exact g_iret C rfl rfl rfl dX7_nameless_48
  refine g_iconst C dX7_nameless_0 ic_0 ?_
  refine g_istore_n (lv' := [(1, .int (0 : Int32)), (0, .ref (ad th))]) C dX7_nameless_1 rfl (Nat.le_of_ble_eq_true rfl) rfl ?_
  refine g_iconst C dX7_nameless_2 ic_0 ?_
  refine g_istore_n (lv' := [(2, .int (0 : Int32)), (1, .int (0 : Int32)), (0, .ref (ad th))]) C dX7_nameless_3 rfl (Nat.le_of_ble_eq_true rfl) rfl ?_
  exact g_sub [2, 1, 0] rfl (J4 (0 : Int32) (0 : Int32) h)
def fX_Orders_countStones_L2 (x1 : Nat) : (Int32 × St) → Option ((Int32 × St) ⊕ (St)) := fun ⟨x2, g⟩ =>
  if (8 : Int32) ≤ x2 then
    (some (.inr g))
  else
    ((fX_State_stonesOf x1 x2 g).bind fun r14 => ((fX_Rows_at 46 ((x2 * (9 : Int32)) + r14) g).bind fun r29 => ((fX_Rows_put 46 ((x2 * (9 : Int32)) + r14) (r29 + (1 : Int32)) g).bind fun g34 => (some (.inl ((x2 + (1 : Int32)), g34))))))
def fX_Orders_countStones_b2 (x1 : Nat) (x2 : Int32) (g : St) : Option (St) :=
  (lp (fX_Orders_countStones_L2 x1) fuel (x2, g)).bind (fun g => some g)
def fX_Orders_countStones (x1 : Nat) (g : St) : Option (St) :=
  fX_Orders_countStones_b2 x1 (0 : Int32) g
def rmX_Orders_countStones : Room := { frames := 1, cells := 0, slots := 0, locals := 23 }
abbrev GcX_Orders_countStones (l : Launch) (D : va_G) (T : cT) (ad : Nat → Nat) (Γ : Cxt) (o : St) (xo : Sl) (x : Sl) (g : St) (pc : Nat) (lv : List (Nat × Value)) (stk : List Value) : Prop := Gj l shX D T ad 4 (rmX_Orders_countStones) 0 0 Γ (MQ Γ.below (va_Qv (eqV o xo) (wPost shX D T ad Γ.A) Γ.A) Γ.args Γ.s 0 0 Γ.A) x g pc lv stk
set_option maxRecDepth 100000 in
set_option maxHeartbeats 4000000 in
theorem cX_Orders_countStones (l : Launch) (D : va_G) (T : cT) (ad : Nat → Nat) (sK sV : Nat → Nat) (xo : Sl) (g : St) (x1 : Nat) (hx1 : isState x1) (o : St) (h : fX_Orders_countStones x1 g = some o) (sz : Nat) : Met l yX4_countStones wX_Orders_countStones (rmX_Orders_countStones) (va_Pc [.ref (ad 13), .ref (ad x1)] (xPre shX D T ad sK sV xo g sz)) (va_Qv (eqV o xo) (wPost shX D T ad (aW shX T ad xo g sz)) (aW shX T ad xo g sz)) 0 0 (aW shX T ad xo g sz) := by
  refine g_startx (Qc := fun A => va_Qv (eqV o xo) (wPost shX D T ad A) A) (by decide +kernel) rfl rfl (Nat.le_of_ble_eq_true rfl) (lv := [(0, .ref (ad 13)), (1, .ref (ad x1))]) rfl (fun Γ Y => ?_)
  have C := Y.1
  show GcX_Orders_countStones l D T ad Γ o xo xo g 0 [(0, .ref (ad 13)), (1, .ref (ad x1))] []
  have J2 : ∀ (x2 : Int32) (g : St), fX_Orders_countStones_b2 x1 x2 g = some o → GcX_Orders_countStones l D T ad Γ o xo xo g 2 [(0, .ref (ad 13)), (1, .ref (ad x1)), (2, .int x2)] [] := by
    intro x2 g h
    obtain ⟨g, ht, h⟩ := bnd h
    refine lp_run (P := fun t : Int32 × St => match t with | (x2, g) => GcX_Orders_countStones l D T ad Γ o xo xo g 2 [(0, .ref (ad 13)), (1, .ref (ad x1)), (2, .int x2)] []) (E := fun g : St => GcX_Orders_countStones l D T ad Γ o xo xo g 43 [] []) ?_ _ _ _ ht ?_
    · rintro ⟨x2, g⟩ z h Kt Ke
      show GcX_Orders_countStones l D T ad Γ o xo xo g 2 [(0, .ref (ad 13)), (1, .ref (ad x1)), (2, .int x2)] []
      refine g_iload_n C dX4_countStones_2 rfl 2 rfl ?_
      refine g_bipush C dX4_countStones_3 bp_8 ?_
      refine g_icmp_ge C 43 dX4_countStones_5 (by decide) (fun c5 => ?_) (fun c5 => ?_)
      · have h := iteT c5 h
        exact g_sub [] rfl (Ke _ (Option.some.inj h).symm)
      · have h := iteF c5 h
        refine g_iload_n C dX4_countStones_8 rfl 2 rfl ?_
        refine g_bipush C dX4_countStones_9 bp_9 ?_
        refine g_imul C dX4_countStones_11 ?_
        refine g_aload_n C dX4_countStones_12 rfl 1 rfl ?_
        refine g_iload_n C dX4_countStones_13 rfl 2 rfl ?_
        obtain ⟨r14, hr14, h⟩ := bnd h
        refine g_xVi (k := x1) (As := [.int x2]) (rest := [.int (x2 * (9 : Int32))]) (ro := r14) (go := g) (xo := xo) Y (fun sz => cX_State_stonesOf l D T ad sK sV xo g x1 x2 hx1 _ hr14 sz) kX_RX4_70_State_stonesOf ⟨Nat.le_of_ble_eq_true rfl, Nat.le_of_ble_eq_true rfl⟩ ⟨rfl, rfl⟩ ⟨Nat.zero_le _, Nat.zero_le _⟩ (rfl : vwCl[6]? = some (RX7, TX7, 6)) (ob_State hx1) rfl rfl (Nat.le_of_ble_eq_true rfl) dX4_countStones_14 ?_
        refine g_iadd C dX4_countStones_17 ?_
        refine g_istore_n (lv' := [(3, .int ((x2 * (9 : Int32)) + r14)), (0, .ref (ad 13)), (1, .ref (ad x1)), (2, .int x2)]) C dX4_countStones_18 rfl (Nat.le_of_ble_eq_true rfl) rfl ?_
        refine g_aload_n C dX4_countStones_19 rfl 1 rfl ?_
        refine gX_get_X4_15 C ob_13 rfl dX4_countStones_20 ?_
        refine g_iload_n C dX4_countStones_23 rfl 0 rfl ?_
        refine g_aload_n C dX4_countStones_24 rfl 1 rfl ?_
        refine gX_get_X4_15 C ob_13 rfl dX4_countStones_25 ?_
        refine g_iload_n C dX4_countStones_28 rfl 0 rfl ?_
        obtain ⟨r29, hr29, h⟩ := bnd h
        refine g_xSi (As := [.ref (ad 46), .int ((x2 * (9 : Int32)) + r14)]) (rest := [.int ((x2 * (9 : Int32)) + r14), .ref (ad 46)]) (ro := r29) (go := g) (xo := xo) Y (fun sz => cX_Rows_at l D T ad sK sV xo g 46 ((x2 * (9 : Int32)) + r14) _ hr29 sz) kX_RX4_40_Rows_at ⟨Nat.le_of_ble_eq_true rfl, Nat.le_of_ble_eq_true rfl⟩ ⟨rfl, rfl⟩ ⟨Nat.zero_le _, Nat.zero_le _⟩ rfl rfl (Nat.le_of_ble_eq_true rfl) dX4_countStones_29 ?_
        refine g_iconst C dX4_countStones_32 ic_1 ?_
        refine g_iadd C dX4_countStones_33 ?_
        obtain ⟨g34, hr34, h⟩ := bnd h
        refine g_xSv (As := [.ref (ad 46), .int ((x2 * (9 : Int32)) + r14), .int (r29 + (1 : Int32))]) (rest := []) (go := g34) (xo := xo) Y (fun sz => cX_Rows_put l D T ad sK sV xo g 46 ((x2 * (9 : Int32)) + r14) (r29 + (1 : Int32)) _ hr34 sz) kX_RX4_34_Rows_put ⟨Nat.le_of_ble_eq_true rfl, Nat.le_of_ble_eq_true rfl⟩ ⟨rfl, rfl⟩ ⟨Nat.zero_le _, Nat.zero_le _⟩ rfl rfl (Nat.le_of_ble_eq_true rfl) dX4_countStones_34 ?_
        refine g_iinc (lv' := [(2, .int (x2 + (1 : Int32))), (3, .int ((x2 * (9 : Int32)) + r14)), (0, .ref (ad 13)), (1, .ref (ad x1))]) C dX4_countStones_37 3 rfl (ii_1 _) (Nat.le_of_ble_eq_true rfl) rfl ?_
        refine g_goto (tgt := 2) C dX4_countStones_40 (by decide) ?_
        exact g_sub [2, 3, 0] rfl (Kt _ (Option.some.inj h).symm)
    · show GcX_Orders_countStones l D T ad Γ o xo xo g 43 [] []
      obtain rfl := Option.some.inj h
      exact g_vret C rfl rfl dX4_countStones_43
  refine g_iconst C dX4_countStones_0 ic_0 ?_
  refine g_istore_n (lv' := [(2, .int (0 : Int32)), (0, .ref (ad 13)), (1, .ref (ad x1))]) C dX4_countStones_1 rfl (Nat.le_of_ble_eq_true rfl) rfl ?_
  exact g_sub [1, 2, 0] rfl (J2 (0 : Int32) g h)
def fX_Orders_note_b52 (x1 : Nat) (s1 : Int32) (g : St) : Option (St) :=
  (fX_Orders_countStones x1 (st (st g 13 6 s1) 13 5 ((g 13 5) + (1 : Int32)))).bind fun g67 => (some g67)
def fX_Orders_note_b29 (x1 : Nat) (x2 : Int32) (g : St) : Option (St) :=
  if x2 = 0 then
    (some g)
  else
    (if (g 13 5) = 0 then
    ((fX_Orders_digits g).bind fun r42 => (fX_Orders_note_b52 x1 r42 g))
  else
    (fX_Orders_note_b52 x1 (g 13 6) g))
def fX_Orders_note (x1 : Nat) (x2 : Int32) (g : St) : Option (St) :=
  (fX_State_nameless x1 g).bind fun r1 => (if (g 13 3) ≤ (fX_J_bitCount r1) then
    (fX_Orders_note_b29 x1 x2 g)
  else
    ((fX_Orders_digits (st g 13 3 (fX_J_bitCount r1))).bind fun r23 => (fX_Orders_note_b29 x1 x2 (st (st g 13 3 (fX_J_bitCount r1)) 13 4 r23))))
def rmX_Orders_note : Room := { frames := 3, cells := 0, slots := 0, locals := 64 }
abbrev GcX_Orders_note (l : Launch) (D : va_G) (T : cT) (ad : Nat → Nat) (Γ : Cxt) (o : St) (xo : Sl) (x : Sl) (g : St) (pc : Nat) (lv : List (Nat × Value)) (stk : List Value) : Prop := Gj l shX D T ad 4 (rmX_Orders_note) 0 0 Γ (MQ Γ.below (va_Qv (eqV o xo) (wPost shX D T ad Γ.A) Γ.A) Γ.args Γ.s 0 0 Γ.A) x g pc lv stk
set_option maxRecDepth 100000 in
set_option maxHeartbeats 4000000 in
theorem cX_Orders_note (l : Launch) (D : va_G) (T : cT) (ad : Nat → Nat) (sK sV : Nat → Nat) (xo : Sl) (g : St) (x1 : Nat) (x2 : Int32) (hx1 : isState x1) (o : St) (h : fX_Orders_note x1 x2 g = some o) (sz : Nat) : Met l yX4_note wX_Orders_note (rmX_Orders_note) (va_Pc [.ref (ad 13), .ref (ad x1), .int x2] (xPre shX D T ad sK sV xo g sz)) (va_Qv (eqV o xo) (wPost shX D T ad (aW shX T ad xo g sz)) (aW shX T ad xo g sz)) 0 0 (aW shX T ad xo g sz) := by
  refine g_startx (Qc := fun A => va_Qv (eqV o xo) (wPost shX D T ad A) A) (by decide +kernel) rfl rfl (Nat.le_of_ble_eq_true rfl) (lv := [(0, .ref (ad 13)), (1, .ref (ad x1)), (2, .int x2)]) rfl (fun Γ Y => ?_)
  have C := Y.1
  show GcX_Orders_note l D T ad Γ o xo xo g 0 [(0, .ref (ad 13)), (1, .ref (ad x1)), (2, .int x2)] []
  have J52 : ∀ (s1 : Int32) (g : St), fX_Orders_note_b52 x1 s1 g = some o → GcX_Orders_note l D T ad Γ o xo xo g 52 [(0, .ref (ad 13)), (1, .ref (ad x1))] [.int s1, .ref (ad 13)] := by
    intro s1 g h
    refine gX_put_X4_57 C ob_13 rfl dX4_note_52 ?_
    refine g_aload_n C dX4_note_55 rfl 0 rfl ?_
    refine g_dup C dX4_note_56 rfl ?_
    refine gX_get_X4_54 (v := g 13 5) C ob_13 rfl rfl dX4_note_57 ?_
    refine g_iconst C dX4_note_60 ic_1 ?_
    refine g_iadd C dX4_note_61 ?_
    refine gX_put_X4_54 C ob_13 rfl dX4_note_62 ?_
    refine g_aload_n C dX4_note_65 rfl 0 rfl ?_
    refine g_aload_n C dX4_note_66 rfl 1 rfl ?_
    obtain ⟨g67, hr67, h⟩ := bnd h
    refine g_xVv (k := 13) (As := [.ref (ad x1)]) (rest := []) (go := g67) (xo := xo) Y (fun sz => cX_Orders_countStones l D T ad sK sV xo (st (st g 13 6 s1) 13 5 ((g 13 5) + (1 : Int32))) x1 hx1 _ hr67 sz) kX_RX4_66_Orders_countStones ⟨Nat.le_of_ble_eq_true rfl, Nat.le_of_ble_eq_true rfl⟩ ⟨rfl, rfl⟩ ⟨Nat.zero_le _, Nat.zero_le _⟩ (rfl : vwCl[4]? = some (RX4, TX4, 7)) ob_13 rfl rfl (Nat.le_of_ble_eq_true rfl) dX4_note_67 ?_
    obtain rfl := Option.some.inj h
    exact g_vret C rfl rfl dX4_note_70
  have J29 : ∀ (x2 : Int32) (g : St), fX_Orders_note_b29 x1 x2 g = some o → GcX_Orders_note l D T ad Γ o xo xo g 29 [(0, .ref (ad 13)), (1, .ref (ad x1)), (2, .int x2)] [] := by
    intro x2 g h
    refine g_iload_n C dX4_note_29 rfl 2 rfl ?_
    refine g_if_eq C 70 dX4_note_30 (by decide) (fun c30 => ?_) (fun c30 => ?_)
    · have h := iteT c30 h
      obtain rfl := Option.some.inj h
      exact g_vret C rfl rfl dX4_note_70
    · have h := iteF c30 h
      refine g_aload_n C dX4_note_33 rfl 0 rfl ?_
      refine g_aload_n C dX4_note_34 rfl 0 rfl ?_
      refine gX_get_X4_54 (v := g 13 5) C ob_13 rfl rfl dX4_note_35 ?_
      refine g_if_ne C 48 dX4_note_38 (by decide) (fun c38 => ?_) (fun c38 => ?_)
      · have h := iteT c38 h
        refine g_aload_n C dX4_note_41 rfl 0 rfl ?_
        obtain ⟨r42, hr42, h⟩ := bnd h
        refine g_xVi (k := 13) (As := []) (rest := [.ref (ad 13)]) (ro := r42) (go := g) (xo := xo) Y (fun sz => cX_Orders_digits l D T ad sK sV xo g _ hr42 sz) kX_RX4_63_Orders_digits ⟨Nat.le_of_ble_eq_true rfl, Nat.le_of_ble_eq_true rfl⟩ ⟨rfl, rfl⟩ ⟨Nat.zero_le _, Nat.zero_le _⟩ (rfl : vwCl[4]? = some (RX4, TX4, 7)) ob_13 rfl rfl (Nat.le_of_ble_eq_true rfl) dX4_note_42 ?_
        refine g_goto (tgt := 52) C dX4_note_45 (by decide) ?_
        exact g_sub [0, 1] rfl (J52 r42 g h)
      · have h := iteF c38 h
        refine g_aload_n C dX4_note_48 rfl 0 rfl ?_
        refine gX_get_X4_57 (v := g 13 6) C ob_13 rfl rfl dX4_note_49 ?_
        exact g_sub [0, 1] rfl (J52 (g 13 6) g h)
  refine g_aload_n C dX4_note_0 rfl 1 rfl ?_
  obtain ⟨r1, hr1, h⟩ := bnd h
  refine g_xVi (k := x1) (As := []) (rest := []) (ro := r1) (go := g) (xo := xo) Y (fun sz => cX_State_nameless l D T ad sK sV xo g x1 hx1 _ hr1 sz) kX_RX4_60_State_nameless ⟨Nat.le_of_ble_eq_true rfl, Nat.le_of_ble_eq_true rfl⟩ ⟨rfl, rfl⟩ ⟨Nat.zero_le _, Nat.zero_le _⟩ (rfl : vwCl[6]? = some (RX7, TX7, 6)) (ob_State hx1) rfl rfl (Nat.le_of_ble_eq_true rfl) dX4_note_1 ?_
  refine g_xSi (As := [.int r1]) (rest := []) (ro := (fX_J_bitCount r1)) (go := g) (xo := xo) Y (fun sz => cX_J_bitCount l D T ad sK sV xo g r1 _ rfl sz) kX_RX4_28_J_bitCount ⟨Nat.le_of_ble_eq_true rfl, Nat.le_of_ble_eq_true rfl⟩ ⟨rfl, rfl⟩ ⟨Nat.zero_le _, Nat.zero_le _⟩ rfl rfl (Nat.le_of_ble_eq_true rfl) dX4_note_4 ?_
  refine g_istore_n (lv' := [(3, .int (fX_J_bitCount r1)), (0, .ref (ad 13)), (1, .ref (ad x1)), (2, .int x2)]) C dX4_note_7 rfl (Nat.le_of_ble_eq_true rfl) rfl ?_
  refine g_iload_n C dX4_note_8 rfl 0 rfl ?_
  refine g_aload_n C dX4_note_9 rfl 1 rfl ?_
  refine gX_get_X4_48 (v := g 13 3) C ob_13 rfl rfl dX4_note_10 ?_
  refine g_icmp_ge C 29 dX4_note_13 (by decide) (fun c13 => ?_) (fun c13 => ?_)
  · have h := iteT c13 h
    exact g_sub [1, 2, 3] rfl (J29 x2 g h)
  · have h := iteF c13 h
    refine g_aload_n C dX4_note_16 rfl 1 rfl ?_
    refine g_iload_n C dX4_note_17 rfl 0 rfl ?_
    refine gX_put_X4_48 C ob_13 rfl dX4_note_18 ?_
    refine g_aload_n C dX4_note_21 rfl 1 rfl ?_
    refine g_aload_n C dX4_note_22 rfl 1 rfl ?_
    obtain ⟨r23, hr23, h⟩ := bnd h
    refine g_xVi (k := 13) (As := []) (rest := [.ref (ad 13)]) (ro := r23) (go := (st g 13 3 (fX_J_bitCount r1))) (xo := xo) Y (fun sz => cX_Orders_digits l D T ad sK sV xo (st g 13 3 (fX_J_bitCount r1)) _ hr23 sz) kX_RX4_63_Orders_digits ⟨Nat.le_of_ble_eq_true rfl, Nat.le_of_ble_eq_true rfl⟩ ⟨rfl, rfl⟩ ⟨Nat.zero_le _, Nat.zero_le _⟩ (rfl : vwCl[4]? = some (RX4, TX4, 7)) ob_13 rfl rfl (Nat.le_of_ble_eq_true rfl) dX4_note_23 ?_
    refine gX_put_X4_51 C ob_13 rfl dX4_note_26 ?_
    exact g_sub [1, 2, 3] rfl (J29 x2 (st (st g 13 3 (fX_J_bitCount r1)) 13 4 r23) h)
def fX_Orders_mostAlike_L4 (x1 : Int32) (g : St) : (Int32 × Int32) → Option ((Int32 × Int32) ⊕ (Int32)) := fun ⟨x2, x3⟩ =>
  if (9 : Int32) ≤ x3 then
    (some (.inr x2))
  else
    ((fX_Rows_at 46 ((x1 * (9 : Int32)) + x3) g).bind fun r21 => (some (.inl ((if x2 < r21 then r21 else x2), (x3 + (1 : Int32))))))
def fX_Orders_mostAlike_b4 (x1 : Int32) (x2 : Int32) (x3 : Int32) (g : St) : Option (Int32) :=
  (lp (fX_Orders_mostAlike_L4 x1 g) fuel (x2, x3)).bind (fun x2 => some x2)
def fX_Orders_mostAlike (x1 : Int32) (g : St) : Option (Int32) :=
  fX_Orders_mostAlike_b4 x1 (0 : Int32) (0 : Int32) g
def rmX_Orders_mostAlike : Room := { frames := 1, cells := 0, slots := 0, locals := 40 }
abbrev GcX_Orders_mostAlike (l : Launch) (D : va_G) (T : cT) (ad : Nat → Nat) (Γ : Cxt) (o : Int32) (xo : Sl) (g0 : St) (x : Sl) (g : St) (pc : Nat) (lv : List (Nat × Value)) (stk : List Value) : Prop := Gj l shX D T ad 4 (rmX_Orders_mostAlike) 0 0 Γ (MQ Γ.below (va_Qi (eqI o g0 xo) (wPost shX D T ad Γ.A) Γ.A) Γ.args Γ.s 0 0 Γ.A) x g pc lv stk
set_option maxRecDepth 100000 in
set_option maxHeartbeats 4000000 in
theorem cX_Orders_mostAlike (l : Launch) (D : va_G) (T : cT) (ad : Nat → Nat) (sK sV : Nat → Nat) (xo : Sl) (g : St) (x1 : Int32) (o : Int32) (h : fX_Orders_mostAlike x1 g = some o) (sz : Nat) : Met l yX4_mostAlike wX_Orders_mostAlike (rmX_Orders_mostAlike) (va_Pc [.ref (ad 13), .int x1] (xPre shX D T ad sK sV xo g sz)) (va_Qi (eqI o g xo) (wPost shX D T ad (aW shX T ad xo g sz)) (aW shX T ad xo g sz)) 0 0 (aW shX T ad xo g sz) := by
  refine g_startx (Qc := fun A => va_Qi (eqI o g xo) (wPost shX D T ad A) A) (by decide +kernel) rfl rfl (Nat.le_of_ble_eq_true rfl) (lv := [(0, .ref (ad 13)), (1, .int x1)]) rfl (fun Γ Y => ?_)
  have C := Y.1
  show GcX_Orders_mostAlike l D T ad Γ o xo g xo g 0 [(0, .ref (ad 13)), (1, .int x1)] []
  have J4 : ∀ (x1 : Int32) (x2 : Int32) (x3 : Int32), fX_Orders_mostAlike_b4 x1 x2 x3 g = some o → GcX_Orders_mostAlike l D T ad Γ o xo g xo g 4 [(0, .ref (ad 13)), (1, .int x1), (2, .int x2), (3, .int x3)] [] := by
    intro x1 x2 x3 h
    obtain ⟨x2, ht, h⟩ := bnd h
    refine lp_run (P := fun t : Int32 × Int32 => match t with | (x2, x3) => GcX_Orders_mostAlike l D T ad Γ o xo g xo g 4 [(0, .ref (ad 13)), (1, .int x1), (2, .int x2), (3, .int x3)] []) (E := fun x2 : Int32 => GcX_Orders_mostAlike l D T ad Γ o xo g xo g 34 [(2, .int x2)] []) ?_ _ _ _ ht ?_
    · rintro ⟨x2, x3⟩ z h Kt Ke
      show GcX_Orders_mostAlike l D T ad Γ o xo g xo g 4 [(0, .ref (ad 13)), (1, .int x1), (2, .int x2), (3, .int x3)] []
      refine g_iload_n C dX4_mostAlike_4 rfl 3 rfl ?_
      refine g_bipush C dX4_mostAlike_5 bp_9 ?_
      refine g_icmp_ge C 34 dX4_mostAlike_7 (by decide) (fun c7 => ?_) (fun c7 => ?_)
      · have h := iteT c7 h
        exact g_sub [2] rfl (Ke _ (Option.some.inj h).symm)
      · have h := iteF c7 h
        refine g_iload_n C dX4_mostAlike_10 rfl 2 rfl ?_
        refine g_aload_n C dX4_mostAlike_11 rfl 0 rfl ?_
        refine gX_get_X4_15 C ob_13 rfl dX4_mostAlike_12 ?_
        refine g_iload_n C dX4_mostAlike_15 rfl 1 rfl ?_
        refine g_bipush C dX4_mostAlike_16 bp_9 ?_
        refine g_imul C dX4_mostAlike_18 ?_
        refine g_iload_n C dX4_mostAlike_19 rfl 3 rfl ?_
        refine g_iadd C dX4_mostAlike_20 ?_
        obtain ⟨r21, hr21, h⟩ := bnd h
        refine g_xSi (As := [.ref (ad 46), .int ((x1 * (9 : Int32)) + x3)]) (rest := [.int x2]) (ro := r21) (go := g) (xo := xo) Y (fun sz => cX_Rows_at l D T ad sK sV xo g 46 ((x1 * (9 : Int32)) + x3) _ hr21 sz) kX_RX4_40_Rows_at ⟨Nat.le_of_ble_eq_true rfl, Nat.le_of_ble_eq_true rfl⟩ ⟨rfl, rfl⟩ ⟨Nat.zero_le _, Nat.zero_le _⟩ rfl rfl (Nat.le_of_ble_eq_true rfl) dX4_mostAlike_21 ?_
        refine g_mmax (rest := []) C (List.mem_cons_of_mem _ bx_304) (List.mem_cons_of_mem _ bx_305) (List.mem_cons_of_mem _ bx_57) (List.mem_cons_of_mem _ bx_306) (Nat.le_of_ble_eq_true rfl) (Nat.le_of_ble_eq_true rfl) ⟨Nat.zero_le _, Nat.zero_le _⟩ dX4_mostAlike_24 ?_
        refine g_istore_n (lv' := [(2, .int (if x2 < r21 then r21 else x2)), (0, .ref (ad 13)), (1, .int x1), (3, .int x3)]) C dX4_mostAlike_27 rfl (Nat.le_of_ble_eq_true rfl) rfl ?_
        refine g_iinc (lv' := [(3, .int (x3 + (1 : Int32))), (2, .int (if x2 < r21 then r21 else x2)), (0, .ref (ad 13)), (1, .int x1)]) C dX4_mostAlike_28 3 rfl (ii_1 _) (Nat.le_of_ble_eq_true rfl) rfl ?_
        refine g_goto (tgt := 4) C dX4_mostAlike_31 (by decide) ?_
        exact g_sub [2, 3, 1, 0] rfl (Kt _ (Option.some.inj h).symm)
    · show GcX_Orders_mostAlike l D T ad Γ o xo g xo g 34 [(2, .int x2)] []
      refine g_iload_n C dX4_mostAlike_34 rfl 0 rfl ?_
      obtain rfl := Option.some.inj h
      exact g_iret C rfl rfl rfl dX4_mostAlike_35
  refine g_iconst C dX4_mostAlike_0 ic_0 ?_
  refine g_istore_n (lv' := [(2, .int (0 : Int32)), (0, .ref (ad 13)), (1, .int x1)]) C dX4_mostAlike_1 rfl (Nat.le_of_ble_eq_true rfl) rfl ?_
  refine g_iconst C dX4_mostAlike_2 ic_0 ?_
  refine g_istore_n (lv' := [(3, .int (0 : Int32)), (2, .int (0 : Int32)), (0, .ref (ad 13)), (1, .int x1)]) C dX4_mostAlike_3 rfl (Nat.le_of_ble_eq_true rfl) rfl ?_
  exact g_sub [2, 3, 1, 0] rfl (J4 x1 (0 : Int32) (0 : Int32) h)
def fX_Past_clear (g : St) : St :=
  (st (st g 12 2 (0 : Int32)) 12 3 (0 : Int32))
def rmX_Past_clear : Room := { frames := 0, cells := 0, slots := 0, locals := 0 }
abbrev GcX_Past_clear (l : Launch) (D : va_G) (T : cT) (ad : Nat → Nat) (Γ : Cxt) (o : St) (xo : Sl) (x : Sl) (g : St) (pc : Nat) (lv : List (Nat × Value)) (stk : List Value) : Prop := Gj l shX D T ad 1 (rmX_Past_clear) 0 0 Γ (MQ Γ.below (va_Qv (eqV o xo) (wPost shX D T ad Γ.A) Γ.A) Γ.args Γ.s 0 0 Γ.A) x g pc lv stk
set_option maxRecDepth 100000 in
set_option maxHeartbeats 4000000 in
theorem cX_Past_clear (l : Launch) (D : va_G) (T : cT) (ad : Nat → Nat) (sK sV : Nat → Nat) (xo : Sl) (g : St) (o : St) (h : fX_Past_clear g = o) (sz : Nat) : Met l yX5_clear wX_Past_clear (rmX_Past_clear) (va_Pc [.ref (ad 12)] (xPre shX D T ad sK sV xo g sz)) (va_Qv (eqV o xo) (wPost shX D T ad (aW shX T ad xo g sz)) (aW shX T ad xo g sz)) 0 0 (aW shX T ad xo g sz) := by
  refine g_startx (Qc := fun A => va_Qv (eqV o xo) (wPost shX D T ad A) A) (by decide +kernel) rfl rfl (Nat.le_of_ble_eq_true rfl) (lv := [(0, .ref (ad 12))]) rfl (fun Γ Y => ?_)
  have C := Y.1
  show GcX_Past_clear l D T ad Γ o xo xo g 0 [(0, .ref (ad 12))] []
  refine g_aload_n C dX5_clear_0 rfl 0 rfl ?_
  refine g_iconst C dX5_clear_1 ic_0 ?_
  refine gX_put_X5_20 C ob_12 rfl dX5_clear_2 ?_
  refine g_aload_n C dX5_clear_5 rfl 0 rfl ?_
  refine g_iconst C dX5_clear_6 ic_0 ?_
  refine gX_put_X5_24 C ob_12 rfl dX5_clear_7 ?_
  subst h
  exact g_vret C rfl rfl dX5_clear_10
def fX_Past_isFull (g : St) : Int32 :=
  if (g 12 2) < (16 : Int32) then
    ((0 : Int32))
  else
    ((1 : Int32))
def rmX_Past_isFull : Room := { frames := 0, cells := 0, slots := 0, locals := 0 }
abbrev GcX_Past_isFull (l : Launch) (D : va_G) (T : cT) (ad : Nat → Nat) (Γ : Cxt) (o : Int32) (xo : Sl) (g0 : St) (x : Sl) (g : St) (pc : Nat) (lv : List (Nat × Value)) (stk : List Value) : Prop := Gj l shX D T ad 1 (rmX_Past_isFull) 0 0 Γ (MQ Γ.below (va_Qi (eqZ o g0 xo) (wPost shX D T ad Γ.A) Γ.A) Γ.args Γ.s 0 0 Γ.A) x g pc lv stk
set_option maxRecDepth 100000 in
set_option maxHeartbeats 4000000 in
theorem cX_Past_isFull (l : Launch) (D : va_G) (T : cT) (ad : Nat → Nat) (sK sV : Nat → Nat) (xo : Sl) (g : St) (o : Int32) (h : fX_Past_isFull g = o) (sz : Nat) : Met l yX5_isFull wX_Past_isFull (rmX_Past_isFull) (va_Pc [.ref (ad 12)] (xPre shX D T ad sK sV xo g sz)) (va_Qi (eqZ o g xo) (wPost shX D T ad (aW shX T ad xo g sz)) (aW shX T ad xo g sz)) 0 0 (aW shX T ad xo g sz) := by
  refine g_startx (Qc := fun A => va_Qi (eqZ o g xo) (wPost shX D T ad A) A) (by decide +kernel) rfl rfl (Nat.le_of_ble_eq_true rfl) (lv := [(0, .ref (ad 12))]) rfl (fun Γ Y => ?_)
  have C := Y.1
  show GcX_Past_isFull l D T ad Γ o xo g xo g 0 [(0, .ref (ad 12))] []
  refine g_aload_n C dX5_isFull_0 rfl 0 rfl ?_
  refine gX_get_X5_20 (v := g 12 2) C ob_12 rfl rfl dX5_isFull_1 ?_
  refine g_bipush C dX5_isFull_4 bp_16 ?_
  refine g_icmp_lt C 13 dX5_isFull_6 (by decide) (fun c6 => ?_) (fun c6 => ?_)
  · have h := iteT c6 h
    refine g_iconst C dX5_isFull_13 ic_0 ?_
    subst h
    exact g_zret C rfl rfl rfl rfl dX5_isFull_14
  · have h := iteF c6 h
    refine g_iconst C dX5_isFull_9 ic_1 ?_
    refine g_goto (tgt := 14) C dX5_isFull_10 (by decide) ?_
    subst h
    exact g_zret C rfl rfl rfl rfl dX5_isFull_14
def fX_State_writeTo (th : Nat) (x1 : Nat) (x2 : Int32) (g : St) : Option (St) :=
  (fX_Rows_copy (rX th 2) (0 : Int32) x1 x2 (8 : Int32) g).bind fun g9 => ((fX_Rows_copy (rX th 3) (0 : Int32) x1 (x2 + (8 : Int32)) (8 : Int32) g9).bind fun g24 => ((fX_Rows_copy (rX th 4) (0 : Int32) x1 (x2 + (16 : Int32)) (8 : Int32) g24).bind fun g39 => ((fX_Rows_put x1 (x2 + (24 : Int32)) (g39 th 5) g39).bind fun g51 => (some g51))))
def rmX_State_writeTo : Room := { frames := 2, cells := 0, slots := 0, locals := 47 }
abbrev GcX_State_writeTo (l : Launch) (D : va_G) (T : cT) (ad : Nat → Nat) (Γ : Cxt) (o : St) (xo : Sl) (x : Sl) (g : St) (pc : Nat) (lv : List (Nat × Value)) (stk : List Value) : Prop := Gj l shX D T ad 3 (rmX_State_writeTo) 0 0 Γ (MQ Γ.below (va_Qv (eqV o xo) (wPost shX D T ad Γ.A) Γ.A) Γ.args Γ.s 0 0 Γ.A) x g pc lv stk
set_option maxRecDepth 100000 in
set_option maxHeartbeats 4000000 in
theorem cX_State_writeTo (l : Launch) (D : va_G) (T : cT) (ad : Nat → Nat) (sK sV : Nat → Nat) (xo : Sl) (g : St) (th : Nat) (x1 : Nat) (x2 : Int32) (hth : isState th) (o : St) (h : fX_State_writeTo th x1 x2 g = some o) (sz : Nat) : Met l yX7_writeTo wX_State_writeTo (rmX_State_writeTo) (va_Pc [.ref (ad th), .ref (ad x1), .int x2] (xPre shX D T ad sK sV xo g sz)) (va_Qv (eqV o xo) (wPost shX D T ad (aW shX T ad xo g sz)) (aW shX T ad xo g sz)) 0 0 (aW shX T ad xo g sz) := by
  refine g_startx (Qc := fun A => va_Qv (eqV o xo) (wPost shX D T ad A) A) (by decide +kernel) rfl rfl (Nat.le_of_ble_eq_true rfl) (lv := [(0, .ref (ad th)), (1, .ref (ad x1)), (2, .int x2)]) rfl (fun Γ Y => ?_)
  have C := Y.1
  show GcX_State_writeTo l D T ad Γ o xo xo g 0 [(0, .ref (ad th)), (1, .ref (ad x1)), (2, .int x2)] []
  refine g_aload_n C dX7_writeTo_0 rfl 0 rfl ?_
  refine gX_get_X7_9 C (ob_State hth) (rf_State_2 hth) dX7_writeTo_1 ?_
  refine g_iconst C dX7_writeTo_4 ic_0 ?_
  refine g_aload_n C dX7_writeTo_5 rfl 1 rfl ?_
  refine g_iload_n C dX7_writeTo_6 rfl 2 rfl ?_
  refine g_bipush C dX7_writeTo_7 bp_8 ?_
  obtain ⟨g9, hr9, h⟩ := bnd h
  refine g_xSv (As := [.ref (ad (rX th 2)), .int (0 : Int32), .ref (ad x1), .int x2, .int (8 : Int32)]) (rest := []) (go := g9) (xo := xo) Y (fun sz => cX_Rows_copy l D T ad sK sV xo g (rX th 2) (0 : Int32) x1 x2 (8 : Int32) _ hr9 sz) kX_RX7_51_Rows_copy ⟨Nat.le_of_ble_eq_true rfl, Nat.le_of_ble_eq_true rfl⟩ ⟨rfl, rfl⟩ ⟨Nat.zero_le _, Nat.zero_le _⟩ rfl rfl (Nat.le_of_ble_eq_true rfl) dX7_writeTo_9 ?_
  refine g_aload_n C dX7_writeTo_12 rfl 0 rfl ?_
  refine gX_get_X7_15 C (ob_State hth) (rf_State_3 hth) dX7_writeTo_13 ?_
  refine g_iconst C dX7_writeTo_16 ic_0 ?_
  refine g_aload_n C dX7_writeTo_17 rfl 1 rfl ?_
  refine g_iload_n C dX7_writeTo_18 rfl 2 rfl ?_
  refine g_bipush C dX7_writeTo_19 bp_8 ?_
  refine g_iadd C dX7_writeTo_21 ?_
  refine g_bipush C dX7_writeTo_22 bp_8 ?_
  obtain ⟨g24, hr24, h⟩ := bnd h
  refine g_xSv (As := [.ref (ad (rX th 3)), .int (0 : Int32), .ref (ad x1), .int (x2 + (8 : Int32)), .int (8 : Int32)]) (rest := []) (go := g24) (xo := xo) Y (fun sz => cX_Rows_copy l D T ad sK sV xo g9 (rX th 3) (0 : Int32) x1 (x2 + (8 : Int32)) (8 : Int32) _ hr24 sz) kX_RX7_51_Rows_copy ⟨Nat.le_of_ble_eq_true rfl, Nat.le_of_ble_eq_true rfl⟩ ⟨rfl, rfl⟩ ⟨Nat.zero_le _, Nat.zero_le _⟩ rfl rfl (Nat.le_of_ble_eq_true rfl) dX7_writeTo_24 ?_
  refine g_aload_n C dX7_writeTo_27 rfl 0 rfl ?_
  refine gX_get_X7_18 C (ob_State hth) (rf_State_4 hth) dX7_writeTo_28 ?_
  refine g_iconst C dX7_writeTo_31 ic_0 ?_
  refine g_aload_n C dX7_writeTo_32 rfl 1 rfl ?_
  refine g_iload_n C dX7_writeTo_33 rfl 2 rfl ?_
  refine g_bipush C dX7_writeTo_34 bp_16 ?_
  refine g_iadd C dX7_writeTo_36 ?_
  refine g_bipush C dX7_writeTo_37 bp_8 ?_
  obtain ⟨g39, hr39, h⟩ := bnd h
  refine g_xSv (As := [.ref (ad (rX th 4)), .int (0 : Int32), .ref (ad x1), .int (x2 + (16 : Int32)), .int (8 : Int32)]) (rest := []) (go := g39) (xo := xo) Y (fun sz => cX_Rows_copy l D T ad sK sV xo g24 (rX th 4) (0 : Int32) x1 (x2 + (16 : Int32)) (8 : Int32) _ hr39 sz) kX_RX7_51_Rows_copy ⟨Nat.le_of_ble_eq_true rfl, Nat.le_of_ble_eq_true rfl⟩ ⟨rfl, rfl⟩ ⟨Nat.zero_le _, Nat.zero_le _⟩ rfl rfl (Nat.le_of_ble_eq_true rfl) dX7_writeTo_39 ?_
  refine g_aload_n C dX7_writeTo_42 rfl 1 rfl ?_
  refine g_iload_n C dX7_writeTo_43 rfl 2 rfl ?_
  refine g_bipush C dX7_writeTo_44 bp_24 ?_
  refine g_iadd C dX7_writeTo_46 ?_
  refine g_aload_n C dX7_writeTo_47 rfl 0 rfl ?_
  refine gX_get_X7_29 (v := g39 th 5) C (ob_State hth) (rf_State_5 hth) rfl dX7_writeTo_48 ?_
  obtain ⟨g51, hr51, h⟩ := bnd h
  refine g_xSv (As := [.ref (ad x1), .int (x2 + (24 : Int32)), .int (g39 th 5)]) (rest := []) (go := g51) (xo := xo) Y (fun sz => cX_Rows_put l D T ad sK sV xo g39 x1 (x2 + (24 : Int32)) (g39 th 5) _ hr51 sz) kX_RX7_47_Rows_put ⟨Nat.le_of_ble_eq_true rfl, Nat.le_of_ble_eq_true rfl⟩ ⟨rfl, rfl⟩ ⟨Nat.zero_le _, Nat.zero_le _⟩ rfl rfl (Nat.le_of_ble_eq_true rfl) dX7_writeTo_51 ?_
  obtain rfl := Option.some.inj h
  exact g_vret C rfl rfl dX7_writeTo_54
def fX_Past_keepWork (x1 : Nat) (g : St) : Option (St) :=
  if (16 : Int32) ≤ (g 12 2) then
    (some g)
  else
    ((fX_State_writeTo x1 43 ((g 12 2) * (25 : Int32)) g).bind fun g21 => (some (st g21 12 2 ((g21 12 2) + (1 : Int32)))))
def rmX_Past_keepWork : Room := { frames := 3, cells := 0, slots := 0, locals := 69 }
abbrev GcX_Past_keepWork (l : Launch) (D : va_G) (T : cT) (ad : Nat → Nat) (Γ : Cxt) (o : St) (xo : Sl) (x : Sl) (g : St) (pc : Nat) (lv : List (Nat × Value)) (stk : List Value) : Prop := Gj l shX D T ad 2 (rmX_Past_keepWork) 0 0 Γ (MQ Γ.below (va_Qv (eqV o xo) (wPost shX D T ad Γ.A) Γ.A) Γ.args Γ.s 0 0 Γ.A) x g pc lv stk
set_option maxRecDepth 100000 in
set_option maxHeartbeats 4000000 in
theorem cX_Past_keepWork (l : Launch) (D : va_G) (T : cT) (ad : Nat → Nat) (sK sV : Nat → Nat) (xo : Sl) (g : St) (x1 : Nat) (hx1 : isState x1) (o : St) (h : fX_Past_keepWork x1 g = some o) (sz : Nat) : Met l yX5_keepWork wX_Past_keepWork (rmX_Past_keepWork) (va_Pc [.ref (ad 12), .ref (ad x1)] (xPre shX D T ad sK sV xo g sz)) (va_Qv (eqV o xo) (wPost shX D T ad (aW shX T ad xo g sz)) (aW shX T ad xo g sz)) 0 0 (aW shX T ad xo g sz) := by
  refine g_startx (Qc := fun A => va_Qv (eqV o xo) (wPost shX D T ad A) A) (by decide +kernel) rfl rfl (Nat.le_of_ble_eq_true rfl) (lv := [(0, .ref (ad 12)), (1, .ref (ad x1))]) rfl (fun Γ Y => ?_)
  have C := Y.1
  show GcX_Past_keepWork l D T ad Γ o xo xo g 0 [(0, .ref (ad 12)), (1, .ref (ad x1))] []
  refine g_aload_n C dX5_keepWork_0 rfl 0 rfl ?_
  refine gX_get_X5_20 (v := g 12 2) C ob_12 rfl rfl dX5_keepWork_1 ?_
  refine g_bipush C dX5_keepWork_4 bp_16 ?_
  refine g_icmp_ge C 34 dX5_keepWork_6 (by decide) (fun c6 => ?_) (fun c6 => ?_)
  · have h := iteT c6 h
    obtain rfl := Option.some.inj h
    exact g_vret C rfl rfl dX5_keepWork_34
  · have h := iteF c6 h
    refine g_aload_n C dX5_keepWork_9 rfl 1 rfl ?_
    refine g_aload_n C dX5_keepWork_10 rfl 0 rfl ?_
    refine gX_get_X5_13 C ob_12 rfl dX5_keepWork_11 ?_
    refine g_aload_n C dX5_keepWork_14 rfl 0 rfl ?_
    refine gX_get_X5_20 (v := g 12 2) C ob_12 rfl rfl dX5_keepWork_15 ?_
    refine g_bipush C dX5_keepWork_18 bp_25 ?_
    refine g_imul C dX5_keepWork_20 ?_
    obtain ⟨g21, hr21, h⟩ := bnd h
    refine g_xVv (k := x1) (As := [.ref (ad 43), .int ((g 12 2) * (25 : Int32))]) (rest := []) (go := g21) (xo := xo) Y (fun sz => cX_State_writeTo l D T ad sK sV xo g x1 43 ((g 12 2) * (25 : Int32)) hx1 _ hr21 sz) kX_RX5_27_State_writeTo ⟨Nat.le_of_ble_eq_true rfl, Nat.le_of_ble_eq_true rfl⟩ ⟨rfl, rfl⟩ ⟨Nat.zero_le _, Nat.zero_le _⟩ (rfl : vwCl[6]? = some (RX7, TX7, 6)) (ob_State hx1) rfl rfl (Nat.le_of_ble_eq_true rfl) dX5_keepWork_21 ?_
    refine g_aload_n C dX5_keepWork_24 rfl 0 rfl ?_
    refine g_dup C dX5_keepWork_25 rfl ?_
    refine gX_get_X5_20 (v := g21 12 2) C ob_12 rfl rfl dX5_keepWork_26 ?_
    refine g_iconst C dX5_keepWork_29 ic_1 ?_
    refine g_iadd C dX5_keepWork_30 ?_
    refine gX_put_X5_20 C ob_12 rfl dX5_keepWork_31 ?_
    obtain rfl := Option.some.inj h
    exact g_vret C rfl rfl dX5_keepWork_34
def fX_State_readFrom (th : Nat) (x1 : Nat) (x2 : Int32) (g : St) : Option (St) :=
  (fX_Rows_copy x1 x2 (rX th 2) (0 : Int32) (8 : Int32) g).bind fun g9 => ((fX_Rows_copy x1 (x2 + (8 : Int32)) (rX th 3) (0 : Int32) (8 : Int32) g9).bind fun g24 => ((fX_Rows_copy x1 (x2 + (16 : Int32)) (rX th 4) (0 : Int32) (8 : Int32) g24).bind fun g39 => ((fX_Rows_at x1 (x2 + (24 : Int32)) g39).bind fun r48 => (some (st g39 th 5 r48)))))
def rmX_State_readFrom : Room := { frames := 2, cells := 0, slots := 0, locals := 47 }
abbrev GcX_State_readFrom (l : Launch) (D : va_G) (T : cT) (ad : Nat → Nat) (Γ : Cxt) (o : St) (xo : Sl) (x : Sl) (g : St) (pc : Nat) (lv : List (Nat × Value)) (stk : List Value) : Prop := Gj l shX D T ad 3 (rmX_State_readFrom) 0 0 Γ (MQ Γ.below (va_Qv (eqV o xo) (wPost shX D T ad Γ.A) Γ.A) Γ.args Γ.s 0 0 Γ.A) x g pc lv stk
set_option maxRecDepth 100000 in
set_option maxHeartbeats 4000000 in
theorem cX_State_readFrom (l : Launch) (D : va_G) (T : cT) (ad : Nat → Nat) (sK sV : Nat → Nat) (xo : Sl) (g : St) (th : Nat) (x1 : Nat) (x2 : Int32) (hth : isState th) (o : St) (h : fX_State_readFrom th x1 x2 g = some o) (sz : Nat) : Met l yX7_readFrom wX_State_readFrom (rmX_State_readFrom) (va_Pc [.ref (ad th), .ref (ad x1), .int x2] (xPre shX D T ad sK sV xo g sz)) (va_Qv (eqV o xo) (wPost shX D T ad (aW shX T ad xo g sz)) (aW shX T ad xo g sz)) 0 0 (aW shX T ad xo g sz) := by
  refine g_startx (Qc := fun A => va_Qv (eqV o xo) (wPost shX D T ad A) A) (by decide +kernel) rfl rfl (Nat.le_of_ble_eq_true rfl) (lv := [(0, .ref (ad th)), (1, .ref (ad x1)), (2, .int x2)]) rfl (fun Γ Y => ?_)
  have C := Y.1
  show GcX_State_readFrom l D T ad Γ o xo xo g 0 [(0, .ref (ad th)), (1, .ref (ad x1)), (2, .int x2)] []
  refine g_aload_n C dX7_readFrom_0 rfl 1 rfl ?_
  refine g_iload_n C dX7_readFrom_1 rfl 2 rfl ?_
  refine g_aload_n C dX7_readFrom_2 rfl 0 rfl ?_
  refine gX_get_X7_9 C (ob_State hth) (rf_State_2 hth) dX7_readFrom_3 ?_
  refine g_iconst C dX7_readFrom_6 ic_0 ?_
  refine g_bipush C dX7_readFrom_7 bp_8 ?_
  obtain ⟨g9, hr9, h⟩ := bnd h
  refine g_xSv (As := [.ref (ad x1), .int x2, .ref (ad (rX th 2)), .int (0 : Int32), .int (8 : Int32)]) (rest := []) (go := g9) (xo := xo) Y (fun sz => cX_Rows_copy l D T ad sK sV xo g x1 x2 (rX th 2) (0 : Int32) (8 : Int32) _ hr9 sz) kX_RX7_51_Rows_copy ⟨Nat.le_of_ble_eq_true rfl, Nat.le_of_ble_eq_true rfl⟩ ⟨rfl, rfl⟩ ⟨Nat.zero_le _, Nat.zero_le _⟩ rfl rfl (Nat.le_of_ble_eq_true rfl) dX7_readFrom_9 ?_
  refine g_aload_n C dX7_readFrom_12 rfl 1 rfl ?_
  refine g_iload_n C dX7_readFrom_13 rfl 2 rfl ?_
  refine g_bipush C dX7_readFrom_14 bp_8 ?_
  refine g_iadd C dX7_readFrom_16 ?_
  refine g_aload_n C dX7_readFrom_17 rfl 0 rfl ?_
  refine gX_get_X7_15 C (ob_State hth) (rf_State_3 hth) dX7_readFrom_18 ?_
  refine g_iconst C dX7_readFrom_21 ic_0 ?_
  refine g_bipush C dX7_readFrom_22 bp_8 ?_
  obtain ⟨g24, hr24, h⟩ := bnd h
  refine g_xSv (As := [.ref (ad x1), .int (x2 + (8 : Int32)), .ref (ad (rX th 3)), .int (0 : Int32), .int (8 : Int32)]) (rest := []) (go := g24) (xo := xo) Y (fun sz => cX_Rows_copy l D T ad sK sV xo g9 x1 (x2 + (8 : Int32)) (rX th 3) (0 : Int32) (8 : Int32) _ hr24 sz) kX_RX7_51_Rows_copy ⟨Nat.le_of_ble_eq_true rfl, Nat.le_of_ble_eq_true rfl⟩ ⟨rfl, rfl⟩ ⟨Nat.zero_le _, Nat.zero_le _⟩ rfl rfl (Nat.le_of_ble_eq_true rfl) dX7_readFrom_24 ?_
  refine g_aload_n C dX7_readFrom_27 rfl 1 rfl ?_
  refine g_iload_n C dX7_readFrom_28 rfl 2 rfl ?_
  refine g_bipush C dX7_readFrom_29 bp_16 ?_
  refine g_iadd C dX7_readFrom_31 ?_
  refine g_aload_n C dX7_readFrom_32 rfl 0 rfl ?_
  refine gX_get_X7_18 C (ob_State hth) (rf_State_4 hth) dX7_readFrom_33 ?_
  refine g_iconst C dX7_readFrom_36 ic_0 ?_
  refine g_bipush C dX7_readFrom_37 bp_8 ?_
  obtain ⟨g39, hr39, h⟩ := bnd h
  refine g_xSv (As := [.ref (ad x1), .int (x2 + (16 : Int32)), .ref (ad (rX th 4)), .int (0 : Int32), .int (8 : Int32)]) (rest := []) (go := g39) (xo := xo) Y (fun sz => cX_Rows_copy l D T ad sK sV xo g24 x1 (x2 + (16 : Int32)) (rX th 4) (0 : Int32) (8 : Int32) _ hr39 sz) kX_RX7_51_Rows_copy ⟨Nat.le_of_ble_eq_true rfl, Nat.le_of_ble_eq_true rfl⟩ ⟨rfl, rfl⟩ ⟨Nat.zero_le _, Nat.zero_le _⟩ rfl rfl (Nat.le_of_ble_eq_true rfl) dX7_readFrom_39 ?_
  refine g_aload_n C dX7_readFrom_42 rfl 0 rfl ?_
  refine g_aload_n C dX7_readFrom_43 rfl 1 rfl ?_
  refine g_iload_n C dX7_readFrom_44 rfl 2 rfl ?_
  refine g_bipush C dX7_readFrom_45 bp_24 ?_
  refine g_iadd C dX7_readFrom_47 ?_
  obtain ⟨r48, hr48, h⟩ := bnd h
  refine g_xSi (As := [.ref (ad x1), .int (x2 + (24 : Int32))]) (rest := [.ref (ad th)]) (ro := r48) (go := g39) (xo := xo) Y (fun sz => cX_Rows_at l D T ad sK sV xo g39 x1 (x2 + (24 : Int32)) _ hr48 sz) kX_RX7_41_Rows_at ⟨Nat.le_of_ble_eq_true rfl, Nat.le_of_ble_eq_true rfl⟩ ⟨rfl, rfl⟩ ⟨Nat.zero_le _, Nat.zero_le _⟩ rfl rfl (Nat.le_of_ble_eq_true rfl) dX7_readFrom_48 ?_
  refine gX_put_X7_29 C (ob_State hth) (rf_State_5 hth) dX7_readFrom_51 ?_
  obtain rfl := Option.some.inj h
  exact g_vret C rfl rfl dX7_readFrom_54
def fX_Past_undoWork (x1 : Nat) (g : St) : Option (St) :=
  if (g 12 2) ≤ 0 then
    (some g)
  else
    ((fX_State_readFrom x1 43 (((g 12 2) - (1 : Int32)) * (25 : Int32)) (st g 12 2 ((g 12 2) - (1 : Int32)))).bind fun g29 => (some g29))
def rmX_Past_undoWork : Room := { frames := 3, cells := 0, slots := 0, locals := 69 }
abbrev GcX_Past_undoWork (l : Launch) (D : va_G) (T : cT) (ad : Nat → Nat) (Γ : Cxt) (o : St) (xo : Sl) (x : Sl) (g : St) (pc : Nat) (lv : List (Nat × Value)) (stk : List Value) : Prop := Gj l shX D T ad 2 (rmX_Past_undoWork) 0 0 Γ (MQ Γ.below (va_Qv (eqV o xo) (wPost shX D T ad Γ.A) Γ.A) Γ.args Γ.s 0 0 Γ.A) x g pc lv stk
set_option maxRecDepth 100000 in
set_option maxHeartbeats 4000000 in
theorem cX_Past_undoWork (l : Launch) (D : va_G) (T : cT) (ad : Nat → Nat) (sK sV : Nat → Nat) (xo : Sl) (g : St) (x1 : Nat) (hx1 : isState x1) (o : St) (h : fX_Past_undoWork x1 g = some o) (sz : Nat) : Met l yX5_undoWork wX_Past_undoWork (rmX_Past_undoWork) (va_Pc [.ref (ad 12), .ref (ad x1)] (xPre shX D T ad sK sV xo g sz)) (va_Qv (eqV o xo) (wPost shX D T ad (aW shX T ad xo g sz)) (aW shX T ad xo g sz)) 0 0 (aW shX T ad xo g sz) := by
  refine g_startx (Qc := fun A => va_Qv (eqV o xo) (wPost shX D T ad A) A) (by decide +kernel) rfl rfl (Nat.le_of_ble_eq_true rfl) (lv := [(0, .ref (ad 12)), (1, .ref (ad x1))]) rfl (fun Γ Y => ?_)
  have C := Y.1
  show GcX_Past_undoWork l D T ad Γ o xo xo g 0 [(0, .ref (ad 12)), (1, .ref (ad x1))] []
  refine g_aload_n C dX5_undoWork_0 rfl 0 rfl ?_
  refine gX_get_X5_20 (v := g 12 2) C ob_12 rfl rfl dX5_undoWork_1 ?_
  refine g_if_le C 32 dX5_undoWork_4 (by decide) (fun c4 => ?_) (fun c4 => ?_)
  · have h := iteT c4 h
    obtain rfl := Option.some.inj h
    exact g_vret C rfl rfl dX5_undoWork_32
  · have h := iteF c4 h
    refine g_aload_n C dX5_undoWork_7 rfl 0 rfl ?_
    refine g_dup C dX5_undoWork_8 rfl ?_
    refine gX_get_X5_20 (v := g 12 2) C ob_12 rfl rfl dX5_undoWork_9 ?_
    refine g_iconst C dX5_undoWork_12 ic_1 ?_
    refine g_isub C dX5_undoWork_13 ?_
    refine gX_put_X5_20 C ob_12 rfl dX5_undoWork_14 ?_
    refine g_aload_n C dX5_undoWork_17 rfl 1 rfl ?_
    refine g_aload_n C dX5_undoWork_18 rfl 0 rfl ?_
    refine gX_get_X5_13 C ob_12 rfl dX5_undoWork_19 ?_
    refine g_aload_n C dX5_undoWork_22 rfl 0 rfl ?_
    refine gX_get_X5_20 (v := (g 12 2) - (1 : Int32)) C ob_12 rfl rfl dX5_undoWork_23 ?_
    refine g_bipush C dX5_undoWork_26 bp_25 ?_
    refine g_imul C dX5_undoWork_28 ?_
    obtain ⟨g29, hr29, h⟩ := bnd h
    refine g_xVv (k := x1) (As := [.ref (ad 43), .int (((g 12 2) - (1 : Int32)) * (25 : Int32))]) (rest := []) (go := g29) (xo := xo) Y (fun sz => cX_State_readFrom l D T ad sK sV xo (st g 12 2 ((g 12 2) - (1 : Int32))) x1 43 (((g 12 2) - (1 : Int32)) * (25 : Int32)) hx1 _ hr29 sz) kX_RX5_31_State_readFrom ⟨Nat.le_of_ble_eq_true rfl, Nat.le_of_ble_eq_true rfl⟩ ⟨rfl, rfl⟩ ⟨Nat.zero_le _, Nat.zero_le _⟩ (rfl : vwCl[6]? = some (RX7, TX7, 6)) (ob_State hx1) rfl rfl (Nat.le_of_ble_eq_true rfl) dX5_undoWork_29 ?_
    obtain rfl := Option.some.inj h
    exact g_vret C rfl rfl dX5_undoWork_32
def fX_Past_keepImage (x1 : Nat) (g : St) : Option (St) :=
  if (3 : Int32) ≤ (g 12 3) then
    (some g)
  else
    ((fX_Rows_put 44 ((g 12 3) * (426 : Int32)) (g 12 2) g).bind fun g26 => ((fX_State_writeTo x1 44 (((g 12 3) * (426 : Int32)) + (1 : Int32)) g26).bind fun g37 => ((fX_Rows_copy 43 (0 : Int32) 44 ((((g 12 3) * (426 : Int32)) + (1 : Int32)) + (25 : Int32)) (400 : Int32) g37).bind fun g58 => (some (st g58 12 3 ((g58 12 3) + (1 : Int32)))))))
def rmX_Past_keepImage : Room := { frames := 3, cells := 0, slots := 0, locals := 69 }
abbrev GcX_Past_keepImage (l : Launch) (D : va_G) (T : cT) (ad : Nat → Nat) (Γ : Cxt) (o : St) (xo : Sl) (x : Sl) (g : St) (pc : Nat) (lv : List (Nat × Value)) (stk : List Value) : Prop := Gj l shX D T ad 3 (rmX_Past_keepImage) 0 0 Γ (MQ Γ.below (va_Qv (eqV o xo) (wPost shX D T ad Γ.A) Γ.A) Γ.args Γ.s 0 0 Γ.A) x g pc lv stk
set_option maxRecDepth 100000 in
set_option maxHeartbeats 4000000 in
theorem cX_Past_keepImage (l : Launch) (D : va_G) (T : cT) (ad : Nat → Nat) (sK sV : Nat → Nat) (xo : Sl) (g : St) (x1 : Nat) (hx1 : isState x1) (o : St) (h : fX_Past_keepImage x1 g = some o) (sz : Nat) : Met l yX5_keepImage wX_Past_keepImage (rmX_Past_keepImage) (va_Pc [.ref (ad 12), .ref (ad x1)] (xPre shX D T ad sK sV xo g sz)) (va_Qv (eqV o xo) (wPost shX D T ad (aW shX T ad xo g sz)) (aW shX T ad xo g sz)) 0 0 (aW shX T ad xo g sz) := by
  refine g_startx (Qc := fun A => va_Qv (eqV o xo) (wPost shX D T ad A) A) (by decide +kernel) rfl rfl (Nat.le_of_ble_eq_true rfl) (lv := [(0, .ref (ad 12)), (1, .ref (ad x1))]) rfl (fun Γ Y => ?_)
  have C := Y.1
  show GcX_Past_keepImage l D T ad Γ o xo xo g 0 [(0, .ref (ad 12)), (1, .ref (ad x1))] []
  refine g_aload_n C dX5_keepImage_0 rfl 0 rfl ?_
  refine gX_get_X5_24 (v := g 12 3) C ob_12 rfl rfl dX5_keepImage_1 ?_
  refine g_iconst C dX5_keepImage_4 ic_3 ?_
  refine g_icmp_ge C 71 dX5_keepImage_5 (by decide) (fun c5 => ?_) (fun c5 => ?_)
  · have h := iteT c5 h
    obtain rfl := Option.some.inj h
    exact g_vret C rfl rfl dX5_keepImage_71
  · have h := iteF c5 h
    refine g_aload_n C dX5_keepImage_8 rfl 0 rfl ?_
    refine gX_get_X5_24 (v := g 12 3) C ob_12 rfl rfl dX5_keepImage_9 ?_
    refine g_sipush C dX5_keepImage_12 sp_426 ?_
    refine g_imul C dX5_keepImage_15 ?_
    refine g_istore_n (lv' := [(2, .int ((g 12 3) * (426 : Int32))), (0, .ref (ad 12)), (1, .ref (ad x1))]) C dX5_keepImage_16 rfl (Nat.le_of_ble_eq_true rfl) rfl ?_
    refine g_aload_n C dX5_keepImage_17 rfl 1 rfl ?_
    refine gX_get_X5_17 C ob_12 rfl dX5_keepImage_18 ?_
    refine g_iload_n C dX5_keepImage_21 rfl 0 rfl ?_
    refine g_aload_n C dX5_keepImage_22 rfl 1 rfl ?_
    refine gX_get_X5_20 (v := g 12 2) C ob_12 rfl rfl dX5_keepImage_23 ?_
    obtain ⟨g26, hr26, h⟩ := bnd h
    refine g_xSv (As := [.ref (ad 44), .int ((g 12 3) * (426 : Int32)), .int (g 12 2)]) (rest := []) (go := g26) (xo := xo) Y (fun sz => cX_Rows_put l D T ad sK sV xo g 44 ((g 12 3) * (426 : Int32)) (g 12 2) _ hr26 sz) kX_RX5_34_Rows_put ⟨Nat.le_of_ble_eq_true rfl, Nat.le_of_ble_eq_true rfl⟩ ⟨rfl, rfl⟩ ⟨Nat.zero_le _, Nat.zero_le _⟩ rfl rfl (Nat.le_of_ble_eq_true rfl) dX5_keepImage_26 ?_
    refine g_aload_n C dX5_keepImage_29 rfl 2 rfl ?_
    refine g_aload_n C dX5_keepImage_30 rfl 1 rfl ?_
    refine gX_get_X5_17 C ob_12 rfl dX5_keepImage_31 ?_
    refine g_iload_n C dX5_keepImage_34 rfl 0 rfl ?_
    refine g_iconst C dX5_keepImage_35 ic_1 ?_
    refine g_iadd C dX5_keepImage_36 ?_
    obtain ⟨g37, hr37, h⟩ := bnd h
    refine g_xVv (k := x1) (As := [.ref (ad 44), .int (((g 12 3) * (426 : Int32)) + (1 : Int32))]) (rest := []) (go := g37) (xo := xo) Y (fun sz => cX_State_writeTo l D T ad sK sV xo g26 x1 44 (((g 12 3) * (426 : Int32)) + (1 : Int32)) hx1 _ hr37 sz) kX_RX5_27_State_writeTo ⟨Nat.le_of_ble_eq_true rfl, Nat.le_of_ble_eq_true rfl⟩ ⟨rfl, rfl⟩ ⟨Nat.zero_le _, Nat.zero_le _⟩ (rfl : vwCl[6]? = some (RX7, TX7, 6)) (ob_State hx1) rfl rfl (Nat.le_of_ble_eq_true rfl) dX5_keepImage_37 ?_
    refine g_aload_n C dX5_keepImage_40 rfl 1 rfl ?_
    refine gX_get_X5_13 C ob_12 rfl dX5_keepImage_41 ?_
    refine g_iconst C dX5_keepImage_44 ic_0 ?_
    refine g_aload_n C dX5_keepImage_45 rfl 1 rfl ?_
    refine gX_get_X5_17 C ob_12 rfl dX5_keepImage_46 ?_
    refine g_iload_n C dX5_keepImage_49 rfl 0 rfl ?_
    refine g_iconst C dX5_keepImage_50 ic_1 ?_
    refine g_iadd C dX5_keepImage_51 ?_
    refine g_bipush C dX5_keepImage_52 bp_25 ?_
    refine g_iadd C dX5_keepImage_54 ?_
    refine g_sipush C dX5_keepImage_55 sp_400 ?_
    obtain ⟨g58, hr58, h⟩ := bnd h
    refine g_xSv (As := [.ref (ad 43), .int (0 : Int32), .ref (ad 44), .int ((((g 12 3) * (426 : Int32)) + (1 : Int32)) + (25 : Int32)), .int (400 : Int32)]) (rest := []) (go := g58) (xo := xo) Y (fun sz => cX_Rows_copy l D T ad sK sV xo g37 43 (0 : Int32) 44 ((((g 12 3) * (426 : Int32)) + (1 : Int32)) + (25 : Int32)) (400 : Int32) _ hr58 sz) kX_RX5_40_Rows_copy ⟨Nat.le_of_ble_eq_true rfl, Nat.le_of_ble_eq_true rfl⟩ ⟨rfl, rfl⟩ ⟨Nat.zero_le _, Nat.zero_le _⟩ rfl rfl (Nat.le_of_ble_eq_true rfl) dX5_keepImage_58 ?_
    refine g_aload_n C dX5_keepImage_61 rfl 1 rfl ?_
    refine g_dup C dX5_keepImage_62 rfl ?_
    refine gX_get_X5_24 (v := g58 12 3) C ob_12 rfl rfl dX5_keepImage_63 ?_
    refine g_iconst C dX5_keepImage_66 ic_1 ?_
    refine g_iadd C dX5_keepImage_67 ?_
    refine gX_put_X5_24 C ob_12 rfl dX5_keepImage_68 ?_
    obtain rfl := Option.some.inj h
    exact g_vret C rfl rfl dX5_keepImage_71
def fX_Past_restoreImage (x1 : Nat) (g : St) : Option (St) :=
  if (g 12 3) ≤ 0 then
    (some g)
  else
    ((fX_Rows_at 44 (((g 12 3) - (1 : Int32)) * (426 : Int32)) (st g 12 3 ((g 12 3) - (1 : Int32)))).bind fun r32 => ((fX_State_readFrom x1 44 ((((g 12 3) - (1 : Int32)) * (426 : Int32)) + (1 : Int32)) (st (st g 12 3 ((g 12 3) - (1 : Int32))) 12 2 r32)).bind fun g46 => ((fX_Rows_copy 44 (((((g 12 3) - (1 : Int32)) * (426 : Int32)) + (1 : Int32)) + (25 : Int32)) 43 (0 : Int32) (400 : Int32) g46).bind fun g67 => (some g67))))
def rmX_Past_restoreImage : Room := { frames := 3, cells := 0, slots := 0, locals := 69 }
abbrev GcX_Past_restoreImage (l : Launch) (D : va_G) (T : cT) (ad : Nat → Nat) (Γ : Cxt) (o : St) (xo : Sl) (x : Sl) (g : St) (pc : Nat) (lv : List (Nat × Value)) (stk : List Value) : Prop := Gj l shX D T ad 3 (rmX_Past_restoreImage) 0 0 Γ (MQ Γ.below (va_Qv (eqV o xo) (wPost shX D T ad Γ.A) Γ.A) Γ.args Γ.s 0 0 Γ.A) x g pc lv stk
set_option maxRecDepth 100000 in
set_option maxHeartbeats 4000000 in
theorem cX_Past_restoreImage (l : Launch) (D : va_G) (T : cT) (ad : Nat → Nat) (sK sV : Nat → Nat) (xo : Sl) (g : St) (x1 : Nat) (hx1 : isState x1) (o : St) (h : fX_Past_restoreImage x1 g = some o) (sz : Nat) : Met l yX5_restoreImage wX_Past_restoreImage (rmX_Past_restoreImage) (va_Pc [.ref (ad 12), .ref (ad x1)] (xPre shX D T ad sK sV xo g sz)) (va_Qv (eqV o xo) (wPost shX D T ad (aW shX T ad xo g sz)) (aW shX T ad xo g sz)) 0 0 (aW shX T ad xo g sz) := by
  refine g_startx (Qc := fun A => va_Qv (eqV o xo) (wPost shX D T ad A) A) (by decide +kernel) rfl rfl (Nat.le_of_ble_eq_true rfl) (lv := [(0, .ref (ad 12)), (1, .ref (ad x1))]) rfl (fun Γ Y => ?_)
  have C := Y.1
  show GcX_Past_restoreImage l D T ad Γ o xo xo g 0 [(0, .ref (ad 12)), (1, .ref (ad x1))] []
  refine g_aload_n C dX5_restoreImage_0 rfl 0 rfl ?_
  refine gX_get_X5_24 (v := g 12 3) C ob_12 rfl rfl dX5_restoreImage_1 ?_
  refine g_if_le C 70 dX5_restoreImage_4 (by decide) (fun c4 => ?_) (fun c4 => ?_)
  · have h := iteT c4 h
    obtain rfl := Option.some.inj h
    exact g_vret C rfl rfl dX5_restoreImage_70
  · have h := iteF c4 h
    refine g_aload_n C dX5_restoreImage_7 rfl 0 rfl ?_
    refine g_dup C dX5_restoreImage_8 rfl ?_
    refine gX_get_X5_24 (v := g 12 3) C ob_12 rfl rfl dX5_restoreImage_9 ?_
    refine g_iconst C dX5_restoreImage_12 ic_1 ?_
    refine g_isub C dX5_restoreImage_13 ?_
    refine gX_put_X5_24 C ob_12 rfl dX5_restoreImage_14 ?_
    refine g_aload_n C dX5_restoreImage_17 rfl 0 rfl ?_
    refine gX_get_X5_24 (v := (g 12 3) - (1 : Int32)) C ob_12 rfl rfl dX5_restoreImage_18 ?_
    refine g_sipush C dX5_restoreImage_21 sp_426 ?_
    refine g_imul C dX5_restoreImage_24 ?_
    refine g_istore_n (lv' := [(2, .int (((g 12 3) - (1 : Int32)) * (426 : Int32))), (0, .ref (ad 12)), (1, .ref (ad x1))]) C dX5_restoreImage_25 rfl (Nat.le_of_ble_eq_true rfl) rfl ?_
    refine g_aload_n C dX5_restoreImage_26 rfl 1 rfl ?_
    refine g_aload_n C dX5_restoreImage_27 rfl 1 rfl ?_
    refine gX_get_X5_17 C ob_12 rfl dX5_restoreImage_28 ?_
    refine g_iload_n C dX5_restoreImage_31 rfl 0 rfl ?_
    obtain ⟨r32, hr32, h⟩ := bnd h
    refine g_xSi (As := [.ref (ad 44), .int (((g 12 3) - (1 : Int32)) * (426 : Int32))]) (rest := [.ref (ad 12)]) (ro := r32) (go := (st g 12 3 ((g 12 3) - (1 : Int32)))) (xo := xo) Y (fun sz => cX_Rows_at l D T ad sK sV xo (st g 12 3 ((g 12 3) - (1 : Int32))) 44 (((g 12 3) - (1 : Int32)) * (426 : Int32)) _ hr32 sz) kX_RX5_44_Rows_at ⟨Nat.le_of_ble_eq_true rfl, Nat.le_of_ble_eq_true rfl⟩ ⟨rfl, rfl⟩ ⟨Nat.zero_le _, Nat.zero_le _⟩ rfl rfl (Nat.le_of_ble_eq_true rfl) dX5_restoreImage_32 ?_
    refine gX_put_X5_20 C ob_12 rfl dX5_restoreImage_35 ?_
    refine g_aload_n C dX5_restoreImage_38 rfl 2 rfl ?_
    refine g_aload_n C dX5_restoreImage_39 rfl 1 rfl ?_
    refine gX_get_X5_17 C ob_12 rfl dX5_restoreImage_40 ?_
    refine g_iload_n C dX5_restoreImage_43 rfl 0 rfl ?_
    refine g_iconst C dX5_restoreImage_44 ic_1 ?_
    refine g_iadd C dX5_restoreImage_45 ?_
    obtain ⟨g46, hr46, h⟩ := bnd h
    refine g_xVv (k := x1) (As := [.ref (ad 44), .int ((((g 12 3) - (1 : Int32)) * (426 : Int32)) + (1 : Int32))]) (rest := []) (go := g46) (xo := xo) Y (fun sz => cX_State_readFrom l D T ad sK sV xo (st (st g 12 3 ((g 12 3) - (1 : Int32))) 12 2 r32) x1 44 ((((g 12 3) - (1 : Int32)) * (426 : Int32)) + (1 : Int32)) hx1 _ hr46 sz) kX_RX5_31_State_readFrom ⟨Nat.le_of_ble_eq_true rfl, Nat.le_of_ble_eq_true rfl⟩ ⟨rfl, rfl⟩ ⟨Nat.zero_le _, Nat.zero_le _⟩ (rfl : vwCl[6]? = some (RX7, TX7, 6)) (ob_State hx1) rfl rfl (Nat.le_of_ble_eq_true rfl) dX5_restoreImage_46 ?_
    refine g_aload_n C dX5_restoreImage_49 rfl 1 rfl ?_
    refine gX_get_X5_17 C ob_12 rfl dX5_restoreImage_50 ?_
    refine g_iload_n C dX5_restoreImage_53 rfl 0 rfl ?_
    refine g_iconst C dX5_restoreImage_54 ic_1 ?_
    refine g_iadd C dX5_restoreImage_55 ?_
    refine g_bipush C dX5_restoreImage_56 bp_25 ?_
    refine g_iadd C dX5_restoreImage_58 ?_
    refine g_aload_n C dX5_restoreImage_59 rfl 1 rfl ?_
    refine gX_get_X5_13 C ob_12 rfl dX5_restoreImage_60 ?_
    refine g_iconst C dX5_restoreImage_63 ic_0 ?_
    refine g_sipush C dX5_restoreImage_64 sp_400 ?_
    obtain ⟨g67, hr67, h⟩ := bnd h
    refine g_xSv (As := [.ref (ad 44), .int (((((g 12 3) - (1 : Int32)) * (426 : Int32)) + (1 : Int32)) + (25 : Int32)), .ref (ad 43), .int (0 : Int32), .int (400 : Int32)]) (rest := []) (go := g67) (xo := xo) Y (fun sz => cX_Rows_copy l D T ad sK sV xo g46 44 (((((g 12 3) - (1 : Int32)) * (426 : Int32)) + (1 : Int32)) + (25 : Int32)) 43 (0 : Int32) (400 : Int32) _ hr67 sz) kX_RX5_40_Rows_copy ⟨Nat.le_of_ble_eq_true rfl, Nat.le_of_ble_eq_true rfl⟩ ⟨rfl, rfl⟩ ⟨Nat.zero_le _, Nat.zero_le _⟩ rfl rfl (Nat.le_of_ble_eq_true rfl) dX5_restoreImage_67 ?_
    obtain rfl := Option.some.inj h
    exact g_vret C rfl rfl dX5_restoreImage_70
def fX_State_begin_b44 (th : Nat) (x1 : Int32) (s1 : Int32) (s2 : Int32) (g : St) : Option ((Int32 × St) ⊕ (St)) :=
  (fX_Rows_put (rX th 2) s1 s2 g).bind fun g44 => ((fX_Rows_put (rX th 3) x1 (-1 : Int32) g44).bind fun g53 => ((fX_Rows_put (rX th 4) x1 (-1 : Int32) g53).bind fun g62 => (some (.inl ((x1 + (1 : Int32)), g62)))))
def fX_State_begin_L7 (th : Nat) : (Int32 × St) → Option ((Int32 × St) ⊕ (St)) := fun ⟨x1, g⟩ =>
  if (8 : Int32) ≤ x1 then
    (some (.inr g))
  else
    (if (g 2 0) ≤ x1 then
    (fX_State_begin_b44 th x1 x1 (0 : Int32) g)
  else
    ((fX_Rows_at 18 x1 g).bind fun r37 => (fX_State_begin_b44 th x1 x1 r37 g)))
def fX_State_begin_b7 (th : Nat) (x1 : Int32) (g : St) : Option (St) :=
  (lp (fX_State_begin_L7 th) fuel (x1, g)).bind (fun g => some g)
def fX_State_begin (th : Nat) (g : St) : Option (St) :=
  fX_State_begin_b7 th (0 : Int32) (st g th 5 (0 : Int32))
def rmX_State_begin : Room := { frames := 1, cells := 0, slots := 0, locals := 22 }
abbrev GcX_State_begin (l : Launch) (D : va_G) (T : cT) (ad : Nat → Nat) (Γ : Cxt) (o : St) (xo : Sl) (x : Sl) (g : St) (pc : Nat) (lv : List (Nat × Value)) (stk : List Value) : Prop := Gj l shX D T ad 2 (rmX_State_begin) 0 0 Γ (MQ Γ.below (va_Qv (eqV o xo) (wPost shX D T ad Γ.A) Γ.A) Γ.args Γ.s 0 0 Γ.A) x g pc lv stk
set_option maxRecDepth 100000 in
set_option maxHeartbeats 4000000 in
theorem cX_State_begin (l : Launch) (D : va_G) (T : cT) (ad : Nat → Nat) (sK sV : Nat → Nat) (xo : Sl) (g : St) (th : Nat) (hth : isState th) (o : St) (h : fX_State_begin th g = some o) (sz : Nat) : Met l yX7_begin wX_State_begin (rmX_State_begin) (va_Pc [.ref (ad th)] (xPre shX D T ad sK sV xo g sz)) (va_Qv (eqV o xo) (wPost shX D T ad (aW shX T ad xo g sz)) (aW shX T ad xo g sz)) 0 0 (aW shX T ad xo g sz) := by
  refine g_startx (Qc := fun A => va_Qv (eqV o xo) (wPost shX D T ad A) A) (by decide +kernel) rfl rfl (Nat.le_of_ble_eq_true rfl) (lv := [(0, .ref (ad th))]) rfl (fun Γ Y => ?_)
  have C := Y.1
  show GcX_State_begin l D T ad Γ o xo xo g 0 [(0, .ref (ad th))] []
  have J7 : ∀ (x1 : Int32) (g : St), fX_State_begin_b7 th x1 g = some o → GcX_State_begin l D T ad Γ o xo xo g 7 [(0, .ref (ad th)), (1, .int x1)] [] := by
    intro x1 g h
    obtain ⟨g, ht, h⟩ := bnd h
    refine lp_run (P := fun t : Int32 × St => match t with | (x1, g) => GcX_State_begin l D T ad Γ o xo xo g 7 [(0, .ref (ad th)), (1, .int x1)] []) (E := fun g : St => GcX_State_begin l D T ad Γ o xo xo g 71 [] []) ?_ _ _ _ ht ?_
    · rintro ⟨x1, g⟩ z h Kt Ke
      show GcX_State_begin l D T ad Γ o xo xo g 7 [(0, .ref (ad th)), (1, .int x1)] []
      have J44 : ∀ (x1 : Int32) (s1 : Int32) (s2 : Int32) (g : St), fX_State_begin_b44 th x1 s1 s2 g = some z → GcX_State_begin l D T ad Γ o xo xo g 44 [(0, .ref (ad th)), (1, .int x1)] [.int s2, .int s1, .ref (ad (rX th 2))] := by
        intro x1 s1 s2 g h
        obtain ⟨g44, hr44, h⟩ := bnd h
        refine g_xSv (As := [.ref (ad (rX th 2)), .int s1, .int s2]) (rest := []) (go := g44) (xo := xo) Y (fun sz => cX_Rows_put l D T ad sK sV xo g (rX th 2) s1 s2 _ hr44 sz) kX_RX7_47_Rows_put ⟨Nat.le_of_ble_eq_true rfl, Nat.le_of_ble_eq_true rfl⟩ ⟨rfl, rfl⟩ ⟨Nat.zero_le _, Nat.zero_le _⟩ rfl rfl (Nat.le_of_ble_eq_true rfl) dX7_begin_44 ?_
        refine g_aload_n C dX7_begin_47 rfl 0 rfl ?_
        refine gX_get_X7_15 C (ob_State hth) (rf_State_3 hth) dX7_begin_48 ?_
        refine g_iload_n C dX7_begin_51 rfl 1 rfl ?_
        refine g_iconst C dX7_begin_52 ic_m1 ?_
        obtain ⟨g53, hr53, h⟩ := bnd h
        refine g_xSv (As := [.ref (ad (rX th 3)), .int x1, .int (-1 : Int32)]) (rest := []) (go := g53) (xo := xo) Y (fun sz => cX_Rows_put l D T ad sK sV xo g44 (rX th 3) x1 (-1 : Int32) _ hr53 sz) kX_RX7_47_Rows_put ⟨Nat.le_of_ble_eq_true rfl, Nat.le_of_ble_eq_true rfl⟩ ⟨rfl, rfl⟩ ⟨Nat.zero_le _, Nat.zero_le _⟩ rfl rfl (Nat.le_of_ble_eq_true rfl) dX7_begin_53 ?_
        refine g_aload_n C dX7_begin_56 rfl 0 rfl ?_
        refine gX_get_X7_18 C (ob_State hth) (rf_State_4 hth) dX7_begin_57 ?_
        refine g_iload_n C dX7_begin_60 rfl 1 rfl ?_
        refine g_iconst C dX7_begin_61 ic_m1 ?_
        obtain ⟨g62, hr62, h⟩ := bnd h
        refine g_xSv (As := [.ref (ad (rX th 4)), .int x1, .int (-1 : Int32)]) (rest := []) (go := g62) (xo := xo) Y (fun sz => cX_Rows_put l D T ad sK sV xo g53 (rX th 4) x1 (-1 : Int32) _ hr62 sz) kX_RX7_47_Rows_put ⟨Nat.le_of_ble_eq_true rfl, Nat.le_of_ble_eq_true rfl⟩ ⟨rfl, rfl⟩ ⟨Nat.zero_le _, Nat.zero_le _⟩ rfl rfl (Nat.le_of_ble_eq_true rfl) dX7_begin_62 ?_
        refine g_iinc (lv' := [(1, .int (x1 + (1 : Int32))), (0, .ref (ad th))]) C dX7_begin_65 1 rfl (ii_1 _) (Nat.le_of_ble_eq_true rfl) rfl ?_
        refine g_goto (tgt := 7) C dX7_begin_68 (by decide) ?_
        exact g_sub [1, 0] rfl (Kt _ (Option.some.inj h).symm)
      refine g_iload_n C dX7_begin_7 rfl 1 rfl ?_
      refine g_bipush C dX7_begin_8 bp_8 ?_
      refine g_icmp_ge C 71 dX7_begin_10 (by decide) (fun c10 => ?_) (fun c10 => ?_)
      · have h := iteT c10 h
        exact g_sub [] rfl (Ke _ (Option.some.inj h).symm)
      · have h := iteF c10 h
        refine g_aload_n C dX7_begin_13 rfl 0 rfl ?_
        refine gX_get_X7_9 C (ob_State hth) (rf_State_2 hth) dX7_begin_14 ?_
        refine g_iload_n C dX7_begin_17 rfl 1 rfl ?_
        refine g_iload_n C dX7_begin_18 rfl 1 rfl ?_
        refine g_aload_n C dX7_begin_19 rfl 0 rfl ?_
        refine gX_get_X7_21 C (ob_State hth) (rf_State_0 hth) dX7_begin_20 ?_
        refine gX_get_X7_33 (v := g 2 0) C ob_2 rfl rfl dX7_begin_23 ?_
        refine g_icmp_ge C 43 dX7_begin_26 (by decide) (fun c26 => ?_) (fun c26 => ?_)
        · have h := iteT c26 h
          refine g_iconst C dX7_begin_43 ic_0 ?_
          exact J44 x1 x1 (0 : Int32) g h
        · have h := iteF c26 h
          refine g_aload_n C dX7_begin_29 rfl 0 rfl ?_
          refine gX_get_X7_21 C (ob_State hth) (rf_State_0 hth) dX7_begin_30 ?_
          refine gX_get_X7_38 C ob_2 rfl dX7_begin_33 ?_
          refine g_iload_n C dX7_begin_36 rfl 1 rfl ?_
          obtain ⟨r37, hr37, h⟩ := bnd h
          refine g_xSi (As := [.ref (ad 18), .int x1]) (rest := [.int x1, .ref (ad (rX th 2))]) (ro := r37) (go := g) (xo := xo) Y (fun sz => cX_Rows_at l D T ad sK sV xo g 18 x1 _ hr37 sz) kX_RX7_41_Rows_at ⟨Nat.le_of_ble_eq_true rfl, Nat.le_of_ble_eq_true rfl⟩ ⟨rfl, rfl⟩ ⟨Nat.zero_le _, Nat.zero_le _⟩ rfl rfl (Nat.le_of_ble_eq_true rfl) dX7_begin_37 ?_
          refine g_goto (tgt := 44) C dX7_begin_40 (by decide) ?_
          exact J44 x1 x1 r37 g h
    · show GcX_State_begin l D T ad Γ o xo xo g 71 [] []
      obtain rfl := Option.some.inj h
      exact g_vret C rfl rfl dX7_begin_71
  refine g_aload_n C dX7_begin_0 rfl 0 rfl ?_
  refine g_iconst C dX7_begin_1 ic_0 ?_
  refine gX_put_X7_29 C (ob_State hth) (rf_State_5 hth) dX7_begin_2 ?_
  refine g_iconst C dX7_begin_5 ic_0 ?_
  refine g_istore_n (lv' := [(1, .int (0 : Int32)), (0, .ref (ad th))]) C dX7_begin_6 rfl (Nat.le_of_ble_eq_true rfl) rfl ?_
  exact g_sub [1, 0] rfl (J7 (0 : Int32) (st g th 5 (0 : Int32)) h)
def fX_State_take (th : Nat) (x1 : Nat) (g : St) : Option (St) :=
  (fX_Rows_copy (rX x1 2) (0 : Int32) (rX th 2) (0 : Int32) (8 : Int32) (st g th 5 (g x1 5))).bind fun g20 => ((fX_Rows_copy (rX x1 3) (0 : Int32) (rX th 3) (0 : Int32) (8 : Int32) g20).bind fun g35 => ((fX_Rows_copy (rX x1 4) (0 : Int32) (rX th 4) (0 : Int32) (8 : Int32) g35).bind fun g50 => (some g50)))
def rmX_State_take : Room := { frames := 2, cells := 0, slots := 0, locals := 47 }
abbrev GcX_State_take (l : Launch) (D : va_G) (T : cT) (ad : Nat → Nat) (Γ : Cxt) (o : St) (xo : Sl) (x : Sl) (g : St) (pc : Nat) (lv : List (Nat × Value)) (stk : List Value) : Prop := Gj l shX D T ad 2 (rmX_State_take) 0 0 Γ (MQ Γ.below (va_Qv (eqV o xo) (wPost shX D T ad Γ.A) Γ.A) Γ.args Γ.s 0 0 Γ.A) x g pc lv stk
set_option maxRecDepth 100000 in
set_option maxHeartbeats 4000000 in
theorem cX_State_take (l : Launch) (D : va_G) (T : cT) (ad : Nat → Nat) (sK sV : Nat → Nat) (xo : Sl) (g : St) (th : Nat) (x1 : Nat) (hth : isState th) (hx1 : isState x1) (o : St) (h : fX_State_take th x1 g = some o) (sz : Nat) : Met l yX7_take wX_State_take (rmX_State_take) (va_Pc [.ref (ad th), .ref (ad x1)] (xPre shX D T ad sK sV xo g sz)) (va_Qv (eqV o xo) (wPost shX D T ad (aW shX T ad xo g sz)) (aW shX T ad xo g sz)) 0 0 (aW shX T ad xo g sz) := by
  refine g_startx (Qc := fun A => va_Qv (eqV o xo) (wPost shX D T ad A) A) (by decide +kernel) rfl rfl (Nat.le_of_ble_eq_true rfl) (lv := [(0, .ref (ad th)), (1, .ref (ad x1))]) rfl (fun Γ Y => ?_)
  have C := Y.1
  show GcX_State_take l D T ad Γ o xo xo g 0 [(0, .ref (ad th)), (1, .ref (ad x1))] []
  refine g_aload_n C dX7_take_0 rfl 0 rfl ?_
  refine g_aload_n C dX7_take_1 rfl 1 rfl ?_
  refine gX_get_X7_29 (v := g x1 5) C (ob_State hx1) (rf_State_5 hx1) rfl dX7_take_2 ?_
  refine gX_put_X7_29 C (ob_State hth) (rf_State_5 hth) dX7_take_5 ?_
  refine g_aload_n C dX7_take_8 rfl 1 rfl ?_
  refine gX_get_X7_9 C (ob_State hx1) (rf_State_2 hx1) dX7_take_9 ?_
  refine g_iconst C dX7_take_12 ic_0 ?_
  refine g_aload_n C dX7_take_13 rfl 0 rfl ?_
  refine gX_get_X7_9 C (ob_State hth) (rf_State_2 hth) dX7_take_14 ?_
  refine g_iconst C dX7_take_17 ic_0 ?_
  refine g_bipush C dX7_take_18 bp_8 ?_
  obtain ⟨g20, hr20, h⟩ := bnd h
  refine g_xSv (As := [.ref (ad (rX x1 2)), .int (0 : Int32), .ref (ad (rX th 2)), .int (0 : Int32), .int (8 : Int32)]) (rest := []) (go := g20) (xo := xo) Y (fun sz => cX_Rows_copy l D T ad sK sV xo (st g th 5 (g x1 5)) (rX x1 2) (0 : Int32) (rX th 2) (0 : Int32) (8 : Int32) _ hr20 sz) kX_RX7_51_Rows_copy ⟨Nat.le_of_ble_eq_true rfl, Nat.le_of_ble_eq_true rfl⟩ ⟨rfl, rfl⟩ ⟨Nat.zero_le _, Nat.zero_le _⟩ rfl rfl (Nat.le_of_ble_eq_true rfl) dX7_take_20 ?_
  refine g_aload_n C dX7_take_23 rfl 1 rfl ?_
  refine gX_get_X7_15 C (ob_State hx1) (rf_State_3 hx1) dX7_take_24 ?_
  refine g_iconst C dX7_take_27 ic_0 ?_
  refine g_aload_n C dX7_take_28 rfl 0 rfl ?_
  refine gX_get_X7_15 C (ob_State hth) (rf_State_3 hth) dX7_take_29 ?_
  refine g_iconst C dX7_take_32 ic_0 ?_
  refine g_bipush C dX7_take_33 bp_8 ?_
  obtain ⟨g35, hr35, h⟩ := bnd h
  refine g_xSv (As := [.ref (ad (rX x1 3)), .int (0 : Int32), .ref (ad (rX th 3)), .int (0 : Int32), .int (8 : Int32)]) (rest := []) (go := g35) (xo := xo) Y (fun sz => cX_Rows_copy l D T ad sK sV xo g20 (rX x1 3) (0 : Int32) (rX th 3) (0 : Int32) (8 : Int32) _ hr35 sz) kX_RX7_51_Rows_copy ⟨Nat.le_of_ble_eq_true rfl, Nat.le_of_ble_eq_true rfl⟩ ⟨rfl, rfl⟩ ⟨Nat.zero_le _, Nat.zero_le _⟩ rfl rfl (Nat.le_of_ble_eq_true rfl) dX7_take_35 ?_
  refine g_aload_n C dX7_take_38 rfl 1 rfl ?_
  refine gX_get_X7_18 C (ob_State hx1) (rf_State_4 hx1) dX7_take_39 ?_
  refine g_iconst C dX7_take_42 ic_0 ?_
  refine g_aload_n C dX7_take_43 rfl 0 rfl ?_
  refine gX_get_X7_18 C (ob_State hth) (rf_State_4 hth) dX7_take_44 ?_
  refine g_iconst C dX7_take_47 ic_0 ?_
  refine g_bipush C dX7_take_48 bp_8 ?_
  obtain ⟨g50, hr50, h⟩ := bnd h
  refine g_xSv (As := [.ref (ad (rX x1 4)), .int (0 : Int32), .ref (ad (rX th 4)), .int (0 : Int32), .int (8 : Int32)]) (rest := []) (go := g50) (xo := xo) Y (fun sz => cX_Rows_copy l D T ad sK sV xo g35 (rX x1 4) (0 : Int32) (rX th 4) (0 : Int32) (8 : Int32) _ hr50 sz) kX_RX7_51_Rows_copy ⟨Nat.le_of_ble_eq_true rfl, Nat.le_of_ble_eq_true rfl⟩ ⟨rfl, rfl⟩ ⟨Nat.zero_le _, Nat.zero_le _⟩ rfl rfl (Nat.le_of_ble_eq_true rfl) dX7_take_50 ?_
  obtain rfl := Option.some.inj h
  exact g_vret C rfl rfl dX7_take_53
def fX_State_named_b25 (th : Nat) (x1 : Int32) (x2 : Int32) (g : St) : Option ((Int32 × Int32) ⊕ (Int32)) :=
  some (.inl (x1, (x2 + (1 : Int32))))
def fX_State_named_L4 (th : Nat) (g : St) : (Int32 × Int32) → Option ((Int32 × Int32) ⊕ (Int32)) := fun ⟨x1, x2⟩ =>
  if (8 : Int32) ≤ x2 then
    (some (.inr x1))
  else
    ((fX_Rows_at (rX th 3) x2 g).bind fun r15 => (if r15 = (-1 : Int32) then
    (fX_State_named_b25 th x1 x2 g)
  else
    (fX_State_named_b25 th (x1 + (1 : Int32)) x2 g)))
def fX_State_named_b4 (th : Nat) (x1 : Int32) (x2 : Int32) (g : St) : Option (Int32) :=
  (lp (fX_State_named_L4 th g) fuel (x1, x2)).bind (fun x1 => some x1)
def fX_State_named (th : Nat) (g : St) : Option (Int32) :=
  fX_State_named_b4 th (0 : Int32) (0 : Int32) g
def rmX_State_named : Room := { frames := 1, cells := 0, slots := 0, locals := 21 }
abbrev GcX_State_named (l : Launch) (D : va_G) (T : cT) (ad : Nat → Nat) (Γ : Cxt) (o : Int32) (xo : Sl) (g0 : St) (x : Sl) (g : St) (pc : Nat) (lv : List (Nat × Value)) (stk : List Value) : Prop := Gj l shX D T ad 3 (rmX_State_named) 0 0 Γ (MQ Γ.below (va_Qi (eqI o g0 xo) (wPost shX D T ad Γ.A) Γ.A) Γ.args Γ.s 0 0 Γ.A) x g pc lv stk
set_option maxRecDepth 100000 in
set_option maxHeartbeats 4000000 in
theorem cX_State_named (l : Launch) (D : va_G) (T : cT) (ad : Nat → Nat) (sK sV : Nat → Nat) (xo : Sl) (g : St) (th : Nat) (hth : isState th) (o : Int32) (h : fX_State_named th g = some o) (sz : Nat) : Met l yX7_named wX_State_named (rmX_State_named) (va_Pc [.ref (ad th)] (xPre shX D T ad sK sV xo g sz)) (va_Qi (eqI o g xo) (wPost shX D T ad (aW shX T ad xo g sz)) (aW shX T ad xo g sz)) 0 0 (aW shX T ad xo g sz) := by
  refine g_startx (Qc := fun A => va_Qi (eqI o g xo) (wPost shX D T ad A) A) (by decide +kernel) rfl rfl (Nat.le_of_ble_eq_true rfl) (lv := [(0, .ref (ad th))]) rfl (fun Γ Y => ?_)
  have C := Y.1
  show GcX_State_named l D T ad Γ o xo g xo g 0 [(0, .ref (ad th))] []
  have J4 : ∀ (x1 : Int32) (x2 : Int32), fX_State_named_b4 th x1 x2 g = some o → GcX_State_named l D T ad Γ o xo g xo g 4 [(0, .ref (ad th)), (1, .int x1), (2, .int x2)] [] := by
    intro x1 x2 h
    obtain ⟨x1, ht, h⟩ := bnd h
    refine lp_run (P := fun t : Int32 × Int32 => match t with | (x1, x2) => GcX_State_named l D T ad Γ o xo g xo g 4 [(0, .ref (ad th)), (1, .int x1), (2, .int x2)] []) (E := fun x1 : Int32 => GcX_State_named l D T ad Γ o xo g xo g 31 [(1, .int x1)] []) ?_ _ _ _ ht ?_
    · rintro ⟨x1, x2⟩ z h Kt Ke
      show GcX_State_named l D T ad Γ o xo g xo g 4 [(0, .ref (ad th)), (1, .int x1), (2, .int x2)] []
      have J25 : ∀ (x1 : Int32) (x2 : Int32), fX_State_named_b25 th x1 x2 g = some z → GcX_State_named l D T ad Γ o xo g xo g 25 [(0, .ref (ad th)), (1, .int x1), (2, .int x2)] [] := by
        intro x1 x2 h
        refine g_iinc (lv' := [(2, .int (x2 + (1 : Int32))), (0, .ref (ad th)), (1, .int x1)]) C dX7_named_25 2 rfl (ii_1 _) (Nat.le_of_ble_eq_true rfl) rfl ?_
        refine g_goto (tgt := 4) C dX7_named_28 (by decide) ?_
        exact g_sub [1, 2, 0] rfl (Kt _ (Option.some.inj h).symm)
      refine g_iload_n C dX7_named_4 rfl 2 rfl ?_
      refine g_bipush C dX7_named_5 bp_8 ?_
      refine g_icmp_ge C 31 dX7_named_7 (by decide) (fun c7 => ?_) (fun c7 => ?_)
      · have h := iteT c7 h
        exact g_sub [1] rfl (Ke _ (Option.some.inj h).symm)
      · have h := iteF c7 h
        refine g_aload_n C dX7_named_10 rfl 0 rfl ?_
        refine gX_get_X7_15 C (ob_State hth) (rf_State_3 hth) dX7_named_11 ?_
        refine g_iload_n C dX7_named_14 rfl 2 rfl ?_
        obtain ⟨r15, hr15, h⟩ := bnd h
        refine g_xSi (As := [.ref (ad (rX th 3)), .int x2]) (rest := []) (ro := r15) (go := g) (xo := xo) Y (fun sz => cX_Rows_at l D T ad sK sV xo g (rX th 3) x2 _ hr15 sz) kX_RX7_41_Rows_at ⟨Nat.le_of_ble_eq_true rfl, Nat.le_of_ble_eq_true rfl⟩ ⟨rfl, rfl⟩ ⟨Nat.zero_le _, Nat.zero_le _⟩ rfl rfl (Nat.le_of_ble_eq_true rfl) dX7_named_15 ?_
        refine g_iconst C dX7_named_18 ic_m1 ?_
        refine g_icmp_eq C 25 dX7_named_19 (by decide) (fun c19 => ?_) (fun c19 => ?_)
        · have h := iteT c19 h
          exact J25 x1 x2 h
        · have h := iteF c19 h
          refine g_iinc (lv' := [(1, .int (x1 + (1 : Int32))), (0, .ref (ad th)), (2, .int x2)]) C dX7_named_22 1 rfl (ii_1 _) (Nat.le_of_ble_eq_true rfl) rfl ?_
          exact g_sub [1, 0, 2] rfl (J25 (x1 + (1 : Int32)) x2 h)
    · show GcX_State_named l D T ad Γ o xo g xo g 31 [(1, .int x1)] []
      refine g_iload_n C dX7_named_31 rfl 0 rfl ?_
      obtain rfl := Option.some.inj h
      exact g_iret C rfl rfl rfl dX7_named_32
  refine g_iconst C dX7_named_0 ic_0 ?_
  refine g_istore_n (lv' := [(1, .int (0 : Int32)), (0, .ref (ad th))]) C dX7_named_1 rfl (Nat.le_of_ble_eq_true rfl) rfl ?_
  refine g_iconst C dX7_named_2 ic_0 ?_
  refine g_istore_n (lv' := [(2, .int (0 : Int32)), (1, .int (0 : Int32)), (0, .ref (ad th))]) C dX7_named_3 rfl (Nat.le_of_ble_eq_true rfl) rfl ?_
  exact g_sub [2, 1, 0] rfl (J4 (0 : Int32) (0 : Int32) h)
def fX_State_howManyDead_b26 (th : Nat) (x1 : Int32) (x2 : Int32) (g : St) : Option ((Int32 × Int32) ⊕ (Int32)) :=
  some (.inl (x1, (x2 + (1 : Int32))))
def fX_State_howManyDead_L4 (th : Nat) (g : St) : (Int32 × Int32) → Option ((Int32 × Int32) ⊕ (Int32)) := fun ⟨x1, x2⟩ =>
  if (8 : Int32) ≤ x2 then
    (some (.inr x1))
  else
    (if ¬ (x2 < 0 ∨ 8 ≤ x2.toNatClampNeg) then (if (g (rX th 4) x2.toNatClampNeg) = (-1 : Int32) then
    (fX_State_howManyDead_b26 th x1 x2 g)
  else
    (fX_State_howManyDead_b26 th (x1 + (1 : Int32)) x2 g)) else none)
def fX_State_howManyDead_b4 (th : Nat) (x1 : Int32) (x2 : Int32) (g : St) : Option (Int32) :=
  (lp (fX_State_howManyDead_L4 th g) fuel (x1, x2)).bind (fun x1 => some x1)
def fX_State_howManyDead (th : Nat) (g : St) : Option (Int32) :=
  fX_State_howManyDead_b4 th (0 : Int32) (0 : Int32) g
def rmX_State_howManyDead : Room := { frames := 0, cells := 0, slots := 0, locals := 0 }
abbrev GcX_State_howManyDead (l : Launch) (D : va_G) (T : cT) (ad : Nat → Nat) (Γ : Cxt) (o : Int32) (xo : Sl) (g0 : St) (x : Sl) (g : St) (pc : Nat) (lv : List (Nat × Value)) (stk : List Value) : Prop := Gj l shX D T ad 3 (rmX_State_howManyDead) 0 0 Γ (MQ Γ.below (va_Qi (eqI o g0 xo) (wPost shX D T ad Γ.A) Γ.A) Γ.args Γ.s 0 0 Γ.A) x g pc lv stk
set_option maxRecDepth 100000 in
set_option maxHeartbeats 4000000 in
theorem cX_State_howManyDead (l : Launch) (D : va_G) (T : cT) (ad : Nat → Nat) (sK sV : Nat → Nat) (xo : Sl) (g : St) (th : Nat) (hth : isState th) (o : Int32) (h : fX_State_howManyDead th g = some o) (sz : Nat) : Met l yX7_howManyDead wX_State_howManyDead (rmX_State_howManyDead) (va_Pc [.ref (ad th)] (xPre shX D T ad sK sV xo g sz)) (va_Qi (eqI o g xo) (wPost shX D T ad (aW shX T ad xo g sz)) (aW shX T ad xo g sz)) 0 0 (aW shX T ad xo g sz) := by
  refine g_startx (Qc := fun A => va_Qi (eqI o g xo) (wPost shX D T ad A) A) (by decide +kernel) rfl rfl (Nat.le_of_ble_eq_true rfl) (lv := [(0, .ref (ad th))]) rfl (fun Γ Y => ?_)
  have C := Y.1
  show GcX_State_howManyDead l D T ad Γ o xo g xo g 0 [(0, .ref (ad th))] []
  have J4 : ∀ (x1 : Int32) (x2 : Int32), fX_State_howManyDead_b4 th x1 x2 g = some o → GcX_State_howManyDead l D T ad Γ o xo g xo g 4 [(0, .ref (ad th)), (1, .int x1), (2, .int x2)] [] := by
    intro x1 x2 h
    obtain ⟨x1, ht, h⟩ := bnd h
    refine lp_run (P := fun t : Int32 × Int32 => match t with | (x1, x2) => GcX_State_howManyDead l D T ad Γ o xo g xo g 4 [(0, .ref (ad th)), (1, .int x1), (2, .int x2)] []) (E := fun x1 : Int32 => GcX_State_howManyDead l D T ad Γ o xo g xo g 32 [(1, .int x1)] []) ?_ _ _ _ ht ?_
    · rintro ⟨x1, x2⟩ z h Kt Ke
      show GcX_State_howManyDead l D T ad Γ o xo g xo g 4 [(0, .ref (ad th)), (1, .int x1), (2, .int x2)] []
      have J26 : ∀ (x1 : Int32) (x2 : Int32), fX_State_howManyDead_b26 th x1 x2 g = some z → GcX_State_howManyDead l D T ad Γ o xo g xo g 26 [(0, .ref (ad th)), (1, .int x1), (2, .int x2)] [] := by
        intro x1 x2 h
        refine g_iinc (lv' := [(2, .int (x2 + (1 : Int32))), (0, .ref (ad th)), (1, .int x1)]) C dX7_howManyDead_26 2 rfl (ii_1 _) (Nat.le_of_ble_eq_true rfl) rfl ?_
        refine g_goto (tgt := 4) C dX7_howManyDead_29 (by decide) ?_
        exact g_sub [1, 2, 0] rfl (Kt _ (Option.some.inj h).symm)
      refine g_iload_n C dX7_howManyDead_4 rfl 2 rfl ?_
      refine g_aload_n C dX7_howManyDead_5 rfl 0 rfl ?_
      refine gX_get_X7_18 C (ob_State hth) (rf_State_4 hth) dX7_howManyDead_6 ?_
      refine g_alen (n := 8) (v := (8 : Int32)) C (ln_State_4 hth) (Nat.le_of_ble_eq_true rfl) rfl dX7_howManyDead_9 ?_
      refine g_icmp_ge C 32 dX7_howManyDead_10 (by decide) (fun c10 => ?_) (fun c10 => ?_)
      · have h := iteT c10 h
        exact g_sub [1] rfl (Ke _ (Option.some.inj h).symm)
      · have h := iteF c10 h
        refine g_aload_n C dX7_howManyDead_13 rfl 0 rfl ?_
        refine gX_get_X7_18 C (ob_State hth) (rf_State_4 hth) dX7_howManyDead_14 ?_
        refine g_iload_n C dX7_howManyDead_17 rfl 2 rfl ?_
        obtain ⟨hi18, h⟩ := grd h
        refine g_iald (n := 8) (v := g (rX th 4) x2.toNatClampNeg) C (ln_State_4 hth) hi18 rfl dX7_howManyDead_18 ?_
        refine g_iconst C dX7_howManyDead_19 ic_m1 ?_
        refine g_icmp_eq C 26 dX7_howManyDead_20 (by decide) (fun c20 => ?_) (fun c20 => ?_)
        · have h := iteT c20 h
          exact J26 x1 x2 h
        · have h := iteF c20 h
          refine g_iinc (lv' := [(1, .int (x1 + (1 : Int32))), (0, .ref (ad th)), (2, .int x2)]) C dX7_howManyDead_23 1 rfl (ii_1 _) (Nat.le_of_ble_eq_true rfl) rfl ?_
          exact g_sub [1, 0, 2] rfl (J26 (x1 + (1 : Int32)) x2 h)
    · show GcX_State_howManyDead l D T ad Γ o xo g xo g 32 [(1, .int x1)] []
      refine g_iload_n C dX7_howManyDead_32 rfl 0 rfl ?_
      obtain rfl := Option.some.inj h
      exact g_iret C rfl rfl rfl dX7_howManyDead_33
  refine g_iconst C dX7_howManyDead_0 ic_0 ?_
  refine g_istore_n (lv' := [(1, .int (0 : Int32)), (0, .ref (ad th))]) C dX7_howManyDead_1 rfl (Nat.le_of_ble_eq_true rfl) rfl ?_
  refine g_iconst C dX7_howManyDead_2 ic_0 ?_
  refine g_istore_n (lv' := [(2, .int (0 : Int32)), (1, .int (0 : Int32)), (0, .ref (ad th))]) C dX7_howManyDead_3 rfl (Nat.le_of_ble_eq_true rfl) rfl ?_
  exact g_sub [2, 1, 0] rfl (J4 (0 : Int32) (0 : Int32) h)
def fX_State_stonesUpTo_b40 (th : Nat) (x1 : Int32) (x2 : Int32) (x3 : Int32) (x4 : Int32) (g : St) : Option ((Int32 × Int32) ⊕ (Int32)) :=
  some (.inl (x3, (x4 + (1 : Int32))))
def fX_State_stonesUpTo_L5 (th : Nat) (x1 : Int32) (x2 : Int32) (g : St) : (Int32 × Int32) → Option ((Int32 × Int32) ⊕ (Int32)) := fun ⟨x3, x4⟩ =>
  if (g 2 0) ≤ x4 then
    (some (.inr x3))
  else
    (if ((x1 >>> (x4 &&& 31)) &&& (1 : Int32)) = (1 : Int32) then
    ((fX_State_stonesOf th x4 g).bind fun r32 => (fX_State_stonesUpTo_b40 th x1 x2 (x3 + (if r32 < x2 then r32 else x2)) x4 g))
  else
    (fX_State_stonesUpTo_b40 th x1 x2 x3 x4 g))
def fX_State_stonesUpTo_b5 (th : Nat) (x1 : Int32) (x2 : Int32) (x3 : Int32) (x4 : Int32) (g : St) : Option (Int32) :=
  (lp (fX_State_stonesUpTo_L5 th x1 x2 g) fuel (x3, x4)).bind (fun x3 => some x3)
def fX_State_stonesUpTo (th : Nat) (x1 : Int32) (x2 : Int32) (g : St) : Option (Int32) :=
  fX_State_stonesUpTo_b5 th x1 x2 (0 : Int32) (0 : Int32) g
def rmX_State_stonesUpTo : Room := { frames := 1, cells := 0, slots := 0, locals := 40 }
abbrev GcX_State_stonesUpTo (l : Launch) (D : va_G) (T : cT) (ad : Nat → Nat) (Γ : Cxt) (o : Int32) (xo : Sl) (g0 : St) (x : Sl) (g : St) (pc : Nat) (lv : List (Nat × Value)) (stk : List Value) : Prop := Gj l shX D T ad 5 (rmX_State_stonesUpTo) 0 0 Γ (MQ Γ.below (va_Qi (eqI o g0 xo) (wPost shX D T ad Γ.A) Γ.A) Γ.args Γ.s 0 0 Γ.A) x g pc lv stk
set_option maxRecDepth 100000 in
set_option maxHeartbeats 4000000 in
theorem cX_State_stonesUpTo (l : Launch) (D : va_G) (T : cT) (ad : Nat → Nat) (sK sV : Nat → Nat) (xo : Sl) (g : St) (th : Nat) (x1 : Int32) (x2 : Int32) (hth : isState th) (o : Int32) (h : fX_State_stonesUpTo th x1 x2 g = some o) (sz : Nat) : Met l yX7_stonesUpTo wX_State_stonesUpTo (rmX_State_stonesUpTo) (va_Pc [.ref (ad th), .int x1, .int x2] (xPre shX D T ad sK sV xo g sz)) (va_Qi (eqI o g xo) (wPost shX D T ad (aW shX T ad xo g sz)) (aW shX T ad xo g sz)) 0 0 (aW shX T ad xo g sz) := by
  refine g_startx (Qc := fun A => va_Qi (eqI o g xo) (wPost shX D T ad A) A) (by decide +kernel) rfl rfl (Nat.le_of_ble_eq_true rfl) (lv := [(0, .ref (ad th)), (1, .int x1), (2, .int x2)]) rfl (fun Γ Y => ?_)
  have C := Y.1
  show GcX_State_stonesUpTo l D T ad Γ o xo g xo g 0 [(0, .ref (ad th)), (1, .int x1), (2, .int x2)] []
  have J5 : ∀ (x1 : Int32) (x2 : Int32) (x3 : Int32) (x4 : Int32), fX_State_stonesUpTo_b5 th x1 x2 x3 x4 g = some o → GcX_State_stonesUpTo l D T ad Γ o xo g xo g 5 [(0, .ref (ad th)), (1, .int x1), (2, .int x2), (3, .int x3), (4, .int x4)] [] := by
    intro x1 x2 x3 x4 h
    obtain ⟨x3, ht, h⟩ := bnd h
    refine lp_run (P := fun t : Int32 × Int32 => match t with | (x3, x4) => GcX_State_stonesUpTo l D T ad Γ o xo g xo g 5 [(0, .ref (ad th)), (1, .int x1), (2, .int x2), (3, .int x3), (4, .int x4)] []) (E := fun x3 : Int32 => GcX_State_stonesUpTo l D T ad Γ o xo g xo g 46 [(3, .int x3)] []) ?_ _ _ _ ht ?_
    · rintro ⟨x3, x4⟩ z h Kt Ke
      show GcX_State_stonesUpTo l D T ad Γ o xo g xo g 5 [(0, .ref (ad th)), (1, .int x1), (2, .int x2), (3, .int x3), (4, .int x4)] []
      have J40 : ∀ (x3 : Int32) (x4 : Int32), fX_State_stonesUpTo_b40 th x1 x2 x3 x4 g = some z → GcX_State_stonesUpTo l D T ad Γ o xo g xo g 40 [(0, .ref (ad th)), (1, .int x1), (2, .int x2), (3, .int x3), (4, .int x4)] [] := by
        intro x3 x4 h
        refine g_iinc (lv' := [(4, .int (x4 + (1 : Int32))), (0, .ref (ad th)), (1, .int x1), (2, .int x2), (3, .int x3)]) C dX7_stonesUpTo_40 4 rfl (ii_1 _) (Nat.le_of_ble_eq_true rfl) rfl ?_
        refine g_goto (tgt := 5) C dX7_stonesUpTo_43 (by decide) ?_
        exact g_sub [1, 2, 3, 4, 0] rfl (Kt _ (Option.some.inj h).symm)
      refine g_iload C dX7_stonesUpTo_5 4 rfl ?_
      refine g_aload_n C dX7_stonesUpTo_7 rfl 0 rfl ?_
      refine gX_get_X7_21 C (ob_State hth) (rf_State_0 hth) dX7_stonesUpTo_8 ?_
      refine gX_get_X7_33 (v := g 2 0) C ob_2 rfl rfl dX7_stonesUpTo_11 ?_
      refine g_icmp_ge C 46 dX7_stonesUpTo_14 (by decide) (fun c14 => ?_) (fun c14 => ?_)
      · have h := iteT c14 h
        exact g_sub [3] rfl (Ke _ (Option.some.inj h).symm)
      · have h := iteF c14 h
        refine g_iload_n C dX7_stonesUpTo_17 rfl 1 rfl ?_
        refine g_iload C dX7_stonesUpTo_18 4 rfl ?_
        refine g_ishr C dX7_stonesUpTo_20 ?_
        refine g_iconst C dX7_stonesUpTo_21 ic_1 ?_
        refine g_iand C dX7_stonesUpTo_22 ?_
        refine g_iconst C dX7_stonesUpTo_23 ic_1 ?_
        refine g_icmp_ne C 40 dX7_stonesUpTo_24 (by decide) (fun c24 => ?_) (fun c24 => ?_)
        · have h := iteT c24 h
          refine g_iload_n C dX7_stonesUpTo_27 rfl 3 rfl ?_
          refine g_iload_n C dX7_stonesUpTo_28 rfl 2 rfl ?_
          refine g_aload_n C dX7_stonesUpTo_29 rfl 0 rfl ?_
          refine g_iload C dX7_stonesUpTo_30 4 rfl ?_
          obtain ⟨r32, hr32, h⟩ := bnd h
          refine g_xVi (k := th) (As := [.int x4]) (rest := [.int x2, .int x3]) (ro := r32) (go := g) (xo := xo) Y (fun sz => cX_State_stonesOf l D T ad sK sV xo g th x4 hth _ hr32 sz) kX_RX7_62_State_stonesOf ⟨Nat.le_of_ble_eq_true rfl, Nat.le_of_ble_eq_true rfl⟩ ⟨rfl, rfl⟩ ⟨Nat.zero_le _, Nat.zero_le _⟩ (rfl : vwCl[6]? = some (RX7, TX7, 6)) (ob_State hth) rfl rfl (Nat.le_of_ble_eq_true rfl) dX7_stonesUpTo_32 ?_
          refine g_mmin (rest := [.int x3]) C (List.mem_cons_of_mem _ bx_343) (List.mem_cons_of_mem _ bx_56) (List.mem_cons_of_mem _ bx_57) (List.mem_cons_of_mem _ bx_58) (Nat.le_of_ble_eq_true rfl) (Nat.le_of_ble_eq_true rfl) ⟨Nat.zero_le _, Nat.zero_le _⟩ dX7_stonesUpTo_35 ?_
          refine g_iadd C dX7_stonesUpTo_38 ?_
          refine g_istore_n (lv' := [(3, .int (x3 + (if r32 < x2 then r32 else x2))), (0, .ref (ad th)), (1, .int x1), (2, .int x2), (4, .int x4)]) C dX7_stonesUpTo_39 rfl (Nat.le_of_ble_eq_true rfl) rfl ?_
          exact g_sub [1, 2, 3, 0, 4] rfl (J40 (x3 + (if r32 < x2 then r32 else x2)) x4 h)
        · have h := iteF c24 h
          exact J40 x3 x4 h
    · show GcX_State_stonesUpTo l D T ad Γ o xo g xo g 46 [(3, .int x3)] []
      refine g_iload_n C dX7_stonesUpTo_46 rfl 0 rfl ?_
      obtain rfl := Option.some.inj h
      exact g_iret C rfl rfl rfl dX7_stonesUpTo_47
  refine g_iconst C dX7_stonesUpTo_0 ic_0 ?_
  refine g_istore_n (lv' := [(3, .int (0 : Int32)), (0, .ref (ad th)), (1, .int x1), (2, .int x2)]) C dX7_stonesUpTo_1 rfl (Nat.le_of_ble_eq_true rfl) rfl ?_
  refine g_iconst C dX7_stonesUpTo_2 ic_0 ?_
  refine g_istore (lv' := [(4, .int (0 : Int32)), (3, .int (0 : Int32)), (0, .ref (ad th)), (1, .int x1), (2, .int x2)]) C dX7_stonesUpTo_3 (Nat.le_of_ble_eq_true rfl) rfl ?_
  exact g_sub [2, 3, 4, 1, 0] rfl (J5 x1 x2 (0 : Int32) (0 : Int32) h)
def fX_State_directlyUnder_b33 (th : Nat) (x1 : Int32) (x2 : Int32) (x3 : Int32) (g : St) : Option ((Int32 × Int32) ⊕ (Int32)) :=
  some (.inl (x2, (x3 + (1 : Int32))))
def fX_State_directlyUnder_L4 (th : Nat) (x1 : Int32) (g : St) : (Int32 × Int32) → Option ((Int32 × Int32) ⊕ (Int32)) := fun ⟨x2, x3⟩ =>
  if (g 2 0) ≤ x3 then
    (some (.inr x2))
  else
    ((fX_Rows_at (rX th 3) x3 g).bind fun r20 => (if r20 = x1 then
    (fX_State_directlyUnder_b33 th x1 (x2 ||| ((1 : Int32) <<< (x3 &&& 31))) x3 g)
  else
    (fX_State_directlyUnder_b33 th x1 x2 x3 g)))
def fX_State_directlyUnder_b4 (th : Nat) (x1 : Int32) (x2 : Int32) (x3 : Int32) (g : St) : Option (Int32) :=
  (lp (fX_State_directlyUnder_L4 th x1 g) fuel (x2, x3)).bind (fun x2 => some x2)
def fX_State_directlyUnder (th : Nat) (x1 : Int32) (g : St) : Option (Int32) :=
  fX_State_directlyUnder_b4 th x1 (0 : Int32) (0 : Int32) g
def rmX_State_directlyUnder : Room := { frames := 1, cells := 0, slots := 0, locals := 21 }
abbrev GcX_State_directlyUnder (l : Launch) (D : va_G) (T : cT) (ad : Nat → Nat) (Γ : Cxt) (o : Int32) (xo : Sl) (g0 : St) (x : Sl) (g : St) (pc : Nat) (lv : List (Nat × Value)) (stk : List Value) : Prop := Gj l shX D T ad 4 (rmX_State_directlyUnder) 0 0 Γ (MQ Γ.below (va_Qi (eqI o g0 xo) (wPost shX D T ad Γ.A) Γ.A) Γ.args Γ.s 0 0 Γ.A) x g pc lv stk
set_option maxRecDepth 100000 in
set_option maxHeartbeats 4000000 in
theorem cX_State_directlyUnder (l : Launch) (D : va_G) (T : cT) (ad : Nat → Nat) (sK sV : Nat → Nat) (xo : Sl) (g : St) (th : Nat) (x1 : Int32) (hth : isState th) (o : Int32) (h : fX_State_directlyUnder th x1 g = some o) (sz : Nat) : Met l yX7_directlyUnder wX_State_directlyUnder (rmX_State_directlyUnder) (va_Pc [.ref (ad th), .int x1] (xPre shX D T ad sK sV xo g sz)) (va_Qi (eqI o g xo) (wPost shX D T ad (aW shX T ad xo g sz)) (aW shX T ad xo g sz)) 0 0 (aW shX T ad xo g sz) := by
  refine g_startx (Qc := fun A => va_Qi (eqI o g xo) (wPost shX D T ad A) A) (by decide +kernel) rfl rfl (Nat.le_of_ble_eq_true rfl) (lv := [(0, .ref (ad th)), (1, .int x1)]) rfl (fun Γ Y => ?_)
  have C := Y.1
  show GcX_State_directlyUnder l D T ad Γ o xo g xo g 0 [(0, .ref (ad th)), (1, .int x1)] []
  have J4 : ∀ (x1 : Int32) (x2 : Int32) (x3 : Int32), fX_State_directlyUnder_b4 th x1 x2 x3 g = some o → GcX_State_directlyUnder l D T ad Γ o xo g xo g 4 [(0, .ref (ad th)), (1, .int x1), (2, .int x2), (3, .int x3)] [] := by
    intro x1 x2 x3 h
    obtain ⟨x2, ht, h⟩ := bnd h
    refine lp_run (P := fun t : Int32 × Int32 => match t with | (x2, x3) => GcX_State_directlyUnder l D T ad Γ o xo g xo g 4 [(0, .ref (ad th)), (1, .int x1), (2, .int x2), (3, .int x3)] []) (E := fun x2 : Int32 => GcX_State_directlyUnder l D T ad Γ o xo g xo g 39 [(2, .int x2)] []) ?_ _ _ _ ht ?_
    · rintro ⟨x2, x3⟩ z h Kt Ke
      show GcX_State_directlyUnder l D T ad Γ o xo g xo g 4 [(0, .ref (ad th)), (1, .int x1), (2, .int x2), (3, .int x3)] []
      have J33 : ∀ (x2 : Int32) (x3 : Int32), fX_State_directlyUnder_b33 th x1 x2 x3 g = some z → GcX_State_directlyUnder l D T ad Γ o xo g xo g 33 [(0, .ref (ad th)), (1, .int x1), (2, .int x2), (3, .int x3)] [] := by
        intro x2 x3 h
        refine g_iinc (lv' := [(3, .int (x3 + (1 : Int32))), (0, .ref (ad th)), (1, .int x1), (2, .int x2)]) C dX7_directlyUnder_33 3 rfl (ii_1 _) (Nat.le_of_ble_eq_true rfl) rfl ?_
        refine g_goto (tgt := 4) C dX7_directlyUnder_36 (by decide) ?_
        exact g_sub [1, 2, 3, 0] rfl (Kt _ (Option.some.inj h).symm)
      refine g_iload_n C dX7_directlyUnder_4 rfl 3 rfl ?_
      refine g_aload_n C dX7_directlyUnder_5 rfl 0 rfl ?_
      refine gX_get_X7_21 C (ob_State hth) (rf_State_0 hth) dX7_directlyUnder_6 ?_
      refine gX_get_X7_33 (v := g 2 0) C ob_2 rfl rfl dX7_directlyUnder_9 ?_
      refine g_icmp_ge C 39 dX7_directlyUnder_12 (by decide) (fun c12 => ?_) (fun c12 => ?_)
      · have h := iteT c12 h
        exact g_sub [2] rfl (Ke _ (Option.some.inj h).symm)
      · have h := iteF c12 h
        refine g_aload_n C dX7_directlyUnder_15 rfl 0 rfl ?_
        refine gX_get_X7_15 C (ob_State hth) (rf_State_3 hth) dX7_directlyUnder_16 ?_
        refine g_iload_n C dX7_directlyUnder_19 rfl 3 rfl ?_
        obtain ⟨r20, hr20, h⟩ := bnd h
        refine g_xSi (As := [.ref (ad (rX th 3)), .int x3]) (rest := []) (ro := r20) (go := g) (xo := xo) Y (fun sz => cX_Rows_at l D T ad sK sV xo g (rX th 3) x3 _ hr20 sz) kX_RX7_41_Rows_at ⟨Nat.le_of_ble_eq_true rfl, Nat.le_of_ble_eq_true rfl⟩ ⟨rfl, rfl⟩ ⟨Nat.zero_le _, Nat.zero_le _⟩ rfl rfl (Nat.le_of_ble_eq_true rfl) dX7_directlyUnder_20 ?_
        refine g_iload_n C dX7_directlyUnder_23 rfl 1 rfl ?_
        refine g_icmp_ne C 33 dX7_directlyUnder_24 (by decide) (fun c24 => ?_) (fun c24 => ?_)
        · have h := iteT c24 h
          refine g_iload_n C dX7_directlyUnder_27 rfl 2 rfl ?_
          refine g_iconst C dX7_directlyUnder_28 ic_1 ?_
          refine g_iload_n C dX7_directlyUnder_29 rfl 3 rfl ?_
          refine g_ishl C dX7_directlyUnder_30 ?_
          refine g_ior C dX7_directlyUnder_31 ?_
          refine g_istore_n (lv' := [(2, .int (x2 ||| ((1 : Int32) <<< (x3 &&& 31)))), (0, .ref (ad th)), (1, .int x1), (3, .int x3)]) C dX7_directlyUnder_32 rfl (Nat.le_of_ble_eq_true rfl) rfl ?_
          exact g_sub [1, 2, 0, 3] rfl (J33 (x2 ||| ((1 : Int32) <<< (x3 &&& 31))) x3 h)
        · have h := iteF c24 h
          exact J33 x2 x3 h
    · show GcX_State_directlyUnder l D T ad Γ o xo g xo g 39 [(2, .int x2)] []
      refine g_iload_n C dX7_directlyUnder_39 rfl 0 rfl ?_
      obtain rfl := Option.some.inj h
      exact g_iret C rfl rfl rfl dX7_directlyUnder_40
  refine g_iconst C dX7_directlyUnder_0 ic_0 ?_
  refine g_istore_n (lv' := [(2, .int (0 : Int32)), (0, .ref (ad th)), (1, .int x1)]) C dX7_directlyUnder_1 rfl (Nat.le_of_ble_eq_true rfl) rfl ?_
  refine g_iconst C dX7_directlyUnder_2 ic_0 ?_
  refine g_istore_n (lv' := [(3, .int (0 : Int32)), (2, .int (0 : Int32)), (0, .ref (ad th)), (1, .int x1)]) C dX7_directlyUnder_3 rfl (Nat.le_of_ble_eq_true rfl) rfl ?_
  exact g_sub [2, 3, 1, 0] rfl (J4 x1 (0 : Int32) (0 : Int32) h)
def fX_State_allDebts_L4 (th : Nat) (g : St) : (Int32 × Int32) → Option ((Int32 × Int32) ⊕ (Int32)) := fun ⟨x1, x2⟩ =>
  if (8 : Int32) ≤ x2 then
    (some (.inr x1))
  else
    (if ¬ (x2 < 0 ∨ 8 ≤ x2.toNatClampNeg) then (some (.inl ((x1 + (g (rX th 2) x2.toNatClampNeg)), (x2 + (1 : Int32))))) else none)
def fX_State_allDebts_b4 (th : Nat) (x1 : Int32) (x2 : Int32) (g : St) : Option (Int32) :=
  (lp (fX_State_allDebts_L4 th g) fuel (x1, x2)).bind (fun x1 => some x1)
def fX_State_allDebts (th : Nat) (g : St) : Option (Int32) :=
  fX_State_allDebts_b4 th (0 : Int32) (0 : Int32) g
def rmX_State_allDebts : Room := { frames := 0, cells := 0, slots := 0, locals := 0 }
abbrev GcX_State_allDebts (l : Launch) (D : va_G) (T : cT) (ad : Nat → Nat) (Γ : Cxt) (o : Int32) (xo : Sl) (g0 : St) (x : Sl) (g : St) (pc : Nat) (lv : List (Nat × Value)) (stk : List Value) : Prop := Gj l shX D T ad 3 (rmX_State_allDebts) 0 0 Γ (MQ Γ.below (va_Qi (eqI o g0 xo) (wPost shX D T ad Γ.A) Γ.A) Γ.args Γ.s 0 0 Γ.A) x g pc lv stk
set_option maxRecDepth 100000 in
set_option maxHeartbeats 4000000 in
theorem cX_State_allDebts (l : Launch) (D : va_G) (T : cT) (ad : Nat → Nat) (sK sV : Nat → Nat) (xo : Sl) (g : St) (th : Nat) (hth : isState th) (o : Int32) (h : fX_State_allDebts th g = some o) (sz : Nat) : Met l yX7_allDebts wX_State_allDebts (rmX_State_allDebts) (va_Pc [.ref (ad th)] (xPre shX D T ad sK sV xo g sz)) (va_Qi (eqI o g xo) (wPost shX D T ad (aW shX T ad xo g sz)) (aW shX T ad xo g sz)) 0 0 (aW shX T ad xo g sz) := by
  refine g_startx (Qc := fun A => va_Qi (eqI o g xo) (wPost shX D T ad A) A) (by decide +kernel) rfl rfl (Nat.le_of_ble_eq_true rfl) (lv := [(0, .ref (ad th))]) rfl (fun Γ Y => ?_)
  have C := Y.1
  show GcX_State_allDebts l D T ad Γ o xo g xo g 0 [(0, .ref (ad th))] []
  have J4 : ∀ (x1 : Int32) (x2 : Int32), fX_State_allDebts_b4 th x1 x2 g = some o → GcX_State_allDebts l D T ad Γ o xo g xo g 4 [(0, .ref (ad th)), (1, .int x1), (2, .int x2)] [] := by
    intro x1 x2 h
    obtain ⟨x1, ht, h⟩ := bnd h
    refine lp_run (P := fun t : Int32 × Int32 => match t with | (x1, x2) => GcX_State_allDebts l D T ad Γ o xo g xo g 4 [(0, .ref (ad th)), (1, .int x1), (2, .int x2)] []) (E := fun x1 : Int32 => GcX_State_allDebts l D T ad Γ o xo g xo g 28 [(1, .int x1)] []) ?_ _ _ _ ht ?_
    · rintro ⟨x1, x2⟩ z h Kt Ke
      show GcX_State_allDebts l D T ad Γ o xo g xo g 4 [(0, .ref (ad th)), (1, .int x1), (2, .int x2)] []
      refine g_iload_n C dX7_allDebts_4 rfl 2 rfl ?_
      refine g_aload_n C dX7_allDebts_5 rfl 0 rfl ?_
      refine gX_get_X7_9 C (ob_State hth) (rf_State_2 hth) dX7_allDebts_6 ?_
      refine g_alen (n := 8) (v := (8 : Int32)) C (ln_State_2 hth) (Nat.le_of_ble_eq_true rfl) rfl dX7_allDebts_9 ?_
      refine g_icmp_ge C 28 dX7_allDebts_10 (by decide) (fun c10 => ?_) (fun c10 => ?_)
      · have h := iteT c10 h
        exact g_sub [1] rfl (Ke _ (Option.some.inj h).symm)
      · have h := iteF c10 h
        refine g_iload_n C dX7_allDebts_13 rfl 1 rfl ?_
        refine g_aload_n C dX7_allDebts_14 rfl 0 rfl ?_
        refine gX_get_X7_9 C (ob_State hth) (rf_State_2 hth) dX7_allDebts_15 ?_
        refine g_iload_n C dX7_allDebts_18 rfl 2 rfl ?_
        obtain ⟨hi19, h⟩ := grd h
        refine g_iald (n := 8) (v := g (rX th 2) x2.toNatClampNeg) C (ln_State_2 hth) hi19 rfl dX7_allDebts_19 ?_
        refine g_iadd C dX7_allDebts_20 ?_
        refine g_istore_n (lv' := [(1, .int (x1 + (g (rX th 2) x2.toNatClampNeg))), (0, .ref (ad th)), (2, .int x2)]) C dX7_allDebts_21 rfl (Nat.le_of_ble_eq_true rfl) rfl ?_
        refine g_iinc (lv' := [(2, .int (x2 + (1 : Int32))), (1, .int (x1 + (g (rX th 2) x2.toNatClampNeg))), (0, .ref (ad th))]) C dX7_allDebts_22 2 rfl (ii_1 _) (Nat.le_of_ble_eq_true rfl) rfl ?_
        refine g_goto (tgt := 4) C dX7_allDebts_25 (by decide) ?_
        exact g_sub [2, 1, 0] rfl (Kt _ (Option.some.inj h).symm)
    · show GcX_State_allDebts l D T ad Γ o xo g xo g 28 [(1, .int x1)] []
      refine g_iload_n C dX7_allDebts_28 rfl 0 rfl ?_
      obtain rfl := Option.some.inj h
      exact g_iret C rfl rfl rfl dX7_allDebts_29
  refine g_iconst C dX7_allDebts_0 ic_0 ?_
  refine g_istore_n (lv' := [(1, .int (0 : Int32)), (0, .ref (ad th))]) C dX7_allDebts_1 rfl (Nat.le_of_ble_eq_true rfl) rfl ?_
  refine g_iconst C dX7_allDebts_2 ic_0 ?_
  refine g_istore_n (lv' := [(2, .int (0 : Int32)), (1, .int (0 : Int32)), (0, .ref (ad th))]) C dX7_allDebts_3 rfl (Nat.le_of_ble_eq_true rfl) rfl ?_
  exact g_sub [2, 1, 0] rfl (J4 (0 : Int32) (0 : Int32) h)
def fX_State_debtsOfDead_b34 (th : Nat) (x1 : Int32) (x2 : Int32) (g : St) : Option ((Int32 × Int32) ⊕ (Int32)) :=
  some (.inl (x1, (x2 + (1 : Int32))))
def fX_State_debtsOfDead_L4 (th : Nat) (g : St) : (Int32 × Int32) → Option ((Int32 × Int32) ⊕ (Int32)) := fun ⟨x1, x2⟩ =>
  if (g 2 0) ≤ x2 then
    (some (.inr x1))
  else
    ((fX_State_isDead th x2 g).bind fun r17 => (if r17 = 0 then
    (fX_State_debtsOfDead_b34 th x1 x2 g)
  else
    ((fX_Rows_at (rX th 2) x2 g).bind fun r29 => (fX_State_debtsOfDead_b34 th (x1 + r29) x2 g))))
def fX_State_debtsOfDead_b4 (th : Nat) (x1 : Int32) (x2 : Int32) (g : St) : Option (Int32) :=
  (lp (fX_State_debtsOfDead_L4 th g) fuel (x1, x2)).bind (fun x1 => some x1)
def fX_State_debtsOfDead (th : Nat) (g : St) : Option (Int32) :=
  fX_State_debtsOfDead_b4 th (0 : Int32) (0 : Int32) g
def rmX_State_debtsOfDead : Room := { frames := 2, cells := 0, slots := 0, locals := 42 }
abbrev GcX_State_debtsOfDead (l : Launch) (D : va_G) (T : cT) (ad : Nat → Nat) (Γ : Cxt) (o : Int32) (xo : Sl) (g0 : St) (x : Sl) (g : St) (pc : Nat) (lv : List (Nat × Value)) (stk : List Value) : Prop := Gj l shX D T ad 3 (rmX_State_debtsOfDead) 0 0 Γ (MQ Γ.below (va_Qi (eqI o g0 xo) (wPost shX D T ad Γ.A) Γ.A) Γ.args Γ.s 0 0 Γ.A) x g pc lv stk
set_option maxRecDepth 100000 in
set_option maxHeartbeats 4000000 in
theorem cX_State_debtsOfDead (l : Launch) (D : va_G) (T : cT) (ad : Nat → Nat) (sK sV : Nat → Nat) (xo : Sl) (g : St) (th : Nat) (hth : isState th) (o : Int32) (h : fX_State_debtsOfDead th g = some o) (sz : Nat) : Met l yX7_debtsOfDead wX_State_debtsOfDead (rmX_State_debtsOfDead) (va_Pc [.ref (ad th)] (xPre shX D T ad sK sV xo g sz)) (va_Qi (eqI o g xo) (wPost shX D T ad (aW shX T ad xo g sz)) (aW shX T ad xo g sz)) 0 0 (aW shX T ad xo g sz) := by
  refine g_startx (Qc := fun A => va_Qi (eqI o g xo) (wPost shX D T ad A) A) (by decide +kernel) rfl rfl (Nat.le_of_ble_eq_true rfl) (lv := [(0, .ref (ad th))]) rfl (fun Γ Y => ?_)
  have C := Y.1
  show GcX_State_debtsOfDead l D T ad Γ o xo g xo g 0 [(0, .ref (ad th))] []
  have J4 : ∀ (x1 : Int32) (x2 : Int32), fX_State_debtsOfDead_b4 th x1 x2 g = some o → GcX_State_debtsOfDead l D T ad Γ o xo g xo g 4 [(0, .ref (ad th)), (1, .int x1), (2, .int x2)] [] := by
    intro x1 x2 h
    obtain ⟨x1, ht, h⟩ := bnd h
    refine lp_run (P := fun t : Int32 × Int32 => match t with | (x1, x2) => GcX_State_debtsOfDead l D T ad Γ o xo g xo g 4 [(0, .ref (ad th)), (1, .int x1), (2, .int x2)] []) (E := fun x1 : Int32 => GcX_State_debtsOfDead l D T ad Γ o xo g xo g 40 [(1, .int x1)] []) ?_ _ _ _ ht ?_
    · rintro ⟨x1, x2⟩ z h Kt Ke
      show GcX_State_debtsOfDead l D T ad Γ o xo g xo g 4 [(0, .ref (ad th)), (1, .int x1), (2, .int x2)] []
      have J34 : ∀ (x1 : Int32) (x2 : Int32), fX_State_debtsOfDead_b34 th x1 x2 g = some z → GcX_State_debtsOfDead l D T ad Γ o xo g xo g 34 [(0, .ref (ad th)), (1, .int x1), (2, .int x2)] [] := by
        intro x1 x2 h
        refine g_iinc (lv' := [(2, .int (x2 + (1 : Int32))), (0, .ref (ad th)), (1, .int x1)]) C dX7_debtsOfDead_34 2 rfl (ii_1 _) (Nat.le_of_ble_eq_true rfl) rfl ?_
        refine g_goto (tgt := 4) C dX7_debtsOfDead_37 (by decide) ?_
        exact g_sub [1, 2, 0] rfl (Kt _ (Option.some.inj h).symm)
      refine g_iload_n C dX7_debtsOfDead_4 rfl 2 rfl ?_
      refine g_aload_n C dX7_debtsOfDead_5 rfl 0 rfl ?_
      refine gX_get_X7_21 C (ob_State hth) (rf_State_0 hth) dX7_debtsOfDead_6 ?_
      refine gX_get_X7_33 (v := g 2 0) C ob_2 rfl rfl dX7_debtsOfDead_9 ?_
      refine g_icmp_ge C 40 dX7_debtsOfDead_12 (by decide) (fun c12 => ?_) (fun c12 => ?_)
      · have h := iteT c12 h
        exact g_sub [1] rfl (Ke _ (Option.some.inj h).symm)
      · have h := iteF c12 h
        refine g_aload_n C dX7_debtsOfDead_15 rfl 0 rfl ?_
        refine g_iload_n C dX7_debtsOfDead_16 rfl 2 rfl ?_
        obtain ⟨r17, hr17, h⟩ := bnd h
        refine g_xVz (k := th) (As := [.int x2]) (rest := []) (ro := r17) (go := g) (xo := xo) Y (fun sz => cX_State_isDead l D T ad sK sV xo g th x2 hth _ hr17 sz) kX_RX7_59_State_isDead ⟨Nat.le_of_ble_eq_true rfl, Nat.le_of_ble_eq_true rfl⟩ ⟨rfl, rfl⟩ ⟨Nat.zero_le _, Nat.zero_le _⟩ (rfl : vwCl[6]? = some (RX7, TX7, 6)) (ob_State hth) rfl rfl (Nat.le_of_ble_eq_true rfl) dX7_debtsOfDead_17 (fun hz17 => ?_)
        refine g_if_eq C 34 dX7_debtsOfDead_20 (by decide) (fun c20 => ?_) (fun c20 => ?_)
        · have h := iteT c20 h
          exact J34 x1 x2 h
        · have h := iteF c20 h
          refine g_iload_n C dX7_debtsOfDead_23 rfl 1 rfl ?_
          refine g_aload_n C dX7_debtsOfDead_24 rfl 0 rfl ?_
          refine gX_get_X7_9 C (ob_State hth) (rf_State_2 hth) dX7_debtsOfDead_25 ?_
          refine g_iload_n C dX7_debtsOfDead_28 rfl 2 rfl ?_
          obtain ⟨r29, hr29, h⟩ := bnd h
          refine g_xSi (As := [.ref (ad (rX th 2)), .int x2]) (rest := [.int x1]) (ro := r29) (go := g) (xo := xo) Y (fun sz => cX_Rows_at l D T ad sK sV xo g (rX th 2) x2 _ hr29 sz) kX_RX7_41_Rows_at ⟨Nat.le_of_ble_eq_true rfl, Nat.le_of_ble_eq_true rfl⟩ ⟨rfl, rfl⟩ ⟨Nat.zero_le _, Nat.zero_le _⟩ rfl rfl (Nat.le_of_ble_eq_true rfl) dX7_debtsOfDead_29 ?_
          refine g_iadd C dX7_debtsOfDead_32 ?_
          refine g_istore_n (lv' := [(1, .int (x1 + r29)), (0, .ref (ad th)), (2, .int x2)]) C dX7_debtsOfDead_33 rfl (Nat.le_of_ble_eq_true rfl) rfl ?_
          exact g_sub [1, 0, 2] rfl (J34 (x1 + r29) x2 h)
    · show GcX_State_debtsOfDead l D T ad Γ o xo g xo g 40 [(1, .int x1)] []
      refine g_iload_n C dX7_debtsOfDead_40 rfl 0 rfl ?_
      obtain rfl := Option.some.inj h
      exact g_iret C rfl rfl rfl dX7_debtsOfDead_41
  refine g_iconst C dX7_debtsOfDead_0 ic_0 ?_
  refine g_istore_n (lv' := [(1, .int (0 : Int32)), (0, .ref (ad th))]) C dX7_debtsOfDead_1 rfl (Nat.le_of_ble_eq_true rfl) rfl ?_
  refine g_iconst C dX7_debtsOfDead_2 ic_0 ?_
  refine g_istore_n (lv' := [(2, .int (0 : Int32)), (1, .int (0 : Int32)), (0, .ref (ad th))]) C dX7_debtsOfDead_3 rfl (Nat.le_of_ble_eq_true rfl) rfl ?_
  exact g_sub [2, 1, 0] rfl (J4 (0 : Int32) (0 : Int32) h)
def fX_State_mostInDebt_b41 (th : Nat) (x1 : Int32) (x2 : Int32) (g : St) : Option ((Int32 × Int32) ⊕ (Int32)) :=
  some (.inl (x1, (x2 + (1 : Int32))))
def fX_State_mostInDebt_b39 (th : Nat) (x2 : Int32) (g : St) : Option ((Int32 × Int32) ⊕ (Int32)) :=
  fX_State_mostInDebt_b41 th x2 x2 g
def fX_State_mostInDebt_L4 (th : Nat) (g : St) : (Int32 × Int32) → Option ((Int32 × Int32) ⊕ (Int32)) := fun ⟨x1, x2⟩ =>
  if (g 2 0) ≤ x2 then
    (some (.inr x1))
  else
    (if x1 = (-1 : Int32) then
    (fX_State_mostInDebt_b39 th x2 g)
  else
    ((fX_Rows_at (rX th 2) x2 g).bind fun r25 => ((fX_Rows_at (rX th 2) x1 g).bind fun r33 => (if r25 ≤ r33 then
    (fX_State_mostInDebt_b41 th x1 x2 g)
  else
    (fX_State_mostInDebt_b39 th x2 g)))))
def fX_State_mostInDebt_b4 (th : Nat) (x1 : Int32) (x2 : Int32) (g : St) : Option (Int32) :=
  (lp (fX_State_mostInDebt_L4 th g) fuel (x1, x2)).bind (fun x1 => some x1)
def fX_State_mostInDebt (th : Nat) (g : St) : Option (Int32) :=
  fX_State_mostInDebt_b4 th (-1 : Int32) (0 : Int32) g
def rmX_State_mostInDebt : Room := { frames := 1, cells := 0, slots := 0, locals := 21 }
abbrev GcX_State_mostInDebt (l : Launch) (D : va_G) (T : cT) (ad : Nat → Nat) (Γ : Cxt) (o : Int32) (xo : Sl) (g0 : St) (x : Sl) (g : St) (pc : Nat) (lv : List (Nat × Value)) (stk : List Value) : Prop := Gj l shX D T ad 3 (rmX_State_mostInDebt) 0 0 Γ (MQ Γ.below (va_Qi (eqI o g0 xo) (wPost shX D T ad Γ.A) Γ.A) Γ.args Γ.s 0 0 Γ.A) x g pc lv stk
set_option maxRecDepth 100000 in
set_option maxHeartbeats 4000000 in
theorem cX_State_mostInDebt (l : Launch) (D : va_G) (T : cT) (ad : Nat → Nat) (sK sV : Nat → Nat) (xo : Sl) (g : St) (th : Nat) (hth : isState th) (o : Int32) (h : fX_State_mostInDebt th g = some o) (sz : Nat) : Met l yX7_mostInDebt wX_State_mostInDebt (rmX_State_mostInDebt) (va_Pc [.ref (ad th)] (xPre shX D T ad sK sV xo g sz)) (va_Qi (eqI o g xo) (wPost shX D T ad (aW shX T ad xo g sz)) (aW shX T ad xo g sz)) 0 0 (aW shX T ad xo g sz) := by
  refine g_startx (Qc := fun A => va_Qi (eqI o g xo) (wPost shX D T ad A) A) (by decide +kernel) rfl rfl (Nat.le_of_ble_eq_true rfl) (lv := [(0, .ref (ad th))]) rfl (fun Γ Y => ?_)
  have C := Y.1
  show GcX_State_mostInDebt l D T ad Γ o xo g xo g 0 [(0, .ref (ad th))] []
  have J4 : ∀ (x1 : Int32) (x2 : Int32), fX_State_mostInDebt_b4 th x1 x2 g = some o → GcX_State_mostInDebt l D T ad Γ o xo g xo g 4 [(0, .ref (ad th)), (1, .int x1), (2, .int x2)] [] := by
    intro x1 x2 h
    obtain ⟨x1, ht, h⟩ := bnd h
    refine lp_run (P := fun t : Int32 × Int32 => match t with | (x1, x2) => GcX_State_mostInDebt l D T ad Γ o xo g xo g 4 [(0, .ref (ad th)), (1, .int x1), (2, .int x2)] []) (E := fun x1 : Int32 => GcX_State_mostInDebt l D T ad Γ o xo g xo g 47 [(1, .int x1)] []) ?_ _ _ _ ht ?_
    · rintro ⟨x1, x2⟩ z h Kt Ke
      show GcX_State_mostInDebt l D T ad Γ o xo g xo g 4 [(0, .ref (ad th)), (1, .int x1), (2, .int x2)] []
      have J41 : ∀ (x1 : Int32) (x2 : Int32), fX_State_mostInDebt_b41 th x1 x2 g = some z → GcX_State_mostInDebt l D T ad Γ o xo g xo g 41 [(0, .ref (ad th)), (1, .int x1), (2, .int x2)] [] := by
        intro x1 x2 h
        refine g_iinc (lv' := [(2, .int (x2 + (1 : Int32))), (0, .ref (ad th)), (1, .int x1)]) C dX7_mostInDebt_41 2 rfl (ii_1 _) (Nat.le_of_ble_eq_true rfl) rfl ?_
        refine g_goto (tgt := 4) C dX7_mostInDebt_44 (by decide) ?_
        exact g_sub [1, 2, 0] rfl (Kt _ (Option.some.inj h).symm)
      have J39 : ∀ (x2 : Int32), fX_State_mostInDebt_b39 th x2 g = some z → GcX_State_mostInDebt l D T ad Γ o xo g xo g 39 [(0, .ref (ad th)), (2, .int x2)] [] := by
        intro x2 h
        refine g_iload_n C dX7_mostInDebt_39 rfl 1 rfl ?_
        refine g_istore_n (lv' := [(1, .int x2), (0, .ref (ad th)), (2, .int x2)]) C dX7_mostInDebt_40 rfl (Nat.le_of_ble_eq_true rfl) rfl ?_
        exact g_sub [1, 0, 2] rfl (J41 x2 x2 h)
      refine g_iload_n C dX7_mostInDebt_4 rfl 2 rfl ?_
      refine g_aload_n C dX7_mostInDebt_5 rfl 0 rfl ?_
      refine gX_get_X7_21 C (ob_State hth) (rf_State_0 hth) dX7_mostInDebt_6 ?_
      refine gX_get_X7_33 (v := g 2 0) C ob_2 rfl rfl dX7_mostInDebt_9 ?_
      refine g_icmp_ge C 47 dX7_mostInDebt_12 (by decide) (fun c12 => ?_) (fun c12 => ?_)
      · have h := iteT c12 h
        exact g_sub [1] rfl (Ke _ (Option.some.inj h).symm)
      · have h := iteF c12 h
        refine g_iload_n C dX7_mostInDebt_15 rfl 1 rfl ?_
        refine g_iconst C dX7_mostInDebt_16 ic_m1 ?_
        refine g_icmp_eq C 39 dX7_mostInDebt_17 (by decide) (fun c17 => ?_) (fun c17 => ?_)
        · have h := iteT c17 h
          exact g_sub [0, 2] rfl (J39 x2 h)
        · have h := iteF c17 h
          refine g_aload_n C dX7_mostInDebt_20 rfl 0 rfl ?_
          refine gX_get_X7_9 C (ob_State hth) (rf_State_2 hth) dX7_mostInDebt_21 ?_
          refine g_iload_n C dX7_mostInDebt_24 rfl 2 rfl ?_
          obtain ⟨r25, hr25, h⟩ := bnd h
          refine g_xSi (As := [.ref (ad (rX th 2)), .int x2]) (rest := []) (ro := r25) (go := g) (xo := xo) Y (fun sz => cX_Rows_at l D T ad sK sV xo g (rX th 2) x2 _ hr25 sz) kX_RX7_41_Rows_at ⟨Nat.le_of_ble_eq_true rfl, Nat.le_of_ble_eq_true rfl⟩ ⟨rfl, rfl⟩ ⟨Nat.zero_le _, Nat.zero_le _⟩ rfl rfl (Nat.le_of_ble_eq_true rfl) dX7_mostInDebt_25 ?_
          refine g_aload_n C dX7_mostInDebt_28 rfl 0 rfl ?_
          refine gX_get_X7_9 C (ob_State hth) (rf_State_2 hth) dX7_mostInDebt_29 ?_
          refine g_iload_n C dX7_mostInDebt_32 rfl 1 rfl ?_
          obtain ⟨r33, hr33, h⟩ := bnd h
          refine g_xSi (As := [.ref (ad (rX th 2)), .int x1]) (rest := [.int r25]) (ro := r33) (go := g) (xo := xo) Y (fun sz => cX_Rows_at l D T ad sK sV xo g (rX th 2) x1 _ hr33 sz) kX_RX7_41_Rows_at ⟨Nat.le_of_ble_eq_true rfl, Nat.le_of_ble_eq_true rfl⟩ ⟨rfl, rfl⟩ ⟨Nat.zero_le _, Nat.zero_le _⟩ rfl rfl (Nat.le_of_ble_eq_true rfl) dX7_mostInDebt_33 ?_
          refine g_icmp_le C 41 dX7_mostInDebt_36 (by decide) (fun c36 => ?_) (fun c36 => ?_)
          · have h := iteT c36 h
            exact J41 x1 x2 h
          · have h := iteF c36 h
            exact g_sub [0, 2] rfl (J39 x2 h)
    · show GcX_State_mostInDebt l D T ad Γ o xo g xo g 47 [(1, .int x1)] []
      refine g_iload_n C dX7_mostInDebt_47 rfl 0 rfl ?_
      obtain rfl := Option.some.inj h
      exact g_iret C rfl rfl rfl dX7_mostInDebt_48
  refine g_iconst C dX7_mostInDebt_0 ic_m1 ?_
  refine g_istore_n (lv' := [(1, .int (-1 : Int32)), (0, .ref (ad th))]) C dX7_mostInDebt_1 rfl (Nat.le_of_ble_eq_true rfl) rfl ?_
  refine g_iconst C dX7_mostInDebt_2 ic_0 ?_
  refine g_istore_n (lv' := [(2, .int (0 : Int32)), (1, .int (-1 : Int32)), (0, .ref (ad th))]) C dX7_mostInDebt_3 rfl (Nat.le_of_ble_eq_true rfl) rfl ?_
  exact g_sub [2, 1, 0] rfl (J4 (-1 : Int32) (0 : Int32) h)
def fX_State_roomOf (th : Nat) (x1 : Int32) (g : St) : Option (Int32) :=
  (fX_State_stonesOf th x1 g).bind fun r9 => (some ((g 2 1) - r9))
def rmX_State_roomOf : Room := { frames := 1, cells := 0, slots := 0, locals := 23 }
abbrev GcX_State_roomOf (l : Launch) (D : va_G) (T : cT) (ad : Nat → Nat) (Γ : Cxt) (o : Int32) (xo : Sl) (g0 : St) (x : Sl) (g : St) (pc : Nat) (lv : List (Nat × Value)) (stk : List Value) : Prop := Gj l shX D T ad 2 (rmX_State_roomOf) 0 0 Γ (MQ Γ.below (va_Qi (eqI o g0 xo) (wPost shX D T ad Γ.A) Γ.A) Γ.args Γ.s 0 0 Γ.A) x g pc lv stk
set_option maxRecDepth 100000 in
set_option maxHeartbeats 4000000 in
theorem cX_State_roomOf (l : Launch) (D : va_G) (T : cT) (ad : Nat → Nat) (sK sV : Nat → Nat) (xo : Sl) (g : St) (th : Nat) (x1 : Int32) (hth : isState th) (o : Int32) (h : fX_State_roomOf th x1 g = some o) (sz : Nat) : Met l yX7_roomOf wX_State_roomOf (rmX_State_roomOf) (va_Pc [.ref (ad th), .int x1] (xPre shX D T ad sK sV xo g sz)) (va_Qi (eqI o g xo) (wPost shX D T ad (aW shX T ad xo g sz)) (aW shX T ad xo g sz)) 0 0 (aW shX T ad xo g sz) := by
  refine g_startx (Qc := fun A => va_Qi (eqI o g xo) (wPost shX D T ad A) A) (by decide +kernel) rfl rfl (Nat.le_of_ble_eq_true rfl) (lv := [(0, .ref (ad th)), (1, .int x1)]) rfl (fun Γ Y => ?_)
  have C := Y.1
  show GcX_State_roomOf l D T ad Γ o xo g xo g 0 [(0, .ref (ad th)), (1, .int x1)] []
  refine g_aload_n C dX7_roomOf_0 rfl 0 rfl ?_
  refine gX_get_X7_21 C (ob_State hth) (rf_State_0 hth) dX7_roomOf_1 ?_
  refine gX_get_X7_72 (v := g 2 1) C ob_2 rfl rfl dX7_roomOf_4 ?_
  refine g_aload_n C dX7_roomOf_7 rfl 0 rfl ?_
  refine g_iload_n C dX7_roomOf_8 rfl 1 rfl ?_
  obtain ⟨r9, hr9, h⟩ := bnd h
  refine g_xVi (k := th) (As := [.int x1]) (rest := [.int (g 2 1)]) (ro := r9) (go := g) (xo := xo) Y (fun sz => cX_State_stonesOf l D T ad sK sV xo g th x1 hth _ hr9 sz) kX_RX7_62_State_stonesOf ⟨Nat.le_of_ble_eq_true rfl, Nat.le_of_ble_eq_true rfl⟩ ⟨rfl, rfl⟩ ⟨Nat.zero_le _, Nat.zero_le _⟩ (rfl : vwCl[6]? = some (RX7, TX7, 6)) (ob_State hth) rfl rfl (Nat.le_of_ble_eq_true rfl) dX7_roomOf_9 ?_
  refine g_isub C dX7_roomOf_12 ?_
  obtain rfl := Option.some.inj h
  exact g_iret C rfl rfl rfl dX7_roomOf_13
def fX_State_hasRoom (th : Nat) (x1 : Int32) (g : St) : Option (Int32) :=
  (fX_State_stonesOf th x1 g).bind fun r2 => (if (g 2 1) ≤ r2 then
    (some (0 : Int32))
  else
    (some (1 : Int32)))
def rmX_State_hasRoom : Room := { frames := 1, cells := 0, slots := 0, locals := 23 }
abbrev GcX_State_hasRoom (l : Launch) (D : va_G) (T : cT) (ad : Nat → Nat) (Γ : Cxt) (o : Int32) (xo : Sl) (g0 : St) (x : Sl) (g : St) (pc : Nat) (lv : List (Nat × Value)) (stk : List Value) : Prop := Gj l shX D T ad 2 (rmX_State_hasRoom) 0 0 Γ (MQ Γ.below (va_Qi (eqZ o g0 xo) (wPost shX D T ad Γ.A) Γ.A) Γ.args Γ.s 0 0 Γ.A) x g pc lv stk
set_option maxRecDepth 100000 in
set_option maxHeartbeats 4000000 in
theorem cX_State_hasRoom (l : Launch) (D : va_G) (T : cT) (ad : Nat → Nat) (sK sV : Nat → Nat) (xo : Sl) (g : St) (th : Nat) (x1 : Int32) (hth : isState th) (o : Int32) (h : fX_State_hasRoom th x1 g = some o) (sz : Nat) : Met l yX7_hasRoom wX_State_hasRoom (rmX_State_hasRoom) (va_Pc [.ref (ad th), .int x1] (xPre shX D T ad sK sV xo g sz)) (va_Qi (eqZ o g xo) (wPost shX D T ad (aW shX T ad xo g sz)) (aW shX T ad xo g sz)) 0 0 (aW shX T ad xo g sz) := by
  refine g_startx (Qc := fun A => va_Qi (eqZ o g xo) (wPost shX D T ad A) A) (by decide +kernel) rfl rfl (Nat.le_of_ble_eq_true rfl) (lv := [(0, .ref (ad th)), (1, .int x1)]) rfl (fun Γ Y => ?_)
  have C := Y.1
  show GcX_State_hasRoom l D T ad Γ o xo g xo g 0 [(0, .ref (ad th)), (1, .int x1)] []
  refine g_aload_n C dX7_hasRoom_0 rfl 0 rfl ?_
  refine g_iload_n C dX7_hasRoom_1 rfl 1 rfl ?_
  obtain ⟨r2, hr2, h⟩ := bnd h
  refine g_xVi (k := th) (As := [.int x1]) (rest := []) (ro := r2) (go := g) (xo := xo) Y (fun sz => cX_State_stonesOf l D T ad sK sV xo g th x1 hth _ hr2 sz) kX_RX7_62_State_stonesOf ⟨Nat.le_of_ble_eq_true rfl, Nat.le_of_ble_eq_true rfl⟩ ⟨rfl, rfl⟩ ⟨Nat.zero_le _, Nat.zero_le _⟩ (rfl : vwCl[6]? = some (RX7, TX7, 6)) (ob_State hth) rfl rfl (Nat.le_of_ble_eq_true rfl) dX7_hasRoom_2 ?_
  refine g_aload_n C dX7_hasRoom_5 rfl 0 rfl ?_
  refine gX_get_X7_21 C (ob_State hth) (rf_State_0 hth) dX7_hasRoom_6 ?_
  refine gX_get_X7_72 (v := g 2 1) C ob_2 rfl rfl dX7_hasRoom_9 ?_
  refine g_icmp_ge C 19 dX7_hasRoom_12 (by decide) (fun c12 => ?_) (fun c12 => ?_)
  · have h := iteT c12 h
    refine g_iconst C dX7_hasRoom_19 ic_0 ?_
    obtain rfl := Option.some.inj h
    exact g_zret C rfl rfl rfl rfl dX7_hasRoom_20
  · have h := iteF c12 h
    refine g_iconst C dX7_hasRoom_15 ic_1 ?_
    refine g_goto (tgt := 20) C dX7_hasRoom_16 (by decide) ?_
    obtain rfl := Option.some.inj h
    exact g_zret C rfl rfl rfl rfl dX7_hasRoom_20
