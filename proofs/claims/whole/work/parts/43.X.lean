def fX_State_willOf_b66 (th : Nat) (x1 : Int32) (x2 : Int32) (s1 : Int32) (s2 : Int32) (g : St) : Option (Int32 × St) :=
  (fX_Rows_put 25 s1 s2 g).bind fun g66 => ((fX_Rows_at (rX th 2) x2 g66).bind fun r76 => ((fX_Rows_put 25 (4 : Int32) r76 g66).bind fun g79 => ((fX_State_howManyDead th g79).bind fun r85 => ((fX_Rows_put 25 (5 : Int32) r85 g79).bind fun g88 => ((fX_Rows_put 25 (6 : Int32) (g88 th 5) g88).bind fun g98 => ((fX_Rows_put 25 (7 : Int32) x1 g98).bind fun g105 => ((fX_Law_answer 4 g105).bind fun ⟨r112, g112⟩ => (some (r112, g112)))))))))
def fX_State_willOf (th : Nat) (x1 : Int32) (x2 : Int32) (g : St) : Option (Int32 × St) :=
  (fX_Rows_at 17 x1 g).bind fun r18 => ((fX_Rows_put 25 (0 : Int32) r18 g).bind fun g21 => ((fX_Rows_at (rX th 2) x1 g21).bind fun r31 => ((fX_Rows_put 25 (1 : Int32) r31 g21).bind fun g34 => ((fX_State_stonesOf th x1 g34).bind fun r41 => ((fX_Rows_put 25 (2 : Int32) r41 g34).bind fun g44 => ((fX_Land_areFriends 2 x1 x2 g44).bind fun r55 => (if r55 = 0 then
    (fX_State_willOf_b66 th x1 x2 (3 : Int32) (0 : Int32) g44)
  else
    (fX_State_willOf_b66 th x1 x2 (3 : Int32) (1 : Int32) g44))))))))
def rmX_State_willOf : Room := { frames := 2, cells := 0, slots := 0, locals := 46 }
abbrev GcX_State_willOf (l : Launch) (D : va_G) (T : cT) (ad : Nat → Nat) (Γ : Cxt) (o : Int32 × St) (xo : Sl) (x : Sl) (g : St) (pc : Nat) (lv : List (Nat × Value)) (stk : List Value) : Prop := Gj l shX D T ad 4 (rmX_State_willOf) 0 0 Γ (MQ Γ.below (va_Qi (eqI o.1 o.2 xo) (wPost shX D T ad Γ.A) Γ.A) Γ.args Γ.s 0 0 Γ.A) x g pc lv stk
set_option maxRecDepth 100000 in
set_option maxHeartbeats 4000000 in
theorem cX_State_willOf (l : Launch) (D : va_G) (T : cT) (ad : Nat → Nat) (sK sV : Nat → Nat) (xo : Sl) (g : St) (th : Nat) (x1 : Int32) (x2 : Int32) (hth : isState th) (o : Int32 × St) (h : fX_State_willOf th x1 x2 g = some o) (sz : Nat) : Met l yX7_willOf wX_State_willOf (rmX_State_willOf) (va_Pc [.ref (ad th), .int x1, .int x2] (xPre shX D T ad sK sV xo g sz)) (va_Qi (eqI o.1 o.2 xo) (wPost shX D T ad (aW shX T ad xo g sz)) (aW shX T ad xo g sz)) 0 0 (aW shX T ad xo g sz) := by
  refine g_startx (Qc := fun A => va_Qi (eqI o.1 o.2 xo) (wPost shX D T ad A) A) (by decide +kernel) rfl rfl (Nat.le_of_ble_eq_true rfl) (lv := [(0, .ref (ad th)), (1, .int x1), (2, .int x2)]) rfl (fun Γ Y => ?_)
  have C := Y.1
  show GcX_State_willOf l D T ad Γ o xo xo g 0 [(0, .ref (ad th)), (1, .int x1), (2, .int x2)] []
  have J66 : ∀ (x1 : Int32) (x2 : Int32) (s1 : Int32) (s2 : Int32) (g : St), fX_State_willOf_b66 th x1 x2 s1 s2 g = some o → GcX_State_willOf l D T ad Γ o xo xo g 66 [(0, .ref (ad th)), (1, .int x1), (2, .int x2), (3, .ref (ad 25))] [.int s2, .int s1, .ref (ad 25)] := by
    intro x1 x2 s1 s2 g h
    obtain ⟨g66, hr66, h⟩ := bnd h
    refine g_xSv (As := [.ref (ad 25), .int s1, .int s2]) (rest := []) (go := g66) (xo := xo) Y (fun sz => cX_Rows_put l D T ad sK sV xo g 25 s1 s2 _ hr66 sz) kX_RX7_47_Rows_put ⟨Nat.le_of_ble_eq_true rfl, Nat.le_of_ble_eq_true rfl⟩ ⟨rfl, rfl⟩ ⟨Nat.zero_le _, Nat.zero_le _⟩ rfl rfl (Nat.le_of_ble_eq_true rfl) dX7_willOf_66 ?_
    refine g_aload_n C dX7_willOf_69 rfl 3 rfl ?_
    refine g_iconst C dX7_willOf_70 ic_4 ?_
    refine g_aload_n C dX7_willOf_71 rfl 0 rfl ?_
    refine gX_get_X7_9 C (ob_State hth) (rf_State_2 hth) dX7_willOf_72 ?_
    refine g_iload_n C dX7_willOf_75 rfl 2 rfl ?_
    obtain ⟨r76, hr76, h⟩ := bnd h
    refine g_xSi (As := [.ref (ad (rX th 2)), .int x2]) (rest := [.int (4 : Int32), .ref (ad 25)]) (ro := r76) (go := g66) (xo := xo) Y (fun sz => cX_Rows_at l D T ad sK sV xo g66 (rX th 2) x2 _ hr76 sz) kX_RX7_41_Rows_at ⟨Nat.le_of_ble_eq_true rfl, Nat.le_of_ble_eq_true rfl⟩ ⟨rfl, rfl⟩ ⟨Nat.zero_le _, Nat.zero_le _⟩ rfl rfl (Nat.le_of_ble_eq_true rfl) dX7_willOf_76 ?_
    obtain ⟨g79, hr79, h⟩ := bnd h
    refine g_xSv (As := [.ref (ad 25), .int (4 : Int32), .int r76]) (rest := []) (go := g79) (xo := xo) Y (fun sz => cX_Rows_put l D T ad sK sV xo g66 25 (4 : Int32) r76 _ hr79 sz) kX_RX7_47_Rows_put ⟨Nat.le_of_ble_eq_true rfl, Nat.le_of_ble_eq_true rfl⟩ ⟨rfl, rfl⟩ ⟨Nat.zero_le _, Nat.zero_le _⟩ rfl rfl (Nat.le_of_ble_eq_true rfl) dX7_willOf_79 ?_
    refine g_aload_n C dX7_willOf_82 rfl 3 rfl ?_
    refine g_iconst C dX7_willOf_83 ic_5 ?_
    refine g_aload_n C dX7_willOf_84 rfl 0 rfl ?_
    obtain ⟨r85, hr85, h⟩ := bnd h
    refine g_xVi (k := th) (As := []) (rest := [.int (5 : Int32), .ref (ad 25)]) (ro := r85) (go := g79) (xo := xo) Y (fun sz => cX_State_howManyDead l D T ad sK sV xo g79 th hth _ hr85 sz) kX_RX7_87_State_howManyDead ⟨Nat.le_of_ble_eq_true rfl, Nat.le_of_ble_eq_true rfl⟩ ⟨rfl, rfl⟩ ⟨Nat.zero_le _, Nat.zero_le _⟩ (rfl : vwCl[6]? = some (RX7, TX7, 6)) (ob_State hth) rfl rfl (Nat.le_of_ble_eq_true rfl) dX7_willOf_85 ?_
    obtain ⟨g88, hr88, h⟩ := bnd h
    refine g_xSv (As := [.ref (ad 25), .int (5 : Int32), .int r85]) (rest := []) (go := g88) (xo := xo) Y (fun sz => cX_Rows_put l D T ad sK sV xo g79 25 (5 : Int32) r85 _ hr88 sz) kX_RX7_47_Rows_put ⟨Nat.le_of_ble_eq_true rfl, Nat.le_of_ble_eq_true rfl⟩ ⟨rfl, rfl⟩ ⟨Nat.zero_le _, Nat.zero_le _⟩ rfl rfl (Nat.le_of_ble_eq_true rfl) dX7_willOf_88 ?_
    refine g_aload_n C dX7_willOf_91 rfl 3 rfl ?_
    refine g_bipush C dX7_willOf_92 bp_6 ?_
    refine g_aload_n C dX7_willOf_94 rfl 0 rfl ?_
    refine gX_get_X7_29 (v := g88 th 5) C (ob_State hth) (rf_State_5 hth) rfl dX7_willOf_95 ?_
    obtain ⟨g98, hr98, h⟩ := bnd h
    refine g_xSv (As := [.ref (ad 25), .int (6 : Int32), .int (g88 th 5)]) (rest := []) (go := g98) (xo := xo) Y (fun sz => cX_Rows_put l D T ad sK sV xo g88 25 (6 : Int32) (g88 th 5) _ hr98 sz) kX_RX7_47_Rows_put ⟨Nat.le_of_ble_eq_true rfl, Nat.le_of_ble_eq_true rfl⟩ ⟨rfl, rfl⟩ ⟨Nat.zero_le _, Nat.zero_le _⟩ rfl rfl (Nat.le_of_ble_eq_true rfl) dX7_willOf_98 ?_
    refine g_aload_n C dX7_willOf_101 rfl 3 rfl ?_
    refine g_bipush C dX7_willOf_102 bp_7 ?_
    refine g_iload_n C dX7_willOf_104 rfl 1 rfl ?_
    obtain ⟨g105, hr105, h⟩ := bnd h
    refine g_xSv (As := [.ref (ad 25), .int (7 : Int32), .int x1]) (rest := []) (go := g105) (xo := xo) Y (fun sz => cX_Rows_put l D T ad sK sV xo g98 25 (7 : Int32) x1 _ hr105 sz) kX_RX7_47_Rows_put ⟨Nat.le_of_ble_eq_true rfl, Nat.le_of_ble_eq_true rfl⟩ ⟨rfl, rfl⟩ ⟨Nat.zero_le _, Nat.zero_le _⟩ rfl rfl (Nat.le_of_ble_eq_true rfl) dX7_willOf_105 ?_
    refine g_aload_n C dX7_willOf_108 rfl 0 rfl ?_
    refine gX_get_X7_25 C (ob_State hth) (rf_State_1 hth) dX7_willOf_109 ?_
    obtain ⟨⟨r112, g112⟩, hr112, h⟩ := bnd h
    refine g_xVi (k := 4) (As := []) (rest := []) (ro := r112) (go := g112) (xo := xo) Y (fun sz => cX_Law_answer l D T ad sK sV xo g105 4 (Or.inl rfl) _ hr112 sz) kX_RX7_91_Law_answer ⟨Nat.le_of_ble_eq_true rfl, Nat.le_of_ble_eq_true rfl⟩ ⟨rfl, rfl⟩ ⟨Nat.zero_le _, Nat.zero_le _⟩ (rfl : vwCl[2]? = some (RX2, TX2, 4)) ob_4 rfl rfl (Nat.le_of_ble_eq_true rfl) dX7_willOf_112 ?_
    obtain rfl := Option.some.inj h
    exact g_iret C rfl rfl rfl dX7_willOf_115
  refine g_aload_n C dX7_willOf_0 rfl 0 rfl ?_
  refine gX_get_X7_25 C (ob_State hth) (rf_State_1 hth) dX7_willOf_1 ?_
  refine gX_get_X7_75 C ob_4 rfl dX7_willOf_4 ?_
  refine g_astore_n (lv' := [(3, .ref (ad 25)), (0, .ref (ad th)), (1, .int x1), (2, .int x2)]) C dX7_willOf_7 rfl (Nat.le_of_ble_eq_true rfl) rfl ?_
  refine g_aload_n C dX7_willOf_8 rfl 0 rfl ?_
  refine g_iconst C dX7_willOf_9 ic_0 ?_
  refine g_aload_n C dX7_willOf_10 rfl 1 rfl ?_
  refine gX_get_X7_21 C (ob_State hth) (rf_State_0 hth) dX7_willOf_11 ?_
  refine gX_get_X7_80 C ob_2 rfl dX7_willOf_14 ?_
  refine g_iload_n C dX7_willOf_17 rfl 2 rfl ?_
  obtain ⟨r18, hr18, h⟩ := bnd h
  refine g_xSi (As := [.ref (ad 17), .int x1]) (rest := [.int (0 : Int32), .ref (ad 25)]) (ro := r18) (go := g) (xo := xo) Y (fun sz => cX_Rows_at l D T ad sK sV xo g 17 x1 _ hr18 sz) kX_RX7_41_Rows_at ⟨Nat.le_of_ble_eq_true rfl, Nat.le_of_ble_eq_true rfl⟩ ⟨rfl, rfl⟩ ⟨Nat.zero_le _, Nat.zero_le _⟩ rfl rfl (Nat.le_of_ble_eq_true rfl) dX7_willOf_18 ?_
  obtain ⟨g21, hr21, h⟩ := bnd h
  refine g_xSv (As := [.ref (ad 25), .int (0 : Int32), .int r18]) (rest := []) (go := g21) (xo := xo) Y (fun sz => cX_Rows_put l D T ad sK sV xo g 25 (0 : Int32) r18 _ hr21 sz) kX_RX7_47_Rows_put ⟨Nat.le_of_ble_eq_true rfl, Nat.le_of_ble_eq_true rfl⟩ ⟨rfl, rfl⟩ ⟨Nat.zero_le _, Nat.zero_le _⟩ rfl rfl (Nat.le_of_ble_eq_true rfl) dX7_willOf_21 ?_
  refine g_aload_n C dX7_willOf_24 rfl 0 rfl ?_
  refine g_iconst C dX7_willOf_25 ic_1 ?_
  refine g_aload_n C dX7_willOf_26 rfl 1 rfl ?_
  refine gX_get_X7_9 C (ob_State hth) (rf_State_2 hth) dX7_willOf_27 ?_
  refine g_iload_n C dX7_willOf_30 rfl 2 rfl ?_
  obtain ⟨r31, hr31, h⟩ := bnd h
  refine g_xSi (As := [.ref (ad (rX th 2)), .int x1]) (rest := [.int (1 : Int32), .ref (ad 25)]) (ro := r31) (go := g21) (xo := xo) Y (fun sz => cX_Rows_at l D T ad sK sV xo g21 (rX th 2) x1 _ hr31 sz) kX_RX7_41_Rows_at ⟨Nat.le_of_ble_eq_true rfl, Nat.le_of_ble_eq_true rfl⟩ ⟨rfl, rfl⟩ ⟨Nat.zero_le _, Nat.zero_le _⟩ rfl rfl (Nat.le_of_ble_eq_true rfl) dX7_willOf_31 ?_
  obtain ⟨g34, hr34, h⟩ := bnd h
  refine g_xSv (As := [.ref (ad 25), .int (1 : Int32), .int r31]) (rest := []) (go := g34) (xo := xo) Y (fun sz => cX_Rows_put l D T ad sK sV xo g21 25 (1 : Int32) r31 _ hr34 sz) kX_RX7_47_Rows_put ⟨Nat.le_of_ble_eq_true rfl, Nat.le_of_ble_eq_true rfl⟩ ⟨rfl, rfl⟩ ⟨Nat.zero_le _, Nat.zero_le _⟩ rfl rfl (Nat.le_of_ble_eq_true rfl) dX7_willOf_34 ?_
  refine g_aload_n C dX7_willOf_37 rfl 0 rfl ?_
  refine g_iconst C dX7_willOf_38 ic_2 ?_
  refine g_aload_n C dX7_willOf_39 rfl 1 rfl ?_
  refine g_iload_n C dX7_willOf_40 rfl 2 rfl ?_
  obtain ⟨r41, hr41, h⟩ := bnd h
  refine g_xVi (k := th) (As := [.int x1]) (rest := [.int (2 : Int32), .ref (ad 25)]) (ro := r41) (go := g34) (xo := xo) Y (fun sz => cX_State_stonesOf l D T ad sK sV xo g34 th x1 hth _ hr41 sz) kX_RX7_62_State_stonesOf ⟨Nat.le_of_ble_eq_true rfl, Nat.le_of_ble_eq_true rfl⟩ ⟨rfl, rfl⟩ ⟨Nat.zero_le _, Nat.zero_le _⟩ (rfl : vwCl[6]? = some (RX7, TX7, 6)) (ob_State hth) rfl rfl (Nat.le_of_ble_eq_true rfl) dX7_willOf_41 ?_
  obtain ⟨g44, hr44, h⟩ := bnd h
  refine g_xSv (As := [.ref (ad 25), .int (2 : Int32), .int r41]) (rest := []) (go := g44) (xo := xo) Y (fun sz => cX_Rows_put l D T ad sK sV xo g34 25 (2 : Int32) r41 _ hr44 sz) kX_RX7_47_Rows_put ⟨Nat.le_of_ble_eq_true rfl, Nat.le_of_ble_eq_true rfl⟩ ⟨rfl, rfl⟩ ⟨Nat.zero_le _, Nat.zero_le _⟩ rfl rfl (Nat.le_of_ble_eq_true rfl) dX7_willOf_44 ?_
  refine g_aload_n C dX7_willOf_47 rfl 0 rfl ?_
  refine g_iconst C dX7_willOf_48 ic_3 ?_
  refine g_aload_n C dX7_willOf_49 rfl 1 rfl ?_
  refine gX_get_X7_21 C (ob_State hth) (rf_State_0 hth) dX7_willOf_50 ?_
  refine g_iload_n C dX7_willOf_53 rfl 2 rfl ?_
  refine g_iload_n C dX7_willOf_54 rfl 3 rfl ?_
  obtain ⟨r55, hr55, h⟩ := bnd h
  refine g_xVz (k := 2) (As := [.int x1, .int x2]) (rest := [.int (3 : Int32), .ref (ad 25)]) (ro := r55) (go := g44) (xo := xo) Y (fun sz => cX_Land_areFriends l D T ad sK sV xo g44 2 x1 x2 (Or.inl rfl) _ hr55 sz) kX_RX7_83_Land_areFriends ⟨Nat.le_of_ble_eq_true rfl, Nat.le_of_ble_eq_true rfl⟩ ⟨rfl, rfl⟩ ⟨Nat.zero_le _, Nat.zero_le _⟩ (rfl : vwCl[1]? = some (RX1, TX1, 5)) ob_2 rfl rfl (Nat.le_of_ble_eq_true rfl) dX7_willOf_55 (fun hz55 => ?_)
  refine g_if_eq C 65 dX7_willOf_58 (by decide) (fun c58 => ?_) (fun c58 => ?_)
  · have h := iteT c58 h
    refine g_iconst C dX7_willOf_65 ic_0 ?_
    exact g_sub [1, 2, 3, 0] rfl (J66 x1 x2 (3 : Int32) (0 : Int32) g44 h)
  · have h := iteF c58 h
    refine g_iconst C dX7_willOf_61 ic_1 ?_
    refine g_goto (tgt := 66) C dX7_willOf_62 (by decide) ?_
    exact g_sub [1, 2, 3, 0] rfl (J66 x1 x2 (3 : Int32) (1 : Int32) g44 h)
def fX_State_couldLend (th : Nat) (x1 : Int32) (x2 : Int32) (g : St) : Option (Int32) :=
  if x1 = x2 then
    (some (0 : Int32))
  else
    ((fX_State_lives th x1 g).bind fun r7 => (if r7 = 0 then
    (some (0 : Int32))
  else
    ((fX_State_hasRoom th x1 g).bind fun r15 => (if r15 = 0 then
    (some (0 : Int32))
  else
    (some (1 : Int32))))))
def rmX_State_couldLend : Room := { frames := 2, cells := 0, slots := 0, locals := 44 }
abbrev GcX_State_couldLend (l : Launch) (D : va_G) (T : cT) (ad : Nat → Nat) (Γ : Cxt) (o : Int32) (xo : Sl) (g0 : St) (x : Sl) (g : St) (pc : Nat) (lv : List (Nat × Value)) (stk : List Value) : Prop := Gj l shX D T ad 3 (rmX_State_couldLend) 0 0 Γ (MQ Γ.below (va_Qi (eqZ o g0 xo) (wPost shX D T ad Γ.A) Γ.A) Γ.args Γ.s 0 0 Γ.A) x g pc lv stk
set_option maxRecDepth 100000 in
set_option maxHeartbeats 4000000 in
theorem cX_State_couldLend (l : Launch) (D : va_G) (T : cT) (ad : Nat → Nat) (sK sV : Nat → Nat) (xo : Sl) (g : St) (th : Nat) (x1 : Int32) (x2 : Int32) (hth : isState th) (o : Int32) (h : fX_State_couldLend th x1 x2 g = some o) (sz : Nat) : Met l yX7_couldLend wX_State_couldLend (rmX_State_couldLend) (va_Pc [.ref (ad th), .int x1, .int x2] (xPre shX D T ad sK sV xo g sz)) (va_Qi (eqZ o g xo) (wPost shX D T ad (aW shX T ad xo g sz)) (aW shX T ad xo g sz)) 0 0 (aW shX T ad xo g sz) := by
  refine g_startx (Qc := fun A => va_Qi (eqZ o g xo) (wPost shX D T ad A) A) (by decide +kernel) rfl rfl (Nat.le_of_ble_eq_true rfl) (lv := [(0, .ref (ad th)), (1, .int x1), (2, .int x2)]) rfl (fun Γ Y => ?_)
  have C := Y.1
  show GcX_State_couldLend l D T ad Γ o xo g xo g 0 [(0, .ref (ad th)), (1, .int x1), (2, .int x2)] []
  refine g_iload_n C dX7_couldLend_0 rfl 1 rfl ?_
  refine g_iload_n C dX7_couldLend_1 rfl 2 rfl ?_
  refine g_icmp_eq C 25 dX7_couldLend_2 (by decide) (fun c2 => ?_) (fun c2 => ?_)
  · have h := iteT c2 h
    refine g_iconst C dX7_couldLend_25 ic_0 ?_
    obtain rfl := Option.some.inj h
    exact g_zret C rfl rfl rfl rfl dX7_couldLend_26
  · have h := iteF c2 h
    refine g_aload_n C dX7_couldLend_5 rfl 0 rfl ?_
    refine g_iload_n C dX7_couldLend_6 rfl 1 rfl ?_
    obtain ⟨r7, hr7, h⟩ := bnd h
    refine g_xVz (k := th) (As := [.int x1]) (rest := []) (ro := r7) (go := g) (xo := xo) Y (fun sz => cX_State_lives l D T ad sK sV xo g th x1 hth _ hr7 sz) kX_RX7_55_State_lives ⟨Nat.le_of_ble_eq_true rfl, Nat.le_of_ble_eq_true rfl⟩ ⟨rfl, rfl⟩ ⟨Nat.zero_le _, Nat.zero_le _⟩ (rfl : vwCl[6]? = some (RX7, TX7, 6)) (ob_State hth) rfl rfl (Nat.le_of_ble_eq_true rfl) dX7_couldLend_7 (fun hz7 => ?_)
    refine g_if_eq C 25 dX7_couldLend_10 (by decide) (fun c10 => ?_) (fun c10 => ?_)
    · have h := iteT c10 h
      refine g_iconst C dX7_couldLend_25 ic_0 ?_
      obtain rfl := Option.some.inj h
      exact g_zret C rfl rfl rfl rfl dX7_couldLend_26
    · have h := iteF c10 h
      refine g_aload_n C dX7_couldLend_13 rfl 0 rfl ?_
      refine g_iload_n C dX7_couldLend_14 rfl 1 rfl ?_
      obtain ⟨r15, hr15, h⟩ := bnd h
      refine g_xVz (k := th) (As := [.int x1]) (rest := []) (ro := r15) (go := g) (xo := xo) Y (fun sz => cX_State_hasRoom l D T ad sK sV xo g th x1 hth _ hr15 sz) kX_RX7_94_State_hasRoom ⟨Nat.le_of_ble_eq_true rfl, Nat.le_of_ble_eq_true rfl⟩ ⟨rfl, rfl⟩ ⟨Nat.zero_le _, Nat.zero_le _⟩ (rfl : vwCl[6]? = some (RX7, TX7, 6)) (ob_State hth) rfl rfl (Nat.le_of_ble_eq_true rfl) dX7_couldLend_15 (fun hz15 => ?_)
      refine g_if_eq C 25 dX7_couldLend_18 (by decide) (fun c18 => ?_) (fun c18 => ?_)
      · have h := iteT c18 h
        refine g_iconst C dX7_couldLend_25 ic_0 ?_
        obtain rfl := Option.some.inj h
        exact g_zret C rfl rfl rfl rfl dX7_couldLend_26
      · have h := iteF c18 h
        refine g_iconst C dX7_couldLend_21 ic_1 ?_
        refine g_goto (tgt := 26) C dX7_couldLend_22 (by decide) ?_
        obtain rfl := Option.some.inj h
        exact g_zret C rfl rfl rfl rfl dX7_couldLend_26
def fX_State_lendsTo (th : Nat) (x1 : Int32) (x2 : Int32) (g : St) : Option (Int32 × St) :=
  (fX_State_couldLend th x1 x2 g).bind fun r3 => (if r3 = 0 then
    (some ((0 : Int32), g))
  else
    ((fX_State_willOf th x1 x2 g).bind fun ⟨r12, g12⟩ => (if r12 < (10 : Int32) then
    (some ((0 : Int32), g12))
  else
    (some ((1 : Int32), g12)))))
def rmX_State_lendsTo : Room := { frames := 3, cells := 0, slots := 0, locals := 69 }
abbrev GcX_State_lendsTo (l : Launch) (D : va_G) (T : cT) (ad : Nat → Nat) (Γ : Cxt) (o : Int32 × St) (xo : Sl) (x : Sl) (g : St) (pc : Nat) (lv : List (Nat × Value)) (stk : List Value) : Prop := Gj l shX D T ad 3 (rmX_State_lendsTo) 0 0 Γ (MQ Γ.below (va_Qi (eqZ o.1 o.2 xo) (wPost shX D T ad Γ.A) Γ.A) Γ.args Γ.s 0 0 Γ.A) x g pc lv stk
set_option maxRecDepth 100000 in
set_option maxHeartbeats 4000000 in
theorem cX_State_lendsTo (l : Launch) (D : va_G) (T : cT) (ad : Nat → Nat) (sK sV : Nat → Nat) (xo : Sl) (g : St) (th : Nat) (x1 : Int32) (x2 : Int32) (hth : isState th) (o : Int32 × St) (h : fX_State_lendsTo th x1 x2 g = some o) (sz : Nat) : Met l yX7_lendsTo wX_State_lendsTo (rmX_State_lendsTo) (va_Pc [.ref (ad th), .int x1, .int x2] (xPre shX D T ad sK sV xo g sz)) (va_Qi (eqZ o.1 o.2 xo) (wPost shX D T ad (aW shX T ad xo g sz)) (aW shX T ad xo g sz)) 0 0 (aW shX T ad xo g sz) := by
  refine g_startx (Qc := fun A => va_Qi (eqZ o.1 o.2 xo) (wPost shX D T ad A) A) (by decide +kernel) rfl rfl (Nat.le_of_ble_eq_true rfl) (lv := [(0, .ref (ad th)), (1, .int x1), (2, .int x2)]) rfl (fun Γ Y => ?_)
  have C := Y.1
  show GcX_State_lendsTo l D T ad Γ o xo xo g 0 [(0, .ref (ad th)), (1, .int x1), (2, .int x2)] []
  refine g_aload_n C dX7_lendsTo_0 rfl 0 rfl ?_
  refine g_iload_n C dX7_lendsTo_1 rfl 1 rfl ?_
  refine g_iload_n C dX7_lendsTo_2 rfl 2 rfl ?_
  obtain ⟨r3, hr3, h⟩ := bnd h
  refine g_xVz (k := th) (As := [.int x1, .int x2]) (rest := []) (ro := r3) (go := g) (xo := xo) Y (fun sz => cX_State_couldLend l D T ad sK sV xo g th x1 x2 hth _ hr3 sz) kX_RX7_97_State_couldLend ⟨Nat.le_of_ble_eq_true rfl, Nat.le_of_ble_eq_true rfl⟩ ⟨rfl, rfl⟩ ⟨Nat.zero_le _, Nat.zero_le _⟩ (rfl : vwCl[6]? = some (RX7, TX7, 6)) (ob_State hth) rfl rfl (Nat.le_of_ble_eq_true rfl) dX7_lendsTo_3 (fun hz3 => ?_)
  refine g_if_eq C 24 dX7_lendsTo_6 (by decide) (fun c6 => ?_) (fun c6 => ?_)
  · have h := iteT c6 h
    refine g_iconst C dX7_lendsTo_24 ic_0 ?_
    obtain rfl := Option.some.inj h
    exact g_zret C rfl rfl rfl rfl dX7_lendsTo_25
  · have h := iteF c6 h
    refine g_aload_n C dX7_lendsTo_9 rfl 0 rfl ?_
    refine g_iload_n C dX7_lendsTo_10 rfl 1 rfl ?_
    refine g_iload_n C dX7_lendsTo_11 rfl 2 rfl ?_
    obtain ⟨⟨r12, g12⟩, hr12, h⟩ := bnd h
    refine g_xVi (k := th) (As := [.int x1, .int x2]) (rest := []) (ro := r12) (go := g12) (xo := xo) Y (fun sz => cX_State_willOf l D T ad sK sV xo g th x1 x2 hth _ hr12 sz) kX_RX7_100_State_willOf ⟨Nat.le_of_ble_eq_true rfl, Nat.le_of_ble_eq_true rfl⟩ ⟨rfl, rfl⟩ ⟨Nat.zero_le _, Nat.zero_le _⟩ (rfl : vwCl[6]? = some (RX7, TX7, 6)) (ob_State hth) rfl rfl (Nat.le_of_ble_eq_true rfl) dX7_lendsTo_12 ?_
    refine g_bipush C dX7_lendsTo_15 bp_10 ?_
    refine g_icmp_lt C 24 dX7_lendsTo_17 (by decide) (fun c17 => ?_) (fun c17 => ?_)
    · have h := iteT c17 h
      refine g_iconst C dX7_lendsTo_24 ic_0 ?_
      obtain rfl := Option.some.inj h
      exact g_zret C rfl rfl rfl rfl dX7_lendsTo_25
    · have h := iteF c17 h
      refine g_iconst C dX7_lendsTo_20 ic_1 ?_
      refine g_goto (tgt := 25) C dX7_lendsTo_21 (by decide) ?_
      obtain rfl := Option.some.inj h
      exact g_zret C rfl rfl rfl rfl dX7_lendsTo_25
def fX_State_heirOf_b75 (th : Nat) (x1 : Int32) (x2 : Int32) (x3 : Int32) (x4 : Int32) (x5 : Int32) (g : St) : Option ((Int32 × Int32 × Int32 × St) ⊕ ((Int32 × St))) :=
  some (.inl (x3, x4, (x5 + (1 : Int32)), g))
def fX_State_heirOf_L30 (th : Nat) (x1 : Int32) (x2 : Int32) : (Int32 × Int32 × Int32 × St) → Option ((Int32 × Int32 × Int32 × St) ⊕ ((Int32 × St))) := fun ⟨x3, x4, x5, g⟩ =>
  if (g 2 0) ≤ x5 then
    (some (.inr (x3, g)))
  else
    ((fX_State_couldLend th x5 x1 g).bind fun r46 => (if r46 = 0 then
    (fX_State_heirOf_b75 th x1 x2 x3 x4 x5 g)
  else
    ((fX_State_willOf th x5 x1 g).bind fun ⟨r56, g56⟩ => (if r56 ≤ x4 then
    (fX_State_heirOf_b75 th x1 x2 x3 x4 x5 g56)
  else
    (fX_State_heirOf_b75 th x1 x2 x5 r56 x5 g56)))))
def fX_State_heirOf_b30 (th : Nat) (x1 : Int32) (x2 : Int32) (x3 : Int32) (x4 : Int32) (x5 : Int32) (g : St) : Option (Int32 × St) :=
  (lp (fX_State_heirOf_L30 th x1 x2) fuel (x3, x4, x5, g)).bind (fun ⟨x3, g⟩ => (fX_Rows_put (rX th 4) x1 x2 g).bind fun g87 => (some (x3, g87)))
def fX_State_heirOf (th : Nat) (x1 : Int32) (g : St) : Option (Int32 × St) :=
  (fX_Rows_at (rX th 4) x1 g).bind fun r5 => ((fX_Rows_put (rX th 4) x1 (g th 5) g).bind fun g18 => (fX_State_heirOf_b30 th x1 r5 (-1 : Int32) (9 : Int32) (0 : Int32) g18))
def rmX_State_heirOf : Room := { frames := 3, cells := 0, slots := 0, locals := 69 }
abbrev GcX_State_heirOf (l : Launch) (D : va_G) (T : cT) (ad : Nat → Nat) (Γ : Cxt) (o : Int32 × St) (xo : Sl) (x : Sl) (g : St) (pc : Nat) (lv : List (Nat × Value)) (stk : List Value) : Prop := Gj l shX D T ad 7 (rmX_State_heirOf) 0 0 Γ (MQ Γ.below (va_Qi (eqI o.1 o.2 xo) (wPost shX D T ad Γ.A) Γ.A) Γ.args Γ.s 0 0 Γ.A) x g pc lv stk
set_option maxRecDepth 100000 in
set_option maxHeartbeats 4000000 in
theorem cX_State_heirOf (l : Launch) (D : va_G) (T : cT) (ad : Nat → Nat) (sK sV : Nat → Nat) (xo : Sl) (g : St) (th : Nat) (x1 : Int32) (hth : isState th) (o : Int32 × St) (h : fX_State_heirOf th x1 g = some o) (sz : Nat) : Met l yX7_heirOf wX_State_heirOf (rmX_State_heirOf) (va_Pc [.ref (ad th), .int x1] (xPre shX D T ad sK sV xo g sz)) (va_Qi (eqI o.1 o.2 xo) (wPost shX D T ad (aW shX T ad xo g sz)) (aW shX T ad xo g sz)) 0 0 (aW shX T ad xo g sz) := by
  refine g_startx (Qc := fun A => va_Qi (eqI o.1 o.2 xo) (wPost shX D T ad A) A) (by decide +kernel) rfl rfl (Nat.le_of_ble_eq_true rfl) (lv := [(0, .ref (ad th)), (1, .int x1)]) rfl (fun Γ Y => ?_)
  have C := Y.1
  show GcX_State_heirOf l D T ad Γ o xo xo g 0 [(0, .ref (ad th)), (1, .int x1)] []
  have J30 : ∀ (x1 : Int32) (x2 : Int32) (x3 : Int32) (x4 : Int32) (x5 : Int32) (g : St), fX_State_heirOf_b30 th x1 x2 x3 x4 x5 g = some o → GcX_State_heirOf l D T ad Γ o xo xo g 30 [(0, .ref (ad th)), (1, .int x1), (2, .int x2), (3, .int x3), (4, .int x4), (5, .int x5)] [] := by
    intro x1 x2 x3 x4 x5 g h
    obtain ⟨⟨x3, g⟩, ht, h⟩ := bnd h
    refine lp_run (P := fun t : Int32 × Int32 × Int32 × St => match t with | (x3, x4, x5, g) => GcX_State_heirOf l D T ad Γ o xo xo g 30 [(0, .ref (ad th)), (1, .int x1), (2, .int x2), (3, .int x3), (4, .int x4), (5, .int x5)] []) (E := fun t : Int32 × St => match t with | (x3, g) => GcX_State_heirOf l D T ad Γ o xo xo g 81 [(0, .ref (ad th)), (1, .int x1), (2, .int x2), (3, .int x3)] []) ?_ _ _ _ ht ?_
    · rintro ⟨x3, x4, x5, g⟩ z h Kt Ke
      show GcX_State_heirOf l D T ad Γ o xo xo g 30 [(0, .ref (ad th)), (1, .int x1), (2, .int x2), (3, .int x3), (4, .int x4), (5, .int x5)] []
      have J75 : ∀ (x3 : Int32) (x4 : Int32) (x5 : Int32) (g : St), fX_State_heirOf_b75 th x1 x2 x3 x4 x5 g = some z → GcX_State_heirOf l D T ad Γ o xo xo g 75 [(0, .ref (ad th)), (1, .int x1), (2, .int x2), (3, .int x3), (4, .int x4), (5, .int x5)] [] := by
        intro x3 x4 x5 g h
        refine g_iinc (lv' := [(5, .int (x5 + (1 : Int32))), (0, .ref (ad th)), (1, .int x1), (2, .int x2), (3, .int x3), (4, .int x4)]) C dX7_heirOf_75 5 rfl (ii_1 _) (Nat.le_of_ble_eq_true rfl) rfl ?_
        refine g_goto (tgt := 30) C dX7_heirOf_78 (by decide) ?_
        exact g_sub [1, 2, 3, 4, 5, 0] rfl (Kt _ (Option.some.inj h).symm)
      refine g_iload C dX7_heirOf_30 5 rfl ?_
      refine g_aload_n C dX7_heirOf_32 rfl 0 rfl ?_
      refine gX_get_X7_21 C (ob_State hth) (rf_State_0 hth) dX7_heirOf_33 ?_
      refine gX_get_X7_33 (v := g 2 0) C ob_2 rfl rfl dX7_heirOf_36 ?_
      refine g_icmp_ge C 81 dX7_heirOf_39 (by decide) (fun c39 => ?_) (fun c39 => ?_)
      · have h := iteT c39 h
        exact g_sub [0, 1, 2, 3] rfl (Ke _ (Option.some.inj h).symm)
      · have h := iteF c39 h
        refine g_aload_n C dX7_heirOf_42 rfl 0 rfl ?_
        refine g_iload C dX7_heirOf_43 5 rfl ?_
        refine g_iload_n C dX7_heirOf_45 rfl 1 rfl ?_
        obtain ⟨r46, hr46, h⟩ := bnd h
        refine g_xVz (k := th) (As := [.int x5, .int x1]) (rest := []) (ro := r46) (go := g) (xo := xo) Y (fun sz => cX_State_couldLend l D T ad sK sV xo g th x5 x1 hth _ hr46 sz) kX_RX7_97_State_couldLend ⟨Nat.le_of_ble_eq_true rfl, Nat.le_of_ble_eq_true rfl⟩ ⟨rfl, rfl⟩ ⟨Nat.zero_le _, Nat.zero_le _⟩ (rfl : vwCl[6]? = some (RX7, TX7, 6)) (ob_State hth) rfl rfl (Nat.le_of_ble_eq_true rfl) dX7_heirOf_46 (fun hz46 => ?_)
        refine g_if_eq C 75 dX7_heirOf_49 (by decide) (fun c49 => ?_) (fun c49 => ?_)
        · have h := iteT c49 h
          exact J75 x3 x4 x5 g h
        · have h := iteF c49 h
          refine g_aload_n C dX7_heirOf_52 rfl 0 rfl ?_
          refine g_iload C dX7_heirOf_53 5 rfl ?_
          refine g_iload_n C dX7_heirOf_55 rfl 1 rfl ?_
          obtain ⟨⟨r56, g56⟩, hr56, h⟩ := bnd h
          refine g_xVi (k := th) (As := [.int x5, .int x1]) (rest := []) (ro := r56) (go := g56) (xo := xo) Y (fun sz => cX_State_willOf l D T ad sK sV xo g th x5 x1 hth _ hr56 sz) kX_RX7_100_State_willOf ⟨Nat.le_of_ble_eq_true rfl, Nat.le_of_ble_eq_true rfl⟩ ⟨rfl, rfl⟩ ⟨Nat.zero_le _, Nat.zero_le _⟩ (rfl : vwCl[6]? = some (RX7, TX7, 6)) (ob_State hth) rfl rfl (Nat.le_of_ble_eq_true rfl) dX7_heirOf_56 ?_
          refine g_istore (lv' := [(6, .int r56), (0, .ref (ad th)), (1, .int x1), (2, .int x2), (3, .int x3), (4, .int x4), (5, .int x5)]) C dX7_heirOf_59 (Nat.le_of_ble_eq_true rfl) rfl ?_
          refine g_iload C dX7_heirOf_61 0 rfl ?_
          refine g_iload C dX7_heirOf_63 5 rfl ?_
          refine g_icmp_le C 75 dX7_heirOf_65 (by decide) (fun c65 => ?_) (fun c65 => ?_)
          · have h := iteT c65 h
            exact g_sub [1, 2, 3, 4, 5, 6] rfl (J75 x3 x4 x5 g56 h)
          · have h := iteF c65 h
            refine g_iload C dX7_heirOf_68 6 rfl ?_
            refine g_istore_n (lv' := [(3, .int x5), (6, .int r56), (0, .ref (ad th)), (1, .int x1), (2, .int x2), (4, .int x4), (5, .int x5)]) C dX7_heirOf_70 rfl (Nat.le_of_ble_eq_true rfl) rfl ?_
            refine g_iload C dX7_heirOf_71 1 rfl ?_
            refine g_istore (lv' := [(4, .int r56), (3, .int x5), (6, .int r56), (0, .ref (ad th)), (1, .int x1), (2, .int x2), (5, .int x5)]) C dX7_heirOf_73 (Nat.le_of_ble_eq_true rfl) rfl ?_
            exact g_sub [3, 4, 5, 1, 0, 6] rfl (J75 x5 r56 x5 g56 h)
    · show GcX_State_heirOf l D T ad Γ o xo xo g 81 [(0, .ref (ad th)), (1, .int x1), (2, .int x2), (3, .int x3)] []
      refine g_aload_n C dX7_heirOf_81 rfl 0 rfl ?_
      refine gX_get_X7_18 C (ob_State hth) (rf_State_4 hth) dX7_heirOf_82 ?_
      refine g_iload_n C dX7_heirOf_85 rfl 1 rfl ?_
      refine g_iload_n C dX7_heirOf_86 rfl 2 rfl ?_
      obtain ⟨g87, hr87, h⟩ := bnd h
      refine g_xSv (As := [.ref (ad (rX th 4)), .int x1, .int x2]) (rest := []) (go := g87) (xo := xo) Y (fun sz => cX_Rows_put l D T ad sK sV xo g (rX th 4) x1 x2 _ hr87 sz) kX_RX7_47_Rows_put ⟨Nat.le_of_ble_eq_true rfl, Nat.le_of_ble_eq_true rfl⟩ ⟨rfl, rfl⟩ ⟨Nat.zero_le _, Nat.zero_le _⟩ rfl rfl (Nat.le_of_ble_eq_true rfl) dX7_heirOf_87 ?_
      refine g_iload_n C dX7_heirOf_90 rfl 3 rfl ?_
      obtain rfl := Option.some.inj h
      exact g_iret C rfl rfl rfl dX7_heirOf_91
  refine g_aload_n C dX7_heirOf_0 rfl 0 rfl ?_
  refine gX_get_X7_18 C (ob_State hth) (rf_State_4 hth) dX7_heirOf_1 ?_
  refine g_iload_n C dX7_heirOf_4 rfl 1 rfl ?_
  obtain ⟨r5, hr5, h⟩ := bnd h
  refine g_xSi (As := [.ref (ad (rX th 4)), .int x1]) (rest := []) (ro := r5) (go := g) (xo := xo) Y (fun sz => cX_Rows_at l D T ad sK sV xo g (rX th 4) x1 _ hr5 sz) kX_RX7_41_Rows_at ⟨Nat.le_of_ble_eq_true rfl, Nat.le_of_ble_eq_true rfl⟩ ⟨rfl, rfl⟩ ⟨Nat.zero_le _, Nat.zero_le _⟩ rfl rfl (Nat.le_of_ble_eq_true rfl) dX7_heirOf_5 ?_
  refine g_istore_n (lv' := [(2, .int r5), (0, .ref (ad th)), (1, .int x1)]) C dX7_heirOf_8 rfl (Nat.le_of_ble_eq_true rfl) rfl ?_
  refine g_aload_n C dX7_heirOf_9 rfl 1 rfl ?_
  refine gX_get_X7_18 C (ob_State hth) (rf_State_4 hth) dX7_heirOf_10 ?_
  refine g_iload_n C dX7_heirOf_13 rfl 2 rfl ?_
  refine g_aload_n C dX7_heirOf_14 rfl 1 rfl ?_
  refine gX_get_X7_29 (v := g th 5) C (ob_State hth) (rf_State_5 hth) rfl dX7_heirOf_15 ?_
  obtain ⟨g18, hr18, h⟩ := bnd h
  refine g_xSv (As := [.ref (ad (rX th 4)), .int x1, .int (g th 5)]) (rest := []) (go := g18) (xo := xo) Y (fun sz => cX_Rows_put l D T ad sK sV xo g (rX th 4) x1 (g th 5) _ hr18 sz) kX_RX7_47_Rows_put ⟨Nat.le_of_ble_eq_true rfl, Nat.le_of_ble_eq_true rfl⟩ ⟨rfl, rfl⟩ ⟨Nat.zero_le _, Nat.zero_le _⟩ rfl rfl (Nat.le_of_ble_eq_true rfl) dX7_heirOf_18 ?_
  refine g_iconst C dX7_heirOf_21 ic_m1 ?_
  refine g_istore_n (lv' := [(3, .int (-1 : Int32)), (2, .int r5), (0, .ref (ad th)), (1, .int x1)]) C dX7_heirOf_22 rfl (Nat.le_of_ble_eq_true rfl) rfl ?_
  refine g_bipush C dX7_heirOf_23 bp_9 ?_
  refine g_istore (lv' := [(4, .int (9 : Int32)), (3, .int (-1 : Int32)), (2, .int r5), (0, .ref (ad th)), (1, .int x1)]) C dX7_heirOf_25 (Nat.le_of_ble_eq_true rfl) rfl ?_
  refine g_iconst C dX7_heirOf_27 ic_0 ?_
  refine g_istore (lv' := [(5, .int (0 : Int32)), (4, .int (9 : Int32)), (3, .int (-1 : Int32)), (2, .int r5), (0, .ref (ad th)), (1, .int x1)]) C dX7_heirOf_28 (Nat.le_of_ble_eq_true rfl) rfl ?_
  exact g_sub [4, 5, 3, 2, 1, 0] rfl (J30 x1 r5 (-1 : Int32) (9 : Int32) (0 : Int32) g18 h)
def fX_State_heirs_b44 (th : Nat) (x1 : Int32) (x2 : Int32) (g : St) : Option ((Int32 × Int32 × St) ⊕ ((Int32 × St))) :=
  some (.inl (x1, (x2 + (1 : Int32)), g))
def fX_State_heirs_b32 (th : Nat) (x1 : Int32) (x2 : Int32) (s0 : Int32) (g : St) : Option ((Int32 × Int32 × St) ⊕ ((Int32 × St))) :=
  if s0 = (-1 : Int32) then
    (fX_State_heirs_b44 th x1 x2 g)
  else
    (fX_State_heirs_b44 th (x1 ||| ((1 : Int32) <<< (s0 &&& 31))) x2 g)
def fX_State_heirs_L4 (th : Nat) : (Int32 × Int32 × St) → Option ((Int32 × Int32 × St) ⊕ ((Int32 × St))) := fun ⟨x1, x2, g⟩ =>
  if (g 2 0) ≤ x2 then
    (some (.inr (x1, g)))
  else
    ((fX_State_lives th x2 g).bind fun r17 => (if r17 = 0 then
    (fX_State_heirs_b32 th x1 x2 (-1 : Int32) g)
  else
    ((fX_State_heirOf th x2 g).bind fun ⟨r25, g25⟩ => (fX_State_heirs_b32 th x1 x2 r25 g25))))
def fX_State_heirs_b4 (th : Nat) (x1 : Int32) (x2 : Int32) (g : St) : Option (Int32 × St) :=
  (lp (fX_State_heirs_L4 th) fuel (x1, x2, g)).bind (fun ⟨x1, g⟩ => some (x1, g))
def fX_State_heirs (th : Nat) (g : St) : Option (Int32 × St) :=
  fX_State_heirs_b4 th (0 : Int32) (0 : Int32) g
def rmX_State_heirs : Room := { frames := 4, cells := 0, slots := 0, locals := 95 }
abbrev GcX_State_heirs (l : Launch) (D : va_G) (T : cT) (ad : Nat → Nat) (Γ : Cxt) (o : Int32 × St) (xo : Sl) (x : Sl) (g : St) (pc : Nat) (lv : List (Nat × Value)) (stk : List Value) : Prop := Gj l shX D T ad 4 (rmX_State_heirs) 0 0 Γ (MQ Γ.below (va_Qi (eqI o.1 o.2 xo) (wPost shX D T ad Γ.A) Γ.A) Γ.args Γ.s 0 0 Γ.A) x g pc lv stk
set_option maxRecDepth 100000 in
set_option maxHeartbeats 4000000 in
theorem cX_State_heirs (l : Launch) (D : va_G) (T : cT) (ad : Nat → Nat) (sK sV : Nat → Nat) (xo : Sl) (g : St) (th : Nat) (hth : isState th) (o : Int32 × St) (h : fX_State_heirs th g = some o) (sz : Nat) : Met l yX7_heirs wX_State_heirs (rmX_State_heirs) (va_Pc [.ref (ad th)] (xPre shX D T ad sK sV xo g sz)) (va_Qi (eqI o.1 o.2 xo) (wPost shX D T ad (aW shX T ad xo g sz)) (aW shX T ad xo g sz)) 0 0 (aW shX T ad xo g sz) := by
  refine g_startx (Qc := fun A => va_Qi (eqI o.1 o.2 xo) (wPost shX D T ad A) A) (by decide +kernel) rfl rfl (Nat.le_of_ble_eq_true rfl) (lv := [(0, .ref (ad th))]) rfl (fun Γ Y => ?_)
  have C := Y.1
  show GcX_State_heirs l D T ad Γ o xo xo g 0 [(0, .ref (ad th))] []
  have J4 : ∀ (x1 : Int32) (x2 : Int32) (g : St), fX_State_heirs_b4 th x1 x2 g = some o → GcX_State_heirs l D T ad Γ o xo xo g 4 [(0, .ref (ad th)), (1, .int x1), (2, .int x2)] [] := by
    intro x1 x2 g h
    obtain ⟨⟨x1, g⟩, ht, h⟩ := bnd h
    refine lp_run (P := fun t : Int32 × Int32 × St => match t with | (x1, x2, g) => GcX_State_heirs l D T ad Γ o xo xo g 4 [(0, .ref (ad th)), (1, .int x1), (2, .int x2)] []) (E := fun t : Int32 × St => match t with | (x1, g) => GcX_State_heirs l D T ad Γ o xo xo g 50 [(1, .int x1)] []) ?_ _ _ _ ht ?_
    · rintro ⟨x1, x2, g⟩ z h Kt Ke
      show GcX_State_heirs l D T ad Γ o xo xo g 4 [(0, .ref (ad th)), (1, .int x1), (2, .int x2)] []
      have J44 : ∀ (x1 : Int32) (x2 : Int32) (g : St), fX_State_heirs_b44 th x1 x2 g = some z → GcX_State_heirs l D T ad Γ o xo xo g 44 [(0, .ref (ad th)), (1, .int x1), (2, .int x2)] [] := by
        intro x1 x2 g h
        refine g_iinc (lv' := [(2, .int (x2 + (1 : Int32))), (0, .ref (ad th)), (1, .int x1)]) C dX7_heirs_44 2 rfl (ii_1 _) (Nat.le_of_ble_eq_true rfl) rfl ?_
        refine g_goto (tgt := 4) C dX7_heirs_47 (by decide) ?_
        exact g_sub [1, 2, 0] rfl (Kt _ (Option.some.inj h).symm)
      have J32 : ∀ (x1 : Int32) (x2 : Int32) (s0 : Int32) (g : St), fX_State_heirs_b32 th x1 x2 s0 g = some z → GcX_State_heirs l D T ad Γ o xo xo g 32 [(0, .ref (ad th)), (1, .int x1), (2, .int x2)] [.int s0] := by
        intro x1 x2 s0 g h
        refine g_istore_n (lv' := [(3, .int s0), (0, .ref (ad th)), (1, .int x1), (2, .int x2)]) C dX7_heirs_32 rfl (Nat.le_of_ble_eq_true rfl) rfl ?_
        refine g_iload_n C dX7_heirs_33 rfl 0 rfl ?_
        refine g_iconst C dX7_heirs_34 ic_m1 ?_
        refine g_icmp_eq C 44 dX7_heirs_35 (by decide) (fun c35 => ?_) (fun c35 => ?_)
        · have h := iteT c35 h
          exact g_sub [1, 2, 3] rfl (J44 x1 x2 g h)
        · have h := iteF c35 h
          refine g_iload_n C dX7_heirs_38 rfl 2 rfl ?_
          refine g_iconst C dX7_heirs_39 ic_1 ?_
          refine g_iload_n C dX7_heirs_40 rfl 0 rfl ?_
          refine g_ishl C dX7_heirs_41 ?_
          refine g_ior C dX7_heirs_42 ?_
          refine g_istore_n (lv' := [(1, .int (x1 ||| ((1 : Int32) <<< (s0 &&& 31)))), (3, .int s0), (0, .ref (ad th)), (2, .int x2)]) C dX7_heirs_43 rfl (Nat.le_of_ble_eq_true rfl) rfl ?_
          exact g_sub [2, 0, 3] rfl (J44 (x1 ||| ((1 : Int32) <<< (s0 &&& 31))) x2 g h)
      refine g_iload_n C dX7_heirs_4 rfl 2 rfl ?_
      refine g_aload_n C dX7_heirs_5 rfl 0 rfl ?_
      refine gX_get_X7_21 C (ob_State hth) (rf_State_0 hth) dX7_heirs_6 ?_
      refine gX_get_X7_33 (v := g 2 0) C ob_2 rfl rfl dX7_heirs_9 ?_
      refine g_icmp_ge C 50 dX7_heirs_12 (by decide) (fun c12 => ?_) (fun c12 => ?_)
      · have h := iteT c12 h
        exact g_sub [1] rfl (Ke _ (Option.some.inj h).symm)
      · have h := iteF c12 h
        refine g_aload_n C dX7_heirs_15 rfl 0 rfl ?_
        refine g_iload_n C dX7_heirs_16 rfl 2 rfl ?_
        obtain ⟨r17, hr17, h⟩ := bnd h
        refine g_xVz (k := th) (As := [.int x2]) (rest := []) (ro := r17) (go := g) (xo := xo) Y (fun sz => cX_State_lives l D T ad sK sV xo g th x2 hth _ hr17 sz) kX_RX7_55_State_lives ⟨Nat.le_of_ble_eq_true rfl, Nat.le_of_ble_eq_true rfl⟩ ⟨rfl, rfl⟩ ⟨Nat.zero_le _, Nat.zero_le _⟩ (rfl : vwCl[6]? = some (RX7, TX7, 6)) (ob_State hth) rfl rfl (Nat.le_of_ble_eq_true rfl) dX7_heirs_17 (fun hz17 => ?_)
        refine g_if_eq C 31 dX7_heirs_20 (by decide) (fun c20 => ?_) (fun c20 => ?_)
        · have h := iteT c20 h
          refine g_iconst C dX7_heirs_31 ic_m1 ?_
          exact J32 x1 x2 (-1 : Int32) g h
        · have h := iteF c20 h
          refine g_aload_n C dX7_heirs_23 rfl 0 rfl ?_
          refine g_iload_n C dX7_heirs_24 rfl 2 rfl ?_
          obtain ⟨⟨r25, g25⟩, hr25, h⟩ := bnd h
          refine g_xVi (k := th) (As := [.int x2]) (rest := []) (ro := r25) (go := g25) (xo := xo) Y (fun sz => cX_State_heirOf l D T ad sK sV xo g th x2 hth _ hr25 sz) kX_RX7_103_State_heirOf ⟨Nat.le_of_ble_eq_true rfl, Nat.le_of_ble_eq_true rfl⟩ ⟨rfl, rfl⟩ ⟨Nat.zero_le _, Nat.zero_le _⟩ (rfl : vwCl[6]? = some (RX7, TX7, 6)) (ob_State hth) rfl rfl (Nat.le_of_ble_eq_true rfl) dX7_heirs_25 ?_
          refine g_goto (tgt := 32) C dX7_heirs_28 (by decide) ?_
          exact J32 x1 x2 r25 g25 h
    · show GcX_State_heirs l D T ad Γ o xo xo g 50 [(1, .int x1)] []
      refine g_iload_n C dX7_heirs_50 rfl 0 rfl ?_
      obtain rfl := Option.some.inj h
      exact g_iret C rfl rfl rfl dX7_heirs_51
  refine g_iconst C dX7_heirs_0 ic_0 ?_
  refine g_istore_n (lv' := [(1, .int (0 : Int32)), (0, .ref (ad th))]) C dX7_heirs_1 rfl (Nat.le_of_ble_eq_true rfl) rfl ?_
  refine g_iconst C dX7_heirs_2 ic_0 ?_
  refine g_istore_n (lv' := [(2, .int (0 : Int32)), (1, .int (0 : Int32)), (0, .ref (ad th))]) C dX7_heirs_3 rfl (Nat.le_of_ble_eq_true rfl) rfl ?_
  exact g_sub [2, 1, 0] rfl (J4 (0 : Int32) (0 : Int32) g h)
def fX_State_heired_b38 (th : Nat) (x1 : Int32) (x2 : Int32) (g : St) : Option ((Int32 × Int32 × St) ⊕ ((Int32 × St))) :=
  some (.inl (x1, (x2 + (1 : Int32)), g))
def fX_State_heired_L4 (th : Nat) : (Int32 × Int32 × St) → Option ((Int32 × Int32 × St) ⊕ ((Int32 × St))) := fun ⟨x1, x2, g⟩ =>
  if (g 2 0) ≤ x2 then
    (some (.inr (x1, g)))
  else
    ((fX_State_lives th x2 g).bind fun r17 => (if r17 = 0 then
    (fX_State_heired_b38 th x1 x2 g)
  else
    ((fX_State_heirOf th x2 g).bind fun ⟨r25, g25⟩ => (if r25 = (-1 : Int32) then
    (fX_State_heired_b38 th x1 x2 g25)
  else
    (fX_State_heired_b38 th (x1 ||| ((1 : Int32) <<< (x2 &&& 31))) x2 g25)))))
def fX_State_heired_b4 (th : Nat) (x1 : Int32) (x2 : Int32) (g : St) : Option (Int32 × St) :=
  (lp (fX_State_heired_L4 th) fuel (x1, x2, g)).bind (fun ⟨x1, g⟩ => some (x1, g))
def fX_State_heired (th : Nat) (g : St) : Option (Int32 × St) :=
  fX_State_heired_b4 th (0 : Int32) (0 : Int32) g
def rmX_State_heired : Room := { frames := 4, cells := 0, slots := 0, locals := 95 }
abbrev GcX_State_heired (l : Launch) (D : va_G) (T : cT) (ad : Nat → Nat) (Γ : Cxt) (o : Int32 × St) (xo : Sl) (x : Sl) (g : St) (pc : Nat) (lv : List (Nat × Value)) (stk : List Value) : Prop := Gj l shX D T ad 3 (rmX_State_heired) 0 0 Γ (MQ Γ.below (va_Qi (eqI o.1 o.2 xo) (wPost shX D T ad Γ.A) Γ.A) Γ.args Γ.s 0 0 Γ.A) x g pc lv stk
set_option maxRecDepth 100000 in
set_option maxHeartbeats 4000000 in
theorem cX_State_heired (l : Launch) (D : va_G) (T : cT) (ad : Nat → Nat) (sK sV : Nat → Nat) (xo : Sl) (g : St) (th : Nat) (hth : isState th) (o : Int32 × St) (h : fX_State_heired th g = some o) (sz : Nat) : Met l yX7_heired wX_State_heired (rmX_State_heired) (va_Pc [.ref (ad th)] (xPre shX D T ad sK sV xo g sz)) (va_Qi (eqI o.1 o.2 xo) (wPost shX D T ad (aW shX T ad xo g sz)) (aW shX T ad xo g sz)) 0 0 (aW shX T ad xo g sz) := by
  refine g_startx (Qc := fun A => va_Qi (eqI o.1 o.2 xo) (wPost shX D T ad A) A) (by decide +kernel) rfl rfl (Nat.le_of_ble_eq_true rfl) (lv := [(0, .ref (ad th))]) rfl (fun Γ Y => ?_)
  have C := Y.1
  show GcX_State_heired l D T ad Γ o xo xo g 0 [(0, .ref (ad th))] []
  have J4 : ∀ (x1 : Int32) (x2 : Int32) (g : St), fX_State_heired_b4 th x1 x2 g = some o → GcX_State_heired l D T ad Γ o xo xo g 4 [(0, .ref (ad th)), (1, .int x1), (2, .int x2)] [] := by
    intro x1 x2 g h
    obtain ⟨⟨x1, g⟩, ht, h⟩ := bnd h
    refine lp_run (P := fun t : Int32 × Int32 × St => match t with | (x1, x2, g) => GcX_State_heired l D T ad Γ o xo xo g 4 [(0, .ref (ad th)), (1, .int x1), (2, .int x2)] []) (E := fun t : Int32 × St => match t with | (x1, g) => GcX_State_heired l D T ad Γ o xo xo g 44 [(1, .int x1)] []) ?_ _ _ _ ht ?_
    · rintro ⟨x1, x2, g⟩ z h Kt Ke
      show GcX_State_heired l D T ad Γ o xo xo g 4 [(0, .ref (ad th)), (1, .int x1), (2, .int x2)] []
      have J38 : ∀ (x1 : Int32) (x2 : Int32) (g : St), fX_State_heired_b38 th x1 x2 g = some z → GcX_State_heired l D T ad Γ o xo xo g 38 [(0, .ref (ad th)), (1, .int x1), (2, .int x2)] [] := by
        intro x1 x2 g h
        refine g_iinc (lv' := [(2, .int (x2 + (1 : Int32))), (0, .ref (ad th)), (1, .int x1)]) C dX7_heired_38 2 rfl (ii_1 _) (Nat.le_of_ble_eq_true rfl) rfl ?_
        refine g_goto (tgt := 4) C dX7_heired_41 (by decide) ?_
        exact g_sub [1, 2, 0] rfl (Kt _ (Option.some.inj h).symm)
      refine g_iload_n C dX7_heired_4 rfl 2 rfl ?_
      refine g_aload_n C dX7_heired_5 rfl 0 rfl ?_
      refine gX_get_X7_21 C (ob_State hth) (rf_State_0 hth) dX7_heired_6 ?_
      refine gX_get_X7_33 (v := g 2 0) C ob_2 rfl rfl dX7_heired_9 ?_
      refine g_icmp_ge C 44 dX7_heired_12 (by decide) (fun c12 => ?_) (fun c12 => ?_)
      · have h := iteT c12 h
        exact g_sub [1] rfl (Ke _ (Option.some.inj h).symm)
      · have h := iteF c12 h
        refine g_aload_n C dX7_heired_15 rfl 0 rfl ?_
        refine g_iload_n C dX7_heired_16 rfl 2 rfl ?_
        obtain ⟨r17, hr17, h⟩ := bnd h
        refine g_xVz (k := th) (As := [.int x2]) (rest := []) (ro := r17) (go := g) (xo := xo) Y (fun sz => cX_State_lives l D T ad sK sV xo g th x2 hth _ hr17 sz) kX_RX7_55_State_lives ⟨Nat.le_of_ble_eq_true rfl, Nat.le_of_ble_eq_true rfl⟩ ⟨rfl, rfl⟩ ⟨Nat.zero_le _, Nat.zero_le _⟩ (rfl : vwCl[6]? = some (RX7, TX7, 6)) (ob_State hth) rfl rfl (Nat.le_of_ble_eq_true rfl) dX7_heired_17 (fun hz17 => ?_)
        refine g_if_eq C 38 dX7_heired_20 (by decide) (fun c20 => ?_) (fun c20 => ?_)
        · have h := iteT c20 h
          exact J38 x1 x2 g h
        · have h := iteF c20 h
          refine g_aload_n C dX7_heired_23 rfl 0 rfl ?_
          refine g_iload_n C dX7_heired_24 rfl 2 rfl ?_
          obtain ⟨⟨r25, g25⟩, hr25, h⟩ := bnd h
          refine g_xVi (k := th) (As := [.int x2]) (rest := []) (ro := r25) (go := g25) (xo := xo) Y (fun sz => cX_State_heirOf l D T ad sK sV xo g th x2 hth _ hr25 sz) kX_RX7_103_State_heirOf ⟨Nat.le_of_ble_eq_true rfl, Nat.le_of_ble_eq_true rfl⟩ ⟨rfl, rfl⟩ ⟨Nat.zero_le _, Nat.zero_le _⟩ (rfl : vwCl[6]? = some (RX7, TX7, 6)) (ob_State hth) rfl rfl (Nat.le_of_ble_eq_true rfl) dX7_heired_25 ?_
          refine g_iconst C dX7_heired_28 ic_m1 ?_
          refine g_icmp_eq C 38 dX7_heired_29 (by decide) (fun c29 => ?_) (fun c29 => ?_)
          · have h := iteT c29 h
            exact J38 x1 x2 g25 h
          · have h := iteF c29 h
            refine g_iload_n C dX7_heired_32 rfl 1 rfl ?_
            refine g_iconst C dX7_heired_33 ic_1 ?_
            refine g_iload_n C dX7_heired_34 rfl 2 rfl ?_
            refine g_ishl C dX7_heired_35 ?_
            refine g_ior C dX7_heired_36 ?_
            refine g_istore_n (lv' := [(1, .int (x1 ||| ((1 : Int32) <<< (x2 &&& 31)))), (0, .ref (ad th)), (2, .int x2)]) C dX7_heired_37 rfl (Nat.le_of_ble_eq_true rfl) rfl ?_
            exact g_sub [1, 0, 2] rfl (J38 (x1 ||| ((1 : Int32) <<< (x2 &&& 31))) x2 g25 h)
    · show GcX_State_heired l D T ad Γ o xo xo g 44 [(1, .int x1)] []
      refine g_iload_n C dX7_heired_44 rfl 0 rfl ?_
      obtain rfl := Option.some.inj h
      exact g_iret C rfl rfl rfl dX7_heired_45
  refine g_iconst C dX7_heired_0 ic_0 ?_
  refine g_istore_n (lv' := [(1, .int (0 : Int32)), (0, .ref (ad th))]) C dX7_heired_1 rfl (Nat.le_of_ble_eq_true rfl) rfl ?_
  refine g_iconst C dX7_heired_2 ic_0 ?_
  refine g_istore_n (lv' := [(2, .int (0 : Int32)), (1, .int (0 : Int32)), (0, .ref (ad th))]) C dX7_heired_3 rfl (Nat.le_of_ble_eq_true rfl) rfl ?_
  exact g_sub [2, 1, 0] rfl (J4 (0 : Int32) (0 : Int32) g h)
def fX_State_owes (th : Nat) (x1 : Int32) (x2 : Int32) (g : St) : Option (St) :=
  (fX_Rows_at (rX th 2) x1 g).bind fun r13 => ((fX_Rows_put (rX th 2) x1 (if (r13 + x2) < (999 : Int32) then (r13 + x2) else (999 : Int32)) g).bind fun g21 => (some g21))
def rmX_State_owes : Room := { frames := 1, cells := 0, slots := 0, locals := 40 }
abbrev GcX_State_owes (l : Launch) (D : va_G) (T : cT) (ad : Nat → Nat) (Γ : Cxt) (o : St) (xo : Sl) (x : Sl) (g : St) (pc : Nat) (lv : List (Nat × Value)) (stk : List Value) : Prop := Gj l shX D T ad 3 (rmX_State_owes) 0 0 Γ (MQ Γ.below (va_Qv (eqV o xo) (wPost shX D T ad Γ.A) Γ.A) Γ.args Γ.s 0 0 Γ.A) x g pc lv stk
set_option maxRecDepth 100000 in
set_option maxHeartbeats 4000000 in
theorem cX_State_owes (l : Launch) (D : va_G) (T : cT) (ad : Nat → Nat) (sK sV : Nat → Nat) (xo : Sl) (g : St) (th : Nat) (x1 : Int32) (x2 : Int32) (hth : isState th) (o : St) (h : fX_State_owes th x1 x2 g = some o) (sz : Nat) : Met l yX7_owes wX_State_owes (rmX_State_owes) (va_Pc [.ref (ad th), .int x1, .int x2] (xPre shX D T ad sK sV xo g sz)) (va_Qv (eqV o xo) (wPost shX D T ad (aW shX T ad xo g sz)) (aW shX T ad xo g sz)) 0 0 (aW shX T ad xo g sz) := by
  refine g_startx (Qc := fun A => va_Qv (eqV o xo) (wPost shX D T ad A) A) (by decide +kernel) rfl rfl (Nat.le_of_ble_eq_true rfl) (lv := [(0, .ref (ad th)), (1, .int x1), (2, .int x2)]) rfl (fun Γ Y => ?_)
  have C := Y.1
  show GcX_State_owes l D T ad Γ o xo xo g 0 [(0, .ref (ad th)), (1, .int x1), (2, .int x2)] []
  refine g_aload_n C dX7_owes_0 rfl 0 rfl ?_
  refine gX_get_X7_9 C (ob_State hth) (rf_State_2 hth) dX7_owes_1 ?_
  refine g_iload_n C dX7_owes_4 rfl 1 rfl ?_
  refine g_sipush C dX7_owes_5 sp_999 ?_
  refine g_aload_n C dX7_owes_8 rfl 0 rfl ?_
  refine gX_get_X7_9 C (ob_State hth) (rf_State_2 hth) dX7_owes_9 ?_
  refine g_iload_n C dX7_owes_12 rfl 1 rfl ?_
  obtain ⟨r13, hr13, h⟩ := bnd h
  refine g_xSi (As := [.ref (ad (rX th 2)), .int x1]) (rest := [.int (999 : Int32), .int x1, .ref (ad (rX th 2))]) (ro := r13) (go := g) (xo := xo) Y (fun sz => cX_Rows_at l D T ad sK sV xo g (rX th 2) x1 _ hr13 sz) kX_RX7_41_Rows_at ⟨Nat.le_of_ble_eq_true rfl, Nat.le_of_ble_eq_true rfl⟩ ⟨rfl, rfl⟩ ⟨Nat.zero_le _, Nat.zero_le _⟩ rfl rfl (Nat.le_of_ble_eq_true rfl) dX7_owes_13 ?_
  refine g_iload_n C dX7_owes_16 rfl 2 rfl ?_
  refine g_iadd C dX7_owes_17 ?_
  refine g_mmin (rest := [.int x1, .ref (ad (rX th 2))]) C (List.mem_cons_of_mem _ bx_343) (List.mem_cons_of_mem _ bx_56) (List.mem_cons_of_mem _ bx_57) (List.mem_cons_of_mem _ bx_58) (Nat.le_of_ble_eq_true rfl) (Nat.le_of_ble_eq_true rfl) ⟨Nat.zero_le _, Nat.zero_le _⟩ dX7_owes_18 ?_
  obtain ⟨g21, hr21, h⟩ := bnd h
  refine g_xSv (As := [.ref (ad (rX th 2)), .int x1, .int (if (r13 + x2) < (999 : Int32) then (r13 + x2) else (999 : Int32))]) (rest := []) (go := g21) (xo := xo) Y (fun sz => cX_Rows_put l D T ad sK sV xo g (rX th 2) x1 (if (r13 + x2) < (999 : Int32) then (r13 + x2) else (999 : Int32)) _ hr21 sz) kX_RX7_47_Rows_put ⟨Nat.le_of_ble_eq_true rfl, Nat.le_of_ble_eq_true rfl⟩ ⟨rfl, rfl⟩ ⟨Nat.zero_le _, Nat.zero_le _⟩ rfl rfl (Nat.le_of_ble_eq_true rfl) dX7_owes_21 ?_
  obtain rfl := Option.some.inj h
  exact g_vret C rfl rfl dX7_owes_24
def fX_State_takeName (th : Nat) (x1 : Int32) (x2 : Int32) (g : St) : Option (St) :=
  (fX_Rows_put (rX th 3) x1 x2 g).bind fun g6 => ((fX_Rows_at (rX th 2) x1 g6).bind fun r16 => ((fX_State_owes th x2 r16 g6).bind fun g19 => ((fX_Rows_put (rX th 2) x1 (0 : Int32) g19).bind fun g28 => (some g28))))
def rmX_State_takeName : Room := { frames := 2, cells := 0, slots := 0, locals := 62 }
abbrev GcX_State_takeName (l : Launch) (D : va_G) (T : cT) (ad : Nat → Nat) (Γ : Cxt) (o : St) (xo : Sl) (x : Sl) (g : St) (pc : Nat) (lv : List (Nat × Value)) (stk : List Value) : Prop := Gj l shX D T ad 3 (rmX_State_takeName) 0 0 Γ (MQ Γ.below (va_Qv (eqV o xo) (wPost shX D T ad Γ.A) Γ.A) Γ.args Γ.s 0 0 Γ.A) x g pc lv stk
set_option maxRecDepth 100000 in
set_option maxHeartbeats 4000000 in
theorem cX_State_takeName (l : Launch) (D : va_G) (T : cT) (ad : Nat → Nat) (sK sV : Nat → Nat) (xo : Sl) (g : St) (th : Nat) (x1 : Int32) (x2 : Int32) (hth : isState th) (o : St) (h : fX_State_takeName th x1 x2 g = some o) (sz : Nat) : Met l yX7_takeName wX_State_takeName (rmX_State_takeName) (va_Pc [.ref (ad th), .int x1, .int x2] (xPre shX D T ad sK sV xo g sz)) (va_Qv (eqV o xo) (wPost shX D T ad (aW shX T ad xo g sz)) (aW shX T ad xo g sz)) 0 0 (aW shX T ad xo g sz) := by
  refine g_startx (Qc := fun A => va_Qv (eqV o xo) (wPost shX D T ad A) A) (by decide +kernel) rfl rfl (Nat.le_of_ble_eq_true rfl) (lv := [(0, .ref (ad th)), (1, .int x1), (2, .int x2)]) rfl (fun Γ Y => ?_)
  have C := Y.1
  show GcX_State_takeName l D T ad Γ o xo xo g 0 [(0, .ref (ad th)), (1, .int x1), (2, .int x2)] []
  refine g_aload_n C dX7_takeName_0 rfl 0 rfl ?_
  refine gX_get_X7_15 C (ob_State hth) (rf_State_3 hth) dX7_takeName_1 ?_
  refine g_iload_n C dX7_takeName_4 rfl 1 rfl ?_
  refine g_iload_n C dX7_takeName_5 rfl 2 rfl ?_
  obtain ⟨g6, hr6, h⟩ := bnd h
  refine g_xSv (As := [.ref (ad (rX th 3)), .int x1, .int x2]) (rest := []) (go := g6) (xo := xo) Y (fun sz => cX_Rows_put l D T ad sK sV xo g (rX th 3) x1 x2 _ hr6 sz) kX_RX7_47_Rows_put ⟨Nat.le_of_ble_eq_true rfl, Nat.le_of_ble_eq_true rfl⟩ ⟨rfl, rfl⟩ ⟨Nat.zero_le _, Nat.zero_le _⟩ rfl rfl (Nat.le_of_ble_eq_true rfl) dX7_takeName_6 ?_
  refine g_aload_n C dX7_takeName_9 rfl 0 rfl ?_
  refine g_iload_n C dX7_takeName_10 rfl 2 rfl ?_
  refine g_aload_n C dX7_takeName_11 rfl 0 rfl ?_
  refine gX_get_X7_9 C (ob_State hth) (rf_State_2 hth) dX7_takeName_12 ?_
  refine g_iload_n C dX7_takeName_15 rfl 1 rfl ?_
  obtain ⟨r16, hr16, h⟩ := bnd h
  refine g_xSi (As := [.ref (ad (rX th 2)), .int x1]) (rest := [.int x2, .ref (ad th)]) (ro := r16) (go := g6) (xo := xo) Y (fun sz => cX_Rows_at l D T ad sK sV xo g6 (rX th 2) x1 _ hr16 sz) kX_RX7_41_Rows_at ⟨Nat.le_of_ble_eq_true rfl, Nat.le_of_ble_eq_true rfl⟩ ⟨rfl, rfl⟩ ⟨Nat.zero_le _, Nat.zero_le _⟩ rfl rfl (Nat.le_of_ble_eq_true rfl) dX7_takeName_16 ?_
  obtain ⟨g19, hr19, h⟩ := bnd h
  refine g_xVv (k := th) (As := [.int x2, .int r16]) (rest := []) (go := g19) (xo := xo) Y (fun sz => cX_State_owes l D T ad sK sV xo g6 th x2 r16 hth _ hr19 sz) kX_RX7_116_State_owes ⟨Nat.le_of_ble_eq_true rfl, Nat.le_of_ble_eq_true rfl⟩ ⟨rfl, rfl⟩ ⟨Nat.zero_le _, Nat.zero_le _⟩ (rfl : vwCl[6]? = some (RX7, TX7, 6)) (ob_State hth) rfl rfl (Nat.le_of_ble_eq_true rfl) dX7_takeName_19 ?_
  refine g_aload_n C dX7_takeName_22 rfl 0 rfl ?_
  refine gX_get_X7_9 C (ob_State hth) (rf_State_2 hth) dX7_takeName_23 ?_
  refine g_iload_n C dX7_takeName_26 rfl 1 rfl ?_
  refine g_iconst C dX7_takeName_27 ic_0 ?_
  obtain ⟨g28, hr28, h⟩ := bnd h
  refine g_xSv (As := [.ref (ad (rX th 2)), .int x1, .int (0 : Int32)]) (rest := []) (go := g28) (xo := xo) Y (fun sz => cX_Rows_put l D T ad sK sV xo g19 (rX th 2) x1 (0 : Int32) _ hr28 sz) kX_RX7_47_Rows_put ⟨Nat.le_of_ble_eq_true rfl, Nat.le_of_ble_eq_true rfl⟩ ⟨rfl, rfl⟩ ⟨Nat.zero_le _, Nat.zero_le _⟩ rfl rfl (Nat.le_of_ble_eq_true rfl) dX7_takeName_28 ?_
  obtain rfl := Option.some.inj h
  exact g_vret C rfl rfl dX7_takeName_31
def fX_State_passYear_b31 (th : Nat) (x1 : Int32) (g : St) : Option ((Int32 × St) ⊕ (St)) :=
  some (.inl ((x1 + (1 : Int32)), g))
def fX_State_passYear_L2 (th : Nat) : (Int32 × St) → Option ((Int32 × St) ⊕ (St)) := fun ⟨x1, g⟩ =>
  if (g 2 0) ≤ x1 then
    (some (.inr g))
  else
    ((fX_State_lives th x1 g).bind fun r15 => (if r15 = 0 then
    (fX_State_passYear_b31 th x1 g)
  else
    ((fX_State_stonesOf th x1 g).bind fun r25 => ((fX_State_owes th x1 r25 g).bind fun g28 => (fX_State_passYear_b31 th x1 g28)))))
def fX_State_passYear_b2 (th : Nat) (x1 : Int32) (g : St) : Option (St) :=
  (lp (fX_State_passYear_L2 th) fuel (x1, g)).bind (fun g => some (st g th 5 ((g th 5) + (1 : Int32))))
def fX_State_passYear (th : Nat) (g : St) : Option (St) :=
  fX_State_passYear_b2 th (0 : Int32) g
def rmX_State_passYear : Room := { frames := 2, cells := 0, slots := 0, locals := 62 }
abbrev GcX_State_passYear (l : Launch) (D : va_G) (T : cT) (ad : Nat → Nat) (Γ : Cxt) (o : St) (xo : Sl) (x : Sl) (g : St) (pc : Nat) (lv : List (Nat × Value)) (stk : List Value) : Prop := Gj l shX D T ad 2 (rmX_State_passYear) 0 0 Γ (MQ Γ.below (va_Qv (eqV o xo) (wPost shX D T ad Γ.A) Γ.A) Γ.args Γ.s 0 0 Γ.A) x g pc lv stk
set_option maxRecDepth 100000 in
set_option maxHeartbeats 4000000 in
theorem cX_State_passYear (l : Launch) (D : va_G) (T : cT) (ad : Nat → Nat) (sK sV : Nat → Nat) (xo : Sl) (g : St) (th : Nat) (hth : isState th) (o : St) (h : fX_State_passYear th g = some o) (sz : Nat) : Met l yX7_passYear wX_State_passYear (rmX_State_passYear) (va_Pc [.ref (ad th)] (xPre shX D T ad sK sV xo g sz)) (va_Qv (eqV o xo) (wPost shX D T ad (aW shX T ad xo g sz)) (aW shX T ad xo g sz)) 0 0 (aW shX T ad xo g sz) := by
  refine g_startx (Qc := fun A => va_Qv (eqV o xo) (wPost shX D T ad A) A) (by decide +kernel) rfl rfl (Nat.le_of_ble_eq_true rfl) (lv := [(0, .ref (ad th))]) rfl (fun Γ Y => ?_)
  have C := Y.1
  show GcX_State_passYear l D T ad Γ o xo xo g 0 [(0, .ref (ad th))] []
  have J2 : ∀ (x1 : Int32) (g : St), fX_State_passYear_b2 th x1 g = some o → GcX_State_passYear l D T ad Γ o xo xo g 2 [(0, .ref (ad th)), (1, .int x1)] [] := by
    intro x1 g h
    obtain ⟨g, ht, h⟩ := bnd h
    refine lp_run (P := fun t : Int32 × St => match t with | (x1, g) => GcX_State_passYear l D T ad Γ o xo xo g 2 [(0, .ref (ad th)), (1, .int x1)] []) (E := fun g : St => GcX_State_passYear l D T ad Γ o xo xo g 37 [(0, .ref (ad th))] []) ?_ _ _ _ ht ?_
    · rintro ⟨x1, g⟩ z h Kt Ke
      show GcX_State_passYear l D T ad Γ o xo xo g 2 [(0, .ref (ad th)), (1, .int x1)] []
      have J31 : ∀ (x1 : Int32) (g : St), fX_State_passYear_b31 th x1 g = some z → GcX_State_passYear l D T ad Γ o xo xo g 31 [(0, .ref (ad th)), (1, .int x1)] [] := by
        intro x1 g h
        refine g_iinc (lv' := [(1, .int (x1 + (1 : Int32))), (0, .ref (ad th))]) C dX7_passYear_31 1 rfl (ii_1 _) (Nat.le_of_ble_eq_true rfl) rfl ?_
        refine g_goto (tgt := 2) C dX7_passYear_34 (by decide) ?_
        exact g_sub [1, 0] rfl (Kt _ (Option.some.inj h).symm)
      refine g_iload_n C dX7_passYear_2 rfl 1 rfl ?_
      refine g_aload_n C dX7_passYear_3 rfl 0 rfl ?_
      refine gX_get_X7_21 C (ob_State hth) (rf_State_0 hth) dX7_passYear_4 ?_
      refine gX_get_X7_33 (v := g 2 0) C ob_2 rfl rfl dX7_passYear_7 ?_
      refine g_icmp_ge C 37 dX7_passYear_10 (by decide) (fun c10 => ?_) (fun c10 => ?_)
      · have h := iteT c10 h
        exact g_sub [0] rfl (Ke _ (Option.some.inj h).symm)
      · have h := iteF c10 h
        refine g_aload_n C dX7_passYear_13 rfl 0 rfl ?_
        refine g_iload_n C dX7_passYear_14 rfl 1 rfl ?_
        obtain ⟨r15, hr15, h⟩ := bnd h
        refine g_xVz (k := th) (As := [.int x1]) (rest := []) (ro := r15) (go := g) (xo := xo) Y (fun sz => cX_State_lives l D T ad sK sV xo g th x1 hth _ hr15 sz) kX_RX7_55_State_lives ⟨Nat.le_of_ble_eq_true rfl, Nat.le_of_ble_eq_true rfl⟩ ⟨rfl, rfl⟩ ⟨Nat.zero_le _, Nat.zero_le _⟩ (rfl : vwCl[6]? = some (RX7, TX7, 6)) (ob_State hth) rfl rfl (Nat.le_of_ble_eq_true rfl) dX7_passYear_15 (fun hz15 => ?_)
        refine g_if_eq C 31 dX7_passYear_18 (by decide) (fun c18 => ?_) (fun c18 => ?_)
        · have h := iteT c18 h
          exact J31 x1 g h
        · have h := iteF c18 h
          refine g_aload_n C dX7_passYear_21 rfl 0 rfl ?_
          refine g_iload_n C dX7_passYear_22 rfl 1 rfl ?_
          refine g_aload_n C dX7_passYear_23 rfl 0 rfl ?_
          refine g_iload_n C dX7_passYear_24 rfl 1 rfl ?_
          obtain ⟨r25, hr25, h⟩ := bnd h
          refine g_xVi (k := th) (As := [.int x1]) (rest := [.int x1, .ref (ad th)]) (ro := r25) (go := g) (xo := xo) Y (fun sz => cX_State_stonesOf l D T ad sK sV xo g th x1 hth _ hr25 sz) kX_RX7_62_State_stonesOf ⟨Nat.le_of_ble_eq_true rfl, Nat.le_of_ble_eq_true rfl⟩ ⟨rfl, rfl⟩ ⟨Nat.zero_le _, Nat.zero_le _⟩ (rfl : vwCl[6]? = some (RX7, TX7, 6)) (ob_State hth) rfl rfl (Nat.le_of_ble_eq_true rfl) dX7_passYear_25 ?_
          obtain ⟨g28, hr28, h⟩ := bnd h
          refine g_xVv (k := th) (As := [.int x1, .int r25]) (rest := []) (go := g28) (xo := xo) Y (fun sz => cX_State_owes l D T ad sK sV xo g th x1 r25 hth _ hr28 sz) kX_RX7_116_State_owes ⟨Nat.le_of_ble_eq_true rfl, Nat.le_of_ble_eq_true rfl⟩ ⟨rfl, rfl⟩ ⟨Nat.zero_le _, Nat.zero_le _⟩ (rfl : vwCl[6]? = some (RX7, TX7, 6)) (ob_State hth) rfl rfl (Nat.le_of_ble_eq_true rfl) dX7_passYear_28 ?_
          exact J31 x1 g28 h
    · show GcX_State_passYear l D T ad Γ o xo xo g 37 [(0, .ref (ad th))] []
      refine g_aload_n C dX7_passYear_37 rfl 0 rfl ?_
      refine g_dup C dX7_passYear_38 rfl ?_
      refine gX_get_X7_29 (v := g th 5) C (ob_State hth) (rf_State_5 hth) rfl dX7_passYear_39 ?_
      refine g_iconst C dX7_passYear_42 ic_1 ?_
      refine g_iadd C dX7_passYear_43 ?_
      refine gX_put_X7_29 C (ob_State hth) (rf_State_5 hth) dX7_passYear_44 ?_
      obtain rfl := Option.some.inj h
      exact g_vret C rfl rfl dX7_passYear_47
  refine g_iconst C dX7_passYear_0 ic_0 ?_
  refine g_istore_n (lv' := [(1, .int (0 : Int32)), (0, .ref (ad th))]) C dX7_passYear_1 rfl (Nat.le_of_ble_eq_true rfl) rfl ?_
  exact g_sub [1, 0] rfl (J2 (0 : Int32) g h)
def fX_State_does (th : Nat) (x1 : Int32) (x2 : Int32) (x3 : Int32) (g : St) : Option (Int32 × St) :=
  if x1 = 0 then
    ((fX_State_lives th x2 g).bind fun r38 => (if r38 = 0 then
    (some ((0 : Int32), g))
  else
    ((fX_State_heirOf th x2 g).bind fun ⟨r48, g48⟩ => ((fX_Rows_put (rX th 4) x2 (g48 th 5) g48).bind fun g62 => (if r48 = (-1 : Int32) then
    (some ((1 : Int32), g62))
  else
    ((fX_State_takeName th x2 r48 g62).bind fun g75 => (some ((1 : Int32), g75))))))))
  else
    (if x1 = 1 then
    ((fX_State_isDead th x3 g).bind fun r82 => (if r82 = 0 then
    (some ((0 : Int32), g))
  else
    ((fX_Rows_at (rX th 3) x3 g).bind fun r93 => (if r93 = (-1 : Int32) then
    ((fX_State_lendsTo th x2 x3 g).bind fun ⟨r103, g103⟩ => (if r103 = 0 then
    (some ((0 : Int32), g103))
  else
    ((fX_State_takeName th x3 x2 g103).bind fun g114 => (some ((1 : Int32), g114)))))
  else
    (some ((0 : Int32), g))))))
  else
    (if x1 = 2 then
    ((fX_Rows_at (rX th 2) x2 g).bind fun r124 => (if 0 < r124 then
    ((fX_Rows_at (rX th 2) x2 g).bind fun r143 => ((fX_Rows_put (rX th 2) x2 (if (0 : Int32) < (r143 - x3) then (r143 - x3) else (0 : Int32)) g).bind fun g151 => (some ((1 : Int32), g151))))
  else
    (some ((0 : Int32), g))))
  else
    (if x1 = 3 then
    ((fX_State_lives th x2 g).bind fun r158 => (if r158 = 0 then
    (some ((0 : Int32), g))
  else
    ((fX_Rows_at (rX th 2) x2 g).bind fun r169 => (if r169 < (999 : Int32) then
    ((fX_State_owes th x2 x3 g).bind fun g183 => (some ((1 : Int32), g183)))
  else
    (some ((0 : Int32), g))))))
  else
    (if x1 = 4 then
    (if (g th 5) < (900 : Int32) then
    ((fX_State_passYear th g).bind fun g201 => (some ((1 : Int32), g201)))
  else
    (some ((0 : Int32), g)))
  else
    (some ((0 : Int32), g))))))
def rmX_State_does : Room := { frames := 4, cells := 0, slots := 0, locals := 95 }
abbrev GcX_State_does (l : Launch) (D : va_G) (T : cT) (ad : Nat → Nat) (Γ : Cxt) (o : Int32 × St) (xo : Sl) (x : Sl) (g : St) (pc : Nat) (lv : List (Nat × Value)) (stk : List Value) : Prop := Gj l shX D T ad 5 (rmX_State_does) 0 0 Γ (MQ Γ.below (va_Qi (eqZ o.1 o.2 xo) (wPost shX D T ad Γ.A) Γ.A) Γ.args Γ.s 0 0 Γ.A) x g pc lv stk
set_option maxRecDepth 100000 in
set_option maxHeartbeats 4000000 in
theorem cX_State_does (l : Launch) (D : va_G) (T : cT) (ad : Nat → Nat) (sK sV : Nat → Nat) (xo : Sl) (g : St) (th : Nat) (x1 : Int32) (x2 : Int32) (x3 : Int32) (hth : isState th) (o : Int32 × St) (h : fX_State_does th x1 x2 x3 g = some o) (sz : Nat) : Met l yX7_does wX_State_does (rmX_State_does) (va_Pc [.ref (ad th), .int x1, .int x2, .int x3] (xPre shX D T ad sK sV xo g sz)) (va_Qi (eqZ o.1 o.2 xo) (wPost shX D T ad (aW shX T ad xo g sz)) (aW shX T ad xo g sz)) 0 0 (aW shX T ad xo g sz) := by
  refine g_startx (Qc := fun A => va_Qi (eqZ o.1 o.2 xo) (wPost shX D T ad A) A) (by decide +kernel) rfl rfl (Nat.le_of_ble_eq_true rfl) (lv := [(0, .ref (ad th)), (1, .int x1), (2, .int x2), (3, .int x3)]) rfl (fun Γ Y => ?_)
  have C := Y.1
  show GcX_State_does l D T ad Γ o xo xo g 0 [(0, .ref (ad th)), (1, .int x1), (2, .int x2), (3, .int x3)] []
  refine g_iload_n C dX7_does_0 rfl 1 rfl ?_
  by_cases c1_0 : x1 = 0
  · have h := iteT c1_0 h
    refine g_tabIn C 0 36 dX7_does_1 c1_0 (by decide) (by decide) rfl (by decide) ?_
    refine g_aload_n C dX7_does_36 rfl 0 rfl ?_
    refine g_iload_n C dX7_does_37 rfl 2 rfl ?_
    obtain ⟨r38, hr38, h⟩ := bnd h
    refine g_xVz (k := th) (As := [.int x2]) (rest := []) (ro := r38) (go := g) (xo := xo) Y (fun sz => cX_State_lives l D T ad sK sV xo g th x2 hth _ hr38 sz) kX_RX7_55_State_lives ⟨Nat.le_of_ble_eq_true rfl, Nat.le_of_ble_eq_true rfl⟩ ⟨rfl, rfl⟩ ⟨Nat.zero_le _, Nat.zero_le _⟩ (rfl : vwCl[6]? = some (RX7, TX7, 6)) (ob_State hth) rfl rfl (Nat.le_of_ble_eq_true rfl) dX7_does_38 (fun hz38 => ?_)
    refine g_if_ne C 46 dX7_does_41 (by decide) (fun c41 => ?_) (fun c41 => ?_)
    · have h := iteT c41 h
      refine g_iconst C dX7_does_44 ic_0 ?_
      obtain rfl := Option.some.inj h
      exact g_zret C rfl rfl rfl rfl dX7_does_45
    · have h := iteF c41 h
      refine g_aload_n C dX7_does_46 rfl 0 rfl ?_
      refine g_iload_n C dX7_does_47 rfl 2 rfl ?_
      obtain ⟨⟨r48, g48⟩, hr48, h⟩ := bnd h
      refine g_xVi (k := th) (As := [.int x2]) (rest := []) (ro := r48) (go := g48) (xo := xo) Y (fun sz => cX_State_heirOf l D T ad sK sV xo g th x2 hth _ hr48 sz) kX_RX7_103_State_heirOf ⟨Nat.le_of_ble_eq_true rfl, Nat.le_of_ble_eq_true rfl⟩ ⟨rfl, rfl⟩ ⟨Nat.zero_le _, Nat.zero_le _⟩ (rfl : vwCl[6]? = some (RX7, TX7, 6)) (ob_State hth) rfl rfl (Nat.le_of_ble_eq_true rfl) dX7_does_48 ?_
      refine g_istore (lv' := [(4, .int r48), (0, .ref (ad th)), (1, .int x1), (2, .int x2), (3, .int x3)]) C dX7_does_51 (Nat.le_of_ble_eq_true rfl) rfl ?_
      refine g_aload_n C dX7_does_53 rfl 1 rfl ?_
      refine gX_get_X7_18 C (ob_State hth) (rf_State_4 hth) dX7_does_54 ?_
      refine g_iload_n C dX7_does_57 rfl 3 rfl ?_
      refine g_aload_n C dX7_does_58 rfl 1 rfl ?_
      refine gX_get_X7_29 (v := g48 th 5) C (ob_State hth) (rf_State_5 hth) rfl dX7_does_59 ?_
      obtain ⟨g62, hr62, h⟩ := bnd h
      refine g_xSv (As := [.ref (ad (rX th 4)), .int x2, .int (g48 th 5)]) (rest := []) (go := g62) (xo := xo) Y (fun sz => cX_Rows_put l D T ad sK sV xo g48 (rX th 4) x2 (g48 th 5) _ hr62 sz) kX_RX7_47_Rows_put ⟨Nat.le_of_ble_eq_true rfl, Nat.le_of_ble_eq_true rfl⟩ ⟨rfl, rfl⟩ ⟨Nat.zero_le _, Nat.zero_le _⟩ rfl rfl (Nat.le_of_ble_eq_true rfl) dX7_does_62 ?_
      refine g_iload C dX7_does_65 0 rfl ?_
      refine g_iconst C dX7_does_67 ic_m1 ?_
      refine g_icmp_eq C 78 dX7_does_68 (by decide) (fun c68 => ?_) (fun c68 => ?_)
      · have h := iteT c68 h
        refine g_iconst C dX7_does_78 ic_1 ?_
        obtain rfl := Option.some.inj h
        exact g_zret C rfl rfl rfl rfl dX7_does_79
      · have h := iteF c68 h
        refine g_aload_n C dX7_does_71 rfl 1 rfl ?_
        refine g_iload_n C dX7_does_72 rfl 3 rfl ?_
        refine g_iload C dX7_does_73 0 rfl ?_
        obtain ⟨g75, hr75, h⟩ := bnd h
        refine g_xVv (k := th) (As := [.int x2, .int r48]) (rest := []) (go := g75) (xo := xo) Y (fun sz => cX_State_takeName l D T ad sK sV xo g62 th x2 r48 hth _ hr75 sz) kX_RX7_106_State_takeName ⟨Nat.le_of_ble_eq_true rfl, Nat.le_of_ble_eq_true rfl⟩ ⟨rfl, rfl⟩ ⟨Nat.zero_le _, Nat.zero_le _⟩ (rfl : vwCl[6]? = some (RX7, TX7, 6)) (ob_State hth) rfl rfl (Nat.le_of_ble_eq_true rfl) dX7_does_75 ?_
        refine g_iconst C dX7_does_78 ic_1 ?_
        obtain rfl := Option.some.inj h
        exact g_zret C rfl rfl rfl rfl dX7_does_79
  have h := iteF c1_0 h
  by_cases c1_1 : x1 = 1
  · have h := iteT c1_1 h
    refine g_tabIn C 1 80 dX7_does_1 c1_1 (by decide) (by decide) rfl (by decide) ?_
    refine g_aload_n C dX7_does_80 rfl 0 rfl ?_
    refine g_iload_n C dX7_does_81 rfl 3 rfl ?_
    obtain ⟨r82, hr82, h⟩ := bnd h
    refine g_xVz (k := th) (As := [.int x3]) (rest := []) (ro := r82) (go := g) (xo := xo) Y (fun sz => cX_State_isDead l D T ad sK sV xo g th x3 hth _ hr82 sz) kX_RX7_59_State_isDead ⟨Nat.le_of_ble_eq_true rfl, Nat.le_of_ble_eq_true rfl⟩ ⟨rfl, rfl⟩ ⟨Nat.zero_le _, Nat.zero_le _⟩ (rfl : vwCl[6]? = some (RX7, TX7, 6)) (ob_State hth) rfl rfl (Nat.le_of_ble_eq_true rfl) dX7_does_82 (fun hz82 => ?_)
    refine g_if_eq C 109 dX7_does_85 (by decide) (fun c85 => ?_) (fun c85 => ?_)
    · have h := iteT c85 h
      refine g_iconst C dX7_does_109 ic_0 ?_
      obtain rfl := Option.some.inj h
      exact g_zret C rfl rfl rfl rfl dX7_does_110
    · have h := iteF c85 h
      refine g_aload_n C dX7_does_88 rfl 0 rfl ?_
      refine gX_get_X7_15 C (ob_State hth) (rf_State_3 hth) dX7_does_89 ?_
      refine g_iload_n C dX7_does_92 rfl 3 rfl ?_
      obtain ⟨r93, hr93, h⟩ := bnd h
      refine g_xSi (As := [.ref (ad (rX th 3)), .int x3]) (rest := []) (ro := r93) (go := g) (xo := xo) Y (fun sz => cX_Rows_at l D T ad sK sV xo g (rX th 3) x3 _ hr93 sz) kX_RX7_41_Rows_at ⟨Nat.le_of_ble_eq_true rfl, Nat.le_of_ble_eq_true rfl⟩ ⟨rfl, rfl⟩ ⟨Nat.zero_le _, Nat.zero_le _⟩ rfl rfl (Nat.le_of_ble_eq_true rfl) dX7_does_93 ?_
      refine g_iconst C dX7_does_96 ic_m1 ?_
      refine g_icmp_ne C 109 dX7_does_97 (by decide) (fun c97 => ?_) (fun c97 => ?_)
      · have h := iteT c97 h
        refine g_aload_n C dX7_does_100 rfl 0 rfl ?_
        refine g_iload_n C dX7_does_101 rfl 2 rfl ?_
        refine g_iload_n C dX7_does_102 rfl 3 rfl ?_
        obtain ⟨⟨r103, g103⟩, hr103, h⟩ := bnd h
        refine g_xVz (k := th) (As := [.int x2, .int x3]) (rest := []) (ro := r103) (go := g103) (xo := xo) Y (fun sz => cX_State_lendsTo l D T ad sK sV xo g th x2 x3 hth _ hr103 sz) kX_RX7_110_State_lendsTo ⟨Nat.le_of_ble_eq_true rfl, Nat.le_of_ble_eq_true rfl⟩ ⟨rfl, rfl⟩ ⟨Nat.zero_le _, Nat.zero_le _⟩ (rfl : vwCl[6]? = some (RX7, TX7, 6)) (ob_State hth) rfl rfl (Nat.le_of_ble_eq_true rfl) dX7_does_103 (fun hz103 => ?_)
        refine g_if_ne C 111 dX7_does_106 (by decide) (fun c106 => ?_) (fun c106 => ?_)
        · have h := iteT c106 h
          refine g_iconst C dX7_does_109 ic_0 ?_
          obtain rfl := Option.some.inj h
          exact g_zret C rfl rfl rfl rfl dX7_does_110
        · have h := iteF c106 h
          refine g_aload_n C dX7_does_111 rfl 0 rfl ?_
          refine g_iload_n C dX7_does_112 rfl 3 rfl ?_
          refine g_iload_n C dX7_does_113 rfl 2 rfl ?_
          obtain ⟨g114, hr114, h⟩ := bnd h
          refine g_xVv (k := th) (As := [.int x3, .int x2]) (rest := []) (go := g114) (xo := xo) Y (fun sz => cX_State_takeName l D T ad sK sV xo g103 th x3 x2 hth _ hr114 sz) kX_RX7_106_State_takeName ⟨Nat.le_of_ble_eq_true rfl, Nat.le_of_ble_eq_true rfl⟩ ⟨rfl, rfl⟩ ⟨Nat.zero_le _, Nat.zero_le _⟩ (rfl : vwCl[6]? = some (RX7, TX7, 6)) (ob_State hth) rfl rfl (Nat.le_of_ble_eq_true rfl) dX7_does_114 ?_
          refine g_iconst C dX7_does_117 ic_1 ?_
          obtain rfl := Option.some.inj h
          exact g_zret C rfl rfl rfl rfl dX7_does_118
      · have h := iteF c97 h
        refine g_iconst C dX7_does_109 ic_0 ?_
        obtain rfl := Option.some.inj h
        exact g_zret C rfl rfl rfl rfl dX7_does_110
  have h := iteF c1_1 h
  by_cases c1_2 : x1 = 2
  · have h := iteT c1_2 h
    refine g_tabIn C 2 119 dX7_does_1 c1_2 (by decide) (by decide) rfl (by decide) ?_
    refine g_aload_n C dX7_does_119 rfl 0 rfl ?_
    refine gX_get_X7_9 C (ob_State hth) (rf_State_2 hth) dX7_does_120 ?_
    refine g_iload_n C dX7_does_123 rfl 2 rfl ?_
    obtain ⟨r124, hr124, h⟩ := bnd h
    refine g_xSi (As := [.ref (ad (rX th 2)), .int x2]) (rest := []) (ro := r124) (go := g) (xo := xo) Y (fun sz => cX_Rows_at l D T ad sK sV xo g (rX th 2) x2 _ hr124 sz) kX_RX7_41_Rows_at ⟨Nat.le_of_ble_eq_true rfl, Nat.le_of_ble_eq_true rfl⟩ ⟨rfl, rfl⟩ ⟨Nat.zero_le _, Nat.zero_le _⟩ rfl rfl (Nat.le_of_ble_eq_true rfl) dX7_does_124 ?_
    refine g_if_gt C 132 dX7_does_127 (by decide) (fun c127 => ?_) (fun c127 => ?_)
    · have h := iteT c127 h
      refine g_aload_n C dX7_does_132 rfl 0 rfl ?_
      refine gX_get_X7_9 C (ob_State hth) (rf_State_2 hth) dX7_does_133 ?_
      refine g_iload_n C dX7_does_136 rfl 2 rfl ?_
      refine g_iconst C dX7_does_137 ic_0 ?_
      refine g_aload_n C dX7_does_138 rfl 0 rfl ?_
      refine gX_get_X7_9 C (ob_State hth) (rf_State_2 hth) dX7_does_139 ?_
      refine g_iload_n C dX7_does_142 rfl 2 rfl ?_
      obtain ⟨r143, hr143, h⟩ := bnd h
      refine g_xSi (As := [.ref (ad (rX th 2)), .int x2]) (rest := [.int (0 : Int32), .int x2, .ref (ad (rX th 2))]) (ro := r143) (go := g) (xo := xo) Y (fun sz => cX_Rows_at l D T ad sK sV xo g (rX th 2) x2 _ hr143 sz) kX_RX7_41_Rows_at ⟨Nat.le_of_ble_eq_true rfl, Nat.le_of_ble_eq_true rfl⟩ ⟨rfl, rfl⟩ ⟨Nat.zero_le _, Nat.zero_le _⟩ rfl rfl (Nat.le_of_ble_eq_true rfl) dX7_does_143 ?_
      refine g_iload_n C dX7_does_146 rfl 3 rfl ?_
      refine g_isub C dX7_does_147 ?_
      refine g_mmax (rest := [.int x2, .ref (ad (rX th 2))]) C (List.mem_cons_of_mem _ bx_387) (List.mem_cons_of_mem _ bx_305) (List.mem_cons_of_mem _ bx_57) (List.mem_cons_of_mem _ bx_306) (Nat.le_of_ble_eq_true rfl) (Nat.le_of_ble_eq_true rfl) ⟨Nat.zero_le _, Nat.zero_le _⟩ dX7_does_148 ?_
      obtain ⟨g151, hr151, h⟩ := bnd h
      refine g_xSv (As := [.ref (ad (rX th 2)), .int x2, .int (if (0 : Int32) < (r143 - x3) then (r143 - x3) else (0 : Int32))]) (rest := []) (go := g151) (xo := xo) Y (fun sz => cX_Rows_put l D T ad sK sV xo g (rX th 2) x2 (if (0 : Int32) < (r143 - x3) then (r143 - x3) else (0 : Int32)) _ hr151 sz) kX_RX7_47_Rows_put ⟨Nat.le_of_ble_eq_true rfl, Nat.le_of_ble_eq_true rfl⟩ ⟨rfl, rfl⟩ ⟨Nat.zero_le _, Nat.zero_le _⟩ rfl rfl (Nat.le_of_ble_eq_true rfl) dX7_does_151 ?_
      refine g_iconst C dX7_does_154 ic_1 ?_
      obtain rfl := Option.some.inj h
      exact g_zret C rfl rfl rfl rfl dX7_does_155
    · have h := iteF c127 h
      refine g_iconst C dX7_does_130 ic_0 ?_
      obtain rfl := Option.some.inj h
      exact g_zret C rfl rfl rfl rfl dX7_does_131
  have h := iteF c1_2 h
  by_cases c1_3 : x1 = 3
  · have h := iteT c1_3 h
    refine g_tabIn C 3 156 dX7_does_1 c1_3 (by decide) (by decide) rfl (by decide) ?_
    refine g_aload_n C dX7_does_156 rfl 0 rfl ?_
    refine g_iload_n C dX7_does_157 rfl 2 rfl ?_
    obtain ⟨r158, hr158, h⟩ := bnd h
    refine g_xVz (k := th) (As := [.int x2]) (rest := []) (ro := r158) (go := g) (xo := xo) Y (fun sz => cX_State_lives l D T ad sK sV xo g th x2 hth _ hr158 sz) kX_RX7_55_State_lives ⟨Nat.le_of_ble_eq_true rfl, Nat.le_of_ble_eq_true rfl⟩ ⟨rfl, rfl⟩ ⟨Nat.zero_le _, Nat.zero_le _⟩ (rfl : vwCl[6]? = some (RX7, TX7, 6)) (ob_State hth) rfl rfl (Nat.le_of_ble_eq_true rfl) dX7_does_158 (fun hz158 => ?_)
    refine g_if_eq C 178 dX7_does_161 (by decide) (fun c161 => ?_) (fun c161 => ?_)
    · have h := iteT c161 h
      refine g_iconst C dX7_does_178 ic_0 ?_
      obtain rfl := Option.some.inj h
      exact g_zret C rfl rfl rfl rfl dX7_does_179
    · have h := iteF c161 h
      refine g_aload_n C dX7_does_164 rfl 0 rfl ?_
      refine gX_get_X7_9 C (ob_State hth) (rf_State_2 hth) dX7_does_165 ?_
      refine g_iload_n C dX7_does_168 rfl 2 rfl ?_
      obtain ⟨r169, hr169, h⟩ := bnd h
      refine g_xSi (As := [.ref (ad (rX th 2)), .int x2]) (rest := []) (ro := r169) (go := g) (xo := xo) Y (fun sz => cX_Rows_at l D T ad sK sV xo g (rX th 2) x2 _ hr169 sz) kX_RX7_41_Rows_at ⟨Nat.le_of_ble_eq_true rfl, Nat.le_of_ble_eq_true rfl⟩ ⟨rfl, rfl⟩ ⟨Nat.zero_le _, Nat.zero_le _⟩ rfl rfl (Nat.le_of_ble_eq_true rfl) dX7_does_169 ?_
      refine g_sipush C dX7_does_172 sp_999 ?_
      refine g_icmp_lt C 180 dX7_does_175 (by decide) (fun c175 => ?_) (fun c175 => ?_)
      · have h := iteT c175 h
        refine g_aload_n C dX7_does_180 rfl 0 rfl ?_
        refine g_iload_n C dX7_does_181 rfl 2 rfl ?_
        refine g_iload_n C dX7_does_182 rfl 3 rfl ?_
        obtain ⟨g183, hr183, h⟩ := bnd h
        refine g_xVv (k := th) (As := [.int x2, .int x3]) (rest := []) (go := g183) (xo := xo) Y (fun sz => cX_State_owes l D T ad sK sV xo g th x2 x3 hth _ hr183 sz) kX_RX7_116_State_owes ⟨Nat.le_of_ble_eq_true rfl, Nat.le_of_ble_eq_true rfl⟩ ⟨rfl, rfl⟩ ⟨Nat.zero_le _, Nat.zero_le _⟩ (rfl : vwCl[6]? = some (RX7, TX7, 6)) (ob_State hth) rfl rfl (Nat.le_of_ble_eq_true rfl) dX7_does_183 ?_
        refine g_iconst C dX7_does_186 ic_1 ?_
        obtain rfl := Option.some.inj h
        exact g_zret C rfl rfl rfl rfl dX7_does_187
      · have h := iteF c175 h
        refine g_iconst C dX7_does_178 ic_0 ?_
        obtain rfl := Option.some.inj h
        exact g_zret C rfl rfl rfl rfl dX7_does_179
  have h := iteF c1_3 h
  by_cases c1_4 : x1 = 4
  · have h := iteT c1_4 h
    refine g_tabIn C 4 188 dX7_does_1 c1_4 (by decide) (by decide) rfl (by decide) ?_
    refine g_aload_n C dX7_does_188 rfl 0 rfl ?_
    refine gX_get_X7_29 (v := g th 5) C (ob_State hth) (rf_State_5 hth) rfl dX7_does_189 ?_
    refine g_sipush C dX7_does_192 sp_900 ?_
    refine g_icmp_lt C 200 dX7_does_195 (by decide) (fun c195 => ?_) (fun c195 => ?_)
    · have h := iteT c195 h
      refine g_aload_n C dX7_does_200 rfl 0 rfl ?_
      obtain ⟨g201, hr201, h⟩ := bnd h
      refine g_xVv (k := th) (As := []) (rest := []) (go := g201) (xo := xo) Y (fun sz => cX_State_passYear l D T ad sK sV xo g th hth _ hr201 sz) kX_RX7_119_State_passYear ⟨Nat.le_of_ble_eq_true rfl, Nat.le_of_ble_eq_true rfl⟩ ⟨rfl, rfl⟩ ⟨Nat.zero_le _, Nat.zero_le _⟩ (rfl : vwCl[6]? = some (RX7, TX7, 6)) (ob_State hth) rfl rfl (Nat.le_of_ble_eq_true rfl) dX7_does_201 ?_
      refine g_iconst C dX7_does_204 ic_1 ?_
      obtain rfl := Option.some.inj h
      exact g_zret C rfl rfl rfl rfl dX7_does_205
    · have h := iteF c195 h
      refine g_iconst C dX7_does_198 ic_0 ?_
      obtain rfl := Option.some.inj h
      exact g_zret C rfl rfl rfl rfl dX7_does_199
  have h := iteF c1_4 h
  refine g_tabOut C 206 dX7_does_1 (tab_0_4 _ c1_0 c1_1 c1_2 c1_3 c1_4) (by decide) ?_
  refine g_iconst C dX7_does_206 ic_0 ?_
  obtain rfl := Option.some.inj h
  exact g_zret C rfl rfl rfl rfl dX7_does_207
def fX_State_trueName_L11 (th : Nat) (g : St) : (Int32 × Int32) → Option ((Int32 × Int32) ⊕ (Int32)) := fun ⟨x2, x3⟩ =>
  if (8 : Int32) ≤ x3 then
    (some (.inr x2))
  else
    ((fX_State_isDead th x2 g).bind fun r19 => (if r19 = 0 then
    (some (.inr x2))
  else
    ((fX_Rows_at (rX th 3) x2 g).bind fun r30 => (some (.inl (r30, (x3 + (1 : Int32))))))))
def fX_State_trueName_b11 (th : Nat) (x2 : Int32) (x3 : Int32) (g : St) : Option (Int32) :=
  (lp (fX_State_trueName_L11 th g) fuel (x2, x3)).bind (fun x2 => some x2)
def fX_State_trueName (th : Nat) (x1 : Int32) (g : St) : Option (Int32) :=
  (fX_Rows_at (rX th 3) x1 g).bind fun r5 => (fX_State_trueName_b11 th r5 (0 : Int32) g)
def rmX_State_trueName : Room := { frames := 2, cells := 0, slots := 0, locals := 42 }
abbrev GcX_State_trueName (l : Launch) (D : va_G) (T : cT) (ad : Nat → Nat) (Γ : Cxt) (o : Int32) (xo : Sl) (g0 : St) (x : Sl) (g : St) (pc : Nat) (lv : List (Nat × Value)) (stk : List Value) : Prop := Gj l shX D T ad 4 (rmX_State_trueName) 0 0 Γ (MQ Γ.below (va_Qi (eqI o g0 xo) (wPost shX D T ad Γ.A) Γ.A) Γ.args Γ.s 0 0 Γ.A) x g pc lv stk
set_option maxRecDepth 100000 in
set_option maxHeartbeats 4000000 in
theorem cX_State_trueName (l : Launch) (D : va_G) (T : cT) (ad : Nat → Nat) (sK sV : Nat → Nat) (xo : Sl) (g : St) (th : Nat) (x1 : Int32) (hth : isState th) (o : Int32) (h : fX_State_trueName th x1 g = some o) (sz : Nat) : Met l yX7_trueName wX_State_trueName (rmX_State_trueName) (va_Pc [.ref (ad th), .int x1] (xPre shX D T ad sK sV xo g sz)) (va_Qi (eqI o g xo) (wPost shX D T ad (aW shX T ad xo g sz)) (aW shX T ad xo g sz)) 0 0 (aW shX T ad xo g sz) := by
  refine g_startx (Qc := fun A => va_Qi (eqI o g xo) (wPost shX D T ad A) A) (by decide +kernel) rfl rfl (Nat.le_of_ble_eq_true rfl) (lv := [(0, .ref (ad th)), (1, .int x1)]) rfl (fun Γ Y => ?_)
  have C := Y.1
  show GcX_State_trueName l D T ad Γ o xo g xo g 0 [(0, .ref (ad th)), (1, .int x1)] []
  have J11 : ∀ (x2 : Int32) (x3 : Int32), fX_State_trueName_b11 th x2 x3 g = some o → GcX_State_trueName l D T ad Γ o xo g xo g 11 [(0, .ref (ad th)), (2, .int x2), (3, .int x3)] [] := by
    intro x2 x3 h
    obtain ⟨x2, ht, h⟩ := bnd h
    refine lp_run (P := fun t : Int32 × Int32 => match t with | (x2, x3) => GcX_State_trueName l D T ad Γ o xo g xo g 11 [(0, .ref (ad th)), (2, .int x2), (3, .int x3)] []) (E := fun x2 : Int32 => GcX_State_trueName l D T ad Γ o xo g xo g 40 [(2, .int x2)] []) ?_ _ _ _ ht ?_
    · rintro ⟨x2, x3⟩ z h Kt Ke
      show GcX_State_trueName l D T ad Γ o xo g xo g 11 [(0, .ref (ad th)), (2, .int x2), (3, .int x3)] []
      refine g_iload_n C dX7_trueName_11 rfl 2 rfl ?_
      refine g_bipush C dX7_trueName_12 bp_8 ?_
      refine g_icmp_ge C 40 dX7_trueName_14 (by decide) (fun c14 => ?_) (fun c14 => ?_)
      · have h := iteT c14 h
        exact g_sub [1] rfl (Ke _ (Option.some.inj h).symm)
      · have h := iteF c14 h
        refine g_aload_n C dX7_trueName_17 rfl 0 rfl ?_
        refine g_iload_n C dX7_trueName_18 rfl 1 rfl ?_
        obtain ⟨r19, hr19, h⟩ := bnd h
        refine g_xVz (k := th) (As := [.int x2]) (rest := []) (ro := r19) (go := g) (xo := xo) Y (fun sz => cX_State_isDead l D T ad sK sV xo g th x2 hth _ hr19 sz) kX_RX7_59_State_isDead ⟨Nat.le_of_ble_eq_true rfl, Nat.le_of_ble_eq_true rfl⟩ ⟨rfl, rfl⟩ ⟨Nat.zero_le _, Nat.zero_le _⟩ (rfl : vwCl[6]? = some (RX7, TX7, 6)) (ob_State hth) rfl rfl (Nat.le_of_ble_eq_true rfl) dX7_trueName_19 (fun hz19 => ?_)
        refine g_if_eq C 40 dX7_trueName_22 (by decide) (fun c22 => ?_) (fun c22 => ?_)
        · have h := iteT c22 h
          exact g_sub [1] rfl (Ke _ (Option.some.inj h).symm)
        · have h := iteF c22 h
          refine g_aload_n C dX7_trueName_25 rfl 0 rfl ?_
          refine gX_get_X7_15 C (ob_State hth) (rf_State_3 hth) dX7_trueName_26 ?_
          refine g_iload_n C dX7_trueName_29 rfl 1 rfl ?_
          obtain ⟨r30, hr30, h⟩ := bnd h
          refine g_xSi (As := [.ref (ad (rX th 3)), .int x2]) (rest := []) (ro := r30) (go := g) (xo := xo) Y (fun sz => cX_Rows_at l D T ad sK sV xo g (rX th 3) x2 _ hr30 sz) kX_RX7_41_Rows_at ⟨Nat.le_of_ble_eq_true rfl, Nat.le_of_ble_eq_true rfl⟩ ⟨rfl, rfl⟩ ⟨Nat.zero_le _, Nat.zero_le _⟩ rfl rfl (Nat.le_of_ble_eq_true rfl) dX7_trueName_30 ?_
          refine g_istore_n (lv' := [(2, .int r30), (0, .ref (ad th)), (3, .int x3)]) C dX7_trueName_33 rfl (Nat.le_of_ble_eq_true rfl) rfl ?_
          refine g_iinc (lv' := [(3, .int (x3 + (1 : Int32))), (2, .int r30), (0, .ref (ad th))]) C dX7_trueName_34 2 rfl (ii_1 _) (Nat.le_of_ble_eq_true rfl) rfl ?_
          refine g_goto (tgt := 11) C dX7_trueName_37 (by decide) ?_
          exact g_sub [2, 1, 0] rfl (Kt _ (Option.some.inj h).symm)
    · show GcX_State_trueName l D T ad Γ o xo g xo g 40 [(2, .int x2)] []
      refine g_iload_n C dX7_trueName_40 rfl 0 rfl ?_
      obtain rfl := Option.some.inj h
      exact g_iret C rfl rfl rfl dX7_trueName_41
  refine g_aload_n C dX7_trueName_0 rfl 0 rfl ?_
  refine gX_get_X7_15 C (ob_State hth) (rf_State_3 hth) dX7_trueName_1 ?_
  refine g_iload_n C dX7_trueName_4 rfl 1 rfl ?_
  obtain ⟨r5, hr5, h⟩ := bnd h
  refine g_xSi (As := [.ref (ad (rX th 3)), .int x1]) (rest := []) (ro := r5) (go := g) (xo := xo) Y (fun sz => cX_Rows_at l D T ad sK sV xo g (rX th 3) x1 _ hr5 sz) kX_RX7_41_Rows_at ⟨Nat.le_of_ble_eq_true rfl, Nat.le_of_ble_eq_true rfl⟩ ⟨rfl, rfl⟩ ⟨Nat.zero_le _, Nat.zero_le _⟩ rfl rfl (Nat.le_of_ble_eq_true rfl) dX7_trueName_5 ?_
  refine g_istore_n (lv' := [(2, .int r5), (0, .ref (ad th)), (1, .int x1)]) C dX7_trueName_8 rfl (Nat.le_of_ble_eq_true rfl) rfl ?_
  refine g_iconst C dX7_trueName_9 ic_0 ?_
  refine g_istore_n (lv' := [(3, .int (0 : Int32)), (2, .int r5), (0, .ref (ad th)), (1, .int x1)]) C dX7_trueName_10 rfl (Nat.le_of_ble_eq_true rfl) rfl ?_
  exact g_sub [2, 1, 0] rfl (J11 r5 (0 : Int32) h)
def fX_State_chainLength_L14 (th : Nat) (g : St) : (Int32 × Int32 × Int32) → Option ((Int32 × Int32 × Int32) ⊕ (Int32)) := fun ⟨x2, x3, x4⟩ =>
  if (8 : Int32) ≤ x4 then
    (some (.inr x3))
  else
    (if x2 = (-1 : Int32) then
    (some (.inr x3))
  else
    ((fX_Rows_at (rX th 3) x2 g).bind fun r34 => (some (.inl (r34, (x3 + (1 : Int32)), (x4 + (1 : Int32)))))))
def fX_State_chainLength_b14 (th : Nat) (x2 : Int32) (x3 : Int32) (x4 : Int32) (g : St) : Option (Int32) :=
  (lp (fX_State_chainLength_L14 th g) fuel (x2, x3, x4)).bind (fun x3 => some x3)
def fX_State_chainLength (th : Nat) (x1 : Int32) (g : St) : Option (Int32) :=
  (fX_Rows_at (rX th 3) x1 g).bind fun r5 => (fX_State_chainLength_b14 th r5 (0 : Int32) (0 : Int32) g)
def rmX_State_chainLength : Room := { frames := 1, cells := 0, slots := 0, locals := 21 }
abbrev GcX_State_chainLength (l : Launch) (D : va_G) (T : cT) (ad : Nat → Nat) (Γ : Cxt) (o : Int32) (xo : Sl) (g0 : St) (x : Sl) (g : St) (pc : Nat) (lv : List (Nat × Value)) (stk : List Value) : Prop := Gj l shX D T ad 5 (rmX_State_chainLength) 0 0 Γ (MQ Γ.below (va_Qi (eqI o g0 xo) (wPost shX D T ad Γ.A) Γ.A) Γ.args Γ.s 0 0 Γ.A) x g pc lv stk
set_option maxRecDepth 100000 in
set_option maxHeartbeats 4000000 in
theorem cX_State_chainLength (l : Launch) (D : va_G) (T : cT) (ad : Nat → Nat) (sK sV : Nat → Nat) (xo : Sl) (g : St) (th : Nat) (x1 : Int32) (hth : isState th) (o : Int32) (h : fX_State_chainLength th x1 g = some o) (sz : Nat) : Met l yX7_chainLength wX_State_chainLength (rmX_State_chainLength) (va_Pc [.ref (ad th), .int x1] (xPre shX D T ad sK sV xo g sz)) (va_Qi (eqI o g xo) (wPost shX D T ad (aW shX T ad xo g sz)) (aW shX T ad xo g sz)) 0 0 (aW shX T ad xo g sz) := by
  refine g_startx (Qc := fun A => va_Qi (eqI o g xo) (wPost shX D T ad A) A) (by decide +kernel) rfl rfl (Nat.le_of_ble_eq_true rfl) (lv := [(0, .ref (ad th)), (1, .int x1)]) rfl (fun Γ Y => ?_)
  have C := Y.1
  show GcX_State_chainLength l D T ad Γ o xo g xo g 0 [(0, .ref (ad th)), (1, .int x1)] []
  have J14 : ∀ (x2 : Int32) (x3 : Int32) (x4 : Int32), fX_State_chainLength_b14 th x2 x3 x4 g = some o → GcX_State_chainLength l D T ad Γ o xo g xo g 14 [(0, .ref (ad th)), (2, .int x2), (3, .int x3), (4, .int x4)] [] := by
    intro x2 x3 x4 h
    obtain ⟨x3, ht, h⟩ := bnd h
    refine lp_run (P := fun t : Int32 × Int32 × Int32 => match t with | (x2, x3, x4) => GcX_State_chainLength l D T ad Γ o xo g xo g 14 [(0, .ref (ad th)), (2, .int x2), (3, .int x3), (4, .int x4)] []) (E := fun x3 : Int32 => GcX_State_chainLength l D T ad Γ o xo g xo g 44 [(3, .int x3)] []) ?_ _ _ _ ht ?_
    · rintro ⟨x2, x3, x4⟩ z h Kt Ke
      show GcX_State_chainLength l D T ad Γ o xo g xo g 14 [(0, .ref (ad th)), (2, .int x2), (3, .int x3), (4, .int x4)] []
      refine g_iload C dX7_chainLength_14 3 rfl ?_
      refine g_bipush C dX7_chainLength_16 bp_8 ?_
      refine g_icmp_ge C 44 dX7_chainLength_18 (by decide) (fun c18 => ?_) (fun c18 => ?_)
      · have h := iteT c18 h
        exact g_sub [2] rfl (Ke _ (Option.some.inj h).symm)
      · have h := iteF c18 h
        refine g_iload_n C dX7_chainLength_21 rfl 1 rfl ?_
        refine g_iconst C dX7_chainLength_22 ic_m1 ?_
        refine g_icmp_eq C 44 dX7_chainLength_23 (by decide) (fun c23 => ?_) (fun c23 => ?_)
        · have h := iteT c23 h
          exact g_sub [2] rfl (Ke _ (Option.some.inj h).symm)
        · have h := iteF c23 h
          refine g_iinc (lv' := [(3, .int (x3 + (1 : Int32))), (0, .ref (ad th)), (2, .int x2), (4, .int x4)]) C dX7_chainLength_26 2 rfl (ii_1 _) (Nat.le_of_ble_eq_true rfl) rfl ?_
          refine g_aload_n C dX7_chainLength_29 rfl 1 rfl ?_
          refine gX_get_X7_15 C (ob_State hth) (rf_State_3 hth) dX7_chainLength_30 ?_
          refine g_iload_n C dX7_chainLength_33 rfl 2 rfl ?_
          obtain ⟨r34, hr34, h⟩ := bnd h
          refine g_xSi (As := [.ref (ad (rX th 3)), .int x2]) (rest := []) (ro := r34) (go := g) (xo := xo) Y (fun sz => cX_Rows_at l D T ad sK sV xo g (rX th 3) x2 _ hr34 sz) kX_RX7_41_Rows_at ⟨Nat.le_of_ble_eq_true rfl, Nat.le_of_ble_eq_true rfl⟩ ⟨rfl, rfl⟩ ⟨Nat.zero_le _, Nat.zero_le _⟩ rfl rfl (Nat.le_of_ble_eq_true rfl) dX7_chainLength_34 ?_
          refine g_istore_n (lv' := [(2, .int r34), (3, .int (x3 + (1 : Int32))), (0, .ref (ad th)), (4, .int x4)]) C dX7_chainLength_37 rfl (Nat.le_of_ble_eq_true rfl) rfl ?_
          refine g_iinc (lv' := [(4, .int (x4 + (1 : Int32))), (2, .int r34), (3, .int (x3 + (1 : Int32))), (0, .ref (ad th))]) C dX7_chainLength_38 3 rfl (ii_1 _) (Nat.le_of_ble_eq_true rfl) rfl ?_
          refine g_goto (tgt := 14) C dX7_chainLength_41 (by decide) ?_
          exact g_sub [3, 1, 2, 0] rfl (Kt _ (Option.some.inj h).symm)
    · show GcX_State_chainLength l D T ad Γ o xo g xo g 44 [(3, .int x3)] []
      refine g_iload_n C dX7_chainLength_44 rfl 0 rfl ?_
      obtain rfl := Option.some.inj h
      exact g_iret C rfl rfl rfl dX7_chainLength_45
  refine g_aload_n C dX7_chainLength_0 rfl 0 rfl ?_
  refine gX_get_X7_15 C (ob_State hth) (rf_State_3 hth) dX7_chainLength_1 ?_
  refine g_iload_n C dX7_chainLength_4 rfl 1 rfl ?_
  obtain ⟨r5, hr5, h⟩ := bnd h
  refine g_xSi (As := [.ref (ad (rX th 3)), .int x1]) (rest := []) (ro := r5) (go := g) (xo := xo) Y (fun sz => cX_Rows_at l D T ad sK sV xo g (rX th 3) x1 _ hr5 sz) kX_RX7_41_Rows_at ⟨Nat.le_of_ble_eq_true rfl, Nat.le_of_ble_eq_true rfl⟩ ⟨rfl, rfl⟩ ⟨Nat.zero_le _, Nat.zero_le _⟩ rfl rfl (Nat.le_of_ble_eq_true rfl) dX7_chainLength_5 ?_
  refine g_istore_n (lv' := [(2, .int r5), (0, .ref (ad th)), (1, .int x1)]) C dX7_chainLength_8 rfl (Nat.le_of_ble_eq_true rfl) rfl ?_
  refine g_iconst C dX7_chainLength_9 ic_0 ?_
  refine g_istore_n (lv' := [(3, .int (0 : Int32)), (2, .int r5), (0, .ref (ad th)), (1, .int x1)]) C dX7_chainLength_10 rfl (Nat.le_of_ble_eq_true rfl) rfl ?_
  refine g_iconst C dX7_chainLength_11 ic_0 ?_
  refine g_istore (lv' := [(4, .int (0 : Int32)), (3, .int (0 : Int32)), (2, .int r5), (0, .ref (ad th)), (1, .int x1)]) C dX7_chainLength_12 (Nat.le_of_ble_eq_true rfl) rfl ?_
  exact g_sub [3, 2, 1, 0] rfl (J14 r5 (0 : Int32) (0 : Int32) h)
def fX_State_longestChain_L4 (th : Nat) (g : St) : (Int32 × Int32) → Option ((Int32 × Int32) ⊕ (Int32)) := fun ⟨x1, x2⟩ =>
  if (g 2 0) ≤ x2 then
    (some (.inr x1))
  else
    ((fX_State_chainLength th x2 g).bind fun r18 => (some (.inl ((if x1 < r18 then r18 else x1), (x2 + (1 : Int32))))))
def fX_State_longestChain_b4 (th : Nat) (x1 : Int32) (x2 : Int32) (g : St) : Option (Int32) :=
  (lp (fX_State_longestChain_L4 th g) fuel (x1, x2)).bind (fun x1 => some x1)
def fX_State_longestChain (th : Nat) (g : St) : Option (Int32) :=
  fX_State_longestChain_b4 th (0 : Int32) (0 : Int32) g
def rmX_State_longestChain : Room := { frames := 2, cells := 0, slots := 0, locals := 45 }
abbrev GcX_State_longestChain (l : Launch) (D : va_G) (T : cT) (ad : Nat → Nat) (Γ : Cxt) (o : Int32) (xo : Sl) (g0 : St) (x : Sl) (g : St) (pc : Nat) (lv : List (Nat × Value)) (stk : List Value) : Prop := Gj l shX D T ad 3 (rmX_State_longestChain) 0 0 Γ (MQ Γ.below (va_Qi (eqI o g0 xo) (wPost shX D T ad Γ.A) Γ.A) Γ.args Γ.s 0 0 Γ.A) x g pc lv stk
set_option maxRecDepth 100000 in
set_option maxHeartbeats 4000000 in
theorem cX_State_longestChain (l : Launch) (D : va_G) (T : cT) (ad : Nat → Nat) (sK sV : Nat → Nat) (xo : Sl) (g : St) (th : Nat) (hth : isState th) (o : Int32) (h : fX_State_longestChain th g = some o) (sz : Nat) : Met l yX7_longestChain wX_State_longestChain (rmX_State_longestChain) (va_Pc [.ref (ad th)] (xPre shX D T ad sK sV xo g sz)) (va_Qi (eqI o g xo) (wPost shX D T ad (aW shX T ad xo g sz)) (aW shX T ad xo g sz)) 0 0 (aW shX T ad xo g sz) := by
  refine g_startx (Qc := fun A => va_Qi (eqI o g xo) (wPost shX D T ad A) A) (by decide +kernel) rfl rfl (Nat.le_of_ble_eq_true rfl) (lv := [(0, .ref (ad th))]) rfl (fun Γ Y => ?_)
  have C := Y.1
  show GcX_State_longestChain l D T ad Γ o xo g xo g 0 [(0, .ref (ad th))] []
  have J4 : ∀ (x1 : Int32) (x2 : Int32), fX_State_longestChain_b4 th x1 x2 g = some o → GcX_State_longestChain l D T ad Γ o xo g xo g 4 [(0, .ref (ad th)), (1, .int x1), (2, .int x2)] [] := by
    intro x1 x2 h
    obtain ⟨x1, ht, h⟩ := bnd h
    refine lp_run (P := fun t : Int32 × Int32 => match t with | (x1, x2) => GcX_State_longestChain l D T ad Γ o xo g xo g 4 [(0, .ref (ad th)), (1, .int x1), (2, .int x2)] []) (E := fun x1 : Int32 => GcX_State_longestChain l D T ad Γ o xo g xo g 31 [(1, .int x1)] []) ?_ _ _ _ ht ?_
    · rintro ⟨x1, x2⟩ z h Kt Ke
      show GcX_State_longestChain l D T ad Γ o xo g xo g 4 [(0, .ref (ad th)), (1, .int x1), (2, .int x2)] []
      refine g_iload_n C dX7_longestChain_4 rfl 2 rfl ?_
      refine g_aload_n C dX7_longestChain_5 rfl 0 rfl ?_
      refine gX_get_X7_21 C (ob_State hth) (rf_State_0 hth) dX7_longestChain_6 ?_
      refine gX_get_X7_33 (v := g 2 0) C ob_2 rfl rfl dX7_longestChain_9 ?_
      refine g_icmp_ge C 31 dX7_longestChain_12 (by decide) (fun c12 => ?_) (fun c12 => ?_)
      · have h := iteT c12 h
        exact g_sub [1] rfl (Ke _ (Option.some.inj h).symm)
      · have h := iteF c12 h
        refine g_iload_n C dX7_longestChain_15 rfl 1 rfl ?_
        refine g_aload_n C dX7_longestChain_16 rfl 0 rfl ?_
        refine g_iload_n C dX7_longestChain_17 rfl 2 rfl ?_
        obtain ⟨r18, hr18, h⟩ := bnd h
        refine g_xVi (k := th) (As := [.int x2]) (rest := [.int x1]) (ro := r18) (go := g) (xo := xo) Y (fun sz => cX_State_chainLength l D T ad sK sV xo g th x2 hth _ hr18 sz) kX_RX7_122_State_chainLength ⟨Nat.le_of_ble_eq_true rfl, Nat.le_of_ble_eq_true rfl⟩ ⟨rfl, rfl⟩ ⟨Nat.zero_le _, Nat.zero_le _⟩ (rfl : vwCl[6]? = some (RX7, TX7, 6)) (ob_State hth) rfl rfl (Nat.le_of_ble_eq_true rfl) dX7_longestChain_18 ?_
        refine g_mmax (rest := []) C (List.mem_cons_of_mem _ bx_387) (List.mem_cons_of_mem _ bx_305) (List.mem_cons_of_mem _ bx_57) (List.mem_cons_of_mem _ bx_306) (Nat.le_of_ble_eq_true rfl) (Nat.le_of_ble_eq_true rfl) ⟨Nat.zero_le _, Nat.zero_le _⟩ dX7_longestChain_21 ?_
        refine g_istore_n (lv' := [(1, .int (if x1 < r18 then r18 else x1)), (0, .ref (ad th)), (2, .int x2)]) C dX7_longestChain_24 rfl (Nat.le_of_ble_eq_true rfl) rfl ?_
        refine g_iinc (lv' := [(2, .int (x2 + (1 : Int32))), (1, .int (if x1 < r18 then r18 else x1)), (0, .ref (ad th))]) C dX7_longestChain_25 2 rfl (ii_1 _) (Nat.le_of_ble_eq_true rfl) rfl ?_
        refine g_goto (tgt := 4) C dX7_longestChain_28 (by decide) ?_
        exact g_sub [2, 1, 0] rfl (Kt _ (Option.some.inj h).symm)
    · show GcX_State_longestChain l D T ad Γ o xo g xo g 31 [(1, .int x1)] []
      refine g_iload_n C dX7_longestChain_31 rfl 0 rfl ?_
      obtain rfl := Option.some.inj h
      exact g_iret C rfl rfl rfl dX7_longestChain_32
  refine g_iconst C dX7_longestChain_0 ic_0 ?_
  refine g_istore_n (lv' := [(1, .int (0 : Int32)), (0, .ref (ad th))]) C dX7_longestChain_1 rfl (Nat.le_of_ble_eq_true rfl) rfl ?_
  refine g_iconst C dX7_longestChain_2 ic_0 ?_
  refine g_istore_n (lv' := [(2, .int (0 : Int32)), (1, .int (0 : Int32)), (0, .ref (ad th))]) C dX7_longestChain_3 rfl (Nat.le_of_ble_eq_true rfl) rfl ?_
  exact g_sub [2, 1, 0] rfl (J4 (0 : Int32) (0 : Int32) h)
def fX_Steps_add (x1 : Int32) (x2 : Int32) (x3 : Int32) (g : St) : Option (St) :=
  if (150 : Int32) ≤ (g 7 5) then
    (some g)
  else
    ((fX_Rows_put 30 (g 7 5) x1 g).bind fun g19 => ((fX_Rows_put 31 (g19 7 5) x2 g19).bind fun g31 => ((fX_Rows_put 32 (g31 7 5) x3 g31).bind fun g43 => (some (st g43 7 5 ((g43 7 5) + (1 : Int32)))))))
def rmX_Steps_add : Room := { frames := 1, cells := 0, slots := 0, locals := 22 }
abbrev GcX_Steps_add (l : Launch) (D : va_G) (T : cT) (ad : Nat → Nat) (Γ : Cxt) (o : St) (xo : Sl) (x : Sl) (g : St) (pc : Nat) (lv : List (Nat × Value)) (stk : List Value) : Prop := Gj l shX D T ad 4 (rmX_Steps_add) 0 0 Γ (MQ Γ.below (va_Qv (eqV o xo) (wPost shX D T ad Γ.A) Γ.A) Γ.args Γ.s 0 0 Γ.A) x g pc lv stk
set_option maxRecDepth 100000 in
set_option maxHeartbeats 4000000 in
theorem cX_Steps_add (l : Launch) (D : va_G) (T : cT) (ad : Nat → Nat) (sK sV : Nat → Nat) (xo : Sl) (g : St) (x1 : Int32) (x2 : Int32) (x3 : Int32) (o : St) (h : fX_Steps_add x1 x2 x3 g = some o) (sz : Nat) : Met l yX8_add wX_Steps_add (rmX_Steps_add) (va_Pc [.ref (ad 7), .int x1, .int x2, .int x3] (xPre shX D T ad sK sV xo g sz)) (va_Qv (eqV o xo) (wPost shX D T ad (aW shX T ad xo g sz)) (aW shX T ad xo g sz)) 0 0 (aW shX T ad xo g sz) := by
  refine g_startx (Qc := fun A => va_Qv (eqV o xo) (wPost shX D T ad A) A) (by decide +kernel) rfl rfl (Nat.le_of_ble_eq_true rfl) (lv := [(0, .ref (ad 7)), (1, .int x1), (2, .int x2), (3, .int x3)]) rfl (fun Γ Y => ?_)
  have C := Y.1
  show GcX_Steps_add l D T ad Γ o xo xo g 0 [(0, .ref (ad 7)), (1, .int x1), (2, .int x2), (3, .int x3)] []
  refine g_aload_n C dX8_add_0 rfl 0 rfl ?_
  refine gX_get_X8_27 (v := g 7 5) C ob_7 rfl rfl dX8_add_1 ?_
  refine g_sipush C dX8_add_4 sp_150 ?_
  refine g_icmp_ge C 56 dX8_add_7 (by decide) (fun c7 => ?_) (fun c7 => ?_)
  · have h := iteT c7 h
    obtain rfl := Option.some.inj h
    exact g_vret C rfl rfl dX8_add_56
  · have h := iteF c7 h
    refine g_aload_n C dX8_add_10 rfl 0 rfl ?_
    refine gX_get_X8_9 C ob_7 rfl dX8_add_11 ?_
    refine g_aload_n C dX8_add_14 rfl 0 rfl ?_
    refine gX_get_X8_27 (v := g 7 5) C ob_7 rfl rfl dX8_add_15 ?_
    refine g_iload_n C dX8_add_18 rfl 1 rfl ?_
    obtain ⟨g19, hr19, h⟩ := bnd h
    refine g_xSv (As := [.ref (ad 30), .int (g 7 5), .int x1]) (rest := []) (go := g19) (xo := xo) Y (fun sz => cX_Rows_put l D T ad sK sV xo g 30 (g 7 5) x1 _ hr19 sz) kX_RX8_99_Rows_put ⟨Nat.le_of_ble_eq_true rfl, Nat.le_of_ble_eq_true rfl⟩ ⟨rfl, rfl⟩ ⟨Nat.zero_le _, Nat.zero_le _⟩ rfl rfl (Nat.le_of_ble_eq_true rfl) dX8_add_19 ?_
    refine g_aload_n C dX8_add_22 rfl 0 rfl ?_
    refine gX_get_X8_15 C ob_7 rfl dX8_add_23 ?_
    refine g_aload_n C dX8_add_26 rfl 0 rfl ?_
    refine gX_get_X8_27 (v := g19 7 5) C ob_7 rfl rfl dX8_add_27 ?_
    refine g_iload_n C dX8_add_30 rfl 2 rfl ?_
    obtain ⟨g31, hr31, h⟩ := bnd h
    refine g_xSv (As := [.ref (ad 31), .int (g19 7 5), .int x2]) (rest := []) (go := g31) (xo := xo) Y (fun sz => cX_Rows_put l D T ad sK sV xo g19 31 (g19 7 5) x2 _ hr31 sz) kX_RX8_99_Rows_put ⟨Nat.le_of_ble_eq_true rfl, Nat.le_of_ble_eq_true rfl⟩ ⟨rfl, rfl⟩ ⟨Nat.zero_le _, Nat.zero_le _⟩ rfl rfl (Nat.le_of_ble_eq_true rfl) dX8_add_31 ?_
    refine g_aload_n C dX8_add_34 rfl 0 rfl ?_
    refine gX_get_X8_18 C ob_7 rfl dX8_add_35 ?_
    refine g_aload_n C dX8_add_38 rfl 0 rfl ?_
    refine gX_get_X8_27 (v := g31 7 5) C ob_7 rfl rfl dX8_add_39 ?_
    refine g_iload_n C dX8_add_42 rfl 3 rfl ?_
    obtain ⟨g43, hr43, h⟩ := bnd h
    refine g_xSv (As := [.ref (ad 32), .int (g31 7 5), .int x3]) (rest := []) (go := g43) (xo := xo) Y (fun sz => cX_Rows_put l D T ad sK sV xo g31 32 (g31 7 5) x3 _ hr43 sz) kX_RX8_99_Rows_put ⟨Nat.le_of_ble_eq_true rfl, Nat.le_of_ble_eq_true rfl⟩ ⟨rfl, rfl⟩ ⟨Nat.zero_le _, Nat.zero_le _⟩ rfl rfl (Nat.le_of_ble_eq_true rfl) dX8_add_43 ?_
    refine g_aload_n C dX8_add_46 rfl 0 rfl ?_
    refine g_dup C dX8_add_47 rfl ?_
    refine gX_get_X8_27 (v := g43 7 5) C ob_7 rfl rfl dX8_add_48 ?_
    refine g_iconst C dX8_add_51 ic_1 ?_
    refine g_iadd C dX8_add_52 ?_
    refine gX_put_X8_27 C ob_7 rfl dX8_add_53 ?_
    obtain rfl := Option.some.inj h
    exact g_vret C rfl rfl dX8_add_56
def fX_Steps_closeAgain (g : St) : Option (St) :=
  (fX_Rows_at 33 ((g 7 6) - (1 : Int32)) (st g 7 6 ((g 7 6) - (1 : Int32)))).bind fun r18 => ((fX_Rows_put 32 r18 (g 7 5) (st g 7 6 ((g 7 6) - (1 : Int32)))).bind fun g31 => ((fX_Steps_add (6 : Int32) r18 (0 : Int32) g31).bind fun g39 => (some g39)))
def rmX_Steps_closeAgain : Room := { frames := 2, cells := 0, slots := 0, locals := 45 }
abbrev GcX_Steps_closeAgain (l : Launch) (D : va_G) (T : cT) (ad : Nat → Nat) (Γ : Cxt) (o : St) (xo : Sl) (x : Sl) (g : St) (pc : Nat) (lv : List (Nat × Value)) (stk : List Value) : Prop := Gj l shX D T ad 2 (rmX_Steps_closeAgain) 0 0 Γ (MQ Γ.below (va_Qv (eqV o xo) (wPost shX D T ad Γ.A) Γ.A) Γ.args Γ.s 0 0 Γ.A) x g pc lv stk
set_option maxRecDepth 100000 in
set_option maxHeartbeats 4000000 in
theorem cX_Steps_closeAgain (l : Launch) (D : va_G) (T : cT) (ad : Nat → Nat) (sK sV : Nat → Nat) (xo : Sl) (g : St) (o : St) (h : fX_Steps_closeAgain g = some o) (sz : Nat) : Met l yX8_closeAgain wX_Steps_closeAgain (rmX_Steps_closeAgain) (va_Pc [.ref (ad 7)] (xPre shX D T ad sK sV xo g sz)) (va_Qv (eqV o xo) (wPost shX D T ad (aW shX T ad xo g sz)) (aW shX T ad xo g sz)) 0 0 (aW shX T ad xo g sz) := by
  refine g_startx (Qc := fun A => va_Qv (eqV o xo) (wPost shX D T ad A) A) (by decide +kernel) rfl rfl (Nat.le_of_ble_eq_true rfl) (lv := [(0, .ref (ad 7))]) rfl (fun Γ Y => ?_)
  have C := Y.1
  show GcX_Steps_closeAgain l D T ad Γ o xo xo g 0 [(0, .ref (ad 7))] []
  refine g_aload_n C dX8_closeAgain_0 rfl 0 rfl ?_
  refine g_dup C dX8_closeAgain_1 rfl ?_
  refine gX_get_X8_31 (v := g 7 6) C ob_7 rfl rfl dX8_closeAgain_2 ?_
  refine g_iconst C dX8_closeAgain_5 ic_1 ?_
  refine g_isub C dX8_closeAgain_6 ?_
  refine gX_put_X8_31 C ob_7 rfl dX8_closeAgain_7 ?_
  refine g_aload_n C dX8_closeAgain_10 rfl 0 rfl ?_
  refine gX_get_X8_21 C ob_7 rfl dX8_closeAgain_11 ?_
  refine g_aload_n C dX8_closeAgain_14 rfl 0 rfl ?_
  refine gX_get_X8_31 (v := (g 7 6) - (1 : Int32)) C ob_7 rfl rfl dX8_closeAgain_15 ?_
  obtain ⟨r18, hr18, h⟩ := bnd h
  refine g_xSi (As := [.ref (ad 33), .int ((g 7 6) - (1 : Int32))]) (rest := []) (ro := r18) (go := (st g 7 6 ((g 7 6) - (1 : Int32)))) (xo := xo) Y (fun sz => cX_Rows_at l D T ad sK sV xo (st g 7 6 ((g 7 6) - (1 : Int32))) 33 ((g 7 6) - (1 : Int32)) _ hr18 sz) kX_RX8_105_Rows_at ⟨Nat.le_of_ble_eq_true rfl, Nat.le_of_ble_eq_true rfl⟩ ⟨rfl, rfl⟩ ⟨Nat.zero_le _, Nat.zero_le _⟩ rfl rfl (Nat.le_of_ble_eq_true rfl) dX8_closeAgain_18 ?_
  refine g_istore_n (lv' := [(1, .int r18), (0, .ref (ad 7))]) C dX8_closeAgain_21 rfl (Nat.le_of_ble_eq_true rfl) rfl ?_
  refine g_aload_n C dX8_closeAgain_22 rfl 1 rfl ?_
  refine gX_get_X8_18 C ob_7 rfl dX8_closeAgain_23 ?_
  refine g_iload_n C dX8_closeAgain_26 rfl 0 rfl ?_
  refine g_aload_n C dX8_closeAgain_27 rfl 1 rfl ?_
  refine gX_get_X8_27 (v := g 7 5) C ob_7 rfl rfl dX8_closeAgain_28 ?_
  obtain ⟨g31, hr31, h⟩ := bnd h
  refine g_xSv (As := [.ref (ad 32), .int r18, .int (g 7 5)]) (rest := []) (go := g31) (xo := xo) Y (fun sz => cX_Rows_put l D T ad sK sV xo (st g 7 6 ((g 7 6) - (1 : Int32))) 32 r18 (g 7 5) _ hr31 sz) kX_RX8_99_Rows_put ⟨Nat.le_of_ble_eq_true rfl, Nat.le_of_ble_eq_true rfl⟩ ⟨rfl, rfl⟩ ⟨Nat.zero_le _, Nat.zero_le _⟩ rfl rfl (Nat.le_of_ble_eq_true rfl) dX8_closeAgain_31 ?_
  refine g_aload_n C dX8_closeAgain_34 rfl 1 rfl ?_
  refine g_bipush C dX8_closeAgain_35 bp_6 ?_
  refine g_iload_n C dX8_closeAgain_37 rfl 0 rfl ?_
  refine g_iconst C dX8_closeAgain_38 ic_0 ?_
  obtain ⟨g39, hr39, h⟩ := bnd h
  refine g_xVv (k := 7) (As := [.int (6 : Int32), .int r18, .int (0 : Int32)]) (rest := []) (go := g39) (xo := xo) Y (fun sz => cX_Steps_add l D T ad sK sV xo g31 (6 : Int32) r18 (0 : Int32) _ hr39 sz) kX_RX8_84_Steps_add ⟨Nat.le_of_ble_eq_true rfl, Nat.le_of_ble_eq_true rfl⟩ ⟨rfl, rfl⟩ ⟨Nat.zero_le _, Nat.zero_le _⟩ (rfl : vwCl[7]? = some (RX8, TX8, 9)) ob_7 rfl rfl (Nat.le_of_ble_eq_true rfl) dX8_closeAgain_39 ?_
  obtain rfl := Option.some.inj h
  exact g_vret C rfl rfl dX8_closeAgain_42
def fX_Steps_openAgain_b18 (g : St) : Option (St) :=
  (fX_Text_number (0 : Int32) (60 : Int32) g).bind fun ⟨r22, g22⟩ => ((fX_Text_expect (91 : Int32) g22).bind fun g29 => ((fX_Rows_put 33 (g29 7 6) (g29 7 5) g29).bind fun g44 => ((fX_Steps_add (5 : Int32) r22 (0 : Int32) (st g44 7 6 ((g44 7 6) + (1 : Int32)))).bind fun g61 => (some g61))))
def fX_Steps_openAgain (g : St) : Option (St) :=
  if (g 7 6) < (6 : Int32) then
    (fX_Steps_openAgain_b18 g)
  else
    (lt1 (fX_Text_blame (3 : Int32) (g 1 4) g) fun g15 => (fX_Steps_openAgain_b18 g15))
def rmX_Steps_openAgain : Room := { frames := 3, cells := 0, slots := 0, locals := 64 }
abbrev GcX_Steps_openAgain (l : Launch) (D : va_G) (T : cT) (ad : Nat → Nat) (Γ : Cxt) (o : St) (xo : Sl) (x : Sl) (g : St) (pc : Nat) (lv : List (Nat × Value)) (stk : List Value) : Prop := Gj l shX D T ad 3 (rmX_Steps_openAgain) 0 0 Γ (MQ Γ.below (va_Qv (eqV o xo) (wPost shX D T ad Γ.A) Γ.A) Γ.args Γ.s 0 0 Γ.A) x g pc lv stk
set_option maxRecDepth 100000 in
set_option maxHeartbeats 4000000 in
theorem cX_Steps_openAgain (l : Launch) (D : va_G) (T : cT) (ad : Nat → Nat) (sK sV : Nat → Nat) (xo : Sl) (g : St) (o : St) (h : fX_Steps_openAgain g = some o) (sz : Nat) : Met l yX8_openAgain wX_Steps_openAgain (rmX_Steps_openAgain) (va_Pc [.ref (ad 7), .ref (ad 1)] (xPre shX D T ad sK sV xo g sz)) (va_Qv (eqV o xo) (wPost shX D T ad (aW shX T ad xo g sz)) (aW shX T ad xo g sz)) 0 0 (aW shX T ad xo g sz) := by
  refine g_startx (Qc := fun A => va_Qv (eqV o xo) (wPost shX D T ad A) A) (by decide +kernel) rfl rfl (Nat.le_of_ble_eq_true rfl) (lv := [(0, .ref (ad 7)), (1, .ref (ad 1))]) rfl (fun Γ Y => ?_)
  have C := Y.1
  show GcX_Steps_openAgain l D T ad Γ o xo xo g 0 [(0, .ref (ad 7)), (1, .ref (ad 1))] []
  have J18 : ∀ (g : St), fX_Steps_openAgain_b18 g = some o → GcX_Steps_openAgain l D T ad Γ o xo xo g 18 [(0, .ref (ad 7)), (1, .ref (ad 1))] [] := by
    intro g h
    refine g_aload_n C dX8_openAgain_18 rfl 1 rfl ?_
    refine g_iconst C dX8_openAgain_19 ic_0 ?_
    refine g_bipush C dX8_openAgain_20 bp_60 ?_
    obtain ⟨⟨r22, g22⟩, hr22, h⟩ := bnd h
    refine g_xVi (k := 1) (As := [.int (0 : Int32), .int (60 : Int32)]) (rest := []) (ro := r22) (go := g22) (xo := xo) Y (fun sz => cX_Text_number l D T ad sK sV xo g (0 : Int32) (60 : Int32) _ hr22 sz) kX_RX8_80_Text_number ⟨Nat.le_of_ble_eq_true rfl, Nat.le_of_ble_eq_true rfl⟩ ⟨rfl, rfl⟩ ⟨Nat.zero_le _, Nat.zero_le _⟩ (rfl : vwCl[8]? = some (RX9, TX9, 8)) ob_1 rfl rfl (Nat.le_of_ble_eq_true rfl) dX8_openAgain_22 ?_
    refine g_istore_n (lv' := [(2, .int r22), (0, .ref (ad 7)), (1, .ref (ad 1))]) C dX8_openAgain_25 rfl (Nat.le_of_ble_eq_true rfl) rfl ?_
    refine g_aload_n C dX8_openAgain_26 rfl 2 rfl ?_
    refine g_bipush C dX8_openAgain_27 bp_91 ?_
    obtain ⟨g29, hr29, h⟩ := bnd h
    refine g_xVv (k := 1) (As := [.int (91 : Int32)]) (rest := []) (go := g29) (xo := xo) Y (fun sz => cX_Text_expect l D T ad sK sV xo g22 (91 : Int32) _ hr29 sz) kX_RX8_50_Text_expect ⟨Nat.le_of_ble_eq_true rfl, Nat.le_of_ble_eq_true rfl⟩ ⟨rfl, rfl⟩ ⟨Nat.zero_le _, Nat.zero_le _⟩ (rfl : vwCl[8]? = some (RX9, TX9, 8)) ob_1 rfl rfl (Nat.le_of_ble_eq_true rfl) dX8_openAgain_29 ?_
    refine g_aload_n C dX8_openAgain_32 rfl 1 rfl ?_
    refine gX_get_X8_21 C ob_7 rfl dX8_openAgain_33 ?_
    refine g_aload_n C dX8_openAgain_36 rfl 1 rfl ?_
    refine gX_get_X8_31 (v := g29 7 6) C ob_7 rfl rfl dX8_openAgain_37 ?_
    refine g_aload_n C dX8_openAgain_40 rfl 1 rfl ?_
    refine gX_get_X8_27 (v := g29 7 5) C ob_7 rfl rfl dX8_openAgain_41 ?_
    obtain ⟨g44, hr44, h⟩ := bnd h
    refine g_xSv (As := [.ref (ad 33), .int (g29 7 6), .int (g29 7 5)]) (rest := []) (go := g44) (xo := xo) Y (fun sz => cX_Rows_put l D T ad sK sV xo g29 33 (g29 7 6) (g29 7 5) _ hr44 sz) kX_RX8_99_Rows_put ⟨Nat.le_of_ble_eq_true rfl, Nat.le_of_ble_eq_true rfl⟩ ⟨rfl, rfl⟩ ⟨Nat.zero_le _, Nat.zero_le _⟩ rfl rfl (Nat.le_of_ble_eq_true rfl) dX8_openAgain_44 ?_
    refine g_aload_n C dX8_openAgain_47 rfl 1 rfl ?_
    refine g_dup C dX8_openAgain_48 rfl ?_
    refine gX_get_X8_31 (v := g44 7 6) C ob_7 rfl rfl dX8_openAgain_49 ?_
    refine g_iconst C dX8_openAgain_52 ic_1 ?_
    refine g_iadd C dX8_openAgain_53 ?_
    refine gX_put_X8_31 C ob_7 rfl dX8_openAgain_54 ?_
    refine g_aload_n C dX8_openAgain_57 rfl 1 rfl ?_
    refine g_iconst C dX8_openAgain_58 ic_5 ?_
    refine g_iload_n C dX8_openAgain_59 rfl 0 rfl ?_
    refine g_iconst C dX8_openAgain_60 ic_0 ?_
    obtain ⟨g61, hr61, h⟩ := bnd h
    refine g_xVv (k := 7) (As := [.int (5 : Int32), .int r22, .int (0 : Int32)]) (rest := []) (go := g61) (xo := xo) Y (fun sz => cX_Steps_add l D T ad sK sV xo (st g44 7 6 ((g44 7 6) + (1 : Int32))) (5 : Int32) r22 (0 : Int32) _ hr61 sz) kX_RX8_84_Steps_add ⟨Nat.le_of_ble_eq_true rfl, Nat.le_of_ble_eq_true rfl⟩ ⟨rfl, rfl⟩ ⟨Nat.zero_le _, Nat.zero_le _⟩ (rfl : vwCl[7]? = some (RX8, TX8, 9)) ob_7 rfl rfl (Nat.le_of_ble_eq_true rfl) dX8_openAgain_61 ?_
    obtain rfl := Option.some.inj h
    exact g_vret C rfl rfl dX8_openAgain_64
  refine g_aload_n C dX8_openAgain_0 rfl 0 rfl ?_
  refine gX_get_X8_31 (v := g 7 6) C ob_7 rfl rfl dX8_openAgain_1 ?_
  refine g_bipush C dX8_openAgain_4 bp_6 ?_
  refine g_icmp_lt C 18 dX8_openAgain_6 (by decide) (fun c6 => ?_) (fun c6 => ?_)
  · have h := iteT c6 h
    exact J18 g h
  · have h := iteF c6 h
    refine g_aload_n C dX8_openAgain_9 rfl 1 rfl ?_
    refine g_iconst C dX8_openAgain_10 ic_3 ?_
    refine g_aload_n C dX8_openAgain_11 rfl 1 rfl ?_
    refine gX_get_X8_96 (v := g 1 4) C ob_1 rfl rfl dX8_openAgain_12 ?_
    obtain ⟨g15, hr15, h⟩ := ltb h
    refine g_xVv (k := 1) (As := [.int (3 : Int32), .int (g 1 4)]) (rest := []) (go := g15) (xo := xo) Y (fun sz => cX_Text_blame l D T ad sK sV xo g (3 : Int32) (g 1 4) _ hr15 sz) kX_RX8_61_Text_blame ⟨Nat.le_of_ble_eq_true rfl, Nat.le_of_ble_eq_true rfl⟩ ⟨rfl, rfl⟩ ⟨Nat.zero_le _, Nat.zero_le _⟩ (rfl : vwCl[8]? = some (RX9, TX9, 8)) ob_1 rfl rfl (Nat.le_of_ble_eq_true rfl) dX8_openAgain_15 ?_
    exact J18 g15 h
def fX_Steps_readStep_b176 (g : St) : Option (St) :=
  (fX_Text_expect (59 : Int32) g).bind fun g179 => (some g179)
def fX_Steps_readStep (x2 : Int32) (g : St) : Option (St) :=
  (fX_Text_word g).bind fun g1 => ((fX_Text_isWord 13 g1).bind fun r7 => (if r7 = 0 then
    ((fX_Text_isWord 14 g1).bind fun r22 => (if r22 = 0 then
    ((fX_Text_isWord 15 g1).bind fun r48 => (if r48 = 0 then
    ((fX_Text_isWord 16 g1).bind fun r83 => (if r83 = 0 then
    ((fX_Text_isWord 17 g1).bind fun r117 => (if r117 = 0 then
    ((fX_Text_isWord 18 g1).bind fun r151 => (if r151 = 0 then
    (lt1 (fX_Text_blame (1 : Int32) (g1 1 4) g1) fun g173 => (fX_Steps_readStep_b176 g173))
  else
    ((fX_Steps_add (4 : Int32) (0 : Int32) (0 : Int32) g1).bind fun g161 => (fX_Steps_readStep_b176 g161))))
  else
    ((fX_Text_number (0 : Int32) (x2 - (1 : Int32)) g1).bind fun ⟨r128, g128⟩ => ((fX_Text_number (1 : Int32) (60 : Int32) g128).bind fun ⟨r139, g139⟩ => ((fX_Steps_add (3 : Int32) r128 r139 g139).bind fun g142 => (fX_Steps_readStep_b176 g142))))))
  else
    ((fX_Text_number (0 : Int32) (x2 - (1 : Int32)) g1).bind fun ⟨r94, g94⟩ => ((fX_Text_number (1 : Int32) (60 : Int32) g94).bind fun ⟨r105, g105⟩ => ((fX_Steps_add (2 : Int32) r94 r105 g105).bind fun g108 => (fX_Steps_readStep_b176 g108))))))
  else
    ((fX_Text_number (0 : Int32) (x2 - (1 : Int32)) g1).bind fun ⟨r59, g59⟩ => ((fX_Text_number (0 : Int32) (x2 - (1 : Int32)) g59).bind fun ⟨r71, g71⟩ => ((fX_Steps_add (1 : Int32) r59 r71 g71).bind fun g74 => (fX_Steps_readStep_b176 g74))))))
  else
    ((fX_Text_number (0 : Int32) (x2 - (1 : Int32)) g1).bind fun ⟨r35, g35⟩ => ((fX_Steps_add (0 : Int32) r35 (0 : Int32) g35).bind fun g39 => (fX_Steps_readStep_b176 g39)))))
  else
    ((fX_Steps_openAgain g1).bind fun g15 => (some g15))))
def rmX_Steps_readStep : Room := { frames := 8, cells := 0, slots := 0, locals := 183 }
abbrev GcX_Steps_readStep (l : Launch) (D : va_G) (T : cT) (ad : Nat → Nat) (Γ : Cxt) (o : St) (xo : Sl) (x : Sl) (g : St) (pc : Nat) (lv : List (Nat × Value)) (stk : List Value) : Prop := Gj l shX D T ad 4 (rmX_Steps_readStep) 0 0 Γ (MQ Γ.below (va_Qv (eqV o xo) (wPost shX D T ad Γ.A) Γ.A) Γ.args Γ.s 0 0 Γ.A) x g pc lv stk
set_option maxRecDepth 100000 in
set_option maxHeartbeats 4000000 in
theorem cX_Steps_readStep (l : Launch) (D : va_G) (T : cT) (ad : Nat → Nat) (sK sV : Nat → Nat) (xo : Sl) (g : St) (x2 : Int32) (o : St) (h : fX_Steps_readStep x2 g = some o) (sz : Nat) : Met l yX8_readStep wX_Steps_readStep (rmX_Steps_readStep) (va_Pc [.ref (ad 7), .ref (ad 1), .int x2] (xPre shX D T ad sK sV xo g sz)) (va_Qv (eqV o xo) (wPost shX D T ad (aW shX T ad xo g sz)) (aW shX T ad xo g sz)) 0 0 (aW shX T ad xo g sz) := by
  refine g_startx (Qc := fun A => va_Qv (eqV o xo) (wPost shX D T ad A) A) (by decide +kernel) rfl rfl (Nat.le_of_ble_eq_true rfl) (lv := [(0, .ref (ad 7)), (1, .ref (ad 1)), (2, .int x2)]) rfl (fun Γ Y => ?_)
  have C := Y.1
  show GcX_Steps_readStep l D T ad Γ o xo xo g 0 [(0, .ref (ad 7)), (1, .ref (ad 1)), (2, .int x2)] []
  have J176 : ∀ (g : St), fX_Steps_readStep_b176 g = some o → GcX_Steps_readStep l D T ad Γ o xo xo g 176 [(1, .ref (ad 1))] [] := by
    intro g h
    refine g_aload_n C dX8_readStep_176 rfl 0 rfl ?_
    refine g_bipush C dX8_readStep_177 bp_59 ?_
    obtain ⟨g179, hr179, h⟩ := bnd h
    refine g_xVv (k := 1) (As := [.int (59 : Int32)]) (rest := []) (go := g179) (xo := xo) Y (fun sz => cX_Text_expect l D T ad sK sV xo g (59 : Int32) _ hr179 sz) kX_RX8_50_Text_expect ⟨Nat.le_of_ble_eq_true rfl, Nat.le_of_ble_eq_true rfl⟩ ⟨rfl, rfl⟩ ⟨Nat.zero_le _, Nat.zero_le _⟩ (rfl : vwCl[8]? = some (RX9, TX9, 8)) ob_1 rfl rfl (Nat.le_of_ble_eq_true rfl) dX8_readStep_179 ?_
    obtain rfl := Option.some.inj h
    exact g_vret C rfl rfl dX8_readStep_182
  refine g_aload_n C dX8_readStep_0 rfl 1 rfl ?_
  obtain ⟨g1, hr1, h⟩ := bnd h
  refine g_xVv (k := 1) (As := []) (rest := []) (go := g1) (xo := xo) Y (fun sz => cX_Text_word l D T ad sK sV xo g _ hr1 sz) kX_RX8_65_Text_word ⟨Nat.le_of_ble_eq_true rfl, Nat.le_of_ble_eq_true rfl⟩ ⟨rfl, rfl⟩ ⟨Nat.zero_le _, Nat.zero_le _⟩ (rfl : vwCl[8]? = some (RX9, TX9, 8)) ob_1 rfl rfl (Nat.le_of_ble_eq_true rfl) dX8_readStep_1 ?_
  refine g_aload_n C dX8_readStep_4 rfl 1 rfl ?_
  refine g_ldcS Y 13 rfl rfl rfl dX8_readStep_5 ?_
  obtain ⟨r7, hr7, h⟩ := bnd h
  refine g_xVz (k := 1) (As := [.ref (sK 13)]) (rest := []) (ro := r7) (go := g1) (xo := xo) Y (fun sz => cX_Text_isWord l D T ad sK sV xo g1 13 (by decide) _ hr7 sz) kX_RX8_70_Text_isWord ⟨Nat.le_of_ble_eq_true rfl, Nat.le_of_ble_eq_true rfl⟩ ⟨rfl, rfl⟩ ⟨Nat.zero_le _, Nat.zero_le _⟩ (rfl : vwCl[8]? = some (RX9, TX9, 8)) ob_1 rfl rfl (Nat.le_of_ble_eq_true rfl) dX8_readStep_7 (fun hz7 => ?_)
  refine g_if_eq C 19 dX8_readStep_10 (by decide) (fun c10 => ?_) (fun c10 => ?_)
  · have h := iteT c10 h
    refine g_aload_n C dX8_readStep_19 rfl 1 rfl ?_
    refine g_ldcS Y 14 rfl rfl rfl dX8_readStep_20 ?_
    obtain ⟨r22, hr22, h⟩ := bnd h
    refine g_xVz (k := 1) (As := [.ref (sK 14)]) (rest := []) (ro := r22) (go := g1) (xo := xo) Y (fun sz => cX_Text_isWord l D T ad sK sV xo g1 14 (by decide) _ hr22 sz) kX_RX8_70_Text_isWord ⟨Nat.le_of_ble_eq_true rfl, Nat.le_of_ble_eq_true rfl⟩ ⟨rfl, rfl⟩ ⟨Nat.zero_le _, Nat.zero_le _⟩ (rfl : vwCl[8]? = some (RX9, TX9, 8)) ob_1 rfl rfl (Nat.le_of_ble_eq_true rfl) dX8_readStep_22 (fun hz22 => ?_)
    refine g_if_eq C 45 dX8_readStep_25 (by decide) (fun c25 => ?_) (fun c25 => ?_)
    · have h := iteT c25 h
      refine g_aload_n C dX8_readStep_45 rfl 1 rfl ?_
      refine g_ldcS Y 15 rfl rfl rfl dX8_readStep_46 ?_
      obtain ⟨r48, hr48, h⟩ := bnd h
      refine g_xVz (k := 1) (As := [.ref (sK 15)]) (rest := []) (ro := r48) (go := g1) (xo := xo) Y (fun sz => cX_Text_isWord l D T ad sK sV xo g1 15 (by decide) _ hr48 sz) kX_RX8_70_Text_isWord ⟨Nat.le_of_ble_eq_true rfl, Nat.le_of_ble_eq_true rfl⟩ ⟨rfl, rfl⟩ ⟨Nat.zero_le _, Nat.zero_le _⟩ (rfl : vwCl[8]? = some (RX9, TX9, 8)) ob_1 rfl rfl (Nat.le_of_ble_eq_true rfl) dX8_readStep_48 (fun hz48 => ?_)
      refine g_if_eq C 80 dX8_readStep_51 (by decide) (fun c51 => ?_) (fun c51 => ?_)
      · have h := iteT c51 h
        refine g_aload_n C dX8_readStep_80 rfl 1 rfl ?_
        refine g_ldcS Y 16 rfl rfl rfl dX8_readStep_81 ?_
        obtain ⟨r83, hr83, h⟩ := bnd h
        refine g_xVz (k := 1) (As := [.ref (sK 16)]) (rest := []) (ro := r83) (go := g1) (xo := xo) Y (fun sz => cX_Text_isWord l D T ad sK sV xo g1 16 (by decide) _ hr83 sz) kX_RX8_70_Text_isWord ⟨Nat.le_of_ble_eq_true rfl, Nat.le_of_ble_eq_true rfl⟩ ⟨rfl, rfl⟩ ⟨Nat.zero_le _, Nat.zero_le _⟩ (rfl : vwCl[8]? = some (RX9, TX9, 8)) ob_1 rfl rfl (Nat.le_of_ble_eq_true rfl) dX8_readStep_83 (fun hz83 => ?_)
        refine g_if_eq C 114 dX8_readStep_86 (by decide) (fun c86 => ?_) (fun c86 => ?_)
        · have h := iteT c86 h
          refine g_aload_n C dX8_readStep_114 rfl 1 rfl ?_
          refine g_ldcS Y 17 rfl rfl rfl dX8_readStep_115 ?_
          obtain ⟨r117, hr117, h⟩ := bnd h
          refine g_xVz (k := 1) (As := [.ref (sK 17)]) (rest := []) (ro := r117) (go := g1) (xo := xo) Y (fun sz => cX_Text_isWord l D T ad sK sV xo g1 17 (by decide) _ hr117 sz) kX_RX8_70_Text_isWord ⟨Nat.le_of_ble_eq_true rfl, Nat.le_of_ble_eq_true rfl⟩ ⟨rfl, rfl⟩ ⟨Nat.zero_le _, Nat.zero_le _⟩ (rfl : vwCl[8]? = some (RX9, TX9, 8)) ob_1 rfl rfl (Nat.le_of_ble_eq_true rfl) dX8_readStep_117 (fun hz117 => ?_)
          refine g_if_eq C 148 dX8_readStep_120 (by decide) (fun c120 => ?_) (fun c120 => ?_)
          · have h := iteT c120 h
            refine g_aload_n C dX8_readStep_148 rfl 1 rfl ?_
            refine g_ldcS Y 18 rfl rfl rfl dX8_readStep_149 ?_
            obtain ⟨r151, hr151, h⟩ := bnd h
            refine g_xVz (k := 1) (As := [.ref (sK 18)]) (rest := []) (ro := r151) (go := g1) (xo := xo) Y (fun sz => cX_Text_isWord l D T ad sK sV xo g1 18 (by decide) _ hr151 sz) kX_RX8_70_Text_isWord ⟨Nat.le_of_ble_eq_true rfl, Nat.le_of_ble_eq_true rfl⟩ ⟨rfl, rfl⟩ ⟨Nat.zero_le _, Nat.zero_le _⟩ (rfl : vwCl[8]? = some (RX9, TX9, 8)) ob_1 rfl rfl (Nat.le_of_ble_eq_true rfl) dX8_readStep_151 (fun hz151 => ?_)
            refine g_if_eq C 167 dX8_readStep_154 (by decide) (fun c154 => ?_) (fun c154 => ?_)
            · have h := iteT c154 h
              refine g_aload_n C dX8_readStep_167 rfl 1 rfl ?_
              refine g_iconst C dX8_readStep_168 ic_1 ?_
              refine g_aload_n C dX8_readStep_169 rfl 1 rfl ?_
              refine gX_get_X8_96 (v := g1 1 4) C ob_1 rfl rfl dX8_readStep_170 ?_
              obtain ⟨g173, hr173, h⟩ := ltb h
              refine g_xVv (k := 1) (As := [.int (1 : Int32), .int (g1 1 4)]) (rest := []) (go := g173) (xo := xo) Y (fun sz => cX_Text_blame l D T ad sK sV xo g1 (1 : Int32) (g1 1 4) _ hr173 sz) kX_RX8_61_Text_blame ⟨Nat.le_of_ble_eq_true rfl, Nat.le_of_ble_eq_true rfl⟩ ⟨rfl, rfl⟩ ⟨Nat.zero_le _, Nat.zero_le _⟩ (rfl : vwCl[8]? = some (RX9, TX9, 8)) ob_1 rfl rfl (Nat.le_of_ble_eq_true rfl) dX8_readStep_173 ?_
              exact g_sub [1] rfl (J176 g173 h)
            · have h := iteF c154 h
              refine g_aload_n C dX8_readStep_157 rfl 0 rfl ?_
              refine g_iconst C dX8_readStep_158 ic_4 ?_
              refine g_iconst C dX8_readStep_159 ic_0 ?_
              refine g_iconst C dX8_readStep_160 ic_0 ?_
              obtain ⟨g161, hr161, h⟩ := bnd h
              refine g_xVv (k := 7) (As := [.int (4 : Int32), .int (0 : Int32), .int (0 : Int32)]) (rest := []) (go := g161) (xo := xo) Y (fun sz => cX_Steps_add l D T ad sK sV xo g1 (4 : Int32) (0 : Int32) (0 : Int32) _ hr161 sz) kX_RX8_84_Steps_add ⟨Nat.le_of_ble_eq_true rfl, Nat.le_of_ble_eq_true rfl⟩ ⟨rfl, rfl⟩ ⟨Nat.zero_le _, Nat.zero_le _⟩ (rfl : vwCl[7]? = some (RX8, TX8, 9)) ob_7 rfl rfl (Nat.le_of_ble_eq_true rfl) dX8_readStep_161 ?_
              refine g_goto (tgt := 176) C dX8_readStep_164 (by decide) ?_
              exact g_sub [1] rfl (J176 g161 h)
          · have h := iteF c120 h
            refine g_aload_n C dX8_readStep_123 rfl 1 rfl ?_
            refine g_iconst C dX8_readStep_124 ic_0 ?_
            refine g_iload_n C dX8_readStep_125 rfl 2 rfl ?_
            refine g_iconst C dX8_readStep_126 ic_1 ?_
            refine g_isub C dX8_readStep_127 ?_
            obtain ⟨⟨r128, g128⟩, hr128, h⟩ := bnd h
            refine g_xVi (k := 1) (As := [.int (0 : Int32), .int (x2 - (1 : Int32))]) (rest := []) (ro := r128) (go := g128) (xo := xo) Y (fun sz => cX_Text_number l D T ad sK sV xo g1 (0 : Int32) (x2 - (1 : Int32)) _ hr128 sz) kX_RX8_80_Text_number ⟨Nat.le_of_ble_eq_true rfl, Nat.le_of_ble_eq_true rfl⟩ ⟨rfl, rfl⟩ ⟨Nat.zero_le _, Nat.zero_le _⟩ (rfl : vwCl[8]? = some (RX9, TX9, 8)) ob_1 rfl rfl (Nat.le_of_ble_eq_true rfl) dX8_readStep_128 ?_
            refine g_istore_n (lv' := [(3, .int r128), (0, .ref (ad 7)), (1, .ref (ad 1)), (2, .int x2)]) C dX8_readStep_131 rfl (Nat.le_of_ble_eq_true rfl) rfl ?_
            refine g_aload_n C dX8_readStep_132 rfl 1 rfl ?_
            refine g_iconst C dX8_readStep_133 ic_3 ?_
            refine g_iload_n C dX8_readStep_134 rfl 0 rfl ?_
            refine g_aload_n C dX8_readStep_135 rfl 2 rfl ?_
            refine g_iconst C dX8_readStep_136 ic_1 ?_
            refine g_bipush C dX8_readStep_137 bp_60 ?_
            obtain ⟨⟨r139, g139⟩, hr139, h⟩ := bnd h
            refine g_xVi (k := 1) (As := [.int (1 : Int32), .int (60 : Int32)]) (rest := [.int r128, .int (3 : Int32), .ref (ad 7)]) (ro := r139) (go := g139) (xo := xo) Y (fun sz => cX_Text_number l D T ad sK sV xo g128 (1 : Int32) (60 : Int32) _ hr139 sz) kX_RX8_80_Text_number ⟨Nat.le_of_ble_eq_true rfl, Nat.le_of_ble_eq_true rfl⟩ ⟨rfl, rfl⟩ ⟨Nat.zero_le _, Nat.zero_le _⟩ (rfl : vwCl[8]? = some (RX9, TX9, 8)) ob_1 rfl rfl (Nat.le_of_ble_eq_true rfl) dX8_readStep_139 ?_
            obtain ⟨g142, hr142, h⟩ := bnd h
            refine g_xVv (k := 7) (As := [.int (3 : Int32), .int r128, .int r139]) (rest := []) (go := g142) (xo := xo) Y (fun sz => cX_Steps_add l D T ad sK sV xo g139 (3 : Int32) r128 r139 _ hr142 sz) kX_RX8_84_Steps_add ⟨Nat.le_of_ble_eq_true rfl, Nat.le_of_ble_eq_true rfl⟩ ⟨rfl, rfl⟩ ⟨Nat.zero_le _, Nat.zero_le _⟩ (rfl : vwCl[7]? = some (RX8, TX8, 9)) ob_7 rfl rfl (Nat.le_of_ble_eq_true rfl) dX8_readStep_142 ?_
            refine g_goto (tgt := 176) C dX8_readStep_145 (by decide) ?_
            exact g_sub [2] rfl (J176 g142 h)
        · have h := iteF c86 h
          refine g_aload_n C dX8_readStep_89 rfl 1 rfl ?_
          refine g_iconst C dX8_readStep_90 ic_0 ?_
          refine g_iload_n C dX8_readStep_91 rfl 2 rfl ?_
          refine g_iconst C dX8_readStep_92 ic_1 ?_
          refine g_isub C dX8_readStep_93 ?_
          obtain ⟨⟨r94, g94⟩, hr94, h⟩ := bnd h
          refine g_xVi (k := 1) (As := [.int (0 : Int32), .int (x2 - (1 : Int32))]) (rest := []) (ro := r94) (go := g94) (xo := xo) Y (fun sz => cX_Text_number l D T ad sK sV xo g1 (0 : Int32) (x2 - (1 : Int32)) _ hr94 sz) kX_RX8_80_Text_number ⟨Nat.le_of_ble_eq_true rfl, Nat.le_of_ble_eq_true rfl⟩ ⟨rfl, rfl⟩ ⟨Nat.zero_le _, Nat.zero_le _⟩ (rfl : vwCl[8]? = some (RX9, TX9, 8)) ob_1 rfl rfl (Nat.le_of_ble_eq_true rfl) dX8_readStep_94 ?_
          refine g_istore_n (lv' := [(3, .int r94), (0, .ref (ad 7)), (1, .ref (ad 1)), (2, .int x2)]) C dX8_readStep_97 rfl (Nat.le_of_ble_eq_true rfl) rfl ?_
          refine g_aload_n C dX8_readStep_98 rfl 1 rfl ?_
          refine g_iconst C dX8_readStep_99 ic_2 ?_
          refine g_iload_n C dX8_readStep_100 rfl 0 rfl ?_
          refine g_aload_n C dX8_readStep_101 rfl 2 rfl ?_
          refine g_iconst C dX8_readStep_102 ic_1 ?_
          refine g_bipush C dX8_readStep_103 bp_60 ?_
          obtain ⟨⟨r105, g105⟩, hr105, h⟩ := bnd h
          refine g_xVi (k := 1) (As := [.int (1 : Int32), .int (60 : Int32)]) (rest := [.int r94, .int (2 : Int32), .ref (ad 7)]) (ro := r105) (go := g105) (xo := xo) Y (fun sz => cX_Text_number l D T ad sK sV xo g94 (1 : Int32) (60 : Int32) _ hr105 sz) kX_RX8_80_Text_number ⟨Nat.le_of_ble_eq_true rfl, Nat.le_of_ble_eq_true rfl⟩ ⟨rfl, rfl⟩ ⟨Nat.zero_le _, Nat.zero_le _⟩ (rfl : vwCl[8]? = some (RX9, TX9, 8)) ob_1 rfl rfl (Nat.le_of_ble_eq_true rfl) dX8_readStep_105 ?_
          obtain ⟨g108, hr108, h⟩ := bnd h
          refine g_xVv (k := 7) (As := [.int (2 : Int32), .int r94, .int r105]) (rest := []) (go := g108) (xo := xo) Y (fun sz => cX_Steps_add l D T ad sK sV xo g105 (2 : Int32) r94 r105 _ hr108 sz) kX_RX8_84_Steps_add ⟨Nat.le_of_ble_eq_true rfl, Nat.le_of_ble_eq_true rfl⟩ ⟨rfl, rfl⟩ ⟨Nat.zero_le _, Nat.zero_le _⟩ (rfl : vwCl[7]? = some (RX8, TX8, 9)) ob_7 rfl rfl (Nat.le_of_ble_eq_true rfl) dX8_readStep_108 ?_
          refine g_goto (tgt := 176) C dX8_readStep_111 (by decide) ?_
          exact g_sub [2] rfl (J176 g108 h)
      · have h := iteF c51 h
        refine g_aload_n C dX8_readStep_54 rfl 1 rfl ?_
        refine g_iconst C dX8_readStep_55 ic_0 ?_
        refine g_iload_n C dX8_readStep_56 rfl 2 rfl ?_
        refine g_iconst C dX8_readStep_57 ic_1 ?_
        refine g_isub C dX8_readStep_58 ?_
        obtain ⟨⟨r59, g59⟩, hr59, h⟩ := bnd h
        refine g_xVi (k := 1) (As := [.int (0 : Int32), .int (x2 - (1 : Int32))]) (rest := []) (ro := r59) (go := g59) (xo := xo) Y (fun sz => cX_Text_number l D T ad sK sV xo g1 (0 : Int32) (x2 - (1 : Int32)) _ hr59 sz) kX_RX8_80_Text_number ⟨Nat.le_of_ble_eq_true rfl, Nat.le_of_ble_eq_true rfl⟩ ⟨rfl, rfl⟩ ⟨Nat.zero_le _, Nat.zero_le _⟩ (rfl : vwCl[8]? = some (RX9, TX9, 8)) ob_1 rfl rfl (Nat.le_of_ble_eq_true rfl) dX8_readStep_59 ?_
        refine g_istore_n (lv' := [(3, .int r59), (0, .ref (ad 7)), (1, .ref (ad 1)), (2, .int x2)]) C dX8_readStep_62 rfl (Nat.le_of_ble_eq_true rfl) rfl ?_
        refine g_aload_n C dX8_readStep_63 rfl 1 rfl ?_
        refine g_iconst C dX8_readStep_64 ic_1 ?_
        refine g_iload_n C dX8_readStep_65 rfl 0 rfl ?_
        refine g_aload_n C dX8_readStep_66 rfl 2 rfl ?_
        refine g_iconst C dX8_readStep_67 ic_0 ?_
        refine g_iload_n C dX8_readStep_68 rfl 3 rfl ?_
        refine g_iconst C dX8_readStep_69 ic_1 ?_
        refine g_isub C dX8_readStep_70 ?_
        obtain ⟨⟨r71, g71⟩, hr71, h⟩ := bnd h
        refine g_xVi (k := 1) (As := [.int (0 : Int32), .int (x2 - (1 : Int32))]) (rest := [.int r59, .int (1 : Int32), .ref (ad 7)]) (ro := r71) (go := g71) (xo := xo) Y (fun sz => cX_Text_number l D T ad sK sV xo g59 (0 : Int32) (x2 - (1 : Int32)) _ hr71 sz) kX_RX8_80_Text_number ⟨Nat.le_of_ble_eq_true rfl, Nat.le_of_ble_eq_true rfl⟩ ⟨rfl, rfl⟩ ⟨Nat.zero_le _, Nat.zero_le _⟩ (rfl : vwCl[8]? = some (RX9, TX9, 8)) ob_1 rfl rfl (Nat.le_of_ble_eq_true rfl) dX8_readStep_71 ?_
        obtain ⟨g74, hr74, h⟩ := bnd h
        refine g_xVv (k := 7) (As := [.int (1 : Int32), .int r59, .int r71]) (rest := []) (go := g74) (xo := xo) Y (fun sz => cX_Steps_add l D T ad sK sV xo g71 (1 : Int32) r59 r71 _ hr74 sz) kX_RX8_84_Steps_add ⟨Nat.le_of_ble_eq_true rfl, Nat.le_of_ble_eq_true rfl⟩ ⟨rfl, rfl⟩ ⟨Nat.zero_le _, Nat.zero_le _⟩ (rfl : vwCl[7]? = some (RX8, TX8, 9)) ob_7 rfl rfl (Nat.le_of_ble_eq_true rfl) dX8_readStep_74 ?_
        refine g_goto (tgt := 176) C dX8_readStep_77 (by decide) ?_
        exact g_sub [2] rfl (J176 g74 h)
    · have h := iteF c25 h
      refine g_aload_n C dX8_readStep_28 rfl 0 rfl ?_
      refine g_iconst C dX8_readStep_29 ic_0 ?_
      refine g_aload_n C dX8_readStep_30 rfl 1 rfl ?_
      refine g_iconst C dX8_readStep_31 ic_0 ?_
      refine g_iload_n C dX8_readStep_32 rfl 2 rfl ?_
      refine g_iconst C dX8_readStep_33 ic_1 ?_
      refine g_isub C dX8_readStep_34 ?_
      obtain ⟨⟨r35, g35⟩, hr35, h⟩ := bnd h
      refine g_xVi (k := 1) (As := [.int (0 : Int32), .int (x2 - (1 : Int32))]) (rest := [.int (0 : Int32), .ref (ad 7)]) (ro := r35) (go := g35) (xo := xo) Y (fun sz => cX_Text_number l D T ad sK sV xo g1 (0 : Int32) (x2 - (1 : Int32)) _ hr35 sz) kX_RX8_80_Text_number ⟨Nat.le_of_ble_eq_true rfl, Nat.le_of_ble_eq_true rfl⟩ ⟨rfl, rfl⟩ ⟨Nat.zero_le _, Nat.zero_le _⟩ (rfl : vwCl[8]? = some (RX9, TX9, 8)) ob_1 rfl rfl (Nat.le_of_ble_eq_true rfl) dX8_readStep_35 ?_
      refine g_iconst C dX8_readStep_38 ic_0 ?_
      obtain ⟨g39, hr39, h⟩ := bnd h
      refine g_xVv (k := 7) (As := [.int (0 : Int32), .int r35, .int (0 : Int32)]) (rest := []) (go := g39) (xo := xo) Y (fun sz => cX_Steps_add l D T ad sK sV xo g35 (0 : Int32) r35 (0 : Int32) _ hr39 sz) kX_RX8_84_Steps_add ⟨Nat.le_of_ble_eq_true rfl, Nat.le_of_ble_eq_true rfl⟩ ⟨rfl, rfl⟩ ⟨Nat.zero_le _, Nat.zero_le _⟩ (rfl : vwCl[7]? = some (RX8, TX8, 9)) ob_7 rfl rfl (Nat.le_of_ble_eq_true rfl) dX8_readStep_39 ?_
      refine g_goto (tgt := 176) C dX8_readStep_42 (by decide) ?_
      exact g_sub [1] rfl (J176 g39 h)
  · have h := iteF c10 h
    refine g_aload_n C dX8_readStep_13 rfl 0 rfl ?_
    refine g_aload_n C dX8_readStep_14 rfl 1 rfl ?_
    obtain ⟨g15, hr15, h⟩ := bnd h
    refine g_xVv (k := 7) (As := [.ref (ad 1)]) (rest := []) (go := g15) (xo := xo) Y (fun sz => cX_Steps_openAgain l D T ad sK sV xo g1 _ hr15 sz) kX_RX8_74_Steps_openAgain ⟨Nat.le_of_ble_eq_true rfl, Nat.le_of_ble_eq_true rfl⟩ ⟨rfl, rfl⟩ ⟨Nat.zero_le _, Nat.zero_le _⟩ (rfl : vwCl[7]? = some (RX8, TX8, 9)) ob_7 rfl rfl (Nat.le_of_ble_eq_true rfl) dX8_readStep_15 ?_
    obtain rfl := Option.some.inj h
    exact g_vret C rfl rfl dX8_readStep_18
def fX_Steps_readFrom_b65 (x2 : Int32) (x3 : Int32) (g : St) : Option ((Int32 × St) ⊕ (St)) :=
  some (.inl ((x3 + (1 : Int32)), g))
def fX_Steps_readFrom_b59 (x2 : Int32) (x3 : Int32) (g : St) : Option ((Int32 × St) ⊕ (St)) :=
  (fX_Steps_readStep x2 g).bind fun g62 => (fX_Steps_readFrom_b65 x2 x3 g62)
def fX_Steps_readFrom_L12 (x2 : Int32) : (Int32 × St) → Option ((Int32 × St) ⊕ (St)) := fun ⟨x3, g⟩ =>
  if (150 : Int32) ≤ x3 then
    (some (.inr g))
  else
    ((fX_Text_hasMore g).bind fun ⟨r20, g20⟩ => (if r20 = 0 then
    (some (.inr g20))
  else
    (if (g20 7 6) ≤ 0 then
    (fX_Steps_readFrom_b59 x2 x3 g20)
  else
    ((fX_Text_nextByte g20).bind fun ⟨r34, g34⟩ => (if r34 = (93 : Int32) then
    (lt1 (fX_Text_pass g34) fun g43 => ((fX_Steps_closeAgain g43).bind fun g47 => ((fX_Text_expect (59 : Int32) g47).bind fun g53 => (fX_Steps_readFrom_b65 x2 x3 g53))))
  else
    (fX_Steps_readFrom_b59 x2 x3 g34))))))
def fX_Steps_readFrom_b12 (x2 : Int32) (x3 : Int32) (g : St) : Option (St) :=
  (lp (fX_Steps_readFrom_L12 x2) fuel (x3, g)).bind (fun g => if (g 7 6) ≤ 0 then
    (some g)
  else
    (lt1 (fX_Text_blame (1 : Int32) (g 1 3) g) fun g84 => (some g84)))
def fX_Steps_readFrom (x2 : Int32) (g : St) : Option (St) :=
  fX_Steps_readFrom_b12 x2 (0 : Int32) (st (st g 7 5 (0 : Int32)) 7 6 (0 : Int32))
def rmX_Steps_readFrom : Room := { frames := 9, cells := 0, slots := 0, locals := 206 }
abbrev GcX_Steps_readFrom (l : Launch) (D : va_G) (T : cT) (ad : Nat → Nat) (Γ : Cxt) (o : St) (xo : Sl) (x : Sl) (g : St) (pc : Nat) (lv : List (Nat × Value)) (stk : List Value) : Prop := Gj l shX D T ad 4 (rmX_Steps_readFrom) 0 0 Γ (MQ Γ.below (va_Qv (eqV o xo) (wPost shX D T ad Γ.A) Γ.A) Γ.args Γ.s 0 0 Γ.A) x g pc lv stk
set_option maxRecDepth 100000 in
set_option maxHeartbeats 4000000 in
theorem cX_Steps_readFrom (l : Launch) (D : va_G) (T : cT) (ad : Nat → Nat) (sK sV : Nat → Nat) (xo : Sl) (g : St) (x2 : Int32) (o : St) (h : fX_Steps_readFrom x2 g = some o) (sz : Nat) : Met l yX8_readFrom wX_Steps_readFrom (rmX_Steps_readFrom) (va_Pc [.ref (ad 7), .ref (ad 1), .int x2] (xPre shX D T ad sK sV xo g sz)) (va_Qv (eqV o xo) (wPost shX D T ad (aW shX T ad xo g sz)) (aW shX T ad xo g sz)) 0 0 (aW shX T ad xo g sz) := by
  refine g_startx (Qc := fun A => va_Qv (eqV o xo) (wPost shX D T ad A) A) (by decide +kernel) rfl rfl (Nat.le_of_ble_eq_true rfl) (lv := [(0, .ref (ad 7)), (1, .ref (ad 1)), (2, .int x2)]) rfl (fun Γ Y => ?_)
  have C := Y.1
  show GcX_Steps_readFrom l D T ad Γ o xo xo g 0 [(0, .ref (ad 7)), (1, .ref (ad 1)), (2, .int x2)] []
  have J12 : ∀ (x2 : Int32) (x3 : Int32) (g : St), fX_Steps_readFrom_b12 x2 x3 g = some o → GcX_Steps_readFrom l D T ad Γ o xo xo g 12 [(0, .ref (ad 7)), (1, .ref (ad 1)), (2, .int x2), (3, .int x3)] [] := by
    intro x2 x3 g h
    obtain ⟨g, ht, h⟩ := bnd h
    refine lp_run (P := fun t : Int32 × St => match t with | (x3, g) => GcX_Steps_readFrom l D T ad Γ o xo xo g 12 [(0, .ref (ad 7)), (1, .ref (ad 1)), (2, .int x2), (3, .int x3)] []) (E := fun g : St => GcX_Steps_readFrom l D T ad Γ o xo xo g 71 [(0, .ref (ad 7)), (1, .ref (ad 1))] []) ?_ _ _ _ ht ?_
    · rintro ⟨x3, g⟩ z h Kt Ke
      show GcX_Steps_readFrom l D T ad Γ o xo xo g 12 [(0, .ref (ad 7)), (1, .ref (ad 1)), (2, .int x2), (3, .int x3)] []
      have J65 : ∀ (x3 : Int32) (g : St), fX_Steps_readFrom_b65 x2 x3 g = some z → GcX_Steps_readFrom l D T ad Γ o xo xo g 65 [(0, .ref (ad 7)), (1, .ref (ad 1)), (2, .int x2), (3, .int x3)] [] := by
        intro x3 g h
        refine g_iinc (lv' := [(3, .int (x3 + (1 : Int32))), (0, .ref (ad 7)), (1, .ref (ad 1)), (2, .int x2)]) C dX8_readFrom_65 3 rfl (ii_1 _) (Nat.le_of_ble_eq_true rfl) rfl ?_
        refine g_goto (tgt := 12) C dX8_readFrom_68 (by decide) ?_
        exact g_sub [1, 2, 3, 0] rfl (Kt _ (Option.some.inj h).symm)
      have J59 : ∀ (x3 : Int32) (g : St), fX_Steps_readFrom_b59 x2 x3 g = some z → GcX_Steps_readFrom l D T ad Γ o xo xo g 59 [(0, .ref (ad 7)), (1, .ref (ad 1)), (2, .int x2), (3, .int x3)] [] := by
        intro x3 g h
        refine g_aload_n C dX8_readFrom_59 rfl 0 rfl ?_
        refine g_aload_n C dX8_readFrom_60 rfl 1 rfl ?_
        refine g_iload_n C dX8_readFrom_61 rfl 2 rfl ?_
        obtain ⟨g62, hr62, h⟩ := bnd h
        refine g_xVv (k := 7) (As := [.ref (ad 1), .int x2]) (rest := []) (go := g62) (xo := xo) Y (fun sz => cX_Steps_readStep l D T ad sK sV xo g x2 _ hr62 sz) kX_RX8_54_Steps_readStep ⟨Nat.le_of_ble_eq_true rfl, Nat.le_of_ble_eq_true rfl⟩ ⟨rfl, rfl⟩ ⟨Nat.zero_le _, Nat.zero_le _⟩ (rfl : vwCl[7]? = some (RX8, TX8, 9)) ob_7 rfl rfl (Nat.le_of_ble_eq_true rfl) dX8_readFrom_62 ?_
        exact J65 x3 g62 h
      refine g_iload_n C dX8_readFrom_12 rfl 3 rfl ?_
      refine g_sipush C dX8_readFrom_13 sp_150 ?_
      refine g_icmp_ge C 71 dX8_readFrom_16 (by decide) (fun c16 => ?_) (fun c16 => ?_)
      · have h := iteT c16 h
        exact g_sub [0, 1] rfl (Ke _ (Option.some.inj h).symm)
      · have h := iteF c16 h
        refine g_aload_n C dX8_readFrom_19 rfl 1 rfl ?_
        obtain ⟨⟨r20, g20⟩, hr20, h⟩ := bnd h
        refine g_xVz (k := 1) (As := []) (rest := []) (ro := r20) (go := g20) (xo := xo) Y (fun sz => cX_Text_hasMore l D T ad sK sV xo g _ hr20 sz) kX_RX8_34_Text_hasMore ⟨Nat.le_of_ble_eq_true rfl, Nat.le_of_ble_eq_true rfl⟩ ⟨rfl, rfl⟩ ⟨Nat.zero_le _, Nat.zero_le _⟩ (rfl : vwCl[8]? = some (RX9, TX9, 8)) ob_1 rfl rfl (Nat.le_of_ble_eq_true rfl) dX8_readFrom_20 (fun hz20 => ?_)
        refine g_if_eq C 71 dX8_readFrom_23 (by decide) (fun c23 => ?_) (fun c23 => ?_)
        · have h := iteT c23 h
          exact g_sub [0, 1] rfl (Ke _ (Option.some.inj h).symm)
        · have h := iteF c23 h
          refine g_aload_n C dX8_readFrom_26 rfl 0 rfl ?_
          refine gX_get_X8_31 (v := g20 7 6) C ob_7 rfl rfl dX8_readFrom_27 ?_
          refine g_if_le C 59 dX8_readFrom_30 (by decide) (fun c30 => ?_) (fun c30 => ?_)
          · have h := iteT c30 h
            exact J59 x3 g20 h
          · have h := iteF c30 h
            refine g_aload_n C dX8_readFrom_33 rfl 1 rfl ?_
            obtain ⟨⟨r34, g34⟩, hr34, h⟩ := bnd h
            refine g_xVi (k := 1) (As := []) (rest := []) (ro := r34) (go := g34) (xo := xo) Y (fun sz => cX_Text_nextByte l D T ad sK sV xo g20 _ hr34 sz) kX_RX8_40_Text_nextByte ⟨Nat.le_of_ble_eq_true rfl, Nat.le_of_ble_eq_true rfl⟩ ⟨rfl, rfl⟩ ⟨Nat.zero_le _, Nat.zero_le _⟩ (rfl : vwCl[8]? = some (RX9, TX9, 8)) ob_1 rfl rfl (Nat.le_of_ble_eq_true rfl) dX8_readFrom_34 ?_
            refine g_bipush C dX8_readFrom_37 bp_93 ?_
            refine g_icmp_ne C 59 dX8_readFrom_39 (by decide) (fun c39 => ?_) (fun c39 => ?_)
            · have h := iteT c39 h
              refine g_aload_n C dX8_readFrom_42 rfl 1 rfl ?_
              obtain ⟨g43, hr43, h⟩ := ltb h
              refine g_xVv (k := 1) (As := []) (rest := []) (go := g43) (xo := xo) Y (fun sz => cX_Text_pass l D T ad sK sV xo g34 _ hr43 sz) kX_RX8_44_Text_pass ⟨Nat.le_of_ble_eq_true rfl, Nat.le_of_ble_eq_true rfl⟩ ⟨rfl, rfl⟩ ⟨Nat.zero_le _, Nat.zero_le _⟩ (rfl : vwCl[8]? = some (RX9, TX9, 8)) ob_1 rfl rfl (Nat.le_of_ble_eq_true rfl) dX8_readFrom_43 ?_
              refine g_aload_n C dX8_readFrom_46 rfl 0 rfl ?_
              obtain ⟨g47, hr47, h⟩ := bnd h
              refine g_xVv (k := 7) (As := []) (rest := []) (go := g47) (xo := xo) Y (fun sz => cX_Steps_closeAgain l D T ad sK sV xo g43 _ hr47 sz) kX_RX8_47_Steps_closeAgain ⟨Nat.le_of_ble_eq_true rfl, Nat.le_of_ble_eq_true rfl⟩ ⟨rfl, rfl⟩ ⟨Nat.zero_le _, Nat.zero_le _⟩ (rfl : vwCl[7]? = some (RX8, TX8, 9)) ob_7 rfl rfl (Nat.le_of_ble_eq_true rfl) dX8_readFrom_47 ?_
              refine g_aload_n C dX8_readFrom_50 rfl 1 rfl ?_
              refine g_bipush C dX8_readFrom_51 bp_59 ?_
              obtain ⟨g53, hr53, h⟩ := bnd h
              refine g_xVv (k := 1) (As := [.int (59 : Int32)]) (rest := []) (go := g53) (xo := xo) Y (fun sz => cX_Text_expect l D T ad sK sV xo g47 (59 : Int32) _ hr53 sz) kX_RX8_50_Text_expect ⟨Nat.le_of_ble_eq_true rfl, Nat.le_of_ble_eq_true rfl⟩ ⟨rfl, rfl⟩ ⟨Nat.zero_le _, Nat.zero_le _⟩ (rfl : vwCl[8]? = some (RX9, TX9, 8)) ob_1 rfl rfl (Nat.le_of_ble_eq_true rfl) dX8_readFrom_53 ?_
              refine g_goto (tgt := 65) C dX8_readFrom_56 (by decide) ?_
              exact J65 x3 g53 h
            · have h := iteF c39 h
              exact J59 x3 g34 h
    · show GcX_Steps_readFrom l D T ad Γ o xo xo g 71 [(0, .ref (ad 7)), (1, .ref (ad 1))] []
      refine g_aload_n C dX8_readFrom_71 rfl 0 rfl ?_
      refine gX_get_X8_31 (v := g 7 6) C ob_7 rfl rfl dX8_readFrom_72 ?_
      refine g_if_le C 87 dX8_readFrom_75 (by decide) (fun c75 => ?_) (fun c75 => ?_)
      · have h := iteT c75 h
        obtain rfl := Option.some.inj h
        exact g_vret C rfl rfl dX8_readFrom_87
      · have h := iteF c75 h
        refine g_aload_n C dX8_readFrom_78 rfl 1 rfl ?_
        refine g_iconst C dX8_readFrom_79 ic_1 ?_
        refine g_aload_n C dX8_readFrom_80 rfl 1 rfl ?_
        refine gX_get_X8_58 (v := g 1 3) C ob_1 rfl rfl dX8_readFrom_81 ?_
        obtain ⟨g84, hr84, h⟩ := ltb h
        refine g_xVv (k := 1) (As := [.int (1 : Int32), .int (g 1 3)]) (rest := []) (go := g84) (xo := xo) Y (fun sz => cX_Text_blame l D T ad sK sV xo g (1 : Int32) (g 1 3) _ hr84 sz) kX_RX8_61_Text_blame ⟨Nat.le_of_ble_eq_true rfl, Nat.le_of_ble_eq_true rfl⟩ ⟨rfl, rfl⟩ ⟨Nat.zero_le _, Nat.zero_le _⟩ (rfl : vwCl[8]? = some (RX9, TX9, 8)) ob_1 rfl rfl (Nat.le_of_ble_eq_true rfl) dX8_readFrom_84 ?_
        obtain rfl := Option.some.inj h
        exact g_vret C rfl rfl dX8_readFrom_87
  refine g_aload_n C dX8_readFrom_0 rfl 0 rfl ?_
  refine g_iconst C dX8_readFrom_1 ic_0 ?_
  refine gX_put_X8_27 C ob_7 rfl dX8_readFrom_2 ?_
  refine g_aload_n C dX8_readFrom_5 rfl 0 rfl ?_
  refine g_iconst C dX8_readFrom_6 ic_0 ?_
  refine gX_put_X8_31 C ob_7 rfl dX8_readFrom_7 ?_
  refine g_iconst C dX8_readFrom_10 ic_0 ?_
  refine g_istore_n (lv' := [(3, .int (0 : Int32)), (0, .ref (ad 7)), (1, .ref (ad 1)), (2, .int x2)]) C dX8_readFrom_11 rfl (Nat.le_of_ble_eq_true rfl) rfl ?_
  exact g_sub [1, 2, 3, 0] rfl (J12 x2 (0 : Int32) (st (st g 7 5 (0 : Int32)) 7 6 (0 : Int32)) h)
def fX_Steps_behindEnd (x1 : Int32) (g : St) : Option (Int32 × St) :=
  (fX_Rows_at 34 ((g 7 6) - (1 : Int32)) g).bind fun r10 => (if (r10 - (1 : Int32)) ≤ 0 then
    (some ((x1 + (1 : Int32)), (st g 7 6 ((g 7 6) - (1 : Int32)))))
  else
    ((fX_Rows_put 34 ((g 7 6) - (1 : Int32)) (r10 - (1 : Int32)) g).bind fun g31 => ((fX_Rows_at 31 x1 g31).bind fun r39 => (some ((r39 + (1 : Int32)), g31)))))
def rmX_Steps_behindEnd : Room := { frames := 1, cells := 0, slots := 0, locals := 22 }
abbrev GcX_Steps_behindEnd (l : Launch) (D : va_G) (T : cT) (ad : Nat → Nat) (Γ : Cxt) (o : Int32 × St) (xo : Sl) (x : Sl) (g : St) (pc : Nat) (lv : List (Nat × Value)) (stk : List Value) : Prop := Gj l shX D T ad 3 (rmX_Steps_behindEnd) 0 0 Γ (MQ Γ.below (va_Qi (eqI o.1 o.2 xo) (wPost shX D T ad Γ.A) Γ.A) Γ.args Γ.s 0 0 Γ.A) x g pc lv stk
set_option maxRecDepth 100000 in
set_option maxHeartbeats 4000000 in
theorem cX_Steps_behindEnd (l : Launch) (D : va_G) (T : cT) (ad : Nat → Nat) (sK sV : Nat → Nat) (xo : Sl) (g : St) (x1 : Int32) (o : Int32 × St) (h : fX_Steps_behindEnd x1 g = some o) (sz : Nat) : Met l yX8_behindEnd wX_Steps_behindEnd (rmX_Steps_behindEnd) (va_Pc [.ref (ad 7), .int x1] (xPre shX D T ad sK sV xo g sz)) (va_Qi (eqI o.1 o.2 xo) (wPost shX D T ad (aW shX T ad xo g sz)) (aW shX T ad xo g sz)) 0 0 (aW shX T ad xo g sz) := by
  refine g_startx (Qc := fun A => va_Qi (eqI o.1 o.2 xo) (wPost shX D T ad A) A) (by decide +kernel) rfl rfl (Nat.le_of_ble_eq_true rfl) (lv := [(0, .ref (ad 7)), (1, .int x1)]) rfl (fun Γ Y => ?_)
  have C := Y.1
  show GcX_Steps_behindEnd l D T ad Γ o xo xo g 0 [(0, .ref (ad 7)), (1, .int x1)] []
  refine g_aload_n C dX8_behindEnd_0 rfl 0 rfl ?_
  refine gX_get_X8_24 C ob_7 rfl dX8_behindEnd_1 ?_
  refine g_aload_n C dX8_behindEnd_4 rfl 0 rfl ?_
  refine gX_get_X8_31 (v := g 7 6) C ob_7 rfl rfl dX8_behindEnd_5 ?_
  refine g_iconst C dX8_behindEnd_8 ic_1 ?_
  refine g_isub C dX8_behindEnd_9 ?_
  obtain ⟨r10, hr10, h⟩ := bnd h
  refine g_xSi (As := [.ref (ad 34), .int ((g 7 6) - (1 : Int32))]) (rest := []) (ro := r10) (go := g) (xo := xo) Y (fun sz => cX_Rows_at l D T ad sK sV xo g 34 ((g 7 6) - (1 : Int32)) _ hr10 sz) kX_RX8_105_Rows_at ⟨Nat.le_of_ble_eq_true rfl, Nat.le_of_ble_eq_true rfl⟩ ⟨rfl, rfl⟩ ⟨Nat.zero_le _, Nat.zero_le _⟩ rfl rfl (Nat.le_of_ble_eq_true rfl) dX8_behindEnd_10 ?_
  refine g_iconst C dX8_behindEnd_13 ic_1 ?_
  refine g_isub C dX8_behindEnd_14 ?_
  refine g_istore_n (lv' := [(2, .int (r10 - (1 : Int32))), (0, .ref (ad 7)), (1, .int x1)]) C dX8_behindEnd_15 rfl (Nat.le_of_ble_eq_true rfl) rfl ?_
  refine g_iload_n C dX8_behindEnd_16 rfl 0 rfl ?_
  refine g_if_le C 45 dX8_behindEnd_17 (by decide) (fun c17 => ?_) (fun c17 => ?_)
  · have h := iteT c17 h
    refine g_aload_n C dX8_behindEnd_45 rfl 1 rfl ?_
    refine g_dup C dX8_behindEnd_46 rfl ?_
    refine gX_get_X8_31 (v := g 7 6) C ob_7 rfl rfl dX8_behindEnd_47 ?_
    refine g_iconst C dX8_behindEnd_50 ic_1 ?_
    refine g_isub C dX8_behindEnd_51 ?_
    refine gX_put_X8_31 C ob_7 rfl dX8_behindEnd_52 ?_
    refine g_iload_n C dX8_behindEnd_55 rfl 2 rfl ?_
    refine g_iconst C dX8_behindEnd_56 ic_1 ?_
    refine g_iadd C dX8_behindEnd_57 ?_
    obtain rfl := Option.some.inj h
    exact g_iret C rfl rfl rfl dX8_behindEnd_58
  · have h := iteF c17 h
    refine g_aload_n C dX8_behindEnd_20 rfl 1 rfl ?_
    refine gX_get_X8_24 C ob_7 rfl dX8_behindEnd_21 ?_
    refine g_aload_n C dX8_behindEnd_24 rfl 1 rfl ?_
    refine gX_get_X8_31 (v := g 7 6) C ob_7 rfl rfl dX8_behindEnd_25 ?_
    refine g_iconst C dX8_behindEnd_28 ic_1 ?_
    refine g_isub C dX8_behindEnd_29 ?_
    refine g_iload_n C dX8_behindEnd_30 rfl 0 rfl ?_
    obtain ⟨g31, hr31, h⟩ := bnd h
    refine g_xSv (As := [.ref (ad 34), .int ((g 7 6) - (1 : Int32)), .int (r10 - (1 : Int32))]) (rest := []) (go := g31) (xo := xo) Y (fun sz => cX_Rows_put l D T ad sK sV xo g 34 ((g 7 6) - (1 : Int32)) (r10 - (1 : Int32)) _ hr31 sz) kX_RX8_99_Rows_put ⟨Nat.le_of_ble_eq_true rfl, Nat.le_of_ble_eq_true rfl⟩ ⟨rfl, rfl⟩ ⟨Nat.zero_le _, Nat.zero_le _⟩ rfl rfl (Nat.le_of_ble_eq_true rfl) dX8_behindEnd_31 ?_
    refine g_aload_n C dX8_behindEnd_34 rfl 1 rfl ?_
    refine gX_get_X8_15 C ob_7 rfl dX8_behindEnd_35 ?_
    refine g_iload_n C dX8_behindEnd_38 rfl 2 rfl ?_
    obtain ⟨r39, hr39, h⟩ := bnd h
    refine g_xSi (As := [.ref (ad 31), .int x1]) (rest := []) (ro := r39) (go := g31) (xo := xo) Y (fun sz => cX_Rows_at l D T ad sK sV xo g31 31 x1 _ hr39 sz) kX_RX8_105_Rows_at ⟨Nat.le_of_ble_eq_true rfl, Nat.le_of_ble_eq_true rfl⟩ ⟨rfl, rfl⟩ ⟨Nat.zero_le _, Nat.zero_le _⟩ rfl rfl (Nat.le_of_ble_eq_true rfl) dX8_behindEnd_39 ?_
    refine g_iconst C dX8_behindEnd_42 ic_1 ?_
    refine g_iadd C dX8_behindEnd_43 ?_
    obtain rfl := Option.some.inj h
    exact g_iret C rfl rfl rfl dX8_behindEnd_44
