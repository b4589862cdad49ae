def fX_Law_becomePlain (th : Nat) (g : St) : Option (St) :=
  lt1 (fX_Law_clear th g) fun g1 => ((fX_Law_add th (1000 : Int32) g1).bind fun g8 => ((fX_Law_add th (3 : Int32) g8).bind fun g13 => ((fX_Law_add th (2042 : Int32) g13).bind fun g20 => ((fX_Law_add th (1003 : Int32) g20).bind fun g27 => ((fX_Law_add th (9 : Int32) g27).bind fun g33 => ((fX_Law_add th (2042 : Int32) g33).bind fun g40 => ((fX_Law_add th (2043 : Int32) g40).bind fun g47 => ((fX_Law_add th (1002 : Int32) g47).bind fun g54 => ((fX_Law_add th (5 : Int32) g54).bind fun g59 => ((fX_Law_add th (2042 : Int32) g59).bind fun g66 => ((fX_Law_add th (2045 : Int32) g66).bind fun g73 => (some g73))))))))))))
def rmX_Law_becomePlain : Room := { frames := 2, cells := 0, slots := 0, locals := 43 }
abbrev GcX_Law_becomePlain (l : Launch) (D : va_G) (T : cT) (ad : Nat → Nat) (Γ : Cxt) (o : St) (xo : Sl) (x : Sl) (g : St) (pc : Nat) (lv : List (Nat × Value)) (stk : List Value) : Prop := Gj l shX D T ad 1 (rmX_Law_becomePlain) 0 0 Γ (MQ Γ.below (va_Qv (eqV o xo) (wPost shX D T ad Γ.A) Γ.A) Γ.args Γ.s 0 0 Γ.A) x g pc lv stk
set_option maxRecDepth 100000 in
set_option maxHeartbeats 4000000 in
theorem cX_Law_becomePlain (l : Launch) (D : va_G) (T : cT) (ad : Nat → Nat) (sK sV : Nat → Nat) (xo : Sl) (g : St) (th : Nat) (hth : isLaw th) (o : St) (h : fX_Law_becomePlain th g = some o) (sz : Nat) : Met l yX2_becomePlain wX_Law_becomePlain (rmX_Law_becomePlain) (va_Pc [.ref (ad th)] (xPre shX D T ad sK sV xo g sz)) (va_Qv (eqV o xo) (wPost shX D T ad (aW shX T ad xo g sz)) (aW shX T ad xo g sz)) 0 0 (aW shX T ad xo g sz) := by
  refine g_startx (Qc := fun A => va_Qv (eqV o xo) (wPost shX D T ad A) A) (by decide +kernel) rfl rfl (Nat.le_of_ble_eq_true rfl) (lv := [(0, .ref (ad th))]) rfl (fun Γ Y => ?_)
  have C := Y.1
  show GcX_Law_becomePlain l D T ad Γ o xo xo g 0 [(0, .ref (ad th))] []
  refine g_aload_n C dX2_becomePlain_0 rfl 0 rfl ?_
  obtain ⟨g1, hr1, h⟩ := ltb h
  refine g_xVv (k := th) (As := []) (rest := []) (go := g1) (xo := xo) Y (fun sz => cX_Law_clear l D T ad sK sV xo g th hth _ hr1 sz) kX_RX2_35_Law_clear ⟨Nat.le_of_ble_eq_true rfl, Nat.le_of_ble_eq_true rfl⟩ ⟨rfl, rfl⟩ ⟨Nat.zero_le _, Nat.zero_le _⟩ (rfl : vwCl[2]? = some (RX2, TX2, 4)) (ob_Law hth) rfl rfl (Nat.le_of_ble_eq_true rfl) dX2_becomePlain_1 ?_
  refine g_aload_n C dX2_becomePlain_4 rfl 0 rfl ?_
  refine g_sipush C dX2_becomePlain_5 sp_1000 ?_
  obtain ⟨g8, hr8, h⟩ := bnd h
  refine g_xVv (k := th) (As := [.int (1000 : Int32)]) (rest := []) (go := g8) (xo := xo) Y (fun sz => cX_Law_add l D T ad sK sV xo g1 th (1000 : Int32) hth _ hr8 sz) kX_RX2_38_Law_add ⟨Nat.le_of_ble_eq_true rfl, Nat.le_of_ble_eq_true rfl⟩ ⟨rfl, rfl⟩ ⟨Nat.zero_le _, Nat.zero_le _⟩ (rfl : vwCl[2]? = some (RX2, TX2, 4)) (ob_Law hth) rfl rfl (Nat.le_of_ble_eq_true rfl) dX2_becomePlain_8 ?_
  refine g_aload_n C dX2_becomePlain_11 rfl 0 rfl ?_
  refine g_iconst C dX2_becomePlain_12 ic_3 ?_
  obtain ⟨g13, hr13, h⟩ := bnd h
  refine g_xVv (k := th) (As := [.int (3 : Int32)]) (rest := []) (go := g13) (xo := xo) Y (fun sz => cX_Law_add l D T ad sK sV xo g8 th (3 : Int32) hth _ hr13 sz) kX_RX2_38_Law_add ⟨Nat.le_of_ble_eq_true rfl, Nat.le_of_ble_eq_true rfl⟩ ⟨rfl, rfl⟩ ⟨Nat.zero_le _, Nat.zero_le _⟩ (rfl : vwCl[2]? = some (RX2, TX2, 4)) (ob_Law hth) rfl rfl (Nat.le_of_ble_eq_true rfl) dX2_becomePlain_13 ?_
  refine g_aload_n C dX2_becomePlain_16 rfl 0 rfl ?_
  refine g_sipush C dX2_becomePlain_17 sp_2042 ?_
  obtain ⟨g20, hr20, h⟩ := bnd h
  refine g_xVv (k := th) (As := [.int (2042 : Int32)]) (rest := []) (go := g20) (xo := xo) Y (fun sz => cX_Law_add l D T ad sK sV xo g13 th (2042 : Int32) hth _ hr20 sz) kX_RX2_38_Law_add ⟨Nat.le_of_ble_eq_true rfl, Nat.le_of_ble_eq_true rfl⟩ ⟨rfl, rfl⟩ ⟨Nat.zero_le _, Nat.zero_le _⟩ (rfl : vwCl[2]? = some (RX2, TX2, 4)) (ob_Law hth) rfl rfl (Nat.le_of_ble_eq_true rfl) dX2_becomePlain_20 ?_
  refine g_aload_n C dX2_becomePlain_23 rfl 0 rfl ?_
  refine g_sipush C dX2_becomePlain_24 sp_1003 ?_
  obtain ⟨g27, hr27, h⟩ := bnd h
  refine g_xVv (k := th) (As := [.int (1003 : Int32)]) (rest := []) (go := g27) (xo := xo) Y (fun sz => cX_Law_add l D T ad sK sV xo g20 th (1003 : Int32) hth _ hr27 sz) kX_RX2_38_Law_add ⟨Nat.le_of_ble_eq_true rfl, Nat.le_of_ble_eq_true rfl⟩ ⟨rfl, rfl⟩ ⟨Nat.zero_le _, Nat.zero_le _⟩ (rfl : vwCl[2]? = some (RX2, TX2, 4)) (ob_Law hth) rfl rfl (Nat.le_of_ble_eq_true rfl) dX2_becomePlain_27 ?_
  refine g_aload_n C dX2_becomePlain_30 rfl 0 rfl ?_
  refine g_bipush C dX2_becomePlain_31 bp_9 ?_
  obtain ⟨g33, hr33, h⟩ := bnd h
  refine g_xVv (k := th) (As := [.int (9 : Int32)]) (rest := []) (go := g33) (xo := xo) Y (fun sz => cX_Law_add l D T ad sK sV xo g27 th (9 : Int32) hth _ hr33 sz) kX_RX2_38_Law_add ⟨Nat.le_of_ble_eq_true rfl, Nat.le_of_ble_eq_true rfl⟩ ⟨rfl, rfl⟩ ⟨Nat.zero_le _, Nat.zero_le _⟩ (rfl : vwCl[2]? = some (RX2, TX2, 4)) (ob_Law hth) rfl rfl (Nat.le_of_ble_eq_true rfl) dX2_becomePlain_33 ?_
  refine g_aload_n C dX2_becomePlain_36 rfl 0 rfl ?_
  refine g_sipush C dX2_becomePlain_37 sp_2042 ?_
  obtain ⟨g40, hr40, h⟩ := bnd h
  refine g_xVv (k := th) (As := [.int (2042 : Int32)]) (rest := []) (go := g40) (xo := xo) Y (fun sz => cX_Law_add l D T ad sK sV xo g33 th (2042 : Int32) hth _ hr40 sz) kX_RX2_38_Law_add ⟨Nat.le_of_ble_eq_true rfl, Nat.le_of_ble_eq_true rfl⟩ ⟨rfl, rfl⟩ ⟨Nat.zero_le _, Nat.zero_le _⟩ (rfl : vwCl[2]? = some (RX2, TX2, 4)) (ob_Law hth) rfl rfl (Nat.le_of_ble_eq_true rfl) dX2_becomePlain_40 ?_
  refine g_aload_n C dX2_becomePlain_43 rfl 0 rfl ?_
  refine g_sipush C dX2_becomePlain_44 sp_2043 ?_
  obtain ⟨g47, hr47, h⟩ := bnd h
  refine g_xVv (k := th) (As := [.int (2043 : Int32)]) (rest := []) (go := g47) (xo := xo) Y (fun sz => cX_Law_add l D T ad sK sV xo g40 th (2043 : Int32) hth _ hr47 sz) kX_RX2_38_Law_add ⟨Nat.le_of_ble_eq_true rfl, Nat.le_of_ble_eq_true rfl⟩ ⟨rfl, rfl⟩ ⟨Nat.zero_le _, Nat.zero_le _⟩ (rfl : vwCl[2]? = some (RX2, TX2, 4)) (ob_Law hth) rfl rfl (Nat.le_of_ble_eq_true rfl) dX2_becomePlain_47 ?_
  refine g_aload_n C dX2_becomePlain_50 rfl 0 rfl ?_
  refine g_sipush C dX2_becomePlain_51 sp_1002 ?_
  obtain ⟨g54, hr54, h⟩ := bnd h
  refine g_xVv (k := th) (As := [.int (1002 : Int32)]) (rest := []) (go := g54) (xo := xo) Y (fun sz => cX_Law_add l D T ad sK sV xo g47 th (1002 : Int32) hth _ hr54 sz) kX_RX2_38_Law_add ⟨Nat.le_of_ble_eq_true rfl, Nat.le_of_ble_eq_true rfl⟩ ⟨rfl, rfl⟩ ⟨Nat.zero_le _, Nat.zero_le _⟩ (rfl : vwCl[2]? = some (RX2, TX2, 4)) (ob_Law hth) rfl rfl (Nat.le_of_ble_eq_true rfl) dX2_becomePlain_54 ?_
  refine g_aload_n C dX2_becomePlain_57 rfl 0 rfl ?_
  refine g_iconst C dX2_becomePlain_58 ic_5 ?_
  obtain ⟨g59, hr59, h⟩ := bnd h
  refine g_xVv (k := th) (As := [.int (5 : Int32)]) (rest := []) (go := g59) (xo := xo) Y (fun sz => cX_Law_add l D T ad sK sV xo g54 th (5 : Int32) hth _ hr59 sz) kX_RX2_38_Law_add ⟨Nat.le_of_ble_eq_true rfl, Nat.le_of_ble_eq_true rfl⟩ ⟨rfl, rfl⟩ ⟨Nat.zero_le _, Nat.zero_le _⟩ (rfl : vwCl[2]? = some (RX2, TX2, 4)) (ob_Law hth) rfl rfl (Nat.le_of_ble_eq_true rfl) dX2_becomePlain_59 ?_
  refine g_aload_n C dX2_becomePlain_62 rfl 0 rfl ?_
  refine g_sipush C dX2_becomePlain_63 sp_2042 ?_
  obtain ⟨g66, hr66, h⟩ := bnd h
  refine g_xVv (k := th) (As := [.int (2042 : Int32)]) (rest := []) (go := g66) (xo := xo) Y (fun sz => cX_Law_add l D T ad sK sV xo g59 th (2042 : Int32) hth _ hr66 sz) kX_RX2_38_Law_add ⟨Nat.le_of_ble_eq_true rfl, Nat.le_of_ble_eq_true rfl⟩ ⟨rfl, rfl⟩ ⟨Nat.zero_le _, Nat.zero_le _⟩ (rfl : vwCl[2]? = some (RX2, TX2, 4)) (ob_Law hth) rfl rfl (Nat.le_of_ble_eq_true rfl) dX2_becomePlain_66 ?_
  refine g_aload_n C dX2_becomePlain_69 rfl 0 rfl ?_
  refine g_sipush C dX2_becomePlain_70 sp_2045 ?_
  obtain ⟨g73, hr73, h⟩ := bnd h
  refine g_xVv (k := th) (As := [.int (2045 : Int32)]) (rest := []) (go := g73) (xo := xo) Y (fun sz => cX_Law_add l D T ad sK sV xo g66 th (2045 : Int32) hth _ hr73 sz) kX_RX2_38_Law_add ⟨Nat.le_of_ble_eq_true rfl, Nat.le_of_ble_eq_true rfl⟩ ⟨rfl, rfl⟩ ⟨Nat.zero_le _, Nat.zero_le _⟩ (rfl : vwCl[2]? = some (RX2, TX2, 4)) (ob_Law hth) rfl rfl (Nat.le_of_ble_eq_true rfl) dX2_becomePlain_73 ?_
  obtain rfl := Option.some.inj h
  exact g_vret C rfl rfl dX2_becomePlain_76
def fX_Law_joined (x0 : Int32) (x1 : Int32) (x2 : Int32) : Int32 :=
  if x0 = 37 then
    (if x2 = 0 then
    ((0 : Int32))
  else
    ((x1 - x1 / x2 * x2)))
  else
    (if x0 = 42 then
    ((x1 * x2))
  else
    (if x0 = 43 then
    ((x1 + x2))
  else
    (if x0 = 45 then
    ((x1 - x2))
  else
    (if x0 = 47 then
    (if x2 = 0 then
    ((0 : Int32))
  else
    ((x1 / x2)))
  else
    (if x0 = 76 then
    (if x2 ≤ x1 then
    (x2)
  else
    (x1))
  else
    (if x1 ≤ x2 then
    (x2)
  else
    (x1)))))))
def rmX_Law_joined : Room := { frames := 0, cells := 0, slots := 0, locals := 0 }
abbrev GcX_Law_joined (l : Launch) (D : va_G) (T : cT) (ad : Nat → Nat) (Γ : Cxt) (o : Int32) (xo : Sl) (g0 : St) (x : Sl) (g : St) (pc : Nat) (lv : List (Nat × Value)) (stk : List Value) : Prop := Gj l shX D T ad 3 (rmX_Law_joined) 0 0 Γ (MQ Γ.below (va_Qi (eqI o g0 xo) (wPost shX D T ad Γ.A) Γ.A) Γ.args Γ.s 0 0 Γ.A) x g pc lv stk
set_option maxRecDepth 100000 in
set_option maxHeartbeats 4000000 in
theorem cX_Law_joined (l : Launch) (D : va_G) (T : cT) (ad : Nat → Nat) (sK sV : Nat → Nat) (xo : Sl) (g : St) (x0 : Int32) (x1 : Int32) (x2 : Int32) (o : Int32) (h : fX_Law_joined x0 x1 x2 = o) (sz : Nat) : Met l yX2_joined wX_Law_joined (rmX_Law_joined) (va_Pc [.int x0, .int x1, .int x2] (xPre shX D T ad sK sV xo g sz)) (va_Qi (eqI o g xo) (wPost shX D T ad (aW shX T ad xo g sz)) (aW shX T ad xo g sz)) 0 0 (aW shX T ad xo g sz) := by
  refine g_startx (Qc := fun A => va_Qi (eqI o g xo) (wPost shX D T ad A) A) (by decide +kernel) rfl rfl (Nat.le_of_ble_eq_true rfl) (lv := [(0, .int x0), (1, .int x1), (2, .int x2)]) rfl (fun Γ Y => ?_)
  have C := Y.1
  show GcX_Law_joined l D T ad Γ o xo g xo g 0 [(0, .int x0), (1, .int x1), (2, .int x2)] []
  refine g_iload_n C dX2_joined_0 rfl 0 rfl ?_
  by_cases c1_37 : x0 = 37
  · have h := iteT c1_37 h
    refine g_lookup C 84 dX2_joined_1 (by decide) (by rw [c1_37]) (by decide) ?_
    refine g_iload_n C dX2_joined_84 rfl 2 rfl ?_
    refine g_if_ne C 92 dX2_joined_85 (by decide) (fun c85 => ?_) (fun c85 => ?_)
    · have h := iteT c85 h
      refine g_iconst C dX2_joined_88 ic_0 ?_
      refine g_goto (tgt := 95) C dX2_joined_89 (by decide) ?_
      subst h
      exact g_iret C rfl rfl rfl dX2_joined_95
    · have h := iteF c85 h
      refine g_iload_n C dX2_joined_92 rfl 1 rfl ?_
      refine g_iload_n C dX2_joined_93 rfl 2 rfl ?_
      refine g_irem C dX2_joined_94 c85 ?_
      subst h
      exact g_iret C rfl rfl rfl dX2_joined_95
  have h := iteF c1_37 h
  by_cases c1_42 : x0 = 42
  · have h := iteT c1_42 h
    refine g_lookup C 68 dX2_joined_1 (by decide) (by rw [c1_42]) (by decide) ?_
    refine g_iload_n C dX2_joined_68 rfl 1 rfl ?_
    refine g_iload_n C dX2_joined_69 rfl 2 rfl ?_
    refine g_imul C dX2_joined_70 ?_
    subst h
    exact g_iret C rfl rfl rfl dX2_joined_71
  have h := iteF c1_42 h
  by_cases c1_43 : x0 = 43
  · have h := iteT c1_43 h
    refine g_lookup C 60 dX2_joined_1 (by decide) (by rw [c1_43]) (by decide) ?_
    refine g_iload_n C dX2_joined_60 rfl 1 rfl ?_
    refine g_iload_n C dX2_joined_61 rfl 2 rfl ?_
    refine g_iadd C dX2_joined_62 ?_
    subst h
    exact g_iret C rfl rfl rfl dX2_joined_63
  have h := iteF c1_43 h
  by_cases c1_45 : x0 = 45
  · have h := iteT c1_45 h
    refine g_lookup C 64 dX2_joined_1 (by decide) (by rw [c1_45]) (by decide) ?_
    refine g_iload_n C dX2_joined_64 rfl 1 rfl ?_
    refine g_iload_n C dX2_joined_65 rfl 2 rfl ?_
    refine g_isub C dX2_joined_66 ?_
    subst h
    exact g_iret C rfl rfl rfl dX2_joined_67
  have h := iteF c1_45 h
  by_cases c1_47 : x0 = 47
  · have h := iteT c1_47 h
    refine g_lookup C 72 dX2_joined_1 (by decide) (by rw [c1_47]) (by decide) ?_
    refine g_iload_n C dX2_joined_72 rfl 2 rfl ?_
    refine g_if_ne C 80 dX2_joined_73 (by decide) (fun c73 => ?_) (fun c73 => ?_)
    · have h := iteT c73 h
      refine g_iconst C dX2_joined_76 ic_0 ?_
      refine g_goto (tgt := 83) C dX2_joined_77 (by decide) ?_
      subst h
      exact g_iret C rfl rfl rfl dX2_joined_83
    · have h := iteF c73 h
      refine g_iload_n C dX2_joined_80 rfl 1 rfl ?_
      refine g_iload_n C dX2_joined_81 rfl 2 rfl ?_
      refine g_idiv C dX2_joined_82 c73 ?_
      subst h
      exact g_iret C rfl rfl rfl dX2_joined_83
  have h := iteF c1_47 h
  by_cases c1_76 : x0 = 76
  · have h := iteT c1_76 h
    refine g_lookup C 96 dX2_joined_1 (by decide) (by rw [c1_76]) (by decide) ?_
    refine g_iload_n C dX2_joined_96 rfl 1 rfl ?_
    refine g_iload_n C dX2_joined_97 rfl 2 rfl ?_
    refine g_icmp_ge C 105 dX2_joined_98 (by decide) (fun c98 => ?_) (fun c98 => ?_)
    · have h := iteT c98 h
      refine g_iload_n C dX2_joined_105 rfl 2 rfl ?_
      subst h
      exact g_iret C rfl rfl rfl dX2_joined_106
    · have h := iteF c98 h
      refine g_iload_n C dX2_joined_101 rfl 1 rfl ?_
      refine g_goto (tgt := 106) C dX2_joined_102 (by decide) ?_
      subst h
      exact g_iret C rfl rfl rfl dX2_joined_106
  have h := iteF c1_76 h
  refine g_lookup C 107 dX2_joined_1 (by decide) (lk_Law_joined_1 _ c1_37 c1_42 c1_43 c1_45 c1_47 c1_76) (by decide) ?_
  refine g_iload_n C dX2_joined_107 rfl 1 rfl ?_
  refine g_iload_n C dX2_joined_108 rfl 2 rfl ?_
  refine g_icmp_le C 116 dX2_joined_109 (by decide) (fun c109 => ?_) (fun c109 => ?_)
  · have h := iteT c109 h
    refine g_iload_n C dX2_joined_116 rfl 2 rfl ?_
    subst h
    exact g_iret C rfl rfl rfl dX2_joined_117
  · have h := iteF c109 h
    refine g_iload_n C dX2_joined_112 rfl 1 rfl ?_
    refine g_goto (tgt := 117) C dX2_joined_113 (by decide) ?_
    subst h
    exact g_iret C rfl rfl rfl dX2_joined_117
def fX_Law_answer_b108 (th : Nat) (x1 : Int32) (x2 : Int32) (g : St) : Option ((Int32 × Int32 × St) ⊕ (St)) :=
  some (.inl (x1, (x2 + (1 : Int32)), g))
def fX_Law_answer_b56 (th : Nat) (x1 : Int32) (x2 : Int32) (s1 : Int32) (s2 : Int32) (g : St) : Option ((Int32 × Int32 × St) ⊕ (St)) :=
  (fX_Rows_put (rX th 1) s1 s2 g).bind fun g56 => (fX_Law_answer_b108 th (x1 + (1 : Int32)) x2 g56)
def fX_Law_answer_L4 (th : Nat) : (Int32 × Int32 × St) → Option ((Int32 × Int32 × St) ⊕ (St)) := fun ⟨x1, x2, g⟩ =>
  if (g th 3) ≤ x2 then
    (some (.inr g))
  else
    ((fX_Rows_at (rX th 0) x2 g).bind fun r17 => (if (2000 : Int32) ≤ r17 then
    ((fX_Rows_at (rX th 1) ((x1 + (-1 : Int32)) - (1 : Int32)) g).bind fun r75 => ((fX_Rows_at (rX th 1) (x1 + (-1 : Int32)) g).bind fun r99 => ((fX_Rows_put (rX th 1) ((x1 + (-1 : Int32)) - (1 : Int32)) (fX_Law_joined (r17 - (2000 : Int32)) r75 r99) g).bind fun g105 => (fX_Law_answer_b108 th (x1 + (-1 : Int32)) x2 g105))))
  else
    (if (1000 : Int32) ≤ r17 then
    ((fX_Rows_at (rX th 2) (r17 - (1000 : Int32)) g).bind fun r53 => (fX_Law_answer_b56 th x1 x2 x1 r53 g))
  else
    (fX_Law_answer_b56 th x1 x2 x1 r17 g))))
def fX_Law_answer_b4 (th : Nat) (x1 : Int32) (x2 : Int32) (g : St) : Option (Int32 × St) :=
  (lp (fX_Law_answer_L4 th) fuel (x1, x2, g)).bind (fun g => (fX_Rows_at (rX th 1) (0 : Int32) g).bind fun r119 => (if 0 ≤ r119 then
    (if r119 ≤ (99 : Int32) then
    (some (r119, g))
  else
    (some ((99 : Int32), g)))
  else
    (some ((0 : Int32), g))))
def fX_Law_answer (th : Nat) (g : St) : Option (Int32 × St) :=
  fX_Law_answer_b4 th (0 : Int32) (0 : Int32) g
def rmX_Law_answer : Room := { frames := 1, cells := 0, slots := 0, locals := 22 }
abbrev GcX_Law_answer (l : Launch) (D : va_G) (T : cT) (ad : Nat → Nat) (Γ : Cxt) (o : Int32 × St) (xo : Sl) (x : Sl) (g : St) (pc : Nat) (lv : List (Nat × Value)) (stk : List Value) : Prop := Gj l shX D T ad 5 (rmX_Law_answer) 0 0 Γ (MQ Γ.below (va_Qi (eqI o.1 o.2 xo) (wPost shX D T ad Γ.A) Γ.A) Γ.args Γ.s 0 0 Γ.A) x g pc lv stk
set_option maxRecDepth 100000 in
set_option maxHeartbeats 4000000 in
theorem cX_Law_answer (l : Launch) (D : va_G) (T : cT) (ad : Nat → Nat) (sK sV : Nat → Nat) (xo : Sl) (g : St) (th : Nat) (hth : isLaw th) (o : Int32 × St) (h : fX_Law_answer th g = some o) (sz : Nat) : Met l yX2_answer wX_Law_answer (rmX_Law_answer) (va_Pc [.ref (ad th)] (xPre shX D T ad sK sV xo g sz)) (va_Qi (eqI o.1 o.2 xo) (wPost shX D T ad (aW shX T ad xo g sz)) (aW shX T ad xo g sz)) 0 0 (aW shX T ad xo g sz) := by
  refine g_startx (Qc := fun A => va_Qi (eqI o.1 o.2 xo) (wPost shX D T ad A) A) (by decide +kernel) rfl rfl (Nat.le_of_ble_eq_true rfl) (lv := [(0, .ref (ad th))]) rfl (fun Γ Y => ?_)
  have C := Y.1
  show GcX_Law_answer l D T ad Γ o xo xo g 0 [(0, .ref (ad th))] []
  have J4 : ∀ (x1 : Int32) (x2 : Int32) (g : St), fX_Law_answer_b4 th x1 x2 g = some o → GcX_Law_answer l D T ad Γ o xo xo g 4 [(0, .ref (ad th)), (1, .int x1), (2, .int x2)] [] := by
    intro x1 x2 g h
    obtain ⟨g, ht, h⟩ := bnd h
    refine lp_run (P := fun t : Int32 × Int32 × St => match t with | (x1, x2, g) => GcX_Law_answer l D T ad Γ o xo xo g 4 [(0, .ref (ad th)), (1, .int x1), (2, .int x2)] []) (E := fun g : St => GcX_Law_answer l D T ad Γ o xo xo g 114 [(0, .ref (ad th))] []) ?_ _ _ _ ht ?_
    · rintro ⟨x1, x2, g⟩ z h Kt Ke
      show GcX_Law_answer l D T ad Γ o xo xo g 4 [(0, .ref (ad th)), (1, .int x1), (2, .int x2)] []
      have J108 : ∀ (x1 : Int32) (x2 : Int32) (g : St), fX_Law_answer_b108 th x1 x2 g = some z → GcX_Law_answer l D T ad Γ o xo xo g 108 [(0, .ref (ad th)), (1, .int x1), (2, .int x2)] [] := by
        intro x1 x2 g h
        refine g_iinc (lv' := [(2, .int (x2 + (1 : Int32))), (0, .ref (ad th)), (1, .int x1)]) C dX2_answer_108 2 rfl (ii_1 _) (Nat.le_of_ble_eq_true rfl) rfl ?_
        refine g_goto (tgt := 4) C dX2_answer_111 (by decide) ?_
        exact g_sub [1, 2, 0] rfl (Kt _ (Option.some.inj h).symm)
      have J56 : ∀ (x1 : Int32) (x2 : Int32) (s1 : Int32) (s2 : Int32) (g : St), fX_Law_answer_b56 th x1 x2 s1 s2 g = some z → GcX_Law_answer l D T ad Γ o xo xo g 56 [(0, .ref (ad th)), (1, .int x1), (2, .int x2)] [.int s2, .int s1, .ref (ad (rX th 1))] := by
        intro x1 x2 s1 s2 g h
        obtain ⟨g56, hr56, h⟩ := bnd h
        refine g_xSv (As := [.ref (ad (rX th 1)), .int s1, .int s2]) (rest := []) (go := g56) (xo := xo) Y (fun sz => cX_Rows_put l D T ad sK sV xo g (rX th 1) s1 s2 _ hr56 sz) kX_RX2_25_Rows_put ⟨Nat.le_of_ble_eq_true rfl, Nat.le_of_ble_eq_true rfl⟩ ⟨rfl, rfl⟩ ⟨Nat.zero_le _, Nat.zero_le _⟩ rfl rfl (Nat.le_of_ble_eq_true rfl) dX2_answer_56 ?_
        refine g_iinc (lv' := [(1, .int (x1 + (1 : Int32))), (0, .ref (ad th)), (2, .int x2)]) C dX2_answer_59 1 rfl (ii_1 _) (Nat.le_of_ble_eq_true rfl) rfl ?_
        refine g_goto (tgt := 108) C dX2_answer_62 (by decide) ?_
        exact g_sub [1, 0, 2] rfl (J108 (x1 + (1 : Int32)) x2 g56 h)
      refine g_iload_n C dX2_answer_4 rfl 2 rfl ?_
      refine g_aload_n C dX2_answer_5 rfl 0 rfl ?_
      refine gX_get_X2_21 (v := g th 3) C (ob_Law hth) (rf_Law_3 hth) rfl dX2_answer_6 ?_
      refine g_icmp_ge C 114 dX2_answer_9 (by decide) (fun c9 => ?_) (fun c9 => ?_)
      · have h := iteT c9 h
        exact g_sub [0] rfl (Ke _ (Option.some.inj h).symm)
      · have h := iteF c9 h
        refine g_aload_n C dX2_answer_12 rfl 0 rfl ?_
        refine gX_get_X2_9 C (ob_Law hth) (rf_Law_0 hth) dX2_answer_13 ?_
        refine g_iload_n C dX2_answer_16 rfl 2 rfl ?_
        obtain ⟨r17, hr17, h⟩ := bnd h
        refine g_xSi (As := [.ref (ad (rX th 0)), .int x2]) (rest := []) (ro := r17) (go := g) (xo := xo) Y (fun sz => cX_Rows_at l D T ad sK sV xo g (rX th 0) x2 _ hr17 sz) kX_RX2_42_Rows_at ⟨Nat.le_of_ble_eq_true rfl, Nat.le_of_ble_eq_true rfl⟩ ⟨rfl, rfl⟩ ⟨Nat.zero_le _, Nat.zero_le _⟩ rfl rfl (Nat.le_of_ble_eq_true rfl) dX2_answer_17 ?_
        refine g_istore_n (lv' := [(3, .int r17), (0, .ref (ad th)), (1, .int x1), (2, .int x2)]) C dX2_answer_20 rfl (Nat.le_of_ble_eq_true rfl) rfl ?_
        refine g_iload_n C dX2_answer_21 rfl 0 rfl ?_
        refine g_sipush C dX2_answer_22 sp_2000 ?_
        refine g_icmp_ge C 65 dX2_answer_25 (by decide) (fun c25 => ?_) (fun c25 => ?_)
        · have h := iteT c25 h
          refine g_iinc (lv' := [(1, .int (x1 + (-1 : Int32))), (3, .int r17), (0, .ref (ad th)), (2, .int x2)]) C dX2_answer_65 2 rfl (ii_m1 _) (Nat.le_of_ble_eq_true rfl) rfl ?_
          refine g_aload_n C dX2_answer_68 rfl 2 rfl ?_
          refine gX_get_X2_15 C (ob_Law hth) (rf_Law_1 hth) dX2_answer_69 ?_
          refine g_iload_n C dX2_answer_72 rfl 0 rfl ?_
          refine g_iconst C dX2_answer_73 ic_1 ?_
          refine g_isub C dX2_answer_74 ?_
          obtain ⟨r75, hr75, h⟩ := bnd h
          refine g_xSi (As := [.ref (ad (rX th 1)), .int ((x1 + (-1 : Int32)) - (1 : Int32))]) (rest := []) (ro := r75) (go := g) (xo := xo) Y (fun sz => cX_Rows_at l D T ad sK sV xo g (rX th 1) ((x1 + (-1 : Int32)) - (1 : Int32)) _ hr75 sz) kX_RX2_42_Rows_at ⟨Nat.le_of_ble_eq_true rfl, Nat.le_of_ble_eq_true rfl⟩ ⟨rfl, rfl⟩ ⟨Nat.zero_le _, Nat.zero_le _⟩ rfl rfl (Nat.le_of_ble_eq_true rfl) dX2_answer_75 ?_
          refine g_istore (lv' := [(4, .int r75), (1, .int (x1 + (-1 : Int32))), (3, .int r17), (0, .ref (ad th)), (2, .int x2)]) C dX2_answer_78 (Nat.le_of_ble_eq_true rfl) rfl ?_
          refine g_aload_n C dX2_answer_80 rfl 3 rfl ?_
          refine gX_get_X2_15 C (ob_Law hth) (rf_Law_1 hth) dX2_answer_81 ?_
          refine g_iload_n C dX2_answer_84 rfl 1 rfl ?_
          refine g_iconst C dX2_answer_85 ic_1 ?_
          refine g_isub C dX2_answer_86 ?_
          refine g_iload_n C dX2_answer_87 rfl 2 rfl ?_
          refine g_sipush C dX2_answer_88 sp_2000 ?_
          refine g_isub C dX2_answer_91 ?_
          refine g_iload C dX2_answer_92 0 rfl ?_
          refine g_aload_n C dX2_answer_94 rfl 3 rfl ?_
          refine gX_get_X2_15 C (ob_Law hth) (rf_Law_1 hth) dX2_answer_95 ?_
          refine g_iload_n C dX2_answer_98 rfl 1 rfl ?_
          obtain ⟨r99, hr99, h⟩ := bnd h
          refine g_xSi (As := [.ref (ad (rX th 1)), .int (x1 + (-1 : Int32))]) (rest := [.int r75, .int (r17 - (2000 : Int32)), .int ((x1 + (-1 : Int32)) - (1 : Int32)), .ref (ad (rX th 1))]) (ro := r99) (go := g) (xo := xo) Y (fun sz => cX_Rows_at l D T ad sK sV xo g (rX th 1) (x1 + (-1 : Int32)) _ hr99 sz) kX_RX2_42_Rows_at ⟨Nat.le_of_ble_eq_true rfl, Nat.le_of_ble_eq_true rfl⟩ ⟨rfl, rfl⟩ ⟨Nat.zero_le _, Nat.zero_le _⟩ rfl rfl (Nat.le_of_ble_eq_true rfl) dX2_answer_99 ?_
          refine g_xSi (As := [.int (r17 - (2000 : Int32)), .int r75, .int r99]) (rest := [.int ((x1 + (-1 : Int32)) - (1 : Int32)), .ref (ad (rX th 1))]) (ro := (fX_Law_joined (r17 - (2000 : Int32)) r75 r99)) (go := g) (xo := xo) Y (fun sz => cX_Law_joined l D T ad sK sV xo g (r17 - (2000 : Int32)) r75 r99 _ rfl sz) kX_RX2_46_Law_joined ⟨Nat.le_of_ble_eq_true rfl, Nat.le_of_ble_eq_true rfl⟩ ⟨rfl, rfl⟩ ⟨Nat.zero_le _, Nat.zero_le _⟩ rfl rfl (Nat.le_of_ble_eq_true rfl) dX2_answer_102 ?_
          obtain ⟨g105, hr105, h⟩ := bnd h
          refine g_xSv (As := [.ref (ad (rX th 1)), .int ((x1 + (-1 : Int32)) - (1 : Int32)), .int (fX_Law_joined (r17 - (2000 : Int32)) r75 r99)]) (rest := []) (go := g105) (xo := xo) Y (fun sz => cX_Rows_put l D T ad sK sV xo g (rX th 1) ((x1 + (-1 : Int32)) - (1 : Int32)) (fX_Law_joined (r17 - (2000 : Int32)) r75 r99) _ hr105 sz) kX_RX2_25_Rows_put ⟨Nat.le_of_ble_eq_true rfl, Nat.le_of_ble_eq_true rfl⟩ ⟨rfl, rfl⟩ ⟨Nat.zero_le _, Nat.zero_le _⟩ rfl rfl (Nat.le_of_ble_eq_true rfl) dX2_answer_105 ?_
          exact g_sub [3, 1, 4] rfl (J108 (x1 + (-1 : Int32)) x2 g105 h)
        · have h := iteF c25 h
          refine g_aload_n C dX2_answer_28 rfl 1 rfl ?_
          refine gX_get_X2_15 C (ob_Law hth) (rf_Law_1 hth) dX2_answer_29 ?_
          refine g_iload_n C dX2_answer_32 rfl 2 rfl ?_
          refine g_iload_n C dX2_answer_33 rfl 0 rfl ?_
          refine g_sipush C dX2_answer_34 sp_1000 ?_
          refine g_icmp_ge C 44 dX2_answer_37 (by decide) (fun c37 => ?_) (fun c37 => ?_)
          · have h := iteT c37 h
            refine g_aload_n C dX2_answer_44 rfl 1 rfl ?_
            refine gX_get_X2_18 C (ob_Law hth) (rf_Law_2 hth) dX2_answer_45 ?_
            refine g_iload_n C dX2_answer_48 rfl 0 rfl ?_
            refine g_sipush C dX2_answer_49 sp_1000 ?_
            refine g_isub C dX2_answer_52 ?_
            obtain ⟨r53, hr53, h⟩ := bnd h
            refine g_xSi (As := [.ref (ad (rX th 2)), .int (r17 - (1000 : Int32))]) (rest := [.int x1, .ref (ad (rX th 1))]) (ro := r53) (go := g) (xo := xo) Y (fun sz => cX_Rows_at l D T ad sK sV xo g (rX th 2) (r17 - (1000 : Int32)) _ hr53 sz) kX_RX2_42_Rows_at ⟨Nat.le_of_ble_eq_true rfl, Nat.le_of_ble_eq_true rfl⟩ ⟨rfl, rfl⟩ ⟨Nat.zero_le _, Nat.zero_le _⟩ rfl rfl (Nat.le_of_ble_eq_true rfl) dX2_answer_53 ?_
            exact g_sub [1, 2, 3] rfl (J56 x1 x2 x1 r53 g h)
          · have h := iteF c37 h
            refine g_iload_n C dX2_answer_40 rfl 0 rfl ?_
            refine g_goto (tgt := 56) C dX2_answer_41 (by decide) ?_
            exact g_sub [1, 2, 3] rfl (J56 x1 x2 x1 r17 g h)
    · show GcX_Law_answer l D T ad Γ o xo xo g 114 [(0, .ref (ad th))] []
      refine g_aload_n C dX2_answer_114 rfl 0 rfl ?_
      refine gX_get_X2_15 C (ob_Law hth) (rf_Law_1 hth) dX2_answer_115 ?_
      refine g_iconst C dX2_answer_118 ic_0 ?_
      obtain ⟨r119, hr119, h⟩ := bnd h
      refine g_xSi (As := [.ref (ad (rX th 1)), .int (0 : Int32)]) (rest := []) (ro := r119) (go := g) (xo := xo) Y (fun sz => cX_Rows_at l D T ad sK sV xo g (rX th 1) (0 : Int32) _ hr119 sz) kX_RX2_42_Rows_at ⟨Nat.le_of_ble_eq_true rfl, Nat.le_of_ble_eq_true rfl⟩ ⟨rfl, rfl⟩ ⟨Nat.zero_le _, Nat.zero_le _⟩ rfl rfl (Nat.le_of_ble_eq_true rfl) dX2_answer_119 ?_
      refine g_istore_n (lv' := [(2, .int r119), (0, .ref (ad th))]) C dX2_answer_122 rfl (Nat.le_of_ble_eq_true rfl) rfl ?_
      refine g_iload_n C dX2_answer_123 rfl 0 rfl ?_
      refine g_if_ge C 131 dX2_answer_124 (by decide) (fun c124 => ?_) (fun c124 => ?_)
      · have h := iteT c124 h
        refine g_iload_n C dX2_answer_131 rfl 0 rfl ?_
        refine g_bipush C dX2_answer_132 bp_99 ?_
        refine g_icmp_le C 142 dX2_answer_134 (by decide) (fun c134 => ?_) (fun c134 => ?_)
        · have h := iteT c134 h
          refine g_iload_n C dX2_answer_142 rfl 0 rfl ?_
          obtain rfl := Option.some.inj h
          exact g_iret C rfl rfl rfl dX2_answer_143
        · have h := iteF c134 h
          refine g_bipush C dX2_answer_137 bp_99 ?_
          refine g_goto (tgt := 143) C dX2_answer_139 (by decide) ?_
          obtain rfl := Option.some.inj h
          exact g_iret C rfl rfl rfl dX2_answer_143
      · have h := iteF c124 h
        refine g_iconst C dX2_answer_127 ic_0 ?_
        refine g_goto (tgt := 143) C dX2_answer_128 (by decide) ?_
        obtain rfl := Option.some.inj h
        exact g_iret C rfl rfl rfl dX2_answer_143
  refine g_iconst C dX2_answer_0 ic_0 ?_
  refine g_istore_n (lv' := [(1, .int (0 : Int32)), (0, .ref (ad th))]) C dX2_answer_1 rfl (Nat.le_of_ble_eq_true rfl) rfl ?_
  refine g_iconst C dX2_answer_2 ic_0 ?_
  refine g_istore_n (lv' := [(2, .int (0 : Int32)), (1, .int (0 : Int32)), (0, .ref (ad th))]) C dX2_answer_3 rfl (Nat.le_of_ble_eq_true rfl) rfl ?_
  exact g_sub [2, 1, 0] rfl (J4 (0 : Int32) (0 : Int32) g h)
def fX_LawReader_hold (x1 : Int32) (g : St) : Option (St) :=
  if (150 : Int32) ≤ (g 6 1) then
    (some g)
  else
    ((fX_Rows_put 29 (g 6 1) x1 g).bind fun g19 => (some (st g19 6 1 ((g19 6 1) + (1 : Int32)))))
def rmX_LawReader_hold : Room := { frames := 1, cells := 0, slots := 0, locals := 22 }
abbrev GcX_LawReader_hold (l : Launch) (D : va_G) (T : cT) (ad : Nat → Nat) (Γ : Cxt) (o : St) (xo : Sl) (x : Sl) (g : St) (pc : Nat) (lv : List (Nat × Value)) (stk : List Value) : Prop := Gj l shX D T ad 2 (rmX_LawReader_hold) 0 0 Γ (MQ Γ.below (va_Qv (eqV o xo) (wPost shX D T ad Γ.A) Γ.A) Γ.args Γ.s 0 0 Γ.A) x g pc lv stk
set_option maxRecDepth 100000 in
set_option maxHeartbeats 4000000 in
theorem cX_LawReader_hold (l : Launch) (D : va_G) (T : cT) (ad : Nat → Nat) (sK sV : Nat → Nat) (xo : Sl) (g : St) (x1 : Int32) (o : St) (h : fX_LawReader_hold x1 g = some o) (sz : Nat) : Met l yX3_hold wX_LawReader_hold (rmX_LawReader_hold) (va_Pc [.ref (ad 6), .int x1] (xPre shX D T ad sK sV xo g sz)) (va_Qv (eqV o xo) (wPost shX D T ad (aW shX T ad xo g sz)) (aW shX T ad xo g sz)) 0 0 (aW shX T ad xo g sz) := by
  refine g_startx (Qc := fun A => va_Qv (eqV o xo) (wPost shX D T ad A) A) (by decide +kernel) rfl rfl (Nat.le_of_ble_eq_true rfl) (lv := [(0, .ref (ad 6)), (1, .int x1)]) rfl (fun Γ Y => ?_)
  have C := Y.1
  show GcX_LawReader_hold l D T ad Γ o xo xo g 0 [(0, .ref (ad 6)), (1, .int x1)] []
  refine g_aload_n C dX3_hold_0 rfl 0 rfl ?_
  refine gX_get_X3_15 (v := g 6 1) C ob_6 rfl rfl dX3_hold_1 ?_
  refine g_sipush C dX3_hold_4 sp_150 ?_
  refine g_icmp_ge C 32 dX3_hold_7 (by decide) (fun c7 => ?_) (fun c7 => ?_)
  · have h := iteT c7 h
    obtain rfl := Option.some.inj h
    exact g_vret C rfl rfl dX3_hold_32
  · have h := iteF c7 h
    refine g_aload_n C dX3_hold_10 rfl 0 rfl ?_
    refine gX_get_X3_9 C ob_6 rfl dX3_hold_11 ?_
    refine g_aload_n C dX3_hold_14 rfl 0 rfl ?_
    refine gX_get_X3_15 (v := g 6 1) C ob_6 rfl rfl dX3_hold_15 ?_
    refine g_iload_n C dX3_hold_18 rfl 1 rfl ?_
    obtain ⟨g19, hr19, h⟩ := bnd h
    refine g_xSv (As := [.ref (ad 29), .int (g 6 1), .int x1]) (rest := []) (go := g19) (xo := xo) Y (fun sz => cX_Rows_put l D T ad sK sV xo g 29 (g 6 1) x1 _ hr19 sz) kX_RX3_99_Rows_put ⟨Nat.le_of_ble_eq_true rfl, Nat.le_of_ble_eq_true rfl⟩ ⟨rfl, rfl⟩ ⟨Nat.zero_le _, Nat.zero_le _⟩ rfl rfl (Nat.le_of_ble_eq_true rfl) dX3_hold_19 ?_
    refine g_aload_n C dX3_hold_22 rfl 0 rfl ?_
    refine g_dup C dX3_hold_23 rfl ?_
    refine gX_get_X3_15 (v := g19 6 1) C ob_6 rfl rfl dX3_hold_24 ?_
    refine g_iconst C dX3_hold_27 ic_1 ?_
    refine g_iadd C dX3_hold_28 ?_
    refine gX_put_X3_15 C ob_6 rfl dX3_hold_29 ?_
    obtain rfl := Option.some.inj h
    exact g_vret C rfl rfl dX3_hold_32
def fX_LawReader_push_b15 (x2 : Int32) (g : St) : Option (St) :=
  (fX_LawReader_hold x2 (st g 6 2 ((g 6 2) + (1 : Int32)))).bind fun g27 => (some g27)
def fX_LawReader_push (x2 : Int32) (x3 : Int32) (g : St) : Option (St) :=
  if (g 6 2) < (6 : Int32) then
    (fX_LawReader_push_b15 x2 g)
  else
    (lt1 (fX_Text_blame (3 : Int32) x3 g) fun g12 => (fX_LawReader_push_b15 x2 g12))
def rmX_LawReader_push : Room := { frames := 2, cells := 0, slots := 0, locals := 43 }
abbrev GcX_LawReader_push (l : Launch) (D : va_G) (T : cT) (ad : Nat → Nat) (Γ : Cxt) (o : St) (xo : Sl) (x : Sl) (g : St) (pc : Nat) (lv : List (Nat × Value)) (stk : List Value) : Prop := Gj l shX D T ad 4 (rmX_LawReader_push) 0 0 Γ (MQ Γ.below (va_Qv (eqV o xo) (wPost shX D T ad Γ.A) Γ.A) Γ.args Γ.s 0 0 Γ.A) x g pc lv stk
set_option maxRecDepth 100000 in
set_option maxHeartbeats 4000000 in
theorem cX_LawReader_push (l : Launch) (D : va_G) (T : cT) (ad : Nat → Nat) (sK sV : Nat → Nat) (xo : Sl) (g : St) (x2 : Int32) (x3 : Int32) (o : St) (h : fX_LawReader_push x2 x3 g = some o) (sz : Nat) : Met l yX3_push wX_LawReader_push (rmX_LawReader_push) (va_Pc [.ref (ad 6), .ref (ad 1), .int x2, .int x3] (xPre shX D T ad sK sV xo g sz)) (va_Qv (eqV o xo) (wPost shX D T ad (aW shX T ad xo g sz)) (aW shX T ad xo g sz)) 0 0 (aW shX T ad xo g sz) := by
  refine g_startx (Qc := fun A => va_Qv (eqV o xo) (wPost shX D T ad A) A) (by decide +kernel) rfl rfl (Nat.le_of_ble_eq_true rfl) (lv := [(0, .ref (ad 6)), (1, .ref (ad 1)), (2, .int x2), (3, .int x3)]) rfl (fun Γ Y => ?_)
  have C := Y.1
  show GcX_LawReader_push l D T ad Γ o xo xo g 0 [(0, .ref (ad 6)), (1, .ref (ad 1)), (2, .int x2), (3, .int x3)] []
  have J15 : ∀ (x2 : Int32) (g : St), fX_LawReader_push_b15 x2 g = some o → GcX_LawReader_push l D T ad Γ o xo xo g 15 [(0, .ref (ad 6)), (2, .int x2)] [] := by
    intro x2 g h
    refine g_aload_n C dX3_push_15 rfl 0 rfl ?_
    refine g_dup C dX3_push_16 rfl ?_
    refine gX_get_X3_19 (v := g 6 2) C ob_6 rfl rfl dX3_push_17 ?_
    refine g_iconst C dX3_push_20 ic_1 ?_
    refine g_iadd C dX3_push_21 ?_
    refine gX_put_X3_19 C ob_6 rfl dX3_push_22 ?_
    refine g_aload_n C dX3_push_25 rfl 0 rfl ?_
    refine g_iload_n C dX3_push_26 rfl 1 rfl ?_
    obtain ⟨g27, hr27, h⟩ := bnd h
    refine g_xVv (k := 6) (As := [.int x2]) (rest := []) (go := g27) (xo := xo) Y (fun sz => cX_LawReader_hold l D T ad sK sV xo (st g 6 2 ((g 6 2) + (1 : Int32))) x2 _ hr27 sz) kX_RX3_96_LawReader_hold ⟨Nat.le_of_ble_eq_true rfl, Nat.le_of_ble_eq_true rfl⟩ ⟨rfl, rfl⟩ ⟨Nat.zero_le _, Nat.zero_le _⟩ (rfl : vwCl[3]? = some (RX3, TX3, 3)) ob_6 rfl rfl (Nat.le_of_ble_eq_true rfl) dX3_push_27 ?_
    obtain rfl := Option.some.inj h
    exact g_vret C rfl rfl dX3_push_30
  refine g_aload_n C dX3_push_0 rfl 0 rfl ?_
  refine gX_get_X3_19 (v := g 6 2) C ob_6 rfl rfl dX3_push_1 ?_
  refine g_bipush C dX3_push_4 bp_6 ?_
  refine g_icmp_lt C 15 dX3_push_6 (by decide) (fun c6 => ?_) (fun c6 => ?_)
  · have h := iteT c6 h
    exact g_sub [0, 2] rfl (J15 x2 g h)
  · have h := iteF c6 h
    refine g_aload_n C dX3_push_9 rfl 1 rfl ?_
    refine g_iconst C dX3_push_10 ic_3 ?_
    refine g_iload_n C dX3_push_11 rfl 3 rfl ?_
    obtain ⟨g12, hr12, h⟩ := ltb h
    refine g_xVv (k := 1) (As := [.int (3 : Int32), .int x3]) (rest := []) (go := g12) (xo := xo) Y (fun sz => cX_Text_blame l D T ad sK sV xo g (3 : Int32) x3 _ hr12 sz) kX_RX3_43_Text_blame ⟨Nat.le_of_ble_eq_true rfl, Nat.le_of_ble_eq_true rfl⟩ ⟨rfl, rfl⟩ ⟨Nat.zero_le _, Nat.zero_le _⟩ (rfl : vwCl[8]? = some (RX9, TX9, 8)) ob_1 rfl rfl (Nat.le_of_ble_eq_true rfl) dX3_push_12 ?_
    exact g_sub [0, 2] rfl (J15 x2 g12 h)
def fX_Text_pass (g : St) : St :=
  (st g 1 3 ((g 1 3) + (1 : Int32)))
def rmX_Text_pass : Room := { frames := 0, cells := 0, slots := 0, locals := 0 }
abbrev GcX_Text_pass (l : Launch) (D : va_G) (T : cT) (ad : Nat → Nat) (Γ : Cxt) (o : St) (xo : Sl) (x : Sl) (g : St) (pc : Nat) (lv : List (Nat × Value)) (stk : List Value) : Prop := Gj l shX D T ad 1 (rmX_Text_pass) 0 0 Γ (MQ Γ.below (va_Qv (eqV o xo) (wPost shX D T ad Γ.A) Γ.A) Γ.args Γ.s 0 0 Γ.A) x g pc lv stk
set_option maxRecDepth 100000 in
set_option maxHeartbeats 4000000 in
theorem cX_Text_pass (l : Launch) (D : va_G) (T : cT) (ad : Nat → Nat) (sK sV : Nat → Nat) (xo : Sl) (g : St) (o : St) (h : fX_Text_pass g = o) (sz : Nat) : Met l yX9_pass wX_Text_pass (rmX_Text_pass) (va_Pc [.ref (ad 1)] (xPre shX D T ad sK sV xo g sz)) (va_Qv (eqV o xo) (wPost shX D T ad (aW shX T ad xo g sz)) (aW shX T ad xo g sz)) 0 0 (aW shX T ad xo g sz) := by
  refine g_startx (Qc := fun A => va_Qv (eqV o xo) (wPost shX D T ad A) A) (by decide +kernel) rfl rfl (Nat.le_of_ble_eq_true rfl) (lv := [(0, .ref (ad 1))]) rfl (fun Γ Y => ?_)
  have C := Y.1
  show GcX_Text_pass l D T ad Γ o xo xo g 0 [(0, .ref (ad 1))] []
  refine g_aload_n C dX9_pass_0 rfl 0 rfl ?_
  refine g_dup C dX9_pass_1 rfl ?_
  refine gX_get_X9_31 (v := g 1 3) C ob_1 rfl rfl dX9_pass_2 ?_
  refine g_iconst C dX9_pass_5 ic_1 ?_
  refine g_iadd C dX9_pass_6 ?_
  refine gX_put_X9_31 C ob_1 rfl dX9_pass_7 ?_
  subst h
  exact g_vret C rfl rfl dX9_pass_10
def fX_LawReader_factOf (g : St) : Option (Int32) :=
  (fX_Text_isWord 5 g).bind fun r3 => (if r3 = 0 then
    ((fX_Text_isWord 6 g).bind fun r16 => (if r16 = 0 then
    ((fX_Text_isWord 7 g).bind fun r29 => (if r29 = 0 then
    ((fX_Text_isWord 8 g).bind fun r42 => (if r42 = 0 then
    ((fX_Text_isWord 9 g).bind fun r55 => (if r55 = 0 then
    ((fX_Text_isWord 10 g).bind fun r68 => (if r68 = 0 then
    ((fX_Text_isWord 11 g).bind fun r81 => (if r81 = 0 then
    ((fX_Text_isWord 12 g).bind fun r95 => (if r95 = 0 then
    (some (-1 : Int32))
  else
    (some (7 : Int32))))
  else
    (some (6 : Int32))))
  else
    (some (5 : Int32))))
  else
    (some (4 : Int32))))
  else
    (some (3 : Int32))))
  else
    (some (2 : Int32))))
  else
    (some (1 : Int32))))
  else
    (some (0 : Int32)))
def rmX_LawReader_factOf : Room := { frames := 8, cells := 0, slots := 0, locals := 183 }
abbrev GcX_LawReader_factOf (l : Launch) (D : va_G) (T : cT) (ad : Nat → Nat) (Γ : Cxt) (o : Int32) (xo : Sl) (g0 : St) (x : Sl) (g : St) (pc : Nat) (lv : List (Nat × Value)) (stk : List Value) : Prop := Gj l shX D T ad 1 (rmX_LawReader_factOf) 0 0 Γ (MQ Γ.below (va_Qi (eqI o g0 xo) (wPost shX D T ad Γ.A) Γ.A) Γ.args Γ.s 0 0 Γ.A) x g pc lv stk
set_option maxRecDepth 100000 in
set_option maxHeartbeats 4000000 in
theorem cX_LawReader_factOf (l : Launch) (D : va_G) (T : cT) (ad : Nat → Nat) (sK sV : Nat → Nat) (xo : Sl) (g : St) (o : Int32) (h : fX_LawReader_factOf g = some o) (sz : Nat) : Met l yX3_factOf wX_LawReader_factOf (rmX_LawReader_factOf) (va_Pc [.ref (ad 1)] (xPre shX D T ad sK sV xo g sz)) (va_Qi (eqI o g xo) (wPost shX D T ad (aW shX T ad xo g sz)) (aW shX T ad xo g sz)) 0 0 (aW shX T ad xo g sz) := by
  refine g_startx (Qc := fun A => va_Qi (eqI o g xo) (wPost shX D T ad A) A) (by decide +kernel) rfl rfl (Nat.le_of_ble_eq_true rfl) (lv := [(0, .ref (ad 1))]) rfl (fun Γ Y => ?_)
  have C := Y.1
  show GcX_LawReader_factOf l D T ad Γ o xo g xo g 0 [(0, .ref (ad 1))] []
  refine g_aload_n C dX3_factOf_0 rfl 0 rfl ?_
  refine g_ldcS Y 5 rfl rfl rfl dX3_factOf_1 ?_
  obtain ⟨r3, hr3, h⟩ := bnd h
  refine g_xVz (k := 1) (As := [.ref (sK 5)]) (rest := []) (ro := r3) (go := g) (xo := xo) Y (fun sz => cX_Text_isWord l D T ad sK sV xo g 5 (by decide) _ hr3 sz) kX_RX3_83_Text_isWord ⟨Nat.le_of_ble_eq_true rfl, Nat.le_of_ble_eq_true rfl⟩ ⟨rfl, rfl⟩ ⟨Nat.zero_le _, Nat.zero_le _⟩ (rfl : vwCl[8]? = some (RX9, TX9, 8)) ob_1 rfl rfl (Nat.le_of_ble_eq_true rfl) dX3_factOf_3 (fun hz3 => ?_)
  refine g_if_eq C 13 dX3_factOf_6 (by decide) (fun c6 => ?_) (fun c6 => ?_)
  · have h := iteT c6 h
    refine g_aload_n C dX3_factOf_13 rfl 0 rfl ?_
    refine g_ldcS Y 6 rfl rfl rfl dX3_factOf_14 ?_
    obtain ⟨r16, hr16, h⟩ := bnd h
    refine g_xVz (k := 1) (As := [.ref (sK 6)]) (rest := []) (ro := r16) (go := g) (xo := xo) Y (fun sz => cX_Text_isWord l D T ad sK sV xo g 6 (by decide) _ hr16 sz) kX_RX3_83_Text_isWord ⟨Nat.le_of_ble_eq_true rfl, Nat.le_of_ble_eq_true rfl⟩ ⟨rfl, rfl⟩ ⟨Nat.zero_le _, Nat.zero_le _⟩ (rfl : vwCl[8]? = some (RX9, TX9, 8)) ob_1 rfl rfl (Nat.le_of_ble_eq_true rfl) dX3_factOf_16 (fun hz16 => ?_)
    refine g_if_eq C 26 dX3_factOf_19 (by decide) (fun c19 => ?_) (fun c19 => ?_)
    · have h := iteT c19 h
      refine g_aload_n C dX3_factOf_26 rfl 0 rfl ?_
      refine g_ldcS Y 7 rfl rfl rfl dX3_factOf_27 ?_
      obtain ⟨r29, hr29, h⟩ := bnd h
      refine g_xVz (k := 1) (As := [.ref (sK 7)]) (rest := []) (ro := r29) (go := g) (xo := xo) Y (fun sz => cX_Text_isWord l D T ad sK sV xo g 7 (by decide) _ hr29 sz) kX_RX3_83_Text_isWord ⟨Nat.le_of_ble_eq_true rfl, Nat.le_of_ble_eq_true rfl⟩ ⟨rfl, rfl⟩ ⟨Nat.zero_le _, Nat.zero_le _⟩ (rfl : vwCl[8]? = some (RX9, TX9, 8)) ob_1 rfl rfl (Nat.le_of_ble_eq_true rfl) dX3_factOf_29 (fun hz29 => ?_)
      refine g_if_eq C 39 dX3_factOf_32 (by decide) (fun c32 => ?_) (fun c32 => ?_)
      · have h := iteT c32 h
        refine g_aload_n C dX3_factOf_39 rfl 0 rfl ?_
        refine g_ldcS Y 8 rfl rfl rfl dX3_factOf_40 ?_
        obtain ⟨r42, hr42, h⟩ := bnd h
        refine g_xVz (k := 1) (As := [.ref (sK 8)]) (rest := []) (ro := r42) (go := g) (xo := xo) Y (fun sz => cX_Text_isWord l D T ad sK sV xo g 8 (by decide) _ hr42 sz) kX_RX3_83_Text_isWord ⟨Nat.le_of_ble_eq_true rfl, Nat.le_of_ble_eq_true rfl⟩ ⟨rfl, rfl⟩ ⟨Nat.zero_le _, Nat.zero_le _⟩ (rfl : vwCl[8]? = some (RX9, TX9, 8)) ob_1 rfl rfl (Nat.le_of_ble_eq_true rfl) dX3_factOf_42 (fun hz42 => ?_)
        refine g_if_eq C 52 dX3_factOf_45 (by decide) (fun c45 => ?_) (fun c45 => ?_)
        · have h := iteT c45 h
          refine g_aload_n C dX3_factOf_52 rfl 0 rfl ?_
          refine g_ldcS Y 9 rfl rfl rfl dX3_factOf_53 ?_
          obtain ⟨r55, hr55, h⟩ := bnd h
          refine g_xVz (k := 1) (As := [.ref (sK 9)]) (rest := []) (ro := r55) (go := g) (xo := xo) Y (fun sz => cX_Text_isWord l D T ad sK sV xo g 9 (by decide) _ hr55 sz) kX_RX3_83_Text_isWord ⟨Nat.le_of_ble_eq_true rfl, Nat.le_of_ble_eq_true rfl⟩ ⟨rfl, rfl⟩ ⟨Nat.zero_le _, Nat.zero_le _⟩ (rfl : vwCl[8]? = some (RX9, TX9, 8)) ob_1 rfl rfl (Nat.le_of_ble_eq_true rfl) dX3_factOf_55 (fun hz55 => ?_)
          refine g_if_eq C 65 dX3_factOf_58 (by decide) (fun c58 => ?_) (fun c58 => ?_)
          · have h := iteT c58 h
            refine g_aload_n C dX3_factOf_65 rfl 0 rfl ?_
            refine g_ldcS Y 10 rfl rfl rfl dX3_factOf_66 ?_
            obtain ⟨r68, hr68, h⟩ := bnd h
            refine g_xVz (k := 1) (As := [.ref (sK 10)]) (rest := []) (ro := r68) (go := g) (xo := xo) Y (fun sz => cX_Text_isWord l D T ad sK sV xo g 10 (by decide) _ hr68 sz) kX_RX3_83_Text_isWord ⟨Nat.le_of_ble_eq_true rfl, Nat.le_of_ble_eq_true rfl⟩ ⟨rfl, rfl⟩ ⟨Nat.zero_le _, Nat.zero_le _⟩ (rfl : vwCl[8]? = some (RX9, TX9, 8)) ob_1 rfl rfl (Nat.le_of_ble_eq_true rfl) dX3_factOf_68 (fun hz68 => ?_)
            refine g_if_eq C 78 dX3_factOf_71 (by decide) (fun c71 => ?_) (fun c71 => ?_)
            · have h := iteT c71 h
              refine g_aload_n C dX3_factOf_78 rfl 0 rfl ?_
              refine g_ldcS Y 11 rfl rfl rfl dX3_factOf_79 ?_
              obtain ⟨r81, hr81, h⟩ := bnd h
              refine g_xVz (k := 1) (As := [.ref (sK 11)]) (rest := []) (ro := r81) (go := g) (xo := xo) Y (fun sz => cX_Text_isWord l D T ad sK sV xo g 11 (by decide) _ hr81 sz) kX_RX3_83_Text_isWord ⟨Nat.le_of_ble_eq_true rfl, Nat.le_of_ble_eq_true rfl⟩ ⟨rfl, rfl⟩ ⟨Nat.zero_le _, Nat.zero_le _⟩ (rfl : vwCl[8]? = some (RX9, TX9, 8)) ob_1 rfl rfl (Nat.le_of_ble_eq_true rfl) dX3_factOf_81 (fun hz81 => ?_)
              refine g_if_eq C 92 dX3_factOf_84 (by decide) (fun c84 => ?_) (fun c84 => ?_)
              · have h := iteT c84 h
                refine g_aload_n C dX3_factOf_92 rfl 0 rfl ?_
                refine g_ldcS Y 12 rfl rfl rfl dX3_factOf_93 ?_
                obtain ⟨r95, hr95, h⟩ := bnd h
                refine g_xVz (k := 1) (As := [.ref (sK 12)]) (rest := []) (ro := r95) (go := g) (xo := xo) Y (fun sz => cX_Text_isWord l D T ad sK sV xo g 12 (by decide) _ hr95 sz) kX_RX3_83_Text_isWord ⟨Nat.le_of_ble_eq_true rfl, Nat.le_of_ble_eq_true rfl⟩ ⟨rfl, rfl⟩ ⟨Nat.zero_le _, Nat.zero_le _⟩ (rfl : vwCl[8]? = some (RX9, TX9, 8)) ob_1 rfl rfl (Nat.le_of_ble_eq_true rfl) dX3_factOf_95 (fun hz95 => ?_)
                refine g_if_eq C 106 dX3_factOf_98 (by decide) (fun c98 => ?_) (fun c98 => ?_)
                · have h := iteT c98 h
                  refine g_iconst C dX3_factOf_106 ic_m1 ?_
                  obtain rfl := Option.some.inj h
                  exact g_iret C rfl rfl rfl dX3_factOf_107
                · have h := iteF c98 h
                  refine g_bipush C dX3_factOf_101 bp_7 ?_
                  refine g_goto (tgt := 107) C dX3_factOf_103 (by decide) ?_
                  obtain rfl := Option.some.inj h
                  exact g_iret C rfl rfl rfl dX3_factOf_107
              · have h := iteF c84 h
                refine g_bipush C dX3_factOf_87 bp_6 ?_
                refine g_goto (tgt := 107) C dX3_factOf_89 (by decide) ?_
                obtain rfl := Option.some.inj h
                exact g_iret C rfl rfl rfl dX3_factOf_107
            · have h := iteF c71 h
              refine g_iconst C dX3_factOf_74 ic_5 ?_
              refine g_goto (tgt := 107) C dX3_factOf_75 (by decide) ?_
              obtain rfl := Option.some.inj h
              exact g_iret C rfl rfl rfl dX3_factOf_107
          · have h := iteF c58 h
            refine g_iconst C dX3_factOf_61 ic_4 ?_
            refine g_goto (tgt := 107) C dX3_factOf_62 (by decide) ?_
            obtain rfl := Option.some.inj h
            exact g_iret C rfl rfl rfl dX3_factOf_107
        · have h := iteF c45 h
          refine g_iconst C dX3_factOf_48 ic_3 ?_
          refine g_goto (tgt := 107) C dX3_factOf_49 (by decide) ?_
          obtain rfl := Option.some.inj h
          exact g_iret C rfl rfl rfl dX3_factOf_107
      · have h := iteF c32 h
        refine g_iconst C dX3_factOf_35 ic_2 ?_
        refine g_goto (tgt := 107) C dX3_factOf_36 (by decide) ?_
        obtain rfl := Option.some.inj h
        exact g_iret C rfl rfl rfl dX3_factOf_107
    · have h := iteF c19 h
      refine g_iconst C dX3_factOf_22 ic_1 ?_
      refine g_goto (tgt := 107) C dX3_factOf_23 (by decide) ?_
      obtain rfl := Option.some.inj h
      exact g_iret C rfl rfl rfl dX3_factOf_107
  · have h := iteF c6 h
    refine g_iconst C dX3_factOf_9 ic_0 ?_
    refine g_goto (tgt := 107) C dX3_factOf_10 (by decide) ?_
    obtain rfl := Option.some.inj h
    exact g_iret C rfl rfl rfl dX3_factOf_107
def fX_LawReader_readUnit_b132 (x2 : Nat) (g : St) : Option (Int32 × St) :=
  (fX_Text_expect (91 : Int32) g).bind fun g135 => (some ((1 : Int32), g135))
def fX_LawReader_readUnit (x2 : Nat) (g : St) : Option (Int32 × St) :=
  (fX_Text_nextByte g).bind fun ⟨r1, g1⟩ => (if (fX_Text_isDigit r1) = 0 then
    (if r1 = (40 : Int32) then
    ((fX_LawReader_push (40 : Int32) (g1 1 3) g1).bind fun g40 => (lt1 (fX_Text_pass g40) fun g44 => (some ((1 : Int32), g44))))
  else
    ((fX_Text_word g1).bind fun g50 => ((fX_LawReader_factOf g50).bind fun r54 => (if r54 = (-1 : Int32) then
    ((fX_Text_isWord 3 g50).bind fun r80 => (if r80 = 0 then
    ((fX_Text_isWord 4 g50).bind fun r103 => (if r103 = 0 then
    (lt1 (fX_Text_blame (1 : Int32) (g50 1 4) g50) fun g129 => (fX_LawReader_readUnit_b132 x2 g129))
  else
    ((fX_LawReader_push (109 : Int32) (g50 1 4) g50).bind fun g117 => (fX_LawReader_readUnit_b132 x2 g117))))
  else
    ((fX_LawReader_push (108 : Int32) (g50 1 4) g50).bind fun g94 => (fX_LawReader_readUnit_b132 x2 g94))))
  else
    ((fX_Law_add x2 ((1000 : Int32) + r54) g50).bind fun g72 => (some ((0 : Int32), g72)))))))
  else
    ((fX_Text_number (0 : Int32) (999 : Int32) g1).bind fun ⟨r18, g18⟩ => ((fX_Law_add x2 r18 g18).bind fun g21 => (some ((0 : Int32), g21)))))
def rmX_LawReader_readUnit : Room := { frames := 9, cells := 0, slots := 0, locals := 203 }
abbrev GcX_LawReader_readUnit (l : Launch) (D : va_G) (T : cT) (ad : Nat → Nat) (Γ : Cxt) (o : Int32 × St) (xo : Sl) (x : Sl) (g : St) (pc : Nat) (lv : List (Nat × Value)) (stk : List Value) : Prop := Gj l shX D T ad 5 (rmX_LawReader_readUnit) 0 0 Γ (MQ Γ.below (va_Qi (eqZ o.1 o.2 xo) (wPost shX D T ad Γ.A) Γ.A) Γ.args Γ.s 0 0 Γ.A) x g pc lv stk
set_option maxRecDepth 100000 in
set_option maxHeartbeats 4000000 in
theorem cX_LawReader_readUnit (l : Launch) (D : va_G) (T : cT) (ad : Nat → Nat) (sK sV : Nat → Nat) (xo : Sl) (g : St) (x2 : Nat) (hx2 : isLaw x2) (o : Int32 × St) (h : fX_LawReader_readUnit x2 g = some o) (sz : Nat) : Met l yX3_readUnit wX_LawReader_readUnit (rmX_LawReader_readUnit) (va_Pc [.ref (ad 6), .ref (ad 1), .ref (ad x2)] (xPre shX D T ad sK sV xo g sz)) (va_Qi (eqZ o.1 o.2 xo) (wPost shX D T ad (aW shX T ad xo g sz)) (aW shX T ad xo g sz)) 0 0 (aW shX T ad xo g sz) := by
  refine g_startx (Qc := fun A => va_Qi (eqZ o.1 o.2 xo) (wPost shX D T ad A) A) (by decide +kernel) rfl rfl (Nat.le_of_ble_eq_true rfl) (lv := [(0, .ref (ad 6)), (1, .ref (ad 1)), (2, .ref (ad x2))]) rfl (fun Γ Y => ?_)
  have C := Y.1
  show GcX_LawReader_readUnit l D T ad Γ o xo xo g 0 [(0, .ref (ad 6)), (1, .ref (ad 1)), (2, .ref (ad x2))] []
  have J132 : ∀ (g : St), fX_LawReader_readUnit_b132 x2 g = some o → GcX_LawReader_readUnit l D T ad Γ o xo xo g 132 [(1, .ref (ad 1))] [] := by
    intro g h
    refine g_aload_n C dX3_readUnit_132 rfl 0 rfl ?_
    refine g_bipush C dX3_readUnit_133 bp_91 ?_
    obtain ⟨g135, hr135, h⟩ := bnd h
    refine g_xVv (k := 1) (As := [.int (91 : Int32)]) (rest := []) (go := g135) (xo := xo) Y (fun sz => cX_Text_expect l D T ad sK sV xo g (91 : Int32) _ hr135 sz) kX_RX3_92_Text_expect ⟨Nat.le_of_ble_eq_true rfl, Nat.le_of_ble_eq_true rfl⟩ ⟨rfl, rfl⟩ ⟨Nat.zero_le _, Nat.zero_le _⟩ (rfl : vwCl[8]? = some (RX9, TX9, 8)) ob_1 rfl rfl (Nat.le_of_ble_eq_true rfl) dX3_readUnit_135 ?_
    refine g_iconst C dX3_readUnit_138 ic_1 ?_
    obtain rfl := Option.some.inj h
    exact g_zret C rfl rfl rfl rfl dX3_readUnit_139
  refine g_aload_n C dX3_readUnit_0 rfl 1 rfl ?_
  obtain ⟨⟨r1, g1⟩, hr1, h⟩ := bnd h
  refine g_xVi (k := 1) (As := []) (rest := []) (ro := r1) (go := g1) (xo := xo) Y (fun sz => cX_Text_nextByte l D T ad sK sV xo g _ hr1 sz) kX_RX3_51_Text_nextByte ⟨Nat.le_of_ble_eq_true rfl, Nat.le_of_ble_eq_true rfl⟩ ⟨rfl, rfl⟩ ⟨Nat.zero_le _, Nat.zero_le _⟩ (rfl : vwCl[8]? = some (RX9, TX9, 8)) ob_1 rfl rfl (Nat.le_of_ble_eq_true rfl) dX3_readUnit_1 ?_
  refine g_istore_n (lv' := [(3, .int r1), (0, .ref (ad 6)), (1, .ref (ad 1)), (2, .ref (ad x2))]) C dX3_readUnit_4 rfl (Nat.le_of_ble_eq_true rfl) rfl ?_
  refine g_iload_n C dX3_readUnit_5 rfl 0 rfl ?_
  refine g_xSz (As := [.int r1]) (rest := []) (ro := (fX_Text_isDigit r1)) (go := g1) (xo := xo) Y (fun sz => cX_Text_isDigit l D T ad sK sV xo g1 r1 _ rfl sz) kX_RX3_55_Text_isDigit ⟨Nat.le_of_ble_eq_true rfl, Nat.le_of_ble_eq_true rfl⟩ ⟨rfl, rfl⟩ ⟨Nat.zero_le _, Nat.zero_le _⟩ rfl rfl (Nat.le_of_ble_eq_true rfl) dX3_readUnit_6 (fun hz6 => ?_)
  refine g_if_eq C 26 dX3_readUnit_9 (by decide) (fun c9 => ?_) (fun c9 => ?_)
  · have h := iteT c9 h
    refine g_iload_n C dX3_readUnit_26 rfl 0 rfl ?_
    refine g_bipush C dX3_readUnit_27 bp_40 ?_
    refine g_icmp_ne C 49 dX3_readUnit_29 (by decide) (fun c29 => ?_) (fun c29 => ?_)
    · have h := iteT c29 h
      refine g_aload_n C dX3_readUnit_32 rfl 1 rfl ?_
      refine g_aload_n C dX3_readUnit_33 rfl 2 rfl ?_
      refine g_bipush C dX3_readUnit_34 bp_40 ?_
      refine g_aload_n C dX3_readUnit_36 rfl 2 rfl ?_
      refine gX_get_X3_40 (v := g1 1 3) C ob_1 rfl rfl dX3_readUnit_37 ?_
      obtain ⟨g40, hr40, h⟩ := bnd h
      refine g_xVv (k := 6) (As := [.ref (ad 1), .int (40 : Int32), .int (g1 1 3)]) (rest := []) (go := g40) (xo := xo) Y (fun sz => cX_LawReader_push l D T ad sK sV xo g1 (40 : Int32) (g1 1 3) _ hr40 sz) kX_RX3_67_LawReader_push ⟨Nat.le_of_ble_eq_true rfl, Nat.le_of_ble_eq_true rfl⟩ ⟨rfl, rfl⟩ ⟨Nat.zero_le _, Nat.zero_le _⟩ (rfl : vwCl[3]? = some (RX3, TX3, 3)) ob_6 rfl rfl (Nat.le_of_ble_eq_true rfl) dX3_readUnit_40 ?_
      refine g_aload_n C dX3_readUnit_43 rfl 2 rfl ?_
      obtain ⟨g44, hr44, h⟩ := ltb h
      refine g_xVv (k := 1) (As := []) (rest := []) (go := g44) (xo := xo) Y (fun sz => cX_Text_pass l D T ad sK sV xo g40 _ hr44 sz) kX_RX3_71_Text_pass ⟨Nat.le_of_ble_eq_true rfl, Nat.le_of_ble_eq_true rfl⟩ ⟨rfl, rfl⟩ ⟨Nat.zero_le _, Nat.zero_le _⟩ (rfl : vwCl[8]? = some (RX9, TX9, 8)) ob_1 rfl rfl (Nat.le_of_ble_eq_true rfl) dX3_readUnit_44 ?_
      refine g_iconst C dX3_readUnit_47 ic_1 ?_
      obtain rfl := Option.some.inj h
      exact g_zret C rfl rfl rfl rfl dX3_readUnit_48
    · have h := iteF c29 h
      refine g_aload_n C dX3_readUnit_49 rfl 2 rfl ?_
      obtain ⟨g50, hr50, h⟩ := bnd h
      refine g_xVv (k := 1) (As := []) (rest := []) (go := g50) (xo := xo) Y (fun sz => cX_Text_word l D T ad sK sV xo g1 _ hr50 sz) kX_RX3_74_Text_word ⟨Nat.le_of_ble_eq_true rfl, Nat.le_of_ble_eq_true rfl⟩ ⟨rfl, rfl⟩ ⟨Nat.zero_le _, Nat.zero_le _⟩ (rfl : vwCl[8]? = some (RX9, TX9, 8)) ob_1 rfl rfl (Nat.le_of_ble_eq_true rfl) dX3_readUnit_50 ?_
      refine g_aload_n C dX3_readUnit_53 rfl 2 rfl ?_
      obtain ⟨r54, hr54, h⟩ := bnd h
      refine g_xSi (As := [.ref (ad 1)]) (rest := []) (ro := r54) (go := g50) (xo := xo) Y (fun sz => cX_LawReader_factOf l D T ad sK sV xo g50 _ hr54 sz) kX_RX3_77_LawReader_factOf ⟨Nat.le_of_ble_eq_true rfl, Nat.le_of_ble_eq_true rfl⟩ ⟨rfl, rfl⟩ ⟨Nat.zero_le _, Nat.zero_le _⟩ rfl rfl (Nat.le_of_ble_eq_true rfl) dX3_readUnit_54 ?_
      refine g_istore (lv' := [(4, .int r54), (3, .int r1), (0, .ref (ad 6)), (1, .ref (ad 1)), (2, .ref (ad x2))]) C dX3_readUnit_57 (Nat.le_of_ble_eq_true rfl) rfl ?_
      refine g_iload C dX3_readUnit_59 0 rfl ?_
      refine g_iconst C dX3_readUnit_61 ic_m1 ?_
      refine g_icmp_eq C 77 dX3_readUnit_62 (by decide) (fun c62 => ?_) (fun c62 => ?_)
      · have h := iteT c62 h
        refine g_aload_n C dX3_readUnit_77 rfl 3 rfl ?_
        refine g_ldcS Y 3 rfl rfl rfl dX3_readUnit_78 ?_
        obtain ⟨r80, hr80, h⟩ := bnd h
        refine g_xVz (k := 1) (As := [.ref (sK 3)]) (rest := []) (ro := r80) (go := g50) (xo := xo) Y (fun sz => cX_Text_isWord l D T ad sK sV xo g50 3 (by decide) _ hr80 sz) kX_RX3_83_Text_isWord ⟨Nat.le_of_ble_eq_true rfl, Nat.le_of_ble_eq_true rfl⟩ ⟨rfl, rfl⟩ ⟨Nat.zero_le _, Nat.zero_le _⟩ (rfl : vwCl[8]? = some (RX9, TX9, 8)) ob_1 rfl rfl (Nat.le_of_ble_eq_true rfl) dX3_readUnit_80 (fun hz80 => ?_)
        refine g_if_eq C 100 dX3_readUnit_83 (by decide) (fun c83 => ?_) (fun c83 => ?_)
        · have h := iteT c83 h
          refine g_aload_n C dX3_readUnit_100 rfl 3 rfl ?_
          refine g_ldcS Y 4 rfl rfl rfl dX3_readUnit_101 ?_
          obtain ⟨r103, hr103, h⟩ := bnd h
          refine g_xVz (k := 1) (As := [.ref (sK 4)]) (rest := []) (ro := r103) (go := g50) (xo := xo) Y (fun sz => cX_Text_isWord l D T ad sK sV xo g50 4 (by decide) _ hr103 sz) kX_RX3_83_Text_isWord ⟨Nat.le_of_ble_eq_true rfl, Nat.le_of_ble_eq_true rfl⟩ ⟨rfl, rfl⟩ ⟨Nat.zero_le _, Nat.zero_le _⟩ (rfl : vwCl[8]? = some (RX9, TX9, 8)) ob_1 rfl rfl (Nat.le_of_ble_eq_true rfl) dX3_readUnit_103 (fun hz103 => ?_)
          refine g_if_eq C 123 dX3_readUnit_106 (by decide) (fun c106 => ?_) (fun c106 => ?_)
          · have h := iteT c106 h
            refine g_aload_n C dX3_readUnit_123 rfl 3 rfl ?_
            refine g_iconst C dX3_readUnit_124 ic_1 ?_
            refine g_aload_n C dX3_readUnit_125 rfl 3 rfl ?_
            refine gX_get_X3_87 (v := g50 1 4) C ob_1 rfl rfl dX3_readUnit_126 ?_
            obtain ⟨g129, hr129, h⟩ := ltb h
            refine g_xVv (k := 1) (As := [.int (1 : Int32), .int (g50 1 4)]) (rest := []) (go := g129) (xo := xo) Y (fun sz => cX_Text_blame l D T ad sK sV xo g50 (1 : Int32) (g50 1 4) _ hr129 sz) kX_RX3_43_Text_blame ⟨Nat.le_of_ble_eq_true rfl, Nat.le_of_ble_eq_true rfl⟩ ⟨rfl, rfl⟩ ⟨Nat.zero_le _, Nat.zero_le _⟩ (rfl : vwCl[8]? = some (RX9, TX9, 8)) ob_1 rfl rfl (Nat.le_of_ble_eq_true rfl) dX3_readUnit_129 ?_
            exact g_sub [3] rfl (J132 g129 h)
          · have h := iteF c106 h
            refine g_aload_n C dX3_readUnit_109 rfl 2 rfl ?_
            refine g_aload_n C dX3_readUnit_110 rfl 3 rfl ?_
            refine g_bipush C dX3_readUnit_111 bp_109 ?_
            refine g_aload_n C dX3_readUnit_113 rfl 3 rfl ?_
            refine gX_get_X3_87 (v := g50 1 4) C ob_1 rfl rfl dX3_readUnit_114 ?_
            obtain ⟨g117, hr117, h⟩ := bnd h
            refine g_xVv (k := 6) (As := [.ref (ad 1), .int (109 : Int32), .int (g50 1 4)]) (rest := []) (go := g117) (xo := xo) Y (fun sz => cX_LawReader_push l D T ad sK sV xo g50 (109 : Int32) (g50 1 4) _ hr117 sz) kX_RX3_67_LawReader_push ⟨Nat.le_of_ble_eq_true rfl, Nat.le_of_ble_eq_true rfl⟩ ⟨rfl, rfl⟩ ⟨Nat.zero_le _, Nat.zero_le _⟩ (rfl : vwCl[3]? = some (RX3, TX3, 3)) ob_6 rfl rfl (Nat.le_of_ble_eq_true rfl) dX3_readUnit_117 ?_
            refine g_goto (tgt := 132) C dX3_readUnit_120 (by decide) ?_
            exact g_sub [3] rfl (J132 g117 h)
        · have h := iteF c83 h
          refine g_aload_n C dX3_readUnit_86 rfl 2 rfl ?_
          refine g_aload_n C dX3_readUnit_87 rfl 3 rfl ?_
          refine g_bipush C dX3_readUnit_88 bp_108 ?_
          refine g_aload_n C dX3_readUnit_90 rfl 3 rfl ?_
          refine gX_get_X3_87 (v := g50 1 4) C ob_1 rfl rfl dX3_readUnit_91 ?_
          obtain ⟨g94, hr94, h⟩ := bnd h
          refine g_xVv (k := 6) (As := [.ref (ad 1), .int (108 : Int32), .int (g50 1 4)]) (rest := []) (go := g94) (xo := xo) Y (fun sz => cX_LawReader_push l D T ad sK sV xo g50 (108 : Int32) (g50 1 4) _ hr94 sz) kX_RX3_67_LawReader_push ⟨Nat.le_of_ble_eq_true rfl, Nat.le_of_ble_eq_true rfl⟩ ⟨rfl, rfl⟩ ⟨Nat.zero_le _, Nat.zero_le _⟩ (rfl : vwCl[3]? = some (RX3, TX3, 3)) ob_6 rfl rfl (Nat.le_of_ble_eq_true rfl) dX3_readUnit_94 ?_
          refine g_goto (tgt := 132) C dX3_readUnit_97 (by decide) ?_
          exact g_sub [3] rfl (J132 g94 h)
      · have h := iteF c62 h
        refine g_aload_n C dX3_readUnit_65 rfl 4 rfl ?_
        refine g_sipush C dX3_readUnit_66 sp_1000 ?_
        refine g_iload C dX3_readUnit_69 0 rfl ?_
        refine g_iadd C dX3_readUnit_71 ?_
        obtain ⟨g72, hr72, h⟩ := bnd h
        refine g_xVv (k := x2) (As := [.int ((1000 : Int32) + r54)]) (rest := []) (go := g72) (xo := xo) Y (fun sz => cX_Law_add l D T ad sK sV xo g50 x2 ((1000 : Int32) + r54) hx2 _ hr72 sz) kX_RX3_63_Law_add ⟨Nat.le_of_ble_eq_true rfl, Nat.le_of_ble_eq_true rfl⟩ ⟨rfl, rfl⟩ ⟨Nat.zero_le _, Nat.zero_le _⟩ (rfl : vwCl[2]? = some (RX2, TX2, 4)) (ob_Law hx2) rfl rfl (Nat.le_of_ble_eq_true rfl) dX3_readUnit_72 ?_
        refine g_iconst C dX3_readUnit_75 ic_0 ?_
        obtain rfl := Option.some.inj h
        exact g_zret C rfl rfl rfl rfl dX3_readUnit_76
  · have h := iteF c9 h
    refine g_aload_n C dX3_readUnit_12 rfl 3 rfl ?_
    refine g_aload_n C dX3_readUnit_13 rfl 2 rfl ?_
    refine g_iconst C dX3_readUnit_14 ic_0 ?_
    refine g_sipush C dX3_readUnit_15 sp_999 ?_
    obtain ⟨⟨r18, g18⟩, hr18, h⟩ := bnd h
    refine g_xVi (k := 1) (As := [.int (0 : Int32), .int (999 : Int32)]) (rest := [.ref (ad x2)]) (ro := r18) (go := g18) (xo := xo) Y (fun sz => cX_Text_number l D T ad sK sV xo g1 (0 : Int32) (999 : Int32) _ hr18 sz) kX_RX3_59_Text_number ⟨Nat.le_of_ble_eq_true rfl, Nat.le_of_ble_eq_true rfl⟩ ⟨rfl, rfl⟩ ⟨Nat.zero_le _, Nat.zero_le _⟩ (rfl : vwCl[8]? = some (RX9, TX9, 8)) ob_1 rfl rfl (Nat.le_of_ble_eq_true rfl) dX3_readUnit_18 ?_
    obtain ⟨g21, hr21, h⟩ := bnd h
    refine g_xVv (k := x2) (As := [.int r18]) (rest := []) (go := g21) (xo := xo) Y (fun sz => cX_Law_add l D T ad sK sV xo g18 x2 r18 hx2 _ hr21 sz) kX_RX3_63_Law_add ⟨Nat.le_of_ble_eq_true rfl, Nat.le_of_ble_eq_true rfl⟩ ⟨rfl, rfl⟩ ⟨Nat.zero_le _, Nat.zero_le _⟩ (rfl : vwCl[2]? = some (RX2, TX2, 4)) (ob_Law hx2) rfl rfl (Nat.le_of_ble_eq_true rfl) dX3_readUnit_21 ?_
    refine g_iconst C dX3_readUnit_24 ic_0 ?_
    obtain rfl := Option.some.inj h
    exact g_zret C rfl rfl rfl rfl dX3_readUnit_25
def fX_LawReader_rankOf (x0 : Int32) : Int32 :=
  if x0 = 37 then
    ((2 : Int32))
  else
    (if x0 = 38 then
    ((0 : Int32))
  else
    (if x0 = 39 then
    ((0 : Int32))
  else
    (if x0 = 40 then
    ((0 : Int32))
  else
    (if x0 = 41 then
    ((0 : Int32))
  else
    (if x0 = 42 then
    ((2 : Int32))
  else
    (if x0 = 43 then
    ((1 : Int32))
  else
    (if x0 = 44 then
    ((0 : Int32))
  else
    (if x0 = 45 then
    ((1 : Int32))
  else
    (if x0 = 46 then
    ((0 : Int32))
  else
    (if x0 = 47 then
    ((2 : Int32))
  else
    ((0 : Int32))))))))))))
def rmX_LawReader_rankOf : Room := { frames := 0, cells := 0, slots := 0, locals := 0 }
abbrev GcX_LawReader_rankOf (l : Launch) (D : va_G) (T : cT) (ad : Nat → Nat) (Γ : Cxt) (o : Int32) (xo : Sl) (g0 : St) (x : Sl) (g : St) (pc : Nat) (lv : List (Nat × Value)) (stk : List Value) : Prop := Gj l shX D T ad 1 (rmX_LawReader_rankOf) 0 0 Γ (MQ Γ.below (va_Qi (eqI o g0 xo) (wPost shX D T ad Γ.A) Γ.A) Γ.args Γ.s 0 0 Γ.A) x g pc lv stk
set_option maxRecDepth 100000 in
set_option maxHeartbeats 4000000 in
theorem cX_LawReader_rankOf (l : Launch) (D : va_G) (T : cT) (ad : Nat → Nat) (sK sV : Nat → Nat) (xo : Sl) (g : St) (x0 : Int32) (o : Int32) (h : fX_LawReader_rankOf x0 = o) (sz : Nat) : Met l yX3_rankOf wX_LawReader_rankOf (rmX_LawReader_rankOf) (va_Pc [.int x0] (xPre shX D T ad sK sV xo g sz)) (va_Qi (eqI o g xo) (wPost shX D T ad (aW shX T ad xo g sz)) (aW shX T ad xo g sz)) 0 0 (aW shX T ad xo g sz) := by
  refine g_startx (Qc := fun A => va_Qi (eqI o g xo) (wPost shX D T ad A) A) (by decide +kernel) rfl rfl (Nat.le_of_ble_eq_true rfl) (lv := [(0, .int x0)]) rfl (fun Γ Y => ?_)
  have C := Y.1
  show GcX_LawReader_rankOf l D T ad Γ o xo g xo g 0 [(0, .int x0)] []
  refine g_iload_n C dX3_rankOf_0 rfl 0 rfl ?_
  by_cases c1_37 : x0 = 37
  · have h := iteT c1_37 h
    refine g_tabIn C 37 62 dX3_rankOf_1 c1_37 (by decide) (by decide) rfl (by decide) ?_
    refine g_iconst C dX3_rankOf_62 ic_2 ?_
    subst h
    exact g_iret C rfl rfl rfl dX3_rankOf_63
  have h := iteF c1_37 h
  by_cases c1_38 : x0 = 38
  · have h := iteT c1_38 h
    refine g_tabIn C 38 64 dX3_rankOf_1 c1_38 (by decide) (by decide) rfl (by decide) ?_
    refine g_iconst C dX3_rankOf_64 ic_0 ?_
    subst h
    exact g_iret C rfl rfl rfl dX3_rankOf_65
  have h := iteF c1_38 h
  by_cases c1_39 : x0 = 39
  · have h := iteT c1_39 h
    refine g_tabIn C 39 64 dX3_rankOf_1 c1_39 (by decide) (by decide) rfl (by decide) ?_
    refine g_iconst C dX3_rankOf_64 ic_0 ?_
    subst h
    exact g_iret C rfl rfl rfl dX3_rankOf_65
  have h := iteF c1_39 h
  by_cases c1_40 : x0 = 40
  · have h := iteT c1_40 h
    refine g_tabIn C 40 64 dX3_rankOf_1 c1_40 (by decide) (by decide) rfl (by decide) ?_
    refine g_iconst C dX3_rankOf_64 ic_0 ?_
    subst h
    exact g_iret C rfl rfl rfl dX3_rankOf_65
  have h := iteF c1_40 h
  by_cases c1_41 : x0 = 41
  · have h := iteT c1_41 h
    refine g_tabIn C 41 64 dX3_rankOf_1 c1_41 (by decide) (by decide) rfl (by decide) ?_
    refine g_iconst C dX3_rankOf_64 ic_0 ?_
    subst h
    exact g_iret C rfl rfl rfl dX3_rankOf_65
  have h := iteF c1_41 h
  by_cases c1_42 : x0 = 42
  · have h := iteT c1_42 h
    refine g_tabIn C 42 62 dX3_rankOf_1 c1_42 (by decide) (by decide) rfl (by decide) ?_
    refine g_iconst C dX3_rankOf_62 ic_2 ?_
    subst h
    exact g_iret C rfl rfl rfl dX3_rankOf_63
  have h := iteF c1_42 h
  by_cases c1_43 : x0 = 43
  · have h := iteT c1_43 h
    refine g_tabIn C 43 60 dX3_rankOf_1 c1_43 (by decide) (by decide) rfl (by decide) ?_
    refine g_iconst C dX3_rankOf_60 ic_1 ?_
    subst h
    exact g_iret C rfl rfl rfl dX3_rankOf_61
  have h := iteF c1_43 h
  by_cases c1_44 : x0 = 44
  · have h := iteT c1_44 h
    refine g_tabIn C 44 64 dX3_rankOf_1 c1_44 (by decide) (by decide) rfl (by decide) ?_
    refine g_iconst C dX3_rankOf_64 ic_0 ?_
    subst h
    exact g_iret C rfl rfl rfl dX3_rankOf_65
  have h := iteF c1_44 h
  by_cases c1_45 : x0 = 45
  · have h := iteT c1_45 h
    refine g_tabIn C 45 60 dX3_rankOf_1 c1_45 (by decide) (by decide) rfl (by decide) ?_
    refine g_iconst C dX3_rankOf_60 ic_1 ?_
    subst h
    exact g_iret C rfl rfl rfl dX3_rankOf_61
  have h := iteF c1_45 h
  by_cases c1_46 : x0 = 46
  · have h := iteT c1_46 h
    refine g_tabIn C 46 64 dX3_rankOf_1 c1_46 (by decide) (by decide) rfl (by decide) ?_
    refine g_iconst C dX3_rankOf_64 ic_0 ?_
    subst h
    exact g_iret C rfl rfl rfl dX3_rankOf_65
  have h := iteF c1_46 h
  by_cases c1_47 : x0 = 47
  · have h := iteT c1_47 h
    refine g_tabIn C 47 62 dX3_rankOf_1 c1_47 (by decide) (by decide) rfl (by decide) ?_
    refine g_iconst C dX3_rankOf_62 ic_2 ?_
    subst h
    exact g_iret C rfl rfl rfl dX3_rankOf_63
  have h := iteF c1_47 h
  refine g_tabOut C 64 dX3_rankOf_1 (tab_37_47 _ c1_37 c1_38 c1_39 c1_40 c1_41 c1_42 c1_43 c1_44 c1_45 c1_46 c1_47) (by decide) ?_
  refine g_iconst C dX3_rankOf_64 ic_0 ?_
  subst h
  exact g_iret C rfl rfl rfl dX3_rankOf_65
def fX_LawReader_settle_L0 (x1 : Nat) (x2 : Int32) : St → Option ((St) ⊕ (St)) := fun g =>
  if (g 6 1) ≤ 0 then
    (some (.inr g))
  else
    ((fX_Rows_at 29 ((g 6 1) - (1 : Int32)) g).bind fun r17 => (if (fX_LawReader_rankOf r17) < x2 then
    (some (.inr g))
  else
    ((fX_Rows_at 29 ((g 6 1) - (1 : Int32)) (st g 6 1 ((g 6 1) - (1 : Int32)))).bind fun r49 => ((fX_Law_add x1 ((2000 : Int32) + r49) (st g 6 1 ((g 6 1) - (1 : Int32)))).bind fun g53 => (some (.inl g53))))))
def fX_LawReader_settle_b0 (x1 : Nat) (x2 : Int32) (g : St) : Option (St) :=
  (lp (fX_LawReader_settle_L0 x1 x2) fuel g).bind (fun g => some g)
def fX_LawReader_settle (x1 : Nat) (x2 : Int32) (g : St) : Option (St) :=
  fX_LawReader_settle_b0 x1 x2 g
def rmX_LawReader_settle : Room := { frames := 2, cells := 0, slots := 0, locals := 43 }
abbrev GcX_LawReader_settle (l : Launch) (D : va_G) (T : cT) (ad : Nat → Nat) (Γ : Cxt) (o : St) (xo : Sl) (x : Sl) (g : St) (pc : Nat) (lv : List (Nat × Value)) (stk : List Value) : Prop := Gj l shX D T ad 3 (rmX_LawReader_settle) 0 0 Γ (MQ Γ.below (va_Qv (eqV o xo) (wPost shX D T ad Γ.A) Γ.A) Γ.args Γ.s 0 0 Γ.A) x g pc lv stk
set_option maxRecDepth 100000 in
set_option maxHeartbeats 4000000 in
theorem cX_LawReader_settle (l : Launch) (D : va_G) (T : cT) (ad : Nat → Nat) (sK sV : Nat → Nat) (xo : Sl) (g : St) (x1 : Nat) (x2 : Int32) (hx1 : isLaw x1) (o : St) (h : fX_LawReader_settle x1 x2 g = some o) (sz : Nat) : Met l yX3_settle wX_LawReader_settle (rmX_LawReader_settle) (va_Pc [.ref (ad 6), .ref (ad x1), .int x2] (xPre shX D T ad sK sV xo g sz)) (va_Qv (eqV o xo) (wPost shX D T ad (aW shX T ad xo g sz)) (aW shX T ad xo g sz)) 0 0 (aW shX T ad xo g sz) := by
  refine g_startx (Qc := fun A => va_Qv (eqV o xo) (wPost shX D T ad A) A) (by decide +kernel) rfl rfl (Nat.le_of_ble_eq_true rfl) (lv := [(0, .ref (ad 6)), (1, .ref (ad x1)), (2, .int x2)]) rfl (fun Γ Y => ?_)
  have C := Y.1
  show GcX_LawReader_settle l D T ad Γ o xo xo g 0 [(0, .ref (ad 6)), (1, .ref (ad x1)), (2, .int x2)] []
  have J0 : ∀ (x2 : Int32) (g : St), fX_LawReader_settle_b0 x1 x2 g = some o → GcX_LawReader_settle l D T ad Γ o xo xo g 0 [(0, .ref (ad 6)), (1, .ref (ad x1)), (2, .int x2)] [] := by
    intro x2 g h
    obtain ⟨g, ht, h⟩ := bnd h
    refine lp_run (P := fun g : St => GcX_LawReader_settle l D T ad Γ o xo xo g 0 [(0, .ref (ad 6)), (1, .ref (ad x1)), (2, .int x2)] []) (E := fun g : St => GcX_LawReader_settle l D T ad Γ o xo xo g 59 [] []) ?_ _ _ _ ht ?_
    · rintro g z h Kt Ke
      show GcX_LawReader_settle l D T ad Γ o xo xo g 0 [(0, .ref (ad 6)), (1, .ref (ad x1)), (2, .int x2)] []
      refine g_aload_n C dX3_settle_0 rfl 0 rfl ?_
      refine gX_get_X3_15 (v := g 6 1) C ob_6 rfl rfl dX3_settle_1 ?_
      refine g_if_le C 59 dX3_settle_4 (by decide) (fun c4 => ?_) (fun c4 => ?_)
      · have h := iteT c4 h
        exact g_sub [] rfl (Ke _ (Option.some.inj h).symm)
      · have h := iteF c4 h
        refine g_aload_n C dX3_settle_7 rfl 0 rfl ?_
        refine gX_get_X3_9 C ob_6 rfl dX3_settle_8 ?_
        refine g_aload_n C dX3_settle_11 rfl 0 rfl ?_
        refine gX_get_X3_15 (v := g 6 1) C ob_6 rfl rfl dX3_settle_12 ?_
        refine g_iconst C dX3_settle_15 ic_1 ?_
        refine g_isub C dX3_settle_16 ?_
        obtain ⟨r17, hr17, h⟩ := bnd h
        refine g_xSi (As := [.ref (ad 29), .int ((g 6 1) - (1 : Int32))]) (rest := []) (ro := r17) (go := g) (xo := xo) Y (fun sz => cX_Rows_at l D T ad sK sV xo g 29 ((g 6 1) - (1 : Int32)) _ hr17 sz) kX_RX3_125_Rows_at ⟨Nat.le_of_ble_eq_true rfl, Nat.le_of_ble_eq_true rfl⟩ ⟨rfl, rfl⟩ ⟨Nat.zero_le _, Nat.zero_le _⟩ rfl rfl (Nat.le_of_ble_eq_true rfl) dX3_settle_17 ?_
        refine g_xSi (As := [.int r17]) (rest := []) (ro := (fX_LawReader_rankOf r17)) (go := g) (xo := xo) Y (fun sz => cX_LawReader_rankOf l D T ad sK sV xo g r17 _ rfl sz) kX_RX3_121_LawReader_rankOf ⟨Nat.le_of_ble_eq_true rfl, Nat.le_of_ble_eq_true rfl⟩ ⟨rfl, rfl⟩ ⟨Nat.zero_le _, Nat.zero_le _⟩ rfl rfl (Nat.le_of_ble_eq_true rfl) dX3_settle_20 ?_
        refine g_iload_n C dX3_settle_23 rfl 2 rfl ?_
        refine g_icmp_lt C 59 dX3_settle_24 (by decide) (fun c24 => ?_) (fun c24 => ?_)
        · have h := iteT c24 h
          exact g_sub [] rfl (Ke _ (Option.some.inj h).symm)
        · have h := iteF c24 h
          refine g_aload_n C dX3_settle_27 rfl 0 rfl ?_
          refine g_dup C dX3_settle_28 rfl ?_
          refine gX_get_X3_15 (v := g 6 1) C ob_6 rfl rfl dX3_settle_29 ?_
          refine g_iconst C dX3_settle_32 ic_1 ?_
          refine g_isub C dX3_settle_33 ?_
          refine gX_put_X3_15 C ob_6 rfl dX3_settle_34 ?_
          refine g_aload_n C dX3_settle_37 rfl 1 rfl ?_
          refine g_sipush C dX3_settle_38 sp_2000 ?_
          refine g_aload_n C dX3_settle_41 rfl 0 rfl ?_
          refine gX_get_X3_9 C ob_6 rfl dX3_settle_42 ?_
          refine g_aload_n C dX3_settle_45 rfl 0 rfl ?_
          refine gX_get_X3_15 (v := (g 6 1) - (1 : Int32)) C ob_6 rfl rfl dX3_settle_46 ?_
          obtain ⟨r49, hr49, h⟩ := bnd h
          refine g_xSi (As := [.ref (ad 29), .int ((g 6 1) - (1 : Int32))]) (rest := [.int (2000 : Int32), .ref (ad x1)]) (ro := r49) (go := (st g 6 1 ((g 6 1) - (1 : Int32)))) (xo := xo) Y (fun sz => cX_Rows_at l D T ad sK sV xo (st g 6 1 ((g 6 1) - (1 : Int32))) 29 ((g 6 1) - (1 : Int32)) _ hr49 sz) kX_RX3_125_Rows_at ⟨Nat.le_of_ble_eq_true rfl, Nat.le_of_ble_eq_true rfl⟩ ⟨rfl, rfl⟩ ⟨Nat.zero_le _, Nat.zero_le _⟩ rfl rfl (Nat.le_of_ble_eq_true rfl) dX3_settle_49 ?_
          refine g_iadd C dX3_settle_52 ?_
          obtain ⟨g53, hr53, h⟩ := bnd h
          refine g_xVv (k := x1) (As := [.int ((2000 : Int32) + r49)]) (rest := []) (go := g53) (xo := xo) Y (fun sz => cX_Law_add l D T ad sK sV xo (st g 6 1 ((g 6 1) - (1 : Int32))) x1 ((2000 : Int32) + r49) hx1 _ hr53 sz) kX_RX3_63_Law_add ⟨Nat.le_of_ble_eq_true rfl, Nat.le_of_ble_eq_true rfl⟩ ⟨rfl, rfl⟩ ⟨Nat.zero_le _, Nat.zero_le _⟩ (rfl : vwCl[2]? = some (RX2, TX2, 4)) (ob_Law hx1) rfl rfl (Nat.le_of_ble_eq_true rfl) dX3_settle_53 ?_
          refine g_goto (tgt := 0) C dX3_settle_56 (by decide) ?_
          exact g_sub [0, 1, 2] rfl (Kt _ (Option.some.inj h).symm)
    · show GcX_LawReader_settle l D T ad Γ o xo xo g 59 [] []
      obtain rfl := Option.some.inj h
      exact g_vret C rfl rfl dX3_settle_59
  exact J0 x2 g h
def fX_LawReader_readSign_b176 (x2 : Nat) (g : St) : Option (Int32 × St) :=
  lt1 (fX_Text_pass (st (st g 6 1 ((g 6 1) - (1 : Int32))) 6 2 ((g 6 2) - (1 : Int32)))) fun g197 => (some ((0 : Int32), g197))
def fX_LawReader_readSign_b165 (x2 : Nat) (g : St) : Option (Int32 × St) :=
  lt1 (fX_Text_blame (1 : Int32) (g 1 3) g) fun g171 => (some ((0 : Int32), g171))
def fX_LawReader_readSign_b152 (x2 : Nat) (x3 : Int32) (x5 : Int32) (g : St) : Option (Int32 × St) :=
  if x3 = (41 : Int32) then
    (if x5 = (40 : Int32) then
    (fX_LawReader_readSign_b176 x2 g)
  else
    (fX_LawReader_readSign_b165 x2 g))
  else
    (fX_LawReader_readSign_b165 x2 g)
def fX_LawReader_readSign_b139 (x2 : Nat) (x5 : Int32) (g : St) : Option (Int32 × St) :=
  (fX_Law_add x2 ((2000 : Int32) + x5) g).bind fun g146 => (fX_LawReader_readSign_b176 x2 g146)
def fX_LawReader_readSign_b119 (x2 : Nat) (x3 : Int32) (x5 : Int32) (g : St) : Option (Int32 × St) :=
  if x3 = (93 : Int32) then
    (if x5 = (76 : Int32) then
    (fX_LawReader_readSign_b139 x2 x5 g)
  else
    (if x5 = (77 : Int32) then
    (fX_LawReader_readSign_b139 x2 x5 g)
  else
    (fX_LawReader_readSign_b152 x2 x3 x5 g)))
  else
    (fX_LawReader_readSign_b152 x2 x3 x5 g)
def fX_LawReader_readSign_b110 (x2 : Nat) (s1 : Int32) (s2 : Int32) (g : St) : Option (Int32 × St) :=
  (fX_Rows_put 29 s1 s2 g).bind fun g110 => (lt1 (fX_Text_pass g110) fun g114 => (some ((1 : Int32), g114)))
def fX_LawReader_readSign_b86 (x2 : Nat) (x5 : Int32) (g : St) : Option (Int32 × St) :=
  if x5 = (108 : Int32) then
    (fX_LawReader_readSign_b110 x2 ((g 6 1) - (1 : Int32)) (76 : Int32) g)
  else
    (fX_LawReader_readSign_b110 x2 ((g 6 1) - (1 : Int32)) (77 : Int32) g)
def fX_LawReader_readSign_b64 (x2 : Nat) (x3 : Int32) (s0 : Int32) (g : St) : Option (Int32 × St) :=
  if x3 = (44 : Int32) then
    (if s0 = (108 : Int32) then
    (fX_LawReader_readSign_b86 x2 s0 g)
  else
    (if s0 = (109 : Int32) then
    (fX_LawReader_readSign_b86 x2 s0 g)
  else
    (fX_LawReader_readSign_b119 x2 x3 s0 g)))
  else
    (fX_LawReader_readSign_b119 x2 x3 s0 g)
def fX_LawReader_readSign (x2 : Nat) (g : St) : Option (Int32 × St) :=
  (fX_Text_nextByte g).bind fun ⟨r1, g1⟩ => (if (fX_LawReader_rankOf r1) ≤ 0 then
    ((fX_LawReader_settle x2 (1 : Int32) g1).bind fun g37 => (if (g37 6 1) ≤ 0 then
    (fX_LawReader_readSign_b64 x2 r1 (-1 : Int32) g37)
  else
    ((fX_Rows_at 29 ((g37 6 1) - (1 : Int32)) g37).bind fun r57 => (fX_LawReader_readSign_b64 x2 r1 r57 g37))))
  else
    ((fX_LawReader_settle x2 (fX_LawReader_rankOf r1) g1).bind fun g20 => ((fX_LawReader_hold r1 g20).bind fun g25 => (lt1 (fX_Text_pass g25) fun g29 => (some ((1 : Int32), g29))))))
def rmX_LawReader_readSign : Room := { frames := 3, cells := 0, slots := 0, locals := 65 }
abbrev GcX_LawReader_readSign (l : Launch) (D : va_G) (T : cT) (ad : Nat → Nat) (Γ : Cxt) (o : Int32 × St) (xo : Sl) (x : Sl) (g : St) (pc : Nat) (lv : List (Nat × Value)) (stk : List Value) : Prop := Gj l shX D T ad 6 (rmX_LawReader_readSign) 0 0 Γ (MQ Γ.below (va_Qi (eqZ o.1 o.2 xo) (wPost shX D T ad Γ.A) Γ.A) Γ.args Γ.s 0 0 Γ.A) x g pc lv stk
set_option maxRecDepth 100000 in
set_option maxHeartbeats 4000000 in
theorem cX_LawReader_readSign (l : Launch) (D : va_G) (T : cT) (ad : Nat → Nat) (sK sV : Nat → Nat) (xo : Sl) (g : St) (x2 : Nat) (hx2 : isLaw x2) (o : Int32 × St) (h : fX_LawReader_readSign x2 g = some o) (sz : Nat) : Met l yX3_readSign wX_LawReader_readSign (rmX_LawReader_readSign) (va_Pc [.ref (ad 6), .ref (ad 1), .ref (ad x2)] (xPre shX D T ad sK sV xo g sz)) (va_Qi (eqZ o.1 o.2 xo) (wPost shX D T ad (aW shX T ad xo g sz)) (aW shX T ad xo g sz)) 0 0 (aW shX T ad xo g sz) := by
  refine g_startx (Qc := fun A => va_Qi (eqZ o.1 o.2 xo) (wPost shX D T ad A) A) (by decide +kernel) rfl rfl (Nat.le_of_ble_eq_true rfl) (lv := [(0, .ref (ad 6)), (1, .ref (ad 1)), (2, .ref (ad x2))]) rfl (fun Γ Y => ?_)
  have C := Y.1
  show GcX_LawReader_readSign l D T ad Γ o xo xo g 0 [(0, .ref (ad 6)), (1, .ref (ad 1)), (2, .ref (ad x2))] []
  have J176 : ∀ (g : St), fX_LawReader_readSign_b176 x2 g = some o → GcX_LawReader_readSign l D T ad Γ o xo xo g 176 [(0, .ref (ad 6)), (1, .ref (ad 1))] [] := by
    intro g h
    refine g_aload_n C dX3_readSign_176 rfl 0 rfl ?_
    refine g_dup C dX3_readSign_177 rfl ?_
    refine gX_get_X3_15 (v := g 6 1) C ob_6 rfl rfl dX3_readSign_178 ?_
    refine g_iconst C dX3_readSign_181 ic_1 ?_
    refine g_isub C dX3_readSign_182 ?_
    refine gX_put_X3_15 C ob_6 rfl dX3_readSign_183 ?_
    refine g_aload_n C dX3_readSign_186 rfl 0 rfl ?_
    refine g_dup C dX3_readSign_187 rfl ?_
    refine gX_get_X3_19 (v := g 6 2) C ob_6 rfl rfl dX3_readSign_188 ?_
    refine g_iconst C dX3_readSign_191 ic_1 ?_
    refine g_isub C dX3_readSign_192 ?_
    refine gX_put_X3_19 C ob_6 rfl dX3_readSign_193 ?_
    refine g_aload_n C dX3_readSign_196 rfl 1 rfl ?_
    obtain ⟨g197, hr197, h⟩ := ltb h
    refine g_xVv (k := 1) (As := []) (rest := []) (go := g197) (xo := xo) Y (fun sz => cX_Text_pass l D T ad sK sV xo (st (st g 6 1 ((g 6 1) - (1 : Int32))) 6 2 ((g 6 2) - (1 : Int32))) _ hr197 sz) kX_RX3_71_Text_pass ⟨Nat.le_of_ble_eq_true rfl, Nat.le_of_ble_eq_true rfl⟩ ⟨rfl, rfl⟩ ⟨Nat.zero_le _, Nat.zero_le _⟩ (rfl : vwCl[8]? = some (RX9, TX9, 8)) ob_1 rfl rfl (Nat.le_of_ble_eq_true rfl) dX3_readSign_197 ?_
    refine g_iconst C dX3_readSign_200 ic_0 ?_
    obtain rfl := Option.some.inj h
    exact g_zret C rfl rfl rfl rfl dX3_readSign_201
  have J165 : ∀ (g : St), fX_LawReader_readSign_b165 x2 g = some o → GcX_LawReader_readSign l D T ad Γ o xo xo g 165 [(1, .ref (ad 1))] [] := by
    intro g h
    refine g_aload_n C dX3_readSign_165 rfl 0 rfl ?_
    refine g_iconst C dX3_readSign_166 ic_1 ?_
    refine g_aload_n C dX3_readSign_167 rfl 0 rfl ?_
    refine gX_get_X3_40 (v := g 1 3) C ob_1 rfl rfl dX3_readSign_168 ?_
    obtain ⟨g171, hr171, h⟩ := ltb h
    refine g_xVv (k := 1) (As := [.int (1 : Int32), .int (g 1 3)]) (rest := []) (go := g171) (xo := xo) Y (fun sz => cX_Text_blame l D T ad sK sV xo g (1 : Int32) (g 1 3) _ hr171 sz) kX_RX3_43_Text_blame ⟨Nat.le_of_ble_eq_true rfl, Nat.le_of_ble_eq_true rfl⟩ ⟨rfl, rfl⟩ ⟨Nat.zero_le _, Nat.zero_le _⟩ (rfl : vwCl[8]? = some (RX9, TX9, 8)) ob_1 rfl rfl (Nat.le_of_ble_eq_true rfl) dX3_readSign_171 ?_
    refine g_iconst C dX3_readSign_174 ic_0 ?_
    obtain rfl := Option.some.inj h
    exact g_zret C rfl rfl rfl rfl dX3_readSign_175
  have J152 : ∀ (x3 : Int32) (x5 : Int32) (g : St), fX_LawReader_readSign_b152 x2 x3 x5 g = some o → GcX_LawReader_readSign l D T ad Γ o xo xo g 152 [(0, .ref (ad 6)), (1, .ref (ad 1)), (3, .int x3), (5, .int x5)] [] := by
    intro x3 x5 g h
    refine g_iload_n C dX3_readSign_152 rfl 2 rfl ?_
    refine g_bipush C dX3_readSign_153 bp_41 ?_
    refine g_icmp_ne C 165 dX3_readSign_155 (by decide) (fun c155 => ?_) (fun c155 => ?_)
    · have h := iteT c155 h
      refine g_iload C dX3_readSign_158 3 rfl ?_
      refine g_bipush C dX3_readSign_160 bp_40 ?_
      refine g_icmp_eq C 176 dX3_readSign_162 (by decide) (fun c162 => ?_) (fun c162 => ?_)
      · have h := iteT c162 h
        exact g_sub [0, 1] rfl (J176 g h)
      · have h := iteF c162 h
        exact g_sub [1] rfl (J165 g h)
    · have h := iteF c155 h
      exact g_sub [1] rfl (J165 g h)
  have J139 : ∀ (x5 : Int32) (g : St), fX_LawReader_readSign_b139 x2 x5 g = some o → GcX_LawReader_readSign l D T ad Γ o xo xo g 139 [(0, .ref (ad 6)), (1, .ref (ad 1)), (2, .ref (ad x2)), (5, .int x5)] [] := by
    intro x5 g h
    refine g_aload_n C dX3_readSign_139 rfl 2 rfl ?_
    refine g_sipush C dX3_readSign_140 sp_2000 ?_
    refine g_iload C dX3_readSign_143 3 rfl ?_
    refine g_iadd C dX3_readSign_145 ?_
    obtain ⟨g146, hr146, h⟩ := bnd h
    refine g_xVv (k := x2) (As := [.int ((2000 : Int32) + x5)]) (rest := []) (go := g146) (xo := xo) Y (fun sz => cX_Law_add l D T ad sK sV xo g x2 ((2000 : Int32) + x5) hx2 _ hr146 sz) kX_RX3_63_Law_add ⟨Nat.le_of_ble_eq_true rfl, Nat.le_of_ble_eq_true rfl⟩ ⟨rfl, rfl⟩ ⟨Nat.zero_le _, Nat.zero_le _⟩ (rfl : vwCl[2]? = some (RX2, TX2, 4)) (ob_Law hx2) rfl rfl (Nat.le_of_ble_eq_true rfl) dX3_readSign_146 ?_
    refine g_goto (tgt := 176) C dX3_readSign_149 (by decide) ?_
    exact g_sub [0, 1] rfl (J176 g146 h)
  have J119 : ∀ (x3 : Int32) (x5 : Int32) (g : St), fX_LawReader_readSign_b119 x2 x3 x5 g = some o → GcX_LawReader_readSign l D T ad Γ o xo xo g 119 [(0, .ref (ad 6)), (1, .ref (ad 1)), (2, .ref (ad x2)), (3, .int x3), (5, .int x5)] [] := by
    intro x3 x5 g h
    refine g_iload_n C dX3_readSign_119 rfl 3 rfl ?_
    refine g_bipush C dX3_readSign_120 bp_93 ?_
    refine g_icmp_ne C 152 dX3_readSign_122 (by decide) (fun c122 => ?_) (fun c122 => ?_)
    · have h := iteT c122 h
      refine g_iload C dX3_readSign_125 4 rfl ?_
      refine g_bipush C dX3_readSign_127 bp_76 ?_
      refine g_icmp_eq C 139 dX3_readSign_129 (by decide) (fun c129 => ?_) (fun c129 => ?_)
      · have h := iteT c129 h
        exact g_sub [0, 1, 2, 4] rfl (J139 x5 g h)
      · have h := iteF c129 h
        refine g_iload C dX3_readSign_132 4 rfl ?_
        refine g_bipush C dX3_readSign_134 bp_77 ?_
        refine g_icmp_ne C 152 dX3_readSign_136 (by decide) (fun c136 => ?_) (fun c136 => ?_)
        · have h := iteT c136 h
          exact g_sub [0, 1, 2, 4] rfl (J139 x5 g h)
        · have h := iteF c136 h
          exact g_sub [0, 1, 3, 4] rfl (J152 x3 x5 g h)
    · have h := iteF c122 h
      exact g_sub [0, 1, 3, 4] rfl (J152 x3 x5 g h)
  have J110 : ∀ (s1 : Int32) (s2 : Int32) (g : St), fX_LawReader_readSign_b110 x2 s1 s2 g = some o → GcX_LawReader_readSign l D T ad Γ o xo xo g 110 [(1, .ref (ad 1))] [.int s2, .int s1, .ref (ad 29)] := by
    intro s1 s2 g h
    obtain ⟨g110, hr110, h⟩ := bnd h
    refine g_xSv (As := [.ref (ad 29), .int s1, .int s2]) (rest := []) (go := g110) (xo := xo) Y (fun sz => cX_Rows_put l D T ad sK sV xo g 29 s1 s2 _ hr110 sz) kX_RX3_99_Rows_put ⟨Nat.le_of_ble_eq_true rfl, Nat.le_of_ble_eq_true rfl⟩ ⟨rfl, rfl⟩ ⟨Nat.zero_le _, Nat.zero_le _⟩ rfl rfl (Nat.le_of_ble_eq_true rfl) dX3_readSign_110 ?_
    refine g_aload_n C dX3_readSign_113 rfl 0 rfl ?_
    obtain ⟨g114, hr114, h⟩ := ltb h
    refine g_xVv (k := 1) (As := []) (rest := []) (go := g114) (xo := xo) Y (fun sz => cX_Text_pass l D T ad sK sV xo g110 _ hr114 sz) kX_RX3_71_Text_pass ⟨Nat.le_of_ble_eq_true rfl, Nat.le_of_ble_eq_true rfl⟩ ⟨rfl, rfl⟩ ⟨Nat.zero_le _, Nat.zero_le _⟩ (rfl : vwCl[8]? = some (RX9, TX9, 8)) ob_1 rfl rfl (Nat.le_of_ble_eq_true rfl) dX3_readSign_114 ?_
    refine g_iconst C dX3_readSign_117 ic_1 ?_
    obtain rfl := Option.some.inj h
    exact g_zret C rfl rfl rfl rfl dX3_readSign_118
  have J86 : ∀ (x5 : Int32) (g : St), fX_LawReader_readSign_b86 x2 x5 g = some o → GcX_LawReader_readSign l D T ad Γ o xo xo g 86 [(0, .ref (ad 6)), (1, .ref (ad 1)), (5, .int x5)] [] := by
    intro x5 g h
    refine g_aload_n C dX3_readSign_86 rfl 0 rfl ?_
    refine gX_get_X3_9 C ob_6 rfl dX3_readSign_87 ?_
    refine g_aload_n C dX3_readSign_90 rfl 0 rfl ?_
    refine gX_get_X3_15 (v := g 6 1) C ob_6 rfl rfl dX3_readSign_91 ?_
    refine g_iconst C dX3_readSign_94 ic_1 ?_
    refine g_isub C dX3_readSign_95 ?_
    refine g_iload C dX3_readSign_96 2 rfl ?_
    refine g_bipush C dX3_readSign_98 bp_108 ?_
    refine g_icmp_ne C 108 dX3_readSign_100 (by decide) (fun c100 => ?_) (fun c100 => ?_)
    · have h := iteT c100 h
      refine g_bipush C dX3_readSign_103 bp_76 ?_
      refine g_goto (tgt := 110) C dX3_readSign_105 (by decide) ?_
      exact g_sub [1] rfl (J110 ((g 6 1) - (1 : Int32)) (76 : Int32) g h)
    · have h := iteF c100 h
      refine g_bipush C dX3_readSign_108 bp_77 ?_
      exact g_sub [1] rfl (J110 ((g 6 1) - (1 : Int32)) (77 : Int32) g h)
  have J64 : ∀ (x3 : Int32) (s0 : Int32) (g : St), fX_LawReader_readSign_b64 x2 x3 s0 g = some o → GcX_LawReader_readSign l D T ad Γ o xo xo g 64 [(0, .ref (ad 6)), (1, .ref (ad 1)), (2, .ref (ad x2)), (3, .int x3)] [.int s0] := by
    intro x3 s0 g h
    refine g_istore (lv' := [(5, .int s0), (0, .ref (ad 6)), (1, .ref (ad 1)), (2, .ref (ad x2)), (3, .int x3)]) C dX3_readSign_64 (Nat.le_of_ble_eq_true rfl) rfl ?_
    refine g_iload_n C dX3_readSign_66 rfl 4 rfl ?_
    refine g_bipush C dX3_readSign_67 bp_44 ?_
    refine g_icmp_ne C 119 dX3_readSign_69 (by decide) (fun c69 => ?_) (fun c69 => ?_)
    · have h := iteT c69 h
      refine g_iload C dX3_readSign_72 0 rfl ?_
      refine g_bipush C dX3_readSign_74 bp_108 ?_
      refine g_icmp_eq C 86 dX3_readSign_76 (by decide) (fun c76 => ?_) (fun c76 => ?_)
      · have h := iteT c76 h
        exact g_sub [1, 2, 0] rfl (J86 s0 g h)
      · have h := iteF c76 h
        refine g_iload C dX3_readSign_79 0 rfl ?_
        refine g_bipush C dX3_readSign_81 bp_109 ?_
        refine g_icmp_ne C 119 dX3_readSign_83 (by decide) (fun c83 => ?_) (fun c83 => ?_)
        · have h := iteT c83 h
          exact g_sub [1, 2, 0] rfl (J86 s0 g h)
        · have h := iteF c83 h
          exact g_sub [1, 2, 3, 4, 0] rfl (J119 x3 s0 g h)
    · have h := iteF c69 h
      exact g_sub [1, 2, 3, 4, 0] rfl (J119 x3 s0 g h)
  refine g_aload_n C dX3_readSign_0 rfl 1 rfl ?_
  obtain ⟨⟨r1, g1⟩, hr1, h⟩ := bnd h
  refine g_xVi (k := 1) (As := []) (rest := []) (ro := r1) (go := g1) (xo := xo) Y (fun sz => cX_Text_nextByte l D T ad sK sV xo g _ hr1 sz) kX_RX3_51_Text_nextByte ⟨Nat.le_of_ble_eq_true rfl, Nat.le_of_ble_eq_true rfl⟩ ⟨rfl, rfl⟩ ⟨Nat.zero_le _, Nat.zero_le _⟩ (rfl : vwCl[8]? = some (RX9, TX9, 8)) ob_1 rfl rfl (Nat.le_of_ble_eq_true rfl) dX3_readSign_1 ?_
  refine g_istore_n (lv' := [(3, .int r1), (0, .ref (ad 6)), (1, .ref (ad 1)), (2, .ref (ad x2))]) C dX3_readSign_4 rfl (Nat.le_of_ble_eq_true rfl) rfl ?_
  refine g_iload_n C dX3_readSign_5 rfl 0 rfl ?_
  refine g_xSi (As := [.int r1]) (rest := []) (ro := (fX_LawReader_rankOf r1)) (go := g1) (xo := xo) Y (fun sz => cX_LawReader_rankOf l D T ad sK sV xo g1 r1 _ rfl sz) kX_RX3_121_LawReader_rankOf ⟨Nat.le_of_ble_eq_true rfl, Nat.le_of_ble_eq_true rfl⟩ ⟨rfl, rfl⟩ ⟨Nat.zero_le _, Nat.zero_le _⟩ rfl rfl (Nat.le_of_ble_eq_true rfl) dX3_readSign_6 ?_
  refine g_istore (lv' := [(4, .int (fX_LawReader_rankOf r1)), (3, .int r1), (0, .ref (ad 6)), (1, .ref (ad 1)), (2, .ref (ad x2))]) C dX3_readSign_9 (Nat.le_of_ble_eq_true rfl) rfl ?_
  refine g_iload C dX3_readSign_11 0 rfl ?_
  refine g_if_le C 34 dX3_readSign_13 (by decide) (fun c13 => ?_) (fun c13 => ?_)
  · have h := iteT c13 h
    refine g_aload_n C dX3_readSign_34 rfl 2 rfl ?_
    refine g_aload_n C dX3_readSign_35 rfl 4 rfl ?_
    refine g_iconst C dX3_readSign_36 ic_1 ?_
    obtain ⟨g37, hr37, h⟩ := bnd h
    refine g_xVv (k := 6) (As := [.ref (ad x2), .int (1 : Int32)]) (rest := []) (go := g37) (xo := xo) Y (fun sz => cX_LawReader_settle l D T ad sK sV xo g1 x2 (1 : Int32) hx2 _ hr37 sz) kX_RX3_47_LawReader_settle ⟨Nat.le_of_ble_eq_true rfl, Nat.le_of_ble_eq_true rfl⟩ ⟨rfl, rfl⟩ ⟨Nat.zero_le _, Nat.zero_le _⟩ (rfl : vwCl[3]? = some (RX3, TX3, 3)) ob_6 rfl rfl (Nat.le_of_ble_eq_true rfl) dX3_readSign_37 ?_
    refine g_aload_n C dX3_readSign_40 rfl 2 rfl ?_
    refine gX_get_X3_15 (v := g37 6 1) C ob_6 rfl rfl dX3_readSign_41 ?_
    refine g_if_le C 63 dX3_readSign_44 (by decide) (fun c44 => ?_) (fun c44 => ?_)
    · have h := iteT c44 h
      refine g_iconst C dX3_readSign_63 ic_m1 ?_
      exact g_sub [2, 3, 4, 1] rfl (J64 r1 (-1 : Int32) g37 h)
    · have h := iteF c44 h
      refine g_aload_n C dX3_readSign_47 rfl 2 rfl ?_
      refine gX_get_X3_9 C ob_6 rfl dX3_readSign_48 ?_
      refine g_aload_n C dX3_readSign_51 rfl 2 rfl ?_
      refine gX_get_X3_15 (v := g37 6 1) C ob_6 rfl rfl dX3_readSign_52 ?_
      refine g_iconst C dX3_readSign_55 ic_1 ?_
      refine g_isub C dX3_readSign_56 ?_
      obtain ⟨r57, hr57, h⟩ := bnd h
      refine g_xSi (As := [.ref (ad 29), .int ((g37 6 1) - (1 : Int32))]) (rest := []) (ro := r57) (go := g37) (xo := xo) Y (fun sz => cX_Rows_at l D T ad sK sV xo g37 29 ((g37 6 1) - (1 : Int32)) _ hr57 sz) kX_RX3_125_Rows_at ⟨Nat.le_of_ble_eq_true rfl, Nat.le_of_ble_eq_true rfl⟩ ⟨rfl, rfl⟩ ⟨Nat.zero_le _, Nat.zero_le _⟩ rfl rfl (Nat.le_of_ble_eq_true rfl) dX3_readSign_57 ?_
      refine g_goto (tgt := 64) C dX3_readSign_60 (by decide) ?_
      exact g_sub [2, 3, 4, 1] rfl (J64 r1 r57 g37 h)
  · have h := iteF c13 h
    refine g_aload_n C dX3_readSign_16 rfl 2 rfl ?_
    refine g_aload_n C dX3_readSign_17 rfl 4 rfl ?_
    refine g_iload C dX3_readSign_18 0 rfl ?_
    obtain ⟨g20, hr20, h⟩ := bnd h
    refine g_xVv (k := 6) (As := [.ref (ad x2), .int (fX_LawReader_rankOf r1)]) (rest := []) (go := g20) (xo := xo) Y (fun sz => cX_LawReader_settle l D T ad sK sV xo g1 x2 (fX_LawReader_rankOf r1) hx2 _ hr20 sz) kX_RX3_47_LawReader_settle ⟨Nat.le_of_ble_eq_true rfl, Nat.le_of_ble_eq_true rfl⟩ ⟨rfl, rfl⟩ ⟨Nat.zero_le _, Nat.zero_le _⟩ (rfl : vwCl[3]? = some (RX3, TX3, 3)) ob_6 rfl rfl (Nat.le_of_ble_eq_true rfl) dX3_readSign_20 ?_
    refine g_aload_n C dX3_readSign_23 rfl 2 rfl ?_
    refine g_iload_n C dX3_readSign_24 rfl 1 rfl ?_
    obtain ⟨g25, hr25, h⟩ := bnd h
    refine g_xVv (k := 6) (As := [.int r1]) (rest := []) (go := g25) (xo := xo) Y (fun sz => cX_LawReader_hold l D T ad sK sV xo g20 r1 _ hr25 sz) kX_RX3_96_LawReader_hold ⟨Nat.le_of_ble_eq_true rfl, Nat.le_of_ble_eq_true rfl⟩ ⟨rfl, rfl⟩ ⟨Nat.zero_le _, Nat.zero_le _⟩ (rfl : vwCl[3]? = some (RX3, TX3, 3)) ob_6 rfl rfl (Nat.le_of_ble_eq_true rfl) dX3_readSign_25 ?_
    refine g_aload_n C dX3_readSign_28 rfl 3 rfl ?_
    obtain ⟨g29, hr29, h⟩ := ltb h
    refine g_xVv (k := 1) (As := []) (rest := []) (go := g29) (xo := xo) Y (fun sz => cX_Text_pass l D T ad sK sV xo g25 _ hr29 sz) kX_RX3_71_Text_pass ⟨Nat.le_of_ble_eq_true rfl, Nat.le_of_ble_eq_true rfl⟩ ⟨rfl, rfl⟩ ⟨Nat.zero_le _, Nat.zero_le _⟩ (rfl : vwCl[8]? = some (RX9, TX9, 8)) ob_1 rfl rfl (Nat.le_of_ble_eq_true rfl) dX3_readSign_29 ?_
    refine g_iconst C dX3_readSign_32 ic_1 ?_
    obtain rfl := Option.some.inj h
    exact g_zret C rfl rfl rfl rfl dX3_readSign_33
def fX_LawReader_readFrom_b80 (x2 : Nat) (g : St) : Option (St) :=
  (fX_LawReader_settle x2 (1 : Int32) g).bind fun g83 => (some g83)
def fX_LawReader_readFrom_b71 (x2 : Nat) (g : St) : Option (St) :=
  lt1 (fX_Text_blame (1 : Int32) (g 1 3) g) fun g77 => (fX_LawReader_readFrom_b80 x2 g77)
def fX_LawReader_readFrom_b53 (x2 : Nat) (x4 : Int32) (s0 : Int32) (g : St) : Option ((Int32 × Int32 × St) ⊕ ((Int32 × St))) :=
  some (.inl (s0, (x4 + (1 : Int32)), g))
def fX_LawReader_readFrom_L19 (x2 : Nat) : (Int32 × Int32 × St) → Option ((Int32 × Int32 × St) ⊕ ((Int32 × St))) := fun ⟨x3, x4, g⟩ =>
  if (150 : Int32) ≤ x4 then
    (some (.inr (x3, g)))
  else
    ((fX_Text_hasMore g).bind fun ⟨r28, g28⟩ => (if r28 = 0 then
    (some (.inr (x3, g28)))
  else
    (if x3 = 0 then
    ((fX_LawReader_readSign x2 g28).bind fun ⟨r50, g50⟩ => (fX_LawReader_readFrom_b53 x2 x4 r50 g50))
  else
    ((fX_LawReader_readUnit x2 g28).bind fun ⟨r41, g41⟩ => (fX_LawReader_readFrom_b53 x2 x4 r41 g41)))))
def fX_LawReader_readFrom_b19 (x2 : Nat) (x3 : Int32) (x4 : Int32) (g : St) : Option (St) :=
  (lp (fX_LawReader_readFrom_L19 x2) fuel (x3, x4, g)).bind (fun ⟨x3, g⟩ => if x3 = 0 then
    (if (g 6 2) ≤ 0 then
    (fX_LawReader_readFrom_b80 x2 g)
  else
    (fX_LawReader_readFrom_b71 x2 g))
  else
    (fX_LawReader_readFrom_b71 x2 g))
def fX_LawReader_readFrom (x2 : Nat) (g : St) : Option (St) :=
  lt1 (fX_Law_clear x2 (st (st g 6 1 (0 : Int32)) 6 2 (0 : Int32))) fun g11 => (fX_LawReader_readFrom_b19 x2 (1 : Int32) (0 : Int32) g11)
def rmX_LawReader_readFrom : Room := { frames := 10, cells := 0, slots := 0, locals := 227 }
abbrev GcX_LawReader_readFrom (l : Launch) (D : va_G) (T : cT) (ad : Nat → Nat) (Γ : Cxt) (o : St) (xo : Sl) (x : Sl) (g : St) (pc : Nat) (lv : List (Nat × Value)) (stk : List Value) : Prop := Gj l shX D T ad 5 (rmX_LawReader_readFrom) 0 0 Γ (MQ Γ.below (va_Qv (eqV o xo) (wPost shX D T ad Γ.A) Γ.A) Γ.args Γ.s 0 0 Γ.A) x g pc lv stk
set_option maxRecDepth 100000 in
set_option maxHeartbeats 4000000 in
theorem cX_LawReader_readFrom (l : Launch) (D : va_G) (T : cT) (ad : Nat → Nat) (sK sV : Nat → Nat) (xo : Sl) (g : St) (x2 : Nat) (hx2 : isLaw x2) (o : St) (h : fX_LawReader_readFrom x2 g = some o) (sz : Nat) : Met l yX3_readFrom wX_LawReader_readFrom (rmX_LawReader_readFrom) (va_Pc [.ref (ad 6), .ref (ad 1), .ref (ad x2)] (xPre shX D T ad sK sV xo g sz)) (va_Qv (eqV o xo) (wPost shX D T ad (aW shX T ad xo g sz)) (aW shX T ad xo g sz)) 0 0 (aW shX T ad xo g sz) := by
  refine g_startx (Qc := fun A => va_Qv (eqV o xo) (wPost shX D T ad A) A) (by decide +kernel) rfl rfl (Nat.le_of_ble_eq_true rfl) (lv := [(0, .ref (ad 6)), (1, .ref (ad 1)), (2, .ref (ad x2))]) rfl (fun Γ Y => ?_)
  have C := Y.1
  show GcX_LawReader_readFrom l D T ad Γ o xo xo g 0 [(0, .ref (ad 6)), (1, .ref (ad 1)), (2, .ref (ad x2))] []
  have J80 : ∀ (g : St), fX_LawReader_readFrom_b80 x2 g = some o → GcX_LawReader_readFrom l D T ad Γ o xo xo g 80 [(0, .ref (ad 6)), (2, .ref (ad x2))] [] := by
    intro g h
    refine g_aload_n C dX3_readFrom_80 rfl 0 rfl ?_
    refine g_aload_n C dX3_readFrom_81 rfl 1 rfl ?_
    refine g_iconst C dX3_readFrom_82 ic_1 ?_
    obtain ⟨g83, hr83, h⟩ := bnd h
    refine g_xVv (k := 6) (As := [.ref (ad x2), .int (1 : Int32)]) (rest := []) (go := g83) (xo := xo) Y (fun sz => cX_LawReader_settle l D T ad sK sV xo g x2 (1 : Int32) hx2 _ hr83 sz) kX_RX3_47_LawReader_settle ⟨Nat.le_of_ble_eq_true rfl, Nat.le_of_ble_eq_true rfl⟩ ⟨rfl, rfl⟩ ⟨Nat.zero_le _, Nat.zero_le _⟩ (rfl : vwCl[3]? = some (RX3, TX3, 3)) ob_6 rfl rfl (Nat.le_of_ble_eq_true rfl) dX3_readFrom_83 ?_
    obtain rfl := Option.some.inj h
    exact g_vret C rfl rfl dX3_readFrom_86
  have J71 : ∀ (g : St), fX_LawReader_readFrom_b71 x2 g = some o → GcX_LawReader_readFrom l D T ad Γ o xo xo g 71 [(0, .ref (ad 6)), (1, .ref (ad 1)), (2, .ref (ad x2))] [] := by
    intro g h
    refine g_aload_n C dX3_readFrom_71 rfl 1 rfl ?_
    refine g_iconst C dX3_readFrom_72 ic_1 ?_
    refine g_aload_n C dX3_readFrom_73 rfl 1 rfl ?_
    refine gX_get_X3_40 (v := g 1 3) C ob_1 rfl rfl dX3_readFrom_74 ?_
    obtain ⟨g77, hr77, h⟩ := ltb h
    refine g_xVv (k := 1) (As := [.int (1 : Int32), .int (g 1 3)]) (rest := []) (go := g77) (xo := xo) Y (fun sz => cX_Text_blame l D T ad sK sV xo g (1 : Int32) (g 1 3) _ hr77 sz) kX_RX3_43_Text_blame ⟨Nat.le_of_ble_eq_true rfl, Nat.le_of_ble_eq_true rfl⟩ ⟨rfl, rfl⟩ ⟨Nat.zero_le _, Nat.zero_le _⟩ (rfl : vwCl[8]? = some (RX9, TX9, 8)) ob_1 rfl rfl (Nat.le_of_ble_eq_true rfl) dX3_readFrom_77 ?_
    exact g_sub [0, 2] rfl (J80 g77 h)
  have J19 : ∀ (x3 : Int32) (x4 : Int32) (g : St), fX_LawReader_readFrom_b19 x2 x3 x4 g = some o → GcX_LawReader_readFrom l D T ad Γ o xo xo g 19 [(0, .ref (ad 6)), (1, .ref (ad 1)), (2, .ref (ad x2)), (3, .int x3), (4, .int x4)] [] := by
    intro x3 x4 g h
    obtain ⟨⟨x3, g⟩, ht, h⟩ := bnd h
    refine lp_run (P := fun t : Int32 × Int32 × St => match t with | (x3, x4, g) => GcX_LawReader_readFrom l D T ad Γ o xo xo g 19 [(0, .ref (ad 6)), (1, .ref (ad 1)), (2, .ref (ad x2)), (3, .int x3), (4, .int x4)] []) (E := fun t : Int32 × St => match t with | (x3, g) => GcX_LawReader_readFrom l D T ad Γ o xo xo g 60 [(0, .ref (ad 6)), (1, .ref (ad 1)), (2, .ref (ad x2)), (3, .int x3)] []) ?_ _ _ _ ht ?_
    · rintro ⟨x3, x4, g⟩ z h Kt Ke
      show GcX_LawReader_readFrom l D T ad Γ o xo xo g 19 [(0, .ref (ad 6)), (1, .ref (ad 1)), (2, .ref (ad x2)), (3, .int x3), (4, .int x4)] []
      have J53 : ∀ (x4 : Int32) (s0 : Int32) (g : St), fX_LawReader_readFrom_b53 x2 x4 s0 g = some z → GcX_LawReader_readFrom l D T ad Γ o xo xo g 53 [(0, .ref (ad 6)), (1, .ref (ad 1)), (2, .ref (ad x2)), (4, .int x4)] [.int s0] := by
        intro x4 s0 g h
        refine g_istore_n (lv' := [(3, .int s0), (0, .ref (ad 6)), (1, .ref (ad 1)), (2, .ref (ad x2)), (4, .int x4)]) C dX3_readFrom_53 rfl (Nat.le_of_ble_eq_true rfl) rfl ?_
        refine g_iinc (lv' := [(4, .int (x4 + (1 : Int32))), (3, .int s0), (0, .ref (ad 6)), (1, .ref (ad 1)), (2, .ref (ad x2))]) C dX3_readFrom_54 4 rfl (ii_1 _) (Nat.le_of_ble_eq_true rfl) rfl ?_
        refine g_goto (tgt := 19) C dX3_readFrom_57 (by decide) ?_
        exact g_sub [2, 3, 4, 1, 0] rfl (Kt _ (Option.some.inj h).symm)
      refine g_iload C dX3_readFrom_19 4 rfl ?_
      refine g_sipush C dX3_readFrom_21 sp_150 ?_
      refine g_icmp_ge C 60 dX3_readFrom_24 (by decide) (fun c24 => ?_) (fun c24 => ?_)
      · have h := iteT c24 h
        exact g_sub [0, 1, 2, 3] rfl (Ke _ (Option.some.inj h).symm)
      · have h := iteF c24 h
        refine g_aload_n C dX3_readFrom_27 rfl 1 rfl ?_
        obtain ⟨⟨r28, g28⟩, hr28, h⟩ := bnd h
        refine g_xVz (k := 1) (As := []) (rest := []) (ro := r28) (go := g28) (xo := xo) Y (fun sz => cX_Text_hasMore l D T ad sK sV xo g _ hr28 sz) kX_RX3_27_Text_hasMore ⟨Nat.le_of_ble_eq_true rfl, Nat.le_of_ble_eq_true rfl⟩ ⟨rfl, rfl⟩ ⟨Nat.zero_le _, Nat.zero_le _⟩ (rfl : vwCl[8]? = some (RX9, TX9, 8)) ob_1 rfl rfl (Nat.le_of_ble_eq_true rfl) dX3_readFrom_28 (fun hz28 => ?_)
        refine g_if_eq C 60 dX3_readFrom_31 (by decide) (fun c31 => ?_) (fun c31 => ?_)
        · have h := iteT c31 h
          exact g_sub [0, 1, 2, 3] rfl (Ke _ (Option.some.inj h).symm)
        · have h := iteF c31 h
          refine g_iload_n C dX3_readFrom_34 rfl 3 rfl ?_
          refine g_if_eq C 47 dX3_readFrom_35 (by decide) (fun c35 => ?_) (fun c35 => ?_)
          · have h := iteT c35 h
            refine g_aload_n C dX3_readFrom_47 rfl 0 rfl ?_
            refine g_aload_n C dX3_readFrom_48 rfl 1 rfl ?_
            refine g_aload_n C dX3_readFrom_49 rfl 2 rfl ?_
            obtain ⟨⟨r50, g50⟩, hr50, h⟩ := bnd h
            refine g_xVz (k := 6) (As := [.ref (ad 1), .ref (ad x2)]) (rest := []) (ro := r50) (go := g50) (xo := xo) Y (fun sz => cX_LawReader_readSign l D T ad sK sV xo g28 x2 hx2 _ hr50 sz) kX_RX3_37_LawReader_readSign ⟨Nat.le_of_ble_eq_true rfl, Nat.le_of_ble_eq_true rfl⟩ ⟨rfl, rfl⟩ ⟨Nat.zero_le _, Nat.zero_le _⟩ (rfl : vwCl[3]? = some (RX3, TX3, 3)) ob_6 rfl rfl (Nat.le_of_ble_eq_true rfl) dX3_readFrom_50 (fun hz50 => ?_)
            exact g_sub [0, 1, 2, 4] rfl (J53 x4 r50 g50 h)
          · have h := iteF c35 h
            refine g_aload_n C dX3_readFrom_38 rfl 0 rfl ?_
            refine g_aload_n C dX3_readFrom_39 rfl 1 rfl ?_
            refine g_aload_n C dX3_readFrom_40 rfl 2 rfl ?_
            obtain ⟨⟨r41, g41⟩, hr41, h⟩ := bnd h
            refine g_xVz (k := 6) (As := [.ref (ad 1), .ref (ad x2)]) (rest := []) (ro := r41) (go := g41) (xo := xo) Y (fun sz => cX_LawReader_readUnit l D T ad sK sV xo g28 x2 hx2 _ hr41 sz) kX_RX3_33_LawReader_readUnit ⟨Nat.le_of_ble_eq_true rfl, Nat.le_of_ble_eq_true rfl⟩ ⟨rfl, rfl⟩ ⟨Nat.zero_le _, Nat.zero_le _⟩ (rfl : vwCl[3]? = some (RX3, TX3, 3)) ob_6 rfl rfl (Nat.le_of_ble_eq_true rfl) dX3_readFrom_41 (fun hz41 => ?_)
            refine g_goto (tgt := 53) C dX3_readFrom_44 (by decide) ?_
            exact g_sub [0, 1, 2, 4] rfl (J53 x4 r41 g41 h)
    · show GcX_LawReader_readFrom l D T ad Γ o xo xo g 60 [(0, .ref (ad 6)), (1, .ref (ad 1)), (2, .ref (ad x2)), (3, .int x3)] []
      refine g_iload_n C dX3_readFrom_60 rfl 3 rfl ?_
      refine g_if_ne C 71 dX3_readFrom_61 (by decide) (fun c61 => ?_) (fun c61 => ?_)
      · have h := iteT c61 h
        refine g_aload_n C dX3_readFrom_64 rfl 0 rfl ?_
        refine gX_get_X3_19 (v := g 6 2) C ob_6 rfl rfl dX3_readFrom_65 ?_
        refine g_if_le C 80 dX3_readFrom_68 (by decide) (fun c68 => ?_) (fun c68 => ?_)
        · have h := iteT c68 h
          exact g_sub [0, 2] rfl (J80 g h)
        · have h := iteF c68 h
          exact g_sub [0, 1, 2] rfl (J71 g h)
      · have h := iteF c61 h
        exact g_sub [0, 1, 2] rfl (J71 g h)
  refine g_aload_n C dX3_readFrom_0 rfl 0 rfl ?_
  refine g_iconst C dX3_readFrom_1 ic_0 ?_
  refine gX_put_X3_15 C ob_6 rfl dX3_readFrom_2 ?_
  refine g_aload_n C dX3_readFrom_5 rfl 0 rfl ?_
  refine g_iconst C dX3_readFrom_6 ic_0 ?_
  refine gX_put_X3_19 C ob_6 rfl dX3_readFrom_7 ?_
  refine g_aload_n C dX3_readFrom_10 rfl 2 rfl ?_
  obtain ⟨g11, hr11, h⟩ := ltb h
  refine g_xVv (k := x2) (As := []) (rest := []) (go := g11) (xo := xo) Y (fun sz => cX_Law_clear l D T ad sK sV xo (st (st g 6 1 (0 : Int32)) 6 2 (0 : Int32)) x2 hx2 _ hr11 sz) kX_RX3_22_Law_clear ⟨Nat.le_of_ble_eq_true rfl, Nat.le_of_ble_eq_true rfl⟩ ⟨rfl, rfl⟩ ⟨Nat.zero_le _, Nat.zero_le _⟩ (rfl : vwCl[2]? = some (RX2, TX2, 4)) (ob_Law hx2) rfl rfl (Nat.le_of_ble_eq_true rfl) dX3_readFrom_11 ?_
  refine g_iconst C dX3_readFrom_14 ic_1 ?_
  refine g_istore_n (lv' := [(3, .int (1 : Int32)), (0, .ref (ad 6)), (1, .ref (ad 1)), (2, .ref (ad x2))]) C dX3_readFrom_15 rfl (Nat.le_of_ble_eq_true rfl) rfl ?_
  refine g_iconst C dX3_readFrom_16 ic_0 ?_
  refine g_istore (lv' := [(4, .int (0 : Int32)), (3, .int (1 : Int32)), (0, .ref (ad 6)), (1, .ref (ad 1)), (2, .ref (ad x2))]) C dX3_readFrom_17 (Nat.le_of_ble_eq_true rfl) rfl ?_
  exact g_sub [2, 3, 4, 1, 0] rfl (J19 (1 : Int32) (0 : Int32) g11 h)
def fX_State_lives (th : Nat) (x1 : Int32) (g : St) : Option (Int32) :=
  if x1 < 0 then
    (some (0 : Int32))
  else
    (if (g 2 0) ≤ x1 then
    (some (0 : Int32))
  else
    ((fX_Rows_at (rX th 4) x1 g).bind fun r20 => (if r20 = (-1 : Int32) then
    (some (1 : Int32))
  else
    (some (0 : Int32)))))
def rmX_State_lives : Room := { frames := 1, cells := 0, slots := 0, locals := 21 }
abbrev GcX_State_lives (l : Launch) (D : va_G) (T : cT) (ad : Nat → Nat) (Γ : Cxt) (o : Int32) (xo : Sl) (g0 : St) (x : Sl) (g : St) (pc : Nat) (lv : List (Nat × Value)) (stk : List Value) : Prop := Gj l shX D T ad 2 (rmX_State_lives) 0 0 Γ (MQ Γ.below (va_Qi (eqZ o g0 xo) (wPost shX D T ad Γ.A) Γ.A) Γ.args Γ.s 0 0 Γ.A) x g pc lv stk
set_option maxRecDepth 100000 in
set_option maxHeartbeats 4000000 in
theorem cX_State_lives (l : Launch) (D : va_G) (T : cT) (ad : Nat → Nat) (sK sV : Nat → Nat) (xo : Sl) (g : St) (th : Nat) (x1 : Int32) (hth : isState th) (o : Int32) (h : fX_State_lives th x1 g = some o) (sz : Nat) : Met l yX7_lives wX_State_lives (rmX_State_lives) (va_Pc [.ref (ad th), .int x1] (xPre shX D T ad sK sV xo g sz)) (va_Qi (eqZ o g xo) (wPost shX D T ad (aW shX T ad xo g sz)) (aW shX T ad xo g sz)) 0 0 (aW shX T ad xo g sz) := by
  refine g_startx (Qc := fun A => va_Qi (eqZ o g xo) (wPost shX D T ad A) A) (by decide +kernel) rfl rfl (Nat.le_of_ble_eq_true rfl) (lv := [(0, .ref (ad th)), (1, .int x1)]) rfl (fun Γ Y => ?_)
  have C := Y.1
  show GcX_State_lives l D T ad Γ o xo g xo g 0 [(0, .ref (ad th)), (1, .int x1)] []
  refine g_iload_n C dX7_lives_0 rfl 1 rfl ?_
  refine g_if_lt C 31 dX7_lives_1 (by decide) (fun c1 => ?_) (fun c1 => ?_)
  · have h := iteT c1 h
    refine g_iconst C dX7_lives_31 ic_0 ?_
    obtain rfl := Option.some.inj h
    exact g_zret C rfl rfl rfl rfl dX7_lives_32
  · have h := iteF c1 h
    refine g_iload_n C dX7_lives_4 rfl 1 rfl ?_
    refine g_aload_n C dX7_lives_5 rfl 0 rfl ?_
    refine gX_get_X7_21 C (ob_State hth) (rf_State_0 hth) dX7_lives_6 ?_
    refine gX_get_X7_33 (v := g 2 0) C ob_2 rfl rfl dX7_lives_9 ?_
    refine g_icmp_ge C 31 dX7_lives_12 (by decide) (fun c12 => ?_) (fun c12 => ?_)
    · have h := iteT c12 h
      refine g_iconst C dX7_lives_31 ic_0 ?_
      obtain rfl := Option.some.inj h
      exact g_zret C rfl rfl rfl rfl dX7_lives_32
    · have h := iteF c12 h
      refine g_aload_n C dX7_lives_15 rfl 0 rfl ?_
      refine gX_get_X7_18 C (ob_State hth) (rf_State_4 hth) dX7_lives_16 ?_
      refine g_iload_n C dX7_lives_19 rfl 1 rfl ?_
      obtain ⟨r20, hr20, h⟩ := bnd h
      refine g_xSi (As := [.ref (ad (rX th 4)), .int x1]) (rest := []) (ro := r20) (go := g) (xo := xo) Y (fun sz => cX_Rows_at l D T ad sK sV xo g (rX th 4) x1 _ hr20 sz) kX_RX7_41_Rows_at ⟨Nat.le_of_ble_eq_true rfl, Nat.le_of_ble_eq_true rfl⟩ ⟨rfl, rfl⟩ ⟨Nat.zero_le _, Nat.zero_le _⟩ rfl rfl (Nat.le_of_ble_eq_true rfl) dX7_lives_20 ?_
      refine g_iconst C dX7_lives_23 ic_m1 ?_
      refine g_icmp_ne C 31 dX7_lives_24 (by decide) (fun c24 => ?_) (fun c24 => ?_)
      · have h := iteT c24 h
        refine g_iconst C dX7_lives_27 ic_1 ?_
        refine g_goto (tgt := 32) C dX7_lives_28 (by decide) ?_
        obtain rfl := Option.some.inj h
        exact g_zret C rfl rfl rfl rfl dX7_lives_32
      · have h := iteF c24 h
        refine g_iconst C dX7_lives_31 ic_0 ?_
        obtain rfl := Option.some.inj h
        exact g_zret C rfl rfl rfl rfl dX7_lives_32
def fX_State_living_b29 (th : Nat) (x1 : Int32) (x2 : Int32) (g : St) : Option ((Int32 × Int32) ⊕ (Int32)) :=
  some (.inl (x1, (x2 + (1 : Int32))))
def fX_State_living_L4 (th : Nat) (g : St) : (Int32 × Int32) → Option ((Int32 × Int32) ⊕ (Int32)) := fun ⟨x1, x2⟩ =>
  if (g 2 0) ≤ x2 then
    (some (.inr x1))
  else
    ((fX_State_lives th x2 g).bind fun r17 => (if r17 = 0 then
    (fX_State_living_b29 th x1 x2 g)
  else
    (fX_State_living_b29 th (x1 ||| ((1 : Int32) <<< (x2 &&& 31))) x2 g)))
def fX_State_living_b4 (th : Nat) (x1 : Int32) (x2 : Int32) (g : St) : Option (Int32) :=
  (lp (fX_State_living_L4 th g) fuel (x1, x2)).bind (fun x1 => some x1)
def fX_State_living (th : Nat) (g : St) : Option (Int32) :=
  fX_State_living_b4 th (0 : Int32) (0 : Int32) g
def rmX_State_living : Room := { frames := 2, cells := 0, slots := 0, locals := 42 }
abbrev GcX_State_living (l : Launch) (D : va_G) (T : cT) (ad : Nat → Nat) (Γ : Cxt) (o : Int32) (xo : Sl) (g0 : St) (x : Sl) (g : St) (pc : Nat) (lv : List (Nat × Value)) (stk : List Value) : Prop := Gj l shX D T ad 3 (rmX_State_living) 0 0 Γ (MQ Γ.below (va_Qi (eqI o g0 xo) (wPost shX D T ad Γ.A) Γ.A) Γ.args Γ.s 0 0 Γ.A) x g pc lv stk
set_option maxRecDepth 100000 in
set_option maxHeartbeats 4000000 in
theorem cX_State_living (l : Launch) (D : va_G) (T : cT) (ad : Nat → Nat) (sK sV : Nat → Nat) (xo : Sl) (g : St) (th : Nat) (hth : isState th) (o : Int32) (h : fX_State_living th g = some o) (sz : Nat) : Met l yX7_living wX_State_living (rmX_State_living) (va_Pc [.ref (ad th)] (xPre shX D T ad sK sV xo g sz)) (va_Qi (eqI o g xo) (wPost shX D T ad (aW shX T ad xo g sz)) (aW shX T ad xo g sz)) 0 0 (aW shX T ad xo g sz) := by
  refine g_startx (Qc := fun A => va_Qi (eqI o g xo) (wPost shX D T ad A) A) (by decide +kernel) rfl rfl (Nat.le_of_ble_eq_true rfl) (lv := [(0, .ref (ad th))]) rfl (fun Γ Y => ?_)
  have C := Y.1
  show GcX_State_living l D T ad Γ o xo g xo g 0 [(0, .ref (ad th))] []
  have J4 : ∀ (x1 : Int32) (x2 : Int32), fX_State_living_b4 th x1 x2 g = some o → GcX_State_living l D T ad Γ o xo g xo g 4 [(0, .ref (ad th)), (1, .int x1), (2, .int x2)] [] := by
    intro x1 x2 h
    obtain ⟨x1, ht, h⟩ := bnd h
    refine lp_run (P := fun t : Int32 × Int32 => match t with | (x1, x2) => GcX_State_living l D T ad Γ o xo g xo g 4 [(0, .ref (ad th)), (1, .int x1), (2, .int x2)] []) (E := fun x1 : Int32 => GcX_State_living l D T ad Γ o xo g xo g 35 [(1, .int x1)] []) ?_ _ _ _ ht ?_
    · rintro ⟨x1, x2⟩ z h Kt Ke
      show GcX_State_living l D T ad Γ o xo g xo g 4 [(0, .ref (ad th)), (1, .int x1), (2, .int x2)] []
      have J29 : ∀ (x1 : Int32) (x2 : Int32), fX_State_living_b29 th x1 x2 g = some z → GcX_State_living l D T ad Γ o xo g xo g 29 [(0, .ref (ad th)), (1, .int x1), (2, .int x2)] [] := by
        intro x1 x2 h
        refine g_iinc (lv' := [(2, .int (x2 + (1 : Int32))), (0, .ref (ad th)), (1, .int x1)]) C dX7_living_29 2 rfl (ii_1 _) (Nat.le_of_ble_eq_true rfl) rfl ?_
        refine g_goto (tgt := 4) C dX7_living_32 (by decide) ?_
        exact g_sub [1, 2, 0] rfl (Kt _ (Option.some.inj h).symm)
      refine g_iload_n C dX7_living_4 rfl 2 rfl ?_
      refine g_aload_n C dX7_living_5 rfl 0 rfl ?_
      refine gX_get_X7_21 C (ob_State hth) (rf_State_0 hth) dX7_living_6 ?_
      refine gX_get_X7_33 (v := g 2 0) C ob_2 rfl rfl dX7_living_9 ?_
      refine g_icmp_ge C 35 dX7_living_12 (by decide) (fun c12 => ?_) (fun c12 => ?_)
      · have h := iteT c12 h
        exact g_sub [1] rfl (Ke _ (Option.some.inj h).symm)
      · have h := iteF c12 h
        refine g_aload_n C dX7_living_15 rfl 0 rfl ?_
        refine g_iload_n C dX7_living_16 rfl 2 rfl ?_
        obtain ⟨r17, hr17, h⟩ := bnd h
        refine g_xVz (k := th) (As := [.int x2]) (rest := []) (ro := r17) (go := g) (xo := xo) Y (fun sz => cX_State_lives l D T ad sK sV xo g th x2 hth _ hr17 sz) kX_RX7_55_State_lives ⟨Nat.le_of_ble_eq_true rfl, Nat.le_of_ble_eq_true rfl⟩ ⟨rfl, rfl⟩ ⟨Nat.zero_le _, Nat.zero_le _⟩ (rfl : vwCl[6]? = some (RX7, TX7, 6)) (ob_State hth) rfl rfl (Nat.le_of_ble_eq_true rfl) dX7_living_17 (fun hz17 => ?_)
        refine g_if_eq C 29 dX7_living_20 (by decide) (fun c20 => ?_) (fun c20 => ?_)
        · have h := iteT c20 h
          exact J29 x1 x2 h
        · have h := iteF c20 h
          refine g_iload_n C dX7_living_23 rfl 1 rfl ?_
          refine g_iconst C dX7_living_24 ic_1 ?_
          refine g_iload_n C dX7_living_25 rfl 2 rfl ?_
          refine g_ishl C dX7_living_26 ?_
          refine g_ior C dX7_living_27 ?_
          refine g_istore_n (lv' := [(1, .int (x1 ||| ((1 : Int32) <<< (x2 &&& 31)))), (0, .ref (ad th)), (2, .int x2)]) C dX7_living_28 rfl (Nat.le_of_ble_eq_true rfl) rfl ?_
          exact g_sub [1, 0, 2] rfl (J29 (x1 ||| ((1 : Int32) <<< (x2 &&& 31))) x2 h)
    · show GcX_State_living l D T ad Γ o xo g xo g 35 [(1, .int x1)] []
      refine g_iload_n C dX7_living_35 rfl 0 rfl ?_
      obtain rfl := Option.some.inj h
      exact g_iret C rfl rfl rfl dX7_living_36
  refine g_iconst C dX7_living_0 ic_0 ?_
  refine g_istore_n (lv' := [(1, .int (0 : Int32)), (0, .ref (ad th))]) C dX7_living_1 rfl (Nat.le_of_ble_eq_true rfl) rfl ?_
  refine g_iconst C dX7_living_2 ic_0 ?_
  refine g_istore_n (lv' := [(2, .int (0 : Int32)), (1, .int (0 : Int32)), (0, .ref (ad th))]) C dX7_living_3 rfl (Nat.le_of_ble_eq_true rfl) rfl ?_
  exact g_sub [2, 1, 0] rfl (J4 (0 : Int32) (0 : Int32) h)
def fX_J_bitCount (x0 : Int32) : Int32 :=
  ((((((((x0 - (((x0.toUInt32 >>> ((1 : Int32).toUInt32 &&& Int32.toUInt32 31)).toInt32) &&& (1431655765 : Int32))) &&& (858993459 : Int32)) + ((((x0 - (((x0.toUInt32 >>> ((1 : Int32).toUInt32 &&& Int32.toUInt32 31)).toInt32) &&& (1431655765 : Int32))).toUInt32 >>> ((2 : Int32).toUInt32 &&& Int32.toUInt32 31)).toInt32) &&& (858993459 : Int32))) + (((((x0 - (((x0.toUInt32 >>> ((1 : Int32).toUInt32 &&& Int32.toUInt32 31)).toInt32) &&& (1431655765 : Int32))) &&& (858993459 : Int32)) + ((((x0 - (((x0.toUInt32 >>> ((1 : Int32).toUInt32 &&& Int32.toUInt32 31)).toInt32) &&& (1431655765 : Int32))).toUInt32 >>> ((2 : Int32).toUInt32 &&& Int32.toUInt32 31)).toInt32) &&& (858993459 : Int32))).toUInt32 >>> ((4 : Int32).toUInt32 &&& Int32.toUInt32 31)).toInt32)) &&& (252645135 : Int32)) + (((((((x0 - (((x0.toUInt32 >>> ((1 : Int32).toUInt32 &&& Int32.toUInt32 31)).toInt32) &&& (1431655765 : Int32))) &&& (858993459 : Int32)) + ((((x0 - (((x0.toUInt32 >>> ((1 : Int32).toUInt32 &&& Int32.toUInt32 31)).toInt32) &&& (1431655765 : Int32))).toUInt32 >>> ((2 : Int32).toUInt32 &&& Int32.toUInt32 31)).toInt32) &&& (858993459 : Int32))) + (((((x0 - (((x0.toUInt32 >>> ((1 : Int32).toUInt32 &&& Int32.toUInt32 31)).toInt32) &&& (1431655765 : Int32))) &&& (858993459 : Int32)) + ((((x0 - (((x0.toUInt32 >>> ((1 : Int32).toUInt32 &&& Int32.toUInt32 31)).toInt32) &&& (1431655765 : Int32))).toUInt32 >>> ((2 : Int32).toUInt32 &&& Int32.toUInt32 31)).toInt32) &&& (858993459 : Int32))).toUInt32 >>> ((4 : Int32).toUInt32 &&& Int32.toUInt32 31)).toInt32)) &&& (252645135 : Int32)).toUInt32 >>> ((8 : Int32).toUInt32 &&& Int32.toUInt32 31)).toInt32)) + ((((((((x0 - (((x0.toUInt32 >>> ((1 : Int32).toUInt32 &&& Int32.toUInt32 31)).toInt32) &&& (1431655765 : Int32))) &&& (858993459 : Int32)) + ((((x0 - (((x0.toUInt32 >>> ((1 : Int32).toUInt32 &&& Int32.toUInt32 31)).toInt32) &&& (1431655765 : Int32))).toUInt32 >>> ((2 : Int32).toUInt32 &&& Int32.toUInt32 31)).toInt32) &&& (858993459 : Int32))) + (((((x0 - (((x0.toUInt32 >>> ((1 : Int32).toUInt32 &&& Int32.toUInt32 31)).toInt32) &&& (1431655765 : Int32))) &&& (858993459 : Int32)) + ((((x0 - (((x0.toUInt32 >>> ((1 : Int32).toUInt32 &&& Int32.toUInt32 31)).toInt32) &&& (1431655765 : Int32))).toUInt32 >>> ((2 : Int32).toUInt32 &&& Int32.toUInt32 31)).toInt32) &&& (858993459 : Int32))).toUInt32 >>> ((4 : Int32).toUInt32 &&& Int32.toUInt32 31)).toInt32)) &&& (252645135 : Int32)) + (((((((x0 - (((x0.toUInt32 >>> ((1 : Int32).toUInt32 &&& Int32.toUInt32 31)).toInt32) &&& (1431655765 : Int32))) &&& (858993459 : Int32)) + ((((x0 - (((x0.toUInt32 >>> ((1 : Int32).toUInt32 &&& Int32.toUInt32 31)).toInt32) &&& (1431655765 : Int32))).toUInt32 >>> ((2 : Int32).toUInt32 &&& Int32.toUInt32 31)).toInt32) &&& (858993459 : Int32))) + (((((x0 - (((x0.toUInt32 >>> ((1 : Int32).toUInt32 &&& Int32.toUInt32 31)).toInt32) &&& (1431655765 : Int32))) &&& (858993459 : Int32)) + ((((x0 - (((x0.toUInt32 >>> ((1 : Int32).toUInt32 &&& Int32.toUInt32 31)).toInt32) &&& (1431655765 : Int32))).toUInt32 >>> ((2 : Int32).toUInt32 &&& Int32.toUInt32 31)).toInt32) &&& (858993459 : Int32))).toUInt32 >>> ((4 : Int32).toUInt32 &&& Int32.toUInt32 31)).toInt32)) &&& (252645135 : Int32)).toUInt32 >>> ((8 : Int32).toUInt32 &&& Int32.toUInt32 31)).toInt32)).toUInt32 >>> ((16 : Int32).toUInt32 &&& Int32.toUInt32 31)).toInt32)) &&& (63 : Int32))
def rmX_J_bitCount : Room := { frames := 0, cells := 0, slots := 0, locals := 0 }
abbrev GcX_J_bitCount (l : Launch) (D : va_G) (T : cT) (ad : Nat → Nat) (Γ : Cxt) (o : Int32) (xo : Sl) (g0 : St) (x : Sl) (g : St) (pc : Nat) (lv : List (Nat × Value)) (stk : List Value) : Prop := Gj l shX D T ad 1 (rmX_J_bitCount) 0 0 Γ (MQ Γ.below (va_Qi (eqI o g0 xo) (wPost shX D T ad Γ.A) Γ.A) Γ.args Γ.s 0 0 Γ.A) x g pc lv stk
set_option maxRecDepth 100000 in
set_option maxHeartbeats 4000000 in
theorem cX_J_bitCount (l : Launch) (D : va_G) (T : cT) (ad : Nat → Nat) (sK sV : Nat → Nat) (xo : Sl) (g : St) (x0 : Int32) (o : Int32) (h : fX_J_bitCount x0 = o) (sz : Nat) : Met l yJ6_bitCount_0f7a4 wX_J_bitCount (rmX_J_bitCount) (va_Pc [.int x0] (xPre shX D T ad sK sV xo g sz)) (va_Qi (eqI o g xo) (wPost shX D T ad (aW shX T ad xo g sz)) (aW shX T ad xo g sz)) 0 0 (aW shX T ad xo g sz) := by
  refine g_startx (Qc := fun A => va_Qi (eqI o g xo) (wPost shX D T ad A) A) (by decide +kernel) rfl rfl (Nat.le_of_ble_eq_true rfl) (lv := [(0, .int x0)]) rfl (fun Γ Y => ?_)
  have C := Y.1
  show GcX_J_bitCount l D T ad Γ o xo g xo g 0 [(0, .int x0)] []
  refine g_iload_n C dJ6_bitCount_0f7a4_0 rfl 0 rfl ?_
  refine g_iload_n C dJ6_bitCount_0f7a4_1 rfl 0 rfl ?_
  refine g_iconst C dJ6_bitCount_0f7a4_2 ic_1 ?_
  refine g_iushr C dJ6_bitCount_0f7a4_3 ?_
  refine g_ldc_w C dJ6_bitCount_0f7a4_4 (List.mem_cons_of_mem _ bx_268) ?_
  refine g_iand C dJ6_bitCount_0f7a4_7 ?_
  refine g_isub C dJ6_bitCount_0f7a4_8 ?_
  refine g_istore_n (lv' := [(0, .int (x0 - (((x0.toUInt32 >>> ((1 : Int32).toUInt32 &&& Int32.toUInt32 31)).toInt32) &&& (1431655765 : Int32))))]) C dJ6_bitCount_0f7a4_9 rfl (Nat.le_of_ble_eq_true rfl) rfl ?_
  refine g_iload_n C dJ6_bitCount_0f7a4_10 rfl 0 rfl ?_
  refine g_ldc_w C dJ6_bitCount_0f7a4_11 (List.mem_cons_of_mem _ bx_269) ?_
  refine g_iand C dJ6_bitCount_0f7a4_14 ?_
  refine g_iload_n C dJ6_bitCount_0f7a4_15 rfl 0 rfl ?_
  refine g_iconst C dJ6_bitCount_0f7a4_16 ic_2 ?_
  refine g_iushr C dJ6_bitCount_0f7a4_17 ?_
  refine g_ldc_w C dJ6_bitCount_0f7a4_18 (List.mem_cons_of_mem _ bx_269) ?_
  refine g_iand C dJ6_bitCount_0f7a4_21 ?_
  refine g_iadd C dJ6_bitCount_0f7a4_22 ?_
  refine g_istore_n (lv' := [(0, .int (((x0 - (((x0.toUInt32 >>> ((1 : Int32).toUInt32 &&& Int32.toUInt32 31)).toInt32) &&& (1431655765 : Int32))) &&& (858993459 : Int32)) + ((((x0 - (((x0.toUInt32 >>> ((1 : Int32).toUInt32 &&& Int32.toUInt32 31)).toInt32) &&& (1431655765 : Int32))).toUInt32 >>> ((2 : Int32).toUInt32 &&& Int32.toUInt32 31)).toInt32) &&& (858993459 : Int32))))]) C dJ6_bitCount_0f7a4_23 rfl (Nat.le_of_ble_eq_true rfl) rfl ?_
  refine g_iload_n C dJ6_bitCount_0f7a4_24 rfl 0 rfl ?_
  refine g_iload_n C dJ6_bitCount_0f7a4_25 rfl 0 rfl ?_
  refine g_iconst C dJ6_bitCount_0f7a4_26 ic_4 ?_
  refine g_iushr C dJ6_bitCount_0f7a4_27 ?_
  refine g_iadd C dJ6_bitCount_0f7a4_28 ?_
  refine g_ldc_w C dJ6_bitCount_0f7a4_29 (List.mem_cons_of_mem _ bx_270) ?_
  refine g_iand C dJ6_bitCount_0f7a4_32 ?_
  refine g_istore_n (lv' := [(0, .int (((((x0 - (((x0.toUInt32 >>> ((1 : Int32).toUInt32 &&& Int32.toUInt32 31)).toInt32) &&& (1431655765 : Int32))) &&& (858993459 : Int32)) + ((((x0 - (((x0.toUInt32 >>> ((1 : Int32).toUInt32 &&& Int32.toUInt32 31)).toInt32) &&& (1431655765 : Int32))).toUInt32 >>> ((2 : Int32).toUInt32 &&& Int32.toUInt32 31)).toInt32) &&& (858993459 : Int32))) + (((((x0 - (((x0.toUInt32 >>> ((1 : Int32).toUInt32 &&& Int32.toUInt32 31)).toInt32) &&& (1431655765 : Int32))) &&& (858993459 : Int32)) + ((((x0 - (((x0.toUInt32 >>> ((1 : Int32).toUInt32 &&& Int32.toUInt32 31)).toInt32) &&& (1431655765 : Int32))).toUInt32 >>> ((2 : Int32).toUInt32 &&& Int32.toUInt32 31)).toInt32) &&& (858993459 : Int32))).toUInt32 >>> ((4 : Int32).toUInt32 &&& Int32.toUInt32 31)).toInt32)) &&& (252645135 : Int32)))]) C dJ6_bitCount_0f7a4_33 rfl (Nat.le_of_ble_eq_true rfl) rfl ?_
  refine g_iload_n C dJ6_bitCount_0f7a4_34 rfl 0 rfl ?_
  refine g_iload_n C dJ6_bitCount_0f7a4_35 rfl 0 rfl ?_
  refine g_bipush C dJ6_bitCount_0f7a4_36 bp_8 ?_
  refine g_iushr C dJ6_bitCount_0f7a4_38 ?_
  refine g_iadd C dJ6_bitCount_0f7a4_39 ?_
  refine g_istore_n (lv' := [(0, .int ((((((x0 - (((x0.toUInt32 >>> ((1 : Int32).toUInt32 &&& Int32.toUInt32 31)).toInt32) &&& (1431655765 : Int32))) &&& (858993459 : Int32)) + ((((x0 - (((x0.toUInt32 >>> ((1 : Int32).toUInt32 &&& Int32.toUInt32 31)).toInt32) &&& (1431655765 : Int32))).toUInt32 >>> ((2 : Int32).toUInt32 &&& Int32.toUInt32 31)).toInt32) &&& (858993459 : Int32))) + (((((x0 - (((x0.toUInt32 >>> ((1 : Int32).toUInt32 &&& Int32.toUInt32 31)).toInt32) &&& (1431655765 : Int32))) &&& (858993459 : Int32)) + ((((x0 - (((x0.toUInt32 >>> ((1 : Int32).toUInt32 &&& Int32.toUInt32 31)).toInt32) &&& (1431655765 : Int32))).toUInt32 >>> ((2 : Int32).toUInt32 &&& Int32.toUInt32 31)).toInt32) &&& (858993459 : Int32))).toUInt32 >>> ((4 : Int32).toUInt32 &&& Int32.toUInt32 31)).toInt32)) &&& (252645135 : Int32)) + (((((((x0 - (((x0.toUInt32 >>> ((1 : Int32).toUInt32 &&& Int32.toUInt32 31)).toInt32) &&& (1431655765 : Int32))) &&& (858993459 : Int32)) + ((((x0 - (((x0.toUInt32 >>> ((1 : Int32).toUInt32 &&& Int32.toUInt32 31)).toInt32) &&& (1431655765 : Int32))).toUInt32 >>> ((2 : Int32).toUInt32 &&& Int32.toUInt32 31)).toInt32) &&& (858993459 : Int32))) + (((((x0 - (((x0.toUInt32 >>> ((1 : Int32).toUInt32 &&& Int32.toUInt32 31)).toInt32) &&& (1431655765 : Int32))) &&& (858993459 : Int32)) + ((((x0 - (((x0.toUInt32 >>> ((1 : Int32).toUInt32 &&& Int32.toUInt32 31)).toInt32) &&& (1431655765 : Int32))).toUInt32 >>> ((2 : Int32).toUInt32 &&& Int32.toUInt32 31)).toInt32) &&& (858993459 : Int32))).toUInt32 >>> ((4 : Int32).toUInt32 &&& Int32.toUInt32 31)).toInt32)) &&& (252645135 : Int32)).toUInt32 >>> ((8 : Int32).toUInt32 &&& Int32.toUInt32 31)).toInt32)))]) C dJ6_bitCount_0f7a4_40 rfl (Nat.le_of_ble_eq_true rfl) rfl ?_
  refine g_iload_n C dJ6_bitCount_0f7a4_41 rfl 0 rfl ?_
  refine g_iload_n C dJ6_bitCount_0f7a4_42 rfl 0 rfl ?_
  refine g_bipush C dJ6_bitCount_0f7a4_43 bp_16 ?_
  refine g_iushr C dJ6_bitCount_0f7a4_45 ?_
  refine g_iadd C dJ6_bitCount_0f7a4_46 ?_
  refine g_istore_n (lv' := [(0, .int (((((((x0 - (((x0.toUInt32 >>> ((1 : Int32).toUInt32 &&& Int32.toUInt32 31)).toInt32) &&& (1431655765 : Int32))) &&& (858993459 : Int32)) + ((((x0 - (((x0.toUInt32 >>> ((1 : Int32).toUInt32 &&& Int32.toUInt32 31)).toInt32) &&& (1431655765 : Int32))).toUInt32 >>> ((2 : Int32).toUInt32 &&& Int32.toUInt32 31)).toInt32) &&& (858993459 : Int32))) + (((((x0 - (((x0.toUInt32 >>> ((1 : Int32).toUInt32 &&& Int32.toUInt32 31)).toInt32) &&& (1431655765 : Int32))) &&& (858993459 : Int32)) + ((((x0 - (((x0.toUInt32 >>> ((1 : Int32).toUInt32 &&& Int32.toUInt32 31)).toInt32) &&& (1431655765 : Int32))).toUInt32 >>> ((2 : Int32).toUInt32 &&& Int32.toUInt32 31)).toInt32) &&& (858993459 : Int32))).toUInt32 >>> ((4 : Int32).toUInt32 &&& Int32.toUInt32 31)).toInt32)) &&& (252645135 : Int32)) + (((((((x0 - (((x0.toUInt32 >>> ((1 : Int32).toUInt32 &&& Int32.toUInt32 31)).toInt32) &&& (1431655765 : Int32))) &&& (858993459 : Int32)) + ((((x0 - (((x0.toUInt32 >>> ((1 : Int32).toUInt32 &&& Int32.toUInt32 31)).toInt32) &&& (1431655765 : Int32))).toUInt32 >>> ((2 : Int32).toUInt32 &&& Int32.toUInt32 31)).toInt32) &&& (858993459 : Int32))) + (((((x0 - (((x0.toUInt32 >>> ((1 : Int32).toUInt32 &&& Int32.toUInt32 31)).toInt32) &&& (1431655765 : Int32))) &&& (858993459 : Int32)) + ((((x0 - (((x0.toUInt32 >>> ((1 : Int32).toUInt32 &&& Int32.toUInt32 31)).toInt32) &&& (1431655765 : Int32))).toUInt32 >>> ((2 : Int32).toUInt32 &&& Int32.toUInt32 31)).toInt32) &&& (858993459 : Int32))).toUInt32 >>> ((4 : Int32).toUInt32 &&& Int32.toUInt32 31)).toInt32)) &&& (252645135 : Int32)).toUInt32 >>> ((8 : Int32).toUInt32 &&& Int32.toUInt32 31)).toInt32)) + ((((((((x0 - (((x0.toUInt32 >>> ((1 : Int32).toUInt32 &&& Int32.toUInt32 31)).toInt32) &&& (1431655765 : Int32))) &&& (858993459 : Int32)) + ((((x0 - (((x0.toUInt32 >>> ((1 : Int32).toUInt32 &&& Int32.toUInt32 31)).toInt32) &&& (1431655765 : Int32))).toUInt32 >>> ((2 : Int32).toUInt32 &&& Int32.toUInt32 31)).toInt32) &&& (858993459 : Int32))) + (((((x0 - (((x0.toUInt32 >>> ((1 : Int32).toUInt32 &&& Int32.toUInt32 31)).toInt32) &&& (1431655765 : Int32))) &&& (858993459 : Int32)) + ((((x0 - (((x0.toUInt32 >>> ((1 : Int32).toUInt32 &&& Int32.toUInt32 31)).toInt32) &&& (1431655765 : Int32))).toUInt32 >>> ((2 : Int32).toUInt32 &&& Int32.toUInt32 31)).toInt32) &&& (858993459 : Int32))).toUInt32 >>> ((4 : Int32).toUInt32 &&& Int32.toUInt32 31)).toInt32)) &&& (252645135 : Int32)) + (((((((x0 - (((x0.toUInt32 >>> ((1 : Int32).toUInt32 &&& Int32.toUInt32 31)).toInt32) &&& (1431655765 : Int32))) &&& (858993459 : Int32)) + ((((x0 - (((x0.toUInt32 >>> ((1 : Int32).toUInt32 &&& Int32.toUInt32 31)).toInt32) &&& (1431655765 : Int32))).toUInt32 >>> ((2 : Int32).toUInt32 &&& Int32.toUInt32 31)).toInt32) &&& (858993459 : Int32))) + (((((x0 - (((x0.toUInt32 >>> ((1 : Int32).toUInt32 &&& Int32.toUInt32 31)).toInt32) &&& (1431655765 : Int32))) &&& (858993459 : Int32)) + ((((x0 - (((x0.toUInt32 >>> ((1 : Int32).toUInt32 &&& Int32.toUInt32 31)).toInt32) &&& (1431655765 : Int32))).toUInt32 >>> ((2 : Int32).toUInt32 &&& Int32.toUInt32 31)).toInt32) &&& (858993459 : Int32))).toUInt32 >>> ((4 : Int32).toUInt32 &&& Int32.toUInt32 31)).toInt32)) &&& (252645135 : Int32)).toUInt32 >>> ((8 : Int32).toUInt32 &&& Int32.toUInt32 31)).toInt32)).toUInt32 >>> ((16 : Int32).toUInt32 &&& Int32.toUInt32 31)).toInt32)))]) C dJ6_bitCount_0f7a4_47 rfl (Nat.le_of_ble_eq_true rfl) rfl ?_
  refine g_iload_n C dJ6_bitCount_0f7a4_48 rfl 0 rfl ?_
  refine g_bipush C dJ6_bitCount_0f7a4_49 bp_63 ?_
  refine g_iand C dJ6_bitCount_0f7a4_51 ?_
  subst h
  exact g_iret C rfl rfl rfl dJ6_bitCount_0f7a4_52
def fX_Orders_gather_b65 (x1 : Nat) (x3 : Int32) (x4 : Int32) (g : St) : Option ((Int32 × St) ⊕ (St)) :=
  some (.inl ((x4 + (1 : Int32)), g))
def fX_Orders_gather_L25 (x1 : Nat) (x3 : Int32) : (Int32 × St) → Option ((Int32 × St) ⊕ (St)) := fun ⟨x4, g⟩ =>
  if (8 : Int32) ≤ x4 then
    (some (.inr g))
  else
    (if ((x3 >>> (x4 &&& 31)) &&& (1 : Int32)) = (1 : Int32) then
    ((fX_Rows_put 45 (g 13 2) x4 g).bind fun g52 => (fX_Orders_gather_b65 x1 x3 x4 (st g52 13 2 ((g52 13 2) + (1 : Int32)))))
  else
    (fX_Orders_gather_b65 x1 x3 x4 g))
def fX_Orders_gather_b25 (x1 : Nat) (x3 : Int32) (x4 : Int32) (g : St) : Option (Int32 × St) :=
  (lp (fX_Orders_gather_L25 x1 x3) fuel (x4, g)).bind (fun g => some ((1 : Int32), g))
def fX_Orders_gather (x1 : Nat) (x2 : Int32) (g : St) : Option (Int32 × St) :=
  (fX_State_living x1 (st g 13 2 (0 : Int32))).bind fun r7 => (if (fX_J_bitCount (x2 &&& r7)) ≤ (5 : Int32) then
    (fX_Orders_gather_b25 x1 (x2 &&& r7) (0 : Int32) (st g 13 2 (0 : Int32)))
  else
    (some ((0 : Int32), (st g 13 2 (0 : Int32)))))
def rmX_Orders_gather : Room := { frames := 3, cells := 0, slots := 0, locals := 64 }
abbrev GcX_Orders_gather (l : Launch) (D : va_G) (T : cT) (ad : Nat → Nat) (Γ : Cxt) (o : Int32 × St) (xo : Sl) (x : Sl) (g : St) (pc : Nat) (lv : List (Nat × Value)) (stk : List Value) : Prop := Gj l shX D T ad 5 (rmX_Orders_gather) 0 0 Γ (MQ Γ.below (va_Qi (eqZ o.1 o.2 xo) (wPost shX D T ad Γ.A) Γ.A) Γ.args Γ.s 0 0 Γ.A) x g pc lv stk
set_option maxRecDepth 100000 in
set_option maxHeartbeats 4000000 in
theorem cX_Orders_gather (l : Launch) (D : va_G) (T : cT) (ad : Nat → Nat) (sK sV : Nat → Nat) (xo : Sl) (g : St) (x1 : Nat) (x2 : Int32) (hx1 : isState x1) (o : Int32 × St) (h : fX_Orders_gather x1 x2 g = some o) (sz : Nat) : Met l yX4_gather wX_Orders_gather (rmX_Orders_gather) (va_Pc [.ref (ad 13), .ref (ad x1), .int x2] (xPre shX D T ad sK sV xo g sz)) (va_Qi (eqZ o.1 o.2 xo) (wPost shX D T ad (aW shX T ad xo g sz)) (aW shX T ad xo g sz)) 0 0 (aW shX T ad xo g sz) := by
  refine g_startx (Qc := fun A => va_Qi (eqZ o.1 o.2 xo) (wPost shX D T ad A) A) (by decide +kernel) rfl rfl (Nat.le_of_ble_eq_true rfl) (lv := [(0, .ref (ad 13)), (1, .ref (ad x1)), (2, .int x2)]) rfl (fun Γ Y => ?_)
  have C := Y.1
  show GcX_Orders_gather l D T ad Γ o xo xo g 0 [(0, .ref (ad 13)), (1, .ref (ad x1)), (2, .int x2)] []
  have J25 : ∀ (x3 : Int32) (x4 : Int32) (g : St), fX_Orders_gather_b25 x1 x3 x4 g = some o → GcX_Orders_gather l D T ad Γ o xo xo g 25 [(0, .ref (ad 13)), (3, .int x3), (4, .int x4)] [] := by
    intro x3 x4 g h
    obtain ⟨g, ht, h⟩ := bnd h
    refine lp_run (P := fun t : Int32 × St => match t with | (x4, g) => GcX_Orders_gather l D T ad Γ o xo xo g 25 [(0, .ref (ad 13)), (3, .int x3), (4, .int x4)] []) (E := fun g : St => GcX_Orders_gather l D T ad Γ o xo xo g 71 [] []) ?_ _ _ _ ht ?_
    · rintro ⟨x4, g⟩ z h Kt Ke
      show GcX_Orders_gather l D T ad Γ o xo xo g 25 [(0, .ref (ad 13)), (3, .int x3), (4, .int x4)] []
      have J65 : ∀ (x4 : Int32) (g : St), fX_Orders_gather_b65 x1 x3 x4 g = some z → GcX_Orders_gather l D T ad Γ o xo xo g 65 [(0, .ref (ad 13)), (3, .int x3), (4, .int x4)] [] := by
        intro x4 g h
        refine g_iinc (lv' := [(4, .int (x4 + (1 : Int32))), (0, .ref (ad 13)), (3, .int x3)]) C dX4_gather_65 2 rfl (ii_1 _) (Nat.le_of_ble_eq_true rfl) rfl ?_
        refine g_goto (tgt := 25) C dX4_gather_68 (by decide) ?_
        exact g_sub [1, 2, 0] rfl (Kt _ (Option.some.inj h).symm)
      refine g_iload C dX4_gather_25 2 rfl ?_
      refine g_bipush C dX4_gather_27 bp_8 ?_
      refine g_icmp_ge C 71 dX4_gather_29 (by decide) (fun c29 => ?_) (fun c29 => ?_)
      · have h := iteT c29 h
        exact g_sub [] rfl (Ke _ (Option.some.inj h).symm)
      · have h := iteF c29 h
        refine g_iload_n C dX4_gather_32 rfl 1 rfl ?_
        refine g_iload C dX4_gather_33 2 rfl ?_
        refine g_ishr C dX4_gather_35 ?_
        refine g_iconst C dX4_gather_36 ic_1 ?_
        refine g_iand C dX4_gather_37 ?_
        refine g_iconst C dX4_gather_38 ic_1 ?_
        refine g_icmp_ne C 65 dX4_gather_39 (by decide) (fun c39 => ?_) (fun c39 => ?_)
        · have h := iteT c39 h
          refine g_aload_n C dX4_gather_42 rfl 0 rfl ?_
          refine gX_get_X4_9 C ob_13 rfl dX4_gather_43 ?_
          refine g_aload_n C dX4_gather_46 rfl 0 rfl ?_
          refine gX_get_X4_18 (v := g 13 2) C ob_13 rfl rfl dX4_gather_47 ?_
          refine g_iload C dX4_gather_50 2 rfl ?_
          obtain ⟨g52, hr52, h⟩ := bnd h
          refine g_xSv (As := [.ref (ad 45), .int (g 13 2), .int x4]) (rest := []) (go := g52) (xo := xo) Y (fun sz => cX_Rows_put l D T ad sK sV xo g 45 (g 13 2) x4 _ hr52 sz) kX_RX4_34_Rows_put ⟨Nat.le_of_ble_eq_true rfl, Nat.le_of_ble_eq_true rfl⟩ ⟨rfl, rfl⟩ ⟨Nat.zero_le _, Nat.zero_le _⟩ rfl rfl (Nat.le_of_ble_eq_true rfl) dX4_gather_52 ?_
          refine g_aload_n C dX4_gather_55 rfl 0 rfl ?_
          refine g_dup C dX4_gather_56 rfl ?_
          refine gX_get_X4_18 (v := g52 13 2) C ob_13 rfl rfl dX4_gather_57 ?_
          refine g_iconst C dX4_gather_60 ic_1 ?_
          refine g_iadd C dX4_gather_61 ?_
          refine gX_put_X4_18 C ob_13 rfl dX4_gather_62 ?_
          exact J65 x4 (st g52 13 2 ((g52 13 2) + (1 : Int32))) h
        · have h := iteF c39 h
          exact J65 x4 g h
    · show GcX_Orders_gather l D T ad Γ o xo xo g 71 [] []
      refine g_iconst C dX4_gather_71 ic_1 ?_
      obtain rfl := Option.some.inj h
      exact g_zret C rfl rfl rfl rfl dX4_gather_72
  refine g_aload_n C dX4_gather_0 rfl 0 rfl ?_
  refine g_iconst C dX4_gather_1 ic_0 ?_
  refine gX_put_X4_18 C ob_13 rfl dX4_gather_2 ?_
  refine g_iload_n C dX4_gather_5 rfl 2 rfl ?_
  refine g_aload_n C dX4_gather_6 rfl 1 rfl ?_
  obtain ⟨r7, hr7, h⟩ := bnd h
  refine g_xVi (k := x1) (As := []) (rest := [.int x2]) (ro := r7) (go := (st g 13 2 (0 : Int32))) (xo := xo) Y (fun sz => cX_State_living l D T ad sK sV xo (st g 13 2 (0 : Int32)) x1 hx1 _ hr7 sz) kX_RX4_22_State_living ⟨Nat.le_of_ble_eq_true rfl, Nat.le_of_ble_eq_true rfl⟩ ⟨rfl, rfl⟩ ⟨Nat.zero_le _, Nat.zero_le _⟩ (rfl : vwCl[6]? = some (RX7, TX7, 6)) (ob_State hx1) rfl rfl (Nat.le_of_ble_eq_true rfl) dX4_gather_7 ?_
  refine g_iand C dX4_gather_10 ?_
  refine g_istore_n (lv' := [(3, .int (x2 &&& r7)), (0, .ref (ad 13)), (1, .ref (ad x1)), (2, .int x2)]) C dX4_gather_11 rfl (Nat.le_of_ble_eq_true rfl) rfl ?_
  refine g_iload_n C dX4_gather_12 rfl 0 rfl ?_
  refine g_xSi (As := [.int (x2 &&& r7)]) (rest := []) (ro := (fX_J_bitCount (x2 &&& r7))) (go := (st g 13 2 (0 : Int32))) (xo := xo) Y (fun sz => cX_J_bitCount l D T ad sK sV xo (st g 13 2 (0 : Int32)) (x2 &&& r7) _ rfl sz) kX_RX4_28_J_bitCount ⟨Nat.le_of_ble_eq_true rfl, Nat.le_of_ble_eq_true rfl⟩ ⟨rfl, rfl⟩ ⟨Nat.zero_le _, Nat.zero_le _⟩ rfl rfl (Nat.le_of_ble_eq_true rfl) dX4_gather_13 ?_
  refine g_iconst C dX4_gather_16 ic_5 ?_
  refine g_icmp_le C 22 dX4_gather_17 (by decide) (fun c17 => ?_) (fun c17 => ?_)
  · have h := iteT c17 h
    refine g_iconst C dX4_gather_22 ic_0 ?_
    refine g_istore (lv' := [(4, .int (0 : Int32)), (3, .int (x2 &&& r7)), (0, .ref (ad 13)), (1, .ref (ad x1)), (2, .int x2)]) C dX4_gather_23 (Nat.le_of_ble_eq_true rfl) rfl ?_
    exact g_sub [2, 1, 0] rfl (J25 (x2 &&& r7) (0 : Int32) (st g 13 2 (0 : Int32)) h)
  · have h := iteF c17 h
    refine g_iconst C dX4_gather_20 ic_0 ?_
    obtain rfl := Option.some.inj h
    exact g_zret C rfl rfl rfl rfl dX4_gather_21
def fX_Orders_swap (x1 : Int32) (x2 : Int32) (g : St) : Option (St) :=
  (fX_Rows_at 45 x1 g).bind fun r5 => ((fX_Rows_at 45 x2 g).bind fun r19 => ((fX_Rows_put 45 x1 r19 g).bind fun g22 => ((fX_Rows_put 45 x2 r5 g22).bind fun g31 => (some g31))))
def rmX_Orders_swap : Room := { frames := 1, cells := 0, slots := 0, locals := 22 }
abbrev GcX_Orders_swap (l : Launch) (D : va_G) (T : cT) (ad : Nat → Nat) (Γ : Cxt) (o : St) (xo : Sl) (x : Sl) (g : St) (pc : Nat) (lv : List (Nat × Value)) (stk : List Value) : Prop := Gj l shX D T ad 4 (rmX_Orders_swap) 0 0 Γ (MQ Γ.below (va_Qv (eqV o xo) (wPost shX D T ad Γ.A) Γ.A) Γ.args Γ.s 0 0 Γ.A) x g pc lv stk
set_option maxRecDepth 100000 in
set_option maxHeartbeats 4000000 in
theorem cX_Orders_swap (l : Launch) (D : va_G) (T : cT) (ad : Nat → Nat) (sK sV : Nat → Nat) (xo : Sl) (g : St) (x1 : Int32) (x2 : Int32) (o : St) (h : fX_Orders_swap x1 x2 g = some o) (sz : Nat) : Met l yX4_swap wX_Orders_swap (rmX_Orders_swap) (va_Pc [.ref (ad 13), .int x1, .int x2] (xPre shX D T ad sK sV xo g sz)) (va_Qv (eqV o xo) (wPost shX D T ad (aW shX T ad xo g sz)) (aW shX T ad xo g sz)) 0 0 (aW shX T ad xo g sz) := by
  refine g_startx (Qc := fun A => va_Qv (eqV o xo) (wPost shX D T ad A) A) (by decide +kernel) rfl rfl (Nat.le_of_ble_eq_true rfl) (lv := [(0, .ref (ad 13)), (1, .int x1), (2, .int x2)]) rfl (fun Γ Y => ?_)
  have C := Y.1
  show GcX_Orders_swap l D T ad Γ o xo xo g 0 [(0, .ref (ad 13)), (1, .int x1), (2, .int x2)] []
  refine g_aload_n C dX4_swap_0 rfl 0 rfl ?_
  refine gX_get_X4_9 C ob_13 rfl dX4_swap_1 ?_
  refine g_iload_n C dX4_swap_4 rfl 1 rfl ?_
  obtain ⟨r5, hr5, h⟩ := bnd h
  refine g_xSi (As := [.ref (ad 45), .int x1]) (rest := []) (ro := r5) (go := g) (xo := xo) Y (fun sz => cX_Rows_at l D T ad sK sV xo g 45 x1 _ hr5 sz) kX_RX4_40_Rows_at ⟨Nat.le_of_ble_eq_true rfl, Nat.le_of_ble_eq_true rfl⟩ ⟨rfl, rfl⟩ ⟨Nat.zero_le _, Nat.zero_le _⟩ rfl rfl (Nat.le_of_ble_eq_true rfl) dX4_swap_5 ?_
  refine g_istore_n (lv' := [(3, .int r5), (0, .ref (ad 13)), (1, .int x1), (2, .int x2)]) C dX4_swap_8 rfl (Nat.le_of_ble_eq_true rfl) rfl ?_
  refine g_aload_n C dX4_swap_9 rfl 1 rfl ?_
  refine gX_get_X4_9 C ob_13 rfl dX4_swap_10 ?_
  refine g_iload_n C dX4_swap_13 rfl 2 rfl ?_
  refine g_aload_n C dX4_swap_14 rfl 1 rfl ?_
  refine gX_get_X4_9 C ob_13 rfl dX4_swap_15 ?_
  refine g_iload_n C dX4_swap_18 rfl 3 rfl ?_
  obtain ⟨r19, hr19, h⟩ := bnd h
  refine g_xSi (As := [.ref (ad 45), .int x2]) (rest := [.int x1, .ref (ad 45)]) (ro := r19) (go := g) (xo := xo) Y (fun sz => cX_Rows_at l D T ad sK sV xo g 45 x2 _ hr19 sz) kX_RX4_40_Rows_at ⟨Nat.le_of_ble_eq_true rfl, Nat.le_of_ble_eq_true rfl⟩ ⟨rfl, rfl⟩ ⟨Nat.zero_le _, Nat.zero_le _⟩ rfl rfl (Nat.le_of_ble_eq_true rfl) dX4_swap_19 ?_
  obtain ⟨g22, hr22, h⟩ := bnd h
  refine g_xSv (As := [.ref (ad 45), .int x1, .int r19]) (rest := []) (go := g22) (xo := xo) Y (fun sz => cX_Rows_put l D T ad sK sV xo g 45 x1 r19 _ hr22 sz) kX_RX4_34_Rows_put ⟨Nat.le_of_ble_eq_true rfl, Nat.le_of_ble_eq_true rfl⟩ ⟨rfl, rfl⟩ ⟨Nat.zero_le _, Nat.zero_le _⟩ rfl rfl (Nat.le_of_ble_eq_true rfl) dX4_swap_22 ?_
  refine g_aload_n C dX4_swap_25 rfl 1 rfl ?_
  refine gX_get_X4_9 C ob_13 rfl dX4_swap_26 ?_
  refine g_iload_n C dX4_swap_29 rfl 3 rfl ?_
  refine g_iload_n C dX4_swap_30 rfl 0 rfl ?_
  obtain ⟨g31, hr31, h⟩ := bnd h
  refine g_xSv (As := [.ref (ad 45), .int x2, .int r5]) (rest := []) (go := g31) (xo := xo) Y (fun sz => cX_Rows_put l D T ad sK sV xo g22 45 x2 r5 _ hr31 sz) kX_RX4_34_Rows_put ⟨Nat.le_of_ble_eq_true rfl, Nat.le_of_ble_eq_true rfl⟩ ⟨rfl, rfl⟩ ⟨Nat.zero_le _, Nat.zero_le _⟩ rfl rfl (Nat.le_of_ble_eq_true rfl) dX4_swap_31 ?_
  obtain rfl := Option.some.inj h
  exact g_vret C rfl rfl dX4_swap_34
