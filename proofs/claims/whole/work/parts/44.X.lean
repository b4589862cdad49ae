def fX_Steps_behindAgain (x1 : Int32) (g : St) : Option (Int32 × St) :=
  (fX_Rows_at 31 x1 g).bind fun r5 => (if 0 < r5 then
    ((fX_Rows_put 34 (g 7 6) r5 g).bind fun g33 => (some ((x1 + (1 : Int32)), (st g33 7 6 ((g33 7 6) + (1 : Int32))))))
  else
    ((fX_Rows_at 32 x1 g).bind fun r18 => (some ((r18 + (1 : Int32)), g))))
def rmX_Steps_behindAgain : Room := { frames := 1, cells := 0, slots := 0, locals := 22 }
abbrev GcX_Steps_behindAgain (l : Launch) (D : va_G) (T : cT) (ad : Nat → Nat) (Γ : Cxt) (o : Int32 × St) (xo : Sl) (x : Sl) (g : St) (pc : Nat) (lv : List (Nat × Value)) (stk : List Value) : Prop := Gj l shX D T ad 3 (rmX_Steps_behindAgain) 0 0 Γ (MQ Γ.below (va_Qi (eqI o.1 o.2 xo) (wPost shX D T ad Γ.A) Γ.A) Γ.args Γ.s 0 0 Γ.A) x g pc lv stk
set_option maxRecDepth 100000 in
set_option maxHeartbeats 4000000 in
theorem cX_Steps_behindAgain (l : Launch) (D : va_G) (T : cT) (ad : Nat → Nat) (sK sV : Nat → Nat) (xo : Sl) (g : St) (x1 : Int32) (o : Int32 × St) (h : fX_Steps_behindAgain x1 g = some o) (sz : Nat) : Met l yX8_behindAgain wX_Steps_behindAgain (rmX_Steps_behindAgain) (va_Pc [.ref (ad 7), .int x1] (xPre shX D T ad sK sV xo g sz)) (va_Qi (eqI o.1 o.2 xo) (wPost shX D T ad (aW shX T ad xo g sz)) (aW shX T ad xo g sz)) 0 0 (aW shX T ad xo g sz) := by
  refine g_startx (Qc := fun A => va_Qi (eqI o.1 o.2 xo) (wPost shX D T ad A) A) (by decide +kernel) rfl rfl (Nat.le_of_ble_eq_true rfl) (lv := [(0, .ref (ad 7)), (1, .int x1)]) rfl (fun Γ Y => ?_)
  have C := Y.1
  show GcX_Steps_behindAgain l D T ad Γ o xo xo g 0 [(0, .ref (ad 7)), (1, .int x1)] []
  refine g_aload_n C dX8_behindAgain_0 rfl 0 rfl ?_
  refine gX_get_X8_15 C ob_7 rfl dX8_behindAgain_1 ?_
  refine g_iload_n C dX8_behindAgain_4 rfl 1 rfl ?_
  obtain ⟨r5, hr5, h⟩ := bnd h
  refine g_xSi (As := [.ref (ad 31), .int x1]) (rest := []) (ro := r5) (go := g) (xo := xo) Y (fun sz => cX_Rows_at l D T ad sK sV xo g 31 x1 _ hr5 sz) kX_RX8_105_Rows_at ⟨Nat.le_of_ble_eq_true rfl, Nat.le_of_ble_eq_true rfl⟩ ⟨rfl, rfl⟩ ⟨Nat.zero_le _, Nat.zero_le _⟩ rfl rfl (Nat.le_of_ble_eq_true rfl) dX8_behindAgain_5 ?_
  refine g_istore_n (lv' := [(2, .int r5), (0, .ref (ad 7)), (1, .int x1)]) C dX8_behindAgain_8 rfl (Nat.le_of_ble_eq_true rfl) rfl ?_
  refine g_iload_n C dX8_behindAgain_9 rfl 0 rfl ?_
  refine g_if_gt C 24 dX8_behindAgain_10 (by decide) (fun c10 => ?_) (fun c10 => ?_)
  · have h := iteT c10 h
    refine g_aload_n C dX8_behindAgain_24 rfl 1 rfl ?_
    refine gX_get_X8_24 C ob_7 rfl dX8_behindAgain_25 ?_
    refine g_aload_n C dX8_behindAgain_28 rfl 1 rfl ?_
    refine gX_get_X8_31 (v := g 7 6) C ob_7 rfl rfl dX8_behindAgain_29 ?_
    refine g_iload_n C dX8_behindAgain_32 rfl 0 rfl ?_
    obtain ⟨g33, hr33, h⟩ := bnd h
    refine g_xSv (As := [.ref (ad 34), .int (g 7 6), .int r5]) (rest := []) (go := g33) (xo := xo) Y (fun sz => cX_Rows_put l D T ad sK sV xo g 34 (g 7 6) r5 _ hr33 sz) kX_RX8_99_Rows_put ⟨Nat.le_of_ble_eq_true rfl, Nat.le_of_ble_eq_true rfl⟩ ⟨rfl, rfl⟩ ⟨Nat.zero_le _, Nat.zero_le _⟩ rfl rfl (Nat.le_of_ble_eq_true rfl) dX8_behindAgain_33 ?_
    refine g_aload_n C dX8_behindAgain_36 rfl 1 rfl ?_
    refine g_dup C dX8_behindAgain_37 rfl ?_
    refine gX_get_X8_31 (v := g33 7 6) C ob_7 rfl rfl dX8_behindAgain_38 ?_
    refine g_iconst C dX8_behindAgain_41 ic_1 ?_
    refine g_iadd C dX8_behindAgain_42 ?_
    refine gX_put_X8_31 C ob_7 rfl dX8_behindAgain_43 ?_
    refine g_iload_n C dX8_behindAgain_46 rfl 2 rfl ?_
    refine g_iconst C dX8_behindAgain_47 ic_1 ?_
    refine g_iadd C dX8_behindAgain_48 ?_
    obtain rfl := Option.some.inj h
    exact g_iret C rfl rfl rfl dX8_behindAgain_49
  · have h := iteF c10 h
    refine g_aload_n C dX8_behindAgain_13 rfl 1 rfl ?_
    refine gX_get_X8_18 C ob_7 rfl dX8_behindAgain_14 ?_
    refine g_iload_n C dX8_behindAgain_17 rfl 2 rfl ?_
    obtain ⟨r18, hr18, h⟩ := bnd h
    refine g_xSi (As := [.ref (ad 32), .int x1]) (rest := []) (ro := r18) (go := g) (xo := xo) Y (fun sz => cX_Rows_at l D T ad sK sV xo g 32 x1 _ hr18 sz) kX_RX8_105_Rows_at ⟨Nat.le_of_ble_eq_true rfl, Nat.le_of_ble_eq_true rfl⟩ ⟨rfl, rfl⟩ ⟨Nat.zero_le _, Nat.zero_le _⟩ rfl rfl (Nat.le_of_ble_eq_true rfl) dX8_behindAgain_18 ?_
    refine g_iconst C dX8_behindAgain_21 ic_1 ?_
    refine g_iadd C dX8_behindAgain_22 ?_
    obtain rfl := Option.some.inj h
    exact g_iret C rfl rfl rfl dX8_behindAgain_23
def fX_Steps_run_b142 (x1 : Nat) (x2 : Int32) (x3 : Int32) (x4 : Int32) (g : St) : Option ((Int32 × Int32 × Int32 × St) ⊕ (St)) :=
  some (.inl (x2, x3, (x4 + (1 : Int32)), g))
def fX_Steps_run_b139 (x1 : Nat) (x2 : Int32) (x3 : Int32) (x4 : Int32) (g : St) : Option ((Int32 × Int32 × Int32 × St) ⊕ (St)) :=
  fX_Steps_run_b142 x1 x2 (x3 + (1 : Int32)) x4 g
def fX_Steps_run_L22 (x1 : Nat) : (Int32 × Int32 × Int32 × St) → Option ((Int32 × Int32 × Int32 × St) ⊕ (St)) := fun ⟨x2, x3, x4, g⟩ =>
  if (1000000 : Int32) ≤ x4 then
    (some (.inr g))
  else
    (if (g 7 5) ≤ x3 then
    (some (.inr g))
  else
    (if (200 : Int32) ≤ x2 then
    (some (.inr g))
  else
    ((fX_Rows_at 30 x3 g).bind fun r49 => (if r49 = (6 : Int32) then
    ((fX_Steps_behindEnd x3 g).bind fun ⟨r63, g63⟩ => (fX_Steps_run_b142 x1 x2 r63 x4 g63))
  else
    (if r49 = (5 : Int32) then
    ((fX_Steps_behindAgain x3 g).bind fun ⟨r81, g81⟩ => (fX_Steps_run_b142 x1 (x2 + (1 : Int32)) r81 x4 g81))
  else
    ((fX_Rows_at 31 x3 g).bind fun r99 => ((fX_Rows_at 32 x3 g).bind fun r107 => ((fX_State_does x1 r49 r99 r107 g).bind fun ⟨r110, g110⟩ => (if r110 = 0 then
    (fX_Steps_run_b139 x1 (x2 + (1 : Int32)) x3 x4 (st g110 7 8 ((g110 7 8) + (1 : Int32))))
  else
    (fX_Steps_run_b139 x1 (x2 + (1 : Int32)) x3 x4 (st g110 7 7 ((g110 7 7) + (1 : Int32)))))))))))))
def fX_Steps_run_b22 (x1 : Nat) (x2 : Int32) (x3 : Int32) (x4 : Int32) (g : St) : Option (St) :=
  (lp (fX_Steps_run_L22 x1) fuel (x2, x3, x4, g)).bind (fun g => some g)
def fX_Steps_run (x1 : Nat) (g : St) : Option (St) :=
  fX_Steps_run_b22 x1 (0 : Int32) (0 : Int32) (0 : Int32) (st (st (st g 7 7 (0 : Int32)) 7 8 (0 : Int32)) 7 6 (0 : Int32))
def rmX_Steps_run : Room := { frames := 5, cells := 0, slots := 0, locals := 119 }
abbrev GcX_Steps_run (l : Launch) (D : va_G) (T : cT) (ad : Nat → Nat) (Γ : Cxt) (o : St) (xo : Sl) (x : Sl) (g : St) (pc : Nat) (lv : List (Nat × Value)) (stk : List Value) : Prop := Gj l shX D T ad 6 (rmX_Steps_run) 0 0 Γ (MQ Γ.below (va_Qv (eqV o xo) (wPost shX D T ad Γ.A) Γ.A) Γ.args Γ.s 0 0 Γ.A) x g pc lv stk
set_option maxRecDepth 100000 in
set_option maxHeartbeats 4000000 in
theorem cX_Steps_run (l : Launch) (D : va_G) (T : cT) (ad : Nat → Nat) (sK sV : Nat → Nat) (xo : Sl) (g : St) (x1 : Nat) (hx1 : isState x1) (o : St) (h : fX_Steps_run x1 g = some o) (sz : Nat) : Met l yX8_run wX_Steps_run (rmX_Steps_run) (va_Pc [.ref (ad 7), .ref (ad x1)] (xPre shX D T ad sK sV xo g sz)) (va_Qv (eqV o xo) (wPost shX D T ad (aW shX T ad xo g sz)) (aW shX T ad xo g sz)) 0 0 (aW shX T ad xo g sz) := by
  refine g_startx (Qc := fun A => va_Qv (eqV o xo) (wPost shX D T ad A) A) (by decide +kernel) rfl rfl (Nat.le_of_ble_eq_true rfl) (lv := [(0, .ref (ad 7)), (1, .ref (ad x1))]) rfl (fun Γ Y => ?_)
  have C := Y.1
  show GcX_Steps_run l D T ad Γ o xo xo g 0 [(0, .ref (ad 7)), (1, .ref (ad x1))] []
  have J22 : ∀ (x2 : Int32) (x3 : Int32) (x4 : Int32) (g : St), fX_Steps_run_b22 x1 x2 x3 x4 g = some o → GcX_Steps_run l D T ad Γ o xo xo g 22 [(0, .ref (ad 7)), (1, .ref (ad x1)), (2, .int x2), (3, .int x3), (4, .int x4)] [] := by
    intro x2 x3 x4 g h
    obtain ⟨g, ht, h⟩ := bnd h
    refine lp_run (P := fun t : Int32 × Int32 × Int32 × St => match t with | (x2, x3, x4, g) => GcX_Steps_run l D T ad Γ o xo xo g 22 [(0, .ref (ad 7)), (1, .ref (ad x1)), (2, .int x2), (3, .int x3), (4, .int x4)] []) (E := fun g : St => GcX_Steps_run l D T ad Γ o xo xo g 148 [] []) ?_ _ _ _ ht ?_
    · rintro ⟨x2, x3, x4, g⟩ z h Kt Ke
      show GcX_Steps_run l D T ad Γ o xo xo g 22 [(0, .ref (ad 7)), (1, .ref (ad x1)), (2, .int x2), (3, .int x3), (4, .int x4)] []
      have J142 : ∀ (x2 : Int32) (x3 : Int32) (x4 : Int32) (g : St), fX_Steps_run_b142 x1 x2 x3 x4 g = some z → GcX_Steps_run l D T ad Γ o xo xo g 142 [(0, .ref (ad 7)), (1, .ref (ad x1)), (2, .int x2), (3, .int x3), (4, .int x4)] [] := by
        intro x2 x3 x4 g h
        refine g_iinc (lv' := [(4, .int (x4 + (1 : Int32))), (0, .ref (ad 7)), (1, .ref (ad x1)), (2, .int x2), (3, .int x3)]) C dX8_run_142 4 rfl (ii_1 _) (Nat.le_of_ble_eq_true rfl) rfl ?_
        refine g_goto (tgt := 22) C dX8_run_145 (by decide) ?_
        exact g_sub [1, 2, 3, 4, 0] rfl (Kt _ (Option.some.inj h).symm)
      have J139 : ∀ (x2 : Int32) (x3 : Int32) (x4 : Int32) (g : St), fX_Steps_run_b139 x1 x2 x3 x4 g = some z → GcX_Steps_run l D T ad Γ o xo xo g 139 [(0, .ref (ad 7)), (1, .ref (ad x1)), (2, .int x2), (3, .int x3), (4, .int x4)] [] := by
        intro x2 x3 x4 g h
        refine g_iinc (lv' := [(3, .int (x3 + (1 : Int32))), (0, .ref (ad 7)), (1, .ref (ad x1)), (2, .int x2), (4, .int x4)]) C dX8_run_139 3 rfl (ii_1 _) (Nat.le_of_ble_eq_true rfl) rfl ?_
        exact g_sub [1, 2, 3, 0, 4] rfl (J142 x2 (x3 + (1 : Int32)) x4 g h)
      refine g_iload C dX8_run_22 4 rfl ?_
      refine g_ldc C dX8_run_24 (List.mem_cons_of_mem _ bx_447) ?_
      refine g_icmp_ge C 148 dX8_run_26 (by decide) (fun c26 => ?_) (fun c26 => ?_)
      · have h := iteT c26 h
        exact g_sub [] rfl (Ke _ (Option.some.inj h).symm)
      · have h := iteF c26 h
        refine g_iload_n C dX8_run_29 rfl 3 rfl ?_
        refine g_aload_n C dX8_run_30 rfl 0 rfl ?_
        refine gX_get_X8_27 (v := g 7 5) C ob_7 rfl rfl dX8_run_31 ?_
        refine g_icmp_ge C 148 dX8_run_34 (by decide) (fun c34 => ?_) (fun c34 => ?_)
        · have h := iteT c34 h
          exact g_sub [] rfl (Ke _ (Option.some.inj h).symm)
        · have h := iteF c34 h
          refine g_iload_n C dX8_run_37 rfl 2 rfl ?_
          refine g_sipush C dX8_run_38 sp_200 ?_
          refine g_icmp_ge C 148 dX8_run_41 (by decide) (fun c41 => ?_) (fun c41 => ?_)
          · have h := iteT c41 h
            exact g_sub [] rfl (Ke _ (Option.some.inj h).symm)
          · have h := iteF c41 h
            refine g_aload_n C dX8_run_44 rfl 0 rfl ?_
            refine gX_get_X8_9 C ob_7 rfl dX8_run_45 ?_
            refine g_iload_n C dX8_run_48 rfl 3 rfl ?_
            obtain ⟨r49, hr49, h⟩ := bnd h
            refine g_xSi (As := [.ref (ad 30), .int x3]) (rest := []) (ro := r49) (go := g) (xo := xo) Y (fun sz => cX_Rows_at l D T ad sK sV xo g 30 x3 _ hr49 sz) kX_RX8_105_Rows_at ⟨Nat.le_of_ble_eq_true rfl, Nat.le_of_ble_eq_true rfl⟩ ⟨rfl, rfl⟩ ⟨Nat.zero_le _, Nat.zero_le _⟩ rfl rfl (Nat.le_of_ble_eq_true rfl) dX8_run_49 ?_
            refine g_istore (lv' := [(5, .int r49), (0, .ref (ad 7)), (1, .ref (ad x1)), (2, .int x2), (3, .int x3), (4, .int x4)]) C dX8_run_52 (Nat.le_of_ble_eq_true rfl) rfl ?_
            refine g_iload C dX8_run_54 0 rfl ?_
            refine g_bipush C dX8_run_56 bp_6 ?_
            refine g_icmp_ne C 70 dX8_run_58 (by decide) (fun c58 => ?_) (fun c58 => ?_)
            · have h := iteT c58 h
              refine g_aload_n C dX8_run_61 rfl 1 rfl ?_
              refine g_iload_n C dX8_run_62 rfl 4 rfl ?_
              obtain ⟨⟨r63, g63⟩, hr63, h⟩ := bnd h
              refine g_xVi (k := 7) (As := [.int x3]) (rest := []) (ro := r63) (go := g63) (xo := xo) Y (fun sz => cX_Steps_behindEnd l D T ad sK sV xo g x3 _ hr63 sz) kX_RX8_116_Steps_behindEnd ⟨Nat.le_of_ble_eq_true rfl, Nat.le_of_ble_eq_true rfl⟩ ⟨rfl, rfl⟩ ⟨Nat.zero_le _, Nat.zero_le _⟩ (rfl : vwCl[7]? = some (RX8, TX8, 9)) ob_7 rfl rfl (Nat.le_of_ble_eq_true rfl) dX8_run_63 ?_
              refine g_istore_n (lv' := [(3, .int r63), (5, .int r49), (0, .ref (ad 7)), (1, .ref (ad x1)), (2, .int x2), (4, .int x4)]) C dX8_run_66 rfl (Nat.le_of_ble_eq_true rfl) rfl ?_
              refine g_goto (tgt := 142) C dX8_run_67 (by decide) ?_
              exact g_sub [2, 3, 4, 0, 5] rfl (J142 x2 r63 x4 g63 h)
            · have h := iteF c58 h
              refine g_iload C dX8_run_70 0 rfl ?_
              refine g_iconst C dX8_run_72 ic_5 ?_
              refine g_icmp_ne C 88 dX8_run_73 (by decide) (fun c73 => ?_) (fun c73 => ?_)
              · have h := iteT c73 h
                refine g_iinc (lv' := [(2, .int (x2 + (1 : Int32))), (5, .int r49), (0, .ref (ad 7)), (1, .ref (ad x1)), (3, .int x3), (4, .int x4)]) C dX8_run_76 3 rfl (ii_1 _) (Nat.le_of_ble_eq_true rfl) rfl ?_
                refine g_aload_n C dX8_run_79 rfl 2 rfl ?_
                refine g_iload_n C dX8_run_80 rfl 4 rfl ?_
                obtain ⟨⟨r81, g81⟩, hr81, h⟩ := bnd h
                refine g_xVi (k := 7) (As := [.int x3]) (rest := []) (ro := r81) (go := g81) (xo := xo) Y (fun sz => cX_Steps_behindAgain l D T ad sK sV xo g x3 _ hr81 sz) kX_RX8_120_Steps_behindAgain ⟨Nat.le_of_ble_eq_true rfl, Nat.le_of_ble_eq_true rfl⟩ ⟨rfl, rfl⟩ ⟨Nat.zero_le _, Nat.zero_le _⟩ (rfl : vwCl[7]? = some (RX8, TX8, 9)) ob_7 rfl rfl (Nat.le_of_ble_eq_true rfl) dX8_run_81 ?_
                refine g_istore_n (lv' := [(3, .int r81), (2, .int (x2 + (1 : Int32))), (5, .int r49), (0, .ref (ad 7)), (1, .ref (ad x1)), (4, .int x4)]) C dX8_run_84 rfl (Nat.le_of_ble_eq_true rfl) rfl ?_
                refine g_goto (tgt := 142) C dX8_run_85 (by decide) ?_
                exact g_sub [3, 4, 1, 0, 5] rfl (J142 (x2 + (1 : Int32)) r81 x4 g81 h)
              · have h := iteF c73 h
                refine g_iinc (lv' := [(2, .int (x2 + (1 : Int32))), (5, .int r49), (0, .ref (ad 7)), (1, .ref (ad x1)), (3, .int x3), (4, .int x4)]) C dX8_run_88 3 rfl (ii_1 _) (Nat.le_of_ble_eq_true rfl) rfl ?_
                refine g_aload_n C dX8_run_91 rfl 3 rfl ?_
                refine g_iload C dX8_run_92 1 rfl ?_
                refine g_aload_n C dX8_run_94 rfl 2 rfl ?_
                refine gX_get_X8_15 C ob_7 rfl dX8_run_95 ?_
                refine g_iload_n C dX8_run_98 rfl 4 rfl ?_
                obtain ⟨r99, hr99, h⟩ := bnd h
                refine g_xSi (As := [.ref (ad 31), .int x3]) (rest := [.int r49, .ref (ad x1)]) (ro := r99) (go := g) (xo := xo) Y (fun sz => cX_Rows_at l D T ad sK sV xo g 31 x3 _ hr99 sz) kX_RX8_105_Rows_at ⟨Nat.le_of_ble_eq_true rfl, Nat.le_of_ble_eq_true rfl⟩ ⟨rfl, rfl⟩ ⟨Nat.zero_le _, Nat.zero_le _⟩ rfl rfl (Nat.le_of_ble_eq_true rfl) dX8_run_99 ?_
                refine g_aload_n C dX8_run_102 rfl 2 rfl ?_
                refine gX_get_X8_18 C ob_7 rfl dX8_run_103 ?_
                refine g_iload_n C dX8_run_106 rfl 4 rfl ?_
                obtain ⟨r107, hr107, h⟩ := bnd h
                refine g_xSi (As := [.ref (ad 32), .int x3]) (rest := [.int r99, .int r49, .ref (ad x1)]) (ro := r107) (go := g) (xo := xo) Y (fun sz => cX_Rows_at l D T ad sK sV xo g 32 x3 _ hr107 sz) kX_RX8_105_Rows_at ⟨Nat.le_of_ble_eq_true rfl, Nat.le_of_ble_eq_true rfl⟩ ⟨rfl, rfl⟩ ⟨Nat.zero_le _, Nat.zero_le _⟩ rfl rfl (Nat.le_of_ble_eq_true rfl) dX8_run_107 ?_
                obtain ⟨⟨r110, g110⟩, hr110, h⟩ := bnd h
                refine g_xVz (k := x1) (As := [.int r49, .int r99, .int r107]) (rest := []) (ro := r110) (go := g110) (xo := xo) Y (fun sz => cX_State_does l D T ad sK sV xo g x1 r49 r99 r107 hx1 _ hr110 sz) kX_RX8_123_State_does ⟨Nat.le_of_ble_eq_true rfl, Nat.le_of_ble_eq_true rfl⟩ ⟨rfl, rfl⟩ ⟨Nat.zero_le _, Nat.zero_le _⟩ (rfl : vwCl[6]? = some (RX7, TX7, 6)) (ob_State hx1) rfl rfl (Nat.le_of_ble_eq_true rfl) dX8_run_110 (fun hz110 => ?_)
                refine g_if_eq C 129 dX8_run_113 (by decide) (fun c113 => ?_) (fun c113 => ?_)
                · have h := iteT c113 h
                  refine g_aload_n C dX8_run_129 rfl 2 rfl ?_
                  refine g_dup C dX8_run_130 rfl ?_
                  refine gX_get_X8_112 (v := g110 7 8) C ob_7 rfl rfl dX8_run_131 ?_
                  refine g_iconst C dX8_run_134 ic_1 ?_
                  refine g_iadd C dX8_run_135 ?_
                  refine gX_put_X8_112 C ob_7 rfl dX8_run_136 ?_
                  exact g_sub [2, 3, 0, 4, 5] rfl (J139 (x2 + (1 : Int32)) x3 x4 (st g110 7 8 ((g110 7 8) + (1 : Int32))) h)
                · have h := iteF c113 h
                  refine g_aload_n C dX8_run_116 rfl 2 rfl ?_
                  refine g_dup C dX8_run_117 rfl ?_
                  refine gX_get_X8_109 (v := g110 7 7) C ob_7 rfl rfl dX8_run_118 ?_
                  refine g_iconst C dX8_run_121 ic_1 ?_
                  refine g_iadd C dX8_run_122 ?_
                  refine gX_put_X8_109 C ob_7 rfl dX8_run_123 ?_
                  refine g_goto (tgt := 139) C dX8_run_126 (by decide) ?_
                  exact g_sub [2, 3, 0, 4, 5] rfl (J139 (x2 + (1 : Int32)) x3 x4 (st g110 7 7 ((g110 7 7) + (1 : Int32))) h)
    · show GcX_Steps_run l D T ad Γ o xo xo g 148 [] []
      obtain rfl := Option.some.inj h
      exact g_vret C rfl rfl dX8_run_148
  refine g_aload_n C dX8_run_0 rfl 0 rfl ?_
  refine g_iconst C dX8_run_1 ic_0 ?_
  refine gX_put_X8_109 C ob_7 rfl dX8_run_2 ?_
  refine g_aload_n C dX8_run_5 rfl 0 rfl ?_
  refine g_iconst C dX8_run_6 ic_0 ?_
  refine gX_put_X8_112 C ob_7 rfl dX8_run_7 ?_
  refine g_aload_n C dX8_run_10 rfl 0 rfl ?_
  refine g_iconst C dX8_run_11 ic_0 ?_
  refine gX_put_X8_31 C ob_7 rfl dX8_run_12 ?_
  refine g_iconst C dX8_run_15 ic_0 ?_
  refine g_istore_n (lv' := [(2, .int (0 : Int32)), (0, .ref (ad 7)), (1, .ref (ad x1))]) C dX8_run_16 rfl (Nat.le_of_ble_eq_true rfl) rfl ?_
  refine g_iconst C dX8_run_17 ic_0 ?_
  refine g_istore_n (lv' := [(3, .int (0 : Int32)), (2, .int (0 : Int32)), (0, .ref (ad 7)), (1, .ref (ad x1))]) C dX8_run_18 rfl (Nat.le_of_ble_eq_true rfl) rfl ?_
  refine g_iconst C dX8_run_19 ic_0 ?_
  refine g_istore (lv' := [(4, .int (0 : Int32)), (3, .int (0 : Int32)), (2, .int (0 : Int32)), (0, .ref (ad 7)), (1, .ref (ad x1))]) C dX8_run_20 (Nat.le_of_ble_eq_true rfl) rfl ?_
  exact g_sub [3, 4, 2, 1, 0] rfl (J22 (0 : Int32) (0 : Int32) (0 : Int32) (st (st (st g 7 7 (0 : Int32)) 7 8 (0 : Int32)) 7 6 (0 : Int32)) h)
def fX_Text_takesTwenty (g : St) : Int32 :=
  if (600 : Int32) < ((g 1 1) + (20 : Int32)) then
    ((0 : Int32))
  else
    ((1 : Int32))
def rmX_Text_takesTwenty : Room := { frames := 0, cells := 0, slots := 0, locals := 0 }
abbrev GcX_Text_takesTwenty (l : Launch) (D : va_G) (T : cT) (ad : Nat → Nat) (Γ : Cxt) (o : Int32) (xo : Sl) (g0 : St) (x : Sl) (g : St) (pc : Nat) (lv : List (Nat × Value)) (stk : List Value) : Prop := Gj l shX D T ad 1 (rmX_Text_takesTwenty) 0 0 Γ (MQ Γ.below (va_Qi (eqZ o g0 xo) (wPost shX D T ad Γ.A) Γ.A) Γ.args Γ.s 0 0 Γ.A) x g pc lv stk
set_option maxRecDepth 100000 in
set_option maxHeartbeats 4000000 in
theorem cX_Text_takesTwenty (l : Launch) (D : va_G) (T : cT) (ad : Nat → Nat) (sK sV : Nat → Nat) (xo : Sl) (g : St) (o : Int32) (h : fX_Text_takesTwenty g = o) (sz : Nat) : Met l yX9_takesTwenty wX_Text_takesTwenty (rmX_Text_takesTwenty) (va_Pc [.ref (ad 1)] (xPre shX D T ad sK sV xo g sz)) (va_Qi (eqZ o g xo) (wPost shX D T ad (aW shX T ad xo g sz)) (aW shX T ad xo g sz)) 0 0 (aW shX T ad xo g sz) := by
  refine g_startx (Qc := fun A => va_Qi (eqZ o g xo) (wPost shX D T ad A) A) (by decide +kernel) rfl rfl (Nat.le_of_ble_eq_true rfl) (lv := [(0, .ref (ad 1))]) rfl (fun Γ Y => ?_)
  have C := Y.1
  show GcX_Text_takesTwenty l D T ad Γ o xo g xo g 0 [(0, .ref (ad 1))] []
  refine g_aload_n C dX9_takesTwenty_0 rfl 0 rfl ?_
  refine gX_get_X9_19 (v := g 1 1) C ob_1 rfl rfl dX9_takesTwenty_1 ?_
  refine g_bipush C dX9_takesTwenty_4 bp_20 ?_
  refine g_iadd C dX9_takesTwenty_6 ?_
  refine g_sipush C dX9_takesTwenty_7 sp_600 ?_
  refine g_icmp_gt C 17 dX9_takesTwenty_10 (by decide) (fun c10 => ?_) (fun c10 => ?_)
  · have h := iteT c10 h
    refine g_iconst C dX9_takesTwenty_17 ic_0 ?_
    subst h
    exact g_zret C rfl rfl rfl rfl dX9_takesTwenty_18
  · have h := iteF c10 h
    refine g_iconst C dX9_takesTwenty_13 ic_1 ?_
    refine g_goto (tgt := 18) C dX9_takesTwenty_14 (by decide) ?_
    subst h
    exact g_zret C rfl rfl rfl rfl dX9_takesTwenty_18
def fX_Text_takeNumber_L3 (x1 : Int32) : (Int32 × St) → Option ((Int32 × St) ⊕ (St)) := fun ⟨x2, g⟩ =>
  if x2 < 0 then
    (some (.inr g))
  else
    ((fX_Rows_put 16 (g 1 1) (((x1.toUInt32 >>> (x2.toUInt32 &&& Int32.toUInt32 31)).toInt32) &&& (255 : Int32)) g).bind fun g22 => (some (.inl ((x2 + (-8 : Int32)), (st g22 1 1 ((g22 1 1) + (1 : Int32)))))))
def fX_Text_takeNumber_b3 (x1 : Int32) (x2 : Int32) (g : St) : Option (St) :=
  (lp (fX_Text_takeNumber_L3 x1) fuel (x2, g)).bind (fun g => some g)
def fX_Text_takeNumber (x1 : Int32) (g : St) : Option (St) :=
  fX_Text_takeNumber_b3 x1 (24 : Int32) g
def rmX_Text_takeNumber : Room := { frames := 1, cells := 0, slots := 0, locals := 22 }
abbrev GcX_Text_takeNumber (l : Launch) (D : va_G) (T : cT) (ad : Nat → Nat) (Γ : Cxt) (o : St) (xo : Sl) (x : Sl) (g : St) (pc : Nat) (lv : List (Nat × Value)) (stk : List Value) : Prop := Gj l shX D T ad 3 (rmX_Text_takeNumber) 0 0 Γ (MQ Γ.below (va_Qv (eqV o xo) (wPost shX D T ad Γ.A) Γ.A) Γ.args Γ.s 0 0 Γ.A) x g pc lv stk
set_option maxRecDepth 100000 in
set_option maxHeartbeats 4000000 in
theorem cX_Text_takeNumber (l : Launch) (D : va_G) (T : cT) (ad : Nat → Nat) (sK sV : Nat → Nat) (xo : Sl) (g : St) (x1 : Int32) (o : St) (h : fX_Text_takeNumber x1 g = some o) (sz : Nat) : Met l yX9_takeNumber wX_Text_takeNumber (rmX_Text_takeNumber) (va_Pc [.ref (ad 1), .int x1] (xPre shX D T ad sK sV xo g sz)) (va_Qv (eqV o xo) (wPost shX D T ad (aW shX T ad xo g sz)) (aW shX T ad xo g sz)) 0 0 (aW shX T ad xo g sz) := by
  refine g_startx (Qc := fun A => va_Qv (eqV o xo) (wPost shX D T ad A) A) (by decide +kernel) rfl rfl (Nat.le_of_ble_eq_true rfl) (lv := [(0, .ref (ad 1)), (1, .int x1)]) rfl (fun Γ Y => ?_)
  have C := Y.1
  show GcX_Text_takeNumber l D T ad Γ o xo xo g 0 [(0, .ref (ad 1)), (1, .int x1)] []
  have J3 : ∀ (x1 : Int32) (x2 : Int32) (g : St), fX_Text_takeNumber_b3 x1 x2 g = some o → GcX_Text_takeNumber l D T ad Γ o xo xo g 3 [(0, .ref (ad 1)), (1, .int x1), (2, .int x2)] [] := by
    intro x1 x2 g h
    obtain ⟨g, ht, h⟩ := bnd h
    refine lp_run (P := fun t : Int32 × St => match t with | (x2, g) => GcX_Text_takeNumber l D T ad Γ o xo xo g 3 [(0, .ref (ad 1)), (1, .int x1), (2, .int x2)] []) (E := fun g : St => GcX_Text_takeNumber l D T ad Γ o xo xo g 41 [] []) ?_ _ _ _ ht ?_
    · rintro ⟨x2, g⟩ z h Kt Ke
      show GcX_Text_takeNumber l D T ad Γ o xo xo g 3 [(0, .ref (ad 1)), (1, .int x1), (2, .int x2)] []
      refine g_iload_n C dX9_takeNumber_3 rfl 2 rfl ?_
      refine g_if_lt C 41 dX9_takeNumber_4 (by decide) (fun c4 => ?_) (fun c4 => ?_)
      · have h := iteT c4 h
        exact g_sub [] rfl (Ke _ (Option.some.inj h).symm)
      · have h := iteF c4 h
        refine g_aload_n C dX9_takeNumber_7 rfl 0 rfl ?_
        refine gX_get_X9_9 C ob_1 rfl dX9_takeNumber_8 ?_
        refine g_aload_n C dX9_takeNumber_11 rfl 0 rfl ?_
        refine gX_get_X9_19 (v := g 1 1) C ob_1 rfl rfl dX9_takeNumber_12 ?_
        refine g_iload_n C dX9_takeNumber_15 rfl 1 rfl ?_
        refine g_iload_n C dX9_takeNumber_16 rfl 2 rfl ?_
        refine g_iushr C dX9_takeNumber_17 ?_
        refine g_sipush C dX9_takeNumber_18 sp_255 ?_
        refine g_iand C dX9_takeNumber_21 ?_
        obtain ⟨g22, hr22, h⟩ := bnd h
        refine g_xSv (As := [.ref (ad 16), .int (g 1 1), .int (((x1.toUInt32 >>> (x2.toUInt32 &&& Int32.toUInt32 31)).toInt32) &&& (255 : Int32))]) (rest := []) (go := g22) (xo := xo) Y (fun sz => cX_Rows_put l D T ad sK sV xo g 16 (g 1 1) (((x1.toUInt32 >>> (x2.toUInt32 &&& Int32.toUInt32 31)).toInt32) &&& (255 : Int32)) _ hr22 sz) kX_RX9_22_Rows_put ⟨Nat.le_of_ble_eq_true rfl, Nat.le_of_ble_eq_true rfl⟩ ⟨rfl, rfl⟩ ⟨Nat.zero_le _, Nat.zero_le _⟩ rfl rfl (Nat.le_of_ble_eq_true rfl) dX9_takeNumber_22 ?_
        refine g_aload_n C dX9_takeNumber_25 rfl 0 rfl ?_
        refine g_dup C dX9_takeNumber_26 rfl ?_
        refine gX_get_X9_19 (v := g22 1 1) C ob_1 rfl rfl dX9_takeNumber_27 ?_
        refine g_iconst C dX9_takeNumber_30 ic_1 ?_
        refine g_iadd C dX9_takeNumber_31 ?_
        refine gX_put_X9_19 C ob_1 rfl dX9_takeNumber_32 ?_
        refine g_iinc (lv' := [(2, .int (x2 + (-8 : Int32))), (0, .ref (ad 1)), (1, .int x1)]) C dX9_takeNumber_35 2 rfl (ii_m8 _) (Nat.le_of_ble_eq_true rfl) rfl ?_
        refine g_goto (tgt := 3) C dX9_takeNumber_38 (by decide) ?_
        exact g_sub [1, 2, 0] rfl (Kt _ (Option.some.inj h).symm)
    · show GcX_Text_takeNumber l D T ad Γ o xo xo g 41 [] []
      obtain rfl := Option.some.inj h
      exact g_vret C rfl rfl dX9_takeNumber_41
  refine g_bipush C dX9_takeNumber_0 bp_24 ?_
  refine g_istore_n (lv' := [(2, .int (24 : Int32)), (0, .ref (ad 1)), (1, .int x1)]) C dX9_takeNumber_2 rfl (Nat.le_of_ble_eq_true rfl) rfl ?_
  exact g_sub [1, 2, 0] rfl (J3 x1 (24 : Int32) g h)
def fX_Text_begin (x1 : Int32) (g : St) : St :=
  (st (st (st (st (st g 1 2 x1) 1 1 (0 : Int32)) 1 3 (0 : Int32)) 1 6 (0 : Int32)) 1 7 (-1 : Int32))
def rmX_Text_begin : Room := { frames := 0, cells := 0, slots := 0, locals := 0 }
abbrev GcX_Text_begin (l : Launch) (D : va_G) (T : cT) (ad : Nat → Nat) (Γ : Cxt) (o : St) (xo : Sl) (x : Sl) (g : St) (pc : Nat) (lv : List (Nat × Value)) (stk : List Value) : Prop := Gj l shX D T ad 2 (rmX_Text_begin) 0 0 Γ (MQ Γ.below (va_Qv (eqV o xo) (wPost shX D T ad Γ.A) Γ.A) Γ.args Γ.s 0 0 Γ.A) x g pc lv stk
set_option maxRecDepth 100000 in
set_option maxHeartbeats 4000000 in
theorem cX_Text_begin (l : Launch) (D : va_G) (T : cT) (ad : Nat → Nat) (sK sV : Nat → Nat) (xo : Sl) (g : St) (x1 : Int32) (o : St) (h : fX_Text_begin x1 g = o) (sz : Nat) : Met l yX9_begin wX_Text_begin (rmX_Text_begin) (va_Pc [.ref (ad 1), .int x1] (xPre shX D T ad sK sV xo g sz)) (va_Qv (eqV o xo) (wPost shX D T ad (aW shX T ad xo g sz)) (aW shX T ad xo g sz)) 0 0 (aW shX T ad xo g sz) := by
  refine g_startx (Qc := fun A => va_Qv (eqV o xo) (wPost shX D T ad A) A) (by decide +kernel) rfl rfl (Nat.le_of_ble_eq_true rfl) (lv := [(0, .ref (ad 1)), (1, .int x1)]) rfl (fun Γ Y => ?_)
  have C := Y.1
  show GcX_Text_begin l D T ad Γ o xo xo g 0 [(0, .ref (ad 1)), (1, .int x1)] []
  refine g_aload_n C dX9_begin_0 rfl 0 rfl ?_
  refine g_iload_n C dX9_begin_1 rfl 1 rfl ?_
  refine gX_put_X9_28 C ob_1 rfl dX9_begin_2 ?_
  refine g_aload_n C dX9_begin_5 rfl 0 rfl ?_
  refine g_iconst C dX9_begin_6 ic_0 ?_
  refine gX_put_X9_19 C ob_1 rfl dX9_begin_7 ?_
  refine g_aload_n C dX9_begin_10 rfl 0 rfl ?_
  refine g_iconst C dX9_begin_11 ic_0 ?_
  refine gX_put_X9_31 C ob_1 rfl dX9_begin_12 ?_
  refine g_aload_n C dX9_begin_15 rfl 0 rfl ?_
  refine g_iconst C dX9_begin_16 ic_0 ?_
  refine gX_put_X9_34 C ob_1 rfl dX9_begin_17 ?_
  refine g_aload_n C dX9_begin_20 rfl 0 rfl ?_
  refine g_iconst C dX9_begin_21 ic_m1 ?_
  refine gX_put_X9_15 C ob_1 rfl dX9_begin_22 ?_
  subst h
  exact g_vret C rfl rfl dX9_begin_25
def fX_Text_faultLessTen (g : St) : Int32 :=
  ((g 1 6) - (10 : Int32))
def rmX_Text_faultLessTen : Room := { frames := 0, cells := 0, slots := 0, locals := 0 }
abbrev GcX_Text_faultLessTen (l : Launch) (D : va_G) (T : cT) (ad : Nat → Nat) (Γ : Cxt) (o : Int32) (xo : Sl) (g0 : St) (x : Sl) (g : St) (pc : Nat) (lv : List (Nat × Value)) (stk : List Value) : Prop := Gj l shX D T ad 1 (rmX_Text_faultLessTen) 0 0 Γ (MQ Γ.below (va_Qi (eqI o g0 xo) (wPost shX D T ad Γ.A) Γ.A) Γ.args Γ.s 0 0 Γ.A) x g pc lv stk
set_option maxRecDepth 100000 in
set_option maxHeartbeats 4000000 in
theorem cX_Text_faultLessTen (l : Launch) (D : va_G) (T : cT) (ad : Nat → Nat) (sK sV : Nat → Nat) (xo : Sl) (g : St) (o : Int32) (h : fX_Text_faultLessTen g = o) (sz : Nat) : Met l yX9_faultLessTen wX_Text_faultLessTen (rmX_Text_faultLessTen) (va_Pc [.ref (ad 1)] (xPre shX D T ad sK sV xo g sz)) (va_Qi (eqI o g xo) (wPost shX D T ad (aW shX T ad xo g sz)) (aW shX T ad xo g sz)) 0 0 (aW shX T ad xo g sz) := by
  refine g_startx (Qc := fun A => va_Qi (eqI o g xo) (wPost shX D T ad A) A) (by decide +kernel) rfl rfl (Nat.le_of_ble_eq_true rfl) (lv := [(0, .ref (ad 1))]) rfl (fun Γ Y => ?_)
  have C := Y.1
  show GcX_Text_faultLessTen l D T ad Γ o xo g xo g 0 [(0, .ref (ad 1))] []
  refine g_aload_n C dX9_faultLessTen_0 rfl 0 rfl ?_
  refine gX_get_X9_34 (v := g 1 6) C ob_1 rfl rfl dX9_faultLessTen_1 ?_
  refine g_bipush C dX9_faultLessTen_4 bp_10 ?_
  refine g_isub C dX9_faultLessTen_6 ?_
  subst h
  exact g_iret C rfl rfl rfl dX9_faultLessTen_7
def fX_Ways_takeOffers_b75 (x1 : Nat) (x2 : Int32) (x3 : Int32) (x4 : Int32) (x5 : Int32) (s1 : Int32) (s2 : Int32) (g : St) : Option ((Int32 × St) ⊕ (St)) :=
  (fX_Rows_put 48 s1 s2 g).bind fun g75 => (some (.inl ((x5 + (1 : Int32)), g75)))
def fX_Ways_takeOffers_b45 (x1 : Nat) (x2 : Int32) (x3 : Int32) (x4 : Int32) (x5 : Int32) (s0 : Int32) (g : St) : Option ((Int32 × St) ⊕ (St)) :=
  if s0 = 0 then
    (fX_Ways_takeOffers_b75 x1 x2 x3 x4 x5 ((x2 * (8 : Int32)) + x5) (-1 : Int32) g)
  else
    ((fX_State_willOf x1 x5 x4 g).bind fun ⟨r68, g68⟩ => (fX_Ways_takeOffers_b75 x1 x2 x3 x4 x5 ((x2 * (8 : Int32)) + x5) r68 g68))
def fX_Ways_takeOffers_b44 (x1 : Nat) (x2 : Int32) (x3 : Int32) (x4 : Int32) (x5 : Int32) (g : St) : Option ((Int32 × St) ⊕ (St)) :=
  fX_Ways_takeOffers_b45 x1 x2 x3 x4 x5 (0 : Int32) g
def fX_Ways_takeOffers_L13 (x1 : Nat) (x2 : Int32) (x3 : Int32) (x4 : Int32) : (Int32 × St) → Option ((Int32 × St) ⊕ (St)) := fun ⟨x5, g⟩ =>
  if (8 : Int32) ≤ x5 then
    (some (.inr g))
  else
    (if ((x3 >>> (x5 &&& 31)) &&& (1 : Int32)) = 0 then
    ((fX_State_lendsTo x1 x5 x4 g).bind fun ⟨r34, g34⟩ => (if r34 = 0 then
    (fX_Ways_takeOffers_b44 x1 x2 x3 x4 x5 g34)
  else
    (fX_Ways_takeOffers_b45 x1 x2 x3 x4 x5 (1 : Int32) g34)))
  else
    (fX_Ways_takeOffers_b44 x1 x2 x3 x4 x5 g))
def fX_Ways_takeOffers_b13 (x1 : Nat) (x2 : Int32) (x3 : Int32) (x4 : Int32) (x5 : Int32) (g : St) : Option (St) :=
  (lp (fX_Ways_takeOffers_L13 x1 x2 x3 x4) fuel (x5, g)).bind (fun g => some g)
def fX_Ways_takeOffers (x1 : Nat) (x2 : Int32) (x3 : Int32) (g : St) : Option (St) :=
  (fX_Rows_at 47 x2 g).bind fun r5 => (fX_Ways_takeOffers_b13 x1 x2 x3 r5 (0 : Int32) g)
def rmX_Ways_takeOffers : Room := { frames := 4, cells := 0, slots := 0, locals := 91 }
abbrev GcX_Ways_takeOffers (l : Launch) (D : va_G) (T : cT) (ad : Nat → Nat) (Γ : Cxt) (o : St) (xo : Sl) (x : Sl) (g : St) (pc : Nat) (lv : List (Nat × Value)) (stk : List Value) : Prop := Gj l shX D T ad 7 (rmX_Ways_takeOffers) 0 0 Γ (MQ Γ.below (va_Qv (eqV o xo) (wPost shX D T ad Γ.A) Γ.A) Γ.args Γ.s 0 0 Γ.A) x g pc lv stk
set_option maxRecDepth 100000 in
set_option maxHeartbeats 4000000 in
theorem cX_Ways_takeOffers (l : Launch) (D : va_G) (T : cT) (ad : Nat → Nat) (sK sV : Nat → Nat) (xo : Sl) (g : St) (x1 : Nat) (x2 : Int32) (x3 : Int32) (hx1 : isState x1) (o : St) (h : fX_Ways_takeOffers x1 x2 x3 g = some o) (sz : Nat) : Met l yX10_takeOffers wX_Ways_takeOffers (rmX_Ways_takeOffers) (va_Pc [.ref (ad 14), .ref (ad x1), .int x2, .int x3] (xPre shX D T ad sK sV xo g sz)) (va_Qv (eqV o xo) (wPost shX D T ad (aW shX T ad xo g sz)) (aW shX T ad xo g sz)) 0 0 (aW shX T ad xo g sz) := by
  refine g_startx (Qc := fun A => va_Qv (eqV o xo) (wPost shX D T ad A) A) (by decide +kernel) rfl rfl (Nat.le_of_ble_eq_true rfl) (lv := [(0, .ref (ad 14)), (1, .ref (ad x1)), (2, .int x2), (3, .int x3)]) rfl (fun Γ Y => ?_)
  have C := Y.1
  show GcX_Ways_takeOffers l D T ad Γ o xo xo g 0 [(0, .ref (ad 14)), (1, .ref (ad x1)), (2, .int x2), (3, .int x3)] []
  have J13 : ∀ (x2 : Int32) (x3 : Int32) (x4 : Int32) (x5 : Int32) (g : St), fX_Ways_takeOffers_b13 x1 x2 x3 x4 x5 g = some o → GcX_Ways_takeOffers l D T ad Γ o xo xo g 13 [(0, .ref (ad 14)), (1, .ref (ad x1)), (2, .int x2), (3, .int x3), (4, .int x4), (5, .int x5)] [] := by
    intro x2 x3 x4 x5 g h
    obtain ⟨g, ht, h⟩ := bnd h
    refine lp_run (P := fun t : Int32 × St => match t with | (x5, g) => GcX_Ways_takeOffers l D T ad Γ o xo xo g 13 [(0, .ref (ad 14)), (1, .ref (ad x1)), (2, .int x2), (3, .int x3), (4, .int x4), (5, .int x5)] []) (E := fun g : St => GcX_Ways_takeOffers l D T ad Γ o xo xo g 84 [] []) ?_ _ _ _ ht ?_
    · rintro ⟨x5, g⟩ z h Kt Ke
      show GcX_Ways_takeOffers l D T ad Γ o xo xo g 13 [(0, .ref (ad 14)), (1, .ref (ad x1)), (2, .int x2), (3, .int x3), (4, .int x4), (5, .int x5)] []
      have J75 : ∀ (x5 : Int32) (s1 : Int32) (s2 : Int32) (g : St), fX_Ways_takeOffers_b75 x1 x2 x3 x4 x5 s1 s2 g = some z → GcX_Ways_takeOffers l D T ad Γ o xo xo g 75 [(0, .ref (ad 14)), (1, .ref (ad x1)), (2, .int x2), (3, .int x3), (4, .int x4), (5, .int x5)] [.int s2, .int s1, .ref (ad 48)] := by
        intro x5 s1 s2 g h
        obtain ⟨g75, hr75, h⟩ := bnd h
        refine g_xSv (As := [.ref (ad 48), .int s1, .int s2]) (rest := []) (go := g75) (xo := xo) Y (fun sz => cX_Rows_put l D T ad sK sV xo g 48 s1 s2 _ hr75 sz) kX_RX10_43_Rows_put ⟨Nat.le_of_ble_eq_true rfl, Nat.le_of_ble_eq_true rfl⟩ ⟨rfl, rfl⟩ ⟨Nat.zero_le _, Nat.zero_le _⟩ rfl rfl (Nat.le_of_ble_eq_true rfl) dX10_takeOffers_75 ?_
        refine g_iinc (lv' := [(5, .int (x5 + (1 : Int32))), (0, .ref (ad 14)), (1, .ref (ad x1)), (2, .int x2), (3, .int x3), (4, .int x4)]) C dX10_takeOffers_78 5 rfl (ii_1 _) (Nat.le_of_ble_eq_true rfl) rfl ?_
        refine g_goto (tgt := 13) C dX10_takeOffers_81 (by decide) ?_
        exact g_sub [1, 2, 3, 4, 5, 0] rfl (Kt _ (Option.some.inj h).symm)
      have J45 : ∀ (x5 : Int32) (s0 : Int32) (g : St), fX_Ways_takeOffers_b45 x1 x2 x3 x4 x5 s0 g = some z → GcX_Ways_takeOffers l D T ad Γ o xo xo g 45 [(0, .ref (ad 14)), (1, .ref (ad x1)), (2, .int x2), (3, .int x3), (4, .int x4), (5, .int x5)] [.int s0] := by
        intro x5 s0 g h
        refine g_istore (lv' := [(6, .int s0), (0, .ref (ad 14)), (1, .ref (ad x1)), (2, .int x2), (3, .int x3), (4, .int x4), (5, .int x5)]) C dX10_takeOffers_45 (Nat.le_of_ble_eq_true rfl) rfl ?_
        refine g_aload_n C dX10_takeOffers_47 rfl 1 rfl ?_
        refine gX_get_X10_15 C ob_14 rfl dX10_takeOffers_48 ?_
        refine g_iload_n C dX10_takeOffers_51 rfl 3 rfl ?_
        refine g_bipush C dX10_takeOffers_52 bp_8 ?_
        refine g_imul C dX10_takeOffers_54 ?_
        refine g_iload C dX10_takeOffers_55 6 rfl ?_
        refine g_iadd C dX10_takeOffers_57 ?_
        refine g_iload C dX10_takeOffers_58 0 rfl ?_
        refine g_if_eq C 74 dX10_takeOffers_60 (by decide) (fun c60 => ?_) (fun c60 => ?_)
        · have h := iteT c60 h
          refine g_iconst C dX10_takeOffers_74 ic_m1 ?_
          exact g_sub [1, 2, 3, 4, 5, 6] rfl (J75 x5 ((x2 * (8 : Int32)) + x5) (-1 : Int32) g h)
        · have h := iteF c60 h
          refine g_aload_n C dX10_takeOffers_63 rfl 2 rfl ?_
          refine g_iload C dX10_takeOffers_64 6 rfl ?_
          refine g_iload C dX10_takeOffers_66 5 rfl ?_
          obtain ⟨⟨r68, g68⟩, hr68, h⟩ := bnd h
          refine g_xVi (k := x1) (As := [.int x5, .int x4]) (rest := [.int ((x2 * (8 : Int32)) + x5), .ref (ad 48)]) (ro := r68) (go := g68) (xo := xo) Y (fun sz => cX_State_willOf l D T ad sK sV xo g x1 x5 x4 hx1 _ hr68 sz) kX_RX10_69_State_willOf ⟨Nat.le_of_ble_eq_true rfl, Nat.le_of_ble_eq_true rfl⟩ ⟨rfl, rfl⟩ ⟨Nat.zero_le _, Nat.zero_le _⟩ (rfl : vwCl[6]? = some (RX7, TX7, 6)) (ob_State hx1) rfl rfl (Nat.le_of_ble_eq_true rfl) dX10_takeOffers_68 ?_
          refine g_goto (tgt := 75) C dX10_takeOffers_71 (by decide) ?_
          exact g_sub [1, 2, 3, 4, 5, 6] rfl (J75 x5 ((x2 * (8 : Int32)) + x5) r68 g68 h)
      have J44 : ∀ (x5 : Int32) (g : St), fX_Ways_takeOffers_b44 x1 x2 x3 x4 x5 g = some z → GcX_Ways_takeOffers l D T ad Γ o xo xo g 44 [(0, .ref (ad 14)), (1, .ref (ad x1)), (2, .int x2), (3, .int x3), (4, .int x4), (5, .int x5)] [] := by
        intro x5 g h
        refine g_iconst C dX10_takeOffers_44 ic_0 ?_
        exact J45 x5 (0 : Int32) g h
      refine g_iload C dX10_takeOffers_13 5 rfl ?_
      refine g_bipush C dX10_takeOffers_15 bp_8 ?_
      refine g_icmp_ge C 84 dX10_takeOffers_17 (by decide) (fun c17 => ?_) (fun c17 => ?_)
      · have h := iteT c17 h
        exact g_sub [] rfl (Ke _ (Option.some.inj h).symm)
      · have h := iteF c17 h
        refine g_iload_n C dX10_takeOffers_20 rfl 3 rfl ?_
        refine g_iload C dX10_takeOffers_21 5 rfl ?_
        refine g_ishr C dX10_takeOffers_23 ?_
        refine g_iconst C dX10_takeOffers_24 ic_1 ?_
        refine g_iand C dX10_takeOffers_25 ?_
        refine g_if_ne C 44 dX10_takeOffers_26 (by decide) (fun c26 => ?_) (fun c26 => ?_)
        · have h := iteT c26 h
          refine g_aload_n C dX10_takeOffers_29 rfl 1 rfl ?_
          refine g_iload C dX10_takeOffers_30 5 rfl ?_
          refine g_iload C dX10_takeOffers_32 4 rfl ?_
          obtain ⟨⟨r34, g34⟩, hr34, h⟩ := bnd h
          refine g_xVz (k := x1) (As := [.int x5, .int x4]) (rest := []) (ro := r34) (go := g34) (xo := xo) Y (fun sz => cX_State_lendsTo l D T ad sK sV xo g x1 x5 x4 hx1 _ hr34 sz) kX_RX10_65_State_lendsTo ⟨Nat.le_of_ble_eq_true rfl, Nat.le_of_ble_eq_true rfl⟩ ⟨rfl, rfl⟩ ⟨Nat.zero_le _, Nat.zero_le _⟩ (rfl : vwCl[6]? = some (RX7, TX7, 6)) (ob_State hx1) rfl rfl (Nat.le_of_ble_eq_true rfl) dX10_takeOffers_34 (fun hz34 => ?_)
          refine g_if_eq C 44 dX10_takeOffers_37 (by decide) (fun c37 => ?_) (fun c37 => ?_)
          · have h := iteT c37 h
            exact J44 x5 g34 h
          · have h := iteF c37 h
            refine g_iconst C dX10_takeOffers_40 ic_1 ?_
            refine g_goto (tgt := 45) C dX10_takeOffers_41 (by decide) ?_
            exact J45 x5 (1 : Int32) g34 h
        · have h := iteF c26 h
          exact J44 x5 g h
    · show GcX_Ways_takeOffers l D T ad Γ o xo xo g 84 [] []
      obtain rfl := Option.some.inj h
      exact g_vret C rfl rfl dX10_takeOffers_84
  refine g_aload_n C dX10_takeOffers_0 rfl 0 rfl ?_
  refine gX_get_X10_9 C ob_14 rfl dX10_takeOffers_1 ?_
  refine g_iload_n C dX10_takeOffers_4 rfl 2 rfl ?_
  obtain ⟨r5, hr5, h⟩ := bnd h
  refine g_xSi (As := [.ref (ad 47), .int x2]) (rest := []) (ro := r5) (go := g) (xo := xo) Y (fun sz => cX_Rows_at l D T ad sK sV xo g 47 x2 _ hr5 sz) kX_RX10_61_Rows_at ⟨Nat.le_of_ble_eq_true rfl, Nat.le_of_ble_eq_true rfl⟩ ⟨rfl, rfl⟩ ⟨Nat.zero_le _, Nat.zero_le _⟩ rfl rfl (Nat.le_of_ble_eq_true rfl) dX10_takeOffers_5 ?_
  refine g_istore (lv' := [(4, .int r5), (0, .ref (ad 14)), (1, .ref (ad x1)), (2, .int x2), (3, .int x3)]) C dX10_takeOffers_8 (Nat.le_of_ble_eq_true rfl) rfl ?_
  refine g_iconst C dX10_takeOffers_10 ic_0 ?_
  refine g_istore (lv' := [(5, .int (0 : Int32)), (4, .int r5), (0, .ref (ad 14)), (1, .ref (ad x1)), (2, .int x2), (3, .int x3)]) C dX10_takeOffers_11 (Nat.le_of_ble_eq_true rfl) rfl ?_
  exact g_sub [2, 3, 4, 5, 1, 0] rfl (J13 x2 x3 r5 (0 : Int32) g h)
def fX_Ways_keepIfBetter_b24 (x1 : Int32) (x2 : Int32) (g : St) : Option (St) :=
  (fX_Rows_copy 50 (0 : Int32) 51 (0 : Int32) (g 14 5) (st (st g 14 6 x1) 14 7 x2)).bind fun g48 => (some g48)
def fX_Ways_keepIfBetter (x1 : Int32) (x2 : Int32) (g : St) : Option (St) :=
  if (g 14 6) < x1 then
    (fX_Ways_keepIfBetter_b24 x1 x2 g)
  else
    (if x1 = (g 14 6) then
    (if x2 ≤ (g 14 7) then
    (some g)
  else
    (fX_Ways_keepIfBetter_b24 x1 x2 g))
  else
    (some g))
def rmX_Ways_keepIfBetter : Room := { frames := 2, cells := 0, slots := 0, locals := 47 }
abbrev GcX_Ways_keepIfBetter (l : Launch) (D : va_G) (T : cT) (ad : Nat → Nat) (Γ : Cxt) (o : St) (xo : Sl) (x : Sl) (g : St) (pc : Nat) (lv : List (Nat × Value)) (stk : List Value) : Prop := Gj l shX D T ad 3 (rmX_Ways_keepIfBetter) 0 0 Γ (MQ Γ.below (va_Qv (eqV o xo) (wPost shX D T ad Γ.A) Γ.A) Γ.args Γ.s 0 0 Γ.A) x g pc lv stk
set_option maxRecDepth 100000 in
set_option maxHeartbeats 4000000 in
theorem cX_Ways_keepIfBetter (l : Launch) (D : va_G) (T : cT) (ad : Nat → Nat) (sK sV : Nat → Nat) (xo : Sl) (g : St) (x1 : Int32) (x2 : Int32) (o : St) (h : fX_Ways_keepIfBetter x1 x2 g = some o) (sz : Nat) : Met l yX10_keepIfBetter wX_Ways_keepIfBetter (rmX_Ways_keepIfBetter) (va_Pc [.ref (ad 14), .int x1, .int x2] (xPre shX D T ad sK sV xo g sz)) (va_Qv (eqV o xo) (wPost shX D T ad (aW shX T ad xo g sz)) (aW shX T ad xo g sz)) 0 0 (aW shX T ad xo g sz) := by
  refine g_startx (Qc := fun A => va_Qv (eqV o xo) (wPost shX D T ad A) A) (by decide +kernel) rfl rfl (Nat.le_of_ble_eq_true rfl) (lv := [(0, .ref (ad 14)), (1, .int x1), (2, .int x2)]) rfl (fun Γ Y => ?_)
  have C := Y.1
  show GcX_Ways_keepIfBetter l D T ad Γ o xo xo g 0 [(0, .ref (ad 14)), (1, .int x1), (2, .int x2)] []
  have J24 : ∀ (x1 : Int32) (x2 : Int32) (g : St), fX_Ways_keepIfBetter_b24 x1 x2 g = some o → GcX_Ways_keepIfBetter l D T ad Γ o xo xo g 24 [(0, .ref (ad 14)), (1, .int x1), (2, .int x2)] [] := by
    intro x1 x2 g h
    refine g_aload_n C dX10_keepIfBetter_24 rfl 0 rfl ?_
    refine g_iload_n C dX10_keepIfBetter_25 rfl 1 rfl ?_
    refine gX_put_X10_31 C ob_14 rfl dX10_keepIfBetter_26 ?_
    refine g_aload_n C dX10_keepIfBetter_29 rfl 0 rfl ?_
    refine g_iload_n C dX10_keepIfBetter_30 rfl 2 rfl ?_
    refine gX_put_X10_34 C ob_14 rfl dX10_keepIfBetter_31 ?_
    refine g_aload_n C dX10_keepIfBetter_34 rfl 0 rfl ?_
    refine gX_get_X10_21 C ob_14 rfl dX10_keepIfBetter_35 ?_
    refine g_iconst C dX10_keepIfBetter_38 ic_0 ?_
    refine g_aload_n C dX10_keepIfBetter_39 rfl 0 rfl ?_
    refine gX_get_X10_24 C ob_14 rfl dX10_keepIfBetter_40 ?_
    refine g_iconst C dX10_keepIfBetter_43 ic_0 ?_
    refine g_aload_n C dX10_keepIfBetter_44 rfl 0 rfl ?_
    refine gX_get_X10_27 (v := g 14 5) C ob_14 rfl rfl dX10_keepIfBetter_45 ?_
    obtain ⟨g48, hr48, h⟩ := bnd h
    refine g_xSv (As := [.ref (ad 50), .int (0 : Int32), .ref (ad 51), .int (0 : Int32), .int (g 14 5)]) (rest := []) (go := g48) (xo := xo) Y (fun sz => cX_Rows_copy l D T ad sK sV xo (st (st g 14 6 x1) 14 7 x2) 50 (0 : Int32) 51 (0 : Int32) (g 14 5) _ hr48 sz) kX_RX10_77_Rows_copy ⟨Nat.le_of_ble_eq_true rfl, Nat.le_of_ble_eq_true rfl⟩ ⟨rfl, rfl⟩ ⟨Nat.zero_le _, Nat.zero_le _⟩ rfl rfl (Nat.le_of_ble_eq_true rfl) dX10_keepIfBetter_48 ?_
    obtain rfl := Option.some.inj h
    exact g_vret C rfl rfl dX10_keepIfBetter_51
  refine g_iload_n C dX10_keepIfBetter_0 rfl 1 rfl ?_
  refine g_aload_n C dX10_keepIfBetter_1 rfl 0 rfl ?_
  refine gX_get_X10_31 (v := g 14 6) C ob_14 rfl rfl dX10_keepIfBetter_2 ?_
  refine g_icmp_gt C 24 dX10_keepIfBetter_5 (by decide) (fun c5 => ?_) (fun c5 => ?_)
  · have h := iteT c5 h
    exact J24 x1 x2 g h
  · have h := iteF c5 h
    refine g_iload_n C dX10_keepIfBetter_8 rfl 1 rfl ?_
    refine g_aload_n C dX10_keepIfBetter_9 rfl 0 rfl ?_
    refine gX_get_X10_31 (v := g 14 6) C ob_14 rfl rfl dX10_keepIfBetter_10 ?_
    refine g_icmp_ne C 51 dX10_keepIfBetter_13 (by decide) (fun c13 => ?_) (fun c13 => ?_)
    · have h := iteT c13 h
      refine g_iload_n C dX10_keepIfBetter_16 rfl 2 rfl ?_
      refine g_aload_n C dX10_keepIfBetter_17 rfl 0 rfl ?_
      refine gX_get_X10_34 (v := g 14 7) C ob_14 rfl rfl dX10_keepIfBetter_18 ?_
      refine g_icmp_le C 51 dX10_keepIfBetter_21 (by decide) (fun c21 => ?_) (fun c21 => ?_)
      · have h := iteT c21 h
        obtain rfl := Option.some.inj h
        exact g_vret C rfl rfl dX10_keepIfBetter_51
      · have h := iteF c21 h
        exact J24 x1 x2 g h
    · have h := iteF c13 h
      obtain rfl := Option.some.inj h
      exact g_vret C rfl rfl dX10_keepIfBetter_51
def fX_Ways_give_b117 (rec_Ways_give : Int32 → Int32 → Int32 → St → Option (St)) (x1 : Int32) (x2 : Int32) (x3 : Int32) (x4 : Int32) (g : St) : Option ((Int32 × St) ⊕ (St)) :=
  some (.inl ((x4 + (1 : Int32)), g))
def fX_Ways_give_L24 (rec_Ways_give : Int32 → Int32 → Int32 → St → Option (St)) (x1 : Int32) (x2 : Int32) (x3 : Int32) : (Int32 × St) → Option ((Int32 × St) ⊕ (St)) := fun ⟨x4, g⟩ =>
  if (8 : Int32) ≤ x4 then
    (some (.inr g))
  else
    ((fX_Rows_at 48 ((x1 * (8 : Int32)) + x4) g).bind fun r42 => ((fX_Rows_at 49 x4 g).bind fun r53 => (if r42 = (-1 : Int32) then
    (fX_Ways_give_b117 rec_Ways_give x1 x2 x3 x4 g)
  else
    (if r53 ≤ 0 then
    (fX_Ways_give_b117 rec_Ways_give x1 x2 x3 x4 g)
  else
    ((fX_Rows_put 49 x4 (r53 - (1 : Int32)) g).bind fun g79 => ((fX_Rows_put 50 x1 x4 g79).bind fun g89 => ((rec_Ways_give (x1 + (1 : Int32)) (x2 + (1 : Int32)) (x3 + r42) g89).bind fun g103 => ((fX_Rows_put 49 x4 r53 g103).bind fun g114 => (fX_Ways_give_b117 rec_Ways_give x1 x2 x3 x4 g114)))))))))
def fX_Ways_give_b24 (rec_Ways_give : Int32 → Int32 → Int32 → St → Option (St)) (x1 : Int32) (x2 : Int32) (x3 : Int32) (x4 : Int32) (g : St) : Option (St) :=
  (lp (fX_Ways_give_L24 rec_Ways_give x1 x2 x3) fuel (x4, g)).bind (fun g => (fX_Rows_put 50 x1 (-1 : Int32) g).bind fun g129 => ((rec_Ways_give (x1 + (1 : Int32)) x2 x3 g129).bind fun g138 => (some g138)))
def fX_Ways_give_b14 (rec_Ways_give : Int32 → Int32 → Int32 → St → Option (St)) (x2 : Int32) (x3 : Int32) (g : St) : Option (St) :=
  (fX_Ways_keepIfBetter x2 x3 g).bind fun g17 => (some g17)
def fX_Ways_give_o (rec_Ways_give : Int32 → Int32 → Int32 → St → Option (St)) (x1 : Int32) (x2 : Int32) (x3 : Int32) (g : St) : Option (St) :=
  if (g 14 5) ≤ x1 then
    (fX_Ways_give_b14 rec_Ways_give x2 x3 g)
  else
    (if x1 < (8 : Int32) then
    (fX_Ways_give_b24 rec_Ways_give x1 x2 x3 (0 : Int32) g)
  else
    (fX_Ways_give_b14 rec_Ways_give x2 x3 g))
abbrev GcX_Ways_give (l : Launch) (D : va_G) (T : cT) (ad : Nat → Nat) (Γ : Cxt) (o : St) (xo : Sl) (d : Nat) (x : Sl) (g : St) (pc : Nat) (lv : List (Nat × Value)) (stk : List Value) : Prop := Gj l shX D T ad 7 (rmR 3 69 26 (d + 1)) 0 0 Γ (MQ Γ.below (va_Qv (eqV o xo) (wPost shX D T ad Γ.A) Γ.A) Γ.args Γ.s 0 0 Γ.A) x g pc lv stk
set_option maxRecDepth 100000 in
set_option maxHeartbeats 4000000 in
theorem cX_Ways_give_o (l : Launch) (D : va_G) (T : cT) (ad : Nat → Nat) (sK sV : Nat → Nat) (d : Nat) (rec_Ways_give : Int32 → Int32 → Int32 → St → Option (St)) (hrec_Ways_give : ∀ (xo : Sl) (g : St) (x1 : Int32) (x2 : Int32) (x3 : Int32) (o : St), rec_Ways_give x1 x2 x3 g = some o → ∀ sz : Nat, Met l yX10_give wX_Ways_give (rmR 3 69 26 d) (va_Pc [.ref (ad 14), .int x1, .int x2, .int x3] (xPre shX D T ad sK sV xo g sz)) (va_Qv (eqV o xo) (wPost shX D T ad (aW shX T ad xo g sz)) (aW shX T ad xo g sz)) 0 0 (aW shX T ad xo g sz)) (xo : Sl) (g : St) (x1 : Int32) (x2 : Int32) (x3 : Int32) (o : St) (h : fX_Ways_give_o rec_Ways_give x1 x2 x3 g = some o) (sz : Nat) : Met l yX10_give wX_Ways_give (rmR 3 69 26 (d + 1)) (va_Pc [.ref (ad 14), .int x1, .int x2, .int x3] (xPre shX D T ad sK sV xo g sz)) (va_Qv (eqV o xo) (wPost shX D T ad (aW shX T ad xo g sz)) (aW shX T ad xo g sz)) 0 0 (aW shX T ad xo g sz) := by
  refine g_startx (Qc := fun A => va_Qv (eqV o xo) (wPost shX D T ad A) A) (by decide +kernel) rfl rfl (Nat.le_of_ble_eq_true rfl) (lv := [(0, .ref (ad 14)), (1, .int x1), (2, .int x2), (3, .int x3)]) rfl (fun Γ Y => ?_)
  have C := Y.1
  show GcX_Ways_give l D T ad Γ o xo d xo g 0 [(0, .ref (ad 14)), (1, .int x1), (2, .int x2), (3, .int x3)] []
  have J24 : ∀ (x1 : Int32) (x2 : Int32) (x3 : Int32) (x4 : Int32) (g : St), fX_Ways_give_b24 rec_Ways_give x1 x2 x3 x4 g = some o → GcX_Ways_give l D T ad Γ o xo d xo g 24 [(0, .ref (ad 14)), (1, .int x1), (2, .int x2), (3, .int x3), (4, .int x4)] [] := by
    intro x1 x2 x3 x4 g h
    obtain ⟨g, ht, h⟩ := bnd h
    refine lp_run (P := fun t : Int32 × St => match t with | (x4, g) => GcX_Ways_give l D T ad Γ o xo d xo g 24 [(0, .ref (ad 14)), (1, .int x1), (2, .int x2), (3, .int x3), (4, .int x4)] []) (E := fun g : St => GcX_Ways_give l D T ad Γ o xo d xo g 123 [(0, .ref (ad 14)), (1, .int x1), (2, .int x2), (3, .int x3)] []) ?_ _ _ _ ht ?_
    · rintro ⟨x4, g⟩ z h Kt Ke
      show GcX_Ways_give l D T ad Γ o xo d xo g 24 [(0, .ref (ad 14)), (1, .int x1), (2, .int x2), (3, .int x3), (4, .int x4)] []
      have J117 : ∀ (x4 : Int32) (g : St), fX_Ways_give_b117 rec_Ways_give x1 x2 x3 x4 g = some z → GcX_Ways_give l D T ad Γ o xo d xo g 117 [(0, .ref (ad 14)), (1, .int x1), (2, .int x2), (3, .int x3), (4, .int x4)] [] := by
        intro x4 g h
        refine g_iinc (lv' := [(4, .int (x4 + (1 : Int32))), (0, .ref (ad 14)), (1, .int x1), (2, .int x2), (3, .int x3)]) C dX10_give_117 4 rfl (ii_1 _) (Nat.le_of_ble_eq_true rfl) rfl ?_
        refine g_goto (tgt := 24) C dX10_give_120 (by decide) ?_
        exact g_sub [1, 2, 3, 4, 0] rfl (Kt _ (Option.some.inj h).symm)
      refine g_iload C dX10_give_24 4 rfl ?_
      refine g_bipush C dX10_give_26 bp_8 ?_
      refine g_icmp_ge C 123 dX10_give_28 (by decide) (fun c28 => ?_) (fun c28 => ?_)
      · have h := iteT c28 h
        exact g_sub [0, 1, 2, 3] rfl (Ke _ (Option.some.inj h).symm)
      · have h := iteF c28 h
        refine g_aload_n C dX10_give_31 rfl 0 rfl ?_
        refine gX_get_X10_15 C ob_14 rfl dX10_give_32 ?_
        refine g_iload_n C dX10_give_35 rfl 1 rfl ?_
        refine g_bipush C dX10_give_36 bp_8 ?_
        refine g_imul C dX10_give_38 ?_
        refine g_iload C dX10_give_39 4 rfl ?_
        refine g_iadd C dX10_give_41 ?_
        obtain ⟨r42, hr42, h⟩ := bnd h
        refine g_xSi (As := [.ref (ad 48), .int ((x1 * (8 : Int32)) + x4)]) (rest := []) (ro := r42) (go := g) (xo := xo) Y (fun sz => cX_Rows_at l D T ad sK sV xo g 48 ((x1 * (8 : Int32)) + x4) _ hr42 sz) kX_RX10_61_Rows_at (by show 0 + 1 ≤ 3 + (d + 1) ∧ 8 + (2 + 11) + 0 ≤ 69 + 26 * (d + 1); omega) ⟨rfl, rfl⟩ ⟨Nat.zero_le _, Nat.zero_le _⟩ rfl rfl (Nat.le_of_ble_eq_true rfl) dX10_give_42 ?_
        refine g_istore (lv' := [(5, .int r42), (0, .ref (ad 14)), (1, .int x1), (2, .int x2), (3, .int x3), (4, .int x4)]) C dX10_give_45 (Nat.le_of_ble_eq_true rfl) rfl ?_
        refine g_aload_n C dX10_give_47 rfl 1 rfl ?_
        refine gX_get_X10_18 C ob_14 rfl dX10_give_48 ?_
        refine g_iload C dX10_give_51 5 rfl ?_
        obtain ⟨r53, hr53, h⟩ := bnd h
        refine g_xSi (As := [.ref (ad 49), .int x4]) (rest := []) (ro := r53) (go := g) (xo := xo) Y (fun sz => cX_Rows_at l D T ad sK sV xo g 49 x4 _ hr53 sz) kX_RX10_61_Rows_at (by show 0 + 1 ≤ 3 + (d + 1) ∧ 8 + (2 + 11) + 0 ≤ 69 + 26 * (d + 1); omega) ⟨rfl, rfl⟩ ⟨Nat.zero_le _, Nat.zero_le _⟩ rfl rfl (Nat.le_of_ble_eq_true rfl) dX10_give_53 ?_
        refine g_istore (lv' := [(6, .int r53), (5, .int r42), (0, .ref (ad 14)), (1, .int x1), (2, .int x2), (3, .int x3), (4, .int x4)]) C dX10_give_56 (Nat.le_of_ble_eq_true rfl) rfl ?_
        refine g_iload C dX10_give_58 1 rfl ?_
        refine g_iconst C dX10_give_60 ic_m1 ?_
        refine g_icmp_eq C 117 dX10_give_61 (by decide) (fun c61 => ?_) (fun c61 => ?_)
        · have h := iteT c61 h
          exact g_sub [2, 3, 4, 5, 6] rfl (J117 x4 g h)
        · have h := iteF c61 h
          refine g_iload C dX10_give_64 0 rfl ?_
          refine g_if_le C 117 dX10_give_66 (by decide) (fun c66 => ?_) (fun c66 => ?_)
          · have h := iteT c66 h
            exact g_sub [2, 3, 4, 5, 6] rfl (J117 x4 g h)
          · have h := iteF c66 h
            refine g_aload_n C dX10_give_69 rfl 2 rfl ?_
            refine gX_get_X10_18 C ob_14 rfl dX10_give_70 ?_
            refine g_iload C dX10_give_73 6 rfl ?_
            refine g_iload C dX10_give_75 0 rfl ?_
            refine g_iconst C dX10_give_77 ic_1 ?_
            refine g_isub C dX10_give_78 ?_
            obtain ⟨g79, hr79, h⟩ := bnd h
            refine g_xSv (As := [.ref (ad 49), .int x4, .int (r53 - (1 : Int32))]) (rest := []) (go := g79) (xo := xo) Y (fun sz => cX_Rows_put l D T ad sK sV xo g 49 x4 (r53 - (1 : Int32)) _ hr79 sz) kX_RX10_43_Rows_put (by show 0 + 1 ≤ 3 + (d + 1) ∧ 8 + (3 + 11) + 0 ≤ 69 + 26 * (d + 1); omega) ⟨rfl, rfl⟩ ⟨Nat.zero_le _, Nat.zero_le _⟩ rfl rfl (Nat.le_of_ble_eq_true rfl) dX10_give_79 ?_
            refine g_aload_n C dX10_give_82 rfl 2 rfl ?_
            refine gX_get_X10_21 C ob_14 rfl dX10_give_83 ?_
            refine g_iload_n C dX10_give_86 rfl 3 rfl ?_
            refine g_iload C dX10_give_87 6 rfl ?_
            obtain ⟨g89, hr89, h⟩ := bnd h
            refine g_xSv (As := [.ref (ad 50), .int x1, .int x4]) (rest := []) (go := g89) (xo := xo) Y (fun sz => cX_Rows_put l D T ad sK sV xo g79 50 x1 x4 _ hr89 sz) kX_RX10_43_Rows_put (by show 0 + 1 ≤ 3 + (d + 1) ∧ 8 + (3 + 11) + 0 ≤ 69 + 26 * (d + 1); omega) ⟨rfl, rfl⟩ ⟨Nat.zero_le _, Nat.zero_le _⟩ rfl rfl (Nat.le_of_ble_eq_true rfl) dX10_give_89 ?_
            refine g_aload_n C dX10_give_92 rfl 2 rfl ?_
            refine g_iload_n C dX10_give_93 rfl 3 rfl ?_
            refine g_iconst C dX10_give_94 ic_1 ?_
            refine g_iadd C dX10_give_95 ?_
            refine g_iload_n C dX10_give_96 rfl 4 rfl ?_
            refine g_iconst C dX10_give_97 ic_1 ?_
            refine g_iadd C dX10_give_98 ?_
            refine g_iload_n C dX10_give_99 rfl 5 rfl ?_
            refine g_iload C dX10_give_100 1 rfl ?_
            refine g_iadd C dX10_give_102 ?_
            obtain ⟨g103, hr103, h⟩ := bnd h
            refine g_xVv (k := 14) (As := [.int (x1 + (1 : Int32)), .int (x2 + (1 : Int32)), .int (x3 + r42)]) (rest := []) (go := g103) (xo := xo) Y (fun sz => hrec_Ways_give xo g89 (x1 + (1 : Int32)) (x2 + (1 : Int32)) (x3 + r42) _ hr103 sz) kX_RX10_57_Ways_give (by show 3 + d + 1 ≤ 3 + (d + 1) ∧ 8 + (7 + 11) + (69 + 26 * d) ≤ 69 + 26 * (d + 1); omega) ⟨rfl, rfl⟩ ⟨Nat.zero_le _, Nat.zero_le _⟩ (rfl : vwCl[9]? = some (RX10, TX10, 8)) ob_14 rfl rfl (Nat.le_of_ble_eq_true rfl) dX10_give_103 ?_
            refine g_aload_n C dX10_give_106 rfl 2 rfl ?_
            refine gX_get_X10_18 C ob_14 rfl dX10_give_107 ?_
            refine g_iload C dX10_give_110 6 rfl ?_
            refine g_iload C dX10_give_112 0 rfl ?_
            obtain ⟨g114, hr114, h⟩ := bnd h
            refine g_xSv (As := [.ref (ad 49), .int x4, .int r53]) (rest := []) (go := g114) (xo := xo) Y (fun sz => cX_Rows_put l D T ad sK sV xo g103 49 x4 r53 _ hr114 sz) kX_RX10_43_Rows_put (by show 0 + 1 ≤ 3 + (d + 1) ∧ 8 + (3 + 11) + 0 ≤ 69 + 26 * (d + 1); omega) ⟨rfl, rfl⟩ ⟨Nat.zero_le _, Nat.zero_le _⟩ rfl rfl (Nat.le_of_ble_eq_true rfl) dX10_give_114 ?_
            exact g_sub [2, 3, 4, 5, 6] rfl (J117 x4 g114 h)
    · show GcX_Ways_give l D T ad Γ o xo d xo g 123 [(0, .ref (ad 14)), (1, .int x1), (2, .int x2), (3, .int x3)] []
      refine g_aload_n C dX10_give_123 rfl 0 rfl ?_
      refine gX_get_X10_21 C ob_14 rfl dX10_give_124 ?_
      refine g_iload_n C dX10_give_127 rfl 1 rfl ?_
      refine g_iconst C dX10_give_128 ic_m1 ?_
      obtain ⟨g129, hr129, h⟩ := bnd h
      refine g_xSv (As := [.ref (ad 50), .int x1, .int (-1 : Int32)]) (rest := []) (go := g129) (xo := xo) Y (fun sz => cX_Rows_put l D T ad sK sV xo g 50 x1 (-1 : Int32) _ hr129 sz) kX_RX10_43_Rows_put (by show 0 + 1 ≤ 3 + (d + 1) ∧ 8 + (3 + 11) + 0 ≤ 69 + 26 * (d + 1); omega) ⟨rfl, rfl⟩ ⟨Nat.zero_le _, Nat.zero_le _⟩ rfl rfl (Nat.le_of_ble_eq_true rfl) dX10_give_129 ?_
      refine g_aload_n C dX10_give_132 rfl 0 rfl ?_
      refine g_iload_n C dX10_give_133 rfl 1 rfl ?_
      refine g_iconst C dX10_give_134 ic_1 ?_
      refine g_iadd C dX10_give_135 ?_
      refine g_iload_n C dX10_give_136 rfl 2 rfl ?_
      refine g_iload_n C dX10_give_137 rfl 3 rfl ?_
      obtain ⟨g138, hr138, h⟩ := bnd h
      refine g_xVv (k := 14) (As := [.int (x1 + (1 : Int32)), .int x2, .int x3]) (rest := []) (go := g138) (xo := xo) Y (fun sz => hrec_Ways_give xo g129 (x1 + (1 : Int32)) x2 x3 _ hr138 sz) kX_RX10_57_Ways_give (by show 3 + d + 1 ≤ 3 + (d + 1) ∧ 8 + (7 + 11) + (69 + 26 * d) ≤ 69 + 26 * (d + 1); omega) ⟨rfl, rfl⟩ ⟨Nat.zero_le _, Nat.zero_le _⟩ (rfl : vwCl[9]? = some (RX10, TX10, 8)) ob_14 rfl rfl (Nat.le_of_ble_eq_true rfl) dX10_give_138 ?_
      obtain rfl := Option.some.inj h
      exact g_vret C rfl rfl dX10_give_141
  have J14 : ∀ (x2 : Int32) (x3 : Int32) (g : St), fX_Ways_give_b14 rec_Ways_give x2 x3 g = some o → GcX_Ways_give l D T ad Γ o xo d xo g 14 [(0, .ref (ad 14)), (2, .int x2), (3, .int x3)] [] := by
    intro x2 x3 g h
    refine g_aload_n C dX10_give_14 rfl 0 rfl ?_
    refine g_iload_n C dX10_give_15 rfl 1 rfl ?_
    refine g_iload_n C dX10_give_16 rfl 2 rfl ?_
    obtain ⟨g17, hr17, h⟩ := bnd h
    refine g_xVv (k := 14) (As := [.int x2, .int x3]) (rest := []) (go := g17) (xo := xo) Y (fun sz => cX_Ways_keepIfBetter l D T ad sK sV xo g x2 x3 _ hr17 sz) kX_RX10_73_Ways_keepIfBetter (by show 2 + 1 ≤ 3 + (d + 1) ∧ 8 + (3 + 11) + 47 ≤ 69 + 26 * (d + 1); omega) ⟨rfl, rfl⟩ ⟨Nat.zero_le _, Nat.zero_le _⟩ (rfl : vwCl[9]? = some (RX10, TX10, 8)) ob_14 rfl rfl (Nat.le_of_ble_eq_true rfl) dX10_give_17 ?_
    obtain rfl := Option.some.inj h
    exact g_vret C rfl rfl dX10_give_20
  refine g_iload_n C dX10_give_0 rfl 1 rfl ?_
  refine g_aload_n C dX10_give_1 rfl 0 rfl ?_
  refine gX_get_X10_27 (v := g 14 5) C ob_14 rfl rfl dX10_give_2 ?_
  refine g_icmp_ge C 14 dX10_give_5 (by decide) (fun c5 => ?_) (fun c5 => ?_)
  · have h := iteT c5 h
    exact g_sub [0, 2, 3] rfl (J14 x2 x3 g h)
  · have h := iteF c5 h
    refine g_iload_n C dX10_give_8 rfl 1 rfl ?_
    refine g_bipush C dX10_give_9 bp_8 ?_
    refine g_icmp_lt C 21 dX10_give_11 (by decide) (fun c11 => ?_) (fun c11 => ?_)
    · have h := iteT c11 h
      refine g_iconst C dX10_give_21 ic_0 ?_
      refine g_istore (lv' := [(4, .int (0 : Int32)), (0, .ref (ad 14)), (1, .int x1), (2, .int x2), (3, .int x3)]) C dX10_give_22 (Nat.le_of_ble_eq_true rfl) rfl ?_
      exact g_sub [1, 2, 3, 4, 0] rfl (J24 x1 x2 x3 (0 : Int32) g h)
    · have h := iteF c11 h
      exact g_sub [0, 2, 3] rfl (J14 x2 x3 g h)
def fX_grp_Ways_give : Nat → Int32 → Int32 → Int32 → St → Option (St)
  | 0 => fun _ _ _ _ => none
  | d + 1 => fX_Ways_give_o (fX_grp_Ways_give d)
def fX_Ways_give (d : Nat) : Int32 → Int32 → Int32 → St → Option (St) := (fX_grp_Ways_give d)
theorem cX_grp_Ways_give (l : Launch) (D : va_G) (T : cT) (ad : Nat → Nat) (sK sV : Nat → Nat) : ∀ d : Nat, (∀ (xo : Sl) (g : St) (x1 : Int32) (x2 : Int32) (x3 : Int32) (o : St), fX_Ways_give d x1 x2 x3 g = some o → ∀ sz : Nat, Met l yX10_give wX_Ways_give (rmR 3 69 26 d) (va_Pc [.ref (ad 14), .int x1, .int x2, .int x3] (xPre shX D T ad sK sV xo g sz)) (va_Qv (eqV o xo) (wPost shX D T ad (aW shX T ad xo g sz)) (aW shX T ad xo g sz)) 0 0 (aW shX T ad xo g sz)) := by
  intro d
  induction d with
  | zero =>
    exact (fun _ _ _ _ _ _ h => nomatch h)
  | succ d ih =>
    exact (fun xo g a0 a1 a2 o h sz => cX_Ways_give_o l D T ad sK sV d _ ih xo g a0 a1 a2 o h sz)
def rmX_Ways_give : Room := rmR 3 69 26 12
theorem cX_Ways_give (l : Launch) (D : va_G) (T : cT) (ad : Nat → Nat) (sK sV : Nat → Nat) (xo : Sl) (g : St) (x1 : Int32) (x2 : Int32) (x3 : Int32) (o : St) (h : fX_Ways_give 12 x1 x2 x3 g = some o) (sz : Nat) : Met l yX10_give wX_Ways_give rmX_Ways_give (va_Pc [.ref (ad 14), .int x1, .int x2, .int x3] (xPre shX D T ad sK sV xo g sz)) (va_Qv (eqV o xo) (wPost shX D T ad (aW shX T ad xo g sz)) (aW shX T ad xo g sz)) 0 0 (aW shX T ad xo g sz) := (cX_grp_Ways_give l D T ad sK sV 12) xo g x1 x2 x3 o h sz
def fX_Ways_search_b85 (x1 : Nat) (x2 : Int32) (x3 : Int32) (g : St) : Option ((Int32 × St) ⊕ (St)) :=
  some (.inl ((x3 + (1 : Int32)), g))
def fX_Ways_search_L17 (x1 : Nat) (x2 : Int32) : (Int32 × St) → Option ((Int32 × St) ⊕ (St)) := fun ⟨x3, g⟩ =>
  if (8 : Int32) ≤ x3 then
    (some (.inr g))
  else
    ((fX_State_roomOf x1 x3 g).bind fun r30 => ((fX_Rows_put 49 x3 r30 g).bind fun g33 => (if ((x2 >>> (x3 &&& 31)) &&& (1 : Int32)) = (1 : Int32) then
    ((fX_State_lives x1 x3 g33).bind fun r47 => (if r47 = 0 then
    (fX_Ways_search_b85 x1 x2 x3 g33)
  else
    ((fX_Rows_put 47 (g33 14 5) x3 g33).bind fun g62 => ((fX_Ways_takeOffers x1 (g62 14 5) x2 g62).bind fun g72 => (fX_Ways_search_b85 x1 x2 x3 (st g72 14 5 ((g72 14 5) + (1 : Int32))))))))
  else
    (fX_Ways_search_b85 x1 x2 x3 g33))))
def fX_Ways_search_b17 (x1 : Nat) (x2 : Int32) (x3 : Int32) (g : St) : Option (St) :=
  (lp (fX_Ways_search_L17 x1 x2) fuel (x3, g)).bind (fun g => (fX_Ways_give 12 (0 : Int32) (0 : Int32) (0 : Int32) g).bind fun g95 => (some g95))
def fX_Ways_search (x1 : Nat) (x2 : Int32) (g : St) : Option (St) :=
  fX_Ways_search_b17 x1 x2 (0 : Int32) (st (st (st g 14 5 (0 : Int32)) 14 6 (-1 : Int32)) 14 7 (-1 : Int32))
def rmX_Ways_search : Room := { frames := 16, cells := 0, slots := 0, locals := 407 }
abbrev GcX_Ways_search (l : Launch) (D : va_G) (T : cT) (ad : Nat → Nat) (Γ : Cxt) (o : St) (xo : Sl) (x : Sl) (g : St) (pc : Nat) (lv : List (Nat × Value)) (stk : List Value) : Prop := Gj l shX D T ad 4 (rmX_Ways_search) 0 0 Γ (MQ Γ.below (va_Qv (eqV o xo) (wPost shX D T ad Γ.A) Γ.A) Γ.args Γ.s 0 0 Γ.A) x g pc lv stk
set_option maxRecDepth 100000 in
set_option maxHeartbeats 4000000 in
theorem cX_Ways_search (l : Launch) (D : va_G) (T : cT) (ad : Nat → Nat) (sK sV : Nat → Nat) (xo : Sl) (g : St) (x1 : Nat) (x2 : Int32) (hx1 : isState x1) (o : St) (h : fX_Ways_search x1 x2 g = some o) (sz : Nat) : Met l yX10_search wX_Ways_search (rmX_Ways_search) (va_Pc [.ref (ad 14), .ref (ad x1), .int x2] (xPre shX D T ad sK sV xo g sz)) (va_Qv (eqV o xo) (wPost shX D T ad (aW shX T ad xo g sz)) (aW shX T ad xo g sz)) 0 0 (aW shX T ad xo g sz) := by
  refine g_startx (Qc := fun A => va_Qv (eqV o xo) (wPost shX D T ad A) A) (by decide +kernel) rfl rfl (Nat.le_of_ble_eq_true rfl) (lv := [(0, .ref (ad 14)), (1, .ref (ad x1)), (2, .int x2)]) rfl (fun Γ Y => ?_)
  have C := Y.1
  show GcX_Ways_search l D T ad Γ o xo xo g 0 [(0, .ref (ad 14)), (1, .ref (ad x1)), (2, .int x2)] []
  have J17 : ∀ (x2 : Int32) (x3 : Int32) (g : St), fX_Ways_search_b17 x1 x2 x3 g = some o → GcX_Ways_search l D T ad Γ o xo xo g 17 [(0, .ref (ad 14)), (1, .ref (ad x1)), (2, .int x2), (3, .int x3)] [] := by
    intro x2 x3 g h
    obtain ⟨g, ht, h⟩ := bnd h
    refine lp_run (P := fun t : Int32 × St => match t with | (x3, g) => GcX_Ways_search l D T ad Γ o xo xo g 17 [(0, .ref (ad 14)), (1, .ref (ad x1)), (2, .int x2), (3, .int x3)] []) (E := fun g : St => GcX_Ways_search l D T ad Γ o xo xo g 91 [(0, .ref (ad 14))] []) ?_ _ _ _ ht ?_
    · rintro ⟨x3, g⟩ z h Kt Ke
      show GcX_Ways_search l D T ad Γ o xo xo g 17 [(0, .ref (ad 14)), (1, .ref (ad x1)), (2, .int x2), (3, .int x3)] []
      have J85 : ∀ (x3 : Int32) (g : St), fX_Ways_search_b85 x1 x2 x3 g = some z → GcX_Ways_search l D T ad Γ o xo xo g 85 [(0, .ref (ad 14)), (1, .ref (ad x1)), (2, .int x2), (3, .int x3)] [] := by
        intro x3 g h
        refine g_iinc (lv' := [(3, .int (x3 + (1 : Int32))), (0, .ref (ad 14)), (1, .ref (ad x1)), (2, .int x2)]) C dX10_search_85 3 rfl (ii_1 _) (Nat.le_of_ble_eq_true rfl) rfl ?_
        refine g_goto (tgt := 17) C dX10_search_88 (by decide) ?_
        exact g_sub [1, 2, 3, 0] rfl (Kt _ (Option.some.inj h).symm)
      refine g_iload_n C dX10_search_17 rfl 3 rfl ?_
      refine g_bipush C dX10_search_18 bp_8 ?_
      refine g_icmp_ge C 91 dX10_search_20 (by decide) (fun c20 => ?_) (fun c20 => ?_)
      · have h := iteT c20 h
        exact g_sub [0] rfl (Ke _ (Option.some.inj h).symm)
      · have h := iteF c20 h
        refine g_aload_n C dX10_search_23 rfl 0 rfl ?_
        refine gX_get_X10_18 C ob_14 rfl dX10_search_24 ?_
        refine g_iload_n C dX10_search_27 rfl 3 rfl ?_
        refine g_aload_n C dX10_search_28 rfl 1 rfl ?_
        refine g_iload_n C dX10_search_29 rfl 3 rfl ?_
        obtain ⟨r30, hr30, h⟩ := bnd h
        refine g_xVi (k := x1) (As := [.int x3]) (rest := [.int x3, .ref (ad 49)]) (ro := r30) (go := g) (xo := xo) Y (fun sz => cX_State_roomOf l D T ad sK sV xo g x1 x3 hx1 _ hr30 sz) kX_RX10_37_State_roomOf ⟨Nat.le_of_ble_eq_true rfl, Nat.le_of_ble_eq_true rfl⟩ ⟨rfl, rfl⟩ ⟨Nat.zero_le _, Nat.zero_le _⟩ (rfl : vwCl[6]? = some (RX7, TX7, 6)) (ob_State hx1) rfl rfl (Nat.le_of_ble_eq_true rfl) dX10_search_30 ?_
        obtain ⟨g33, hr33, h⟩ := bnd h
        refine g_xSv (As := [.ref (ad 49), .int x3, .int r30]) (rest := []) (go := g33) (xo := xo) Y (fun sz => cX_Rows_put l D T ad sK sV xo g 49 x3 r30 _ hr33 sz) kX_RX10_43_Rows_put ⟨Nat.le_of_ble_eq_true rfl, Nat.le_of_ble_eq_true rfl⟩ ⟨rfl, rfl⟩ ⟨Nat.zero_le _, Nat.zero_le _⟩ rfl rfl (Nat.le_of_ble_eq_true rfl) dX10_search_33 ?_
        refine g_iload_n C dX10_search_36 rfl 2 rfl ?_
        refine g_iload_n C dX10_search_37 rfl 3 rfl ?_
        refine g_ishr C dX10_search_38 ?_
        refine g_iconst C dX10_search_39 ic_1 ?_
        refine g_iand C dX10_search_40 ?_
        refine g_iconst C dX10_search_41 ic_1 ?_
        refine g_icmp_ne C 85 dX10_search_42 (by decide) (fun c42 => ?_) (fun c42 => ?_)
        · have h := iteT c42 h
          refine g_aload_n C dX10_search_45 rfl 1 rfl ?_
          refine g_iload_n C dX10_search_46 rfl 3 rfl ?_
          obtain ⟨r47, hr47, h⟩ := bnd h
          refine g_xVz (k := x1) (As := [.int x3]) (rest := []) (ro := r47) (go := g33) (xo := xo) Y (fun sz => cX_State_lives l D T ad sK sV xo g33 x1 x3 hx1 _ hr47 sz) kX_RX10_49_State_lives ⟨Nat.le_of_ble_eq_true rfl, Nat.le_of_ble_eq_true rfl⟩ ⟨rfl, rfl⟩ ⟨Nat.zero_le _, Nat.zero_le _⟩ (rfl : vwCl[6]? = some (RX7, TX7, 6)) (ob_State hx1) rfl rfl (Nat.le_of_ble_eq_true rfl) dX10_search_47 (fun hz47 => ?_)
          refine g_if_eq C 85 dX10_search_50 (by decide) (fun c50 => ?_) (fun c50 => ?_)
          · have h := iteT c50 h
            exact J85 x3 g33 h
          · have h := iteF c50 h
            refine g_aload_n C dX10_search_53 rfl 0 rfl ?_
            refine gX_get_X10_9 C ob_14 rfl dX10_search_54 ?_
            refine g_aload_n C dX10_search_57 rfl 0 rfl ?_
            refine gX_get_X10_27 (v := g33 14 5) C ob_14 rfl rfl dX10_search_58 ?_
            refine g_iload_n C dX10_search_61 rfl 3 rfl ?_
            obtain ⟨g62, hr62, h⟩ := bnd h
            refine g_xSv (As := [.ref (ad 47), .int (g33 14 5), .int x3]) (rest := []) (go := g62) (xo := xo) Y (fun sz => cX_Rows_put l D T ad sK sV xo g33 47 (g33 14 5) x3 _ hr62 sz) kX_RX10_43_Rows_put ⟨Nat.le_of_ble_eq_true rfl, Nat.le_of_ble_eq_true rfl⟩ ⟨rfl, rfl⟩ ⟨Nat.zero_le _, Nat.zero_le _⟩ rfl rfl (Nat.le_of_ble_eq_true rfl) dX10_search_62 ?_
            refine g_aload_n C dX10_search_65 rfl 0 rfl ?_
            refine g_aload_n C dX10_search_66 rfl 1 rfl ?_
            refine g_aload_n C dX10_search_67 rfl 0 rfl ?_
            refine gX_get_X10_27 (v := g62 14 5) C ob_14 rfl rfl dX10_search_68 ?_
            refine g_iload_n C dX10_search_71 rfl 2 rfl ?_
            obtain ⟨g72, hr72, h⟩ := bnd h
            refine g_xVv (k := 14) (As := [.ref (ad x1), .int (g62 14 5), .int x2]) (rest := []) (go := g72) (xo := xo) Y (fun sz => cX_Ways_takeOffers l D T ad sK sV xo g62 x1 (g62 14 5) x2 hx1 _ hr72 sz) kX_RX10_53_Ways_takeOffers ⟨Nat.le_of_ble_eq_true rfl, Nat.le_of_ble_eq_true rfl⟩ ⟨rfl, rfl⟩ ⟨Nat.zero_le _, Nat.zero_le _⟩ (rfl : vwCl[9]? = some (RX10, TX10, 8)) ob_14 rfl rfl (Nat.le_of_ble_eq_true rfl) dX10_search_72 ?_
            refine g_aload_n C dX10_search_75 rfl 0 rfl ?_
            refine g_dup C dX10_search_76 rfl ?_
            refine gX_get_X10_27 (v := g72 14 5) C ob_14 rfl rfl dX10_search_77 ?_
            refine g_iconst C dX10_search_80 ic_1 ?_
            refine g_iadd C dX10_search_81 ?_
            refine gX_put_X10_27 C ob_14 rfl dX10_search_82 ?_
            exact J85 x3 (st g72 14 5 ((g72 14 5) + (1 : Int32))) h
        · have h := iteF c42 h
          exact J85 x3 g33 h
    · show GcX_Ways_search l D T ad Γ o xo xo g 91 [(0, .ref (ad 14))] []
      refine g_aload_n C dX10_search_91 rfl 0 rfl ?_
      refine g_iconst C dX10_search_92 ic_0 ?_
      refine g_iconst C dX10_search_93 ic_0 ?_
      refine g_iconst C dX10_search_94 ic_0 ?_
      obtain ⟨g95, hr95, h⟩ := bnd h
      refine g_xVv (k := 14) (As := [.int (0 : Int32), .int (0 : Int32), .int (0 : Int32)]) (rest := []) (go := g95) (xo := xo) Y (fun sz => cX_Ways_give l D T ad sK sV xo g (0 : Int32) (0 : Int32) (0 : Int32) _ hr95 sz) kX_RX10_57_Ways_give ⟨Nat.le_of_ble_eq_true rfl, Nat.le_of_ble_eq_true rfl⟩ ⟨rfl, rfl⟩ ⟨Nat.zero_le _, Nat.zero_le _⟩ (rfl : vwCl[9]? = some (RX10, TX10, 8)) ob_14 rfl rfl (Nat.le_of_ble_eq_true rfl) dX10_search_95 ?_
      obtain rfl := Option.some.inj h
      exact g_vret C rfl rfl dX10_search_98
  refine g_aload_n C dX10_search_0 rfl 0 rfl ?_
  refine g_iconst C dX10_search_1 ic_0 ?_
  refine gX_put_X10_27 C ob_14 rfl dX10_search_2 ?_
  refine g_aload_n C dX10_search_5 rfl 0 rfl ?_
  refine g_iconst C dX10_search_6 ic_m1 ?_
  refine gX_put_X10_31 C ob_14 rfl dX10_search_7 ?_
  refine g_aload_n C dX10_search_10 rfl 0 rfl ?_
  refine g_iconst C dX10_search_11 ic_m1 ?_
  refine gX_put_X10_34 C ob_14 rfl dX10_search_12 ?_
  refine g_iconst C dX10_search_15 ic_0 ?_
  refine g_istore_n (lv' := [(3, .int (0 : Int32)), (0, .ref (ad 14)), (1, .ref (ad x1)), (2, .int x2)]) C dX10_search_16 rfl (Nat.le_of_ble_eq_true rfl) rfl ?_
  exact g_sub [1, 2, 3, 0] rfl (J17 x2 (0 : Int32) (st (st (st g 14 5 (0 : Int32)) 14 6 (-1 : Int32)) 14 7 (-1 : Int32)) h)
def fX_Ways_lenderOf_L2 (x1 : Int32) (g : St) : Int32 → Option ((Int32) ⊕ (Int32 ⊕ Unit)) := fun x2 =>
  if (g 14 5) ≤ x2 then
    (some (.inr (.inr ())))
  else
    ((fX_Rows_at 47 x2 g).bind fun r15 => (if r15 = x1 then
    (some (.inr (.inl x2)))
  else
    (some (.inl (x2 + (1 : Int32))))))
def fX_Ways_lenderOf_b2 (x1 : Int32) (x2 : Int32) (g : St) : Option (Int32) :=
  (lp (fX_Ways_lenderOf_L2 x1 g) fuel x2).bind (Sum.elim (fun x2 => (fX_Rows_at 51 x2 g).bind fun r27 => (some r27)) (fun _ => some (-1 : Int32)))
def fX_Ways_lenderOf (x1 : Int32) (g : St) : Option (Int32) :=
  fX_Ways_lenderOf_b2 x1 (0 : Int32) g
def rmX_Ways_lenderOf : Room := { frames := 1, cells := 0, slots := 0, locals := 21 }
abbrev GcX_Ways_lenderOf (l : Launch) (D : va_G) (T : cT) (ad : Nat → Nat) (Γ : Cxt) (o : Int32) (xo : Sl) (g0 : St) (x : Sl) (g : St) (pc : Nat) (lv : List (Nat × Value)) (stk : List Value) : Prop := Gj l shX D T ad 3 (rmX_Ways_lenderOf) 0 0 Γ (MQ Γ.below (va_Qi (eqI o g0 xo) (wPost shX D T ad Γ.A) Γ.A) Γ.args Γ.s 0 0 Γ.A) x g pc lv stk
set_option maxRecDepth 100000 in
set_option maxHeartbeats 4000000 in
theorem cX_Ways_lenderOf (l : Launch) (D : va_G) (T : cT) (ad : Nat → Nat) (sK sV : Nat → Nat) (xo : Sl) (g : St) (x1 : Int32) (o : Int32) (h : fX_Ways_lenderOf x1 g = some o) (sz : Nat) : Met l yX10_lenderOf wX_Ways_lenderOf (rmX_Ways_lenderOf) (va_Pc [.ref (ad 14), .int x1] (xPre shX D T ad sK sV xo g sz)) (va_Qi (eqI o g xo) (wPost shX D T ad (aW shX T ad xo g sz)) (aW shX T ad xo g sz)) 0 0 (aW shX T ad xo g sz) := by
  refine g_startx (Qc := fun A => va_Qi (eqI o g xo) (wPost shX D T ad A) A) (by decide +kernel) rfl rfl (Nat.le_of_ble_eq_true rfl) (lv := [(0, .ref (ad 14)), (1, .int x1)]) rfl (fun Γ Y => ?_)
  have C := Y.1
  show GcX_Ways_lenderOf l D T ad Γ o xo g xo g 0 [(0, .ref (ad 14)), (1, .int x1)] []
  have J2 : ∀ (x1 : Int32) (x2 : Int32), fX_Ways_lenderOf_b2 x1 x2 g = some o → GcX_Ways_lenderOf l D T ad Γ o xo g xo g 2 [(0, .ref (ad 14)), (1, .int x1), (2, .int x2)] [] := by
    intro x1 x2 h
    obtain ⟨t, ht, h⟩ := bnd h
    refine lp_run (P := fun x2 : Int32 => GcX_Ways_lenderOf l D T ad Γ o xo g xo g 2 [(0, .ref (ad 14)), (1, .int x1), (2, .int x2)] []) (E := Sum.elim (fun x2 : Int32 => GcX_Ways_lenderOf l D T ad Γ o xo g xo g 22 [(0, .ref (ad 14)), (2, .int x2)] []) (fun _ : Unit => GcX_Ways_lenderOf l D T ad Γ o xo g xo g 37 [] [])) ?_ _ _ _ ht ?_
    · rintro x2 z h Kt Ke
      show GcX_Ways_lenderOf l D T ad Γ o xo g xo g 2 [(0, .ref (ad 14)), (1, .int x1), (2, .int x2)] []
      refine g_iload_n C dX10_lenderOf_2 rfl 2 rfl ?_
      refine g_aload_n C dX10_lenderOf_3 rfl 0 rfl ?_
      refine gX_get_X10_27 (v := g 14 5) C ob_14 rfl rfl dX10_lenderOf_4 ?_
      refine g_icmp_ge C 37 dX10_lenderOf_7 (by decide) (fun c7 => ?_) (fun c7 => ?_)
      · have h := iteT c7 h
        exact g_sub [] rfl (Ke _ (Option.some.inj h).symm)
      · have h := iteF c7 h
        refine g_aload_n C dX10_lenderOf_10 rfl 0 rfl ?_
        refine gX_get_X10_9 C ob_14 rfl dX10_lenderOf_11 ?_
        refine g_iload_n C dX10_lenderOf_14 rfl 2 rfl ?_
        obtain ⟨r15, hr15, h⟩ := bnd h
        refine g_xSi (As := [.ref (ad 47), .int x2]) (rest := []) (ro := r15) (go := g) (xo := xo) Y (fun sz => cX_Rows_at l D T ad sK sV xo g 47 x2 _ hr15 sz) kX_RX10_61_Rows_at ⟨Nat.le_of_ble_eq_true rfl, Nat.le_of_ble_eq_true rfl⟩ ⟨rfl, rfl⟩ ⟨Nat.zero_le _, Nat.zero_le _⟩ rfl rfl (Nat.le_of_ble_eq_true rfl) dX10_lenderOf_15 ?_
        refine g_iload_n C dX10_lenderOf_18 rfl 1 rfl ?_
        refine g_icmp_ne C 31 dX10_lenderOf_19 (by decide) (fun c19 => ?_) (fun c19 => ?_)
        · have h := iteT c19 h
          exact g_sub [0, 2] rfl (Ke _ (Option.some.inj h).symm)
        · have h := iteF c19 h
          refine g_iinc (lv' := [(2, .int (x2 + (1 : Int32))), (0, .ref (ad 14)), (1, .int x1)]) C dX10_lenderOf_31 2 rfl (ii_1 _) (Nat.le_of_ble_eq_true rfl) rfl ?_
          refine g_goto (tgt := 2) C dX10_lenderOf_34 (by decide) ?_
          exact g_sub [1, 2, 0] rfl (Kt _ (Option.some.inj h).symm)
    · rcases t with x2 | _
      · show GcX_Ways_lenderOf l D T ad Γ o xo g xo g 22 [(0, .ref (ad 14)), (2, .int x2)] []
        refine g_aload_n C dX10_lenderOf_22 rfl 0 rfl ?_
        refine gX_get_X10_24 C ob_14 rfl dX10_lenderOf_23 ?_
        refine g_iload_n C dX10_lenderOf_26 rfl 1 rfl ?_
        obtain ⟨r27, hr27, h⟩ := bnd h
        refine g_xSi (As := [.ref (ad 51), .int x2]) (rest := []) (ro := r27) (go := g) (xo := xo) Y (fun sz => cX_Rows_at l D T ad sK sV xo g 51 x2 _ hr27 sz) kX_RX10_61_Rows_at ⟨Nat.le_of_ble_eq_true rfl, Nat.le_of_ble_eq_true rfl⟩ ⟨rfl, rfl⟩ ⟨Nat.zero_le _, Nat.zero_le _⟩ rfl rfl (Nat.le_of_ble_eq_true rfl) dX10_lenderOf_27 ?_
        obtain rfl := Option.some.inj h
        exact g_iret C rfl rfl rfl dX10_lenderOf_30
      · show GcX_Ways_lenderOf l D T ad Γ o xo g xo g 37 [] []
        refine g_iconst C dX10_lenderOf_37 ic_m1 ?_
        obtain rfl := Option.some.inj h
        exact g_iret C rfl rfl rfl dX10_lenderOf_38
  refine g_iconst C dX10_lenderOf_0 ic_0 ?_
  refine g_istore_n (lv' := [(2, .int (0 : Int32)), (0, .ref (ad 14)), (1, .int x1)]) C dX10_lenderOf_1 rfl (Nat.le_of_ble_eq_true rfl) rfl ?_
  exact g_sub [1, 2, 0] rfl (J2 x1 (0 : Int32) h)
def fX_feed (x1 : Int32) (x2 : Int32) (x3 : Int32) (x4 : Int32) (x5 : Int32) (g : St) : Option (Int32 × St) :=
  if (fX_Text_takesTwenty g) = 0 then
    (some ((-1 : Int32), g))
  else
    ((fX_Text_takeNumber x1 g).bind fun g17 => ((fX_Text_takeNumber x2 g17).bind fun g25 => ((fX_Text_takeNumber x3 g25).bind fun g33 => ((fX_Text_takeNumber x4 g33).bind fun g42 => ((fX_Text_takeNumber x5 g42).bind fun g51 => (some ((g51 1 1), g51)))))))
def rmX_feed : Room := { frames := 2, cells := 0, slots := 0, locals := 44 }
abbrev GcX_feed (l : Launch) (D : va_G) (T : cT) (ad : Nat → Nat) (Γ : Cxt) (o : Int32 × St) (xo : Sl) (x : Sl) (g : St) (pc : Nat) (lv : List (Nat × Value)) (stk : List Value) : Prop := Gj l shX D T ad 6 (rmX_feed) 0 0 Γ (MQ Γ.below (va_Qi (eqI o.1 o.2 xo) (wPost shX D T ad Γ.A) Γ.A) Γ.args Γ.s 0 0 Γ.A) x g pc lv stk
set_option maxRecDepth 100000 in
set_option maxHeartbeats 4000000 in
theorem cX_feed (l : Launch) (D : va_G) (T : cT) (ad : Nat → Nat) (sK sV : Nat → Nat) (xo : Sl) (g : St) (x1 : Int32) (x2 : Int32) (x3 : Int32) (x4 : Int32) (x5 : Int32) (o : Int32 × St) (h : fX_feed x1 x2 x3 x4 x5 g = some o) (sz : Nat) : Met l yX11_feed wX_feed (rmX_feed) (va_Pc [.ref (ad 0), .int x1, .int x2, .int x3, .int x4, .int x5] (xPre shX D T ad sK sV xo g sz)) (va_Qi (eqI o.1 o.2 xo) (wPost shX D T ad (aW shX T ad xo g sz)) (aW shX T ad xo g sz)) 0 0 (aW shX T ad xo g sz) := by
  refine g_startx (Qc := fun A => va_Qi (eqI o.1 o.2 xo) (wPost shX D T ad A) A) (by decide +kernel) rfl rfl (Nat.le_of_ble_eq_true rfl) (lv := [(0, .ref (ad 0)), (1, .int x1), (2, .int x2), (3, .int x3), (4, .int x4), (5, .int x5)]) rfl (fun Γ Y => ?_)
  have C := Y.1
  show GcX_feed l D T ad Γ o xo xo g 0 [(0, .ref (ad 0)), (1, .int x1), (2, .int x2), (3, .int x3), (4, .int x4), (5, .int x5)] []
  refine g_aload_n C dX11_feed_0 rfl 0 rfl ?_
  refine gX_get_X11_10 C ob_0 rfl dX11_feed_1 ?_
  refine g_xVz (k := 1) (As := []) (rest := []) (ro := (fX_Text_takesTwenty g)) (go := g) (xo := xo) Y (fun sz => cX_Text_takesTwenty l D T ad sK sV xo g _ rfl sz) kX_RX11_103_Text_takesTwenty ⟨Nat.le_of_ble_eq_true rfl, Nat.le_of_ble_eq_true rfl⟩ ⟨rfl, rfl⟩ ⟨Nat.zero_le _, Nat.zero_le _⟩ (rfl : vwCl[8]? = some (RX9, TX9, 8)) ob_1 rfl rfl (Nat.le_of_ble_eq_true rfl) dX11_feed_4 (fun hz4 => ?_)
  refine g_if_ne C 12 dX11_feed_7 (by decide) (fun c7 => ?_) (fun c7 => ?_)
  · have h := iteT c7 h
    refine g_iconst C dX11_feed_10 ic_m1 ?_
    obtain rfl := Option.some.inj h
    exact g_iret C rfl rfl rfl dX11_feed_11
  · have h := iteF c7 h
    refine g_aload_n C dX11_feed_12 rfl 0 rfl ?_
    refine gX_get_X11_10 C ob_0 rfl dX11_feed_13 ?_
    refine g_iload_n C dX11_feed_16 rfl 1 rfl ?_
    obtain ⟨g17, hr17, h⟩ := bnd h
    refine g_xVv (k := 1) (As := [.int x1]) (rest := []) (go := g17) (xo := xo) Y (fun sz => cX_Text_takeNumber l D T ad sK sV xo g x1 _ hr17 sz) kX_RX11_107_Text_takeNumber ⟨Nat.le_of_ble_eq_true rfl, Nat.le_of_ble_eq_true rfl⟩ ⟨rfl, rfl⟩ ⟨Nat.zero_le _, Nat.zero_le _⟩ (rfl : vwCl[8]? = some (RX9, TX9, 8)) ob_1 rfl rfl (Nat.le_of_ble_eq_true rfl) dX11_feed_17 ?_
    refine g_aload_n C dX11_feed_20 rfl 0 rfl ?_
    refine gX_get_X11_10 C ob_0 rfl dX11_feed_21 ?_
    refine g_iload_n C dX11_feed_24 rfl 2 rfl ?_
    obtain ⟨g25, hr25, h⟩ := bnd h
    refine g_xVv (k := 1) (As := [.int x2]) (rest := []) (go := g25) (xo := xo) Y (fun sz => cX_Text_takeNumber l D T ad sK sV xo g17 x2 _ hr25 sz) kX_RX11_107_Text_takeNumber ⟨Nat.le_of_ble_eq_true rfl, Nat.le_of_ble_eq_true rfl⟩ ⟨rfl, rfl⟩ ⟨Nat.zero_le _, Nat.zero_le _⟩ (rfl : vwCl[8]? = some (RX9, TX9, 8)) ob_1 rfl rfl (Nat.le_of_ble_eq_true rfl) dX11_feed_25 ?_
    refine g_aload_n C dX11_feed_28 rfl 0 rfl ?_
    refine gX_get_X11_10 C ob_0 rfl dX11_feed_29 ?_
    refine g_iload_n C dX11_feed_32 rfl 3 rfl ?_
    obtain ⟨g33, hr33, h⟩ := bnd h
    refine g_xVv (k := 1) (As := [.int x3]) (rest := []) (go := g33) (xo := xo) Y (fun sz => cX_Text_takeNumber l D T ad sK sV xo g25 x3 _ hr33 sz) kX_RX11_107_Text_takeNumber ⟨Nat.le_of_ble_eq_true rfl, Nat.le_of_ble_eq_true rfl⟩ ⟨rfl, rfl⟩ ⟨Nat.zero_le _, Nat.zero_le _⟩ (rfl : vwCl[8]? = some (RX9, TX9, 8)) ob_1 rfl rfl (Nat.le_of_ble_eq_true rfl) dX11_feed_33 ?_
    refine g_aload_n C dX11_feed_36 rfl 0 rfl ?_
    refine gX_get_X11_10 C ob_0 rfl dX11_feed_37 ?_
    refine g_iload C dX11_feed_40 4 rfl ?_
    obtain ⟨g42, hr42, h⟩ := bnd h
    refine g_xVv (k := 1) (As := [.int x4]) (rest := []) (go := g42) (xo := xo) Y (fun sz => cX_Text_takeNumber l D T ad sK sV xo g33 x4 _ hr42 sz) kX_RX11_107_Text_takeNumber ⟨Nat.le_of_ble_eq_true rfl, Nat.le_of_ble_eq_true rfl⟩ ⟨rfl, rfl⟩ ⟨Nat.zero_le _, Nat.zero_le _⟩ (rfl : vwCl[8]? = some (RX9, TX9, 8)) ob_1 rfl rfl (Nat.le_of_ble_eq_true rfl) dX11_feed_42 ?_
    refine g_aload_n C dX11_feed_45 rfl 0 rfl ?_
    refine gX_get_X11_10 C ob_0 rfl dX11_feed_46 ?_
    refine g_iload C dX11_feed_49 5 rfl ?_
    obtain ⟨g51, hr51, h⟩ := bnd h
    refine g_xVv (k := 1) (As := [.int x5]) (rest := []) (go := g51) (xo := xo) Y (fun sz => cX_Text_takeNumber l D T ad sK sV xo g42 x5 _ hr51 sz) kX_RX11_107_Text_takeNumber ⟨Nat.le_of_ble_eq_true rfl, Nat.le_of_ble_eq_true rfl⟩ ⟨rfl, rfl⟩ ⟨Nat.zero_le _, Nat.zero_le _⟩ (rfl : vwCl[8]? = some (RX9, TX9, 8)) ob_1 rfl rfl (Nat.le_of_ble_eq_true rfl) dX11_feed_51 ?_
    refine g_aload_n C dX11_feed_54 rfl 0 rfl ?_
    refine gX_get_X11_10 C ob_0 rfl dX11_feed_55 ?_
    refine gX_get_X11_111 (v := g51 1 1) C ob_1 rfl rfl dX11_feed_58 ?_
    obtain rfl := Option.some.inj h
    exact g_iret C rfl rfl rfl dX11_feed_61
def fX_need (x1 : Int32) (g : St) : (Nat ⊕ Unit) × St :=
  if x1 = 0 then
    ((.inl 1, (st g 0 18 ((g 0 18) + (1 : Int32)))))
  else
    ((.inr (), g))
def rmX_need : Room := { frames := 8, cells := 1, slots := 6, locals := 120 }
abbrev GcX_need (l : Launch) (D : va_G) (T : cT) (ad : Nat → Nat) (Γ : Cxt) (o : (Nat ⊕ Unit) × St) (xo : Sl) (kc : Nat) (x : Sl) (g : St) (pc : Nat) (lv : List (Nat × Value)) (stk : List Value) : Prop := Gj l shX D T ad 2 (rmX_need) kc (6 * kc) Γ (vx_MQ Γ.below (va_Qv (xoV o xo) (wPost shX D T ad Γ.A) Γ.A) (xoX shX D T ad o.1 (o.2, xo) Γ.A) Γ.args Γ.s 1 6 Γ.A) x g pc lv stk
set_option maxRecDepth 100000 in
set_option maxHeartbeats 4000000 in
theorem cX_need (l : Launch) (hl0 : l.stackTraces = false) (D : va_G) (T : cT) (ad : Nat → Nat) (sK sV : Nat → Nat) (xo : Sl) (g : St) (x1 : Int32) (o : (Nat ⊕ Unit) × St) (h : fX_need x1 g = o) (sz : Nat) : vx_Met l yX11_need wX_need (rmX_need) (va_Pc [.ref (ad 0), .int x1] (xPre shX D T ad sK sV xo g sz)) (va_Qv (xoV o xo) (wPost shX D T ad (aW shX T ad xo g sz)) (aW shX T ad xo g sz)) (xoX shX D T ad o.1 (o.2, xo) (aW shX T ad xo g sz)) 1 6 (aW shX T ad xo g sz) := by
  refine g_startt (Qc := fun A => va_Qv (xoV o xo) (wPost shX D T ad A) A) (XC := fun A => xoX shX D T ad o.1 (o.2, xo) A) hl0 (by decide +kernel) rfl rfl (Nat.le_of_ble_eq_true rfl) (lv := [(0, .ref (ad 0)), (1, .int x1)]) rfl (fun Γ Z => ?_)
  have Y := Z.1
  have C := Y.1
  show GcX_need l D T ad Γ o xo 0 xo g 0 [(0, .ref (ad 0)), (1, .int x1)] []
  refine g_iload_n C dX11_need_0 rfl 1 rfl ?_
  refine g_if_ne C 22 dX11_need_1 (by decide) (fun c1 => ?_) (fun c1 => ?_)
  · have h := iteT c1 h
    refine g_aload_n C dX11_need_4 rfl 0 rfl ?_
    refine g_dup C dX11_need_5 rfl ?_
    refine gX_get_X11_374 (v := g 0 18) C ob_0 rfl rfl dX11_need_6 ?_
    refine g_iconst C dX11_need_9 ic_1 ?_
    refine g_iadd C dX11_need_10 ?_
    refine gX_put_X11_374 C ob_0 rfl dX11_need_11 ?_
    subst h
    exact g_throw (rest := []) Z ["java/lang/RuntimeException", "java/lang/Exception"] 1 rfl (by decide) (by decide) (List.mem_cons_of_mem _ bx_565) (List.mem_cons_of_mem _ bx_566) (BX_h0 C.1.2.2.2.2 Y.2.2.2.2.2.2.1 Y.2.2.2.2.2.2.2.2.1 Y.2.2.2.2.2.2.2.2.2.1 Y.2.2.2.2.2.2.2.2.2.2.1) BX_g0 dX11_need_14 dX11_need_17 dX11_need_18 dX11_need_21 (Nat.le_of_ble_eq_true rfl) (Nat.le_of_ble_eq_true rfl) (Nat.le_of_ble_eq_true rfl) (Nat.le_of_ble_eq_true rfl) rfl rfl ⟨Nat.le_of_ble_eq_true rfl, Nat.le_of_ble_eq_true rfl⟩
  · have h := iteF c1 h
    subst h
    exact g_tretv Z rfl rfl ⟨Nat.le_of_ble_eq_true rfl, Nat.le_of_ble_eq_true rfl⟩ dX11_need_22
def fX_peninsula_b21 (x1 : Int32) (s1 : Int32) (g : St) : Option ((Nat ⊕ Int32) × St) :=
  lt1 (fX_need s1 g) fun ⟨r21, g21⟩ => Sum.elim (fun k => some (.inl k, g21)) (fun _ => lt1 (fX_Text_begin x1 g21) fun g29 => ((fX_Land_readFrom 3 g29).bind fun g40 => (if (fX_Text_isSound g40) = 0 then
    (some (.inr (fX_Text_faultLessTen g40), g40))
  else
    ((fX_Land_take 2 3 g40).bind fun g69 => ((fX_Law_becomePlain 4 g69).bind fun g76 => ((fX_Book_clear 8 g76).bind fun g83 => (lt1 (fX_Past_clear g83) fun g90 => ((fX_State_begin 10 g90).bind fun g97 => (some (.inr (g97 2 0), (st g97 0 16 (0 : Int32)))))))))))) r21
def fX_peninsula_b20 (x1 : Int32) (g : St) : Option ((Nat ⊕ Int32) × St) :=
  fX_peninsula_b21 x1 (0 : Int32) g
def fX_peninsula (x1 : Int32) (g : St) : Option ((Nat ⊕ Int32) × St) :=
  if x1 < 0 then
    (fX_peninsula_b20 x1 g)
  else
    (if (g 1 1) < x1 then
    (fX_peninsula_b20 x1 g)
  else
    (fX_peninsula_b21 x1 (1 : Int32) g))
def rmX_peninsula : Room := { frames := 10, cells := 1, slots := 6, locals := 229 }
abbrev GcX_peninsula (l : Launch) (D : va_G) (T : cT) (ad : Nat → Nat) (Γ : Cxt) (o : (Nat ⊕ Int32) × St) (xo : Sl) (kc : Nat) (x : Sl) (g : St) (pc : Nat) (lv : List (Nat × Value)) (stk : List Value) : Prop := Gj l shX D T ad 2 (rmX_peninsula) kc (6 * kc) Γ (vx_MQ Γ.below (va_Qi (xoI o xo) (wPost shX D T ad Γ.A) Γ.A) (xoX shX D T ad o.1 (o.2, xo) Γ.A) Γ.args Γ.s 1 6 Γ.A) x g pc lv stk
set_option maxRecDepth 100000 in
set_option maxHeartbeats 4000000 in
theorem cX_peninsula (l : Launch) (hl0 : l.stackTraces = false) (D : va_G) (T : cT) (ad : Nat → Nat) (sK sV : Nat → Nat) (xo : Sl) (g : St) (x1 : Int32) (o : (Nat ⊕ Int32) × St) (h : fX_peninsula x1 g = some o) (sz : Nat) : vx_Met l yX11_peninsula wX_peninsula (rmX_peninsula) (va_Pc [.ref (ad 0), .int x1] (xPre shX D T ad sK sV xo g sz)) (va_Qi (xoI o xo) (wPost shX D T ad (aW shX T ad xo g sz)) (aW shX T ad xo g sz)) (xoX shX D T ad o.1 (o.2, xo) (aW shX T ad xo g sz)) 1 6 (aW shX T ad xo g sz) := by
  refine g_startt (Qc := fun A => va_Qi (xoI o xo) (wPost shX D T ad A) A) (XC := fun A => xoX shX D T ad o.1 (o.2, xo) A) hl0 (by decide +kernel) rfl rfl (Nat.le_of_ble_eq_true rfl) (lv := [(0, .ref (ad 0)), (1, .int x1)]) rfl (fun Γ Z => ?_)
  have Y := Z.1
  have C := Y.1
  show GcX_peninsula l D T ad Γ o xo 0 xo g 0 [(0, .ref (ad 0)), (1, .int x1)] []
  have J21 : ∀ (x1 : Int32) (s1 : Int32) (g : St), fX_peninsula_b21 x1 s1 g = some o → GcX_peninsula l D T ad Γ o xo 0 xo g 21 [(0, .ref (ad 0)), (1, .int x1)] [.int s1, .ref (ad 0)] := by
    intro x1 s1 g h
    obtain ⟨⟨r21, g21⟩, hr21, h⟩ := ltb h
    refine g_tVv (k := 0) (As := [.int s1]) (rest := []) (o := (r21, g21)) (xo := xo) Z (fun sz => cX_need l hl0 D T ad sK sV xo g s1 _ hr21 sz) kX_RX11_115_need ⟨Nat.le_of_ble_eq_true rfl, Nat.le_of_ble_eq_true rfl⟩ ⟨rfl, rfl⟩ ⟨Nat.le_of_ble_eq_true rfl, Nat.le_of_ble_eq_true rfl⟩ (rfl : vwCl[10]? = some (RX11, TX11, 19)) ob_0 rfl rfl (Nat.le_of_ble_eq_true rfl) dX11_peninsula_21 ⟨Nat.le_of_ble_eq_true rfl, Nat.le_of_ble_eq_true rfl⟩ (fun k9 hk9 => ?_) (fun v9 hv9 => ?_)
    · subst hk9
      obtain rfl := Option.some.inj h
      exact ⟨rfl, rfl⟩
    · subst hv9
      have h := selR h
      refine g_aload_n C dX11_peninsula_24 rfl 0 rfl ?_
      refine gX_get_X11_10 C ob_0 rfl dX11_peninsula_25 ?_
      refine g_iload_n C dX11_peninsula_28 rfl 1 rfl ?_
      obtain ⟨g29, hr29, h⟩ := ltb h
      refine g_xVv (k := 1) (As := [.int x1]) (rest := []) (go := g29) (xo := xo) Y (fun sz => cX_Text_begin l D T ad sK sV xo g21 x1 _ hr29 sz) kX_RX11_119_Text_begin ⟨Nat.le_of_ble_eq_true rfl, Nat.le_of_ble_eq_true rfl⟩ ⟨rfl, rfl⟩ ⟨Nat.le_of_ble_eq_true rfl, Nat.le_of_ble_eq_true rfl⟩ (rfl : vwCl[8]? = some (RX9, TX9, 8)) ob_1 rfl rfl (Nat.le_of_ble_eq_true rfl) dX11_peninsula_29 ?_
      refine g_aload_n C dX11_peninsula_32 rfl 0 rfl ?_
      refine gX_get_X11_23 C ob_0 rfl dX11_peninsula_33 ?_
      refine g_aload_n C dX11_peninsula_36 rfl 0 rfl ?_
      refine gX_get_X11_10 C ob_0 rfl dX11_peninsula_37 ?_
      obtain ⟨g40, hr40, h⟩ := bnd h
      refine g_xVv (k := 3) (As := [.ref (ad 1)]) (rest := []) (go := g40) (xo := xo) Y (fun sz => cX_Land_readFrom l D T ad sK sV xo g29 3 (Or.inr rfl) _ hr40 sz) kX_RX11_121_Land_readFrom ⟨Nat.le_of_ble_eq_true rfl, Nat.le_of_ble_eq_true rfl⟩ ⟨rfl, rfl⟩ ⟨Nat.le_of_ble_eq_true rfl, Nat.le_of_ble_eq_true rfl⟩ (rfl : vwCl[1]? = some (RX1, TX1, 5)) ob_3 rfl rfl (Nat.le_of_ble_eq_true rfl) dX11_peninsula_40 ?_
      refine g_aload_n C dX11_peninsula_43 rfl 0 rfl ?_
      refine gX_get_X11_10 C ob_0 rfl dX11_peninsula_44 ?_
      refine g_xVz (k := 1) (As := []) (rest := []) (ro := (fX_Text_isSound g40)) (go := g40) (xo := xo) Y (fun sz => cX_Text_isSound l D T ad sK sV xo g40 _ rfl sz) kX_RX11_125_Text_isSound ⟨Nat.le_of_ble_eq_true rfl, Nat.le_of_ble_eq_true rfl⟩ ⟨rfl, rfl⟩ ⟨Nat.le_of_ble_eq_true rfl, Nat.le_of_ble_eq_true rfl⟩ (rfl : vwCl[8]? = some (RX9, TX9, 8)) ob_1 rfl rfl (Nat.le_of_ble_eq_true rfl) dX11_peninsula_47 (fun hz47 => ?_)
      refine g_if_ne C 61 dX11_peninsula_50 (by decide) (fun c50 => ?_) (fun c50 => ?_)
      · have h := iteT c50 h
        refine g_aload_n C dX11_peninsula_53 rfl 0 rfl ?_
        refine gX_get_X11_10 C ob_0 rfl dX11_peninsula_54 ?_
        refine g_xVi (k := 1) (As := []) (rest := []) (ro := (fX_Text_faultLessTen g40)) (go := g40) (xo := xo) Y (fun sz => cX_Text_faultLessTen l D T ad sK sV xo g40 _ rfl sz) kX_RX11_128_Text_faultLessTen ⟨Nat.le_of_ble_eq_true rfl, Nat.le_of_ble_eq_true rfl⟩ ⟨rfl, rfl⟩ ⟨Nat.le_of_ble_eq_true rfl, Nat.le_of_ble_eq_true rfl⟩ (rfl : vwCl[8]? = some (RX9, TX9, 8)) ob_1 rfl rfl (Nat.le_of_ble_eq_true rfl) dX11_peninsula_57 ?_
        obtain rfl := Option.some.inj h
        exact g_treti Z rfl rfl ⟨Nat.le_of_ble_eq_true rfl, Nat.le_of_ble_eq_true rfl⟩ dX11_peninsula_60
      · have h := iteF c50 h
        refine g_aload_n C dX11_peninsula_61 rfl 0 rfl ?_
        refine gX_get_X11_19 C ob_0 rfl dX11_peninsula_62 ?_
        refine g_aload_n C dX11_peninsula_65 rfl 0 rfl ?_
        refine gX_get_X11_23 C ob_0 rfl dX11_peninsula_66 ?_
        obtain ⟨g69, hr69, h⟩ := bnd h
        refine g_xVv (k := 2) (As := [.ref (ad 3)]) (rest := []) (go := g69) (xo := xo) Y (fun sz => cX_Land_take l D T ad sK sV xo g40 2 3 (Or.inl rfl) (Or.inr rfl) _ hr69 sz) kX_RX11_132_Land_take ⟨Nat.le_of_ble_eq_true rfl, Nat.le_of_ble_eq_true rfl⟩ ⟨rfl, rfl⟩ ⟨Nat.le_of_ble_eq_true rfl, Nat.le_of_ble_eq_true rfl⟩ (rfl : vwCl[1]? = some (RX1, TX1, 5)) ob_2 rfl rfl (Nat.le_of_ble_eq_true rfl) dX11_peninsula_69 ?_
        refine g_aload_n C dX11_peninsula_72 rfl 0 rfl ?_
        refine gX_get_X11_29 C ob_0 rfl dX11_peninsula_73 ?_
        obtain ⟨g76, hr76, h⟩ := bnd h
        refine g_xVv (k := 4) (As := []) (rest := []) (go := g76) (xo := xo) Y (fun sz => cX_Law_becomePlain l D T ad sK sV xo g69 4 (Or.inl rfl) _ hr76 sz) kX_RX11_97_Law_becomePlain ⟨Nat.le_of_ble_eq_true rfl, Nat.le_of_ble_eq_true rfl⟩ ⟨rfl, rfl⟩ ⟨Nat.le_of_ble_eq_true rfl, Nat.le_of_ble_eq_true rfl⟩ (rfl : vwCl[2]? = some (RX2, TX2, 4)) ob_4 rfl rfl (Nat.le_of_ble_eq_true rfl) dX11_peninsula_76 ?_
        refine g_aload_n C dX11_peninsula_79 rfl 0 rfl ?_
        refine gX_get_X11_53 C ob_0 rfl dX11_peninsula_80 ?_
        obtain ⟨g83, hr83, h⟩ := bnd h
        refine g_xVv (k := 8) (As := []) (rest := []) (go := g83) (xo := xo) Y (fun sz => cX_Book_clear l D T ad sK sV xo g76 8 (Or.inl rfl) _ hr83 sz) kX_RX11_136_Book_clear ⟨Nat.le_of_ble_eq_true rfl, Nat.le_of_ble_eq_true rfl⟩ ⟨rfl, rfl⟩ ⟨Nat.le_of_ble_eq_true rfl, Nat.le_of_ble_eq_true rfl⟩ (rfl : vwCl[0]? = some (RX0, TX0, 2)) ob_8 rfl rfl (Nat.le_of_ble_eq_true rfl) dX11_peninsula_83 ?_
        refine g_aload_n C dX11_peninsula_86 rfl 0 rfl ?_
        refine gX_get_X11_75 C ob_0 rfl dX11_peninsula_87 ?_
        obtain ⟨g90, hr90, h⟩ := ltb h
        refine g_xVv (k := 12) (As := []) (rest := []) (go := g90) (xo := xo) Y (fun sz => cX_Past_clear l D T ad sK sV xo g83 _ hr90 sz) kX_RX11_139_Past_clear ⟨Nat.le_of_ble_eq_true rfl, Nat.le_of_ble_eq_true rfl⟩ ⟨rfl, rfl⟩ ⟨Nat.le_of_ble_eq_true rfl, Nat.le_of_ble_eq_true rfl⟩ (rfl : vwCl[5]? = some (RX5, TX5, 4)) ob_12 rfl rfl (Nat.le_of_ble_eq_true rfl) dX11_peninsula_90 ?_
        refine g_aload_n C dX11_peninsula_93 rfl 0 rfl ?_
        refine gX_get_X11_65 C ob_0 rfl dX11_peninsula_94 ?_
        obtain ⟨g97, hr97, h⟩ := bnd h
        refine g_xVv (k := 10) (As := []) (rest := []) (go := g97) (xo := xo) Y (fun sz => cX_State_begin l D T ad sK sV xo g90 10 (Or.inl rfl) _ hr97 sz) kX_RX11_100_State_begin ⟨Nat.le_of_ble_eq_true rfl, Nat.le_of_ble_eq_true rfl⟩ ⟨rfl, rfl⟩ ⟨Nat.le_of_ble_eq_true rfl, Nat.le_of_ble_eq_true rfl⟩ (rfl : vwCl[6]? = some (RX7, TX7, 6)) ob_10 rfl rfl (Nat.le_of_ble_eq_true rfl) dX11_peninsula_97 ?_
        refine g_aload_n C dX11_peninsula_100 rfl 0 rfl ?_
        refine g_iconst C dX11_peninsula_101 ic_0 ?_
        refine gX_put_X11_140 C ob_0 rfl dX11_peninsula_102 ?_
        refine g_aload_n C dX11_peninsula_105 rfl 0 rfl ?_
        refine gX_get_X11_19 C ob_0 rfl dX11_peninsula_106 ?_
        refine gX_get_X11_143 (v := g97 2 0) C ob_2 rfl rfl dX11_peninsula_109 ?_
        obtain rfl := Option.some.inj h
        exact g_treti Z rfl rfl ⟨Nat.le_of_ble_eq_true rfl, Nat.le_of_ble_eq_true rfl⟩ dX11_peninsula_112
  have J20 : ∀ (x1 : Int32) (g : St), fX_peninsula_b20 x1 g = some o → GcX_peninsula l D T ad Γ o xo 0 xo g 20 [(0, .ref (ad 0)), (1, .int x1)] [.ref (ad 0)] := by
    intro x1 g h
    refine g_iconst C dX11_peninsula_20 ic_0 ?_
    exact J21 x1 (0 : Int32) g h
  refine g_aload_n C dX11_peninsula_0 rfl 0 rfl ?_
  refine g_iload_n C dX11_peninsula_1 rfl 1 rfl ?_
  refine g_if_lt C 20 dX11_peninsula_2 (by decide) (fun c2 => ?_) (fun c2 => ?_)
  · have h := iteT c2 h
    exact J20 x1 g h
  · have h := iteF c2 h
    refine g_iload_n C dX11_peninsula_5 rfl 1 rfl ?_
    refine g_aload_n C dX11_peninsula_6 rfl 0 rfl ?_
    refine gX_get_X11_10 C ob_0 rfl dX11_peninsula_7 ?_
    refine gX_get_X11_111 (v := g 1 1) C ob_1 rfl rfl dX11_peninsula_10 ?_
    refine g_icmp_gt C 20 dX11_peninsula_13 (by decide) (fun c13 => ?_) (fun c13 => ?_)
    · have h := iteT c13 h
      exact J20 x1 g h
    · have h := iteF c13 h
      refine g_iconst C dX11_peninsula_16 ic_1 ?_
      refine g_goto (tgt := 21) C dX11_peninsula_17 (by decide) ?_
      exact J21 x1 (1 : Int32) g h
def fX_law_b28 (x1 : Int32) (s1 : Int32) (g : St) : Option ((Nat ⊕ Int32) × St) :=
  lt1 (fX_need s1 g) fun ⟨r28, g28⟩ => Sum.elim (fun k => some (.inl k, g28)) (fun _ => lt1 (fX_Text_begin x1 g28) fun g36 => ((fX_LawReader_readFrom 5 g36).bind fun g51 => (if (fX_Text_isSound g51) = 0 then
    (some (.inr (fX_Text_faultLessTen g51), g51))
  else
    ((fX_Law_take 4 5 g51).bind fun g80 => (some (.inr (1 : Int32), g80)))))) r28
def fX_law_b27 (x1 : Int32) (g : St) : Option ((Nat ⊕ Int32) × St) :=
  fX_law_b28 x1 (0 : Int32) g
def fX_law (x1 : Int32) (g : St) : Option ((Nat ⊕ Int32) × St) :=
  if x1 < 0 then
    (fX_law_b27 x1 g)
  else
    (if (g 1 1) < x1 then
    (fX_law_b27 x1 g)
  else
    (if (150 : Int32) < x1 then
    (fX_law_b27 x1 g)
  else
    (fX_law_b28 x1 (1 : Int32) g)))
def rmX_law : Room := { frames := 11, cells := 1, slots := 6, locals := 251 }
abbrev GcX_law (l : Launch) (D : va_G) (T : cT) (ad : Nat → Nat) (Γ : Cxt) (o : (Nat ⊕ Int32) × St) (xo : Sl) (kc : Nat) (x : Sl) (g : St) (pc : Nat) (lv : List (Nat × Value)) (stk : List Value) : Prop := Gj l shX D T ad 2 (rmX_law) kc (6 * kc) Γ (vx_MQ Γ.below (va_Qi (xoI o xo) (wPost shX D T ad Γ.A) Γ.A) (xoX shX D T ad o.1 (o.2, xo) Γ.A) Γ.args Γ.s 1 6 Γ.A) x g pc lv stk
set_option maxRecDepth 100000 in
set_option maxHeartbeats 4000000 in
theorem cX_law (l : Launch) (hl0 : l.stackTraces = false) (D : va_G) (T : cT) (ad : Nat → Nat) (sK sV : Nat → Nat) (xo : Sl) (g : St) (x1 : Int32) (o : (Nat ⊕ Int32) × St) (h : fX_law x1 g = some o) (sz : Nat) : vx_Met l yX11_law wX_law (rmX_law) (va_Pc [.ref (ad 0), .int x1] (xPre shX D T ad sK sV xo g sz)) (va_Qi (xoI o xo) (wPost shX D T ad (aW shX T ad xo g sz)) (aW shX T ad xo g sz)) (xoX shX D T ad o.1 (o.2, xo) (aW shX T ad xo g sz)) 1 6 (aW shX T ad xo g sz) := by
  refine g_startt (Qc := fun A => va_Qi (xoI o xo) (wPost shX D T ad A) A) (XC := fun A => xoX shX D T ad o.1 (o.2, xo) A) hl0 (by decide +kernel) rfl rfl (Nat.le_of_ble_eq_true rfl) (lv := [(0, .ref (ad 0)), (1, .int x1)]) rfl (fun Γ Z => ?_)
  have Y := Z.1
  have C := Y.1
  show GcX_law l D T ad Γ o xo 0 xo g 0 [(0, .ref (ad 0)), (1, .int x1)] []
  have J28 : ∀ (x1 : Int32) (s1 : Int32) (g : St), fX_law_b28 x1 s1 g = some o → GcX_law l D T ad Γ o xo 0 xo g 28 [(0, .ref (ad 0)), (1, .int x1)] [.int s1, .ref (ad 0)] := by
    intro x1 s1 g h
    obtain ⟨⟨r28, g28⟩, hr28, h⟩ := ltb h
    refine g_tVv (k := 0) (As := [.int s1]) (rest := []) (o := (r28, g28)) (xo := xo) Z (fun sz => cX_need l hl0 D T ad sK sV xo g s1 _ hr28 sz) kX_RX11_115_need ⟨Nat.le_of_ble_eq_true rfl, Nat.le_of_ble_eq_true rfl⟩ ⟨rfl, rfl⟩ ⟨Nat.le_of_ble_eq_true rfl, Nat.le_of_ble_eq_true rfl⟩ (rfl : vwCl[10]? = some (RX11, TX11, 19)) ob_0 rfl rfl (Nat.le_of_ble_eq_true rfl) dX11_law_28 ⟨Nat.le_of_ble_eq_true rfl, Nat.le_of_ble_eq_true rfl⟩ (fun k9 hk9 => ?_) (fun v9 hv9 => ?_)
    · subst hk9
      obtain rfl := Option.some.inj h
      exact ⟨rfl, rfl⟩
    · subst hv9
      have h := selR h
      refine g_aload_n C dX11_law_31 rfl 0 rfl ?_
      refine gX_get_X11_10 C ob_0 rfl dX11_law_32 ?_
      refine g_iload_n C dX11_law_35 rfl 1 rfl ?_
      obtain ⟨g36, hr36, h⟩ := ltb h
      refine g_xVv (k := 1) (As := [.int x1]) (rest := []) (go := g36) (xo := xo) Y (fun sz => cX_Text_begin l D T ad sK sV xo g28 x1 _ hr36 sz) kX_RX11_119_Text_begin ⟨Nat.le_of_ble_eq_true rfl, Nat.le_of_ble_eq_true rfl⟩ ⟨rfl, rfl⟩ ⟨Nat.le_of_ble_eq_true rfl, Nat.le_of_ble_eq_true rfl⟩ (rfl : vwCl[8]? = some (RX9, TX9, 8)) ob_1 rfl rfl (Nat.le_of_ble_eq_true rfl) dX11_law_36 ?_
      refine g_aload_n C dX11_law_39 rfl 0 rfl ?_
      refine gX_get_X11_39 C ob_0 rfl dX11_law_40 ?_
      refine g_aload_n C dX11_law_43 rfl 0 rfl ?_
      refine gX_get_X11_10 C ob_0 rfl dX11_law_44 ?_
      refine g_aload_n C dX11_law_47 rfl 0 rfl ?_
      refine gX_get_X11_33 C ob_0 rfl dX11_law_48 ?_
      obtain ⟨g51, hr51, h⟩ := bnd h
      refine g_xVv (k := 6) (As := [.ref (ad 1), .ref (ad 5)]) (rest := []) (go := g51) (xo := xo) Y (fun sz => cX_LawReader_readFrom l D T ad sK sV xo g36 5 (Or.inr rfl) _ hr51 sz) kX_RX11_146_LawReader_readFrom ⟨Nat.le_of_ble_eq_true rfl, Nat.le_of_ble_eq_true rfl⟩ ⟨rfl, rfl⟩ ⟨Nat.le_of_ble_eq_true rfl, Nat.le_of_ble_eq_true rfl⟩ (rfl : vwCl[3]? = some (RX3, TX3, 3)) ob_6 rfl rfl (Nat.le_of_ble_eq_true rfl) dX11_law_51 ?_
      refine g_aload_n C dX11_law_54 rfl 0 rfl ?_
      refine gX_get_X11_10 C ob_0 rfl dX11_law_55 ?_
      refine g_xVz (k := 1) (As := []) (rest := []) (ro := (fX_Text_isSound g51)) (go := g51) (xo := xo) Y (fun sz => cX_Text_isSound l D T ad sK sV xo g51 _ rfl sz) kX_RX11_125_Text_isSound ⟨Nat.le_of_ble_eq_true rfl, Nat.le_of_ble_eq_true rfl⟩ ⟨rfl, rfl⟩ ⟨Nat.le_of_ble_eq_true rfl, Nat.le_of_ble_eq_true rfl⟩ (rfl : vwCl[8]? = some (RX9, TX9, 8)) ob_1 rfl rfl (Nat.le_of_ble_eq_true rfl) dX11_law_58 (fun hz58 => ?_)
      refine g_if_ne C 72 dX11_law_61 (by decide) (fun c61 => ?_) (fun c61 => ?_)
      · have h := iteT c61 h
        refine g_aload_n C dX11_law_64 rfl 0 rfl ?_
        refine gX_get_X11_10 C ob_0 rfl dX11_law_65 ?_
        refine g_xVi (k := 1) (As := []) (rest := []) (ro := (fX_Text_faultLessTen g51)) (go := g51) (xo := xo) Y (fun sz => cX_Text_faultLessTen l D T ad sK sV xo g51 _ rfl sz) kX_RX11_128_Text_faultLessTen ⟨Nat.le_of_ble_eq_true rfl, Nat.le_of_ble_eq_true rfl⟩ ⟨rfl, rfl⟩ ⟨Nat.le_of_ble_eq_true rfl, Nat.le_of_ble_eq_true rfl⟩ (rfl : vwCl[8]? = some (RX9, TX9, 8)) ob_1 rfl rfl (Nat.le_of_ble_eq_true rfl) dX11_law_68 ?_
        obtain rfl := Option.some.inj h
        exact g_treti Z rfl rfl ⟨Nat.le_of_ble_eq_true rfl, Nat.le_of_ble_eq_true rfl⟩ dX11_law_71
      · have h := iteF c61 h
        refine g_aload_n C dX11_law_72 rfl 0 rfl ?_
        refine gX_get_X11_29 C ob_0 rfl dX11_law_73 ?_
        refine g_aload_n C dX11_law_76 rfl 0 rfl ?_
        refine gX_get_X11_33 C ob_0 rfl dX11_law_77 ?_
        obtain ⟨g80, hr80, h⟩ := bnd h
        refine g_xVv (k := 4) (As := [.ref (ad 5)]) (rest := []) (go := g80) (xo := xo) Y (fun sz => cX_Law_take l D T ad sK sV xo g51 4 5 (Or.inl rfl) (Or.inr rfl) _ hr80 sz) kX_RX11_149_Law_take ⟨Nat.le_of_ble_eq_true rfl, Nat.le_of_ble_eq_true rfl⟩ ⟨rfl, rfl⟩ ⟨Nat.le_of_ble_eq_true rfl, Nat.le_of_ble_eq_true rfl⟩ (rfl : vwCl[2]? = some (RX2, TX2, 4)) ob_4 rfl rfl (Nat.le_of_ble_eq_true rfl) dX11_law_80 ?_
        refine g_iconst C dX11_law_83 ic_1 ?_
        obtain rfl := Option.some.inj h
        exact g_treti Z rfl rfl ⟨Nat.le_of_ble_eq_true rfl, Nat.le_of_ble_eq_true rfl⟩ dX11_law_84
  have J27 : ∀ (x1 : Int32) (g : St), fX_law_b27 x1 g = some o → GcX_law l D T ad Γ o xo 0 xo g 27 [(0, .ref (ad 0)), (1, .int x1)] [.ref (ad 0)] := by
    intro x1 g h
    refine g_iconst C dX11_law_27 ic_0 ?_
    exact J28 x1 (0 : Int32) g h
  refine g_aload_n C dX11_law_0 rfl 0 rfl ?_
  refine g_iload_n C dX11_law_1 rfl 1 rfl ?_
  refine g_if_lt C 27 dX11_law_2 (by decide) (fun c2 => ?_) (fun c2 => ?_)
  · have h := iteT c2 h
    exact J27 x1 g h
  · have h := iteF c2 h
    refine g_iload_n C dX11_law_5 rfl 1 rfl ?_
    refine g_aload_n C dX11_law_6 rfl 0 rfl ?_
    refine gX_get_X11_10 C ob_0 rfl dX11_law_7 ?_
    refine gX_get_X11_111 (v := g 1 1) C ob_1 rfl rfl dX11_law_10 ?_
    refine g_icmp_gt C 27 dX11_law_13 (by decide) (fun c13 => ?_) (fun c13 => ?_)
    · have h := iteT c13 h
      exact J27 x1 g h
    · have h := iteF c13 h
      refine g_iload_n C dX11_law_16 rfl 1 rfl ?_
      refine g_sipush C dX11_law_17 sp_150 ?_
      refine g_icmp_gt C 27 dX11_law_20 (by decide) (fun c20 => ?_) (fun c20 => ?_)
      · have h := iteT c20 h
        exact J27 x1 g h
      · have h := iteF c20 h
        refine g_iconst C dX11_law_23 ic_1 ?_
        refine g_goto (tgt := 28) C dX11_law_24 (by decide) ?_
        exact J28 x1 (1 : Int32) g h
def fX_work_b28 (x1 : Int32) (s1 : Int32) (g : St) : Option ((Nat ⊕ Int32) × St) :=
  lt1 (fX_need s1 g) fun ⟨r28, g28⟩ => Sum.elim (fun k => some (.inl k, g28)) (fun _ => lt1 (fX_Text_begin x1 g28) fun g36 => (if (fX_Past_isFull g36) = 0 then
    ((fX_Steps_readFrom (g36 2 0) g36).bind fun g67 => (if (fX_Text_isSound g67) = 0 then
    (some (.inr (fX_Text_faultLessTen g67), g67))
  else
    ((fX_Past_keepWork 10 g67).bind fun g96 => ((fX_Steps_run 10 g96).bind fun g107 => (some (.inr (g107 7 7), (st g107 0 16 (g107 7 8))))))))
  else
    (some (.inr (-20 : Int32), g36)))) r28
def fX_work_b27 (x1 : Int32) (g : St) : Option ((Nat ⊕ Int32) × St) :=
  fX_work_b28 x1 (0 : Int32) g
def fX_work (x1 : Int32) (g : St) : Option ((Nat ⊕ Int32) × St) :=
  if x1 < 0 then
    (fX_work_b27 x1 g)
  else
    (if (g 1 1) < x1 then
    (fX_work_b27 x1 g)
  else
    (if (150 : Int32) < x1 then
    (fX_work_b27 x1 g)
  else
    (fX_work_b28 x1 (1 : Int32) g)))
def rmX_work : Room := { frames := 10, cells := 1, slots := 6, locals := 229 }
abbrev GcX_work (l : Launch) (D : va_G) (T : cT) (ad : Nat → Nat) (Γ : Cxt) (o : (Nat ⊕ Int32) × St) (xo : Sl) (kc : Nat) (x : Sl) (g : St) (pc : Nat) (lv : List (Nat × Value)) (stk : List Value) : Prop := Gj l shX D T ad 2 (rmX_work) kc (6 * kc) Γ (vx_MQ Γ.below (va_Qi (xoI o xo) (wPost shX D T ad Γ.A) Γ.A) (xoX shX D T ad o.1 (o.2, xo) Γ.A) Γ.args Γ.s 1 6 Γ.A) x g pc lv stk
set_option maxRecDepth 100000 in
set_option maxHeartbeats 4000000 in
theorem cX_work (l : Launch) (hl0 : l.stackTraces = false) (D : va_G) (T : cT) (ad : Nat → Nat) (sK sV : Nat → Nat) (xo : Sl) (g : St) (x1 : Int32) (o : (Nat ⊕ Int32) × St) (h : fX_work x1 g = some o) (sz : Nat) : vx_Met l yX11_work wX_work (rmX_work) (va_Pc [.ref (ad 0), .int x1] (xPre shX D T ad sK sV xo g sz)) (va_Qi (xoI o xo) (wPost shX D T ad (aW shX T ad xo g sz)) (aW shX T ad xo g sz)) (xoX shX D T ad o.1 (o.2, xo) (aW shX T ad xo g sz)) 1 6 (aW shX T ad xo g sz) := by
  refine g_startt (Qc := fun A => va_Qi (xoI o xo) (wPost shX D T ad A) A) (XC := fun A => xoX shX D T ad o.1 (o.2, xo) A) hl0 (by decide +kernel) rfl rfl (Nat.le_of_ble_eq_true rfl) (lv := [(0, .ref (ad 0)), (1, .int x1)]) rfl (fun Γ Z => ?_)
  have Y := Z.1
  have C := Y.1
  show GcX_work l D T ad Γ o xo 0 xo g 0 [(0, .ref (ad 0)), (1, .int x1)] []
  have J28 : ∀ (x1 : Int32) (s1 : Int32) (g : St), fX_work_b28 x1 s1 g = some o → GcX_work l D T ad Γ o xo 0 xo g 28 [(0, .ref (ad 0)), (1, .int x1)] [.int s1, .ref (ad 0)] := by
    intro x1 s1 g h
    obtain ⟨⟨r28, g28⟩, hr28, h⟩ := ltb h
    refine g_tVv (k := 0) (As := [.int s1]) (rest := []) (o := (r28, g28)) (xo := xo) Z (fun sz => cX_need l hl0 D T ad sK sV xo g s1 _ hr28 sz) kX_RX11_115_need ⟨Nat.le_of_ble_eq_true rfl, Nat.le_of_ble_eq_true rfl⟩ ⟨rfl, rfl⟩ ⟨Nat.le_of_ble_eq_true rfl, Nat.le_of_ble_eq_true rfl⟩ (rfl : vwCl[10]? = some (RX11, TX11, 19)) ob_0 rfl rfl (Nat.le_of_ble_eq_true rfl) dX11_work_28 ⟨Nat.le_of_ble_eq_true rfl, Nat.le_of_ble_eq_true rfl⟩ (fun k9 hk9 => ?_) (fun v9 hv9 => ?_)
    · subst hk9
      obtain rfl := Option.some.inj h
      exact ⟨rfl, rfl⟩
    · subst hv9
      have h := selR h
      refine g_aload_n C dX11_work_31 rfl 0 rfl ?_
      refine gX_get_X11_10 C ob_0 rfl dX11_work_32 ?_
      refine g_iload_n C dX11_work_35 rfl 1 rfl ?_
      obtain ⟨g36, hr36, h⟩ := ltb h
      refine g_xVv (k := 1) (As := [.int x1]) (rest := []) (go := g36) (xo := xo) Y (fun sz => cX_Text_begin l D T ad sK sV xo g28 x1 _ hr36 sz) kX_RX11_119_Text_begin ⟨Nat.le_of_ble_eq_true rfl, Nat.le_of_ble_eq_true rfl⟩ ⟨rfl, rfl⟩ ⟨Nat.le_of_ble_eq_true rfl, Nat.le_of_ble_eq_true rfl⟩ (rfl : vwCl[8]? = some (RX9, TX9, 8)) ob_1 rfl rfl (Nat.le_of_ble_eq_true rfl) dX11_work_36 ?_
      refine g_aload_n C dX11_work_39 rfl 0 rfl ?_
      refine gX_get_X11_75 C ob_0 rfl dX11_work_40 ?_
      refine g_xVz (k := 12) (As := []) (rest := []) (ro := (fX_Past_isFull g36)) (go := g36) (xo := xo) Y (fun sz => cX_Past_isFull l D T ad sK sV xo g36 _ rfl sz) kX_RX11_152_Past_isFull ⟨Nat.le_of_ble_eq_true rfl, Nat.le_of_ble_eq_true rfl⟩ ⟨rfl, rfl⟩ ⟨Nat.le_of_ble_eq_true rfl, Nat.le_of_ble_eq_true rfl⟩ (rfl : vwCl[5]? = some (RX5, TX5, 4)) ob_12 rfl rfl (Nat.le_of_ble_eq_true rfl) dX11_work_43 (fun hz43 => ?_)
      refine g_if_eq C 52 dX11_work_46 (by decide) (fun c46 => ?_) (fun c46 => ?_)
      · have h := iteT c46 h
        refine g_aload_n C dX11_work_52 rfl 0 rfl ?_
        refine gX_get_X11_46 C ob_0 rfl dX11_work_53 ?_
        refine g_aload_n C dX11_work_56 rfl 0 rfl ?_
        refine gX_get_X11_10 C ob_0 rfl dX11_work_57 ?_
        refine g_aload_n C dX11_work_60 rfl 0 rfl ?_
        refine gX_get_X11_19 C ob_0 rfl dX11_work_61 ?_
        refine gX_get_X11_143 (v := g36 2 0) C ob_2 rfl rfl dX11_work_64 ?_
        obtain ⟨g67, hr67, h⟩ := bnd h
        refine g_xVv (k := 7) (As := [.ref (ad 1), .int (g36 2 0)]) (rest := []) (go := g67) (xo := xo) Y (fun sz => cX_Steps_readFrom l D T ad sK sV xo g36 (g36 2 0) _ hr67 sz) kX_RX11_155_Steps_readFrom ⟨Nat.le_of_ble_eq_true rfl, Nat.le_of_ble_eq_true rfl⟩ ⟨rfl, rfl⟩ ⟨Nat.le_of_ble_eq_true rfl, Nat.le_of_ble_eq_true rfl⟩ (rfl : vwCl[7]? = some (RX8, TX8, 9)) ob_7 rfl rfl (Nat.le_of_ble_eq_true rfl) dX11_work_67 ?_
        refine g_aload_n C dX11_work_70 rfl 0 rfl ?_
        refine gX_get_X11_10 C ob_0 rfl dX11_work_71 ?_
        refine g_xVz (k := 1) (As := []) (rest := []) (ro := (fX_Text_isSound g67)) (go := g67) (xo := xo) Y (fun sz => cX_Text_isSound l D T ad sK sV xo g67 _ rfl sz) kX_RX11_125_Text_isSound ⟨Nat.le_of_ble_eq_true rfl, Nat.le_of_ble_eq_true rfl⟩ ⟨rfl, rfl⟩ ⟨Nat.le_of_ble_eq_true rfl, Nat.le_of_ble_eq_true rfl⟩ (rfl : vwCl[8]? = some (RX9, TX9, 8)) ob_1 rfl rfl (Nat.le_of_ble_eq_true rfl) dX11_work_74 (fun hz74 => ?_)
        refine g_if_ne C 88 dX11_work_77 (by decide) (fun c77 => ?_) (fun c77 => ?_)
        · have h := iteT c77 h
          refine g_aload_n C dX11_work_80 rfl 0 rfl ?_
          refine gX_get_X11_10 C ob_0 rfl dX11_work_81 ?_
          refine g_xVi (k := 1) (As := []) (rest := []) (ro := (fX_Text_faultLessTen g67)) (go := g67) (xo := xo) Y (fun sz => cX_Text_faultLessTen l D T ad sK sV xo g67 _ rfl sz) kX_RX11_128_Text_faultLessTen ⟨Nat.le_of_ble_eq_true rfl, Nat.le_of_ble_eq_true rfl⟩ ⟨rfl, rfl⟩ ⟨Nat.le_of_ble_eq_true rfl, Nat.le_of_ble_eq_true rfl⟩ (rfl : vwCl[8]? = some (RX9, TX9, 8)) ob_1 rfl rfl (Nat.le_of_ble_eq_true rfl) dX11_work_84 ?_
          obtain rfl := Option.some.inj h
          exact g_treti Z rfl rfl ⟨Nat.le_of_ble_eq_true rfl, Nat.le_of_ble_eq_true rfl⟩ dX11_work_87
        · have h := iteF c77 h
          refine g_aload_n C dX11_work_88 rfl 0 rfl ?_
          refine gX_get_X11_75 C ob_0 rfl dX11_work_89 ?_
          refine g_aload_n C dX11_work_92 rfl 0 rfl ?_
          refine gX_get_X11_65 C ob_0 rfl dX11_work_93 ?_
          obtain ⟨g96, hr96, h⟩ := bnd h
          refine g_xVv (k := 12) (As := [.ref (ad 10)]) (rest := []) (go := g96) (xo := xo) Y (fun sz => cX_Past_keepWork l D T ad sK sV xo g67 10 (Or.inl rfl) _ hr96 sz) kX_RX11_158_Past_keepWork ⟨Nat.le_of_ble_eq_true rfl, Nat.le_of_ble_eq_true rfl⟩ ⟨rfl, rfl⟩ ⟨Nat.le_of_ble_eq_true rfl, Nat.le_of_ble_eq_true rfl⟩ (rfl : vwCl[5]? = some (RX5, TX5, 4)) ob_12 rfl rfl (Nat.le_of_ble_eq_true rfl) dX11_work_96 ?_
          refine g_aload_n C dX11_work_99 rfl 0 rfl ?_
          refine gX_get_X11_46 C ob_0 rfl dX11_work_100 ?_
          refine g_aload_n C dX11_work_103 rfl 0 rfl ?_
          refine gX_get_X11_65 C ob_0 rfl dX11_work_104 ?_
          obtain ⟨g107, hr107, h⟩ := bnd h
          refine g_xVv (k := 7) (As := [.ref (ad 10)]) (rest := []) (go := g107) (xo := xo) Y (fun sz => cX_Steps_run l D T ad sK sV xo g96 10 (Or.inl rfl) _ hr107 sz) kX_RX11_162_Steps_run ⟨Nat.le_of_ble_eq_true rfl, Nat.le_of_ble_eq_true rfl⟩ ⟨rfl, rfl⟩ ⟨Nat.le_of_ble_eq_true rfl, Nat.le_of_ble_eq_true rfl⟩ (rfl : vwCl[7]? = some (RX8, TX8, 9)) ob_7 rfl rfl (Nat.le_of_ble_eq_true rfl) dX11_work_107 ?_
          refine g_aload_n C dX11_work_110 rfl 0 rfl ?_
          refine g_aload_n C dX11_work_111 rfl 0 rfl ?_
          refine gX_get_X11_46 C ob_0 rfl dX11_work_112 ?_
          refine gX_get_X11_165 (v := g107 7 8) C ob_7 rfl rfl dX11_work_115 ?_
          refine gX_put_X11_140 C ob_0 rfl dX11_work_118 ?_
          refine g_aload_n C dX11_work_121 rfl 0 rfl ?_
          refine gX_get_X11_46 C ob_0 rfl dX11_work_122 ?_
          refine gX_get_X11_168 (v := g107 7 7) C ob_7 rfl rfl dX11_work_125 ?_
          obtain rfl := Option.some.inj h
          exact g_treti Z rfl rfl ⟨Nat.le_of_ble_eq_true rfl, Nat.le_of_ble_eq_true rfl⟩ dX11_work_128
      · have h := iteF c46 h
        refine g_bipush C dX11_work_49 bp_m20 ?_
        obtain rfl := Option.some.inj h
        exact g_treti Z rfl rfl ⟨Nat.le_of_ble_eq_true rfl, Nat.le_of_ble_eq_true rfl⟩ dX11_work_51
  have J27 : ∀ (x1 : Int32) (g : St), fX_work_b27 x1 g = some o → GcX_work l D T ad Γ o xo 0 xo g 27 [(0, .ref (ad 0)), (1, .int x1)] [.ref (ad 0)] := by
    intro x1 g h
    refine g_iconst C dX11_work_27 ic_0 ?_
    exact J28 x1 (0 : Int32) g h
  refine g_aload_n C dX11_work_0 rfl 0 rfl ?_
  refine g_iload_n C dX11_work_1 rfl 1 rfl ?_
  refine g_if_lt C 27 dX11_work_2 (by decide) (fun c2 => ?_) (fun c2 => ?_)
  · have h := iteT c2 h
    exact J27 x1 g h
  · have h := iteF c2 h
    refine g_iload_n C dX11_work_5 rfl 1 rfl ?_
    refine g_aload_n C dX11_work_6 rfl 0 rfl ?_
    refine gX_get_X11_10 C ob_0 rfl dX11_work_7 ?_
    refine gX_get_X11_111 (v := g 1 1) C ob_1 rfl rfl dX11_work_10 ?_
    refine g_icmp_gt C 27 dX11_work_13 (by decide) (fun c13 => ?_) (fun c13 => ?_)
    · have h := iteT c13 h
      exact J27 x1 g h
    · have h := iteF c13 h
      refine g_iload_n C dX11_work_16 rfl 1 rfl ?_
      refine g_sipush C dX11_work_17 sp_150 ?_
      refine g_icmp_gt C 27 dX11_work_20 (by decide) (fun c20 => ?_) (fun c20 => ?_)
      · have h := iteT c20 h
        exact J27 x1 g h
      · have h := iteF c20 h
        refine g_iconst C dX11_work_23 ic_1 ?_
        refine g_goto (tgt := 28) C dX11_work_24 (by decide) ?_
        exact J28 x1 (1 : Int32) g h
def fX_book_b27 (x1 : Int32) (s1 : Int32) (g : St) : Option ((Nat ⊕ Int32) × St) :=
  lt1 (fX_need s1 g) fun ⟨r27, g27⟩ => Sum.elim (fun k => some (.inl k, g27)) (fun _ => lt1 (fX_Text_begin x1 g27) fun g35 => ((fX_Book_readFrom 9 (g35 2 0) g35).bind fun g53 => (if (fX_Text_isSound g53) = 0 then
    (some (.inr (fX_Text_faultLessTen g53), g53))
  else
    ((fX_Book_take 8 9 g53).bind fun g82 => (some (.inr (g82 8 1), g82)))))) r27
def fX_book_b26 (x1 : Int32) (g : St) : Option ((Nat ⊕ Int32) × St) :=
  fX_book_b27 x1 (0 : Int32) g
def fX_book (x1 : Int32) (g : St) : Option ((Nat ⊕ Int32) × St) :=
  if x1 < 0 then
    (fX_book_b26 x1 g)
  else
    (if (g 1 1) < x1 then
    (fX_book_b26 x1 g)
  else
    (if (60 : Int32) < x1 then
    (fX_book_b26 x1 g)
  else
    (fX_book_b27 x1 (1 : Int32) g)))
def rmX_book : Room := { frames := 9, cells := 1, slots := 6, locals := 141 }
abbrev GcX_book (l : Launch) (D : va_G) (T : cT) (ad : Nat → Nat) (Γ : Cxt) (o : (Nat ⊕ Int32) × St) (xo : Sl) (kc : Nat) (x : Sl) (g : St) (pc : Nat) (lv : List (Nat × Value)) (stk : List Value) : Prop := Gj l shX D T ad 2 (rmX_book) kc (6 * kc) Γ (vx_MQ Γ.below (va_Qi (xoI o xo) (wPost shX D T ad Γ.A) Γ.A) (xoX shX D T ad o.1 (o.2, xo) Γ.A) Γ.args Γ.s 1 6 Γ.A) x g pc lv stk
set_option maxRecDepth 100000 in
set_option maxHeartbeats 4000000 in
theorem cX_book (l : Launch) (hl0 : l.stackTraces = false) (D : va_G) (T : cT) (ad : Nat → Nat) (sK sV : Nat → Nat) (xo : Sl) (g : St) (x1 : Int32) (o : (Nat ⊕ Int32) × St) (h : fX_book x1 g = some o) (sz : Nat) : vx_Met l yX11_book wX_book (rmX_book) (va_Pc [.ref (ad 0), .int x1] (xPre shX D T ad sK sV xo g sz)) (va_Qi (xoI o xo) (wPost shX D T ad (aW shX T ad xo g sz)) (aW shX T ad xo g sz)) (xoX shX D T ad o.1 (o.2, xo) (aW shX T ad xo g sz)) 1 6 (aW shX T ad xo g sz) := by
  refine g_startt (Qc := fun A => va_Qi (xoI o xo) (wPost shX D T ad A) A) (XC := fun A => xoX shX D T ad o.1 (o.2, xo) A) hl0 (by decide +kernel) rfl rfl (Nat.le_of_ble_eq_true rfl) (lv := [(0, .ref (ad 0)), (1, .int x1)]) rfl (fun Γ Z => ?_)
  have Y := Z.1
  have C := Y.1
  show GcX_book l D T ad Γ o xo 0 xo g 0 [(0, .ref (ad 0)), (1, .int x1)] []
  have J27 : ∀ (x1 : Int32) (s1 : Int32) (g : St), fX_book_b27 x1 s1 g = some o → GcX_book l D T ad Γ o xo 0 xo g 27 [(0, .ref (ad 0)), (1, .int x1)] [.int s1, .ref (ad 0)] := by
    intro x1 s1 g h
    obtain ⟨⟨r27, g27⟩, hr27, h⟩ := ltb h
    refine g_tVv (k := 0) (As := [.int s1]) (rest := []) (o := (r27, g27)) (xo := xo) Z (fun sz => cX_need l hl0 D T ad sK sV xo g s1 _ hr27 sz) kX_RX11_115_need ⟨Nat.le_of_ble_eq_true rfl, Nat.le_of_ble_eq_true rfl⟩ ⟨rfl, rfl⟩ ⟨Nat.le_of_ble_eq_true rfl, Nat.le_of_ble_eq_true rfl⟩ (rfl : vwCl[10]? = some (RX11, TX11, 19)) ob_0 rfl rfl (Nat.le_of_ble_eq_true rfl) dX11_book_27 ⟨Nat.le_of_ble_eq_true rfl, Nat.le_of_ble_eq_true rfl⟩ (fun k9 hk9 => ?_) (fun v9 hv9 => ?_)
    · subst hk9
      obtain rfl := Option.some.inj h
      exact ⟨rfl, rfl⟩
    · subst hv9
      have h := selR h
      refine g_aload_n C dX11_book_30 rfl 0 rfl ?_
      refine gX_get_X11_10 C ob_0 rfl dX11_book_31 ?_
      refine g_iload_n C dX11_book_34 rfl 1 rfl ?_
      obtain ⟨g35, hr35, h⟩ := ltb h
      refine g_xVv (k := 1) (As := [.int x1]) (rest := []) (go := g35) (xo := xo) Y (fun sz => cX_Text_begin l D T ad sK sV xo g27 x1 _ hr35 sz) kX_RX11_119_Text_begin ⟨Nat.le_of_ble_eq_true rfl, Nat.le_of_ble_eq_true rfl⟩ ⟨rfl, rfl⟩ ⟨Nat.le_of_ble_eq_true rfl, Nat.le_of_ble_eq_true rfl⟩ (rfl : vwCl[8]? = some (RX9, TX9, 8)) ob_1 rfl rfl (Nat.le_of_ble_eq_true rfl) dX11_book_35 ?_
      refine g_aload_n C dX11_book_38 rfl 0 rfl ?_
      refine gX_get_X11_57 C ob_0 rfl dX11_book_39 ?_
      refine g_aload_n C dX11_book_42 rfl 0 rfl ?_
      refine gX_get_X11_10 C ob_0 rfl dX11_book_43 ?_
      refine g_aload_n C dX11_book_46 rfl 0 rfl ?_
      refine gX_get_X11_19 C ob_0 rfl dX11_book_47 ?_
      refine gX_get_X11_143 (v := g35 2 0) C ob_2 rfl rfl dX11_book_50 ?_
      obtain ⟨g53, hr53, h⟩ := bnd h
      refine g_xVv (k := 9) (As := [.ref (ad 1), .int (g35 2 0)]) (rest := []) (go := g53) (xo := xo) Y (fun sz => cX_Book_readFrom l D T ad sK sV xo g35 9 (g35 2 0) (Or.inr rfl) _ hr53 sz) kX_RX11_171_Book_readFrom ⟨Nat.le_of_ble_eq_true rfl, Nat.le_of_ble_eq_true rfl⟩ ⟨rfl, rfl⟩ ⟨Nat.le_of_ble_eq_true rfl, Nat.le_of_ble_eq_true rfl⟩ (rfl : vwCl[0]? = some (RX0, TX0, 2)) ob_9 rfl rfl (Nat.le_of_ble_eq_true rfl) dX11_book_53 ?_
      refine g_aload_n C dX11_book_56 rfl 0 rfl ?_
      refine gX_get_X11_10 C ob_0 rfl dX11_book_57 ?_
      refine g_xVz (k := 1) (As := []) (rest := []) (ro := (fX_Text_isSound g53)) (go := g53) (xo := xo) Y (fun sz => cX_Text_isSound l D T ad sK sV xo g53 _ rfl sz) kX_RX11_125_Text_isSound ⟨Nat.le_of_ble_eq_true rfl, Nat.le_of_ble_eq_true rfl⟩ ⟨rfl, rfl⟩ ⟨Nat.le_of_ble_eq_true rfl, Nat.le_of_ble_eq_true rfl⟩ (rfl : vwCl[8]? = some (RX9, TX9, 8)) ob_1 rfl rfl (Nat.le_of_ble_eq_true rfl) dX11_book_60 (fun hz60 => ?_)
      refine g_if_ne C 74 dX11_book_63 (by decide) (fun c63 => ?_) (fun c63 => ?_)
      · have h := iteT c63 h
        refine g_aload_n C dX11_book_66 rfl 0 rfl ?_
        refine gX_get_X11_10 C ob_0 rfl dX11_book_67 ?_
        refine g_xVi (k := 1) (As := []) (rest := []) (ro := (fX_Text_faultLessTen g53)) (go := g53) (xo := xo) Y (fun sz => cX_Text_faultLessTen l D T ad sK sV xo g53 _ rfl sz) kX_RX11_128_Text_faultLessTen ⟨Nat.le_of_ble_eq_true rfl, Nat.le_of_ble_eq_true rfl⟩ ⟨rfl, rfl⟩ ⟨Nat.le_of_ble_eq_true rfl, Nat.le_of_ble_eq_true rfl⟩ (rfl : vwCl[8]? = some (RX9, TX9, 8)) ob_1 rfl rfl (Nat.le_of_ble_eq_true rfl) dX11_book_70 ?_
        obtain rfl := Option.some.inj h
        exact g_treti Z rfl rfl ⟨Nat.le_of_ble_eq_true rfl, Nat.le_of_ble_eq_true rfl⟩ dX11_book_73
      · have h := iteF c63 h
        refine g_aload_n C dX11_book_74 rfl 0 rfl ?_
        refine gX_get_X11_53 C ob_0 rfl dX11_book_75 ?_
        refine g_aload_n C dX11_book_78 rfl 0 rfl ?_
        refine gX_get_X11_57 C ob_0 rfl dX11_book_79 ?_
        obtain ⟨g82, hr82, h⟩ := bnd h
        refine g_xVv (k := 8) (As := [.ref (ad 9)]) (rest := []) (go := g82) (xo := xo) Y (fun sz => cX_Book_take l D T ad sK sV xo g53 8 9 (Or.inl rfl) (Or.inr rfl) _ hr82 sz) kX_RX11_172_Book_take ⟨Nat.le_of_ble_eq_true rfl, Nat.le_of_ble_eq_true rfl⟩ ⟨rfl, rfl⟩ ⟨Nat.le_of_ble_eq_true rfl, Nat.le_of_ble_eq_true rfl⟩ (rfl : vwCl[0]? = some (RX0, TX0, 2)) ob_8 rfl rfl (Nat.le_of_ble_eq_true rfl) dX11_book_82 ?_
        refine g_aload_n C dX11_book_85 rfl 0 rfl ?_
        refine gX_get_X11_53 C ob_0 rfl dX11_book_86 ?_
        refine gX_get_X11_175 (v := g82 8 1) C ob_8 rfl rfl dX11_book_89 ?_
        obtain rfl := Option.some.inj h
        exact g_treti Z rfl rfl ⟨Nat.le_of_ble_eq_true rfl, Nat.le_of_ble_eq_true rfl⟩ dX11_book_92
  have J26 : ∀ (x1 : Int32) (g : St), fX_book_b26 x1 g = some o → GcX_book l D T ad Γ o xo 0 xo g 26 [(0, .ref (ad 0)), (1, .int x1)] [.ref (ad 0)] := by
    intro x1 g h
    refine g_iconst C dX11_book_26 ic_0 ?_
    exact J27 x1 (0 : Int32) g h
  refine g_aload_n C dX11_book_0 rfl 0 rfl ?_
  refine g_iload_n C dX11_book_1 rfl 1 rfl ?_
  refine g_if_lt C 26 dX11_book_2 (by decide) (fun c2 => ?_) (fun c2 => ?_)
  · have h := iteT c2 h
    exact J26 x1 g h
  · have h := iteF c2 h
    refine g_iload_n C dX11_book_5 rfl 1 rfl ?_
    refine g_aload_n C dX11_book_6 rfl 0 rfl ?_
    refine gX_get_X11_10 C ob_0 rfl dX11_book_7 ?_
    refine gX_get_X11_111 (v := g 1 1) C ob_1 rfl rfl dX11_book_10 ?_
    refine g_icmp_gt C 26 dX11_book_13 (by decide) (fun c13 => ?_) (fun c13 => ?_)
    · have h := iteT c13 h
      exact J26 x1 g h
    · have h := iteF c13 h
      refine g_iload_n C dX11_book_16 rfl 1 rfl ?_
      refine g_bipush C dX11_book_17 bp_60 ?_
      refine g_icmp_gt C 26 dX11_book_19 (by decide) (fun c19 => ?_) (fun c19 => ?_)
      · have h := iteT c19 h
        exact J26 x1 g h
      · have h := iteF c19 h
        refine g_iconst C dX11_book_22 ic_1 ?_
        refine g_goto (tgt := 27) C dX11_book_23 (by decide) ?_
        exact J27 x1 (1 : Int32) g h
def fX_fault (g : St) : Int32 :=
  (g 1 7)
def rmX_fault : Room := { frames := 0, cells := 0, slots := 0, locals := 0 }
abbrev GcX_fault (l : Launch) (D : va_G) (T : cT) (ad : Nat → Nat) (Γ : Cxt) (o : Int32) (xo : Sl) (g0 : St) (x : Sl) (g : St) (pc : Nat) (lv : List (Nat × Value)) (stk : List Value) : Prop := Gj l shX D T ad 1 (rmX_fault) 0 0 Γ (MQ Γ.below (va_Qi (eqI o g0 xo) (wPost shX D T ad Γ.A) Γ.A) Γ.args Γ.s 0 0 Γ.A) x g pc lv stk
set_option maxRecDepth 100000 in
set_option maxHeartbeats 4000000 in
theorem cX_fault (l : Launch) (D : va_G) (T : cT) (ad : Nat → Nat) (sK sV : Nat → Nat) (xo : Sl) (g : St) (o : Int32) (h : fX_fault g = o) (sz : Nat) : Met l yX11_fault wX_fault (rmX_fault) (va_Pc [.ref (ad 0)] (xPre shX D T ad sK sV xo g sz)) (va_Qi (eqI o g xo) (wPost shX D T ad (aW shX T ad xo g sz)) (aW shX T ad xo g sz)) 0 0 (aW shX T ad xo g sz) := by
  refine g_startx (Qc := fun A => va_Qi (eqI o g xo) (wPost shX D T ad A) A) (by decide +kernel) rfl rfl (Nat.le_of_ble_eq_true rfl) (lv := [(0, .ref (ad 0))]) rfl (fun Γ Y => ?_)
  have C := Y.1
  show GcX_fault l D T ad Γ o xo g xo g 0 [(0, .ref (ad 0))] []
  refine g_aload_n C dX11_fault_0 rfl 0 rfl ?_
  refine gX_get_X11_10 C ob_0 rfl dX11_fault_1 ?_
  refine gX_get_X11_178 (v := g 1 7) C ob_1 rfl rfl dX11_fault_4 ?_
  subst h
  exact g_iret C rfl rfl rfl dX11_fault_7
def fX_undo (g : St) : Option (Int32 × St) :=
  if 0 < (g 12 2) then
    ((fX_Past_undoWork 10 g).bind fun g20 => (some ((g20 12 2), (st g20 0 16 (0 : Int32)))))
  else
    (some ((-1 : Int32), g))
def rmX_undo : Room := { frames := 4, cells := 0, slots := 0, locals := 90 }
abbrev GcX_undo (l : Launch) (D : va_G) (T : cT) (ad : Nat → Nat) (Γ : Cxt) (o : Int32 × St) (xo : Sl) (x : Sl) (g : St) (pc : Nat) (lv : List (Nat × Value)) (stk : List Value) : Prop := Gj l shX D T ad 1 (rmX_undo) 0 0 Γ (MQ Γ.below (va_Qi (eqI o.1 o.2 xo) (wPost shX D T ad Γ.A) Γ.A) Γ.args Γ.s 0 0 Γ.A) x g pc lv stk
set_option maxRecDepth 100000 in
set_option maxHeartbeats 4000000 in
theorem cX_undo (l : Launch) (D : va_G) (T : cT) (ad : Nat → Nat) (sK sV : Nat → Nat) (xo : Sl) (g : St) (o : Int32 × St) (h : fX_undo g = some o) (sz : Nat) : Met l yX11_undo wX_undo (rmX_undo) (va_Pc [.ref (ad 0)] (xPre shX D T ad sK sV xo g sz)) (va_Qi (eqI o.1 o.2 xo) (wPost shX D T ad (aW shX T ad xo g sz)) (aW shX T ad xo g sz)) 0 0 (aW shX T ad xo g sz) := by
  refine g_startx (Qc := fun A => va_Qi (eqI o.1 o.2 xo) (wPost shX D T ad A) A) (by decide +kernel) rfl rfl (Nat.le_of_ble_eq_true rfl) (lv := [(0, .ref (ad 0))]) rfl (fun Γ Y => ?_)
  have C := Y.1
  show GcX_undo l D T ad Γ o xo xo g 0 [(0, .ref (ad 0))] []
  refine g_aload_n C dX11_undo_0 rfl 0 rfl ?_
  refine gX_get_X11_75 C ob_0 rfl dX11_undo_1 ?_
  refine gX_get_X11_181 (v := g 12 2) C ob_12 rfl rfl dX11_undo_4 ?_
  refine g_if_gt C 12 dX11_undo_7 (by decide) (fun c7 => ?_) (fun c7 => ?_)
  · have h := iteT c7 h
    refine g_aload_n C dX11_undo_12 rfl 0 rfl ?_
    refine gX_get_X11_75 C ob_0 rfl dX11_undo_13 ?_
    refine g_aload_n C dX11_undo_16 rfl 0 rfl ?_
    refine gX_get_X11_65 C ob_0 rfl dX11_undo_17 ?_
    obtain ⟨g20, hr20, h⟩ := bnd h
    refine g_xVv (k := 12) (As := [.ref (ad 10)]) (rest := []) (go := g20) (xo := xo) Y (fun sz => cX_Past_undoWork l D T ad sK sV xo g 10 (Or.inl rfl) _ hr20 sz) kX_RX11_184_Past_undoWork ⟨Nat.le_of_ble_eq_true rfl, Nat.le_of_ble_eq_true rfl⟩ ⟨rfl, rfl⟩ ⟨Nat.zero_le _, Nat.zero_le _⟩ (rfl : vwCl[5]? = some (RX5, TX5, 4)) ob_12 rfl rfl (Nat.le_of_ble_eq_true rfl) dX11_undo_20 ?_
    refine g_aload_n C dX11_undo_23 rfl 0 rfl ?_
    refine g_iconst C dX11_undo_24 ic_0 ?_
    refine gX_put_X11_140 C ob_0 rfl dX11_undo_25 ?_
    refine g_aload_n C dX11_undo_28 rfl 0 rfl ?_
    refine gX_get_X11_75 C ob_0 rfl dX11_undo_29 ?_
    refine gX_get_X11_181 (v := g20 12 2) C ob_12 rfl rfl dX11_undo_32 ?_
    obtain rfl := Option.some.inj h
    exact g_iret C rfl rfl rfl dX11_undo_35
  · have h := iteF c7 h
    refine g_iconst C dX11_undo_10 ic_m1 ?_
    obtain rfl := Option.some.inj h
    exact g_iret C rfl rfl rfl dX11_undo_11
def fX_told_b16 (x1 : Int32) (s1 : Int32) (g : St) : Option ((Nat ⊕ Int32) × St) :=
  lt1 (fX_need s1 g) fun ⟨r16, g16⟩ => Sum.elim (fun k => some (.inl k, g16)) (fun _ => if x1 = 0 then
    (some (.inr (g16 2 0), g16))
  else
    (if x1 = 1 then
    ((fX_State_living 10 g16).bind fun r92 => (some (.inr r92, g16)))
  else
    (if x1 = 2 then
    ((fX_State_nameless 10 g16).bind fun r100 => (some (.inr r100, g16)))
  else
    (if x1 = 3 then
    (some (.inr (g16 10 5), g16))
  else
    (if x1 = 4 then
    ((fX_State_named 10 g16).bind fun r116 => (some (.inr r116, g16)))
  else
    (if x1 = 5 then
    ((fX_State_allDebts 10 g16).bind fun r124 => (some (.inr r124, g16)))
  else
    (if x1 = 6 then
    ((fX_State_debtsOfDead 10 g16).bind fun r132 => (some (.inr r132, g16)))
  else
    (if x1 = 7 then
    ((fX_State_heirs 10 g16).bind fun ⟨r140, g140⟩ => (some (.inr r140, g140)))
  else
    (if x1 = 8 then
    (some (.inr (g16 2 1), g16))
  else
    (if x1 = 9 then
    (some (.inr (g16 8 1), g16))
  else
    (if x1 = 10 then
    (some (.inr (g16 0 16), g16))
  else
    ((fX_State_longestChain 10 g16).bind fun r169 => (some (.inr r169, g16)))))))))))))) r16
def fX_told_b15 (x1 : Int32) (g : St) : Option ((Nat ⊕ Int32) × St) :=
  fX_told_b16 x1 (0 : Int32) g
def fX_told (x1 : Int32) (g : St) : Option ((Nat ⊕ Int32) × St) :=
  if x1 < 0 then
    (fX_told_b15 x1 g)
  else
    (if (11 : Int32) < x1 then
    (fX_told_b15 x1 g)
  else
    (fX_told_b16 x1 (1 : Int32) g))
def rmX_told : Room := { frames := 9, cells := 1, slots := 6, locals := 141 }
abbrev GcX_told (l : Launch) (D : va_G) (T : cT) (ad : Nat → Nat) (Γ : Cxt) (o : (Nat ⊕ Int32) × St) (xo : Sl) (kc : Nat) (x : Sl) (g : St) (pc : Nat) (lv : List (Nat × Value)) (stk : List Value) : Prop := Gj l shX D T ad 2 (rmX_told) kc (6 * kc) Γ (vx_MQ Γ.below (va_Qi (xoI o xo) (wPost shX D T ad Γ.A) Γ.A) (xoX shX D T ad o.1 (o.2, xo) Γ.A) Γ.args Γ.s 1 6 Γ.A) x g pc lv stk
set_option maxRecDepth 100000 in
set_option maxHeartbeats 4000000 in
theorem cX_told (l : Launch) (hl0 : l.stackTraces = false) (D : va_G) (T : cT) (ad : Nat → Nat) (sK sV : Nat → Nat) (xo : Sl) (g : St) (x1 : Int32) (o : (Nat ⊕ Int32) × St) (h : fX_told x1 g = some o) (sz : Nat) : vx_Met l yX11_told wX_told (rmX_told) (va_Pc [.ref (ad 0), .int x1] (xPre shX D T ad sK sV xo g sz)) (va_Qi (xoI o xo) (wPost shX D T ad (aW shX T ad xo g sz)) (aW shX T ad xo g sz)) (xoX shX D T ad o.1 (o.2, xo) (aW shX T ad xo g sz)) 1 6 (aW shX T ad xo g sz) := by
  refine g_startt (Qc := fun A => va_Qi (xoI o xo) (wPost shX D T ad A) A) (XC := fun A => xoX shX D T ad o.1 (o.2, xo) A) hl0 (by decide +kernel) rfl rfl (Nat.le_of_ble_eq_true rfl) (lv := [(0, .ref (ad 0)), (1, .int x1)]) rfl (fun Γ Z => ?_)
  have Y := Z.1
  have C := Y.1
  show GcX_told l D T ad Γ o xo 0 xo g 0 [(0, .ref (ad 0)), (1, .int x1)] []
  have J16 : ∀ (x1 : Int32) (s1 : Int32) (g : St), fX_told_b16 x1 s1 g = some o → GcX_told l D T ad Γ o xo 0 xo g 16 [(0, .ref (ad 0)), (1, .int x1)] [.int s1, .ref (ad 0)] := by
    intro x1 s1 g h
    obtain ⟨⟨r16, g16⟩, hr16, h⟩ := ltb h
    refine g_tVv (k := 0) (As := [.int s1]) (rest := []) (o := (r16, g16)) (xo := xo) Z (fun sz => cX_need l hl0 D T ad sK sV xo g s1 _ hr16 sz) kX_RX11_115_need ⟨Nat.le_of_ble_eq_true rfl, Nat.le_of_ble_eq_true rfl⟩ ⟨rfl, rfl⟩ ⟨Nat.le_of_ble_eq_true rfl, Nat.le_of_ble_eq_true rfl⟩ (rfl : vwCl[10]? = some (RX11, TX11, 19)) ob_0 rfl rfl (Nat.le_of_ble_eq_true rfl) dX11_told_16 ⟨Nat.le_of_ble_eq_true rfl, Nat.le_of_ble_eq_true rfl⟩ (fun k9 hk9 => ?_) (fun v9 hv9 => ?_)
    · subst hk9
      obtain rfl := Option.some.inj h
      exact ⟨rfl, rfl⟩
    · subst hv9
      have h := selR h
      refine g_iload_n C dX11_told_19 rfl 1 rfl ?_
      by_cases c20_0 : x1 = 0
      · have h := iteT c20_0 h
        refine g_tabIn C 0 80 dX11_told_20 c20_0 (by decide) (by decide) rfl (by decide) ?_
        refine g_aload_n C dX11_told_80 rfl 0 rfl ?_
        refine gX_get_X11_19 C ob_0 rfl dX11_told_81 ?_
        refine gX_get_X11_143 (v := g16 2 0) C ob_2 rfl rfl dX11_told_84 ?_
        obtain rfl := Option.some.inj h
        exact g_treti Z rfl rfl ⟨Nat.le_of_ble_eq_true rfl, Nat.le_of_ble_eq_true rfl⟩ dX11_told_87
      have h := iteF c20_0 h
      by_cases c20_1 : x1 = 1
      · have h := iteT c20_1 h
        refine g_tabIn C 1 88 dX11_told_20 c20_1 (by decide) (by decide) rfl (by decide) ?_
        refine g_aload_n C dX11_told_88 rfl 0 rfl ?_
        refine gX_get_X11_65 C ob_0 rfl dX11_told_89 ?_
        obtain ⟨r92, hr92, h⟩ := bnd h
        refine g_xVi (k := 10) (As := []) (rest := []) (ro := r92) (go := g16) (xo := xo) Y (fun sz => cX_State_living l D T ad sK sV xo g16 10 (Or.inl rfl) _ hr92 sz) kX_RX11_187_State_living ⟨Nat.le_of_ble_eq_true rfl, Nat.le_of_ble_eq_true rfl⟩ ⟨rfl, rfl⟩ ⟨Nat.le_of_ble_eq_true rfl, Nat.le_of_ble_eq_true rfl⟩ (rfl : vwCl[6]? = some (RX7, TX7, 6)) ob_10 rfl rfl (Nat.le_of_ble_eq_true rfl) dX11_told_92 ?_
        obtain rfl := Option.some.inj h
        exact g_treti Z rfl rfl ⟨Nat.le_of_ble_eq_true rfl, Nat.le_of_ble_eq_true rfl⟩ dX11_told_95
      have h := iteF c20_1 h
      by_cases c20_2 : x1 = 2
      · have h := iteT c20_2 h
        refine g_tabIn C 2 96 dX11_told_20 c20_2 (by decide) (by decide) rfl (by decide) ?_
        refine g_aload_n C dX11_told_96 rfl 0 rfl ?_
        refine gX_get_X11_65 C ob_0 rfl dX11_told_97 ?_
        obtain ⟨r100, hr100, h⟩ := bnd h
        refine g_xVi (k := 10) (As := []) (rest := []) (ro := r100) (go := g16) (xo := xo) Y (fun sz => cX_State_nameless l D T ad sK sV xo g16 10 (Or.inl rfl) _ hr100 sz) kX_RX11_190_State_nameless ⟨Nat.le_of_ble_eq_true rfl, Nat.le_of_ble_eq_true rfl⟩ ⟨rfl, rfl⟩ ⟨Nat.le_of_ble_eq_true rfl, Nat.le_of_ble_eq_true rfl⟩ (rfl : vwCl[6]? = some (RX7, TX7, 6)) ob_10 rfl rfl (Nat.le_of_ble_eq_true rfl) dX11_told_100 ?_
        obtain rfl := Option.some.inj h
        exact g_treti Z rfl rfl ⟨Nat.le_of_ble_eq_true rfl, Nat.le_of_ble_eq_true rfl⟩ dX11_told_103
      have h := iteF c20_2 h
      by_cases c20_3 : x1 = 3
      · have h := iteT c20_3 h
        refine g_tabIn C 3 104 dX11_told_20 c20_3 (by decide) (by decide) rfl (by decide) ?_
        refine g_aload_n C dX11_told_104 rfl 0 rfl ?_
        refine gX_get_X11_65 C ob_0 rfl dX11_told_105 ?_
        refine gX_get_X11_193 (v := g16 10 5) C ob_10 rfl rfl dX11_told_108 ?_
        obtain rfl := Option.some.inj h
        exact g_treti Z rfl rfl ⟨Nat.le_of_ble_eq_true rfl, Nat.le_of_ble_eq_true rfl⟩ dX11_told_111
      have h := iteF c20_3 h
      by_cases c20_4 : x1 = 4
      · have h := iteT c20_4 h
        refine g_tabIn C 4 112 dX11_told_20 c20_4 (by decide) (by decide) rfl (by decide) ?_
        refine g_aload_n C dX11_told_112 rfl 0 rfl ?_
        refine gX_get_X11_65 C ob_0 rfl dX11_told_113 ?_
        obtain ⟨r116, hr116, h⟩ := bnd h
        refine g_xVi (k := 10) (As := []) (rest := []) (ro := r116) (go := g16) (xo := xo) Y (fun sz => cX_State_named l D T ad sK sV xo g16 10 (Or.inl rfl) _ hr116 sz) kX_RX11_196_State_named ⟨Nat.le_of_ble_eq_true rfl, Nat.le_of_ble_eq_true rfl⟩ ⟨rfl, rfl⟩ ⟨Nat.le_of_ble_eq_true rfl, Nat.le_of_ble_eq_true rfl⟩ (rfl : vwCl[6]? = some (RX7, TX7, 6)) ob_10 rfl rfl (Nat.le_of_ble_eq_true rfl) dX11_told_116 ?_
        obtain rfl := Option.some.inj h
        exact g_treti Z rfl rfl ⟨Nat.le_of_ble_eq_true rfl, Nat.le_of_ble_eq_true rfl⟩ dX11_told_119
      have h := iteF c20_4 h
      by_cases c20_5 : x1 = 5
      · have h := iteT c20_5 h
        refine g_tabIn C 5 120 dX11_told_20 c20_5 (by decide) (by decide) rfl (by decide) ?_
        refine g_aload_n C dX11_told_120 rfl 0 rfl ?_
        refine gX_get_X11_65 C ob_0 rfl dX11_told_121 ?_
        obtain ⟨r124, hr124, h⟩ := bnd h
        refine g_xVi (k := 10) (As := []) (rest := []) (ro := r124) (go := g16) (xo := xo) Y (fun sz => cX_State_allDebts l D T ad sK sV xo g16 10 (Or.inl rfl) _ hr124 sz) kX_RX11_199_State_allDebts ⟨Nat.le_of_ble_eq_true rfl, Nat.le_of_ble_eq_true rfl⟩ ⟨rfl, rfl⟩ ⟨Nat.le_of_ble_eq_true rfl, Nat.le_of_ble_eq_true rfl⟩ (rfl : vwCl[6]? = some (RX7, TX7, 6)) ob_10 rfl rfl (Nat.le_of_ble_eq_true rfl) dX11_told_124 ?_
        obtain rfl := Option.some.inj h
        exact g_treti Z rfl rfl ⟨Nat.le_of_ble_eq_true rfl, Nat.le_of_ble_eq_true rfl⟩ dX11_told_127
      have h := iteF c20_5 h
      by_cases c20_6 : x1 = 6
      · have h := iteT c20_6 h
        refine g_tabIn C 6 128 dX11_told_20 c20_6 (by decide) (by decide) rfl (by decide) ?_
        refine g_aload_n C dX11_told_128 rfl 0 rfl ?_
        refine gX_get_X11_65 C ob_0 rfl dX11_told_129 ?_
        obtain ⟨r132, hr132, h⟩ := bnd h
        refine g_xVi (k := 10) (As := []) (rest := []) (ro := r132) (go := g16) (xo := xo) Y (fun sz => cX_State_debtsOfDead l D T ad sK sV xo g16 10 (Or.inl rfl) _ hr132 sz) kX_RX11_202_State_debtsOfDead ⟨Nat.le_of_ble_eq_true rfl, Nat.le_of_ble_eq_true rfl⟩ ⟨rfl, rfl⟩ ⟨Nat.le_of_ble_eq_true rfl, Nat.le_of_ble_eq_true rfl⟩ (rfl : vwCl[6]? = some (RX7, TX7, 6)) ob_10 rfl rfl (Nat.le_of_ble_eq_true rfl) dX11_told_132 ?_
        obtain rfl := Option.some.inj h
        exact g_treti Z rfl rfl ⟨Nat.le_of_ble_eq_true rfl, Nat.le_of_ble_eq_true rfl⟩ dX11_told_135
      have h := iteF c20_6 h
      by_cases c20_7 : x1 = 7
      · have h := iteT c20_7 h
        refine g_tabIn C 7 136 dX11_told_20 c20_7 (by decide) (by decide) rfl (by decide) ?_
        refine g_aload_n C dX11_told_136 rfl 0 rfl ?_
        refine gX_get_X11_65 C ob_0 rfl dX11_told_137 ?_
        obtain ⟨⟨r140, g140⟩, hr140, h⟩ := bnd h
        refine g_xVi (k := 10) (As := []) (rest := []) (ro := r140) (go := g140) (xo := xo) Y (fun sz => cX_State_heirs l D T ad sK sV xo g16 10 (Or.inl rfl) _ hr140 sz) kX_RX11_205_State_heirs ⟨Nat.le_of_ble_eq_true rfl, Nat.le_of_ble_eq_true rfl⟩ ⟨rfl, rfl⟩ ⟨Nat.le_of_ble_eq_true rfl, Nat.le_of_ble_eq_true rfl⟩ (rfl : vwCl[6]? = some (RX7, TX7, 6)) ob_10 rfl rfl (Nat.le_of_ble_eq_true rfl) dX11_told_140 ?_
        obtain rfl := Option.some.inj h
        exact g_treti Z rfl rfl ⟨Nat.le_of_ble_eq_true rfl, Nat.le_of_ble_eq_true rfl⟩ dX11_told_143
      have h := iteF c20_7 h
      by_cases c20_8 : x1 = 8
      · have h := iteT c20_8 h
        refine g_tabIn C 8 144 dX11_told_20 c20_8 (by decide) (by decide) rfl (by decide) ?_
        refine g_aload_n C dX11_told_144 rfl 0 rfl ?_
        refine gX_get_X11_19 C ob_0 rfl dX11_told_145 ?_
        refine gX_get_X11_208 (v := g16 2 1) C ob_2 rfl rfl dX11_told_148 ?_
        obtain rfl := Option.some.inj h
        exact g_treti Z rfl rfl ⟨Nat.le_of_ble_eq_true rfl, Nat.le_of_ble_eq_true rfl⟩ dX11_told_151
      have h := iteF c20_8 h
      by_cases c20_9 : x1 = 9
      · have h := iteT c20_9 h
        refine g_tabIn C 9 152 dX11_told_20 c20_9 (by decide) (by decide) rfl (by decide) ?_
        refine g_aload_n C dX11_told_152 rfl 0 rfl ?_
        refine gX_get_X11_53 C ob_0 rfl dX11_told_153 ?_
        refine gX_get_X11_175 (v := g16 8 1) C ob_8 rfl rfl dX11_told_156 ?_
        obtain rfl := Option.some.inj h
        exact g_treti Z rfl rfl ⟨Nat.le_of_ble_eq_true rfl, Nat.le_of_ble_eq_true rfl⟩ dX11_told_159
      have h := iteF c20_9 h
      by_cases c20_10 : x1 = 10
      · have h := iteT c20_10 h
        refine g_tabIn C 10 160 dX11_told_20 c20_10 (by decide) (by decide) rfl (by decide) ?_
        refine g_aload_n C dX11_told_160 rfl 0 rfl ?_
        refine gX_get_X11_140 (v := g16 0 16) C ob_0 rfl rfl dX11_told_161 ?_
        obtain rfl := Option.some.inj h
        exact g_treti Z rfl rfl ⟨Nat.le_of_ble_eq_true rfl, Nat.le_of_ble_eq_true rfl⟩ dX11_told_164
      have h := iteF c20_10 h
      refine g_tabOut C 165 dX11_told_20 (tab_0_10 _ c20_0 c20_1 c20_2 c20_3 c20_4 c20_5 c20_6 c20_7 c20_8 c20_9 c20_10) (by decide) ?_
      refine g_aload_n C dX11_told_165 rfl 0 rfl ?_
      refine gX_get_X11_65 C ob_0 rfl dX11_told_166 ?_
      obtain ⟨r169, hr169, h⟩ := bnd h
      refine g_xVi (k := 10) (As := []) (rest := []) (ro := r169) (go := g16) (xo := xo) Y (fun sz => cX_State_longestChain l D T ad sK sV xo g16 10 (Or.inl rfl) _ hr169 sz) kX_RX11_211_State_longestChain ⟨Nat.le_of_ble_eq_true rfl, Nat.le_of_ble_eq_true rfl⟩ ⟨rfl, rfl⟩ ⟨Nat.le_of_ble_eq_true rfl, Nat.le_of_ble_eq_true rfl⟩ (rfl : vwCl[6]? = some (RX7, TX7, 6)) ob_10 rfl rfl (Nat.le_of_ble_eq_true rfl) dX11_told_169 ?_
      obtain rfl := Option.some.inj h
      exact g_treti Z rfl rfl ⟨Nat.le_of_ble_eq_true rfl, Nat.le_of_ble_eq_true rfl⟩ dX11_told_172
  have J15 : ∀ (x1 : Int32) (g : St), fX_told_b15 x1 g = some o → GcX_told l D T ad Γ o xo 0 xo g 15 [(0, .ref (ad 0)), (1, .int x1)] [.ref (ad 0)] := by
    intro x1 g h
    refine g_iconst C dX11_told_15 ic_0 ?_
    exact J16 x1 (0 : Int32) g h
  refine g_aload_n C dX11_told_0 rfl 0 rfl ?_
  refine g_iload_n C dX11_told_1 rfl 1 rfl ?_
  refine g_if_lt C 15 dX11_told_2 (by decide) (fun c2 => ?_) (fun c2 => ?_)
  · have h := iteT c2 h
    exact J15 x1 g h
  · have h := iteF c2 h
    refine g_iload_n C dX11_told_5 rfl 1 rfl ?_
    refine g_bipush C dX11_told_6 bp_11 ?_
    refine g_icmp_gt C 15 dX11_told_8 (by decide) (fun c8 => ?_) (fun c8 => ?_)
    · have h := iteT c8 h
      exact J15 x1 g h
    · have h := iteF c8 h
      refine g_iconst C dX11_told_11 ic_1 ?_
      refine g_goto (tgt := 16) C dX11_told_12 (by decide) ?_
      exact J16 x1 (1 : Int32) g h
def fX_needPerson_b15 (g : St) : (Nat ⊕ Unit) × St :=
  (.inl 0, (st g 0 17 ((g 0 17) + (1 : Int32))))
def fX_needPerson (x1 : Int32) (g : St) : (Nat ⊕ Unit) × St :=
  if x1 < 0 then
    (fX_needPerson_b15 g)
  else
    (if x1 < (g 2 0) then
    ((.inr (), g))
  else
    (fX_needPerson_b15 g))
def rmX_needPerson : Room := { frames := 8, cells := 1, slots := 6, locals := 120 }
abbrev GcX_needPerson (l : Launch) (D : va_G) (T : cT) (ad : Nat → Nat) (Γ : Cxt) (o : (Nat ⊕ Unit) × St) (xo : Sl) (kc : Nat) (x : Sl) (g : St) (pc : Nat) (lv : List (Nat × Value)) (stk : List Value) : Prop := Gj l shX D T ad 2 (rmX_needPerson) kc (6 * kc) Γ (vx_MQ Γ.below (va_Qv (xoV o xo) (wPost shX D T ad Γ.A) Γ.A) (xoX shX D T ad o.1 (o.2, xo) Γ.A) Γ.args Γ.s 1 6 Γ.A) x g pc lv stk
set_option maxRecDepth 100000 in
set_option maxHeartbeats 4000000 in
theorem cX_needPerson (l : Launch) (hl0 : l.stackTraces = false) (D : va_G) (T : cT) (ad : Nat → Nat) (sK sV : Nat → Nat) (xo : Sl) (g : St) (x1 : Int32) (o : (Nat ⊕ Unit) × St) (h : fX_needPerson x1 g = o) (sz : Nat) : vx_Met l yX11_needPerson wX_needPerson (rmX_needPerson) (va_Pc [.ref (ad 0), .int x1] (xPre shX D T ad sK sV xo g sz)) (va_Qv (xoV o xo) (wPost shX D T ad (aW shX T ad xo g sz)) (aW shX T ad xo g sz)) (xoX shX D T ad o.1 (o.2, xo) (aW shX T ad xo g sz)) 1 6 (aW shX T ad xo g sz) := by
  refine g_startt (Qc := fun A => va_Qv (xoV o xo) (wPost shX D T ad A) A) (XC := fun A => xoX shX D T ad o.1 (o.2, xo) A) hl0 (by decide +kernel) rfl rfl (Nat.le_of_ble_eq_true rfl) (lv := [(0, .ref (ad 0)), (1, .int x1)]) rfl (fun Γ Z => ?_)
  have Y := Z.1
  have C := Y.1
  show GcX_needPerson l D T ad Γ o xo 0 xo g 0 [(0, .ref (ad 0)), (1, .int x1)] []
  have J15 : ∀ (g : St), fX_needPerson_b15 g = o → GcX_needPerson l D T ad Γ o xo 0 xo g 15 [(0, .ref (ad 0))] [] := by
    intro g h
    refine g_aload_n C dX11_needPerson_15 rfl 0 rfl ?_
    refine g_dup C dX11_needPerson_16 rfl ?_
    refine gX_get_X11_371 (v := g 0 17) C ob_0 rfl rfl dX11_needPerson_17 ?_
    refine g_iconst C dX11_needPerson_20 ic_1 ?_
    refine g_iadd C dX11_needPerson_21 ?_
    refine gX_put_X11_371 C ob_0 rfl dX11_needPerson_22 ?_
    subst h
    exact g_throw (rest := []) Z ["java/lang/RuntimeException", "java/lang/Exception"] 0 rfl (by decide) (by decide) (List.mem_cons_of_mem _ bx_650) (List.mem_cons_of_mem _ bx_651) (BX_h1 C.1.2.2.2.2 Y.2.2.2.2.2.2.2.1 Y.2.2.2.2.2.2.2.2.1 Y.2.2.2.2.2.2.2.2.2.1 Y.2.2.2.2.2.2.2.2.2.2.1) BX_g1 dX11_needPerson_25 dX11_needPerson_28 dX11_needPerson_29 dX11_needPerson_32 (Nat.le_of_ble_eq_true rfl) (Nat.le_of_ble_eq_true rfl) (Nat.le_of_ble_eq_true rfl) (Nat.le_of_ble_eq_true rfl) rfl rfl ⟨Nat.le_of_ble_eq_true rfl, Nat.le_of_ble_eq_true rfl⟩
  refine g_iload_n C dX11_needPerson_0 rfl 1 rfl ?_
  refine g_if_lt C 15 dX11_needPerson_1 (by decide) (fun c1 => ?_) (fun c1 => ?_)
  · have h := iteT c1 h
    exact g_sub [0] rfl (J15 g h)
  · have h := iteF c1 h
    refine g_iload_n C dX11_needPerson_4 rfl 1 rfl ?_
    refine g_aload_n C dX11_needPerson_5 rfl 0 rfl ?_
    refine gX_get_X11_19 C ob_0 rfl dX11_needPerson_6 ?_
    refine gX_get_X11_143 (v := g 2 0) C ob_2 rfl rfl dX11_needPerson_9 ?_
    refine g_icmp_lt C 33 dX11_needPerson_12 (by decide) (fun c12 => ?_) (fun c12 => ?_)
    · have h := iteT c12 h
      subst h
      exact g_tretv Z rfl rfl ⟨Nat.le_of_ble_eq_true rfl, Nat.le_of_ble_eq_true rfl⟩ dX11_needPerson_33
    · have h := iteF c12 h
      exact g_sub [0] rfl (J15 g h)
