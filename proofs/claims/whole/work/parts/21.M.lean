def fM_peninsula_L42 : St → Option ((St) ⊕ (St)) := fun g =>
  if (g 0 5) = 0 then
    (if (g 0 2) ≤ (g 0 4) then
    (some (.inr g))
  else
    ((fM_clause g).bind fun g61 => ((fM_blanks g61).bind fun g65 => (some (.inl g65)))))
  else
    (some (.inr g))
def fM_peninsula_b42 (g : St) : Option (Int32 × St) :=
  (lp (fM_peninsula_L42) fuel g).bind (fun g => if (g 0 5) = 0 then
    ((fM_beginsAnew (st g 0 3 (-1 : Int32))).bind fun g89 => (some ((g89 4 0), g89)))
  else
    (lt1 (fM_ends g) fun ⟨r79, g79⟩ => (some (r79, g79))))
def fM_peninsula_b23 (x1 : Int32) (s1 : Int32) (g : St) : Option (Int32 × St) :=
  (fM_bad s1 (1 : Int32) (1 : Int32) g).bind fun ⟨r25, g25⟩ => (if r25 = 0 then
    ((fM_starts x1 g25).bind fun g35 => ((fM_tellsNothing g35).bind fun g39 => (fM_peninsula_b42 g39)))
  else
    (some ((0 : Int32), g25)))
def fM_peninsula (x1 : Int32) (g : St) : Option (Int32 × St) :=
  if (fM_in x1 (0 : Int32) (g 0 1)) = 0 then
    (fM_peninsula_b23 x1 (1 : Int32) (st g 0 0 (0 : Int32)))
  else
    (fM_peninsula_b23 x1 (0 : Int32) (st g 0 0 (0 : Int32)))
def rmM_peninsula : Room := { frames := 6, cells := 0, slots := 0, locals := 130 }
abbrev GcM_peninsula (l : Launch) (D : va_G) (T : cT) (ad : Nat → Nat) (Γ : Cxt) (o : Int32 × St) (xo : Sl) (x : Sl) (g : St) (pc : Nat) (lv : List (Nat × Value)) (stk : List Value) : Prop := Gj l shM D T ad 2 (rmM_peninsula) 0 0 Γ (MQ Γ.below (va_Qi (eqI o.1 o.2 xo) (wPost shM D T ad Γ.A) Γ.A) Γ.args Γ.s 0 0 Γ.A) x g pc lv stk
set_option maxRecDepth 100000 in
set_option maxHeartbeats 4000000 in
theorem cM_peninsula (l : Launch) (D : va_G) (T : cT) (ad : Nat → Nat) (xo : Sl) (g : St) (x1 : Int32) (o : Int32 × St) (h : fM_peninsula x1 g = some o) (sz : Nat) : Met l yX12_peninsula wM_peninsula (rmM_peninsula) (va_Pc [.ref (ad 0), .int x1] (wPre shM D T ad xo g sz)) (va_Qi (eqI o.1 o.2 xo) (wPost shM D T ad (aW shM T ad xo g sz)) (aW shM T ad xo g sz)) 0 0 (aW shM T ad xo g sz) := by
  refine g_start (Qc := fun A => va_Qi (eqI o.1 o.2 xo) (wPost shM D T ad A) A) (by decide +kernel) rfl rfl (Nat.le_of_ble_eq_true rfl) (lv := [(0, .ref (ad 0)), (1, .int x1)]) rfl (fun Γ C => ?_)
  show GcM_peninsula l D T ad Γ o xo xo g 0 [(0, .ref (ad 0)), (1, .int x1)] []
  have J42 : ∀ (g : St), fM_peninsula_b42 g = some o → GcM_peninsula l D T ad Γ o xo xo g 42 [(0, .ref (ad 0))] [] := by
    intro g h
    obtain ⟨g, ht, h⟩ := bnd h
    refine lp_run (P := fun g : St => GcM_peninsula l D T ad Γ o xo xo g 42 [(0, .ref (ad 0))] []) (E := fun g : St => GcM_peninsula l D T ad Γ o xo xo g 71 [(0, .ref (ad 0))] []) ?_ _ _ _ ht ?_
    · rintro g z h Kt Ke
      show GcM_peninsula l D T ad Γ o xo xo g 42 [(0, .ref (ad 0))] []
      refine g_aload_n C dX12_peninsula_42 rfl 0 rfl ?_
      refine gM_get_fault (v := g 0 5) C rfl dX12_peninsula_43 ?_
      refine g_if_ne C 71 dX12_peninsula_46 (by decide) (fun c46 => ?_) (fun c46 => ?_)
      · have h := iteT c46 h
        refine g_aload_n C dX12_peninsula_49 rfl 0 rfl ?_
        refine gM_get_at (v := g 0 4) C rfl dX12_peninsula_50 ?_
        refine g_aload_n C dX12_peninsula_53 rfl 0 rfl ?_
        refine gM_get_size (v := g 0 2) C rfl dX12_peninsula_54 ?_
        refine g_icmp_ge C 71 dX12_peninsula_57 (by decide) (fun c57 => ?_) (fun c57 => ?_)
        · have h := iteT c57 h
          exact g_sub [0] rfl (Ke _ (Option.some.inj h).symm)
        · have h := iteF c57 h
          refine g_aload_n C dX12_peninsula_60 rfl 0 rfl ?_
          obtain ⟨g61, hr61, h⟩ := bnd h
          refine g_cVv (k := 0) (As := []) (rest := []) (go := g61) (xo := xo) C (fun sz => cM_clause l D T ad xo g _ hr61 sz) kM_clause ⟨Nat.le_of_ble_eq_true rfl, Nat.le_of_ble_eq_true rfl⟩ ⟨rfl, rfl⟩ ⟨Nat.zero_le _, Nat.zero_le _⟩ (rfl : vwCl[11]? = some (RX12, TX12, 48)) kM0 rfl rfl (Nat.le_of_ble_eq_true rfl) dX12_peninsula_61 ?_
          refine g_aload_n C dX12_peninsula_64 rfl 0 rfl ?_
          obtain ⟨g65, hr65, h⟩ := bnd h
          refine g_cVv (k := 0) (As := []) (rest := []) (go := g65) (xo := xo) C (fun sz => cM_blanks l D T ad xo g61 _ hr65 sz) kM_blanks ⟨Nat.le_of_ble_eq_true rfl, Nat.le_of_ble_eq_true rfl⟩ ⟨rfl, rfl⟩ ⟨Nat.zero_le _, Nat.zero_le _⟩ (rfl : vwCl[11]? = some (RX12, TX12, 48)) kM0 rfl rfl (Nat.le_of_ble_eq_true rfl) dX12_peninsula_65 ?_
          refine g_goto (tgt := 42) C dX12_peninsula_68 (by decide) ?_
          exact g_sub [0] rfl (Kt _ (Option.some.inj h).symm)
      · have h := iteF c46 h
        exact g_sub [0] rfl (Ke _ (Option.some.inj h).symm)
    · show GcM_peninsula l D T ad Γ o xo xo g 71 [(0, .ref (ad 0))] []
      refine g_aload_n C dX12_peninsula_71 rfl 0 rfl ?_
      refine gM_get_fault (v := g 0 5) C rfl dX12_peninsula_72 ?_
      refine g_if_eq C 83 dX12_peninsula_75 (by decide) (fun c75 => ?_) (fun c75 => ?_)
      · have h := iteT c75 h
        refine g_aload_n C dX12_peninsula_83 rfl 0 rfl ?_
        refine g_iconst C dX12_peninsula_84 ic_m1 ?_
        refine gM_put_place C dX12_peninsula_85 ?_
        refine g_aload_n C dX12_peninsula_88 rfl 0 rfl ?_
        obtain ⟨g89, hr89, h⟩ := bnd h
        refine g_cVv (k := 0) (As := []) (rest := []) (go := g89) (xo := xo) C (fun sz => cM_beginsAnew l D T ad xo (st g 0 3 (-1 : Int32)) _ hr89 sz) kM_beginsAnew ⟨Nat.le_of_ble_eq_true rfl, Nat.le_of_ble_eq_true rfl⟩ ⟨rfl, rfl⟩ ⟨Nat.zero_le _, Nat.zero_le _⟩ (rfl : vwCl[11]? = some (RX12, TX12, 48)) kM0 rfl rfl (Nat.le_of_ble_eq_true rfl) dX12_peninsula_89 ?_
        refine g_aload_n C dX12_peninsula_92 rfl 0 rfl ?_
        refine gM_get_told C dX12_peninsula_93 ?_
        refine g_iconst C dX12_peninsula_96 ic_0 ?_
        refine g_iald (n := 2) (v := g89 4 0) C ln_4 (by decide) rfl dX12_peninsula_97 ?_
        obtain rfl := Option.some.inj h
        exact g_iret C rfl rfl rfl dX12_peninsula_98
      · have h := iteF c75 h
        refine g_aload_n C dX12_peninsula_78 rfl 0 rfl ?_
        obtain ⟨⟨r79, g79⟩, hr79, h⟩ := ltb h
        refine g_cVi (k := 0) (As := []) (rest := []) (ro := r79) (go := g79) (xo := xo) C (fun sz => cM_ends l D T ad xo g _ hr79 sz) kM_ends ⟨Nat.le_of_ble_eq_true rfl, Nat.le_of_ble_eq_true rfl⟩ ⟨rfl, rfl⟩ ⟨Nat.zero_le _, Nat.zero_le _⟩ (rfl : vwCl[11]? = some (RX12, TX12, 48)) kM0 rfl rfl (Nat.le_of_ble_eq_true rfl) dX12_peninsula_79 ?_
        obtain rfl := Option.some.inj h
        exact g_iret C rfl rfl rfl dX12_peninsula_82
  have J23 : ∀ (x1 : Int32) (s1 : Int32) (g : St), fM_peninsula_b23 x1 s1 g = some o → GcM_peninsula l D T ad Γ o xo xo g 23 [(0, .ref (ad 0)), (1, .int x1)] [.int s1, .ref (ad 0)] := by
    intro x1 s1 g h
    refine g_iconst C dX12_peninsula_23 ic_1 ?_
    refine g_iconst C dX12_peninsula_24 ic_1 ?_
    obtain ⟨⟨r25, g25⟩, hr25, h⟩ := bnd h
    refine g_cVz (k := 0) (As := [.int s1, .int (1 : Int32), .int (1 : Int32)]) (rest := []) (ro := r25) (go := g25) (xo := xo) C (fun sz => cM_bad l D T ad xo g s1 (1 : Int32) (1 : Int32) _ hr25 sz) kM_bad ⟨Nat.le_of_ble_eq_true rfl, Nat.le_of_ble_eq_true rfl⟩ ⟨rfl, rfl⟩ ⟨Nat.zero_le _, Nat.zero_le _⟩ (rfl : vwCl[11]? = some (RX12, TX12, 48)) kM0 rfl rfl (Nat.le_of_ble_eq_true rfl) dX12_peninsula_25 (fun hz25 => ?_)
    refine g_if_eq C 33 dX12_peninsula_28 (by decide) (fun c28 => ?_) (fun c28 => ?_)
    · have h := iteT c28 h
      refine g_aload_n C dX12_peninsula_33 rfl 0 rfl ?_
      refine g_iload_n C dX12_peninsula_34 rfl 1 rfl ?_
      obtain ⟨g35, hr35, h⟩ := bnd h
      refine g_cVv (k := 0) (As := [.int x1]) (rest := []) (go := g35) (xo := xo) C (fun sz => cM_starts l D T ad xo g25 x1 _ hr35 sz) kM_starts ⟨Nat.le_of_ble_eq_true rfl, Nat.le_of_ble_eq_true rfl⟩ ⟨rfl, rfl⟩ ⟨Nat.zero_le _, Nat.zero_le _⟩ (rfl : vwCl[11]? = some (RX12, TX12, 48)) kM0 rfl rfl (Nat.le_of_ble_eq_true rfl) dX12_peninsula_35 ?_
      refine g_aload_n C dX12_peninsula_38 rfl 0 rfl ?_
      obtain ⟨g39, hr39, h⟩ := bnd h
      refine g_cVv (k := 0) (As := []) (rest := []) (go := g39) (xo := xo) C (fun sz => cM_tellsNothing l D T ad xo g35 _ hr39 sz) kM_tellsNothing ⟨Nat.le_of_ble_eq_true rfl, Nat.le_of_ble_eq_true rfl⟩ ⟨rfl, rfl⟩ ⟨Nat.zero_le _, Nat.zero_le _⟩ (rfl : vwCl[11]? = some (RX12, TX12, 48)) kM0 rfl rfl (Nat.le_of_ble_eq_true rfl) dX12_peninsula_39 ?_
      exact g_sub [0] rfl (J42 g39 h)
    · have h := iteF c28 h
      refine g_iconst C dX12_peninsula_31 ic_0 ?_
      obtain rfl := Option.some.inj h
      exact g_iret C rfl rfl rfl dX12_peninsula_32
  refine g_aload_n C dX12_peninsula_0 rfl 0 rfl ?_
  refine g_iconst C dX12_peninsula_1 ic_0 ?_
  refine gM_put_thrown C dX12_peninsula_2 ?_
  refine g_aload_n C dX12_peninsula_5 rfl 0 rfl ?_
  refine g_iload_n C dX12_peninsula_6 rfl 1 rfl ?_
  refine g_iconst C dX12_peninsula_7 ic_0 ?_
  refine g_aload_n C dX12_peninsula_8 rfl 0 rfl ?_
  refine gM_get_tape (v := g 0 1) C rfl dX12_peninsula_9 ?_
  refine g_cSz (As := [.int x1, .int (0 : Int32), .int (g 0 1)]) (rest := [.ref (ad 0)]) (ro := (fM_in x1 (0 : Int32) (g 0 1))) (go := (st g 0 0 (0 : Int32))) (xo := xo) C (fun sz => cM_in l D T ad xo (st g 0 0 (0 : Int32)) x1 (0 : Int32) (g 0 1) _ rfl sz) kM_in ⟨Nat.le_of_ble_eq_true rfl, Nat.le_of_ble_eq_true rfl⟩ ⟨rfl, rfl⟩ ⟨Nat.zero_le _, Nat.zero_le _⟩ rfl rfl (Nat.le_of_ble_eq_true rfl) dX12_peninsula_12 (fun hz12 => ?_)
  refine g_if_ne C 22 dX12_peninsula_15 (by decide) (fun c15 => ?_) (fun c15 => ?_)
  · have h := iteT c15 h
    refine g_iconst C dX12_peninsula_18 ic_1 ?_
    refine g_goto (tgt := 23) C dX12_peninsula_19 (by decide) ?_
    exact J23 x1 (1 : Int32) (st g 0 0 (0 : Int32)) h
  · have h := iteF c15 h
    refine g_iconst C dX12_peninsula_22 ic_0 ?_
    exact J23 x1 (0 : Int32) (st g 0 0 (0 : Int32)) h
def fM_copies_L2 (x0 : Nat) (x1 : Nat) : (Int32 × St) → Option ((Int32 × St) ⊕ (St)) := fun ⟨x2, g⟩ =>
  if (26 : Int32) ≤ x2 then
    (some (.inr g))
  else
    (if ¬ (x2 < 0 ∨ (lenW shM x0) ≤ x2.toNatClampNeg) then (if ¬ (x2 < 0 ∨ (lenW shM x1) ≤ x2.toNatClampNeg) then (some (.inl ((x2 + (1 : Int32)), (st g x1 x2.toNatClampNeg (g x0 x2.toNatClampNeg))))) else none) else none)
def fM_copies_b2 (x0 : Nat) (x1 : Nat) (x2 : Int32) (g : St) : Option (St) :=
  (lp (fM_copies_L2 x0 x1) fuel (x2, g)).bind (fun g => some g)
def fM_copies (x0 : Nat) (x1 : Nat) (g : St) : Option (St) :=
  fM_copies_b2 x0 x1 (0 : Int32) g
def rmM_copies : Room := { frames := 0, cells := 0, slots := 0, locals := 0 }
abbrev GcM_copies (l : Launch) (D : va_G) (T : cT) (ad : Nat → Nat) (Γ : Cxt) (o : St) (xo : Sl) (x : Sl) (g : St) (pc : Nat) (lv : List (Nat × Value)) (stk : List Value) : Prop := Gj l shM D T ad 3 (rmM_copies) 0 0 Γ (MQ Γ.below (va_Qv (eqV o xo) (wPost shM D T ad Γ.A) Γ.A) Γ.args Γ.s 0 0 Γ.A) x g pc lv stk
set_option maxRecDepth 100000 in
set_option maxHeartbeats 4000000 in
theorem cM_copies (l : Launch) (D : va_G) (T : cT) (ad : Nat → Nat) (xo : Sl) (g : St) (x0 : Nat) (x1 : Nat) (o : St) (h : fM_copies x0 x1 g = some o) (sz : Nat) : Met l yX12_copies wM_copies (rmM_copies) (va_Pc [.ref (ad x0), .ref (ad x1)] (wPre shM D T ad xo g sz)) (va_Qv (eqV o xo) (wPost shM D T ad (aW shM T ad xo g sz)) (aW shM T ad xo g sz)) 0 0 (aW shM T ad xo g sz) := by
  refine g_start (Qc := fun A => va_Qv (eqV o xo) (wPost shM D T ad A) A) (by decide +kernel) rfl rfl (Nat.le_of_ble_eq_true rfl) (lv := [(0, .ref (ad x0)), (1, .ref (ad x1))]) rfl (fun Γ C => ?_)
  show GcM_copies l D T ad Γ o xo xo g 0 [(0, .ref (ad x0)), (1, .ref (ad x1))] []
  have J2 : ∀ (x0 : Nat) (x1 : Nat) (x2 : Int32) (g : St), fM_copies_b2 x0 x1 x2 g = some o → GcM_copies l D T ad Γ o xo xo g 2 [(0, .ref (ad x0)), (1, .ref (ad x1)), (2, .int x2)] [] := by
    intro x0 x1 x2 g h
    obtain ⟨g, ht, h⟩ := bnd h
    refine lp_run (P := fun t : Int32 × St => match t with | (x2, g) => GcM_copies l D T ad Γ o xo xo g 2 [(0, .ref (ad x0)), (1, .ref (ad x1)), (2, .int x2)] []) (E := fun g : St => GcM_copies l D T ad Γ o xo xo g 20 [] []) ?_ _ _ _ ht ?_
    · rintro ⟨x2, g⟩ z h Kt Ke
      show GcM_copies l D T ad Γ o xo xo g 2 [(0, .ref (ad x0)), (1, .ref (ad x1)), (2, .int x2)] []
      refine g_iload_n C dX12_copies_2 rfl 2 rfl ?_
      refine g_bipush C dX12_copies_3 bp_26 ?_
      refine g_icmp_ge C 20 dX12_copies_5 (by decide) (fun c5 => ?_) (fun c5 => ?_)
      · have h := iteT c5 h
        exact g_sub [] rfl (Ke _ (Option.some.inj h).symm)
      · have h := iteF c5 h
        refine g_aload_n C dX12_copies_8 rfl 1 rfl ?_
        refine g_iload_n C dX12_copies_9 rfl 2 rfl ?_
        refine g_aload_n C dX12_copies_10 rfl 0 rfl ?_
        refine g_iload_n C dX12_copies_11 rfl 2 rfl ?_
        obtain ⟨hi12, h⟩ := grd h
        refine g_iald (n := (lenW shM x0)) (v := g x0 x2.toNatClampNeg) C rfl hi12 rfl dX12_copies_12 ?_
        obtain ⟨hi13, h⟩ := grd h
        refine g_iast (n := (lenW shM x1)) (q := x2.toNatClampNeg) C rfl hi13 rfl dX12_copies_13 ?_
        refine g_iinc (lv' := [(2, .int (x2 + (1 : Int32))), (0, .ref (ad x0)), (1, .ref (ad x1))]) C dX12_copies_14 2 rfl (ii_1 _) (Nat.le_of_ble_eq_true rfl) rfl ?_
        refine g_goto (tgt := 2) C dX12_copies_17 (by decide) ?_
        exact g_sub [1, 2, 0] rfl (Kt _ (Option.some.inj h).symm)
    · show GcM_copies l D T ad Γ o xo xo g 20 [] []
      obtain rfl := Option.some.inj h
      exact g_vret C rfl rfl dX12_copies_20
  refine g_iconst C dX12_copies_0 ic_0 ?_
  refine g_istore_n (lv' := [(2, .int (0 : Int32)), (0, .ref (ad x0)), (1, .ref (ad x1))]) C dX12_copies_1 rfl (Nat.le_of_ble_eq_true rfl) rfl ?_
  exact g_sub [1, 2, 0] rfl (J2 x0 x1 (0 : Int32) g h)
def fM_notes (x1 : Int32) (x2 : Int32) (g : St) : Option (St) :=
  if (g 0 5) = 0 then
    (if ¬ ((g 0 18) < 0 ∨ 160 ≤ (g 0 18).toNatClampNeg) then (if ¬ (((st g (202 + (g 0 18).toNatClampNeg) 0 x1) 0 18) < 0 ∨ 160 ≤ ((st g (202 + (g 0 18).toNatClampNeg) 0 x1) 0 18).toNatClampNeg) then (some (st (st (st g (202 + (g 0 18).toNatClampNeg) 0 x1) (202 + ((st g (202 + (g 0 18).toNatClampNeg) 0 x1) 0 18).toNatClampNeg) 1 x2) 0 18 (((st (st g (202 + (g 0 18).toNatClampNeg) 0 x1) (202 + ((st g (202 + (g 0 18).toNatClampNeg) 0 x1) 0 18).toNatClampNeg) 1 x2) 0 18) + (1 : Int32)))) else none) else none)
  else
    (some g)
def rmM_notes : Room := { frames := 0, cells := 0, slots := 0, locals := 0 }
abbrev GcM_notes (l : Launch) (D : va_G) (T : cT) (ad : Nat → Nat) (Γ : Cxt) (o : St) (xo : Sl) (x : Sl) (g : St) (pc : Nat) (lv : List (Nat × Value)) (stk : List Value) : Prop := Gj l shM D T ad 3 (rmM_notes) 0 0 Γ (MQ Γ.below (va_Qv (eqV o xo) (wPost shM D T ad Γ.A) Γ.A) Γ.args Γ.s 0 0 Γ.A) x g pc lv stk
set_option maxRecDepth 100000 in
set_option maxHeartbeats 4000000 in
theorem cM_notes (l : Launch) (D : va_G) (T : cT) (ad : Nat → Nat) (xo : Sl) (g : St) (x1 : Int32) (x2 : Int32) (o : St) (h : fM_notes x1 x2 g = some o) (sz : Nat) : Met l yX12_notes wM_notes (rmM_notes) (va_Pc [.ref (ad 0), .int x1, .int x2] (wPre shM D T ad xo g sz)) (va_Qv (eqV o xo) (wPost shM D T ad (aW shM T ad xo g sz)) (aW shM T ad xo g sz)) 0 0 (aW shM T ad xo g sz) := by
  refine g_start (Qc := fun A => va_Qv (eqV o xo) (wPost shM D T ad A) A) (by decide +kernel) rfl rfl (Nat.le_of_ble_eq_true rfl) (lv := [(0, .ref (ad 0)), (1, .int x1), (2, .int x2)]) rfl (fun Γ C => ?_)
  show GcM_notes l D T ad Γ o xo xo g 0 [(0, .ref (ad 0)), (1, .int x1), (2, .int x2)] []
  refine g_aload_n C dX12_notes_0 rfl 0 rfl ?_
  refine gM_get_fault (v := g 0 5) C rfl dX12_notes_1 ?_
  refine g_if_eq C 8 dX12_notes_4 (by decide) (fun c4 => ?_) (fun c4 => ?_)
  · have h := iteT c4 h
    refine g_aload_n C dX12_notes_8 rfl 0 rfl ?_
    refine gM_get_readLaw C dX12_notes_9 ?_
    refine g_aload_n C dX12_notes_12 rfl 0 rfl ?_
    refine gM_get_readLawMany (v := g 0 18) C rfl dX12_notes_13 ?_
    obtain ⟨hi16, h⟩ := grd h
    refine g_aald (n := 160) (q := (202 + (g 0 18).toNatClampNeg)) C lg_10 hi16 rfl dX12_notes_16 ?_
    refine g_iconst C dX12_notes_17 ic_0 ?_
    refine g_iload_n C dX12_notes_18 rfl 1 rfl ?_
    refine g_iast (n := 2) (q := 0) C (lenM_readLaw hi16) (by decide) cl_0 dX12_notes_19 ?_
    refine g_aload_n C dX12_notes_20 rfl 0 rfl ?_
    refine gM_get_readLaw C dX12_notes_21 ?_
    refine g_aload_n C dX12_notes_24 rfl 0 rfl ?_
    refine gM_get_readLawMany (v := (st g (202 + (g 0 18).toNatClampNeg) 0 x1) 0 18) C rfl dX12_notes_25 ?_
    obtain ⟨hi28, h⟩ := grd h
    refine g_aald (n := 160) (q := (202 + ((st g (202 + (g 0 18).toNatClampNeg) 0 x1) 0 18).toNatClampNeg)) C lg_10 hi28 rfl dX12_notes_28 ?_
    refine g_iconst C dX12_notes_29 ic_1 ?_
    refine g_iload_n C dX12_notes_30 rfl 2 rfl ?_
    refine g_iast (n := 2) (q := 1) C (lenM_readLaw hi28) (by decide) cl_1 dX12_notes_31 ?_
    refine g_aload_n C dX12_notes_32 rfl 0 rfl ?_
    refine g_dup C dX12_notes_33 rfl ?_
    refine gM_get_readLawMany (v := (st (st g (202 + (g 0 18).toNatClampNeg) 0 x1) (202 + ((st g (202 + (g 0 18).toNatClampNeg) 0 x1) 0 18).toNatClampNeg) 1 x2) 0 18) C rfl dX12_notes_34 ?_
    refine g_iconst C dX12_notes_37 ic_1 ?_
    refine g_iadd C dX12_notes_38 ?_
    refine gM_put_readLawMany C dX12_notes_39 ?_
    obtain rfl := Option.some.inj h
    exact g_vret C rfl rfl dX12_notes_42
  · have h := iteF c4 h
    obtain rfl := Option.some.inj h
    exact g_vret C rfl rfl dX12_notes_7
def fM_opensOne_b45 (g : St) : Int32 × St :=
  if (g 0 5) = 0 then
    (((1 : Int32), g))
  else
    (((0 : Int32), g))
def fM_opensOne_b28 (g : St) : Int32 × St :=
  if (g 0 5) = 0 then
    (fM_opensOne_b45 (st g 0 8 ((g 0 8) + (1 : Int32))))
  else
    (fM_opensOne_b45 g)
def fM_opensOne (g : St) : Int32 × St :=
  if (g 0 5) = 0 then
    (if (g 0 8) = (6 : Int32) then
    (lt1 (fM_wrong (3 : Int32) (g 0 4) g) fun g22 => (fM_opensOne_b45 g22))
  else
    (fM_opensOne_b28 g))
  else
    (fM_opensOne_b28 g)
def rmM_opensOne : Room := { frames := 1, cells := 0, slots := 0, locals := 22 }
abbrev GcM_opensOne (l : Launch) (D : va_G) (T : cT) (ad : Nat → Nat) (Γ : Cxt) (o : Int32 × St) (xo : Sl) (x : Sl) (g : St) (pc : Nat) (lv : List (Nat × Value)) (stk : List Value) : Prop := Gj l shM D T ad 1 (rmM_opensOne) 0 0 Γ (MQ Γ.below (va_Qi (eqZ o.1 o.2 xo) (wPost shM D T ad Γ.A) Γ.A) Γ.args Γ.s 0 0 Γ.A) x g pc lv stk
set_option maxRecDepth 100000 in
set_option maxHeartbeats 4000000 in
theorem cM_opensOne (l : Launch) (D : va_G) (T : cT) (ad : Nat → Nat) (xo : Sl) (g : St) (o : Int32 × St) (h : fM_opensOne g = o) (sz : Nat) : Met l yX12_opensOne wM_opensOne (rmM_opensOne) (va_Pc [.ref (ad 0)] (wPre shM D T ad xo g sz)) (va_Qi (eqZ o.1 o.2 xo) (wPost shM D T ad (aW shM T ad xo g sz)) (aW shM T ad xo g sz)) 0 0 (aW shM T ad xo g sz) := by
  refine g_start (Qc := fun A => va_Qi (eqZ o.1 o.2 xo) (wPost shM D T ad A) A) (by decide +kernel) rfl rfl (Nat.le_of_ble_eq_true rfl) (lv := [(0, .ref (ad 0))]) rfl (fun Γ C => ?_)
  show GcM_opensOne l D T ad Γ o xo xo g 0 [(0, .ref (ad 0))] []
  have J45 : ∀ (g : St), fM_opensOne_b45 g = o → GcM_opensOne l D T ad Γ o xo xo g 45 [(0, .ref (ad 0))] [] := by
    intro g h
    refine g_aload_n C dX12_opensOne_45 rfl 0 rfl ?_
    refine gM_get_fault (v := g 0 5) C rfl dX12_opensOne_46 ?_
    refine g_if_ne C 56 dX12_opensOne_49 (by decide) (fun c49 => ?_) (fun c49 => ?_)
    · have h := iteT c49 h
      refine g_iconst C dX12_opensOne_52 ic_1 ?_
      refine g_goto (tgt := 57) C dX12_opensOne_53 (by decide) ?_
      subst h
      exact g_zret C rfl rfl rfl rfl dX12_opensOne_57
    · have h := iteF c49 h
      refine g_iconst C dX12_opensOne_56 ic_0 ?_
      subst h
      exact g_zret C rfl rfl rfl rfl dX12_opensOne_57
  have J28 : ∀ (g : St), fM_opensOne_b28 g = o → GcM_opensOne l D T ad Γ o xo xo g 28 [(0, .ref (ad 0))] [] := by
    intro g h
    refine g_aload_n C dX12_opensOne_28 rfl 0 rfl ?_
    refine gM_get_fault (v := g 0 5) C rfl dX12_opensOne_29 ?_
    refine g_if_ne C 45 dX12_opensOne_32 (by decide) (fun c32 => ?_) (fun c32 => ?_)
    · have h := iteT c32 h
      refine g_aload_n C dX12_opensOne_35 rfl 0 rfl ?_
      refine g_dup C dX12_opensOne_36 rfl ?_
      refine gM_get_open (v := g 0 8) C rfl dX12_opensOne_37 ?_
      refine g_iconst C dX12_opensOne_40 ic_1 ?_
      refine g_iadd C dX12_opensOne_41 ?_
      refine gM_put_open C dX12_opensOne_42 ?_
      exact J45 (st g 0 8 ((g 0 8) + (1 : Int32))) h
    · have h := iteF c32 h
      exact J45 g h
  refine g_aload_n C dX12_opensOne_0 rfl 0 rfl ?_
  refine gM_get_fault (v := g 0 5) C rfl dX12_opensOne_1 ?_
  refine g_if_ne C 28 dX12_opensOne_4 (by decide) (fun c4 => ?_) (fun c4 => ?_)
  · have h := iteT c4 h
    refine g_aload_n C dX12_opensOne_7 rfl 0 rfl ?_
    refine gM_get_open (v := g 0 8) C rfl dX12_opensOne_8 ?_
    refine g_bipush C dX12_opensOne_11 bp_6 ?_
    refine g_icmp_ne C 28 dX12_opensOne_13 (by decide) (fun c13 => ?_) (fun c13 => ?_)
    · have h := iteT c13 h
      refine g_aload_n C dX12_opensOne_16 rfl 0 rfl ?_
      refine g_iconst C dX12_opensOne_17 ic_3 ?_
      refine g_aload_n C dX12_opensOne_18 rfl 0 rfl ?_
      refine gM_get_at (v := g 0 4) C rfl dX12_opensOne_19 ?_
      obtain ⟨g22, hr22, h⟩ := ltb h
      refine g_cVv (k := 0) (As := [.int (3 : Int32), .int (g 0 4)]) (rest := []) (go := g22) (xo := xo) C (fun sz => cM_wrong l D T ad xo g (3 : Int32) (g 0 4) _ hr22 sz) kM_wrong ⟨Nat.le_of_ble_eq_true rfl, Nat.le_of_ble_eq_true rfl⟩ ⟨rfl, rfl⟩ ⟨Nat.zero_le _, Nat.zero_le _⟩ (rfl : vwCl[11]? = some (RX12, TX12, 48)) kM0 rfl rfl (Nat.le_of_ble_eq_true rfl) dX12_opensOne_22 ?_
      refine g_goto (tgt := 45) C dX12_opensOne_25 (by decide) ?_
      exact J45 g22 h
    · have h := iteF c13 h
      exact J28 g h
  · have h := iteF c4 h
    exact J28 g h
def fM_knownHere (g : St) : Option (Int32 × St) :=
  (fM_takes (11 : Int32) (9 : Int32) (14 : Int32) (4 : Int32) (0 : Int32) (0 : Int32) g).bind fun ⟨r10, g10⟩ => (if r10 = 0 then
    ((fM_takes (4 : Int32) (5 : Int32) (2 : Int32) (20 : Int32) (19 : Int32) (0 : Int32) g10).bind fun ⟨r27, g27⟩ => (if r27 = 0 then
    ((fM_takes (19 : Int32) (20 : Int32) (15 : Int32) (14 : Int32) (5 : Int32) (19 : Int32) g27).bind fun ⟨r47, g47⟩ => (if r47 = 0 then
    ((fM_takes (6 : Int32) (18 : Int32) (9 : Int32) (5 : Int32) (14 : Int32) (4 : Int32) g47).bind fun ⟨r66, g66⟩ => (if r66 = 0 then
    ((fM_takes (15 : Int32) (23 : Int32) (5 : Int32) (4 : Int32) (0 : Int32) (0 : Int32) g66).bind fun ⟨r83, g83⟩ => (if r83 = 0 then
    ((fM_takes (4 : Int32) (5 : Int32) (1 : Int32) (4 : Int32) (0 : Int32) (0 : Int32) g83).bind fun ⟨r98, g98⟩ => (if r98 = 0 then
    ((fM_takes (25 : Int32) (5 : Int32) (1 : Int32) (18 : Int32) (0 : Int32) (0 : Int32) g98).bind fun ⟨r115, g115⟩ => (if r115 = 0 then
    ((fM_takes (16 : Int32) (5 : Int32) (18 : Int32) (19 : Int32) (15 : Int32) (14 : Int32) g115).bind fun ⟨r136, g136⟩ => (if r136 = 0 then
    (some ((-1 : Int32), g136))
  else
    (some ((7 : Int32), g136))))
  else
    (some ((6 : Int32), g115))))
  else
    (some ((5 : Int32), g98))))
  else
    (some ((4 : Int32), g83))))
  else
    (some ((3 : Int32), g66))))
  else
    (some ((2 : Int32), g47))))
  else
    (some ((1 : Int32), g27))))
  else
    (some ((0 : Int32), g10)))
def rmM_knownHere : Room := { frames := 5, cells := 0, slots := 0, locals := 116 }
abbrev GcM_knownHere (l : Launch) (D : va_G) (T : cT) (ad : Nat → Nat) (Γ : Cxt) (o : Int32 × St) (xo : Sl) (x : Sl) (g : St) (pc : Nat) (lv : List (Nat × Value)) (stk : List Value) : Prop := Gj l shM D T ad 1 (rmM_knownHere) 0 0 Γ (MQ Γ.below (va_Qi (eqI o.1 o.2 xo) (wPost shM D T ad Γ.A) Γ.A) Γ.args Γ.s 0 0 Γ.A) x g pc lv stk
set_option maxRecDepth 100000 in
set_option maxHeartbeats 4000000 in
theorem cM_knownHere (l : Launch) (D : va_G) (T : cT) (ad : Nat → Nat) (xo : Sl) (g : St) (o : Int32 × St) (h : fM_knownHere g = some o) (sz : Nat) : Met l yX12_knownHere wM_knownHere (rmM_knownHere) (va_Pc [.ref (ad 0)] (wPre shM D T ad xo g sz)) (va_Qi (eqI o.1 o.2 xo) (wPost shM D T ad (aW shM T ad xo g sz)) (aW shM T ad xo g sz)) 0 0 (aW shM T ad xo g sz) := by
  refine g_start (Qc := fun A => va_Qi (eqI o.1 o.2 xo) (wPost shM D T ad A) A) (by decide +kernel) rfl rfl (Nat.le_of_ble_eq_true rfl) (lv := [(0, .ref (ad 0))]) rfl (fun Γ C => ?_)
  show GcM_knownHere l D T ad Γ o xo xo g 0 [(0, .ref (ad 0))] []
  refine g_aload_n C dX12_knownHere_0 rfl 0 rfl ?_
  refine g_bipush C dX12_knownHere_1 bp_11 ?_
  refine g_bipush C dX12_knownHere_3 bp_9 ?_
  refine g_bipush C dX12_knownHere_5 bp_14 ?_
  refine g_iconst C dX12_knownHere_7 ic_4 ?_
  refine g_iconst C dX12_knownHere_8 ic_0 ?_
  refine g_iconst C dX12_knownHere_9 ic_0 ?_
  obtain ⟨⟨r10, g10⟩, hr10, h⟩ := bnd h
  refine g_cVz (k := 0) (As := [.int (11 : Int32), .int (9 : Int32), .int (14 : Int32), .int (4 : Int32), .int (0 : Int32), .int (0 : Int32)]) (rest := []) (ro := r10) (go := g10) (xo := xo) C (fun sz => cM_takes l D T ad xo g (11 : Int32) (9 : Int32) (14 : Int32) (4 : Int32) (0 : Int32) (0 : Int32) _ hr10 sz) kM_takes ⟨Nat.le_of_ble_eq_true rfl, Nat.le_of_ble_eq_true rfl⟩ ⟨rfl, rfl⟩ ⟨Nat.zero_le _, Nat.zero_le _⟩ (rfl : vwCl[11]? = some (RX12, TX12, 48)) kM0 rfl rfl (Nat.le_of_ble_eq_true rfl) dX12_knownHere_10 (fun hz10 => ?_)
  refine g_if_eq C 18 dX12_knownHere_13 (by decide) (fun c13 => ?_) (fun c13 => ?_)
  · have h := iteT c13 h
    refine g_aload_n C dX12_knownHere_18 rfl 0 rfl ?_
    refine g_iconst C dX12_knownHere_19 ic_4 ?_
    refine g_iconst C dX12_knownHere_20 ic_5 ?_
    refine g_iconst C dX12_knownHere_21 ic_2 ?_
    refine g_bipush C dX12_knownHere_22 bp_20 ?_
    refine g_bipush C dX12_knownHere_24 bp_19 ?_
    refine g_iconst C dX12_knownHere_26 ic_0 ?_
    obtain ⟨⟨r27, g27⟩, hr27, h⟩ := bnd h
    refine g_cVz (k := 0) (As := [.int (4 : Int32), .int (5 : Int32), .int (2 : Int32), .int (20 : Int32), .int (19 : Int32), .int (0 : Int32)]) (rest := []) (ro := r27) (go := g27) (xo := xo) C (fun sz => cM_takes l D T ad xo g10 (4 : Int32) (5 : Int32) (2 : Int32) (20 : Int32) (19 : Int32) (0 : Int32) _ hr27 sz) kM_takes ⟨Nat.le_of_ble_eq_true rfl, Nat.le_of_ble_eq_true rfl⟩ ⟨rfl, rfl⟩ ⟨Nat.zero_le _, Nat.zero_le _⟩ (rfl : vwCl[11]? = some (RX12, TX12, 48)) kM0 rfl rfl (Nat.le_of_ble_eq_true rfl) dX12_knownHere_27 (fun hz27 => ?_)
    refine g_if_eq C 35 dX12_knownHere_30 (by decide) (fun c30 => ?_) (fun c30 => ?_)
    · have h := iteT c30 h
      refine g_aload_n C dX12_knownHere_35 rfl 0 rfl ?_
      refine g_bipush C dX12_knownHere_36 bp_19 ?_
      refine g_bipush C dX12_knownHere_38 bp_20 ?_
      refine g_bipush C dX12_knownHere_40 bp_15 ?_
      refine g_bipush C dX12_knownHere_42 bp_14 ?_
      refine g_iconst C dX12_knownHere_44 ic_5 ?_
      refine g_bipush C dX12_knownHere_45 bp_19 ?_
      obtain ⟨⟨r47, g47⟩, hr47, h⟩ := bnd h
      refine g_cVz (k := 0) (As := [.int (19 : Int32), .int (20 : Int32), .int (15 : Int32), .int (14 : Int32), .int (5 : Int32), .int (19 : Int32)]) (rest := []) (ro := r47) (go := g47) (xo := xo) C (fun sz => cM_takes l D T ad xo g27 (19 : Int32) (20 : Int32) (15 : Int32) (14 : Int32) (5 : Int32) (19 : Int32) _ hr47 sz) kM_takes ⟨Nat.le_of_ble_eq_true rfl, Nat.le_of_ble_eq_true rfl⟩ ⟨rfl, rfl⟩ ⟨Nat.zero_le _, Nat.zero_le _⟩ (rfl : vwCl[11]? = some (RX12, TX12, 48)) kM0 rfl rfl (Nat.le_of_ble_eq_true rfl) dX12_knownHere_47 (fun hz47 => ?_)
      refine g_if_eq C 55 dX12_knownHere_50 (by decide) (fun c50 => ?_) (fun c50 => ?_)
      · have h := iteT c50 h
        refine g_aload_n C dX12_knownHere_55 rfl 0 rfl ?_
        refine g_bipush C dX12_knownHere_56 bp_6 ?_
        refine g_bipush C dX12_knownHere_58 bp_18 ?_
        refine g_bipush C dX12_knownHere_60 bp_9 ?_
        refine g_iconst C dX12_knownHere_62 ic_5 ?_
        refine g_bipush C dX12_knownHere_63 bp_14 ?_
        refine g_iconst C dX12_knownHere_65 ic_4 ?_
        obtain ⟨⟨r66, g66⟩, hr66, h⟩ := bnd h
        refine g_cVz (k := 0) (As := [.int (6 : Int32), .int (18 : Int32), .int (9 : Int32), .int (5 : Int32), .int (14 : Int32), .int (4 : Int32)]) (rest := []) (ro := r66) (go := g66) (xo := xo) C (fun sz => cM_takes l D T ad xo g47 (6 : Int32) (18 : Int32) (9 : Int32) (5 : Int32) (14 : Int32) (4 : Int32) _ hr66 sz) kM_takes ⟨Nat.le_of_ble_eq_true rfl, Nat.le_of_ble_eq_true rfl⟩ ⟨rfl, rfl⟩ ⟨Nat.zero_le _, Nat.zero_le _⟩ (rfl : vwCl[11]? = some (RX12, TX12, 48)) kM0 rfl rfl (Nat.le_of_ble_eq_true rfl) dX12_knownHere_66 (fun hz66 => ?_)
        refine g_if_eq C 74 dX12_knownHere_69 (by decide) (fun c69 => ?_) (fun c69 => ?_)
        · have h := iteT c69 h
          refine g_aload_n C dX12_knownHere_74 rfl 0 rfl ?_
          refine g_bipush C dX12_knownHere_75 bp_15 ?_
          refine g_bipush C dX12_knownHere_77 bp_23 ?_
          refine g_iconst C dX12_knownHere_79 ic_5 ?_
          refine g_iconst C dX12_knownHere_80 ic_4 ?_
          refine g_iconst C dX12_knownHere_81 ic_0 ?_
          refine g_iconst C dX12_knownHere_82 ic_0 ?_
          obtain ⟨⟨r83, g83⟩, hr83, h⟩ := bnd h
          refine g_cVz (k := 0) (As := [.int (15 : Int32), .int (23 : Int32), .int (5 : Int32), .int (4 : Int32), .int (0 : Int32), .int (0 : Int32)]) (rest := []) (ro := r83) (go := g83) (xo := xo) C (fun sz => cM_takes l D T ad xo g66 (15 : Int32) (23 : Int32) (5 : Int32) (4 : Int32) (0 : Int32) (0 : Int32) _ hr83 sz) kM_takes ⟨Nat.le_of_ble_eq_true rfl, Nat.le_of_ble_eq_true rfl⟩ ⟨rfl, rfl⟩ ⟨Nat.zero_le _, Nat.zero_le _⟩ (rfl : vwCl[11]? = some (RX12, TX12, 48)) kM0 rfl rfl (Nat.le_of_ble_eq_true rfl) dX12_knownHere_83 (fun hz83 => ?_)
          refine g_if_eq C 91 dX12_knownHere_86 (by decide) (fun c86 => ?_) (fun c86 => ?_)
          · have h := iteT c86 h
            refine g_aload_n C dX12_knownHere_91 rfl 0 rfl ?_
            refine g_iconst C dX12_knownHere_92 ic_4 ?_
            refine g_iconst C dX12_knownHere_93 ic_5 ?_
            refine g_iconst C dX12_knownHere_94 ic_1 ?_
            refine g_iconst C dX12_knownHere_95 ic_4 ?_
            refine g_iconst C dX12_knownHere_96 ic_0 ?_
            refine g_iconst C dX12_knownHere_97 ic_0 ?_
            obtain ⟨⟨r98, g98⟩, hr98, h⟩ := bnd h
            refine g_cVz (k := 0) (As := [.int (4 : Int32), .int (5 : Int32), .int (1 : Int32), .int (4 : Int32), .int (0 : Int32), .int (0 : Int32)]) (rest := []) (ro := r98) (go := g98) (xo := xo) C (fun sz => cM_takes l D T ad xo g83 (4 : Int32) (5 : Int32) (1 : Int32) (4 : Int32) (0 : Int32) (0 : Int32) _ hr98 sz) kM_takes ⟨Nat.le_of_ble_eq_true rfl, Nat.le_of_ble_eq_true rfl⟩ ⟨rfl, rfl⟩ ⟨Nat.zero_le _, Nat.zero_le _⟩ (rfl : vwCl[11]? = some (RX12, TX12, 48)) kM0 rfl rfl (Nat.le_of_ble_eq_true rfl) dX12_knownHere_98 (fun hz98 => ?_)
            refine g_if_eq C 106 dX12_knownHere_101 (by decide) (fun c101 => ?_) (fun c101 => ?_)
            · have h := iteT c101 h
              refine g_aload_n C dX12_knownHere_106 rfl 0 rfl ?_
              refine g_bipush C dX12_knownHere_107 bp_25 ?_
              refine g_iconst C dX12_knownHere_109 ic_5 ?_
              refine g_iconst C dX12_knownHere_110 ic_1 ?_
              refine g_bipush C dX12_knownHere_111 bp_18 ?_
              refine g_iconst C dX12_knownHere_113 ic_0 ?_
              refine g_iconst C dX12_knownHere_114 ic_0 ?_
              obtain ⟨⟨r115, g115⟩, hr115, h⟩ := bnd h
              refine g_cVz (k := 0) (As := [.int (25 : Int32), .int (5 : Int32), .int (1 : Int32), .int (18 : Int32), .int (0 : Int32), .int (0 : Int32)]) (rest := []) (ro := r115) (go := g115) (xo := xo) C (fun sz => cM_takes l D T ad xo g98 (25 : Int32) (5 : Int32) (1 : Int32) (18 : Int32) (0 : Int32) (0 : Int32) _ hr115 sz) kM_takes ⟨Nat.le_of_ble_eq_true rfl, Nat.le_of_ble_eq_true rfl⟩ ⟨rfl, rfl⟩ ⟨Nat.zero_le _, Nat.zero_le _⟩ (rfl : vwCl[11]? = some (RX12, TX12, 48)) kM0 rfl rfl (Nat.le_of_ble_eq_true rfl) dX12_knownHere_115 (fun hz115 => ?_)
              refine g_if_eq C 124 dX12_knownHere_118 (by decide) (fun c118 => ?_) (fun c118 => ?_)
              · have h := iteT c118 h
                refine g_aload_n C dX12_knownHere_124 rfl 0 rfl ?_
                refine g_bipush C dX12_knownHere_125 bp_16 ?_
                refine g_iconst C dX12_knownHere_127 ic_5 ?_
                refine g_bipush C dX12_knownHere_128 bp_18 ?_
                refine g_bipush C dX12_knownHere_130 bp_19 ?_
                refine g_bipush C dX12_knownHere_132 bp_15 ?_
                refine g_bipush C dX12_knownHere_134 bp_14 ?_
                obtain ⟨⟨r136, g136⟩, hr136, h⟩ := bnd h
                refine g_cVz (k := 0) (As := [.int (16 : Int32), .int (5 : Int32), .int (18 : Int32), .int (19 : Int32), .int (15 : Int32), .int (14 : Int32)]) (rest := []) (ro := r136) (go := g136) (xo := xo) C (fun sz => cM_takes l D T ad xo g115 (16 : Int32) (5 : Int32) (18 : Int32) (19 : Int32) (15 : Int32) (14 : Int32) _ hr136 sz) kM_takes ⟨Nat.le_of_ble_eq_true rfl, Nat.le_of_ble_eq_true rfl⟩ ⟨rfl, rfl⟩ ⟨Nat.zero_le _, Nat.zero_le _⟩ (rfl : vwCl[11]? = some (RX12, TX12, 48)) kM0 rfl rfl (Nat.le_of_ble_eq_true rfl) dX12_knownHere_136 (fun hz136 => ?_)
                refine g_if_eq C 147 dX12_knownHere_139 (by decide) (fun c139 => ?_) (fun c139 => ?_)
                · have h := iteT c139 h
                  refine g_iconst C dX12_knownHere_147 ic_m1 ?_
                  obtain rfl := Option.some.inj h
                  exact g_iret C rfl rfl rfl dX12_knownHere_148
                · have h := iteF c139 h
                  refine g_bipush C dX12_knownHere_142 bp_7 ?_
                  refine g_goto (tgt := 148) C dX12_knownHere_144 (by decide) ?_
                  obtain rfl := Option.some.inj h
                  exact g_iret C rfl rfl rfl dX12_knownHere_148
              · have h := iteF c118 h
                refine g_bipush C dX12_knownHere_121 bp_6 ?_
                obtain rfl := Option.some.inj h
                exact g_iret C rfl rfl rfl dX12_knownHere_123
            · have h := iteF c101 h
              refine g_iconst C dX12_knownHere_104 ic_5 ?_
              obtain rfl := Option.some.inj h
              exact g_iret C rfl rfl rfl dX12_knownHere_105
          · have h := iteF c86 h
            refine g_iconst C dX12_knownHere_89 ic_4 ?_
            obtain rfl := Option.some.inj h
            exact g_iret C rfl rfl rfl dX12_knownHere_90
        · have h := iteF c69 h
          refine g_iconst C dX12_knownHere_72 ic_3 ?_
          obtain rfl := Option.some.inj h
          exact g_iret C rfl rfl rfl dX12_knownHere_73
      · have h := iteF c50 h
        refine g_iconst C dX12_knownHere_53 ic_2 ?_
        obtain rfl := Option.some.inj h
        exact g_iret C rfl rfl rfl dX12_knownHere_54
    · have h := iteF c30 h
      refine g_iconst C dX12_knownHere_33 ic_1 ?_
      obtain rfl := Option.some.inj h
      exact g_iret C rfl rfl rfl dX12_knownHere_34
  · have h := iteF c13 h
    refine g_iconst C dX12_knownHere_16 ic_0 ?_
    obtain rfl := Option.some.inj h
    exact g_iret C rfl rfl rfl dX12_knownHere_17
def fM_one_b56 (rec_one : St → Option (St)) (rec_product : St → Option (St)) (rec_sum : St → Option (St)) (s0 : Int32) (g : St) : Option (St) :=
  if s0 = (-1 : Int32) then
    ((fM_byteAt (g 0 4) g).bind fun r122 => (if r122 = (40 : Int32) then
    (lt1 (fM_opensOne g) fun ⟨r131, g131⟩ => (if r131 = 0 then
    (some g131)
  else
    ((rec_sum (st g131 0 4 ((g131 0 4) + (1 : Int32)))).bind fun g149 => ((fM_sign (41 : Int32) g149).bind fun g155 => (some (st g155 0 8 ((g155 0 8) - (1 : Int32))))))))
  else
    ((fM_knownHere g).bind fun ⟨r170, g170⟩ => (if r170 = (-1 : Int32) then
    ((fM_number (0 : Int32) (999 : Int32) g170).bind fun ⟨r195, g195⟩ => ((fM_notes (0 : Int32) r195 g195).bind fun g198 => (some g198)))
  else
    ((fM_notes (1 : Int32) r170 g170).bind fun g182 => (some g182))))))
  else
    (lt1 (fM_opensOne g) fun ⟨r63, g63⟩ => (if r63 = 0 then
    (some g63)
  else
    ((fM_skipWord g63).bind fun g71 => ((fM_sign (91 : Int32) g71).bind fun g77 => ((rec_sum g77).bind fun g81 => ((fM_sign (44 : Int32) g81).bind fun g87 => ((rec_sum g87).bind fun g91 => ((fM_sign (93 : Int32) g91).bind fun g97 => ((fM_notes s0 (0 : Int32) g97).bind fun g103 => (some (st g103 0 8 ((g103 0 8) - (1 : Int32)))))))))))))
def fM_one_o (rec_one : St → Option (St)) (rec_product : St → Option (St)) (rec_sum : St → Option (St)) (g : St) : Option (St) :=
  if (g 0 5) = 0 then
    ((fM_blanks g).bind fun g9 => ((fM_isWord (12 : Int32) (5 : Int32) (1 : Int32) (19 : Int32) (20 : Int32) (0 : Int32) g9).bind fun ⟨r22, g22⟩ => (if r22 = 0 then
    ((fM_isWord (13 : Int32) (15 : Int32) (19 : Int32) (20 : Int32) (0 : Int32) (0 : Int32) g22).bind fun ⟨r44, g44⟩ => (if r44 = 0 then
    (fM_one_b56 rec_one rec_product rec_sum (-1 : Int32) g44)
  else
    (fM_one_b56 rec_one rec_product rec_sum (8 : Int32) g44)))
  else
    (fM_one_b56 rec_one rec_product rec_sum (7 : Int32) g22))))
  else
    (some g)
abbrev GcM_one (l : Launch) (D : va_G) (T : cT) (ad : Nat → Nat) (Γ : Cxt) (o : St) (xo : Sl) (d : Nat) (x : Sl) (g : St) (pc : Nat) (lv : List (Nat × Value)) (stk : List Value) : Prop := Gj l shM D T ad 3 (rmR 6 136 22 (d + 1)) 0 0 Γ (MQ Γ.below (va_Qv (eqV o xo) (wPost shM D T ad Γ.A) Γ.A) Γ.args Γ.s 0 0 Γ.A) x g pc lv stk
set_option maxRecDepth 100000 in
set_option maxHeartbeats 4000000 in
theorem cM_one_o (l : Launch) (D : va_G) (T : cT) (ad : Nat → Nat) (d : Nat) (rec_one : St → Option (St)) (rec_product : St → Option (St)) (rec_sum : St → Option (St)) (hrec_one : ∀ (xo : Sl) (g : St) (o : St), rec_one g = some o → ∀ sz : Nat, Met l yX12_one wM_one (rmR 6 136 22 d) (va_Pc [.ref (ad 0)] (wPre shM D T ad xo g sz)) (va_Qv (eqV o xo) (wPost shM D T ad (aW shM T ad xo g sz)) (aW shM T ad xo g sz)) 0 0 (aW shM T ad xo g sz)) (hrec_product : ∀ (xo : Sl) (g : St) (o : St), rec_product g = some o → ∀ sz : Nat, Met l yX12_product wM_product (rmR 6 136 22 d) (va_Pc [.ref (ad 0)] (wPre shM D T ad xo g sz)) (va_Qv (eqV o xo) (wPost shM D T ad (aW shM T ad xo g sz)) (aW shM T ad xo g sz)) 0 0 (aW shM T ad xo g sz)) (hrec_sum : ∀ (xo : Sl) (g : St) (o : St), rec_sum g = some o → ∀ sz : Nat, Met l yX12_sum wM_sum (rmR 6 136 22 d) (va_Pc [.ref (ad 0)] (wPre shM D T ad xo g sz)) (va_Qv (eqV o xo) (wPost shM D T ad (aW shM T ad xo g sz)) (aW shM T ad xo g sz)) 0 0 (aW shM T ad xo g sz)) (xo : Sl) (g : St) (o : St) (h : fM_one_o rec_one rec_product rec_sum g = some o) (sz : Nat) : Met l yX12_one wM_one (rmR 6 136 22 (d + 1)) (va_Pc [.ref (ad 0)] (wPre shM D T ad xo g sz)) (va_Qv (eqV o xo) (wPost shM D T ad (aW shM T ad xo g sz)) (aW shM T ad xo g sz)) 0 0 (aW shM T ad xo g sz) := by
  refine g_start (Qc := fun A => va_Qv (eqV o xo) (wPost shM D T ad A) A) (by decide +kernel) rfl rfl (Nat.le_of_ble_eq_true rfl) (lv := [(0, .ref (ad 0))]) rfl (fun Γ C => ?_)
  show GcM_one l D T ad Γ o xo d xo g 0 [(0, .ref (ad 0))] []
  have J56 : ∀ (s0 : Int32) (g : St), fM_one_b56 rec_one rec_product rec_sum s0 g = some o → GcM_one l D T ad Γ o xo d xo g 56 [(0, .ref (ad 0))] [.int s0] := by
    intro s0 g h
    refine g_istore_n (lv' := [(1, .int s0), (0, .ref (ad 0))]) C dX12_one_56 rfl (Nat.le_of_ble_eq_true rfl) rfl ?_
    refine g_iload_n C dX12_one_57 rfl 0 rfl ?_
    refine g_iconst C dX12_one_58 ic_m1 ?_
    refine g_icmp_eq C 117 dX12_one_59 (by decide) (fun c59 => ?_) (fun c59 => ?_)
    · have h := iteT c59 h
      refine g_aload_n C dX12_one_117 rfl 1 rfl ?_
      refine g_aload_n C dX12_one_118 rfl 1 rfl ?_
      refine gM_get_at (v := g 0 4) C rfl dX12_one_119 ?_
      obtain ⟨r122, hr122, h⟩ := bnd h
      refine g_cVi (k := 0) (As := [.int (g 0 4)]) (rest := []) (ro := r122) (go := g) (xo := xo) C (fun sz => cM_byteAt l D T ad xo g (g 0 4) _ hr122 sz) kM_byteAt (by show 0 + 1 ≤ 6 + (d + 1) ∧ 8 + (2 + 11) + 0 ≤ 136 + 22 * (d + 1); omega) ⟨rfl, rfl⟩ ⟨Nat.zero_le _, Nat.zero_le _⟩ (rfl : vwCl[11]? = some (RX12, TX12, 48)) kM0 rfl rfl (Nat.le_of_ble_eq_true rfl) dX12_one_122 ?_
      refine g_bipush C dX12_one_125 bp_40 ?_
      refine g_icmp_ne C 169 dX12_one_127 (by decide) (fun c127 => ?_) (fun c127 => ?_)
      · have h := iteT c127 h
        refine g_aload_n C dX12_one_130 rfl 1 rfl ?_
        obtain ⟨⟨r131, g131⟩, hr131, h⟩ := ltb h
        refine g_cVz (k := 0) (As := []) (rest := []) (ro := r131) (go := g131) (xo := xo) C (fun sz => cM_opensOne l D T ad xo g _ hr131 sz) kM_opensOne (by show 1 + 1 ≤ 6 + (d + 1) ∧ 8 + (1 + 11) + 22 ≤ 136 + 22 * (d + 1); omega) ⟨rfl, rfl⟩ ⟨Nat.zero_le _, Nat.zero_le _⟩ (rfl : vwCl[11]? = some (RX12, TX12, 48)) kM0 rfl rfl (Nat.le_of_ble_eq_true rfl) dX12_one_131 (fun hz131 => ?_)
        refine g_if_ne C 138 dX12_one_134 (by decide) (fun c134 => ?_) (fun c134 => ?_)
        · have h := iteT c134 h
          obtain rfl := Option.some.inj h
          exact g_vret C rfl rfl dX12_one_137
        · have h := iteF c134 h
          refine g_aload_n C dX12_one_138 rfl 1 rfl ?_
          refine g_dup C dX12_one_139 rfl ?_
          refine gM_get_at (v := g131 0 4) C rfl dX12_one_140 ?_
          refine g_iconst C dX12_one_143 ic_1 ?_
          refine g_iadd C dX12_one_144 ?_
          refine gM_put_at C dX12_one_145 ?_
          refine g_aload_n C dX12_one_148 rfl 1 rfl ?_
          obtain ⟨g149, hr149, h⟩ := bnd h
          refine g_cVv (k := 0) (As := []) (rest := []) (go := g149) (xo := xo) C (fun sz => hrec_sum xo (st g131 0 4 ((g131 0 4) + (1 : Int32))) _ hr149 sz) kM_sum (by show 6 + d + 1 ≤ 6 + (d + 1) ∧ 8 + (2 + 11) + (136 + 22 * d) ≤ 136 + 22 * (d + 1); omega) ⟨rfl, rfl⟩ ⟨Nat.zero_le _, Nat.zero_le _⟩ (rfl : vwCl[11]? = some (RX12, TX12, 48)) kM0 rfl rfl (Nat.le_of_ble_eq_true rfl) dX12_one_149 ?_
          refine g_aload_n C dX12_one_152 rfl 1 rfl ?_
          refine g_bipush C dX12_one_153 bp_41 ?_
          obtain ⟨g155, hr155, h⟩ := bnd h
          refine g_cVv (k := 0) (As := [.int (41 : Int32)]) (rest := []) (go := g155) (xo := xo) C (fun sz => cM_sign l D T ad xo g149 (41 : Int32) _ hr155 sz) kM_sign (by show 2 + 1 ≤ 6 + (d + 1) ∧ 8 + (2 + 11) + 41 ≤ 136 + 22 * (d + 1); omega) ⟨rfl, rfl⟩ ⟨Nat.zero_le _, Nat.zero_le _⟩ (rfl : vwCl[11]? = some (RX12, TX12, 48)) kM0 rfl rfl (Nat.le_of_ble_eq_true rfl) dX12_one_155 ?_
          refine g_aload_n C dX12_one_158 rfl 1 rfl ?_
          refine g_dup C dX12_one_159 rfl ?_
          refine gM_get_open (v := g155 0 8) C rfl dX12_one_160 ?_
          refine g_iconst C dX12_one_163 ic_1 ?_
          refine g_isub C dX12_one_164 ?_
          refine gM_put_open C dX12_one_165 ?_
          obtain rfl := Option.some.inj h
          exact g_vret C rfl rfl dX12_one_168
      · have h := iteF c127 h
        refine g_aload_n C dX12_one_169 rfl 1 rfl ?_
        obtain ⟨⟨r170, g170⟩, hr170, h⟩ := bnd h
        refine g_cVi (k := 0) (As := []) (rest := []) (ro := r170) (go := g170) (xo := xo) C (fun sz => cM_knownHere l D T ad xo g _ hr170 sz) kM_knownHere (by show 5 + 1 ≤ 6 + (d + 1) ∧ 8 + (1 + 11) + 116 ≤ 136 + 22 * (d + 1); omega) ⟨rfl, rfl⟩ ⟨Nat.zero_le _, Nat.zero_le _⟩ (rfl : vwCl[11]? = some (RX12, TX12, 48)) kM0 rfl rfl (Nat.le_of_ble_eq_true rfl) dX12_one_170 ?_
        refine g_istore_n (lv' := [(2, .int r170), (1, .int s0), (0, .ref (ad 0))]) C dX12_one_173 rfl (Nat.le_of_ble_eq_true rfl) rfl ?_
        refine g_iload_n C dX12_one_174 rfl 0 rfl ?_
        refine g_iconst C dX12_one_175 ic_m1 ?_
        refine g_icmp_eq C 188 dX12_one_176 (by decide) (fun c176 => ?_) (fun c176 => ?_)
        · have h := iteT c176 h
          refine g_aload_n C dX12_one_188 rfl 2 rfl ?_
          refine g_iconst C dX12_one_189 ic_0 ?_
          refine g_aload_n C dX12_one_190 rfl 2 rfl ?_
          refine g_iconst C dX12_one_191 ic_0 ?_
          refine g_sipush C dX12_one_192 sp_999 ?_
          obtain ⟨⟨r195, g195⟩, hr195, h⟩ := bnd h
          refine g_cVi (k := 0) (As := [.int (0 : Int32), .int (999 : Int32)]) (rest := [.int (0 : Int32), .ref (ad 0)]) (ro := r195) (go := g195) (xo := xo) C (fun sz => cM_number l D T ad xo g170 (0 : Int32) (999 : Int32) _ hr195 sz) kM_number (by show 2 + 1 ≤ 6 + (d + 1) ∧ 8 + (5 + 11) + 41 ≤ 136 + 22 * (d + 1); omega) ⟨rfl, rfl⟩ ⟨Nat.zero_le _, Nat.zero_le _⟩ (rfl : vwCl[11]? = some (RX12, TX12, 48)) kM0 rfl rfl (Nat.le_of_ble_eq_true rfl) dX12_one_195 ?_
          obtain ⟨g198, hr198, h⟩ := bnd h
          refine g_cVv (k := 0) (As := [.int (0 : Int32), .int r195]) (rest := []) (go := g198) (xo := xo) C (fun sz => cM_notes l D T ad xo g195 (0 : Int32) r195 _ hr198 sz) kM_notes (by show 0 + 1 ≤ 6 + (d + 1) ∧ 8 + (3 + 11) + 0 ≤ 136 + 22 * (d + 1); omega) ⟨rfl, rfl⟩ ⟨Nat.zero_le _, Nat.zero_le _⟩ (rfl : vwCl[11]? = some (RX12, TX12, 48)) kM0 rfl rfl (Nat.le_of_ble_eq_true rfl) dX12_one_198 ?_
          obtain rfl := Option.some.inj h
          exact g_vret C rfl rfl dX12_one_201
        · have h := iteF c176 h
          refine g_aload_n C dX12_one_179 rfl 2 rfl ?_
          refine g_iconst C dX12_one_180 ic_1 ?_
          refine g_iload_n C dX12_one_181 rfl 0 rfl ?_
          obtain ⟨g182, hr182, h⟩ := bnd h
          refine g_cVv (k := 0) (As := [.int (1 : Int32), .int r170]) (rest := []) (go := g182) (xo := xo) C (fun sz => cM_notes l D T ad xo g170 (1 : Int32) r170 _ hr182 sz) kM_notes (by show 0 + 1 ≤ 6 + (d + 1) ∧ 8 + (3 + 11) + 0 ≤ 136 + 22 * (d + 1); omega) ⟨rfl, rfl⟩ ⟨Nat.zero_le _, Nat.zero_le _⟩ (rfl : vwCl[11]? = some (RX12, TX12, 48)) kM0 rfl rfl (Nat.le_of_ble_eq_true rfl) dX12_one_182 ?_
          refine g_goto (tgt := 201) C dX12_one_185 (by decide) ?_
          obtain rfl := Option.some.inj h
          exact g_vret C rfl rfl dX12_one_201
    · have h := iteF c59 h
      refine g_aload_n C dX12_one_62 rfl 1 rfl ?_
      obtain ⟨⟨r63, g63⟩, hr63, h⟩ := ltb h
      refine g_cVz (k := 0) (As := []) (rest := []) (ro := r63) (go := g63) (xo := xo) C (fun sz => cM_opensOne l D T ad xo g _ hr63 sz) kM_opensOne (by show 1 + 1 ≤ 6 + (d + 1) ∧ 8 + (1 + 11) + 22 ≤ 136 + 22 * (d + 1); omega) ⟨rfl, rfl⟩ ⟨Nat.zero_le _, Nat.zero_le _⟩ (rfl : vwCl[11]? = some (RX12, TX12, 48)) kM0 rfl rfl (Nat.le_of_ble_eq_true rfl) dX12_one_63 (fun hz63 => ?_)
      refine g_if_ne C 70 dX12_one_66 (by decide) (fun c66 => ?_) (fun c66 => ?_)
      · have h := iteT c66 h
        obtain rfl := Option.some.inj h
        exact g_vret C rfl rfl dX12_one_69
      · have h := iteF c66 h
        refine g_aload_n C dX12_one_70 rfl 1 rfl ?_
        obtain ⟨g71, hr71, h⟩ := bnd h
        refine g_cVv (k := 0) (As := []) (rest := []) (go := g71) (xo := xo) C (fun sz => cM_skipWord l D T ad xo g63 _ hr71 sz) kM_skipWord (by show 1 + 1 ≤ 6 + (d + 1) ∧ 8 + (1 + 11) + 21 ≤ 136 + 22 * (d + 1); omega) ⟨rfl, rfl⟩ ⟨Nat.zero_le _, Nat.zero_le _⟩ (rfl : vwCl[11]? = some (RX12, TX12, 48)) kM0 rfl rfl (Nat.le_of_ble_eq_true rfl) dX12_one_71 ?_
        refine g_aload_n C dX12_one_74 rfl 1 rfl ?_
        refine g_bipush C dX12_one_75 bp_91 ?_
        obtain ⟨g77, hr77, h⟩ := bnd h
        refine g_cVv (k := 0) (As := [.int (91 : Int32)]) (rest := []) (go := g77) (xo := xo) C (fun sz => cM_sign l D T ad xo g71 (91 : Int32) _ hr77 sz) kM_sign (by show 2 + 1 ≤ 6 + (d + 1) ∧ 8 + (2 + 11) + 41 ≤ 136 + 22 * (d + 1); omega) ⟨rfl, rfl⟩ ⟨Nat.zero_le _, Nat.zero_le _⟩ (rfl : vwCl[11]? = some (RX12, TX12, 48)) kM0 rfl rfl (Nat.le_of_ble_eq_true rfl) dX12_one_77 ?_
        refine g_aload_n C dX12_one_80 rfl 1 rfl ?_
        obtain ⟨g81, hr81, h⟩ := bnd h
        refine g_cVv (k := 0) (As := []) (rest := []) (go := g81) (xo := xo) C (fun sz => hrec_sum xo g77 _ hr81 sz) kM_sum (by show 6 + d + 1 ≤ 6 + (d + 1) ∧ 8 + (2 + 11) + (136 + 22 * d) ≤ 136 + 22 * (d + 1); omega) ⟨rfl, rfl⟩ ⟨Nat.zero_le _, Nat.zero_le _⟩ (rfl : vwCl[11]? = some (RX12, TX12, 48)) kM0 rfl rfl (Nat.le_of_ble_eq_true rfl) dX12_one_81 ?_
        refine g_aload_n C dX12_one_84 rfl 1 rfl ?_
        refine g_bipush C dX12_one_85 bp_44 ?_
        obtain ⟨g87, hr87, h⟩ := bnd h
        refine g_cVv (k := 0) (As := [.int (44 : Int32)]) (rest := []) (go := g87) (xo := xo) C (fun sz => cM_sign l D T ad xo g81 (44 : Int32) _ hr87 sz) kM_sign (by show 2 + 1 ≤ 6 + (d + 1) ∧ 8 + (2 + 11) + 41 ≤ 136 + 22 * (d + 1); omega) ⟨rfl, rfl⟩ ⟨Nat.zero_le _, Nat.zero_le _⟩ (rfl : vwCl[11]? = some (RX12, TX12, 48)) kM0 rfl rfl (Nat.le_of_ble_eq_true rfl) dX12_one_87 ?_
        refine g_aload_n C dX12_one_90 rfl 1 rfl ?_
        obtain ⟨g91, hr91, h⟩ := bnd h
        refine g_cVv (k := 0) (As := []) (rest := []) (go := g91) (xo := xo) C (fun sz => hrec_sum xo g87 _ hr91 sz) kM_sum (by show 6 + d + 1 ≤ 6 + (d + 1) ∧ 8 + (2 + 11) + (136 + 22 * d) ≤ 136 + 22 * (d + 1); omega) ⟨rfl, rfl⟩ ⟨Nat.zero_le _, Nat.zero_le _⟩ (rfl : vwCl[11]? = some (RX12, TX12, 48)) kM0 rfl rfl (Nat.le_of_ble_eq_true rfl) dX12_one_91 ?_
        refine g_aload_n C dX12_one_94 rfl 1 rfl ?_
        refine g_bipush C dX12_one_95 bp_93 ?_
        obtain ⟨g97, hr97, h⟩ := bnd h
        refine g_cVv (k := 0) (As := [.int (93 : Int32)]) (rest := []) (go := g97) (xo := xo) C (fun sz => cM_sign l D T ad xo g91 (93 : Int32) _ hr97 sz) kM_sign (by show 2 + 1 ≤ 6 + (d + 1) ∧ 8 + (2 + 11) + 41 ≤ 136 + 22 * (d + 1); omega) ⟨rfl, rfl⟩ ⟨Nat.zero_le _, Nat.zero_le _⟩ (rfl : vwCl[11]? = some (RX12, TX12, 48)) kM0 rfl rfl (Nat.le_of_ble_eq_true rfl) dX12_one_97 ?_
        refine g_aload_n C dX12_one_100 rfl 1 rfl ?_
        refine g_iload_n C dX12_one_101 rfl 0 rfl ?_
        refine g_iconst C dX12_one_102 ic_0 ?_
        obtain ⟨g103, hr103, h⟩ := bnd h
        refine g_cVv (k := 0) (As := [.int s0, .int (0 : Int32)]) (rest := []) (go := g103) (xo := xo) C (fun sz => cM_notes l D T ad xo g97 s0 (0 : Int32) _ hr103 sz) kM_notes (by show 0 + 1 ≤ 6 + (d + 1) ∧ 8 + (3 + 11) + 0 ≤ 136 + 22 * (d + 1); omega) ⟨rfl, rfl⟩ ⟨Nat.zero_le _, Nat.zero_le _⟩ (rfl : vwCl[11]? = some (RX12, TX12, 48)) kM0 rfl rfl (Nat.le_of_ble_eq_true rfl) dX12_one_103 ?_
        refine g_aload_n C dX12_one_106 rfl 1 rfl ?_
        refine g_dup C dX12_one_107 rfl ?_
        refine gM_get_open (v := g103 0 8) C rfl dX12_one_108 ?_
        refine g_iconst C dX12_one_111 ic_1 ?_
        refine g_isub C dX12_one_112 ?_
        refine gM_put_open C dX12_one_113 ?_
        obtain rfl := Option.some.inj h
        exact g_vret C rfl rfl dX12_one_116
  refine g_aload_n C dX12_one_0 rfl 0 rfl ?_
  refine gM_get_fault (v := g 0 5) C rfl dX12_one_1 ?_
  refine g_if_eq C 8 dX12_one_4 (by decide) (fun c4 => ?_) (fun c4 => ?_)
  · have h := iteT c4 h
    refine g_aload_n C dX12_one_8 rfl 0 rfl ?_
    obtain ⟨g9, hr9, h⟩ := bnd h
    refine g_cVv (k := 0) (As := []) (rest := []) (go := g9) (xo := xo) C (fun sz => cM_blanks l D T ad xo g _ hr9 sz) kM_blanks (by show 1 + 1 ≤ 6 + (d + 1) ∧ 8 + (1 + 11) + 21 ≤ 136 + 22 * (d + 1); omega) ⟨rfl, rfl⟩ ⟨Nat.zero_le _, Nat.zero_le _⟩ (rfl : vwCl[11]? = some (RX12, TX12, 48)) kM0 rfl rfl (Nat.le_of_ble_eq_true rfl) dX12_one_9 ?_
    refine g_aload_n C dX12_one_12 rfl 0 rfl ?_
    refine g_bipush C dX12_one_13 bp_12 ?_
    refine g_iconst C dX12_one_15 ic_5 ?_
    refine g_iconst C dX12_one_16 ic_1 ?_
    refine g_bipush C dX12_one_17 bp_19 ?_
    refine g_bipush C dX12_one_19 bp_20 ?_
    refine g_iconst C dX12_one_21 ic_0 ?_
    obtain ⟨⟨r22, g22⟩, hr22, h⟩ := bnd h
    refine g_cVz (k := 0) (As := [.int (12 : Int32), .int (5 : Int32), .int (1 : Int32), .int (19 : Int32), .int (20 : Int32), .int (0 : Int32)]) (rest := []) (ro := r22) (go := g22) (xo := xo) C (fun sz => cM_isWord l D T ad xo g9 (12 : Int32) (5 : Int32) (1 : Int32) (19 : Int32) (20 : Int32) (0 : Int32) _ hr22 sz) kM_isWord (by show 3 + 1 ≤ 6 + (d + 1) ∧ 8 + (7 + 11) + 63 ≤ 136 + 22 * (d + 1); omega) ⟨rfl, rfl⟩ ⟨Nat.zero_le _, Nat.zero_le _⟩ (rfl : vwCl[11]? = some (RX12, TX12, 48)) kM0 rfl rfl (Nat.le_of_ble_eq_true rfl) dX12_one_22 (fun hz22 => ?_)
    refine g_if_eq C 33 dX12_one_25 (by decide) (fun c25 => ?_) (fun c25 => ?_)
    · have h := iteT c25 h
      refine g_aload_n C dX12_one_33 rfl 0 rfl ?_
      refine g_bipush C dX12_one_34 bp_13 ?_
      refine g_bipush C dX12_one_36 bp_15 ?_
      refine g_bipush C dX12_one_38 bp_19 ?_
      refine g_bipush C dX12_one_40 bp_20 ?_
      refine g_iconst C dX12_one_42 ic_0 ?_
      refine g_iconst C dX12_one_43 ic_0 ?_
      obtain ⟨⟨r44, g44⟩, hr44, h⟩ := bnd h
      refine g_cVz (k := 0) (As := [.int (13 : Int32), .int (15 : Int32), .int (19 : Int32), .int (20 : Int32), .int (0 : Int32), .int (0 : Int32)]) (rest := []) (ro := r44) (go := g44) (xo := xo) C (fun sz => cM_isWord l D T ad xo g22 (13 : Int32) (15 : Int32) (19 : Int32) (20 : Int32) (0 : Int32) (0 : Int32) _ hr44 sz) kM_isWord (by show 3 + 1 ≤ 6 + (d + 1) ∧ 8 + (7 + 11) + 63 ≤ 136 + 22 * (d + 1); omega) ⟨rfl, rfl⟩ ⟨Nat.zero_le _, Nat.zero_le _⟩ (rfl : vwCl[11]? = some (RX12, TX12, 48)) kM0 rfl rfl (Nat.le_of_ble_eq_true rfl) dX12_one_44 (fun hz44 => ?_)
      refine g_if_eq C 55 dX12_one_47 (by decide) (fun c47 => ?_) (fun c47 => ?_)
      · have h := iteT c47 h
        refine g_iconst C dX12_one_55 ic_m1 ?_
        exact J56 (-1 : Int32) g44 h
      · have h := iteF c47 h
        refine g_bipush C dX12_one_50 bp_8 ?_
        refine g_goto (tgt := 56) C dX12_one_52 (by decide) ?_
        exact J56 (8 : Int32) g44 h
    · have h := iteF c25 h
      refine g_bipush C dX12_one_28 bp_7 ?_
      refine g_goto (tgt := 56) C dX12_one_30 (by decide) ?_
      exact J56 (7 : Int32) g22 h
  · have h := iteF c4 h
    obtain rfl := Option.some.inj h
    exact g_vret C rfl rfl dX12_one_7
def fM_product_b52 (rec_one : St → Option (St)) (rec_product : St → Option (St)) (rec_sum : St → Option (St)) (s0 : Int32) (g : St) : Option ((St) ⊕ (St ⊕ St)) :=
  if s0 = (-1 : Int32) then
    (some (.inr (.inl g)))
  else
    ((rec_one g).bind fun g60 => ((fM_notes s0 (0 : Int32) g60).bind fun g66 => (some (.inl g66))))
def fM_product_L4 (rec_one : St → Option (St)) (rec_product : St → Option (St)) (rec_sum : St → Option (St)) : St → Option ((St) ⊕ (St ⊕ St)) := fun g =>
  if (g 0 5) = 0 then
    ((fM_takesSign (42 : Int32) g).bind fun ⟨r14, g14⟩ => (if r14 = 0 then
    ((fM_takesSign (47 : Int32) g14).bind fun ⟨r27, g27⟩ => (if r27 = 0 then
    ((fM_takesSign (37 : Int32) g27).bind fun ⟨r40, g40⟩ => (if r40 = 0 then
    (fM_product_b52 rec_one rec_product rec_sum (-1 : Int32) g40)
  else
    (fM_product_b52 rec_one rec_product rec_sum (6 : Int32) g40)))
  else
    (fM_product_b52 rec_one rec_product rec_sum (5 : Int32) g27)))
  else
    (fM_product_b52 rec_one rec_product rec_sum (4 : Int32) g14)))
  else
    (some (.inr (.inr g)))
def fM_product_b4 (rec_one : St → Option (St)) (rec_product : St → Option (St)) (rec_sum : St → Option (St)) (g : St) : Option (St) :=
  (lp (fM_product_L4 rec_one rec_product rec_sum) fuel g).bind (Sum.elim (fun g => some g) (fun g => some g))
def fM_product_o (rec_one : St → Option (St)) (rec_product : St → Option (St)) (rec_sum : St → Option (St)) (g : St) : Option (St) :=
  (rec_one g).bind fun g1 => (fM_product_b4 rec_one rec_product rec_sum g1)
abbrev GcM_product (l : Launch) (D : va_G) (T : cT) (ad : Nat → Nat) (Γ : Cxt) (o : St) (xo : Sl) (d : Nat) (x : Sl) (g : St) (pc : Nat) (lv : List (Nat × Value)) (stk : List Value) : Prop := Gj l shM D T ad 2 (rmR 6 136 22 (d + 1)) 0 0 Γ (MQ Γ.below (va_Qv (eqV o xo) (wPost shM D T ad Γ.A) Γ.A) Γ.args Γ.s 0 0 Γ.A) x g pc lv stk
set_option maxRecDepth 100000 in
set_option maxHeartbeats 4000000 in
theorem cM_product_o (l : Launch) (D : va_G) (T : cT) (ad : Nat → Nat) (d : Nat) (rec_one : St → Option (St)) (rec_product : St → Option (St)) (rec_sum : St → Option (St)) (hrec_one : ∀ (xo : Sl) (g : St) (o : St), rec_one g = some o → ∀ sz : Nat, Met l yX12_one wM_one (rmR 6 136 22 d) (va_Pc [.ref (ad 0)] (wPre shM D T ad xo g sz)) (va_Qv (eqV o xo) (wPost shM D T ad (aW shM T ad xo g sz)) (aW shM T ad xo g sz)) 0 0 (aW shM T ad xo g sz)) (hrec_product : ∀ (xo : Sl) (g : St) (o : St), rec_product g = some o → ∀ sz : Nat, Met l yX12_product wM_product (rmR 6 136 22 d) (va_Pc [.ref (ad 0)] (wPre shM D T ad xo g sz)) (va_Qv (eqV o xo) (wPost shM D T ad (aW shM T ad xo g sz)) (aW shM T ad xo g sz)) 0 0 (aW shM T ad xo g sz)) (hrec_sum : ∀ (xo : Sl) (g : St) (o : St), rec_sum g = some o → ∀ sz : Nat, Met l yX12_sum wM_sum (rmR 6 136 22 d) (va_Pc [.ref (ad 0)] (wPre shM D T ad xo g sz)) (va_Qv (eqV o xo) (wPost shM D T ad (aW shM T ad xo g sz)) (aW shM T ad xo g sz)) 0 0 (aW shM T ad xo g sz)) (xo : Sl) (g : St) (o : St) (h : fM_product_o rec_one rec_product rec_sum g = some o) (sz : Nat) : Met l yX12_product wM_product (rmR 6 136 22 (d + 1)) (va_Pc [.ref (ad 0)] (wPre shM D T ad xo g sz)) (va_Qv (eqV o xo) (wPost shM D T ad (aW shM T ad xo g sz)) (aW shM T ad xo g sz)) 0 0 (aW shM T ad xo g sz) := by
  refine g_start (Qc := fun A => va_Qv (eqV o xo) (wPost shM D T ad A) A) (by decide +kernel) rfl rfl (Nat.le_of_ble_eq_true rfl) (lv := [(0, .ref (ad 0))]) rfl (fun Γ C => ?_)
  show GcM_product l D T ad Γ o xo d xo g 0 [(0, .ref (ad 0))] []
  have J4 : ∀ (g : St), fM_product_b4 rec_one rec_product rec_sum g = some o → GcM_product l D T ad Γ o xo d xo g 4 [(0, .ref (ad 0))] [] := by
    intro g h
    obtain ⟨t, ht, h⟩ := bnd h
    refine lp_run (P := fun g : St => GcM_product l D T ad Γ o xo d xo g 4 [(0, .ref (ad 0))] []) (E := Sum.elim (fun g : St => GcM_product l D T ad Γ o xo d xo g 58 [] []) (fun g : St => GcM_product l D T ad Γ o xo d xo g 72 [] [])) ?_ _ _ _ ht ?_
    · rintro g z h Kt Ke
      show GcM_product l D T ad Γ o xo d xo g 4 [(0, .ref (ad 0))] []
      have J52 : ∀ (s0 : Int32) (g : St), fM_product_b52 rec_one rec_product rec_sum s0 g = some z → GcM_product l D T ad Γ o xo d xo g 52 [(0, .ref (ad 0))] [.int s0] := by
        intro s0 g h
        refine g_istore_n (lv' := [(1, .int s0), (0, .ref (ad 0))]) C dX12_product_52 rfl (Nat.le_of_ble_eq_true rfl) rfl ?_
        refine g_iload_n C dX12_product_53 rfl 0 rfl ?_
        refine g_iconst C dX12_product_54 ic_m1 ?_
        refine g_icmp_ne C 59 dX12_product_55 (by decide) (fun c55 => ?_) (fun c55 => ?_)
        · have h := iteT c55 h
          exact g_sub [] rfl (Ke _ (Option.some.inj h).symm)
        · have h := iteF c55 h
          refine g_aload_n C dX12_product_59 rfl 1 rfl ?_
          obtain ⟨g60, hr60, h⟩ := bnd h
          refine g_cVv (k := 0) (As := []) (rest := []) (go := g60) (xo := xo) C (fun sz => hrec_one xo g _ hr60 sz) kM_one (by show 6 + d + 1 ≤ 6 + (d + 1) ∧ 8 + (3 + 11) + (136 + 22 * d) ≤ 136 + 22 * (d + 1); omega) ⟨rfl, rfl⟩ ⟨Nat.zero_le _, Nat.zero_le _⟩ (rfl : vwCl[11]? = some (RX12, TX12, 48)) kM0 rfl rfl (Nat.le_of_ble_eq_true rfl) dX12_product_60 ?_
          refine g_aload_n C dX12_product_63 rfl 1 rfl ?_
          refine g_iload_n C dX12_product_64 rfl 0 rfl ?_
          refine g_iconst C dX12_product_65 ic_0 ?_
          obtain ⟨g66, hr66, h⟩ := bnd h
          refine g_cVv (k := 0) (As := [.int s0, .int (0 : Int32)]) (rest := []) (go := g66) (xo := xo) C (fun sz => cM_notes l D T ad xo g60 s0 (0 : Int32) _ hr66 sz) kM_notes (by show 0 + 1 ≤ 6 + (d + 1) ∧ 8 + (3 + 11) + 0 ≤ 136 + 22 * (d + 1); omega) ⟨rfl, rfl⟩ ⟨Nat.zero_le _, Nat.zero_le _⟩ (rfl : vwCl[11]? = some (RX12, TX12, 48)) kM0 rfl rfl (Nat.le_of_ble_eq_true rfl) dX12_product_66 ?_
          refine g_goto (tgt := 4) C dX12_product_69 (by decide) ?_
          exact g_sub [1] rfl (Kt _ (Option.some.inj h).symm)
      refine g_aload_n C dX12_product_4 rfl 0 rfl ?_
      refine gM_get_fault (v := g 0 5) C rfl dX12_product_5 ?_
      refine g_if_ne C 72 dX12_product_8 (by decide) (fun c8 => ?_) (fun c8 => ?_)
      · have h := iteT c8 h
        refine g_aload_n C dX12_product_11 rfl 0 rfl ?_
        refine g_bipush C dX12_product_12 bp_42 ?_
        obtain ⟨⟨r14, g14⟩, hr14, h⟩ := bnd h
        refine g_cVz (k := 0) (As := [.int (42 : Int32)]) (rest := []) (ro := r14) (go := g14) (xo := xo) C (fun sz => cM_takesSign l D T ad xo g (42 : Int32) _ hr14 sz) kM_takesSign (by show 2 + 1 ≤ 6 + (d + 1) ∧ 8 + (3 + 11) + 41 ≤ 136 + 22 * (d + 1); omega) ⟨rfl, rfl⟩ ⟨Nat.zero_le _, Nat.zero_le _⟩ (rfl : vwCl[11]? = some (RX12, TX12, 48)) kM0 rfl rfl (Nat.le_of_ble_eq_true rfl) dX12_product_14 (fun hz14 => ?_)
        refine g_if_eq C 24 dX12_product_17 (by decide) (fun c17 => ?_) (fun c17 => ?_)
        · have h := iteT c17 h
          refine g_aload_n C dX12_product_24 rfl 0 rfl ?_
          refine g_bipush C dX12_product_25 bp_47 ?_
          obtain ⟨⟨r27, g27⟩, hr27, h⟩ := bnd h
          refine g_cVz (k := 0) (As := [.int (47 : Int32)]) (rest := []) (ro := r27) (go := g27) (xo := xo) C (fun sz => cM_takesSign l D T ad xo g14 (47 : Int32) _ hr27 sz) kM_takesSign (by show 2 + 1 ≤ 6 + (d + 1) ∧ 8 + (3 + 11) + 41 ≤ 136 + 22 * (d + 1); omega) ⟨rfl, rfl⟩ ⟨Nat.zero_le _, Nat.zero_le _⟩ (rfl : vwCl[11]? = some (RX12, TX12, 48)) kM0 rfl rfl (Nat.le_of_ble_eq_true rfl) dX12_product_27 (fun hz27 => ?_)
          refine g_if_eq C 37 dX12_product_30 (by decide) (fun c30 => ?_) (fun c30 => ?_)
          · have h := iteT c30 h
            refine g_aload_n C dX12_product_37 rfl 0 rfl ?_
            refine g_bipush C dX12_product_38 bp_37 ?_
            obtain ⟨⟨r40, g40⟩, hr40, h⟩ := bnd h
            refine g_cVz (k := 0) (As := [.int (37 : Int32)]) (rest := []) (ro := r40) (go := g40) (xo := xo) C (fun sz => cM_takesSign l D T ad xo g27 (37 : Int32) _ hr40 sz) kM_takesSign (by show 2 + 1 ≤ 6 + (d + 1) ∧ 8 + (3 + 11) + 41 ≤ 136 + 22 * (d + 1); omega) ⟨rfl, rfl⟩ ⟨Nat.zero_le _, Nat.zero_le _⟩ (rfl : vwCl[11]? = some (RX12, TX12, 48)) kM0 rfl rfl (Nat.le_of_ble_eq_true rfl) dX12_product_40 (fun hz40 => ?_)
            refine g_if_eq C 51 dX12_product_43 (by decide) (fun c43 => ?_) (fun c43 => ?_)
            · have h := iteT c43 h
              refine g_iconst C dX12_product_51 ic_m1 ?_
              exact J52 (-1 : Int32) g40 h
            · have h := iteF c43 h
              refine g_bipush C dX12_product_46 bp_6 ?_
              refine g_goto (tgt := 52) C dX12_product_48 (by decide) ?_
              exact J52 (6 : Int32) g40 h
          · have h := iteF c30 h
            refine g_iconst C dX12_product_33 ic_5 ?_
            refine g_goto (tgt := 52) C dX12_product_34 (by decide) ?_
            exact J52 (5 : Int32) g27 h
        · have h := iteF c17 h
          refine g_iconst C dX12_product_20 ic_4 ?_
          refine g_goto (tgt := 52) C dX12_product_21 (by decide) ?_
          exact J52 (4 : Int32) g14 h
      · have h := iteF c8 h
        exact g_sub [] rfl (Ke _ (Option.some.inj h).symm)
    · rcases t with g | g
      · show GcM_product l D T ad Γ o xo d xo g 58 [] []
        obtain rfl := Option.some.inj h
        exact g_vret C rfl rfl dX12_product_58
      · show GcM_product l D T ad Γ o xo d xo g 72 [] []
        obtain rfl := Option.some.inj h
        exact g_vret C rfl rfl dX12_product_72
  refine g_aload_n C dX12_product_0 rfl 0 rfl ?_
  obtain ⟨g1, hr1, h⟩ := bnd h
  refine g_cVv (k := 0) (As := []) (rest := []) (go := g1) (xo := xo) C (fun sz => hrec_one xo g _ hr1 sz) kM_one (by show 6 + d + 1 ≤ 6 + (d + 1) ∧ 8 + (3 + 11) + (136 + 22 * d) ≤ 136 + 22 * (d + 1); omega) ⟨rfl, rfl⟩ ⟨Nat.zero_le _, Nat.zero_le _⟩ (rfl : vwCl[11]? = some (RX12, TX12, 48)) kM0 rfl rfl (Nat.le_of_ble_eq_true rfl) dX12_product_1 ?_
  exact J4 g1 h
def fM_sum_b38 (rec_one : St → Option (St)) (rec_product : St → Option (St)) (rec_sum : St → Option (St)) (s0 : Int32) (g : St) : Option ((St) ⊕ (St ⊕ St)) :=
  if s0 = (-1 : Int32) then
    (some (.inr (.inl g)))
  else
    ((rec_product g).bind fun g46 => ((fM_notes s0 (0 : Int32) g46).bind fun g52 => (some (.inl g52))))
def fM_sum_L4 (rec_one : St → Option (St)) (rec_product : St → Option (St)) (rec_sum : St → Option (St)) : St → Option ((St) ⊕ (St ⊕ St)) := fun g =>
  if (g 0 5) = 0 then
    ((fM_takesSign (43 : Int32) g).bind fun ⟨r14, g14⟩ => (if r14 = 0 then
    ((fM_takesSign (45 : Int32) g14).bind fun ⟨r27, g27⟩ => (if r27 = 0 then
    (fM_sum_b38 rec_one rec_product rec_sum (-1 : Int32) g27)
  else
    (fM_sum_b38 rec_one rec_product rec_sum (3 : Int32) g27)))
  else
    (fM_sum_b38 rec_one rec_product rec_sum (2 : Int32) g14)))
  else
    (some (.inr (.inr g)))
def fM_sum_b4 (rec_one : St → Option (St)) (rec_product : St → Option (St)) (rec_sum : St → Option (St)) (g : St) : Option (St) :=
  (lp (fM_sum_L4 rec_one rec_product rec_sum) fuel g).bind (Sum.elim (fun g => some g) (fun g => some g))
def fM_sum_o (rec_one : St → Option (St)) (rec_product : St → Option (St)) (rec_sum : St → Option (St)) (g : St) : Option (St) :=
  (rec_product g).bind fun g1 => (fM_sum_b4 rec_one rec_product rec_sum g1)
abbrev GcM_sum (l : Launch) (D : va_G) (T : cT) (ad : Nat → Nat) (Γ : Cxt) (o : St) (xo : Sl) (d : Nat) (x : Sl) (g : St) (pc : Nat) (lv : List (Nat × Value)) (stk : List Value) : Prop := Gj l shM D T ad 2 (rmR 6 136 22 (d + 1)) 0 0 Γ (MQ Γ.below (va_Qv (eqV o xo) (wPost shM D T ad Γ.A) Γ.A) Γ.args Γ.s 0 0 Γ.A) x g pc lv stk
set_option maxRecDepth 100000 in
set_option maxHeartbeats 4000000 in
theorem cM_sum_o (l : Launch) (D : va_G) (T : cT) (ad : Nat → Nat) (d : Nat) (rec_one : St → Option (St)) (rec_product : St → Option (St)) (rec_sum : St → Option (St)) (hrec_one : ∀ (xo : Sl) (g : St) (o : St), rec_one g = some o → ∀ sz : Nat, Met l yX12_one wM_one (rmR 6 136 22 d) (va_Pc [.ref (ad 0)] (wPre shM D T ad xo g sz)) (va_Qv (eqV o xo) (wPost shM D T ad (aW shM T ad xo g sz)) (aW shM T ad xo g sz)) 0 0 (aW shM T ad xo g sz)) (hrec_product : ∀ (xo : Sl) (g : St) (o : St), rec_product g = some o → ∀ sz : Nat, Met l yX12_product wM_product (rmR 6 136 22 d) (va_Pc [.ref (ad 0)] (wPre shM D T ad xo g sz)) (va_Qv (eqV o xo) (wPost shM D T ad (aW shM T ad xo g sz)) (aW shM T ad xo g sz)) 0 0 (aW shM T ad xo g sz)) (hrec_sum : ∀ (xo : Sl) (g : St) (o : St), rec_sum g = some o → ∀ sz : Nat, Met l yX12_sum wM_sum (rmR 6 136 22 d) (va_Pc [.ref (ad 0)] (wPre shM D T ad xo g sz)) (va_Qv (eqV o xo) (wPost shM D T ad (aW shM T ad xo g sz)) (aW shM T ad xo g sz)) 0 0 (aW shM T ad xo g sz)) (xo : Sl) (g : St) (o : St) (h : fM_sum_o rec_one rec_product rec_sum g = some o) (sz : Nat) : Met l yX12_sum wM_sum (rmR 6 136 22 (d + 1)) (va_Pc [.ref (ad 0)] (wPre shM D T ad xo g sz)) (va_Qv (eqV o xo) (wPost shM D T ad (aW shM T ad xo g sz)) (aW shM T ad xo g sz)) 0 0 (aW shM T ad xo g sz) := by
  refine g_start (Qc := fun A => va_Qv (eqV o xo) (wPost shM D T ad A) A) (by decide +kernel) rfl rfl (Nat.le_of_ble_eq_true rfl) (lv := [(0, .ref (ad 0))]) rfl (fun Γ C => ?_)
  show GcM_sum l D T ad Γ o xo d xo g 0 [(0, .ref (ad 0))] []
  have J4 : ∀ (g : St), fM_sum_b4 rec_one rec_product rec_sum g = some o → GcM_sum l D T ad Γ o xo d xo g 4 [(0, .ref (ad 0))] [] := by
    intro g h
    obtain ⟨t, ht, h⟩ := bnd h
    refine lp_run (P := fun g : St => GcM_sum l D T ad Γ o xo d xo g 4 [(0, .ref (ad 0))] []) (E := Sum.elim (fun g : St => GcM_sum l D T ad Γ o xo d xo g 44 [] []) (fun g : St => GcM_sum l D T ad Γ o xo d xo g 58 [] [])) ?_ _ _ _ ht ?_
    · rintro g z h Kt Ke
      show GcM_sum l D T ad Γ o xo d xo g 4 [(0, .ref (ad 0))] []
      have J38 : ∀ (s0 : Int32) (g : St), fM_sum_b38 rec_one rec_product rec_sum s0 g = some z → GcM_sum l D T ad Γ o xo d xo g 38 [(0, .ref (ad 0))] [.int s0] := by
        intro s0 g h
        refine g_istore_n (lv' := [(1, .int s0), (0, .ref (ad 0))]) C dX12_sum_38 rfl (Nat.le_of_ble_eq_true rfl) rfl ?_
        refine g_iload_n C dX12_sum_39 rfl 0 rfl ?_
        refine g_iconst C dX12_sum_40 ic_m1 ?_
        refine g_icmp_ne C 45 dX12_sum_41 (by decide) (fun c41 => ?_) (fun c41 => ?_)
        · have h := iteT c41 h
          exact g_sub [] rfl (Ke _ (Option.some.inj h).symm)
        · have h := iteF c41 h
          refine g_aload_n C dX12_sum_45 rfl 1 rfl ?_
          obtain ⟨g46, hr46, h⟩ := bnd h
          refine g_cVv (k := 0) (As := []) (rest := []) (go := g46) (xo := xo) C (fun sz => hrec_product xo g _ hr46 sz) kM_product (by show 6 + d + 1 ≤ 6 + (d + 1) ∧ 8 + (2 + 11) + (136 + 22 * d) ≤ 136 + 22 * (d + 1); omega) ⟨rfl, rfl⟩ ⟨Nat.zero_le _, Nat.zero_le _⟩ (rfl : vwCl[11]? = some (RX12, TX12, 48)) kM0 rfl rfl (Nat.le_of_ble_eq_true rfl) dX12_sum_46 ?_
          refine g_aload_n C dX12_sum_49 rfl 1 rfl ?_
          refine g_iload_n C dX12_sum_50 rfl 0 rfl ?_
          refine g_iconst C dX12_sum_51 ic_0 ?_
          obtain ⟨g52, hr52, h⟩ := bnd h
          refine g_cVv (k := 0) (As := [.int s0, .int (0 : Int32)]) (rest := []) (go := g52) (xo := xo) C (fun sz => cM_notes l D T ad xo g46 s0 (0 : Int32) _ hr52 sz) kM_notes (by show 0 + 1 ≤ 6 + (d + 1) ∧ 8 + (3 + 11) + 0 ≤ 136 + 22 * (d + 1); omega) ⟨rfl, rfl⟩ ⟨Nat.zero_le _, Nat.zero_le _⟩ (rfl : vwCl[11]? = some (RX12, TX12, 48)) kM0 rfl rfl (Nat.le_of_ble_eq_true rfl) dX12_sum_52 ?_
          refine g_goto (tgt := 4) C dX12_sum_55 (by decide) ?_
          exact g_sub [1] rfl (Kt _ (Option.some.inj h).symm)
      refine g_aload_n C dX12_sum_4 rfl 0 rfl ?_
      refine gM_get_fault (v := g 0 5) C rfl dX12_sum_5 ?_
      refine g_if_ne C 58 dX12_sum_8 (by decide) (fun c8 => ?_) (fun c8 => ?_)
      · have h := iteT c8 h
        refine g_aload_n C dX12_sum_11 rfl 0 rfl ?_
        refine g_bipush C dX12_sum_12 bp_43 ?_
        obtain ⟨⟨r14, g14⟩, hr14, h⟩ := bnd h
        refine g_cVz (k := 0) (As := [.int (43 : Int32)]) (rest := []) (ro := r14) (go := g14) (xo := xo) C (fun sz => cM_takesSign l D T ad xo g (43 : Int32) _ hr14 sz) kM_takesSign (by show 2 + 1 ≤ 6 + (d + 1) ∧ 8 + (3 + 11) + 41 ≤ 136 + 22 * (d + 1); omega) ⟨rfl, rfl⟩ ⟨Nat.zero_le _, Nat.zero_le _⟩ (rfl : vwCl[11]? = some (RX12, TX12, 48)) kM0 rfl rfl (Nat.le_of_ble_eq_true rfl) dX12_sum_14 (fun hz14 => ?_)
        refine g_if_eq C 24 dX12_sum_17 (by decide) (fun c17 => ?_) (fun c17 => ?_)
        · have h := iteT c17 h
          refine g_aload_n C dX12_sum_24 rfl 0 rfl ?_
          refine g_bipush C dX12_sum_25 bp_45 ?_
          obtain ⟨⟨r27, g27⟩, hr27, h⟩ := bnd h
          refine g_cVz (k := 0) (As := [.int (45 : Int32)]) (rest := []) (ro := r27) (go := g27) (xo := xo) C (fun sz => cM_takesSign l D T ad xo g14 (45 : Int32) _ hr27 sz) kM_takesSign (by show 2 + 1 ≤ 6 + (d + 1) ∧ 8 + (3 + 11) + 41 ≤ 136 + 22 * (d + 1); omega) ⟨rfl, rfl⟩ ⟨Nat.zero_le _, Nat.zero_le _⟩ (rfl : vwCl[11]? = some (RX12, TX12, 48)) kM0 rfl rfl (Nat.le_of_ble_eq_true rfl) dX12_sum_27 (fun hz27 => ?_)
          refine g_if_eq C 37 dX12_sum_30 (by decide) (fun c30 => ?_) (fun c30 => ?_)
          · have h := iteT c30 h
            refine g_iconst C dX12_sum_37 ic_m1 ?_
            exact J38 (-1 : Int32) g27 h
          · have h := iteF c30 h
            refine g_iconst C dX12_sum_33 ic_3 ?_
            refine g_goto (tgt := 38) C dX12_sum_34 (by decide) ?_
            exact J38 (3 : Int32) g27 h
        · have h := iteF c17 h
          refine g_iconst C dX12_sum_20 ic_2 ?_
          refine g_goto (tgt := 38) C dX12_sum_21 (by decide) ?_
          exact J38 (2 : Int32) g14 h
      · have h := iteF c8 h
        exact g_sub [] rfl (Ke _ (Option.some.inj h).symm)
    · rcases t with g | g
      · show GcM_sum l D T ad Γ o xo d xo g 44 [] []
        obtain rfl := Option.some.inj h
        exact g_vret C rfl rfl dX12_sum_44
      · show GcM_sum l D T ad Γ o xo d xo g 58 [] []
        obtain rfl := Option.some.inj h
        exact g_vret C rfl rfl dX12_sum_58
  refine g_aload_n C dX12_sum_0 rfl 0 rfl ?_
  obtain ⟨g1, hr1, h⟩ := bnd h
  refine g_cVv (k := 0) (As := []) (rest := []) (go := g1) (xo := xo) C (fun sz => hrec_product xo g _ hr1 sz) kM_product (by show 6 + d + 1 ≤ 6 + (d + 1) ∧ 8 + (2 + 11) + (136 + 22 * d) ≤ 136 + 22 * (d + 1); omega) ⟨rfl, rfl⟩ ⟨Nat.zero_le _, Nat.zero_le _⟩ (rfl : vwCl[11]? = some (RX12, TX12, 48)) kM0 rfl rfl (Nat.le_of_ble_eq_true rfl) dX12_sum_1 ?_
  exact J4 g1 h
def fM_grp_one : Nat → (St → Option (St)) × (St → Option (St)) × (St → Option (St))
  | 0 => (fun _ => none, fun _ => none, fun _ => none)
  | d + 1 => (fM_one_o (fM_grp_one d).1 (fM_grp_one d).2.1 (fM_grp_one d).2.2, fM_product_o (fM_grp_one d).1 (fM_grp_one d).2.1 (fM_grp_one d).2.2, fM_sum_o (fM_grp_one d).1 (fM_grp_one d).2.1 (fM_grp_one d).2.2)
def fM_one (d : Nat) : St → Option (St) := (fM_grp_one d).1
def fM_product (d : Nat) : St → Option (St) := (fM_grp_one d).2.1
def fM_sum (d : Nat) : St → Option (St) := (fM_grp_one d).2.2
theorem cM_grp_one (l : Launch) (D : va_G) (T : cT) (ad : Nat → Nat) : ∀ d : Nat, (∀ (xo : Sl) (g : St) (o : St), fM_one d g = some o → ∀ sz : Nat, Met l yX12_one wM_one (rmR 6 136 22 d) (va_Pc [.ref (ad 0)] (wPre shM D T ad xo g sz)) (va_Qv (eqV o xo) (wPost shM D T ad (aW shM T ad xo g sz)) (aW shM T ad xo g sz)) 0 0 (aW shM T ad xo g sz)) ∧ (∀ (xo : Sl) (g : St) (o : St), fM_product d g = some o → ∀ sz : Nat, Met l yX12_product wM_product (rmR 6 136 22 d) (va_Pc [.ref (ad 0)] (wPre shM D T ad xo g sz)) (va_Qv (eqV o xo) (wPost shM D T ad (aW shM T ad xo g sz)) (aW shM T ad xo g sz)) 0 0 (aW shM T ad xo g sz)) ∧ (∀ (xo : Sl) (g : St) (o : St), fM_sum d g = some o → ∀ sz : Nat, Met l yX12_sum wM_sum (rmR 6 136 22 d) (va_Pc [.ref (ad 0)] (wPre shM D T ad xo g sz)) (va_Qv (eqV o xo) (wPost shM D T ad (aW shM T ad xo g sz)) (aW shM T ad xo g sz)) 0 0 (aW shM T ad xo g sz)) := by
  intro d
  induction d with
  | zero =>
    exact ⟨(fun _ _ _ h => nomatch h), (fun _ _ _ h => nomatch h), (fun _ _ _ h => nomatch h)⟩
  | succ d ih =>
    exact ⟨(fun xo g  o h sz => cM_one_o l D T ad d _ _ _ ih.1 ih.2.1 ih.2.2 xo g  o h sz), (fun xo g  o h sz => cM_product_o l D T ad d _ _ _ ih.1 ih.2.1 ih.2.2 xo g  o h sz), (fun xo g  o h sz => cM_sum_o l D T ad d _ _ _ ih.1 ih.2.1 ih.2.2 xo g  o h sz)⟩
def rmM_one : Room := rmR 6 136 22 60
theorem cM_one (l : Launch) (D : va_G) (T : cT) (ad : Nat → Nat) (xo : Sl) (g : St) (o : St) (h : fM_one 60 g = some o) (sz : Nat) : Met l yX12_one wM_one rmM_one (va_Pc [.ref (ad 0)] (wPre shM D T ad xo g sz)) (va_Qv (eqV o xo) (wPost shM D T ad (aW shM T ad xo g sz)) (aW shM T ad xo g sz)) 0 0 (aW shM T ad xo g sz) := (cM_grp_one l D T ad 60).1 xo g o h sz
def rmM_product : Room := rmR 6 136 22 60
theorem cM_product (l : Launch) (D : va_G) (T : cT) (ad : Nat → Nat) (xo : Sl) (g : St) (o : St) (h : fM_product 60 g = some o) (sz : Nat) : Met l yX12_product wM_product rmM_product (va_Pc [.ref (ad 0)] (wPre shM D T ad xo g sz)) (va_Qv (eqV o xo) (wPost shM D T ad (aW shM T ad xo g sz)) (aW shM T ad xo g sz)) 0 0 (aW shM T ad xo g sz) := (cM_grp_one l D T ad 60).2.1 xo g o h sz
def rmM_sum : Room := rmR 6 136 22 60
theorem cM_sum (l : Launch) (D : va_G) (T : cT) (ad : Nat → Nat) (xo : Sl) (g : St) (o : St) (h : fM_sum 60 g = some o) (sz : Nat) : Met l yX12_sum wM_sum rmM_sum (va_Pc [.ref (ad 0)] (wPre shM D T ad xo g sz)) (va_Qv (eqV o xo) (wPost shM D T ad (aW shM T ad xo g sz)) (aW shM T ad xo g sz)) 0 0 (aW shM T ad xo g sz) := (cM_grp_one l D T ad 60).2.2 xo g o h sz
def fM_law_b85 (g : St) : Option (Int32 × St) :=
  if (g 0 5) = 0 then
    ((fM_lays 10 9 (g 0 18) (st (st g 0 3 (-1 : Int32)) 0 17 (g 0 18))).bind fun g122 => (some ((1 : Int32), g122)))
  else
    (lt1 (fM_ends g) fun ⟨r93, g93⟩ => (some (r93, g93)))
def fM_law_b30 (x1 : Int32) (s1 : Int32) (g : St) : Option (Int32 × St) :=
  (fM_bad s1 (1 : Int32) (1 : Int32) g).bind fun ⟨r32, g32⟩ => (if r32 = 0 then
    ((fM_starts x1 g32).bind fun g42 => ((fM_sum 60 (st g42 0 18 (0 : Int32))).bind fun g51 => ((fM_blanks g51).bind fun g55 => (if (g55 0 5) = 0 then
    (if (g55 0 2) ≤ (g55 0 4) then
    (fM_law_b85 g55)
  else
    (lt1 (fM_wrong (1 : Int32) (g55 0 4) g55) fun g82 => (fM_law_b85 g82)))
  else
    (fM_law_b85 g55)))))
  else
    (some ((0 : Int32), g32)))
def fM_law_b25 (x1 : Int32) (g : St) : Option (Int32 × St) :=
  fM_law_b30 x1 (1 : Int32) g
def fM_law (x1 : Int32) (g : St) : Option (Int32 × St) :=
  if (fM_in x1 (0 : Int32) (g 0 1)) = 0 then
    (fM_law_b25 x1 (st g 0 0 (0 : Int32)))
  else
    (if x1 ≤ (150 : Int32) then
    (fM_law_b30 x1 (0 : Int32) (st g 0 0 (0 : Int32)))
  else
    (fM_law_b25 x1 (st g 0 0 (0 : Int32))))
def rmM_law : Room := { frames := 67, cells := 0, slots := 0, locals := 1477 }
abbrev GcM_law (l : Launch) (D : va_G) (T : cT) (ad : Nat → Nat) (Γ : Cxt) (o : Int32 × St) (xo : Sl) (x : Sl) (g : St) (pc : Nat) (lv : List (Nat × Value)) (stk : List Value) : Prop := Gj l shM D T ad 2 (rmM_law) 0 0 Γ (MQ Γ.below (va_Qi (eqI o.1 o.2 xo) (wPost shM D T ad Γ.A) Γ.A) Γ.args Γ.s 0 0 Γ.A) x g pc lv stk
set_option maxRecDepth 100000 in
set_option maxHeartbeats 4000000 in
theorem cM_law (l : Launch) (D : va_G) (T : cT) (ad : Nat → Nat) (xo : Sl) (g : St) (x1 : Int32) (o : Int32 × St) (h : fM_law x1 g = some o) (sz : Nat) : Met l yX12_law wM_law (rmM_law) (va_Pc [.ref (ad 0), .int x1] (wPre shM D T ad xo g sz)) (va_Qi (eqI o.1 o.2 xo) (wPost shM D T ad (aW shM T ad xo g sz)) (aW shM T ad xo g sz)) 0 0 (aW shM T ad xo g sz) := by
  refine g_start (Qc := fun A => va_Qi (eqI o.1 o.2 xo) (wPost shM D T ad A) A) (by decide +kernel) rfl rfl (Nat.le_of_ble_eq_true rfl) (lv := [(0, .ref (ad 0)), (1, .int x1)]) rfl (fun Γ C => ?_)
  show GcM_law l D T ad Γ o xo xo g 0 [(0, .ref (ad 0)), (1, .int x1)] []
  have J85 : ∀ (g : St), fM_law_b85 g = some o → GcM_law l D T ad Γ o xo xo g 85 [(0, .ref (ad 0))] [] := by
    intro g h
    refine g_aload_n C dX12_law_85 rfl 0 rfl ?_
    refine gM_get_fault (v := g 0 5) C rfl dX12_law_86 ?_
    refine g_if_eq C 97 dX12_law_89 (by decide) (fun c89 => ?_) (fun c89 => ?_)
    · have h := iteT c89 h
      refine g_aload_n C dX12_law_97 rfl 0 rfl ?_
      refine g_iconst C dX12_law_98 ic_m1 ?_
      refine gM_put_place C dX12_law_99 ?_
      refine g_aload_n C dX12_law_102 rfl 0 rfl ?_
      refine g_aload_n C dX12_law_103 rfl 0 rfl ?_
      refine gM_get_readLawMany (v := g 0 18) C rfl dX12_law_104 ?_
      refine gM_put_lawMany C dX12_law_107 ?_
      refine g_aload_n C dX12_law_110 rfl 0 rfl ?_
      refine gM_get_readLaw C dX12_law_111 ?_
      refine g_aload_n C dX12_law_114 rfl 0 rfl ?_
      refine gM_get_law C dX12_law_115 ?_
      refine g_aload_n C dX12_law_118 rfl 0 rfl ?_
      refine gM_get_lawMany (v := g 0 18) C rfl dX12_law_119 ?_
      obtain ⟨g122, hr122, h⟩ := bnd h
      refine g_cSv (As := [.ref (ad 10), .ref (ad 9), .int (g 0 18)]) (rest := []) (go := g122) (xo := xo) C (fun sz => cM_lays l D T ad xo (st (st g 0 3 (-1 : Int32)) 0 17 (g 0 18)) 10 9 (g 0 18) _ hr122 sz) kM_lays ⟨Nat.le_of_ble_eq_true rfl, Nat.le_of_ble_eq_true rfl⟩ ⟨rfl, rfl⟩ ⟨Nat.zero_le _, Nat.zero_le _⟩ rfl rfl (Nat.le_of_ble_eq_true rfl) dX12_law_122 ?_
      refine g_iconst C dX12_law_125 ic_1 ?_
      obtain rfl := Option.some.inj h
      exact g_iret C rfl rfl rfl dX12_law_126
    · have h := iteF c89 h
      refine g_aload_n C dX12_law_92 rfl 0 rfl ?_
      obtain ⟨⟨r93, g93⟩, hr93, h⟩ := ltb h
      refine g_cVi (k := 0) (As := []) (rest := []) (ro := r93) (go := g93) (xo := xo) C (fun sz => cM_ends l D T ad xo g _ hr93 sz) kM_ends ⟨Nat.le_of_ble_eq_true rfl, Nat.le_of_ble_eq_true rfl⟩ ⟨rfl, rfl⟩ ⟨Nat.zero_le _, Nat.zero_le _⟩ (rfl : vwCl[11]? = some (RX12, TX12, 48)) kM0 rfl rfl (Nat.le_of_ble_eq_true rfl) dX12_law_93 ?_
      obtain rfl := Option.some.inj h
      exact g_iret C rfl rfl rfl dX12_law_96
  have J30 : ∀ (x1 : Int32) (s1 : Int32) (g : St), fM_law_b30 x1 s1 g = some o → GcM_law l D T ad Γ o xo xo g 30 [(0, .ref (ad 0)), (1, .int x1)] [.int s1, .ref (ad 0)] := by
    intro x1 s1 g h
    refine g_iconst C dX12_law_30 ic_1 ?_
    refine g_iconst C dX12_law_31 ic_1 ?_
    obtain ⟨⟨r32, g32⟩, hr32, h⟩ := bnd h
    refine g_cVz (k := 0) (As := [.int s1, .int (1 : Int32), .int (1 : Int32)]) (rest := []) (ro := r32) (go := g32) (xo := xo) C (fun sz => cM_bad l D T ad xo g s1 (1 : Int32) (1 : Int32) _ hr32 sz) kM_bad ⟨Nat.le_of_ble_eq_true rfl, Nat.le_of_ble_eq_true rfl⟩ ⟨rfl, rfl⟩ ⟨Nat.zero_le _, Nat.zero_le _⟩ (rfl : vwCl[11]? = some (RX12, TX12, 48)) kM0 rfl rfl (Nat.le_of_ble_eq_true rfl) dX12_law_32 (fun hz32 => ?_)
    refine g_if_eq C 40 dX12_law_35 (by decide) (fun c35 => ?_) (fun c35 => ?_)
    · have h := iteT c35 h
      refine g_aload_n C dX12_law_40 rfl 0 rfl ?_
      refine g_iload_n C dX12_law_41 rfl 1 rfl ?_
      obtain ⟨g42, hr42, h⟩ := bnd h
      refine g_cVv (k := 0) (As := [.int x1]) (rest := []) (go := g42) (xo := xo) C (fun sz => cM_starts l D T ad xo g32 x1 _ hr42 sz) kM_starts ⟨Nat.le_of_ble_eq_true rfl, Nat.le_of_ble_eq_true rfl⟩ ⟨rfl, rfl⟩ ⟨Nat.zero_le _, Nat.zero_le _⟩ (rfl : vwCl[11]? = some (RX12, TX12, 48)) kM0 rfl rfl (Nat.le_of_ble_eq_true rfl) dX12_law_42 ?_
      refine g_aload_n C dX12_law_45 rfl 0 rfl ?_
      refine g_iconst C dX12_law_46 ic_0 ?_
      refine gM_put_readLawMany C dX12_law_47 ?_
      refine g_aload_n C dX12_law_50 rfl 0 rfl ?_
      obtain ⟨g51, hr51, h⟩ := bnd h
      refine g_cVv (k := 0) (As := []) (rest := []) (go := g51) (xo := xo) C (fun sz => cM_sum l D T ad xo (st g42 0 18 (0 : Int32)) _ hr51 sz) kM_sum ⟨Nat.le_of_ble_eq_true rfl, Nat.le_of_ble_eq_true rfl⟩ ⟨rfl, rfl⟩ ⟨Nat.zero_le _, Nat.zero_le _⟩ (rfl : vwCl[11]? = some (RX12, TX12, 48)) kM0 rfl rfl (Nat.le_of_ble_eq_true rfl) dX12_law_51 ?_
      refine g_aload_n C dX12_law_54 rfl 0 rfl ?_
      obtain ⟨g55, hr55, h⟩ := bnd h
      refine g_cVv (k := 0) (As := []) (rest := []) (go := g55) (xo := xo) C (fun sz => cM_blanks l D T ad xo g51 _ hr55 sz) kM_blanks ⟨Nat.le_of_ble_eq_true rfl, Nat.le_of_ble_eq_true rfl⟩ ⟨rfl, rfl⟩ ⟨Nat.zero_le _, Nat.zero_le _⟩ (rfl : vwCl[11]? = some (RX12, TX12, 48)) kM0 rfl rfl (Nat.le_of_ble_eq_true rfl) dX12_law_55 ?_
      refine g_aload_n C dX12_law_58 rfl 0 rfl ?_
      refine gM_get_fault (v := g55 0 5) C rfl dX12_law_59 ?_
      refine g_if_ne C 85 dX12_law_62 (by decide) (fun c62 => ?_) (fun c62 => ?_)
      · have h := iteT c62 h
        refine g_aload_n C dX12_law_65 rfl 0 rfl ?_
        refine gM_get_at (v := g55 0 4) C rfl dX12_law_66 ?_
        refine g_aload_n C dX12_law_69 rfl 0 rfl ?_
        refine gM_get_size (v := g55 0 2) C rfl dX12_law_70 ?_
        refine g_icmp_ge C 85 dX12_law_73 (by decide) (fun c73 => ?_) (fun c73 => ?_)
        · have h := iteT c73 h
          exact g_sub [0] rfl (J85 g55 h)
        · have h := iteF c73 h
          refine g_aload_n C dX12_law_76 rfl 0 rfl ?_
          refine g_iconst C dX12_law_77 ic_1 ?_
          refine g_aload_n C dX12_law_78 rfl 0 rfl ?_
          refine gM_get_at (v := g55 0 4) C rfl dX12_law_79 ?_
          obtain ⟨g82, hr82, h⟩ := ltb h
          refine g_cVv (k := 0) (As := [.int (1 : Int32), .int (g55 0 4)]) (rest := []) (go := g82) (xo := xo) C (fun sz => cM_wrong l D T ad xo g55 (1 : Int32) (g55 0 4) _ hr82 sz) kM_wrong ⟨Nat.le_of_ble_eq_true rfl, Nat.le_of_ble_eq_true rfl⟩ ⟨rfl, rfl⟩ ⟨Nat.zero_le _, Nat.zero_le _⟩ (rfl : vwCl[11]? = some (RX12, TX12, 48)) kM0 rfl rfl (Nat.le_of_ble_eq_true rfl) dX12_law_82 ?_
          exact g_sub [0] rfl (J85 g82 h)
      · have h := iteF c62 h
        exact g_sub [0] rfl (J85 g55 h)
    · have h := iteF c35 h
      refine g_iconst C dX12_law_38 ic_0 ?_
      obtain rfl := Option.some.inj h
      exact g_iret C rfl rfl rfl dX12_law_39
  have J25 : ∀ (x1 : Int32) (g : St), fM_law_b25 x1 g = some o → GcM_law l D T ad Γ o xo xo g 25 [(0, .ref (ad 0)), (1, .int x1)] [.ref (ad 0)] := by
    intro x1 g h
    refine g_iconst C dX12_law_25 ic_1 ?_
    refine g_goto (tgt := 30) C dX12_law_26 (by decide) ?_
    exact J30 x1 (1 : Int32) g h
  refine g_aload_n C dX12_law_0 rfl 0 rfl ?_
  refine g_iconst C dX12_law_1 ic_0 ?_
  refine gM_put_thrown C dX12_law_2 ?_
  refine g_aload_n C dX12_law_5 rfl 0 rfl ?_
  refine g_iload_n C dX12_law_6 rfl 1 rfl ?_
  refine g_iconst C dX12_law_7 ic_0 ?_
  refine g_aload_n C dX12_law_8 rfl 0 rfl ?_
  refine gM_get_tape (v := g 0 1) C rfl dX12_law_9 ?_
  refine g_cSz (As := [.int x1, .int (0 : Int32), .int (g 0 1)]) (rest := [.ref (ad 0)]) (ro := (fM_in x1 (0 : Int32) (g 0 1))) (go := (st g 0 0 (0 : Int32))) (xo := xo) C (fun sz => cM_in l D T ad xo (st g 0 0 (0 : Int32)) x1 (0 : Int32) (g 0 1) _ rfl sz) kM_in ⟨Nat.le_of_ble_eq_true rfl, Nat.le_of_ble_eq_true rfl⟩ ⟨rfl, rfl⟩ ⟨Nat.zero_le _, Nat.zero_le _⟩ rfl rfl (Nat.le_of_ble_eq_true rfl) dX12_law_12 (fun hz12 => ?_)
  refine g_if_eq C 25 dX12_law_15 (by decide) (fun c15 => ?_) (fun c15 => ?_)
  · have h := iteT c15 h
    exact J25 x1 (st g 0 0 (0 : Int32)) h
  · have h := iteF c15 h
    refine g_iload_n C dX12_law_18 rfl 1 rfl ?_
    refine g_sipush C dX12_law_19 sp_150 ?_
    refine g_icmp_le C 29 dX12_law_22 (by decide) (fun c22 => ?_) (fun c22 => ?_)
    · have h := iteT c22 h
      refine g_iconst C dX12_law_29 ic_0 ?_
      exact J30 x1 (0 : Int32) (st g 0 0 (0 : Int32)) h
    · have h := iteF c22 h
      exact J25 x1 (st g 0 0 (0 : Int32)) h
def fM_by (x0 : Int32) (x1 : Int32) (x2 : Int32) : Int32 :=
  if x0 = 2 then
    ((x1 + x2))
  else
    (if x0 = 3 then
    ((x1 - x2))
  else
    (if x0 = 4 then
    ((x1 * x2))
  else
    (if x0 = 5 then
    (if x2 = 0 then
    ((0 : Int32))
  else
    (if x2 = (-1 : Int32) then
    ((-x1))
  else
    ((x1 / x2))))
  else
    (if x0 = 6 then
    (if x2 = 0 then
    ((0 : Int32))
  else
    (if x2 = (-1 : Int32) then
    ((0 : Int32))
  else
    ((x1 - x1 / x2 * x2))))
  else
    (if x0 = 7 then
    ((fM_less x1 x2))
  else
    ((fM_more x1 x2)))))))
def rmM_by : Room := { frames := 1, cells := 0, slots := 0, locals := 21 }
abbrev GcM_by (l : Launch) (D : va_G) (T : cT) (ad : Nat → Nat) (Γ : Cxt) (o : Int32) (xo : Sl) (g0 : St) (x : Sl) (g : St) (pc : Nat) (lv : List (Nat × Value)) (stk : List Value) : Prop := Gj l shM D T ad 3 (rmM_by) 0 0 Γ (MQ Γ.below (va_Qi (eqI o g0 xo) (wPost shM D T ad Γ.A) Γ.A) Γ.args Γ.s 0 0 Γ.A) x g pc lv stk
set_option maxRecDepth 100000 in
set_option maxHeartbeats 4000000 in
theorem cM_by (l : Launch) (D : va_G) (T : cT) (ad : Nat → Nat) (xo : Sl) (g : St) (x0 : Int32) (x1 : Int32) (x2 : Int32) (o : Int32) (h : fM_by x0 x1 x2 = o) (sz : Nat) : Met l yX12_by wM_by (rmM_by) (va_Pc [.int x0, .int x1, .int x2] (wPre shM D T ad xo g sz)) (va_Qi (eqI o g xo) (wPost shM D T ad (aW shM T ad xo g sz)) (aW shM T ad xo g sz)) 0 0 (aW shM T ad xo g sz) := by
  refine g_start (Qc := fun A => va_Qi (eqI o g xo) (wPost shM D T ad A) A) (by decide +kernel) rfl rfl (Nat.le_of_ble_eq_true rfl) (lv := [(0, .int x0), (1, .int x1), (2, .int x2)]) rfl (fun Γ C => ?_)
  show GcM_by l D T ad Γ o xo g xo g 0 [(0, .int x0), (1, .int x1), (2, .int x2)] []
  refine g_iload_n C dX12_by_0 rfl 0 rfl ?_
  by_cases c1_2 : x0 = 2
  · have h := iteT c1_2 h
    refine g_tabIn C 2 40 dX12_by_1 c1_2 (by decide) (by decide) rfl (by decide) ?_
    refine g_iload_n C dX12_by_40 rfl 1 rfl ?_
    refine g_iload_n C dX12_by_41 rfl 2 rfl ?_
    refine g_iadd C dX12_by_42 ?_
    subst h
    exact g_iret C rfl rfl rfl dX12_by_43
  have h := iteF c1_2 h
  by_cases c1_3 : x0 = 3
  · have h := iteT c1_3 h
    refine g_tabIn C 3 44 dX12_by_1 c1_3 (by decide) (by decide) rfl (by decide) ?_
    refine g_iload_n C dX12_by_44 rfl 1 rfl ?_
    refine g_iload_n C dX12_by_45 rfl 2 rfl ?_
    refine g_isub C dX12_by_46 ?_
    subst h
    exact g_iret C rfl rfl rfl dX12_by_47
  have h := iteF c1_3 h
  by_cases c1_4 : x0 = 4
  · have h := iteT c1_4 h
    refine g_tabIn C 4 48 dX12_by_1 c1_4 (by decide) (by decide) rfl (by decide) ?_
    refine g_iload_n C dX12_by_48 rfl 1 rfl ?_
    refine g_iload_n C dX12_by_49 rfl 2 rfl ?_
    refine g_imul C dX12_by_50 ?_
    subst h
    exact g_iret C rfl rfl rfl dX12_by_51
  have h := iteF c1_4 h
  by_cases c1_5 : x0 = 5
  · have h := iteT c1_5 h
    refine g_tabIn C 5 52 dX12_by_1 c1_5 (by decide) (by decide) rfl (by decide) ?_
    refine g_iload_n C dX12_by_52 rfl 2 rfl ?_
    refine g_if_ne C 60 dX12_by_53 (by decide) (fun c53 => ?_) (fun c53 => ?_)
    · have h := iteT c53 h
      refine g_iconst C dX12_by_56 ic_0 ?_
      refine g_goto (tgt := 73) C dX12_by_57 (by decide) ?_
      subst h
      exact g_iret C rfl rfl rfl dX12_by_73
    · have h := iteF c53 h
      refine g_iload_n C dX12_by_60 rfl 2 rfl ?_
      refine g_iconst C dX12_by_61 ic_m1 ?_
      refine g_icmp_ne C 70 dX12_by_62 (by decide) (fun c62 => ?_) (fun c62 => ?_)
      · have h := iteT c62 h
        refine g_iload_n C dX12_by_65 rfl 1 rfl ?_
        refine g_ineg C dX12_by_66 ?_
        refine g_goto (tgt := 73) C dX12_by_67 (by decide) ?_
        subst h
        exact g_iret C rfl rfl rfl dX12_by_73
      · have h := iteF c62 h
        refine g_iload_n C dX12_by_70 rfl 1 rfl ?_
        refine g_iload_n C dX12_by_71 rfl 2 rfl ?_
        refine g_idiv C dX12_by_72 c53 ?_
        subst h
        exact g_iret C rfl rfl rfl dX12_by_73
  have h := iteF c1_5 h
  by_cases c1_6 : x0 = 6
  · have h := iteT c1_6 h
    refine g_tabIn C 6 74 dX12_by_1 c1_6 (by decide) (by decide) rfl (by decide) ?_
    refine g_iload_n C dX12_by_74 rfl 2 rfl ?_
    refine g_if_eq C 83 dX12_by_75 (by decide) (fun c75 => ?_) (fun c75 => ?_)
    · have h := iteT c75 h
      refine g_iconst C dX12_by_83 ic_0 ?_
      refine g_goto (tgt := 90) C dX12_by_84 (by decide) ?_
      subst h
      exact g_iret C rfl rfl rfl dX12_by_90
    · have h := iteF c75 h
      refine g_iload_n C dX12_by_78 rfl 2 rfl ?_
      refine g_iconst C dX12_by_79 ic_m1 ?_
      refine g_icmp_ne C 87 dX12_by_80 (by decide) (fun c80 => ?_) (fun c80 => ?_)
      · have h := iteT c80 h
        refine g_iconst C dX12_by_83 ic_0 ?_
        refine g_goto (tgt := 90) C dX12_by_84 (by decide) ?_
        subst h
        exact g_iret C rfl rfl rfl dX12_by_90
      · have h := iteF c80 h
        refine g_iload_n C dX12_by_87 rfl 1 rfl ?_
        refine g_iload_n C dX12_by_88 rfl 2 rfl ?_
        refine g_irem C dX12_by_89 c75 ?_
        subst h
        exact g_iret C rfl rfl rfl dX12_by_90
  have h := iteF c1_6 h
  by_cases c1_7 : x0 = 7
  · have h := iteT c1_7 h
    refine g_tabIn C 7 91 dX12_by_1 c1_7 (by decide) (by decide) rfl (by decide) ?_
    refine g_iload_n C dX12_by_91 rfl 1 rfl ?_
    refine g_iload_n C dX12_by_92 rfl 2 rfl ?_
    refine g_cSi (As := [.int x1, .int x2]) (rest := []) (ro := (fM_less x1 x2)) (go := g) (xo := xo) C (fun sz => cM_less l D T ad xo g x1 x2 _ rfl sz) kM_less ⟨Nat.le_of_ble_eq_true rfl, Nat.le_of_ble_eq_true rfl⟩ ⟨rfl, rfl⟩ ⟨Nat.zero_le _, Nat.zero_le _⟩ rfl rfl (Nat.le_of_ble_eq_true rfl) dX12_by_93 ?_
    subst h
    exact g_iret C rfl rfl rfl dX12_by_96
  have h := iteF c1_7 h
  refine g_tabOut C 97 dX12_by_1 (tab_2_7 _ c1_2 c1_3 c1_4 c1_5 c1_6 c1_7) (by decide) ?_
  refine g_iload_n C dX12_by_97 rfl 1 rfl ?_
  refine g_iload_n C dX12_by_98 rfl 2 rfl ?_
  refine g_cSi (As := [.int x1, .int x2]) (rest := []) (ro := (fM_more x1 x2)) (go := g) (xo := xo) C (fun sz => cM_more l D T ad xo g x1 x2 _ rfl sz) kM_more ⟨Nat.le_of_ble_eq_true rfl, Nat.le_of_ble_eq_true rfl⟩ ⟨rfl, rfl⟩ ⟨Nat.zero_le _, Nat.zero_le _⟩ rfl rfl (Nat.le_of_ble_eq_true rfl) dX12_by_99 ?_
  subst h
  exact g_iret C rfl rfl rfl dX12_by_102
def fM_byLaw_b140 (x1 : Int32) (x2 : Int32) (g : St) : Option ((Int32 × Int32 × St) ⊕ (St)) :=
  some (.inl (x1, (x2 + (1 : Int32)), g))
def fM_byLaw_b97 (x1 : Int32) (x2 : Int32) (s1 : Int32) (s2 : Int32) (g : St) : Option ((Int32 × Int32 × St) ⊕ (St)) :=
  if ¬ (s1 < 0 ∨ 160 ≤ s1.toNatClampNeg) then (fM_byLaw_b140 (x1 + (1 : Int32)) x2 (st g 13 s1.toNatClampNeg s2)) else none
def fM_byLaw_L37 : (Int32 × Int32 × St) → Option ((Int32 × Int32 × St) ⊕ (St)) := fun ⟨x1, x2, g⟩ =>
  if (g 0 17) ≤ x2 then
    (some (.inr g))
  else
    (if ¬ (x2 < 0 ∨ 160 ≤ x2.toNatClampNeg) then (if (2 : Int32) ≤ (g (42 + x2.toNatClampNeg) 0) then
    (if ¬ (((x1 + (-1 : Int32)) - (1 : Int32)) < 0 ∨ 160 ≤ ((x1 + (-1 : Int32)) - (1 : Int32)).toNatClampNeg) then (if ¬ ((x1 + (-1 : Int32)) < 0 ∨ 160 ≤ (x1 + (-1 : Int32)).toNatClampNeg) then (fM_byLaw_b140 (x1 + (-1 : Int32)) x2 (st g 13 (((x1 + (-1 : Int32)) - (1 : Int32)).toNatClampNeg) (fM_by (g (42 + x2.toNatClampNeg) 0) (g 13 (((x1 + (-1 : Int32)) - (1 : Int32)).toNatClampNeg)) (g 13 ((x1 + (-1 : Int32)).toNatClampNeg))))) else none) else none)
  else
    (if (g (42 + x2.toNatClampNeg) 0) = 0 then
    (fM_byLaw_b97 x1 x2 x1 (g (42 + x2.toNatClampNeg) 1) g)
  else
    (if ¬ ((g (42 + x2.toNatClampNeg) 1) < 0 ∨ 8 ≤ (g (42 + x2.toNatClampNeg) 1).toNatClampNeg) then (fM_byLaw_b97 x1 x2 x1 (g 14 ((g (42 + x2.toNatClampNeg) 1).toNatClampNeg)) g) else none))) else none)
def fM_byLaw_b37 (x1 : Int32) (x2 : Int32) (g : St) : Option (Int32 × St) :=
  (lp (fM_byLaw_L37) fuel (x1, x2, g)).bind (fun g => some ((fM_less (99 : Int32) (fM_more (0 : Int32) (g 13 0))), g))
def fM_byLaw (g : St) : Option (Int32 × St) :=
  fM_byLaw_b37 (0 : Int32) (0 : Int32) (st g 13 0 ((((3 : Int32) * (g 14 0)) + ((9 : Int32) * (g 14 3))) - ((5 : Int32) * (g 14 2))))
def rmM_byLaw : Room := { frames := 2, cells := 0, slots := 0, locals := 43 }
abbrev GcM_byLaw (l : Launch) (D : va_G) (T : cT) (ad : Nat → Nat) (Γ : Cxt) (o : Int32 × St) (xo : Sl) (x : Sl) (g : St) (pc : Nat) (lv : List (Nat × Value)) (stk : List Value) : Prop := Gj l shM D T ad 3 (rmM_byLaw) 0 0 Γ (MQ Γ.below (va_Qi (eqI o.1 o.2 xo) (wPost shM D T ad Γ.A) Γ.A) Γ.args Γ.s 0 0 Γ.A) x g pc lv stk
set_option maxRecDepth 100000 in
set_option maxHeartbeats 4000000 in
theorem cM_byLaw (l : Launch) (D : va_G) (T : cT) (ad : Nat → Nat) (xo : Sl) (g : St) (o : Int32 × St) (h : fM_byLaw g = some o) (sz : Nat) : Met l yX12_byLaw wM_byLaw (rmM_byLaw) (va_Pc [.ref (ad 0)] (wPre shM D T ad xo g sz)) (va_Qi (eqI o.1 o.2 xo) (wPost shM D T ad (aW shM T ad xo g sz)) (aW shM T ad xo g sz)) 0 0 (aW shM T ad xo g sz) := by
  refine g_start (Qc := fun A => va_Qi (eqI o.1 o.2 xo) (wPost shM D T ad A) A) (by decide +kernel) rfl rfl (Nat.le_of_ble_eq_true rfl) (lv := [(0, .ref (ad 0))]) rfl (fun Γ C => ?_)
  show GcM_byLaw l D T ad Γ o xo xo g 0 [(0, .ref (ad 0))] []
  have J37 : ∀ (x1 : Int32) (x2 : Int32) (g : St), fM_byLaw_b37 x1 x2 g = some o → GcM_byLaw l D T ad Γ o xo xo g 37 [(0, .ref (ad 0)), (1, .int x1), (2, .int x2)] [] := by
    intro x1 x2 g h
    obtain ⟨g, ht, h⟩ := bnd h
    refine lp_run (P := fun t : Int32 × Int32 × St => match t with | (x1, x2, g) => GcM_byLaw l D T ad Γ o xo xo g 37 [(0, .ref (ad 0)), (1, .int x1), (2, .int x2)] []) (E := fun g : St => GcM_byLaw l D T ad Γ o xo xo g 146 [(0, .ref (ad 0))] []) ?_ _ _ _ ht ?_
    · rintro ⟨x1, x2, g⟩ z h Kt Ke
      show GcM_byLaw l D T ad Γ o xo xo g 37 [(0, .ref (ad 0)), (1, .int x1), (2, .int x2)] []
      have J140 : ∀ (x1 : Int32) (x2 : Int32) (g : St), fM_byLaw_b140 x1 x2 g = some z → GcM_byLaw l D T ad Γ o xo xo g 140 [(0, .ref (ad 0)), (1, .int x1), (2, .int x2)] [] := by
        intro x1 x2 g h
        refine g_iinc (lv' := [(2, .int (x2 + (1 : Int32))), (0, .ref (ad 0)), (1, .int x1)]) C dX12_byLaw_140 2 rfl (ii_1 _) (Nat.le_of_ble_eq_true rfl) rfl ?_
        refine g_goto (tgt := 37) C dX12_byLaw_143 (by decide) ?_
        exact g_sub [1, 2, 0] rfl (Kt _ (Option.some.inj h).symm)
      have J97 : ∀ (x1 : Int32) (x2 : Int32) (s1 : Int32) (s2 : Int32) (g : St), fM_byLaw_b97 x1 x2 s1 s2 g = some z → GcM_byLaw l D T ad Γ o xo xo g 97 [(0, .ref (ad 0)), (1, .int x1), (2, .int x2)] [.int s2, .int s1, .ref (ad 13)] := by
        intro x1 x2 s1 s2 g h
        obtain ⟨hi97, h⟩ := grd h
        refine g_iast (n := 160) (q := s1.toNatClampNeg) C ln_13 hi97 rfl dX12_byLaw_97 ?_
        refine g_iinc (lv' := [(1, .int (x1 + (1 : Int32))), (0, .ref (ad 0)), (2, .int x2)]) C dX12_byLaw_98 1 rfl (ii_1 _) (Nat.le_of_ble_eq_true rfl) rfl ?_
        refine g_goto (tgt := 140) C dX12_byLaw_101 (by decide) ?_
        exact g_sub [1, 0, 2] rfl (J140 (x1 + (1 : Int32)) x2 (st g 13 s1.toNatClampNeg s2) h)
      refine g_iload_n C dX12_byLaw_37 rfl 2 rfl ?_
      refine g_aload_n C dX12_byLaw_38 rfl 0 rfl ?_
      refine gM_get_lawMany (v := g 0 17) C rfl dX12_byLaw_39 ?_
      refine g_icmp_ge C 146 dX12_byLaw_42 (by decide) (fun c42 => ?_) (fun c42 => ?_)
      · have h := iteT c42 h
        exact g_sub [0] rfl (Ke _ (Option.some.inj h).symm)
      · have h := iteF c42 h
        refine g_aload_n C dX12_byLaw_45 rfl 0 rfl ?_
        refine gM_get_law C dX12_byLaw_46 ?_
        refine g_iload_n C dX12_byLaw_49 rfl 2 rfl ?_
        obtain ⟨hi50, h⟩ := grd h
        refine g_aald (n := 160) (q := (42 + x2.toNatClampNeg)) C lg_9 hi50 rfl dX12_byLaw_50 ?_
        refine g_iconst C dX12_byLaw_51 ic_0 ?_
        refine g_iald (n := 2) (v := g (42 + x2.toNatClampNeg) 0) C (lenM_law hi50) (by decide) rfl dX12_byLaw_52 ?_
        refine g_iconst C dX12_byLaw_53 ic_2 ?_
        refine g_icmp_ge C 104 dX12_byLaw_54 (by decide) (fun c54 => ?_) (fun c54 => ?_)
        · have h := iteT c54 h
          refine g_iinc (lv' := [(1, .int (x1 + (-1 : Int32))), (0, .ref (ad 0)), (2, .int x2)]) C dX12_byLaw_104 1 rfl (ii_m1 _) (Nat.le_of_ble_eq_true rfl) rfl ?_
          refine g_aload_n C dX12_byLaw_107 rfl 1 rfl ?_
          refine gM_get_stack C dX12_byLaw_108 ?_
          refine g_iload_n C dX12_byLaw_111 rfl 0 rfl ?_
          refine g_iconst C dX12_byLaw_112 ic_1 ?_
          refine g_isub C dX12_byLaw_113 ?_
          refine g_aload_n C dX12_byLaw_114 rfl 1 rfl ?_
          refine gM_get_law C dX12_byLaw_115 ?_
          refine g_iload_n C dX12_byLaw_118 rfl 2 rfl ?_
          refine g_aald (n := 160) (q := (42 + x2.toNatClampNeg)) C lg_9 hi50 rfl dX12_byLaw_119 ?_
          refine g_iconst C dX12_byLaw_120 ic_0 ?_
          refine g_iald (n := 2) (v := g (42 + x2.toNatClampNeg) 0) C (lenM_law hi50) (by decide) rfl dX12_byLaw_121 ?_
          refine g_aload_n C dX12_byLaw_122 rfl 1 rfl ?_
          refine gM_get_stack C dX12_byLaw_123 ?_
          refine g_iload_n C dX12_byLaw_126 rfl 0 rfl ?_
          refine g_iconst C dX12_byLaw_127 ic_1 ?_
          refine g_isub C dX12_byLaw_128 ?_
          obtain ⟨hi129, h⟩ := grd h
          refine g_iald (n := 160) (v := g 13 (((x1 + (-1 : Int32)) - (1 : Int32)).toNatClampNeg)) C ln_13 hi129 rfl dX12_byLaw_129 ?_
          refine g_aload_n C dX12_byLaw_130 rfl 1 rfl ?_
          refine gM_get_stack C dX12_byLaw_131 ?_
          refine g_iload_n C dX12_byLaw_134 rfl 0 rfl ?_
          obtain ⟨hi135, h⟩ := grd h
          refine g_iald (n := 160) (v := g 13 ((x1 + (-1 : Int32)).toNatClampNeg)) C ln_13 hi135 rfl dX12_byLaw_135 ?_
          refine g_cSi (As := [.int (g (42 + x2.toNatClampNeg) 0), .int (g 13 (((x1 + (-1 : Int32)) - (1 : Int32)).toNatClampNeg)), .int (g 13 ((x1 + (-1 : Int32)).toNatClampNeg))]) (rest := [.int ((x1 + (-1 : Int32)) - (1 : Int32)), .ref (ad 13)]) (ro := (fM_by (g (42 + x2.toNatClampNeg) 0) (g 13 (((x1 + (-1 : Int32)) - (1 : Int32)).toNatClampNeg)) (g 13 ((x1 + (-1 : Int32)).toNatClampNeg)))) (go := g) (xo := xo) C (fun sz => cM_by l D T ad xo g (g (42 + x2.toNatClampNeg) 0) (g 13 (((x1 + (-1 : Int32)) - (1 : Int32)).toNatClampNeg)) (g 13 ((x1 + (-1 : Int32)).toNatClampNeg)) _ rfl sz) kM_by ⟨Nat.le_of_ble_eq_true rfl, Nat.le_of_ble_eq_true rfl⟩ ⟨rfl, rfl⟩ ⟨Nat.zero_le _, Nat.zero_le _⟩ rfl rfl (Nat.le_of_ble_eq_true rfl) dX12_byLaw_136 ?_
          refine g_iast (n := 160) (q := ((x1 + (-1 : Int32)) - (1 : Int32)).toNatClampNeg) C ln_13 hi129 rfl dX12_byLaw_139 ?_
          exact g_sub [1, 0, 2] rfl (J140 (x1 + (-1 : Int32)) x2 (st g 13 (((x1 + (-1 : Int32)) - (1 : Int32)).toNatClampNeg) (fM_by (g (42 + x2.toNatClampNeg) 0) (g 13 (((x1 + (-1 : Int32)) - (1 : Int32)).toNatClampNeg)) (g 13 ((x1 + (-1 : Int32)).toNatClampNeg)))) h)
        · have h := iteF c54 h
          refine g_aload_n C dX12_byLaw_57 rfl 0 rfl ?_
          refine gM_get_stack C dX12_byLaw_58 ?_
          refine g_iload_n C dX12_byLaw_61 rfl 1 rfl ?_
          refine g_aload_n C dX12_byLaw_62 rfl 0 rfl ?_
          refine gM_get_law C dX12_byLaw_63 ?_
          refine g_iload_n C dX12_byLaw_66 rfl 2 rfl ?_
          refine g_aald (n := 160) (q := (42 + x2.toNatClampNeg)) C lg_9 hi50 rfl dX12_byLaw_67 ?_
          refine g_iconst C dX12_byLaw_68 ic_0 ?_
          refine g_iald (n := 2) (v := g (42 + x2.toNatClampNeg) 0) C (lenM_law hi50) (by decide) rfl dX12_byLaw_69 ?_
          refine g_if_ne C 84 dX12_byLaw_70 (by decide) (fun c70 => ?_) (fun c70 => ?_)
          · have h := iteT c70 h
            refine g_aload_n C dX12_byLaw_73 rfl 0 rfl ?_
            refine gM_get_law C dX12_byLaw_74 ?_
            refine g_iload_n C dX12_byLaw_77 rfl 2 rfl ?_
            refine g_aald (n := 160) (q := (42 + x2.toNatClampNeg)) C lg_9 hi50 rfl dX12_byLaw_78 ?_
            refine g_iconst C dX12_byLaw_79 ic_1 ?_
            refine g_iald (n := 2) (v := g (42 + x2.toNatClampNeg) 1) C (lenM_law hi50) (by decide) rfl dX12_byLaw_80 ?_
            refine g_goto (tgt := 97) C dX12_byLaw_81 (by decide) ?_
            exact J97 x1 x2 x1 (g (42 + x2.toNatClampNeg) 1) g h
          · have h := iteF c70 h
            refine g_aload_n C dX12_byLaw_84 rfl 0 rfl ?_
            refine gM_get_known C dX12_byLaw_85 ?_
            refine g_aload_n C dX12_byLaw_88 rfl 0 rfl ?_
            refine gM_get_law C dX12_byLaw_89 ?_
            refine g_iload_n C dX12_byLaw_92 rfl 2 rfl ?_
            refine g_aald (n := 160) (q := (42 + x2.toNatClampNeg)) C lg_9 hi50 rfl dX12_byLaw_93 ?_
            refine g_iconst C dX12_byLaw_94 ic_1 ?_
            refine g_iald (n := 2) (v := g (42 + x2.toNatClampNeg) 1) C (lenM_law hi50) (by decide) rfl dX12_byLaw_95 ?_
            obtain ⟨hi96, h⟩ := grd h
            refine g_iald (n := 8) (v := g 14 ((g (42 + x2.toNatClampNeg) 1).toNatClampNeg)) C ln_14 hi96 rfl dX12_byLaw_96 ?_
            exact J97 x1 x2 x1 (g 14 ((g (42 + x2.toNatClampNeg) 1).toNatClampNeg)) g h
    · show GcM_byLaw l D T ad Γ o xo xo g 146 [(0, .ref (ad 0))] []
      refine g_bipush C dX12_byLaw_146 bp_99 ?_
      refine g_iconst C dX12_byLaw_148 ic_0 ?_
      refine g_aload_n C dX12_byLaw_149 rfl 0 rfl ?_
      refine gM_get_stack C dX12_byLaw_150 ?_
      refine g_iconst C dX12_byLaw_153 ic_0 ?_
      refine g_iald (n := 160) (v := g 13 0) C ln_13 (by decide) rfl dX12_byLaw_154 ?_
      refine g_cSi (As := [.int (0 : Int32), .int (g 13 0)]) (rest := [.int (99 : Int32)]) (ro := (fM_more (0 : Int32) (g 13 0))) (go := g) (xo := xo) C (fun sz => cM_more l D T ad xo g (0 : Int32) (g 13 0) _ rfl sz) kM_more ⟨Nat.le_of_ble_eq_true rfl, Nat.le_of_ble_eq_true rfl⟩ ⟨rfl, rfl⟩ ⟨Nat.zero_le _, Nat.zero_le _⟩ rfl rfl (Nat.le_of_ble_eq_true rfl) dX12_byLaw_155 ?_
      refine g_cSi (As := [.int (99 : Int32), .int (fM_more (0 : Int32) (g 13 0))]) (rest := []) (ro := (fM_less (99 : Int32) (fM_more (0 : Int32) (g 13 0)))) (go := g) (xo := xo) C (fun sz => cM_less l D T ad xo g (99 : Int32) (fM_more (0 : Int32) (g 13 0)) _ rfl sz) kM_less ⟨Nat.le_of_ble_eq_true rfl, Nat.le_of_ble_eq_true rfl⟩ ⟨rfl, rfl⟩ ⟨Nat.zero_le _, Nat.zero_le _⟩ rfl rfl (Nat.le_of_ble_eq_true rfl) dX12_byLaw_158 ?_
      obtain rfl := Option.some.inj h
      exact g_iret C rfl rfl rfl dX12_byLaw_161
  refine g_iconst C dX12_byLaw_0 ic_0 ?_
  refine g_istore_n (lv' := [(1, .int (0 : Int32)), (0, .ref (ad 0))]) C dX12_byLaw_1 rfl (Nat.le_of_ble_eq_true rfl) rfl ?_
  refine g_aload_n C dX12_byLaw_2 rfl 1 rfl ?_
  refine gM_get_stack C dX12_byLaw_3 ?_
  refine g_iconst C dX12_byLaw_6 ic_0 ?_
  refine g_iconst C dX12_byLaw_7 ic_3 ?_
  refine g_aload_n C dX12_byLaw_8 rfl 1 rfl ?_
  refine gM_get_known C dX12_byLaw_9 ?_
  refine g_iconst C dX12_byLaw_12 ic_0 ?_
  refine g_iald (n := 8) (v := g 14 0) C ln_14 (by decide) rfl dX12_byLaw_13 ?_
  refine g_imul C dX12_byLaw_14 ?_
  refine g_bipush C dX12_byLaw_15 bp_9 ?_
  refine g_aload_n C dX12_byLaw_17 rfl 1 rfl ?_
  refine gM_get_known C dX12_byLaw_18 ?_
  refine g_iconst C dX12_byLaw_21 ic_3 ?_
  refine g_iald (n := 8) (v := g 14 3) C ln_14 (by decide) rfl dX12_byLaw_22 ?_
  refine g_imul C dX12_byLaw_23 ?_
  refine g_iadd C dX12_byLaw_24 ?_
  refine g_iconst C dX12_byLaw_25 ic_5 ?_
  refine g_aload_n C dX12_byLaw_26 rfl 1 rfl ?_
  refine gM_get_known C dX12_byLaw_27 ?_
  refine g_iconst C dX12_byLaw_30 ic_2 ?_
  refine g_iald (n := 8) (v := g 14 2) C ln_14 (by decide) rfl dX12_byLaw_31 ?_
  refine g_imul C dX12_byLaw_32 ?_
  refine g_isub C dX12_byLaw_33 ?_
  refine g_iast (n := 160) (q := 0) C ln_13 (by decide) cl_0 dX12_byLaw_34 ?_
  refine g_iconst C dX12_byLaw_35 ic_0 ?_
  refine g_istore_n (lv' := [(2, .int (0 : Int32)), (1, .int (0 : Int32)), (0, .ref (ad 0))]) C dX12_byLaw_36 rfl (Nat.le_of_ble_eq_true rfl) rfl ?_
  exact g_sub [2, 1, 0] rfl (J37 (0 : Int32) (0 : Int32) (st g 13 0 ((((3 : Int32) * (g 14 0)) + ((9 : Int32) * (g 14 3))) - ((5 : Int32) * (g 14 2)))) h)
def fM_stepHere (g : St) : Option (Int32 × St) :=
  (fM_isWord (4 : Int32) (9 : Int32) (5 : Int32) (0 : Int32) (0 : Int32) (0 : Int32) g).bind fun ⟨r8, g8⟩ => (if r8 = 0 then
    ((fM_isWord (12 : Int32) (5 : Int32) (14 : Int32) (4 : Int32) (0 : Int32) (0 : Int32) g8).bind fun ⟨r25, g25⟩ => (if r25 = 0 then
    ((fM_isWord (16 : Int32) (1 : Int32) (25 : Int32) (0 : Int32) (0 : Int32) (0 : Int32) g25).bind fun ⟨r42, g42⟩ => (if r42 = 0 then
    ((fM_isWord (15 : Int32) (23 : Int32) (5 : Int32) (0 : Int32) (0 : Int32) (0 : Int32) g42).bind fun ⟨r59, g59⟩ => (if r59 = 0 then
    ((fM_isWord (25 : Int32) (5 : Int32) (1 : Int32) (18 : Int32) (0 : Int32) (0 : Int32) g59).bind fun ⟨r76, g76⟩ => (if r76 = 0 then
    ((fM_isWord (1 : Int32) (7 : Int32) (1 : Int32) (9 : Int32) (14 : Int32) (0 : Int32) g76).bind fun ⟨r94, g94⟩ => (if r94 = 0 then
    (some ((-1 : Int32), g94))
  else
    (some ((5 : Int32), g94))))
  else
    (some ((4 : Int32), g76))))
  else
    (some ((3 : Int32), g59))))
  else
    (some ((2 : Int32), g42))))
  else
    (some ((1 : Int32), g25))))
  else
    (some ((0 : Int32), g8)))
def rmM_stepHere : Room := { frames := 4, cells := 0, slots := 0, locals := 89 }
abbrev GcM_stepHere (l : Launch) (D : va_G) (T : cT) (ad : Nat → Nat) (Γ : Cxt) (o : Int32 × St) (xo : Sl) (x : Sl) (g : St) (pc : Nat) (lv : List (Nat × Value)) (stk : List Value) : Prop := Gj l shM D T ad 1 (rmM_stepHere) 0 0 Γ (MQ Γ.below (va_Qi (eqI o.1 o.2 xo) (wPost shM D T ad Γ.A) Γ.A) Γ.args Γ.s 0 0 Γ.A) x g pc lv stk
set_option maxRecDepth 100000 in
set_option maxHeartbeats 4000000 in
theorem cM_stepHere (l : Launch) (D : va_G) (T : cT) (ad : Nat → Nat) (xo : Sl) (g : St) (o : Int32 × St) (h : fM_stepHere g = some o) (sz : Nat) : Met l yX12_stepHere wM_stepHere (rmM_stepHere) (va_Pc [.ref (ad 0)] (wPre shM D T ad xo g sz)) (va_Qi (eqI o.1 o.2 xo) (wPost shM D T ad (aW shM T ad xo g sz)) (aW shM T ad xo g sz)) 0 0 (aW shM T ad xo g sz) := by
  refine g_start (Qc := fun A => va_Qi (eqI o.1 o.2 xo) (wPost shM D T ad A) A) (by decide +kernel) rfl rfl (Nat.le_of_ble_eq_true rfl) (lv := [(0, .ref (ad 0))]) rfl (fun Γ C => ?_)
  show GcM_stepHere l D T ad Γ o xo xo g 0 [(0, .ref (ad 0))] []
  refine g_aload_n C dX12_stepHere_0 rfl 0 rfl ?_
  refine g_iconst C dX12_stepHere_1 ic_4 ?_
  refine g_bipush C dX12_stepHere_2 bp_9 ?_
  refine g_iconst C dX12_stepHere_4 ic_5 ?_
  refine g_iconst C dX12_stepHere_5 ic_0 ?_
  refine g_iconst C dX12_stepHere_6 ic_0 ?_
  refine g_iconst C dX12_stepHere_7 ic_0 ?_
  obtain ⟨⟨r8, g8⟩, hr8, h⟩ := bnd h
  refine g_cVz (k := 0) (As := [.int (4 : Int32), .int (9 : Int32), .int (5 : Int32), .int (0 : Int32), .int (0 : Int32), .int (0 : Int32)]) (rest := []) (ro := r8) (go := g8) (xo := xo) C (fun sz => cM_isWord l D T ad xo g (4 : Int32) (9 : Int32) (5 : Int32) (0 : Int32) (0 : Int32) (0 : Int32) _ hr8 sz) kM_isWord ⟨Nat.le_of_ble_eq_true rfl, Nat.le_of_ble_eq_true rfl⟩ ⟨rfl, rfl⟩ ⟨Nat.zero_le _, Nat.zero_le _⟩ (rfl : vwCl[11]? = some (RX12, TX12, 48)) kM0 rfl rfl (Nat.le_of_ble_eq_true rfl) dX12_stepHere_8 (fun hz8 => ?_)
  refine g_if_eq C 16 dX12_stepHere_11 (by decide) (fun c11 => ?_) (fun c11 => ?_)
  · have h := iteT c11 h
    refine g_aload_n C dX12_stepHere_16 rfl 0 rfl ?_
    refine g_bipush C dX12_stepHere_17 bp_12 ?_
    refine g_iconst C dX12_stepHere_19 ic_5 ?_
    refine g_bipush C dX12_stepHere_20 bp_14 ?_
    refine g_iconst C dX12_stepHere_22 ic_4 ?_
    refine g_iconst C dX12_stepHere_23 ic_0 ?_
    refine g_iconst C dX12_stepHere_24 ic_0 ?_
    obtain ⟨⟨r25, g25⟩, hr25, h⟩ := bnd h
    refine g_cVz (k := 0) (As := [.int (12 : Int32), .int (5 : Int32), .int (14 : Int32), .int (4 : Int32), .int (0 : Int32), .int (0 : Int32)]) (rest := []) (ro := r25) (go := g25) (xo := xo) C (fun sz => cM_isWord l D T ad xo g8 (12 : Int32) (5 : Int32) (14 : Int32) (4 : Int32) (0 : Int32) (0 : Int32) _ hr25 sz) kM_isWord ⟨Nat.le_of_ble_eq_true rfl, Nat.le_of_ble_eq_true rfl⟩ ⟨rfl, rfl⟩ ⟨Nat.zero_le _, Nat.zero_le _⟩ (rfl : vwCl[11]? = some (RX12, TX12, 48)) kM0 rfl rfl (Nat.le_of_ble_eq_true rfl) dX12_stepHere_25 (fun hz25 => ?_)
    refine g_if_eq C 33 dX12_stepHere_28 (by decide) (fun c28 => ?_) (fun c28 => ?_)
    · have h := iteT c28 h
      refine g_aload_n C dX12_stepHere_33 rfl 0 rfl ?_
      refine g_bipush C dX12_stepHere_34 bp_16 ?_
      refine g_iconst C dX12_stepHere_36 ic_1 ?_
      refine g_bipush C dX12_stepHere_37 bp_25 ?_
      refine g_iconst C dX12_stepHere_39 ic_0 ?_
      refine g_iconst C dX12_stepHere_40 ic_0 ?_
      refine g_iconst C dX12_stepHere_41 ic_0 ?_
      obtain ⟨⟨r42, g42⟩, hr42, h⟩ := bnd h
      refine g_cVz (k := 0) (As := [.int (16 : Int32), .int (1 : Int32), .int (25 : Int32), .int (0 : Int32), .int (0 : Int32), .int (0 : Int32)]) (rest := []) (ro := r42) (go := g42) (xo := xo) C (fun sz => cM_isWord l D T ad xo g25 (16 : Int32) (1 : Int32) (25 : Int32) (0 : Int32) (0 : Int32) (0 : Int32) _ hr42 sz) kM_isWord ⟨Nat.le_of_ble_eq_true rfl, Nat.le_of_ble_eq_true rfl⟩ ⟨rfl, rfl⟩ ⟨Nat.zero_le _, Nat.zero_le _⟩ (rfl : vwCl[11]? = some (RX12, TX12, 48)) kM0 rfl rfl (Nat.le_of_ble_eq_true rfl) dX12_stepHere_42 (fun hz42 => ?_)
      refine g_if_eq C 50 dX12_stepHere_45 (by decide) (fun c45 => ?_) (fun c45 => ?_)
      · have h := iteT c45 h
        refine g_aload_n C dX12_stepHere_50 rfl 0 rfl ?_
        refine g_bipush C dX12_stepHere_51 bp_15 ?_
        refine g_bipush C dX12_stepHere_53 bp_23 ?_
        refine g_iconst C dX12_stepHere_55 ic_5 ?_
        refine g_iconst C dX12_stepHere_56 ic_0 ?_
        refine g_iconst C dX12_stepHere_57 ic_0 ?_
        refine g_iconst C dX12_stepHere_58 ic_0 ?_
        obtain ⟨⟨r59, g59⟩, hr59, h⟩ := bnd h
        refine g_cVz (k := 0) (As := [.int (15 : Int32), .int (23 : Int32), .int (5 : Int32), .int (0 : Int32), .int (0 : Int32), .int (0 : Int32)]) (rest := []) (ro := r59) (go := g59) (xo := xo) C (fun sz => cM_isWord l D T ad xo g42 (15 : Int32) (23 : Int32) (5 : Int32) (0 : Int32) (0 : Int32) (0 : Int32) _ hr59 sz) kM_isWord ⟨Nat.le_of_ble_eq_true rfl, Nat.le_of_ble_eq_true rfl⟩ ⟨rfl, rfl⟩ ⟨Nat.zero_le _, Nat.zero_le _⟩ (rfl : vwCl[11]? = some (RX12, TX12, 48)) kM0 rfl rfl (Nat.le_of_ble_eq_true rfl) dX12_stepHere_59 (fun hz59 => ?_)
        refine g_if_eq C 67 dX12_stepHere_62 (by decide) (fun c62 => ?_) (fun c62 => ?_)
        · have h := iteT c62 h
          refine g_aload_n C dX12_stepHere_67 rfl 0 rfl ?_
          refine g_bipush C dX12_stepHere_68 bp_25 ?_
          refine g_iconst C dX12_stepHere_70 ic_5 ?_
          refine g_iconst C dX12_stepHere_71 ic_1 ?_
          refine g_bipush C dX12_stepHere_72 bp_18 ?_
          refine g_iconst C dX12_stepHere_74 ic_0 ?_
          refine g_iconst C dX12_stepHere_75 ic_0 ?_
          obtain ⟨⟨r76, g76⟩, hr76, h⟩ := bnd h
          refine g_cVz (k := 0) (As := [.int (25 : Int32), .int (5 : Int32), .int (1 : Int32), .int (18 : Int32), .int (0 : Int32), .int (0 : Int32)]) (rest := []) (ro := r76) (go := g76) (xo := xo) C (fun sz => cM_isWord l D T ad xo g59 (25 : Int32) (5 : Int32) (1 : Int32) (18 : Int32) (0 : Int32) (0 : Int32) _ hr76 sz) kM_isWord ⟨Nat.le_of_ble_eq_true rfl, Nat.le_of_ble_eq_true rfl⟩ ⟨rfl, rfl⟩ ⟨Nat.zero_le _, Nat.zero_le _⟩ (rfl : vwCl[11]? = some (RX12, TX12, 48)) kM0 rfl rfl (Nat.le_of_ble_eq_true rfl) dX12_stepHere_76 (fun hz76 => ?_)
          refine g_if_eq C 84 dX12_stepHere_79 (by decide) (fun c79 => ?_) (fun c79 => ?_)
          · have h := iteT c79 h
            refine g_aload_n C dX12_stepHere_84 rfl 0 rfl ?_
            refine g_iconst C dX12_stepHere_85 ic_1 ?_
            refine g_bipush C dX12_stepHere_86 bp_7 ?_
            refine g_iconst C dX12_stepHere_88 ic_1 ?_
            refine g_bipush C dX12_stepHere_89 bp_9 ?_
            refine g_bipush C dX12_stepHere_91 bp_14 ?_
            refine g_iconst C dX12_stepHere_93 ic_0 ?_
            obtain ⟨⟨r94, g94⟩, hr94, h⟩ := bnd h
            refine g_cVz (k := 0) (As := [.int (1 : Int32), .int (7 : Int32), .int (1 : Int32), .int (9 : Int32), .int (14 : Int32), .int (0 : Int32)]) (rest := []) (ro := r94) (go := g94) (xo := xo) C (fun sz => cM_isWord l D T ad xo g76 (1 : Int32) (7 : Int32) (1 : Int32) (9 : Int32) (14 : Int32) (0 : Int32) _ hr94 sz) kM_isWord ⟨Nat.le_of_ble_eq_true rfl, Nat.le_of_ble_eq_true rfl⟩ ⟨rfl, rfl⟩ ⟨Nat.zero_le _, Nat.zero_le _⟩ (rfl : vwCl[11]? = some (RX12, TX12, 48)) kM0 rfl rfl (Nat.le_of_ble_eq_true rfl) dX12_stepHere_94 (fun hz94 => ?_)
            refine g_if_eq C 104 dX12_stepHere_97 (by decide) (fun c97 => ?_) (fun c97 => ?_)
            · have h := iteT c97 h
              refine g_iconst C dX12_stepHere_104 ic_m1 ?_
              obtain rfl := Option.some.inj h
              exact g_iret C rfl rfl rfl dX12_stepHere_105
            · have h := iteF c97 h
              refine g_iconst C dX12_stepHere_100 ic_5 ?_
              refine g_goto (tgt := 105) C dX12_stepHere_101 (by decide) ?_
              obtain rfl := Option.some.inj h
              exact g_iret C rfl rfl rfl dX12_stepHere_105
          · have h := iteF c79 h
            refine g_iconst C dX12_stepHere_82 ic_4 ?_
            obtain rfl := Option.some.inj h
            exact g_iret C rfl rfl rfl dX12_stepHere_83
        · have h := iteF c62 h
          refine g_iconst C dX12_stepHere_65 ic_3 ?_
          obtain rfl := Option.some.inj h
          exact g_iret C rfl rfl rfl dX12_stepHere_66
      · have h := iteF c45 h
        refine g_iconst C dX12_stepHere_48 ic_2 ?_
        obtain rfl := Option.some.inj h
        exact g_iret C rfl rfl rfl dX12_stepHere_49
    · have h := iteF c28 h
      refine g_iconst C dX12_stepHere_31 ic_1 ?_
      obtain rfl := Option.some.inj h
      exact g_iret C rfl rfl rfl dX12_stepHere_32
  · have h := iteF c11 h
    refine g_iconst C dX12_stepHere_14 ic_0 ?_
    obtain rfl := Option.some.inj h
    exact g_iret C rfl rfl rfl dX12_stepHere_15
def fM_readsStep_b202 (rec_readsStep : St → Option (St)) (x2 : Nat) (g : St) : Option (St) :=
  if ¬ ((3 : Int32) < 0 ∨ (lenW shM x2) ≤ (3 : Int32).toNatClampNeg) then ((fM_sign (59 : Int32) (st g x2 3 (g 0 26))).bind fun g212 => (some g212)) else none
def fM_readsStep_L155 (rec_readsStep : St → Option (St)) (x2 : Nat) : St → Option ((St) ⊕ (St)) := fun g =>
  if (g 0 5) = 0 then
    ((fM_byteAt (g 0 4) g).bind fun r167 => (if r167 = (93 : Int32) then
    (some (.inr g))
  else
    ((rec_readsStep g).bind fun g176 => ((fM_blanks g176).bind fun g180 => (some (.inl g180))))))
  else
    (some (.inr g))
def fM_readsStep_b155 (rec_readsStep : St → Option (St)) (x2 : Nat) (g : St) : Option (St) :=
  (lp (fM_readsStep_L155 rec_readsStep x2) fuel g).bind (fun g => (fM_sign (93 : Int32) g).bind fun g189 => (fM_readsStep_b202 rec_readsStep x2 (st g189 0 8 ((g189 0 8) - (1 : Int32)))))
def fM_readsStep_b130 (rec_readsStep : St → Option (St)) (x1 : Int32) (x2 : Nat) (g : St) : Option (St) :=
  if x1 = (5 : Int32) then
    ((fM_number (0 : Int32) (60 : Int32) g).bind fun ⟨r141, g141⟩ => (if ¬ ((1 : Int32) < 0 ∨ (lenW shM x2) ≤ (1 : Int32).toNatClampNeg) then ((fM_sign (91 : Int32) (st g141 x2 1 r141)).bind fun g148 => ((fM_blanks g148).bind fun g152 => (fM_readsStep_b155 rec_readsStep x2 g152))) else none))
  else
    (fM_readsStep_b202 rec_readsStep x2 g)
def fM_readsStep_b120 (rec_readsStep : St → Option (St)) (x1 : Int32) (x2 : Nat) (g : St) : Option (St) :=
  (fM_number (1 : Int32) (60 : Int32) g).bind fun ⟨r126, g126⟩ => (if ¬ ((2 : Int32) < 0 ∨ (lenW shM x2) ≤ (2 : Int32).toNatClampNeg) then (fM_readsStep_b130 rec_readsStep x1 x2 (st g126 x2 2 r126)) else none)
def fM_readsStep_b110 (rec_readsStep : St → Option (St)) (x1 : Int32) (x2 : Nat) (g : St) : Option (St) :=
  if x1 = (2 : Int32) then
    (fM_readsStep_b120 rec_readsStep x1 x2 g)
  else
    (if x1 = (3 : Int32) then
    (fM_readsStep_b120 rec_readsStep x1 x2 g)
  else
    (fM_readsStep_b130 rec_readsStep x1 x2 g))
def fM_readsStep_b89 (rec_readsStep : St → Option (St)) (x1 : Int32) (x2 : Nat) (g : St) : Option (St) :=
  if x1 = (1 : Int32) then
    ((fM_number (0 : Int32) ((g 4 0) - (1 : Int32)) g).bind fun ⟨r106, g106⟩ => (if ¬ ((2 : Int32) < 0 ∨ (lenW shM x2) ≤ (2 : Int32).toNatClampNeg) then (fM_readsStep_b110 rec_readsStep x1 x2 (st g106 x2 2 r106)) else none))
  else
    (fM_readsStep_b110 rec_readsStep x1 x2 g)
def fM_readsStep_b32 (rec_readsStep : St → Option (St)) (x1 : Int32) (g : St) : Option (St) :=
  if (g 0 5) = 0 then
    ((fM_skipWord g).bind fun g41 => (if ¬ ((g41 0 26) < 0 ∨ 80 ≤ (g41 0 26).toNatClampNeg) then (if (4 : Int32) ≤ x1 then
    (fM_readsStep_b89 rec_readsStep x1 (378 + (g41 0 26).toNatClampNeg) (st (st g41 0 26 ((g41 0 26) + (1 : Int32))) (378 + (g41 0 26).toNatClampNeg) 0 x1))
  else
    ((fM_number (0 : Int32) (((st (st g41 0 26 ((g41 0 26) + (1 : Int32))) (378 + (g41 0 26).toNatClampNeg) 0 x1) 4 0) - (1 : Int32)) (st (st g41 0 26 ((g41 0 26) + (1 : Int32))) (378 + (g41 0 26).toNatClampNeg) 0 x1)).bind fun ⟨r85, g85⟩ => (fM_readsStep_b89 rec_readsStep x1 (378 + (g41 0 26).toNatClampNeg) (st g85 (378 + (g41 0 26).toNatClampNeg) 1 r85)))) else none))
  else
    (some g)
def fM_readsStep_b19 (rec_readsStep : St → Option (St)) (x1 : Int32) (g : St) : Option (St) :=
  if x1 = (5 : Int32) then
    (lt1 (fM_opensOne g) fun ⟨r25, g25⟩ => (if r25 = 0 then
    (some g25)
  else
    (fM_readsStep_b32 rec_readsStep x1 g25)))
  else
    (fM_readsStep_b32 rec_readsStep x1 g)
def fM_readsStep_o (rec_readsStep : St → Option (St)) (g : St) : Option (St) :=
  (fM_stepHere g).bind fun ⟨r1, g1⟩ => (if r1 = (-1 : Int32) then
    (lt1 (fM_wrong (1 : Int32) (g1 0 4) g1) fun g16 => (fM_readsStep_b19 rec_readsStep r1 g16))
  else
    (fM_readsStep_b19 rec_readsStep r1 g1))
abbrev GcM_readsStep (l : Launch) (D : va_G) (T : cT) (ad : Nat → Nat) (Γ : Cxt) (o : St) (xo : Sl) (d : Nat) (x : Sl) (g : St) (pc : Nat) (lv : List (Nat × Value)) (stk : List Value) : Prop := Gj l shM D T ad 3 (rmR 5 109 22 (d + 1)) 0 0 Γ (MQ Γ.below (va_Qv (eqV o xo) (wPost shM D T ad Γ.A) Γ.A) Γ.args Γ.s 0 0 Γ.A) x g pc lv stk
set_option maxRecDepth 100000 in
set_option maxHeartbeats 4000000 in
theorem cM_readsStep_o (l : Launch) (D : va_G) (T : cT) (ad : Nat → Nat) (d : Nat) (rec_readsStep : St → Option (St)) (hrec_readsStep : ∀ (xo : Sl) (g : St) (o : St), rec_readsStep g = some o → ∀ sz : Nat, Met l yX12_readsStep wM_readsStep (rmR 5 109 22 d) (va_Pc [.ref (ad 0)] (wPre shM D T ad xo g sz)) (va_Qv (eqV o xo) (wPost shM D T ad (aW shM T ad xo g sz)) (aW shM T ad xo g sz)) 0 0 (aW shM T ad xo g sz)) (xo : Sl) (g : St) (o : St) (h : fM_readsStep_o rec_readsStep g = some o) (sz : Nat) : Met l yX12_readsStep wM_readsStep (rmR 5 109 22 (d + 1)) (va_Pc [.ref (ad 0)] (wPre shM D T ad xo g sz)) (va_Qv (eqV o xo) (wPost shM D T ad (aW shM T ad xo g sz)) (aW shM T ad xo g sz)) 0 0 (aW shM T ad xo g sz) := by
  refine g_start (Qc := fun A => va_Qv (eqV o xo) (wPost shM D T ad A) A) (by decide +kernel) rfl rfl (Nat.le_of_ble_eq_true rfl) (lv := [(0, .ref (ad 0))]) rfl (fun Γ C => ?_)
  show GcM_readsStep l D T ad Γ o xo d xo g 0 [(0, .ref (ad 0))] []
  have J202 : ∀ (x2 : Nat) (g : St), fM_readsStep_b202 rec_readsStep x2 g = some o → GcM_readsStep l D T ad Γ o xo d xo g 202 [(0, .ref (ad 0)), (2, .ref (ad x2))] [] := by
    intro x2 g h
    refine g_aload_n C dX12_readsStep_202 rfl 1 rfl ?_
    refine g_iconst C dX12_readsStep_203 ic_3 ?_
    refine g_aload_n C dX12_readsStep_204 rfl 0 rfl ?_
    refine gM_get_steps (v := g 0 26) C rfl dX12_readsStep_205 ?_
    obtain ⟨hi208, h⟩ := grd h
    refine g_iast (n := (lenW shM x2)) (q := 3) C rfl hi208 cl_3 dX12_readsStep_208 ?_
    refine g_aload_n C dX12_readsStep_209 rfl 0 rfl ?_
    refine g_bipush C dX12_readsStep_210 bp_59 ?_
    obtain ⟨g212, hr212, h⟩ := bnd h
    refine g_cVv (k := 0) (As := [.int (59 : Int32)]) (rest := []) (go := g212) (xo := xo) C (fun sz => cM_sign l D T ad xo (st g x2 3 (g 0 26)) (59 : Int32) _ hr212 sz) kM_sign (by show 2 + 1 ≤ 5 + (d + 1) ∧ 8 + (2 + 11) + 41 ≤ 109 + 22 * (d + 1); omega) ⟨rfl, rfl⟩ ⟨Nat.zero_le _, Nat.zero_le _⟩ (rfl : vwCl[11]? = some (RX12, TX12, 48)) kM0 rfl rfl (Nat.le_of_ble_eq_true rfl) dX12_readsStep_212 ?_
    obtain rfl := Option.some.inj h
    exact g_vret C rfl rfl dX12_readsStep_215
  have J155 : ∀ (x2 : Nat) (g : St), fM_readsStep_b155 rec_readsStep x2 g = some o → GcM_readsStep l D T ad Γ o xo d xo g 155 [(0, .ref (ad 0)), (2, .ref (ad x2))] [] := by
    intro x2 g h
    obtain ⟨g, ht, h⟩ := bnd h
    refine lp_run (P := fun g : St => GcM_readsStep l D T ad Γ o xo d xo g 155 [(0, .ref (ad 0)), (2, .ref (ad x2))] []) (E := fun g : St => GcM_readsStep l D T ad Γ o xo d xo g 186 [(0, .ref (ad 0)), (2, .ref (ad x2))] []) ?_ _ _ _ ht ?_
    · rintro g z h Kt Ke
      show GcM_readsStep l D T ad Γ o xo d xo g 155 [(0, .ref (ad 0)), (2, .ref (ad x2))] []
      refine g_aload_n C dX12_readsStep_155 rfl 0 rfl ?_
      refine gM_get_fault (v := g 0 5) C rfl dX12_readsStep_156 ?_
      refine g_if_ne C 186 dX12_readsStep_159 (by decide) (fun c159 => ?_) (fun c159 => ?_)
      · have h := iteT c159 h
        refine g_aload_n C dX12_readsStep_162 rfl 0 rfl ?_
        refine g_aload_n C dX12_readsStep_163 rfl 0 rfl ?_
        refine gM_get_at (v := g 0 4) C rfl dX12_readsStep_164 ?_
        obtain ⟨r167, hr167, h⟩ := bnd h
        refine g_cVi (k := 0) (As := [.int (g 0 4)]) (rest := []) (ro := r167) (go := g) (xo := xo) C (fun sz => cM_byteAt l D T ad xo g (g 0 4) _ hr167 sz) kM_byteAt (by show 0 + 1 ≤ 5 + (d + 1) ∧ 8 + (2 + 11) + 0 ≤ 109 + 22 * (d + 1); omega) ⟨rfl, rfl⟩ ⟨Nat.zero_le _, Nat.zero_le _⟩ (rfl : vwCl[11]? = some (RX12, TX12, 48)) kM0 rfl rfl (Nat.le_of_ble_eq_true rfl) dX12_readsStep_167 ?_
        refine g_bipush C dX12_readsStep_170 bp_93 ?_
        refine g_icmp_eq C 186 dX12_readsStep_172 (by decide) (fun c172 => ?_) (fun c172 => ?_)
        · have h := iteT c172 h
          exact g_sub [0, 1] rfl (Ke _ (Option.some.inj h).symm)
        · have h := iteF c172 h
          refine g_aload_n C dX12_readsStep_175 rfl 0 rfl ?_
          obtain ⟨g176, hr176, h⟩ := bnd h
          refine g_cVv (k := 0) (As := []) (rest := []) (go := g176) (xo := xo) C (fun sz => hrec_readsStep xo g _ hr176 sz) kM_readsStep (by show 5 + d + 1 ≤ 5 + (d + 1) ∧ 8 + (3 + 11) + (109 + 22 * d) ≤ 109 + 22 * (d + 1); omega) ⟨rfl, rfl⟩ ⟨Nat.zero_le _, Nat.zero_le _⟩ (rfl : vwCl[11]? = some (RX12, TX12, 48)) kM0 rfl rfl (Nat.le_of_ble_eq_true rfl) dX12_readsStep_176 ?_
          refine g_aload_n C dX12_readsStep_179 rfl 0 rfl ?_
          obtain ⟨g180, hr180, h⟩ := bnd h
          refine g_cVv (k := 0) (As := []) (rest := []) (go := g180) (xo := xo) C (fun sz => cM_blanks l D T ad xo g176 _ hr180 sz) kM_blanks (by show 1 + 1 ≤ 5 + (d + 1) ∧ 8 + (1 + 11) + 21 ≤ 109 + 22 * (d + 1); omega) ⟨rfl, rfl⟩ ⟨Nat.zero_le _, Nat.zero_le _⟩ (rfl : vwCl[11]? = some (RX12, TX12, 48)) kM0 rfl rfl (Nat.le_of_ble_eq_true rfl) dX12_readsStep_180 ?_
          refine g_goto (tgt := 155) C dX12_readsStep_183 (by decide) ?_
          exact g_sub [0, 1] rfl (Kt _ (Option.some.inj h).symm)
      · have h := iteF c159 h
        exact g_sub [0, 1] rfl (Ke _ (Option.some.inj h).symm)
    · show GcM_readsStep l D T ad Γ o xo d xo g 186 [(0, .ref (ad 0)), (2, .ref (ad x2))] []
      refine g_aload_n C dX12_readsStep_186 rfl 0 rfl ?_
      refine g_bipush C dX12_readsStep_187 bp_93 ?_
      obtain ⟨g189, hr189, h⟩ := bnd h
      refine g_cVv (k := 0) (As := [.int (93 : Int32)]) (rest := []) (go := g189) (xo := xo) C (fun sz => cM_sign l D T ad xo g (93 : Int32) _ hr189 sz) kM_sign (by show 2 + 1 ≤ 5 + (d + 1) ∧ 8 + (2 + 11) + 41 ≤ 109 + 22 * (d + 1); omega) ⟨rfl, rfl⟩ ⟨Nat.zero_le _, Nat.zero_le _⟩ (rfl : vwCl[11]? = some (RX12, TX12, 48)) kM0 rfl rfl (Nat.le_of_ble_eq_true rfl) dX12_readsStep_189 ?_
      refine g_aload_n C dX12_readsStep_192 rfl 0 rfl ?_
      refine g_dup C dX12_readsStep_193 rfl ?_
      refine gM_get_open (v := g189 0 8) C rfl dX12_readsStep_194 ?_
      refine g_iconst C dX12_readsStep_197 ic_1 ?_
      refine g_isub C dX12_readsStep_198 ?_
      refine gM_put_open C dX12_readsStep_199 ?_
      exact J202 x2 (st g189 0 8 ((g189 0 8) - (1 : Int32))) h
  have J130 : ∀ (x1 : Int32) (x2 : Nat) (g : St), fM_readsStep_b130 rec_readsStep x1 x2 g = some o → GcM_readsStep l D T ad Γ o xo d xo g 130 [(0, .ref (ad 0)), (1, .int x1), (2, .ref (ad x2))] [] := by
    intro x1 x2 g h
    refine g_iload_n C dX12_readsStep_130 rfl 1 rfl ?_
    refine g_iconst C dX12_readsStep_131 ic_5 ?_
    refine g_icmp_ne C 202 dX12_readsStep_132 (by decide) (fun c132 => ?_) (fun c132 => ?_)
    · have h := iteT c132 h
      refine g_aload_n C dX12_readsStep_135 rfl 2 rfl ?_
      refine g_iconst C dX12_readsStep_136 ic_1 ?_
      refine g_aload_n C dX12_readsStep_137 rfl 0 rfl ?_
      refine g_iconst C dX12_readsStep_138 ic_0 ?_
      refine g_bipush C dX12_readsStep_139 bp_60 ?_
      obtain ⟨⟨r141, g141⟩, hr141, h⟩ := bnd h
      refine g_cVi (k := 0) (As := [.int (0 : Int32), .int (60 : Int32)]) (rest := [.int (1 : Int32), .ref (ad x2)]) (ro := r141) (go := g141) (xo := xo) C (fun sz => cM_number l D T ad xo g (0 : Int32) (60 : Int32) _ hr141 sz) kM_number (by show 2 + 1 ≤ 5 + (d + 1) ∧ 8 + (5 + 11) + 41 ≤ 109 + 22 * (d + 1); omega) ⟨rfl, rfl⟩ ⟨Nat.zero_le _, Nat.zero_le _⟩ (rfl : vwCl[11]? = some (RX12, TX12, 48)) kM0 rfl rfl (Nat.le_of_ble_eq_true rfl) dX12_readsStep_141 ?_
      obtain ⟨hi144, h⟩ := grd h
      refine g_iast (n := (lenW shM x2)) (q := 1) C rfl hi144 cl_1 dX12_readsStep_144 ?_
      refine g_aload_n C dX12_readsStep_145 rfl 0 rfl ?_
      refine g_bipush C dX12_readsStep_146 bp_91 ?_
      obtain ⟨g148, hr148, h⟩ := bnd h
      refine g_cVv (k := 0) (As := [.int (91 : Int32)]) (rest := []) (go := g148) (xo := xo) C (fun sz => cM_sign l D T ad xo (st g141 x2 1 r141) (91 : Int32) _ hr148 sz) kM_sign (by show 2 + 1 ≤ 5 + (d + 1) ∧ 8 + (2 + 11) + 41 ≤ 109 + 22 * (d + 1); omega) ⟨rfl, rfl⟩ ⟨Nat.zero_le _, Nat.zero_le _⟩ (rfl : vwCl[11]? = some (RX12, TX12, 48)) kM0 rfl rfl (Nat.le_of_ble_eq_true rfl) dX12_readsStep_148 ?_
      refine g_aload_n C dX12_readsStep_151 rfl 0 rfl ?_
      obtain ⟨g152, hr152, h⟩ := bnd h
      refine g_cVv (k := 0) (As := []) (rest := []) (go := g152) (xo := xo) C (fun sz => cM_blanks l D T ad xo g148 _ hr152 sz) kM_blanks (by show 1 + 1 ≤ 5 + (d + 1) ∧ 8 + (1 + 11) + 21 ≤ 109 + 22 * (d + 1); omega) ⟨rfl, rfl⟩ ⟨Nat.zero_le _, Nat.zero_le _⟩ (rfl : vwCl[11]? = some (RX12, TX12, 48)) kM0 rfl rfl (Nat.le_of_ble_eq_true rfl) dX12_readsStep_152 ?_
      exact g_sub [0, 2] rfl (J155 x2 g152 h)
    · have h := iteF c132 h
      exact g_sub [0, 2] rfl (J202 x2 g h)
  have J120 : ∀ (x1 : Int32) (x2 : Nat) (g : St), fM_readsStep_b120 rec_readsStep x1 x2 g = some o → GcM_readsStep l D T ad Γ o xo d xo g 120 [(0, .ref (ad 0)), (1, .int x1), (2, .ref (ad x2))] [] := by
    intro x1 x2 g h
    refine g_aload_n C dX12_readsStep_120 rfl 2 rfl ?_
    refine g_iconst C dX12_readsStep_121 ic_2 ?_
    refine g_aload_n C dX12_readsStep_122 rfl 0 rfl ?_
    refine g_iconst C dX12_readsStep_123 ic_1 ?_
    refine g_bipush C dX12_readsStep_124 bp_60 ?_
    obtain ⟨⟨r126, g126⟩, hr126, h⟩ := bnd h
    refine g_cVi (k := 0) (As := [.int (1 : Int32), .int (60 : Int32)]) (rest := [.int (2 : Int32), .ref (ad x2)]) (ro := r126) (go := g126) (xo := xo) C (fun sz => cM_number l D T ad xo g (1 : Int32) (60 : Int32) _ hr126 sz) kM_number (by show 2 + 1 ≤ 5 + (d + 1) ∧ 8 + (5 + 11) + 41 ≤ 109 + 22 * (d + 1); omega) ⟨rfl, rfl⟩ ⟨Nat.zero_le _, Nat.zero_le _⟩ (rfl : vwCl[11]? = some (RX12, TX12, 48)) kM0 rfl rfl (Nat.le_of_ble_eq_true rfl) dX12_readsStep_126 ?_
    obtain ⟨hi129, h⟩ := grd h
    refine g_iast (n := (lenW shM x2)) (q := 2) C rfl hi129 cl_2 dX12_readsStep_129 ?_
    exact J130 x1 x2 (st g126 x2 2 r126) h
  have J110 : ∀ (x1 : Int32) (x2 : Nat) (g : St), fM_readsStep_b110 rec_readsStep x1 x2 g = some o → GcM_readsStep l D T ad Γ o xo d xo g 110 [(0, .ref (ad 0)), (1, .int x1), (2, .ref (ad x2))] [] := by
    intro x1 x2 g h
    refine g_iload_n C dX12_readsStep_110 rfl 1 rfl ?_
    refine g_iconst C dX12_readsStep_111 ic_2 ?_
    refine g_icmp_eq C 120 dX12_readsStep_112 (by decide) (fun c112 => ?_) (fun c112 => ?_)
    · have h := iteT c112 h
      exact J120 x1 x2 g h
    · have h := iteF c112 h
      refine g_iload_n C dX12_readsStep_115 rfl 1 rfl ?_
      refine g_iconst C dX12_readsStep_116 ic_3 ?_
      refine g_icmp_ne C 130 dX12_readsStep_117 (by decide) (fun c117 => ?_) (fun c117 => ?_)
      · have h := iteT c117 h
        exact J120 x1 x2 g h
      · have h := iteF c117 h
        exact J130 x1 x2 g h
  have J89 : ∀ (x1 : Int32) (x2 : Nat) (g : St), fM_readsStep_b89 rec_readsStep x1 x2 g = some o → GcM_readsStep l D T ad Γ o xo d xo g 89 [(0, .ref (ad 0)), (1, .int x1), (2, .ref (ad x2))] [] := by
    intro x1 x2 g h
    refine g_iload_n C dX12_readsStep_89 rfl 1 rfl ?_
    refine g_iconst C dX12_readsStep_90 ic_1 ?_
    refine g_icmp_ne C 110 dX12_readsStep_91 (by decide) (fun c91 => ?_) (fun c91 => ?_)
    · have h := iteT c91 h
      refine g_aload_n C dX12_readsStep_94 rfl 2 rfl ?_
      refine g_iconst C dX12_readsStep_95 ic_2 ?_
      refine g_aload_n C dX12_readsStep_96 rfl 0 rfl ?_
      refine g_iconst C dX12_readsStep_97 ic_0 ?_
      refine g_aload_n C dX12_readsStep_98 rfl 0 rfl ?_
      refine gM_get_told C dX12_readsStep_99 ?_
      refine g_iconst C dX12_readsStep_102 ic_0 ?_
      refine g_iald (n := 2) (v := g 4 0) C ln_4 (by decide) rfl dX12_readsStep_103 ?_
      refine g_iconst C dX12_readsStep_104 ic_1 ?_
      refine g_isub C dX12_readsStep_105 ?_
      obtain ⟨⟨r106, g106⟩, hr106, h⟩ := bnd h
      refine g_cVi (k := 0) (As := [.int (0 : Int32), .int ((g 4 0) - (1 : Int32))]) (rest := [.int (2 : Int32), .ref (ad x2)]) (ro := r106) (go := g106) (xo := xo) C (fun sz => cM_number l D T ad xo g (0 : Int32) ((g 4 0) - (1 : Int32)) _ hr106 sz) kM_number (by show 2 + 1 ≤ 5 + (d + 1) ∧ 8 + (5 + 11) + 41 ≤ 109 + 22 * (d + 1); omega) ⟨rfl, rfl⟩ ⟨Nat.zero_le _, Nat.zero_le _⟩ (rfl : vwCl[11]? = some (RX12, TX12, 48)) kM0 rfl rfl (Nat.le_of_ble_eq_true rfl) dX12_readsStep_106 ?_
      obtain ⟨hi109, h⟩ := grd h
      refine g_iast (n := (lenW shM x2)) (q := 2) C rfl hi109 cl_2 dX12_readsStep_109 ?_
      exact J110 x1 x2 (st g106 x2 2 r106) h
    · have h := iteF c91 h
      exact J110 x1 x2 g h
  have J32 : ∀ (x1 : Int32) (g : St), fM_readsStep_b32 rec_readsStep x1 g = some o → GcM_readsStep l D T ad Γ o xo d xo g 32 [(0, .ref (ad 0)), (1, .int x1)] [] := by
    intro x1 g h
    refine g_aload_n C dX12_readsStep_32 rfl 0 rfl ?_
    refine gM_get_fault (v := g 0 5) C rfl dX12_readsStep_33 ?_
    refine g_if_eq C 40 dX12_readsStep_36 (by decide) (fun c36 => ?_) (fun c36 => ?_)
    · have h := iteT c36 h
      refine g_aload_n C dX12_readsStep_40 rfl 0 rfl ?_
      obtain ⟨g41, hr41, h⟩ := bnd h
      refine g_cVv (k := 0) (As := []) (rest := []) (go := g41) (xo := xo) C (fun sz => cM_skipWord l D T ad xo g _ hr41 sz) kM_skipWord (by show 1 + 1 ≤ 5 + (d + 1) ∧ 8 + (1 + 11) + 21 ≤ 109 + 22 * (d + 1); omega) ⟨rfl, rfl⟩ ⟨Nat.zero_le _, Nat.zero_le _⟩ (rfl : vwCl[11]? = some (RX12, TX12, 48)) kM0 rfl rfl (Nat.le_of_ble_eq_true rfl) dX12_readsStep_41 ?_
      refine g_aload_n C dX12_readsStep_44 rfl 0 rfl ?_
      refine gM_get_step C dX12_readsStep_45 ?_
      refine g_aload_n C dX12_readsStep_48 rfl 0 rfl ?_
      refine gM_get_steps (v := g41 0 26) C rfl dX12_readsStep_49 ?_
      obtain ⟨hi52, h⟩ := grd h
      refine g_aald (n := 80) (q := (378 + (g41 0 26).toNatClampNeg)) C lg_15 hi52 rfl dX12_readsStep_52 ?_
      refine g_astore_n (lv' := [(2, .ref (ad (378 + (g41 0 26).toNatClampNeg))), (0, .ref (ad 0)), (1, .int x1)]) C dX12_readsStep_53 rfl (Nat.le_of_ble_eq_true rfl) rfl ?_
      refine g_aload_n C dX12_readsStep_54 rfl 1 rfl ?_
      refine g_dup C dX12_readsStep_55 rfl ?_
      refine gM_get_steps (v := g41 0 26) C rfl dX12_readsStep_56 ?_
      refine g_iconst C dX12_readsStep_59 ic_1 ?_
      refine g_iadd C dX12_readsStep_60 ?_
      refine gM_put_steps C dX12_readsStep_61 ?_
      refine g_aload_n C dX12_readsStep_64 rfl 0 rfl ?_
      refine g_iconst C dX12_readsStep_65 ic_0 ?_
      refine g_iload_n C dX12_readsStep_66 rfl 2 rfl ?_
      refine g_iast (n := 4) (q := 0) C (lenM_step hi52) (by decide) cl_0 dX12_readsStep_67 ?_
      refine g_iload_n C dX12_readsStep_68 rfl 2 rfl ?_
      refine g_iconst C dX12_readsStep_69 ic_4 ?_
      refine g_icmp_ge C 89 dX12_readsStep_70 (by decide) (fun c70 => ?_) (fun c70 => ?_)
      · have h := iteT c70 h
        exact g_sub [1, 2, 0] rfl (J89 x1 (378 + (g41 0 26).toNatClampNeg) (st (st g41 0 26 ((g41 0 26) + (1 : Int32))) (378 + (g41 0 26).toNatClampNeg) 0 x1) h)
      · have h := iteF c70 h
        refine g_aload_n C dX12_readsStep_73 rfl 0 rfl ?_
        refine g_iconst C dX12_readsStep_74 ic_1 ?_
        refine g_aload_n C dX12_readsStep_75 rfl 1 rfl ?_
        refine g_iconst C dX12_readsStep_76 ic_0 ?_
        refine g_aload_n C dX12_readsStep_77 rfl 1 rfl ?_
        refine gM_get_told C dX12_readsStep_78 ?_
        refine g_iconst C dX12_readsStep_81 ic_0 ?_
        refine g_iald (n := 2) (v := (st (st g41 0 26 ((g41 0 26) + (1 : Int32))) (378 + (g41 0 26).toNatClampNeg) 0 x1) 4 0) C ln_4 (by decide) rfl dX12_readsStep_82 ?_
        refine g_iconst C dX12_readsStep_83 ic_1 ?_
        refine g_isub C dX12_readsStep_84 ?_
        obtain ⟨⟨r85, g85⟩, hr85, h⟩ := bnd h
        refine g_cVi (k := 0) (As := [.int (0 : Int32), .int (((st (st g41 0 26 ((g41 0 26) + (1 : Int32))) (378 + (g41 0 26).toNatClampNeg) 0 x1) 4 0) - (1 : Int32))]) (rest := [.int (1 : Int32), .ref (ad (378 + (g41 0 26).toNatClampNeg))]) (ro := r85) (go := g85) (xo := xo) C (fun sz => cM_number l D T ad xo (st (st g41 0 26 ((g41 0 26) + (1 : Int32))) (378 + (g41 0 26).toNatClampNeg) 0 x1) (0 : Int32) (((st (st g41 0 26 ((g41 0 26) + (1 : Int32))) (378 + (g41 0 26).toNatClampNeg) 0 x1) 4 0) - (1 : Int32)) _ hr85 sz) kM_number (by show 2 + 1 ≤ 5 + (d + 1) ∧ 8 + (5 + 11) + 41 ≤ 109 + 22 * (d + 1); omega) ⟨rfl, rfl⟩ ⟨Nat.zero_le _, Nat.zero_le _⟩ (rfl : vwCl[11]? = some (RX12, TX12, 48)) kM0 rfl rfl (Nat.le_of_ble_eq_true rfl) dX12_readsStep_85 ?_
        refine g_iast (n := 4) (q := 1) C (lenM_step hi52) (by decide) cl_1 dX12_readsStep_88 ?_
        exact g_sub [1, 2, 0] rfl (J89 x1 (378 + (g41 0 26).toNatClampNeg) (st g85 (378 + (g41 0 26).toNatClampNeg) 1 r85) h)
    · have h := iteF c36 h
      obtain rfl := Option.some.inj h
      exact g_vret C rfl rfl dX12_readsStep_39
  have J19 : ∀ (x1 : Int32) (g : St), fM_readsStep_b19 rec_readsStep x1 g = some o → GcM_readsStep l D T ad Γ o xo d xo g 19 [(0, .ref (ad 0)), (1, .int x1)] [] := by
    intro x1 g h
    refine g_iload_n C dX12_readsStep_19 rfl 1 rfl ?_
    refine g_iconst C dX12_readsStep_20 ic_5 ?_
    refine g_icmp_ne C 32 dX12_readsStep_21 (by decide) (fun c21 => ?_) (fun c21 => ?_)
    · have h := iteT c21 h
      refine g_aload_n C dX12_readsStep_24 rfl 0 rfl ?_
      obtain ⟨⟨r25, g25⟩, hr25, h⟩ := ltb h
      refine g_cVz (k := 0) (As := []) (rest := []) (ro := r25) (go := g25) (xo := xo) C (fun sz => cM_opensOne l D T ad xo g _ hr25 sz) kM_opensOne (by show 1 + 1 ≤ 5 + (d + 1) ∧ 8 + (1 + 11) + 22 ≤ 109 + 22 * (d + 1); omega) ⟨rfl, rfl⟩ ⟨Nat.zero_le _, Nat.zero_le _⟩ (rfl : vwCl[11]? = some (RX12, TX12, 48)) kM0 rfl rfl (Nat.le_of_ble_eq_true rfl) dX12_readsStep_25 (fun hz25 => ?_)
      refine g_if_ne C 32 dX12_readsStep_28 (by decide) (fun c28 => ?_) (fun c28 => ?_)
      · have h := iteT c28 h
        obtain rfl := Option.some.inj h
        exact g_vret C rfl rfl dX12_readsStep_31
      · have h := iteF c28 h
        exact J32 x1 g25 h
    · have h := iteF c21 h
      exact J32 x1 g h
  refine g_aload_n C dX12_readsStep_0 rfl 0 rfl ?_
  obtain ⟨⟨r1, g1⟩, hr1, h⟩ := bnd h
  refine g_cVi (k := 0) (As := []) (rest := []) (ro := r1) (go := g1) (xo := xo) C (fun sz => cM_stepHere l D T ad xo g _ hr1 sz) kM_stepHere (by show 4 + 1 ≤ 5 + (d + 1) ∧ 8 + (1 + 11) + 89 ≤ 109 + 22 * (d + 1); omega) ⟨rfl, rfl⟩ ⟨Nat.zero_le _, Nat.zero_le _⟩ (rfl : vwCl[11]? = some (RX12, TX12, 48)) kM0 rfl rfl (Nat.le_of_ble_eq_true rfl) dX12_readsStep_1 ?_
  refine g_istore_n (lv' := [(1, .int r1), (0, .ref (ad 0))]) C dX12_readsStep_4 rfl (Nat.le_of_ble_eq_true rfl) rfl ?_
  refine g_iload_n C dX12_readsStep_5 rfl 0 rfl ?_
  refine g_iconst C dX12_readsStep_6 ic_m1 ?_
  refine g_icmp_ne C 19 dX12_readsStep_7 (by decide) (fun c7 => ?_) (fun c7 => ?_)
  · have h := iteT c7 h
    refine g_aload_n C dX12_readsStep_10 rfl 1 rfl ?_
    refine g_iconst C dX12_readsStep_11 ic_1 ?_
    refine g_aload_n C dX12_readsStep_12 rfl 1 rfl ?_
    refine gM_get_at (v := g1 0 4) C rfl dX12_readsStep_13 ?_
    obtain ⟨g16, hr16, h⟩ := ltb h
    refine g_cVv (k := 0) (As := [.int (1 : Int32), .int (g1 0 4)]) (rest := []) (go := g16) (xo := xo) C (fun sz => cM_wrong l D T ad xo g1 (1 : Int32) (g1 0 4) _ hr16 sz) kM_wrong (by show 0 + 1 ≤ 5 + (d + 1) ∧ 8 + (3 + 11) + 0 ≤ 109 + 22 * (d + 1); omega) ⟨rfl, rfl⟩ ⟨Nat.zero_le _, Nat.zero_le _⟩ (rfl : vwCl[11]? = some (RX12, TX12, 48)) kM0 rfl rfl (Nat.le_of_ble_eq_true rfl) dX12_readsStep_16 ?_
    exact g_sub [1, 0] rfl (J19 r1 g16 h)
  · have h := iteF c7 h
    exact g_sub [1, 0] rfl (J19 r1 g1 h)
def fM_grp_readsStep : Nat → St → Option (St)
  | 0 => fun _ => none
  | d + 1 => fM_readsStep_o (fM_grp_readsStep d)
def fM_readsStep (d : Nat) : St → Option (St) := (fM_grp_readsStep d)
theorem cM_grp_readsStep (l : Launch) (D : va_G) (T : cT) (ad : Nat → Nat) : ∀ d : Nat, (∀ (xo : Sl) (g : St) (o : St), fM_readsStep d g = some o → ∀ sz : Nat, Met l yX12_readsStep wM_readsStep (rmR 5 109 22 d) (va_Pc [.ref (ad 0)] (wPre shM D T ad xo g sz)) (va_Qv (eqV o xo) (wPost shM D T ad (aW shM T ad xo g sz)) (aW shM T ad xo g sz)) 0 0 (aW shM T ad xo g sz)) := by
  intro d
  induction d with
  | zero =>
    exact (fun _ _ _ h => nomatch h)
  | succ d ih =>
    exact (fun xo g  o h sz => cM_readsStep_o l D T ad d _ ih xo g  o h sz)
def rmM_readsStep : Room := rmR 5 109 22 30
theorem cM_readsStep (l : Launch) (D : va_G) (T : cT) (ad : Nat → Nat) (xo : Sl) (g : St) (o : St) (h : fM_readsStep 30 g = some o) (sz : Nat) : Met l yX12_readsStep wM_readsStep rmM_readsStep (va_Pc [.ref (ad 0)] (wPre shM D T ad xo g sz)) (va_Qv (eqV o xo) (wPost shM D T ad (aW shM T ad xo g sz)) (aW shM T ad xo g sz)) 0 0 (aW shM T ad xo g sz) := (cM_grp_readsStep l D T ad 30) xo g o h sz
