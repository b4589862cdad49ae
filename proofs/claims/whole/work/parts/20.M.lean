def fM_tellsNothing_L16 : (Int32 × St) → Option ((Int32 × St) ⊕ (St)) := fun ⟨x1, g⟩ =>
  if (8 : Int32) ≤ x1 then
    (some (.inr g))
  else
    (if ¬ (x1 < 0 ∨ 8 ≤ x1.toNatClampNeg) then (some (.inl ((x1 + (1 : Int32)), (st g 7 x1.toNatClampNeg (0 : Int32))))) else none)
def fM_tellsNothing_b16 (x1 : Int32) (g : St) : Option (St) :=
  (lp (fM_tellsNothing_L16) fuel (x1, g)).bind (fun g => some g)
def fM_tellsNothing (g : St) : Option (St) :=
  fM_tellsNothing_b16 (0 : Int32) (st (st g 3 0 (0 : Int32)) 3 1 (3 : Int32))
def rmM_tellsNothing : Room := { frames := 0, cells := 0, slots := 0, locals := 0 }
abbrev GcM_tellsNothing (l : Launch) (D : va_G) (T : cT) (ad : Nat → Nat) (Γ : Cxt) (o : St) (xo : Sl) (x : Sl) (g : St) (pc : Nat) (lv : List (Nat × Value)) (stk : List Value) : Prop := Gj l shM D T ad 2 (rmM_tellsNothing) 0 0 Γ (MQ Γ.below (va_Qv (eqV o xo) (wPost shM D T ad Γ.A) Γ.A) Γ.args Γ.s 0 0 Γ.A) x g pc lv stk
set_option maxRecDepth 100000 in
set_option maxHeartbeats 4000000 in
theorem cM_tellsNothing (l : Launch) (D : va_G) (T : cT) (ad : Nat → Nat) (xo : Sl) (g : St) (o : St) (h : fM_tellsNothing g = some o) (sz : Nat) : Met l yX12_tellsNothing wM_tellsNothing (rmM_tellsNothing) (va_Pc [.ref (ad 0)] (wPre shM D T ad xo g sz)) (va_Qv (eqV o xo) (wPost shM D T ad (aW shM T ad xo g sz)) (aW shM T ad xo g sz)) 0 0 (aW shM T ad xo g sz) := by
  refine g_start (Qc := fun A => va_Qv (eqV o xo) (wPost shM D T ad A) A) (by decide +kernel) rfl rfl (Nat.le_of_ble_eq_true rfl) (lv := [(0, .ref (ad 0))]) rfl (fun Γ C => ?_)
  show GcM_tellsNothing l D T ad Γ o xo xo g 0 [(0, .ref (ad 0))] []
  have J16 : ∀ (x1 : Int32) (g : St), fM_tellsNothing_b16 x1 g = some o → GcM_tellsNothing l D T ad Γ o xo xo g 16 [(0, .ref (ad 0)), (1, .int x1)] [] := by
    intro x1 g h
    obtain ⟨g, ht, h⟩ := bnd h
    refine lp_run (P := fun t : Int32 × St => match t with | (x1, g) => GcM_tellsNothing l D T ad Γ o xo xo g 16 [(0, .ref (ad 0)), (1, .int x1)] []) (E := fun g : St => GcM_tellsNothing l D T ad Γ o xo xo g 35 [] []) ?_ _ _ _ ht ?_
    · rintro ⟨x1, g⟩ z h Kt Ke
      show GcM_tellsNothing l D T ad Γ o xo xo g 16 [(0, .ref (ad 0)), (1, .int x1)] []
      refine g_iload_n C dX12_tellsNothing_16 rfl 1 rfl ?_
      refine g_bipush C dX12_tellsNothing_17 bp_8 ?_
      refine g_icmp_ge C 35 dX12_tellsNothing_19 (by decide) (fun c19 => ?_) (fun c19 => ?_)
      · have h := iteT c19 h
        exact g_sub [] rfl (Ke _ (Option.some.inj h).symm)
      · have h := iteF c19 h
        refine g_aload_n C dX12_tellsNothing_22 rfl 0 rfl ?_
        refine gM_get_readFriend C dX12_tellsNothing_23 ?_
        refine g_iload_n C dX12_tellsNothing_26 rfl 1 rfl ?_
        refine g_iconst C dX12_tellsNothing_27 ic_0 ?_
        obtain ⟨hi28, h⟩ := grd h
        refine g_iast (n := 8) (q := x1.toNatClampNeg) C ln_7 hi28 rfl dX12_tellsNothing_28 ?_
        refine g_iinc (lv' := [(1, .int (x1 + (1 : Int32))), (0, .ref (ad 0))]) C dX12_tellsNothing_29 1 rfl (ii_1 _) (Nat.le_of_ble_eq_true rfl) rfl ?_
        refine g_goto (tgt := 16) C dX12_tellsNothing_32 (by decide) ?_
        exact g_sub [1, 0] rfl (Kt _ (Option.some.inj h).symm)
    · show GcM_tellsNothing l D T ad Γ o xo xo g 35 [] []
      obtain rfl := Option.some.inj h
      exact g_vret C rfl rfl dX12_tellsNothing_35
  refine g_aload_n C dX12_tellsNothing_0 rfl 0 rfl ?_
  refine gM_get_readTold C dX12_tellsNothing_1 ?_
  refine g_iconst C dX12_tellsNothing_4 ic_0 ?_
  refine g_iconst C dX12_tellsNothing_5 ic_0 ?_
  refine g_iast (n := 2) (q := 0) C ln_3 (by decide) cl_0 dX12_tellsNothing_6 ?_
  refine g_aload_n C dX12_tellsNothing_7 rfl 0 rfl ?_
  refine gM_get_readTold C dX12_tellsNothing_8 ?_
  refine g_iconst C dX12_tellsNothing_11 ic_1 ?_
  refine g_iconst C dX12_tellsNothing_12 ic_3 ?_
  refine g_iast (n := 2) (q := 1) C ln_3 (by decide) cl_1 dX12_tellsNothing_13 ?_
  refine g_iconst C dX12_tellsNothing_14 ic_0 ?_
  refine g_istore_n (lv' := [(1, .int (0 : Int32)), (0, .ref (ad 0))]) C dX12_tellsNothing_15 rfl (Nat.le_of_ble_eq_true rfl) rfl ?_
  exact g_sub [1, 0] rfl (J16 (0 : Int32) (st (st g 3 0 (0 : Int32)) 3 1 (3 : Int32)) h)
def fM_thrown (g : St) : Int32 :=
  (g 0 0)
def rmM_thrown : Room := { frames := 0, cells := 0, slots := 0, locals := 0 }
abbrev GcM_thrown (l : Launch) (D : va_G) (T : cT) (ad : Nat → Nat) (Γ : Cxt) (o : Int32) (xo : Sl) (g0 : St) (x : Sl) (g : St) (pc : Nat) (lv : List (Nat × Value)) (stk : List Value) : Prop := Gj l shM D T ad 1 (rmM_thrown) 0 0 Γ (MQ Γ.below (va_Qi (eqI o g0 xo) (wPost shM D T ad Γ.A) Γ.A) Γ.args Γ.s 0 0 Γ.A) x g pc lv stk
set_option maxRecDepth 100000 in
set_option maxHeartbeats 4000000 in
theorem cM_thrown (l : Launch) (D : va_G) (T : cT) (ad : Nat → Nat) (xo : Sl) (g : St) (o : Int32) (h : fM_thrown g = o) (sz : Nat) : Met l yX12_thrown wM_thrown (rmM_thrown) (va_Pc [.ref (ad 0)] (wPre shM D T ad xo g sz)) (va_Qi (eqI o g xo) (wPost shM D T ad (aW shM T ad xo g sz)) (aW shM T ad xo g sz)) 0 0 (aW shM T ad xo g sz) := by
  refine g_start (Qc := fun A => va_Qi (eqI o g xo) (wPost shM D T ad A) A) (by decide +kernel) rfl rfl (Nat.le_of_ble_eq_true rfl) (lv := [(0, .ref (ad 0))]) rfl (fun Γ C => ?_)
  show GcM_thrown l D T ad Γ o xo g xo g 0 [(0, .ref (ad 0))] []
  refine g_aload_n C dX12_thrown_0 rfl 0 rfl ?_
  refine gM_get_thrown (v := g 0 0) C rfl dX12_thrown_1 ?_
  subst h
  exact g_iret C rfl rfl rfl dX12_thrown_4
def fM_bad_b26 (g : St) : Option (Int32 × St) :=
  if (g 0 0) = 0 then
    (some ((0 : Int32), g))
  else
    (some ((1 : Int32), g))
def fM_bad (x1 : Int32) (x2 : Int32) (x3 : Int32) (g : St) : Option (Int32 × St) :=
  if x1 = 0 then
    (fM_bad_b26 g)
  else
    (if (g 0 0) = 0 then
    (if ¬ (x3 < 0 ∨ 2 ≤ x3.toNatClampNeg) then (fM_bad_b26 (st (st g 0 0 x2) 2 x3.toNatClampNeg ((g 2 x3.toNatClampNeg) + (1 : Int32)))) else none)
  else
    (fM_bad_b26 g))
def rmM_bad : Room := { frames := 0, cells := 0, slots := 0, locals := 0 }
abbrev GcM_bad (l : Launch) (D : va_G) (T : cT) (ad : Nat → Nat) (Γ : Cxt) (o : Int32 × St) (xo : Sl) (x : Sl) (g : St) (pc : Nat) (lv : List (Nat × Value)) (stk : List Value) : Prop := Gj l shM D T ad 4 (rmM_bad) 0 0 Γ (MQ Γ.below (va_Qi (eqZ o.1 o.2 xo) (wPost shM D T ad Γ.A) Γ.A) Γ.args Γ.s 0 0 Γ.A) x g pc lv stk
set_option maxRecDepth 100000 in
set_option maxHeartbeats 4000000 in
theorem cM_bad (l : Launch) (D : va_G) (T : cT) (ad : Nat → Nat) (xo : Sl) (g : St) (x1 : Int32) (x2 : Int32) (x3 : Int32) (o : Int32 × St) (h : fM_bad x1 x2 x3 g = some o) (sz : Nat) : Met l yX12_bad wM_bad (rmM_bad) (va_Pc [.ref (ad 0), .int x1, .int x2, .int x3] (wPre shM D T ad xo g sz)) (va_Qi (eqZ o.1 o.2 xo) (wPost shM D T ad (aW shM T ad xo g sz)) (aW shM T ad xo g sz)) 0 0 (aW shM T ad xo g sz) := by
  refine g_start (Qc := fun A => va_Qi (eqZ o.1 o.2 xo) (wPost shM D T ad A) A) (by decide +kernel) rfl rfl (Nat.le_of_ble_eq_true rfl) (lv := [(0, .ref (ad 0)), (1, .int x1), (2, .int x2), (3, .int x3)]) rfl (fun Γ C => ?_)
  show GcM_bad l D T ad Γ o xo xo g 0 [(0, .ref (ad 0)), (1, .int x1), (2, .int x2), (3, .int x3)] []
  have J26 : ∀ (g : St), fM_bad_b26 g = some o → GcM_bad l D T ad Γ o xo xo g 26 [(0, .ref (ad 0))] [] := by
    intro g h
    refine g_aload_n C dX12_bad_26 rfl 0 rfl ?_
    refine gM_get_thrown (v := g 0 0) C rfl dX12_bad_27 ?_
    refine g_if_eq C 37 dX12_bad_30 (by decide) (fun c30 => ?_) (fun c30 => ?_)
    · have h := iteT c30 h
      refine g_iconst C dX12_bad_37 ic_0 ?_
      obtain rfl := Option.some.inj h
      exact g_zret C rfl rfl rfl rfl dX12_bad_38
    · have h := iteF c30 h
      refine g_iconst C dX12_bad_33 ic_1 ?_
      refine g_goto (tgt := 38) C dX12_bad_34 (by decide) ?_
      obtain rfl := Option.some.inj h
      exact g_zret C rfl rfl rfl rfl dX12_bad_38
  refine g_iload_n C dX12_bad_0 rfl 1 rfl ?_
  refine g_if_eq C 26 dX12_bad_1 (by decide) (fun c1 => ?_) (fun c1 => ?_)
  · have h := iteT c1 h
    exact g_sub [0] rfl (J26 g h)
  · have h := iteF c1 h
    refine g_aload_n C dX12_bad_4 rfl 0 rfl ?_
    refine gM_get_thrown (v := g 0 0) C rfl dX12_bad_5 ?_
    refine g_if_ne C 26 dX12_bad_8 (by decide) (fun c8 => ?_) (fun c8 => ?_)
    · have h := iteT c8 h
      refine g_aload_n C dX12_bad_11 rfl 0 rfl ?_
      refine g_iload_n C dX12_bad_12 rfl 2 rfl ?_
      refine gM_put_thrown C dX12_bad_13 ?_
      refine g_aload_n C dX12_bad_16 rfl 0 rfl ?_
      refine gM_get_refused C dX12_bad_17 ?_
      refine g_iload_n C dX12_bad_20 rfl 3 rfl ?_
      refine g_dup2 C dX12_bad_21 rfl rfl ?_
      obtain ⟨hi22, h⟩ := grd h
      refine g_iald (n := 2) (v := g 2 x3.toNatClampNeg) C ln_2 hi22 rfl dX12_bad_22 ?_
      refine g_iconst C dX12_bad_23 ic_1 ?_
      refine g_iadd C dX12_bad_24 ?_
      refine g_iast (n := 2) (q := x3.toNatClampNeg) C ln_2 hi22 rfl dX12_bad_25 ?_
      exact g_sub [0] rfl (J26 (st (st g 0 0 x2) 2 x3.toNatClampNeg ((g 2 x3.toNatClampNeg) + (1 : Int32))) h)
    · have h := iteF c8 h
      exact g_sub [0] rfl (J26 g h)
def fM_in (x0 : Int32) (x1 : Int32) (x2 : Int32) : Int32 :=
  if x0 < x1 then
    ((0 : Int32))
  else
    (if x2 < x0 then
    ((0 : Int32))
  else
    ((1 : Int32)))
def rmM_in : Room := { frames := 0, cells := 0, slots := 0, locals := 0 }
abbrev GcM_in (l : Launch) (D : va_G) (T : cT) (ad : Nat → Nat) (Γ : Cxt) (o : Int32) (xo : Sl) (g0 : St) (x : Sl) (g : St) (pc : Nat) (lv : List (Nat × Value)) (stk : List Value) : Prop := Gj l shM D T ad 3 (rmM_in) 0 0 Γ (MQ Γ.below (va_Qi (eqZ o g0 xo) (wPost shM D T ad Γ.A) Γ.A) Γ.args Γ.s 0 0 Γ.A) x g pc lv stk
set_option maxRecDepth 100000 in
set_option maxHeartbeats 4000000 in
theorem cM_in (l : Launch) (D : va_G) (T : cT) (ad : Nat → Nat) (xo : Sl) (g : St) (x0 : Int32) (x1 : Int32) (x2 : Int32) (o : Int32) (h : fM_in x0 x1 x2 = o) (sz : Nat) : Met l yX12_in wM_in (rmM_in) (va_Pc [.int x0, .int x1, .int x2] (wPre shM D T ad xo g sz)) (va_Qi (eqZ o g xo) (wPost shM D T ad (aW shM T ad xo g sz)) (aW shM T ad xo g sz)) 0 0 (aW shM T ad xo g sz) := by
  refine g_start (Qc := fun A => va_Qi (eqZ o g xo) (wPost shM D T ad A) A) (by decide +kernel) rfl rfl (Nat.le_of_ble_eq_true rfl) (lv := [(0, .int x0), (1, .int x1), (2, .int x2)]) rfl (fun Γ C => ?_)
  show GcM_in l D T ad Γ o xo g xo g 0 [(0, .int x0), (1, .int x1), (2, .int x2)] []
  refine g_iload_n C dX12_in_0 rfl 0 rfl ?_
  refine g_iload_n C dX12_in_1 rfl 1 rfl ?_
  refine g_icmp_lt C 14 dX12_in_2 (by decide) (fun c2 => ?_) (fun c2 => ?_)
  · have h := iteT c2 h
    refine g_iconst C dX12_in_14 ic_0 ?_
    subst h
    exact g_zret C rfl rfl rfl rfl dX12_in_15
  · have h := iteF c2 h
    refine g_iload_n C dX12_in_5 rfl 0 rfl ?_
    refine g_iload_n C dX12_in_6 rfl 2 rfl ?_
    refine g_icmp_gt C 14 dX12_in_7 (by decide) (fun c7 => ?_) (fun c7 => ?_)
    · have h := iteT c7 h
      refine g_iconst C dX12_in_14 ic_0 ?_
      subst h
      exact g_zret C rfl rfl rfl rfl dX12_in_15
    · have h := iteF c7 h
      refine g_iconst C dX12_in_10 ic_1 ?_
      refine g_goto (tgt := 15) C dX12_in_11 (by decide) ?_
      subst h
      exact g_zret C rfl rfl rfl rfl dX12_in_15
def fM_less (x0 : Int32) (x1 : Int32) : Int32 :=
  if x1 ≤ x0 then
    (x1)
  else
    (x0)
def rmM_less : Room := { frames := 0, cells := 0, slots := 0, locals := 0 }
abbrev GcM_less (l : Launch) (D : va_G) (T : cT) (ad : Nat → Nat) (Γ : Cxt) (o : Int32) (xo : Sl) (g0 : St) (x : Sl) (g : St) (pc : Nat) (lv : List (Nat × Value)) (stk : List Value) : Prop := Gj l shM D T ad 2 (rmM_less) 0 0 Γ (MQ Γ.below (va_Qi (eqI o g0 xo) (wPost shM D T ad Γ.A) Γ.A) Γ.args Γ.s 0 0 Γ.A) x g pc lv stk
set_option maxRecDepth 100000 in
set_option maxHeartbeats 4000000 in
theorem cM_less (l : Launch) (D : va_G) (T : cT) (ad : Nat → Nat) (xo : Sl) (g : St) (x0 : Int32) (x1 : Int32) (o : Int32) (h : fM_less x0 x1 = o) (sz : Nat) : Met l yX12_less wM_less (rmM_less) (va_Pc [.int x0, .int x1] (wPre shM D T ad xo g sz)) (va_Qi (eqI o g xo) (wPost shM D T ad (aW shM T ad xo g sz)) (aW shM T ad xo g sz)) 0 0 (aW shM T ad xo g sz) := by
  refine g_start (Qc := fun A => va_Qi (eqI o g xo) (wPost shM D T ad A) A) (by decide +kernel) rfl rfl (Nat.le_of_ble_eq_true rfl) (lv := [(0, .int x0), (1, .int x1)]) rfl (fun Γ C => ?_)
  show GcM_less l D T ad Γ o xo g xo g 0 [(0, .int x0), (1, .int x1)] []
  refine g_iload_n C dX12_less_0 rfl 0 rfl ?_
  refine g_iload_n C dX12_less_1 rfl 1 rfl ?_
  refine g_icmp_ge C 9 dX12_less_2 (by decide) (fun c2 => ?_) (fun c2 => ?_)
  · have h := iteT c2 h
    refine g_iload_n C dX12_less_9 rfl 1 rfl ?_
    subst h
    exact g_iret C rfl rfl rfl dX12_less_10
  · have h := iteF c2 h
    refine g_iload_n C dX12_less_5 rfl 0 rfl ?_
    refine g_goto (tgt := 10) C dX12_less_6 (by decide) ?_
    subst h
    exact g_iret C rfl rfl rfl dX12_less_10
def fM_more (x0 : Int32) (x1 : Int32) : Int32 :=
  if x0 ≤ x1 then
    (x1)
  else
    (x0)
def rmM_more : Room := { frames := 0, cells := 0, slots := 0, locals := 0 }
abbrev GcM_more (l : Launch) (D : va_G) (T : cT) (ad : Nat → Nat) (Γ : Cxt) (o : Int32) (xo : Sl) (g0 : St) (x : Sl) (g : St) (pc : Nat) (lv : List (Nat × Value)) (stk : List Value) : Prop := Gj l shM D T ad 2 (rmM_more) 0 0 Γ (MQ Γ.below (va_Qi (eqI o g0 xo) (wPost shM D T ad Γ.A) Γ.A) Γ.args Γ.s 0 0 Γ.A) x g pc lv stk
set_option maxRecDepth 100000 in
set_option maxHeartbeats 4000000 in
theorem cM_more (l : Launch) (D : va_G) (T : cT) (ad : Nat → Nat) (xo : Sl) (g : St) (x0 : Int32) (x1 : Int32) (o : Int32) (h : fM_more x0 x1 = o) (sz : Nat) : Met l yX12_more wM_more (rmM_more) (va_Pc [.int x0, .int x1] (wPre shM D T ad xo g sz)) (va_Qi (eqI o g xo) (wPost shM D T ad (aW shM T ad xo g sz)) (aW shM T ad xo g sz)) 0 0 (aW shM T ad xo g sz) := by
  refine g_start (Qc := fun A => va_Qi (eqI o g xo) (wPost shM D T ad A) A) (by decide +kernel) rfl rfl (Nat.le_of_ble_eq_true rfl) (lv := [(0, .int x0), (1, .int x1)]) rfl (fun Γ C => ?_)
  show GcM_more l D T ad Γ o xo g xo g 0 [(0, .int x0), (1, .int x1)] []
  refine g_iload_n C dX12_more_0 rfl 0 rfl ?_
  refine g_iload_n C dX12_more_1 rfl 1 rfl ?_
  refine g_icmp_le C 9 dX12_more_2 (by decide) (fun c2 => ?_) (fun c2 => ?_)
  · have h := iteT c2 h
    refine g_iload_n C dX12_more_9 rfl 1 rfl ?_
    subst h
    exact g_iret C rfl rfl rfl dX12_more_10
  · have h := iteF c2 h
    refine g_iload_n C dX12_more_5 rfl 0 rfl ?_
    refine g_goto (tgt := 10) C dX12_more_6 (by decide) ?_
    subst h
    exact g_iret C rfl rfl rfl dX12_more_10
def fM_has (x0 : Int32) (x1 : Int32) : Int32 :=
  if ((x0 >>> (x1 &&& 31)) &&& (1 : Int32)) = (1 : Int32) then
    ((1 : Int32))
  else
    ((0 : Int32))
def rmM_has : Room := { frames := 0, cells := 0, slots := 0, locals := 0 }
abbrev GcM_has (l : Launch) (D : va_G) (T : cT) (ad : Nat → Nat) (Γ : Cxt) (o : Int32) (xo : Sl) (g0 : St) (x : Sl) (g : St) (pc : Nat) (lv : List (Nat × Value)) (stk : List Value) : Prop := Gj l shM D T ad 2 (rmM_has) 0 0 Γ (MQ Γ.below (va_Qi (eqZ o g0 xo) (wPost shM D T ad Γ.A) Γ.A) Γ.args Γ.s 0 0 Γ.A) x g pc lv stk
set_option maxRecDepth 100000 in
set_option maxHeartbeats 4000000 in
theorem cM_has (l : Launch) (D : va_G) (T : cT) (ad : Nat → Nat) (xo : Sl) (g : St) (x0 : Int32) (x1 : Int32) (o : Int32) (h : fM_has x0 x1 = o) (sz : Nat) : Met l yX12_has wM_has (rmM_has) (va_Pc [.int x0, .int x1] (wPre shM D T ad xo g sz)) (va_Qi (eqZ o g xo) (wPost shM D T ad (aW shM T ad xo g sz)) (aW shM T ad xo g sz)) 0 0 (aW shM T ad xo g sz) := by
  refine g_start (Qc := fun A => va_Qi (eqZ o g xo) (wPost shM D T ad A) A) (by decide +kernel) rfl rfl (Nat.le_of_ble_eq_true rfl) (lv := [(0, .int x0), (1, .int x1)]) rfl (fun Γ C => ?_)
  show GcM_has l D T ad Γ o xo g xo g 0 [(0, .int x0), (1, .int x1)] []
  refine g_iload_n C dX12_has_0 rfl 0 rfl ?_
  refine g_iload_n C dX12_has_1 rfl 1 rfl ?_
  refine g_ishr C dX12_has_2 ?_
  refine g_iconst C dX12_has_3 ic_1 ?_
  refine g_iand C dX12_has_4 ?_
  refine g_iconst C dX12_has_5 ic_1 ?_
  refine g_icmp_ne C 13 dX12_has_6 (by decide) (fun c6 => ?_) (fun c6 => ?_)
  · have h := iteT c6 h
    refine g_iconst C dX12_has_9 ic_1 ?_
    refine g_goto (tgt := 14) C dX12_has_10 (by decide) ?_
    subst h
    exact g_zret C rfl rfl rfl rfl dX12_has_14
  · have h := iteF c6 h
    refine g_iconst C dX12_has_13 ic_0 ?_
    subst h
    exact g_zret C rfl rfl rfl rfl dX12_has_14
def fM_feed_b76 (x1 : Int32) (x2 : Int32) (x3 : Int32) (x4 : Int32) (x5 : Int32) (x6 : Int32) (s0 : Int32) (g : St) : Option ((Int32 × St) ⊕ (St)) :=
  if ¬ ((g 0 1) < 0 ∨ 600 ≤ (g 0 1).toNatClampNeg) then (some (.inl ((x6 + (1 : Int32)), (st (st g 1 ((g 0 1).toNatClampNeg) ((s0 >>> (((24 : Int32) - ((8 : Int32) * (x6 - x6 / (4 : Int32) * (4 : Int32)))) &&& 31)) &&& (255 : Int32))) 0 1 ((g 0 1) + (1 : Int32)))))) else none
def fM_feed_L23 (x1 : Int32) (x2 : Int32) (x3 : Int32) (x4 : Int32) (x5 : Int32) : (Int32 × St) → Option ((Int32 × St) ⊕ (St)) := fun ⟨x6, g⟩ =>
  if (20 : Int32) ≤ x6 then
    (some (.inr g))
  else
    (if (4 : Int32) ≤ x6 then
    (if (8 : Int32) ≤ x6 then
    (if (12 : Int32) ≤ x6 then
    (if (16 : Int32) ≤ x6 then
    (fM_feed_b76 x1 x2 x3 x4 x5 x6 x5 g)
  else
    (fM_feed_b76 x1 x2 x3 x4 x5 x6 x4 g))
  else
    (fM_feed_b76 x1 x2 x3 x4 x5 x6 x3 g))
  else
    (fM_feed_b76 x1 x2 x3 x4 x5 x6 x2 g))
  else
    (fM_feed_b76 x1 x2 x3 x4 x5 x6 x1 g))
def fM_feed_b23 (x1 : Int32) (x2 : Int32) (x3 : Int32) (x4 : Int32) (x5 : Int32) (x6 : Int32) (g : St) : Option (Int32 × St) :=
  (lp (fM_feed_L23 x1 x2 x3 x4 x5) fuel (x6, g)).bind (fun g => some ((g 0 1), g))
def fM_feed (x1 : Int32) (x2 : Int32) (x3 : Int32) (x4 : Int32) (x5 : Int32) (g : St) : Option (Int32 × St) :=
  if ((g 0 1) + (20 : Int32)) ≤ (600 : Int32) then
    (fM_feed_b23 x1 x2 x3 x4 x5 (0 : Int32) (st g 0 0 (0 : Int32)))
  else
    (some ((-1 : Int32), (st g 0 0 (0 : Int32))))
def rmM_feed : Room := { frames := 0, cells := 0, slots := 0, locals := 0 }
abbrev GcM_feed (l : Launch) (D : va_G) (T : cT) (ad : Nat → Nat) (Γ : Cxt) (o : Int32 × St) (xo : Sl) (x : Sl) (g : St) (pc : Nat) (lv : List (Nat × Value)) (stk : List Value) : Prop := Gj l shM D T ad 8 (rmM_feed) 0 0 Γ (MQ Γ.below (va_Qi (eqI o.1 o.2 xo) (wPost shM D T ad Γ.A) Γ.A) Γ.args Γ.s 0 0 Γ.A) x g pc lv stk
set_option maxRecDepth 100000 in
set_option maxHeartbeats 4000000 in
theorem cM_feed (l : Launch) (D : va_G) (T : cT) (ad : Nat → Nat) (xo : Sl) (g : St) (x1 : Int32) (x2 : Int32) (x3 : Int32) (x4 : Int32) (x5 : Int32) (o : Int32 × St) (h : fM_feed x1 x2 x3 x4 x5 g = some o) (sz : Nat) : Met l yX12_feed wM_feed (rmM_feed) (va_Pc [.ref (ad 0), .int x1, .int x2, .int x3, .int x4, .int x5] (wPre shM D T ad xo g sz)) (va_Qi (eqI o.1 o.2 xo) (wPost shM D T ad (aW shM T ad xo g sz)) (aW shM T ad xo g sz)) 0 0 (aW shM T ad xo g sz) := by
  refine g_start (Qc := fun A => va_Qi (eqI o.1 o.2 xo) (wPost shM D T ad A) A) (by decide +kernel) rfl rfl (Nat.le_of_ble_eq_true rfl) (lv := [(0, .ref (ad 0)), (1, .int x1), (2, .int x2), (3, .int x3), (4, .int x4), (5, .int x5)]) rfl (fun Γ C => ?_)
  show GcM_feed l D T ad Γ o xo xo g 0 [(0, .ref (ad 0)), (1, .int x1), (2, .int x2), (3, .int x3), (4, .int x4), (5, .int x5)] []
  have J23 : ∀ (x1 : Int32) (x2 : Int32) (x3 : Int32) (x4 : Int32) (x5 : Int32) (x6 : Int32) (g : St), fM_feed_b23 x1 x2 x3 x4 x5 x6 g = some o → GcM_feed l D T ad Γ o xo xo g 23 [(0, .ref (ad 0)), (1, .int x1), (2, .int x2), (3, .int x3), (4, .int x4), (5, .int x5), (6, .int x6)] [] := by
    intro x1 x2 x3 x4 x5 x6 g h
    obtain ⟨g, ht, h⟩ := bnd h
    refine lp_run (P := fun t : Int32 × St => match t with | (x6, g) => GcM_feed l D T ad Γ o xo xo g 23 [(0, .ref (ad 0)), (1, .int x1), (2, .int x2), (3, .int x3), (4, .int x4), (5, .int x5), (6, .int x6)] []) (E := fun g : St => GcM_feed l D T ad Γ o xo xo g 120 [(0, .ref (ad 0))] []) ?_ _ _ _ ht ?_
    · rintro ⟨x6, g⟩ z h Kt Ke
      show GcM_feed l D T ad Γ o xo xo g 23 [(0, .ref (ad 0)), (1, .int x1), (2, .int x2), (3, .int x3), (4, .int x4), (5, .int x5), (6, .int x6)] []
      have J76 : ∀ (x6 : Int32) (s0 : Int32) (g : St), fM_feed_b76 x1 x2 x3 x4 x5 x6 s0 g = some z → GcM_feed l D T ad Γ o xo xo g 76 [(0, .ref (ad 0)), (1, .int x1), (2, .int x2), (3, .int x3), (4, .int x4), (5, .int x5), (6, .int x6)] [.int s0] := by
        intro x6 s0 g h
        refine g_istore (lv' := [(7, .int s0), (0, .ref (ad 0)), (1, .int x1), (2, .int x2), (3, .int x3), (4, .int x4), (5, .int x5), (6, .int x6)]) C dX12_feed_76 (Nat.le_of_ble_eq_true rfl) rfl ?_
        refine g_aload_n C dX12_feed_78 rfl 1 rfl ?_
        refine gM_get_fed C dX12_feed_79 ?_
        refine g_aload_n C dX12_feed_82 rfl 1 rfl ?_
        refine gM_get_tape (v := g 0 1) C rfl dX12_feed_83 ?_
        refine g_iload C dX12_feed_86 0 rfl ?_
        refine g_bipush C dX12_feed_88 bp_24 ?_
        refine g_bipush C dX12_feed_90 bp_8 ?_
        refine g_iload C dX12_feed_92 7 rfl ?_
        refine g_iconst C dX12_feed_94 ic_4 ?_
        refine g_irem C dX12_feed_95 (by decide) ?_
        refine g_imul C dX12_feed_96 ?_
        refine g_isub C dX12_feed_97 ?_
        refine g_ishr C dX12_feed_98 ?_
        refine g_sipush C dX12_feed_99 sp_255 ?_
        refine g_iand C dX12_feed_102 ?_
        obtain ⟨hi103, h⟩ := grd h
        refine g_iast (n := 600) (q := (g 0 1).toNatClampNeg) C ln_1 hi103 rfl dX12_feed_103 ?_
        refine g_aload_n C dX12_feed_104 rfl 1 rfl ?_
        refine g_dup C dX12_feed_105 rfl ?_
        refine gM_get_tape (v := g 0 1) C rfl dX12_feed_106 ?_
        refine g_iconst C dX12_feed_109 ic_1 ?_
        refine g_iadd C dX12_feed_110 ?_
        refine gM_put_tape C dX12_feed_111 ?_
        refine g_iinc (lv' := [(6, .int (x6 + (1 : Int32))), (7, .int s0), (0, .ref (ad 0)), (1, .int x1), (2, .int x2), (3, .int x3), (4, .int x4), (5, .int x5)]) C dX12_feed_114 7 rfl (ii_1 _) (Nat.le_of_ble_eq_true rfl) rfl ?_
        refine g_goto (tgt := 23) C dX12_feed_117 (by decide) ?_
        exact g_sub [2, 3, 4, 5, 6, 7, 0] rfl (Kt _ (Option.some.inj h).symm)
      refine g_iload C dX12_feed_23 6 rfl ?_
      refine g_bipush C dX12_feed_25 bp_20 ?_
      refine g_icmp_ge C 120 dX12_feed_27 (by decide) (fun c27 => ?_) (fun c27 => ?_)
      · have h := iteT c27 h
        exact g_sub [0] rfl (Ke _ (Option.some.inj h).symm)
      · have h := iteF c27 h
        refine g_iload C dX12_feed_30 6 rfl ?_
        refine g_iconst C dX12_feed_32 ic_4 ?_
        refine g_icmp_ge C 40 dX12_feed_33 (by decide) (fun c33 => ?_) (fun c33 => ?_)
        · have h := iteT c33 h
          refine g_iload C dX12_feed_40 6 rfl ?_
          refine g_bipush C dX12_feed_42 bp_8 ?_
          refine g_icmp_ge C 51 dX12_feed_44 (by decide) (fun c44 => ?_) (fun c44 => ?_)
          · have h := iteT c44 h
            refine g_iload C dX12_feed_51 6 rfl ?_
            refine g_bipush C dX12_feed_53 bp_12 ?_
            refine g_icmp_ge C 62 dX12_feed_55 (by decide) (fun c55 => ?_) (fun c55 => ?_)
            · have h := iteT c55 h
              refine g_iload C dX12_feed_62 6 rfl ?_
              refine g_bipush C dX12_feed_64 bp_16 ?_
              refine g_icmp_ge C 74 dX12_feed_66 (by decide) (fun c66 => ?_) (fun c66 => ?_)
              · have h := iteT c66 h
                refine g_iload C dX12_feed_74 5 rfl ?_
                exact J76 x6 x5 g h
              · have h := iteF c66 h
                refine g_iload C dX12_feed_69 4 rfl ?_
                refine g_goto (tgt := 76) C dX12_feed_71 (by decide) ?_
                exact J76 x6 x4 g h
            · have h := iteF c55 h
              refine g_iload_n C dX12_feed_58 rfl 3 rfl ?_
              refine g_goto (tgt := 76) C dX12_feed_59 (by decide) ?_
              exact J76 x6 x3 g h
          · have h := iteF c44 h
            refine g_iload_n C dX12_feed_47 rfl 2 rfl ?_
            refine g_goto (tgt := 76) C dX12_feed_48 (by decide) ?_
            exact J76 x6 x2 g h
        · have h := iteF c33 h
          refine g_iload_n C dX12_feed_36 rfl 1 rfl ?_
          refine g_goto (tgt := 76) C dX12_feed_37 (by decide) ?_
          exact J76 x6 x1 g h
    · show GcM_feed l D T ad Γ o xo xo g 120 [(0, .ref (ad 0))] []
      refine g_aload_n C dX12_feed_120 rfl 0 rfl ?_
      refine gM_get_tape (v := g 0 1) C rfl dX12_feed_121 ?_
      obtain rfl := Option.some.inj h
      exact g_iret C rfl rfl rfl dX12_feed_124
  refine g_aload_n C dX12_feed_0 rfl 0 rfl ?_
  refine g_iconst C dX12_feed_1 ic_0 ?_
  refine gM_put_thrown C dX12_feed_2 ?_
  refine g_aload_n C dX12_feed_5 rfl 0 rfl ?_
  refine gM_get_tape (v := g 0 1) C rfl dX12_feed_6 ?_
  refine g_bipush C dX12_feed_9 bp_20 ?_
  refine g_iadd C dX12_feed_11 ?_
  refine g_sipush C dX12_feed_12 sp_600 ?_
  refine g_icmp_le C 20 dX12_feed_15 (by decide) (fun c15 => ?_) (fun c15 => ?_)
  · have h := iteT c15 h
    refine g_iconst C dX12_feed_20 ic_0 ?_
    refine g_istore (lv' := [(6, .int (0 : Int32)), (0, .ref (ad 0)), (1, .int x1), (2, .int x2), (3, .int x3), (4, .int x4), (5, .int x5)]) C dX12_feed_21 (Nat.le_of_ble_eq_true rfl) rfl ?_
    exact g_sub [1, 2, 3, 4, 5, 6, 0] rfl (J23 x1 x2 x3 x4 x5 (0 : Int32) (st g 0 0 (0 : Int32)) h)
  · have h := iteF c15 h
    refine g_iconst C dX12_feed_18 ic_m1 ?_
    obtain rfl := Option.some.inj h
    exact g_iret C rfl rfl rfl dX12_feed_19
def fM_byteAt (x1 : Int32) (g : St) : Option (Int32) :=
  if x1 < (g 0 2) then
    (if ¬ (x1 < 0 ∨ 600 ≤ x1.toNatClampNeg) then (some (g 1 x1.toNatClampNeg)) else none)
  else
    (some (-1 : Int32))
def rmM_byteAt : Room := { frames := 0, cells := 0, slots := 0, locals := 0 }
abbrev GcM_byteAt (l : Launch) (D : va_G) (T : cT) (ad : Nat → Nat) (Γ : Cxt) (o : Int32) (xo : Sl) (g0 : St) (x : Sl) (g : St) (pc : Nat) (lv : List (Nat × Value)) (stk : List Value) : Prop := Gj l shM D T ad 2 (rmM_byteAt) 0 0 Γ (MQ Γ.below (va_Qi (eqI o g0 xo) (wPost shM D T ad Γ.A) Γ.A) Γ.args Γ.s 0 0 Γ.A) x g pc lv stk
set_option maxRecDepth 100000 in
set_option maxHeartbeats 4000000 in
theorem cM_byteAt (l : Launch) (D : va_G) (T : cT) (ad : Nat → Nat) (xo : Sl) (g : St) (x1 : Int32) (o : Int32) (h : fM_byteAt x1 g = some o) (sz : Nat) : Met l yX12_byteAt wM_byteAt (rmM_byteAt) (va_Pc [.ref (ad 0), .int x1] (wPre shM D T ad xo g sz)) (va_Qi (eqI o g xo) (wPost shM D T ad (aW shM T ad xo g sz)) (aW shM T ad xo g sz)) 0 0 (aW shM T ad xo g sz) := by
  refine g_start (Qc := fun A => va_Qi (eqI o g xo) (wPost shM D T ad A) A) (by decide +kernel) rfl rfl (Nat.le_of_ble_eq_true rfl) (lv := [(0, .ref (ad 0)), (1, .int x1)]) rfl (fun Γ C => ?_)
  show GcM_byteAt l D T ad Γ o xo g xo g 0 [(0, .ref (ad 0)), (1, .int x1)] []
  refine g_iload_n C dX12_byteAt_0 rfl 1 rfl ?_
  refine g_aload_n C dX12_byteAt_1 rfl 0 rfl ?_
  refine gM_get_size (v := g 0 2) C rfl dX12_byteAt_2 ?_
  refine g_icmp_lt C 12 dX12_byteAt_5 (by decide) (fun c5 => ?_) (fun c5 => ?_)
  · have h := iteT c5 h
    refine g_aload_n C dX12_byteAt_12 rfl 0 rfl ?_
    refine gM_get_fed C dX12_byteAt_13 ?_
    refine g_iload_n C dX12_byteAt_16 rfl 1 rfl ?_
    obtain ⟨hi17, h⟩ := grd h
    refine g_iald (n := 600) (v := g 1 x1.toNatClampNeg) C ln_1 hi17 rfl dX12_byteAt_17 ?_
    obtain rfl := Option.some.inj h
    exact g_iret C rfl rfl rfl dX12_byteAt_18
  · have h := iteF c5 h
    refine g_iconst C dX12_byteAt_8 ic_m1 ?_
    refine g_goto (tgt := 18) C dX12_byteAt_9 (by decide) ?_
    obtain rfl := Option.some.inj h
    exact g_iret C rfl rfl rfl dX12_byteAt_18
def fM_blanks_L0 : St → Option ((St) ⊕ (St)) := fun g =>
  (fM_byteAt (g 0 4) g).bind fun r5 => (if r5 = (32 : Int32) then
    (some (.inl (st g 0 4 ((g 0 4) + (1 : Int32)))))
  else
    (some (.inr g)))
def fM_blanks_b0 (g : St) : Option (St) :=
  (lp (fM_blanks_L0) fuel g).bind (fun g => some g)
def fM_blanks (g : St) : Option (St) :=
  fM_blanks_b0 g
def rmM_blanks : Room := { frames := 1, cells := 0, slots := 0, locals := 21 }
abbrev GcM_blanks (l : Launch) (D : va_G) (T : cT) (ad : Nat → Nat) (Γ : Cxt) (o : St) (xo : Sl) (x : Sl) (g : St) (pc : Nat) (lv : List (Nat × Value)) (stk : List Value) : Prop := Gj l shM D T ad 1 (rmM_blanks) 0 0 Γ (MQ Γ.below (va_Qv (eqV o xo) (wPost shM D T ad Γ.A) Γ.A) Γ.args Γ.s 0 0 Γ.A) x g pc lv stk
set_option maxRecDepth 100000 in
set_option maxHeartbeats 4000000 in
theorem cM_blanks (l : Launch) (D : va_G) (T : cT) (ad : Nat → Nat) (xo : Sl) (g : St) (o : St) (h : fM_blanks g = some o) (sz : Nat) : Met l yX12_blanks wM_blanks (rmM_blanks) (va_Pc [.ref (ad 0)] (wPre shM D T ad xo g sz)) (va_Qv (eqV o xo) (wPost shM D T ad (aW shM T ad xo g sz)) (aW shM T ad xo g sz)) 0 0 (aW shM T ad xo g sz) := by
  refine g_start (Qc := fun A => va_Qv (eqV o xo) (wPost shM D T ad A) A) (by decide +kernel) rfl rfl (Nat.le_of_ble_eq_true rfl) (lv := [(0, .ref (ad 0))]) rfl (fun Γ C => ?_)
  show GcM_blanks l D T ad Γ o xo xo g 0 [(0, .ref (ad 0))] []
  have J0 : ∀ (g : St), fM_blanks_b0 g = some o → GcM_blanks l D T ad Γ o xo xo g 0 [(0, .ref (ad 0))] [] := by
    intro g h
    obtain ⟨g, ht, h⟩ := bnd h
    refine lp_run (P := fun g : St => GcM_blanks l D T ad Γ o xo xo g 0 [(0, .ref (ad 0))] []) (E := fun g : St => GcM_blanks l D T ad Γ o xo xo g 26 [] []) ?_ _ _ _ ht ?_
    · rintro g z h Kt Ke
      show GcM_blanks l D T ad Γ o xo xo g 0 [(0, .ref (ad 0))] []
      refine g_aload_n C dX12_blanks_0 rfl 0 rfl ?_
      refine g_aload_n C dX12_blanks_1 rfl 0 rfl ?_
      refine gM_get_at (v := g 0 4) C rfl dX12_blanks_2 ?_
      obtain ⟨r5, hr5, h⟩ := bnd h
      refine g_cVi (k := 0) (As := [.int (g 0 4)]) (rest := []) (ro := r5) (go := g) (xo := xo) C (fun sz => cM_byteAt l D T ad xo g (g 0 4) _ hr5 sz) kM_byteAt ⟨Nat.le_of_ble_eq_true rfl, Nat.le_of_ble_eq_true rfl⟩ ⟨rfl, rfl⟩ ⟨Nat.zero_le _, Nat.zero_le _⟩ (rfl : vwCl[11]? = some (RX12, TX12, 48)) kM0 rfl rfl (Nat.le_of_ble_eq_true rfl) dX12_blanks_5 ?_
      refine g_bipush C dX12_blanks_8 bp_32 ?_
      refine g_icmp_ne C 26 dX12_blanks_10 (by decide) (fun c10 => ?_) (fun c10 => ?_)
      · have h := iteT c10 h
        refine g_aload_n C dX12_blanks_13 rfl 0 rfl ?_
        refine g_dup C dX12_blanks_14 rfl ?_
        refine gM_get_at (v := g 0 4) C rfl dX12_blanks_15 ?_
        refine g_iconst C dX12_blanks_18 ic_1 ?_
        refine g_iadd C dX12_blanks_19 ?_
        refine gM_put_at C dX12_blanks_20 ?_
        refine g_goto (tgt := 0) C dX12_blanks_23 (by decide) ?_
        exact g_sub [0] rfl (Kt _ (Option.some.inj h).symm)
      · have h := iteF c10 h
        exact g_sub [] rfl (Ke _ (Option.some.inj h).symm)
    · show GcM_blanks l D T ad Γ o xo xo g 26 [] []
      obtain rfl := Option.some.inj h
      exact g_vret C rfl rfl dX12_blanks_26
  exact J0 g h
def fM_wrong (x1 : Int32) (x2 : Int32) (g : St) : St :=
  if (g 0 5) = 0 then
    ((st (st g 0 5 x1) 0 6 x2))
  else
    (g)
def rmM_wrong : Room := { frames := 0, cells := 0, slots := 0, locals := 0 }
abbrev GcM_wrong (l : Launch) (D : va_G) (T : cT) (ad : Nat → Nat) (Γ : Cxt) (o : St) (xo : Sl) (x : Sl) (g : St) (pc : Nat) (lv : List (Nat × Value)) (stk : List Value) : Prop := Gj l shM D T ad 3 (rmM_wrong) 0 0 Γ (MQ Γ.below (va_Qv (eqV o xo) (wPost shM D T ad Γ.A) Γ.A) Γ.args Γ.s 0 0 Γ.A) x g pc lv stk
set_option maxRecDepth 100000 in
set_option maxHeartbeats 4000000 in
theorem cM_wrong (l : Launch) (D : va_G) (T : cT) (ad : Nat → Nat) (xo : Sl) (g : St) (x1 : Int32) (x2 : Int32) (o : St) (h : fM_wrong x1 x2 g = o) (sz : Nat) : Met l yX12_wrong wM_wrong (rmM_wrong) (va_Pc [.ref (ad 0), .int x1, .int x2] (wPre shM D T ad xo g sz)) (va_Qv (eqV o xo) (wPost shM D T ad (aW shM T ad xo g sz)) (aW shM T ad xo g sz)) 0 0 (aW shM T ad xo g sz) := by
  refine g_start (Qc := fun A => va_Qv (eqV o xo) (wPost shM D T ad A) A) (by decide +kernel) rfl rfl (Nat.le_of_ble_eq_true rfl) (lv := [(0, .ref (ad 0)), (1, .int x1), (2, .int x2)]) rfl (fun Γ C => ?_)
  show GcM_wrong l D T ad Γ o xo xo g 0 [(0, .ref (ad 0)), (1, .int x1), (2, .int x2)] []
  refine g_aload_n C dX12_wrong_0 rfl 0 rfl ?_
  refine gM_get_fault (v := g 0 5) C rfl dX12_wrong_1 ?_
  refine g_if_ne C 17 dX12_wrong_4 (by decide) (fun c4 => ?_) (fun c4 => ?_)
  · have h := iteT c4 h
    refine g_aload_n C dX12_wrong_7 rfl 0 rfl ?_
    refine g_iload_n C dX12_wrong_8 rfl 1 rfl ?_
    refine gM_put_fault C dX12_wrong_9 ?_
    refine g_aload_n C dX12_wrong_12 rfl 0 rfl ?_
    refine g_iload_n C dX12_wrong_13 rfl 2 rfl ?_
    refine gM_put_faultAt C dX12_wrong_14 ?_
    subst h
    exact g_vret C rfl rfl dX12_wrong_17
  · have h := iteF c4 h
    subst h
    exact g_vret C rfl rfl dX12_wrong_17
def fM_isDigit (x0 : Int32) : Int32 :=
  if x0 < (48 : Int32) then
    ((0 : Int32))
  else
    (if (57 : Int32) < x0 then
    ((0 : Int32))
  else
    ((1 : Int32)))
def rmM_isDigit : Room := { frames := 0, cells := 0, slots := 0, locals := 0 }
abbrev GcM_isDigit (l : Launch) (D : va_G) (T : cT) (ad : Nat → Nat) (Γ : Cxt) (o : Int32) (xo : Sl) (g0 : St) (x : Sl) (g : St) (pc : Nat) (lv : List (Nat × Value)) (stk : List Value) : Prop := Gj l shM D T ad 1 (rmM_isDigit) 0 0 Γ (MQ Γ.below (va_Qi (eqZ o g0 xo) (wPost shM D T ad Γ.A) Γ.A) Γ.args Γ.s 0 0 Γ.A) x g pc lv stk
set_option maxRecDepth 100000 in
set_option maxHeartbeats 4000000 in
theorem cM_isDigit (l : Launch) (D : va_G) (T : cT) (ad : Nat → Nat) (xo : Sl) (g : St) (x0 : Int32) (o : Int32) (h : fM_isDigit x0 = o) (sz : Nat) : Met l yX12_isDigit wM_isDigit (rmM_isDigit) (va_Pc [.int x0] (wPre shM D T ad xo g sz)) (va_Qi (eqZ o g xo) (wPost shM D T ad (aW shM T ad xo g sz)) (aW shM T ad xo g sz)) 0 0 (aW shM T ad xo g sz) := by
  refine g_start (Qc := fun A => va_Qi (eqZ o g xo) (wPost shM D T ad A) A) (by decide +kernel) rfl rfl (Nat.le_of_ble_eq_true rfl) (lv := [(0, .int x0)]) rfl (fun Γ C => ?_)
  show GcM_isDigit l D T ad Γ o xo g xo g 0 [(0, .int x0)] []
  refine g_iload_n C dX12_isDigit_0 rfl 0 rfl ?_
  refine g_bipush C dX12_isDigit_1 bp_48 ?_
  refine g_icmp_lt C 16 dX12_isDigit_3 (by decide) (fun c3 => ?_) (fun c3 => ?_)
  · have h := iteT c3 h
    refine g_iconst C dX12_isDigit_16 ic_0 ?_
    subst h
    exact g_zret C rfl rfl rfl rfl dX12_isDigit_17
  · have h := iteF c3 h
    refine g_iload_n C dX12_isDigit_6 rfl 0 rfl ?_
    refine g_bipush C dX12_isDigit_7 bp_57 ?_
    refine g_icmp_gt C 16 dX12_isDigit_9 (by decide) (fun c9 => ?_) (fun c9 => ?_)
    · have h := iteT c9 h
      refine g_iconst C dX12_isDigit_16 ic_0 ?_
      subst h
      exact g_zret C rfl rfl rfl rfl dX12_isDigit_17
    · have h := iteF c9 h
      refine g_iconst C dX12_isDigit_12 ic_1 ?_
      refine g_goto (tgt := 17) C dX12_isDigit_13 (by decide) ?_
      subst h
      exact g_zret C rfl rfl rfl rfl dX12_isDigit_17
def fM_isSmall (x0 : Int32) : Int32 :=
  if x0 < (97 : Int32) then
    ((0 : Int32))
  else
    (if (122 : Int32) < x0 then
    ((0 : Int32))
  else
    ((1 : Int32)))
def rmM_isSmall : Room := { frames := 0, cells := 0, slots := 0, locals := 0 }
abbrev GcM_isSmall (l : Launch) (D : va_G) (T : cT) (ad : Nat → Nat) (Γ : Cxt) (o : Int32) (xo : Sl) (g0 : St) (x : Sl) (g : St) (pc : Nat) (lv : List (Nat × Value)) (stk : List Value) : Prop := Gj l shM D T ad 1 (rmM_isSmall) 0 0 Γ (MQ Γ.below (va_Qi (eqZ o g0 xo) (wPost shM D T ad Γ.A) Γ.A) Γ.args Γ.s 0 0 Γ.A) x g pc lv stk
set_option maxRecDepth 100000 in
set_option maxHeartbeats 4000000 in
theorem cM_isSmall (l : Launch) (D : va_G) (T : cT) (ad : Nat → Nat) (xo : Sl) (g : St) (x0 : Int32) (o : Int32) (h : fM_isSmall x0 = o) (sz : Nat) : Met l yX12_isSmall wM_isSmall (rmM_isSmall) (va_Pc [.int x0] (wPre shM D T ad xo g sz)) (va_Qi (eqZ o g xo) (wPost shM D T ad (aW shM T ad xo g sz)) (aW shM T ad xo g sz)) 0 0 (aW shM T ad xo g sz) := by
  refine g_start (Qc := fun A => va_Qi (eqZ o g xo) (wPost shM D T ad A) A) (by decide +kernel) rfl rfl (Nat.le_of_ble_eq_true rfl) (lv := [(0, .int x0)]) rfl (fun Γ C => ?_)
  show GcM_isSmall l D T ad Γ o xo g xo g 0 [(0, .int x0)] []
  refine g_iload_n C dX12_isSmall_0 rfl 0 rfl ?_
  refine g_bipush C dX12_isSmall_1 bp_97 ?_
  refine g_icmp_lt C 16 dX12_isSmall_3 (by decide) (fun c3 => ?_) (fun c3 => ?_)
  · have h := iteT c3 h
    refine g_iconst C dX12_isSmall_16 ic_0 ?_
    subst h
    exact g_zret C rfl rfl rfl rfl dX12_isSmall_17
  · have h := iteF c3 h
    refine g_iload_n C dX12_isSmall_6 rfl 0 rfl ?_
    refine g_bipush C dX12_isSmall_7 bp_122 ?_
    refine g_icmp_gt C 16 dX12_isSmall_9 (by decide) (fun c9 => ?_) (fun c9 => ?_)
    · have h := iteT c9 h
      refine g_iconst C dX12_isSmall_16 ic_0 ?_
      subst h
      exact g_zret C rfl rfl rfl rfl dX12_isSmall_17
    · have h := iteF c9 h
      refine g_iconst C dX12_isSmall_12 ic_1 ?_
      refine g_goto (tgt := 17) C dX12_isSmall_13 (by decide) ?_
      subst h
      exact g_zret C rfl rfl rfl rfl dX12_isSmall_17
def fM_number_b122 (x4 : Int32) (g : St) : Option (Int32 × St) :=
  if (g 0 5) = 0 then
    (some (x4, g))
  else
    (some ((0 : Int32), g))
def fM_number_b91 (x1 : Int32) (x2 : Int32) (x3 : Int32) (s0 : Int32) (g : St) : Option ((Int32 × St) ⊕ ((Int32 × St))) :=
  some (.inl (s0, (st g 0 4 ((g 0 4) + (1 : Int32)))))
def fM_number_L44 (x1 : Int32) (x2 : Int32) (x3 : Int32) : (Int32 × St) → Option ((Int32 × St) ⊕ ((Int32 × St))) := fun ⟨x4, g⟩ =>
  (fM_byteAt (g 0 4) g).bind fun r49 => (if (fM_isDigit r49) = 0 then
    (some (.inr (x4, g)))
  else
    ((fM_byteAt (g 0 4) g).bind fun r68 => (if ((((10 : Int32) * x4) + r68) - (48 : Int32)) ≤ (100000 : Int32) then
    (fM_number_b91 x1 x2 x3 ((((10 : Int32) * x4) + r68) - (48 : Int32)) g)
  else
    (fM_number_b91 x1 x2 x3 (100000 : Int32) g))))
def fM_number_b44 (x1 : Int32) (x2 : Int32) (x3 : Int32) (x4 : Int32) (g : St) : Option (Int32 × St) :=
  (lp (fM_number_L44 x1 x2 x3) fuel (x4, g)).bind (fun ⟨x4, g⟩ => if (fM_in x4 x1 x2) = 0 then
    (lt1 (fM_wrong (2 : Int32) x3 g) fun g119 => (fM_number_b122 x4 g119))
  else
    (fM_number_b122 x4 g))
def fM_number (x1 : Int32) (x2 : Int32) (g : St) : Option (Int32 × St) :=
  if (g 0 5) = 0 then
    ((fM_blanks g).bind fun g10 => ((fM_byteAt (g10 0 4) g10).bind fun r26 => (if (fM_isDigit r26) = 0 then
    (lt1 (fM_wrong (1 : Int32) (g10 0 4) g10) fun g41 => (fM_number_b44 x1 x2 (g10 0 4) (0 : Int32) g41))
  else
    (fM_number_b44 x1 x2 (g10 0 4) (0 : Int32) g10))))
  else
    (some ((0 : Int32), g))
def rmM_number : Room := { frames := 2, cells := 0, slots := 0, locals := 41 }
abbrev GcM_number (l : Launch) (D : va_G) (T : cT) (ad : Nat → Nat) (Γ : Cxt) (o : Int32 × St) (xo : Sl) (x : Sl) (g : St) (pc : Nat) (lv : List (Nat × Value)) (stk : List Value) : Prop := Gj l shM D T ad 5 (rmM_number) 0 0 Γ (MQ Γ.below (va_Qi (eqI o.1 o.2 xo) (wPost shM D T ad Γ.A) Γ.A) Γ.args Γ.s 0 0 Γ.A) x g pc lv stk
set_option maxRecDepth 100000 in
set_option maxHeartbeats 4000000 in
theorem cM_number (l : Launch) (D : va_G) (T : cT) (ad : Nat → Nat) (xo : Sl) (g : St) (x1 : Int32) (x2 : Int32) (o : Int32 × St) (h : fM_number x1 x2 g = some o) (sz : Nat) : Met l yX12_number wM_number (rmM_number) (va_Pc [.ref (ad 0), .int x1, .int x2] (wPre shM D T ad xo g sz)) (va_Qi (eqI o.1 o.2 xo) (wPost shM D T ad (aW shM T ad xo g sz)) (aW shM T ad xo g sz)) 0 0 (aW shM T ad xo g sz) := by
  refine g_start (Qc := fun A => va_Qi (eqI o.1 o.2 xo) (wPost shM D T ad A) A) (by decide +kernel) rfl rfl (Nat.le_of_ble_eq_true rfl) (lv := [(0, .ref (ad 0)), (1, .int x1), (2, .int x2)]) rfl (fun Γ C => ?_)
  show GcM_number l D T ad Γ o xo xo g 0 [(0, .ref (ad 0)), (1, .int x1), (2, .int x2)] []
  have J122 : ∀ (x4 : Int32) (g : St), fM_number_b122 x4 g = some o → GcM_number l D T ad Γ o xo xo g 122 [(0, .ref (ad 0)), (4, .int x4)] [] := by
    intro x4 g h
    refine g_aload_n C dX12_number_122 rfl 0 rfl ?_
    refine gM_get_fault (v := g 0 5) C rfl dX12_number_123 ?_
    refine g_if_ne C 134 dX12_number_126 (by decide) (fun c126 => ?_) (fun c126 => ?_)
    · have h := iteT c126 h
      refine g_iload C dX12_number_129 1 rfl ?_
      refine g_goto (tgt := 135) C dX12_number_131 (by decide) ?_
      obtain rfl := Option.some.inj h
      exact g_iret C rfl rfl rfl dX12_number_135
    · have h := iteF c126 h
      refine g_iconst C dX12_number_134 ic_0 ?_
      obtain rfl := Option.some.inj h
      exact g_iret C rfl rfl rfl dX12_number_135
  have J44 : ∀ (x1 : Int32) (x2 : Int32) (x3 : Int32) (x4 : Int32) (g : St), fM_number_b44 x1 x2 x3 x4 g = some o → GcM_number l D T ad Γ o xo xo g 44 [(0, .ref (ad 0)), (1, .int x1), (2, .int x2), (3, .int x3), (4, .int x4)] [] := by
    intro x1 x2 x3 x4 g h
    obtain ⟨⟨x4, g⟩, ht, h⟩ := bnd h
    refine lp_run (P := fun t : Int32 × St => match t with | (x4, g) => GcM_number l D T ad Γ o xo xo g 44 [(0, .ref (ad 0)), (1, .int x1), (2, .int x2), (3, .int x3), (4, .int x4)] []) (E := fun t : Int32 × St => match t with | (x4, g) => GcM_number l D T ad Γ o xo xo g 106 [(0, .ref (ad 0)), (1, .int x1), (2, .int x2), (3, .int x3), (4, .int x4)] []) ?_ _ _ _ ht ?_
    · rintro ⟨x4, g⟩ z h Kt Ke
      show GcM_number l D T ad Γ o xo xo g 44 [(0, .ref (ad 0)), (1, .int x1), (2, .int x2), (3, .int x3), (4, .int x4)] []
      have J91 : ∀ (s0 : Int32) (g : St), fM_number_b91 x1 x2 x3 s0 g = some z → GcM_number l D T ad Γ o xo xo g 91 [(0, .ref (ad 0)), (1, .int x1), (2, .int x2), (3, .int x3)] [.int s0] := by
        intro s0 g h
        refine g_istore (lv' := [(4, .int s0), (0, .ref (ad 0)), (1, .int x1), (2, .int x2), (3, .int x3)]) C dX12_number_91 (Nat.le_of_ble_eq_true rfl) rfl ?_
        refine g_aload_n C dX12_number_93 rfl 1 rfl ?_
        refine g_dup C dX12_number_94 rfl ?_
        refine gM_get_at (v := g 0 4) C rfl dX12_number_95 ?_
        refine g_iconst C dX12_number_98 ic_1 ?_
        refine g_iadd C dX12_number_99 ?_
        refine gM_put_at C dX12_number_100 ?_
        refine g_goto (tgt := 44) C dX12_number_103 (by decide) ?_
        exact g_sub [1, 2, 3, 4, 0] rfl (Kt _ (Option.some.inj h).symm)
      refine g_aload_n C dX12_number_44 rfl 0 rfl ?_
      refine g_aload_n C dX12_number_45 rfl 0 rfl ?_
      refine gM_get_at (v := g 0 4) C rfl dX12_number_46 ?_
      obtain ⟨r49, hr49, h⟩ := bnd h
      refine g_cVi (k := 0) (As := [.int (g 0 4)]) (rest := []) (ro := r49) (go := g) (xo := xo) C (fun sz => cM_byteAt l D T ad xo g (g 0 4) _ hr49 sz) kM_byteAt ⟨Nat.le_of_ble_eq_true rfl, Nat.le_of_ble_eq_true rfl⟩ ⟨rfl, rfl⟩ ⟨Nat.zero_le _, Nat.zero_le _⟩ (rfl : vwCl[11]? = some (RX12, TX12, 48)) kM0 rfl rfl (Nat.le_of_ble_eq_true rfl) dX12_number_49 ?_
      refine g_cSz (As := [.int r49]) (rest := []) (ro := (fM_isDigit r49)) (go := g) (xo := xo) C (fun sz => cM_isDigit l D T ad xo g r49 _ rfl sz) kM_isDigit ⟨Nat.le_of_ble_eq_true rfl, Nat.le_of_ble_eq_true rfl⟩ ⟨rfl, rfl⟩ ⟨Nat.zero_le _, Nat.zero_le _⟩ rfl rfl (Nat.le_of_ble_eq_true rfl) dX12_number_52 (fun hz52 => ?_)
      refine g_if_eq C 106 dX12_number_55 (by decide) (fun c55 => ?_) (fun c55 => ?_)
      · have h := iteT c55 h
        exact g_sub [0, 1, 2, 3, 4] rfl (Ke _ (Option.some.inj h).symm)
      · have h := iteF c55 h
        refine g_bipush C dX12_number_58 bp_10 ?_
        refine g_iload C dX12_number_60 4 rfl ?_
        refine g_imul C dX12_number_62 ?_
        refine g_aload_n C dX12_number_63 rfl 0 rfl ?_
        refine g_aload_n C dX12_number_64 rfl 0 rfl ?_
        refine gM_get_at (v := g 0 4) C rfl dX12_number_65 ?_
        obtain ⟨r68, hr68, h⟩ := bnd h
        refine g_cVi (k := 0) (As := [.int (g 0 4)]) (rest := [.int ((10 : Int32) * x4)]) (ro := r68) (go := g) (xo := xo) C (fun sz => cM_byteAt l D T ad xo g (g 0 4) _ hr68 sz) kM_byteAt ⟨Nat.le_of_ble_eq_true rfl, Nat.le_of_ble_eq_true rfl⟩ ⟨rfl, rfl⟩ ⟨Nat.zero_le _, Nat.zero_le _⟩ (rfl : vwCl[11]? = some (RX12, TX12, 48)) kM0 rfl rfl (Nat.le_of_ble_eq_true rfl) dX12_number_68 ?_
        refine g_iadd C dX12_number_71 ?_
        refine g_bipush C dX12_number_72 bp_48 ?_
        refine g_isub C dX12_number_74 ?_
        refine g_istore (lv' := [(4, .int ((((10 : Int32) * x4) + r68) - (48 : Int32))), (0, .ref (ad 0)), (1, .int x1), (2, .int x2), (3, .int x3)]) C dX12_number_75 (Nat.le_of_ble_eq_true rfl) rfl ?_
        refine g_iload C dX12_number_77 0 rfl ?_
        refine g_ldc C dX12_number_79 (List.mem_cons_of_mem _ bm_71) ?_
        refine g_icmp_le C 89 dX12_number_81 (by decide) (fun c81 => ?_) (fun c81 => ?_)
        · have h := iteT c81 h
          refine g_iload C dX12_number_89 0 rfl ?_
          exact g_sub [1, 2, 3, 4] rfl (J91 ((((10 : Int32) * x4) + r68) - (48 : Int32)) g h)
        · have h := iteF c81 h
          refine g_ldc C dX12_number_84 (List.mem_cons_of_mem _ bm_71) ?_
          refine g_goto (tgt := 91) C dX12_number_86 (by decide) ?_
          exact g_sub [1, 2, 3, 4] rfl (J91 (100000 : Int32) g h)
    · show GcM_number l D T ad Γ o xo xo g 106 [(0, .ref (ad 0)), (1, .int x1), (2, .int x2), (3, .int x3), (4, .int x4)] []
      refine g_iload C dX12_number_106 4 rfl ?_
      refine g_iload_n C dX12_number_108 rfl 1 rfl ?_
      refine g_iload_n C dX12_number_109 rfl 2 rfl ?_
      refine g_cSz (As := [.int x4, .int x1, .int x2]) (rest := []) (ro := (fM_in x4 x1 x2)) (go := g) (xo := xo) C (fun sz => cM_in l D T ad xo g x4 x1 x2 _ rfl sz) kM_in ⟨Nat.le_of_ble_eq_true rfl, Nat.le_of_ble_eq_true rfl⟩ ⟨rfl, rfl⟩ ⟨Nat.zero_le _, Nat.zero_le _⟩ rfl rfl (Nat.le_of_ble_eq_true rfl) dX12_number_110 (fun hz110 => ?_)
      refine g_if_ne C 122 dX12_number_113 (by decide) (fun c113 => ?_) (fun c113 => ?_)
      · have h := iteT c113 h
        refine g_aload_n C dX12_number_116 rfl 0 rfl ?_
        refine g_iconst C dX12_number_117 ic_2 ?_
        refine g_iload_n C dX12_number_118 rfl 3 rfl ?_
        obtain ⟨g119, hr119, h⟩ := ltb h
        refine g_cVv (k := 0) (As := [.int (2 : Int32), .int x3]) (rest := []) (go := g119) (xo := xo) C (fun sz => cM_wrong l D T ad xo g (2 : Int32) x3 _ hr119 sz) kM_wrong ⟨Nat.le_of_ble_eq_true rfl, Nat.le_of_ble_eq_true rfl⟩ ⟨rfl, rfl⟩ ⟨Nat.zero_le _, Nat.zero_le _⟩ (rfl : vwCl[11]? = some (RX12, TX12, 48)) kM0 rfl rfl (Nat.le_of_ble_eq_true rfl) dX12_number_119 ?_
        exact g_sub [0, 4] rfl (J122 x4 g119 h)
      · have h := iteF c113 h
        exact g_sub [0, 4] rfl (J122 x4 g h)
  refine g_aload_n C dX12_number_0 rfl 0 rfl ?_
  refine gM_get_fault (v := g 0 5) C rfl dX12_number_1 ?_
  refine g_if_eq C 9 dX12_number_4 (by decide) (fun c4 => ?_) (fun c4 => ?_)
  · have h := iteT c4 h
    refine g_aload_n C dX12_number_9 rfl 0 rfl ?_
    obtain ⟨g10, hr10, h⟩ := bnd h
    refine g_cVv (k := 0) (As := []) (rest := []) (go := g10) (xo := xo) C (fun sz => cM_blanks l D T ad xo g _ hr10 sz) kM_blanks ⟨Nat.le_of_ble_eq_true rfl, Nat.le_of_ble_eq_true rfl⟩ ⟨rfl, rfl⟩ ⟨Nat.zero_le _, Nat.zero_le _⟩ (rfl : vwCl[11]? = some (RX12, TX12, 48)) kM0 rfl rfl (Nat.le_of_ble_eq_true rfl) dX12_number_10 ?_
    refine g_aload_n C dX12_number_13 rfl 0 rfl ?_
    refine gM_get_at (v := g10 0 4) C rfl dX12_number_14 ?_
    refine g_istore_n (lv' := [(3, .int (g10 0 4)), (0, .ref (ad 0)), (1, .int x1), (2, .int x2)]) C dX12_number_17 rfl (Nat.le_of_ble_eq_true rfl) rfl ?_
    refine g_iconst C dX12_number_18 ic_0 ?_
    refine g_istore (lv' := [(4, .int (0 : Int32)), (3, .int (g10 0 4)), (0, .ref (ad 0)), (1, .int x1), (2, .int x2)]) C dX12_number_19 (Nat.le_of_ble_eq_true rfl) rfl ?_
    refine g_aload_n C dX12_number_21 rfl 2 rfl ?_
    refine g_aload_n C dX12_number_22 rfl 2 rfl ?_
    refine gM_get_at (v := g10 0 4) C rfl dX12_number_23 ?_
    obtain ⟨r26, hr26, h⟩ := bnd h
    refine g_cVi (k := 0) (As := [.int (g10 0 4)]) (rest := []) (ro := r26) (go := g10) (xo := xo) C (fun sz => cM_byteAt l D T ad xo g10 (g10 0 4) _ hr26 sz) kM_byteAt ⟨Nat.le_of_ble_eq_true rfl, Nat.le_of_ble_eq_true rfl⟩ ⟨rfl, rfl⟩ ⟨Nat.zero_le _, Nat.zero_le _⟩ (rfl : vwCl[11]? = some (RX12, TX12, 48)) kM0 rfl rfl (Nat.le_of_ble_eq_true rfl) dX12_number_26 ?_
    refine g_cSz (As := [.int r26]) (rest := []) (ro := (fM_isDigit r26)) (go := g10) (xo := xo) C (fun sz => cM_isDigit l D T ad xo g10 r26 _ rfl sz) kM_isDigit ⟨Nat.le_of_ble_eq_true rfl, Nat.le_of_ble_eq_true rfl⟩ ⟨rfl, rfl⟩ ⟨Nat.zero_le _, Nat.zero_le _⟩ rfl rfl (Nat.le_of_ble_eq_true rfl) dX12_number_29 (fun hz29 => ?_)
    refine g_if_ne C 44 dX12_number_32 (by decide) (fun c32 => ?_) (fun c32 => ?_)
    · have h := iteT c32 h
      refine g_aload_n C dX12_number_35 rfl 2 rfl ?_
      refine g_iconst C dX12_number_36 ic_1 ?_
      refine g_aload_n C dX12_number_37 rfl 2 rfl ?_
      refine gM_get_at (v := g10 0 4) C rfl dX12_number_38 ?_
      obtain ⟨g41, hr41, h⟩ := ltb h
      refine g_cVv (k := 0) (As := [.int (1 : Int32), .int (g10 0 4)]) (rest := []) (go := g41) (xo := xo) C (fun sz => cM_wrong l D T ad xo g10 (1 : Int32) (g10 0 4) _ hr41 sz) kM_wrong ⟨Nat.le_of_ble_eq_true rfl, Nat.le_of_ble_eq_true rfl⟩ ⟨rfl, rfl⟩ ⟨Nat.zero_le _, Nat.zero_le _⟩ (rfl : vwCl[11]? = some (RX12, TX12, 48)) kM0 rfl rfl (Nat.le_of_ble_eq_true rfl) dX12_number_41 ?_
      exact g_sub [2, 3, 4, 1, 0] rfl (J44 x1 x2 (g10 0 4) (0 : Int32) g41 h)
    · have h := iteF c32 h
      exact g_sub [2, 3, 4, 1, 0] rfl (J44 x1 x2 (g10 0 4) (0 : Int32) g10 h)
  · have h := iteF c4 h
    refine g_iconst C dX12_number_7 ic_0 ?_
    obtain rfl := Option.some.inj h
    exact g_iret C rfl rfl rfl dX12_number_8
def fM_wordHere_b54 (x2 : Int32) (s0 : Int32) (g : St) : Option ((Int32 × Int32) ⊕ ((Int32 × Int32))) :=
  some (.inl (s0, (x2 + (1 : Int32))))
def fM_wordHere_L8 (g : St) : (Int32 × Int32) → Option ((Int32 × Int32) ⊕ ((Int32 × Int32))) := fun ⟨x1, x2⟩ =>
  (fM_byteAt ((g 0 4) + x2) g).bind fun r15 => (if (fM_isSmall r15) = 0 then
    (some (.inr (x1, x2)))
  else
    (if (6 : Int32) ≤ x2 then
    (fM_wordHere_b54 x2 x1 g)
  else
    ((fM_byteAt ((g 0 4) + x2) g).bind fun r41 => (fM_wordHere_b54 x2 (((((27 : Int32) * x1) + r41) - (97 : Int32)) + (1 : Int32)) g))))
def fM_wordHere_b8 (x1 : Int32) (x2 : Int32) (g : St) : Option (Int32 × St) :=
  (lp (fM_wordHere_L8 g) fuel (x1, x2)).bind (fun ⟨x1, x2⟩ => if x2 ≤ (6 : Int32) then
    (some (x1, g))
  else
    (some ((-1 : Int32), g)))
def fM_wordHere (g : St) : Option (Int32 × St) :=
  (fM_blanks g).bind fun g1 => (fM_wordHere_b8 (0 : Int32) (0 : Int32) g1)
def rmM_wordHere : Room := { frames := 2, cells := 0, slots := 0, locals := 41 }
abbrev GcM_wordHere (l : Launch) (D : va_G) (T : cT) (ad : Nat → Nat) (Γ : Cxt) (o : Int32 × St) (xo : Sl) (x : Sl) (g : St) (pc : Nat) (lv : List (Nat × Value)) (stk : List Value) : Prop := Gj l shM D T ad 3 (rmM_wordHere) 0 0 Γ (MQ Γ.below (va_Qi (eqI o.1 o.2 xo) (wPost shM D T ad Γ.A) Γ.A) Γ.args Γ.s 0 0 Γ.A) x g pc lv stk
set_option maxRecDepth 100000 in
set_option maxHeartbeats 4000000 in
theorem cM_wordHere (l : Launch) (D : va_G) (T : cT) (ad : Nat → Nat) (xo : Sl) (g : St) (o : Int32 × St) (h : fM_wordHere g = some o) (sz : Nat) : Met l yX12_wordHere wM_wordHere (rmM_wordHere) (va_Pc [.ref (ad 0)] (wPre shM D T ad xo g sz)) (va_Qi (eqI o.1 o.2 xo) (wPost shM D T ad (aW shM T ad xo g sz)) (aW shM T ad xo g sz)) 0 0 (aW shM T ad xo g sz) := by
  refine g_start (Qc := fun A => va_Qi (eqI o.1 o.2 xo) (wPost shM D T ad A) A) (by decide +kernel) rfl rfl (Nat.le_of_ble_eq_true rfl) (lv := [(0, .ref (ad 0))]) rfl (fun Γ C => ?_)
  show GcM_wordHere l D T ad Γ o xo xo g 0 [(0, .ref (ad 0))] []
  have J8 : ∀ (x1 : Int32) (x2 : Int32) (g : St), fM_wordHere_b8 x1 x2 g = some o → GcM_wordHere l D T ad Γ o xo xo g 8 [(0, .ref (ad 0)), (1, .int x1), (2, .int x2)] [] := by
    intro x1 x2 g h
    obtain ⟨⟨x1, x2⟩, ht, h⟩ := bnd h
    refine lp_run (P := fun t : Int32 × Int32 => match t with | (x1, x2) => GcM_wordHere l D T ad Γ o xo xo g 8 [(0, .ref (ad 0)), (1, .int x1), (2, .int x2)] []) (E := fun t : Int32 × Int32 => match t with | (x1, x2) => GcM_wordHere l D T ad Γ o xo xo g 61 [(1, .int x1), (2, .int x2)] []) ?_ _ _ _ ht ?_
    · rintro ⟨x1, x2⟩ z h Kt Ke
      show GcM_wordHere l D T ad Γ o xo xo g 8 [(0, .ref (ad 0)), (1, .int x1), (2, .int x2)] []
      have J54 : ∀ (x2 : Int32) (s0 : Int32), fM_wordHere_b54 x2 s0 g = some z → GcM_wordHere l D T ad Γ o xo xo g 54 [(0, .ref (ad 0)), (2, .int x2)] [.int s0] := by
        intro x2 s0 h
        refine g_istore_n (lv' := [(1, .int s0), (0, .ref (ad 0)), (2, .int x2)]) C dX12_wordHere_54 rfl (Nat.le_of_ble_eq_true rfl) rfl ?_
        refine g_iinc (lv' := [(2, .int (x2 + (1 : Int32))), (1, .int s0), (0, .ref (ad 0))]) C dX12_wordHere_55 2 rfl (ii_1 _) (Nat.le_of_ble_eq_true rfl) rfl ?_
        refine g_goto (tgt := 8) C dX12_wordHere_58 (by decide) ?_
        exact g_sub [2, 1, 0] rfl (Kt _ (Option.some.inj h).symm)
      refine g_aload_n C dX12_wordHere_8 rfl 0 rfl ?_
      refine g_aload_n C dX12_wordHere_9 rfl 0 rfl ?_
      refine gM_get_at (v := g 0 4) C rfl dX12_wordHere_10 ?_
      refine g_iload_n C dX12_wordHere_13 rfl 2 rfl ?_
      refine g_iadd C dX12_wordHere_14 ?_
      obtain ⟨r15, hr15, h⟩ := bnd h
      refine g_cVi (k := 0) (As := [.int ((g 0 4) + x2)]) (rest := []) (ro := r15) (go := g) (xo := xo) C (fun sz => cM_byteAt l D T ad xo g ((g 0 4) + x2) _ hr15 sz) kM_byteAt ⟨Nat.le_of_ble_eq_true rfl, Nat.le_of_ble_eq_true rfl⟩ ⟨rfl, rfl⟩ ⟨Nat.zero_le _, Nat.zero_le _⟩ (rfl : vwCl[11]? = some (RX12, TX12, 48)) kM0 rfl rfl (Nat.le_of_ble_eq_true rfl) dX12_wordHere_15 ?_
      refine g_cSz (As := [.int r15]) (rest := []) (ro := (fM_isSmall r15)) (go := g) (xo := xo) C (fun sz => cM_isSmall l D T ad xo g r15 _ rfl sz) kM_isSmall ⟨Nat.le_of_ble_eq_true rfl, Nat.le_of_ble_eq_true rfl⟩ ⟨rfl, rfl⟩ ⟨Nat.zero_le _, Nat.zero_le _⟩ rfl rfl (Nat.le_of_ble_eq_true rfl) dX12_wordHere_18 (fun hz18 => ?_)
      refine g_if_eq C 61 dX12_wordHere_21 (by decide) (fun c21 => ?_) (fun c21 => ?_)
      · have h := iteT c21 h
        exact g_sub [1, 2] rfl (Ke _ (Option.some.inj h).symm)
      · have h := iteF c21 h
        refine g_iload_n C dX12_wordHere_24 rfl 2 rfl ?_
        refine g_bipush C dX12_wordHere_25 bp_6 ?_
        refine g_icmp_ge C 53 dX12_wordHere_27 (by decide) (fun c27 => ?_) (fun c27 => ?_)
        · have h := iteT c27 h
          refine g_iload_n C dX12_wordHere_53 rfl 1 rfl ?_
          exact g_sub [0, 2] rfl (J54 x2 x1 h)
        · have h := iteF c27 h
          refine g_bipush C dX12_wordHere_30 bp_27 ?_
          refine g_iload_n C dX12_wordHere_32 rfl 1 rfl ?_
          refine g_imul C dX12_wordHere_33 ?_
          refine g_aload_n C dX12_wordHere_34 rfl 0 rfl ?_
          refine g_aload_n C dX12_wordHere_35 rfl 0 rfl ?_
          refine gM_get_at (v := g 0 4) C rfl dX12_wordHere_36 ?_
          refine g_iload_n C dX12_wordHere_39 rfl 2 rfl ?_
          refine g_iadd C dX12_wordHere_40 ?_
          obtain ⟨r41, hr41, h⟩ := bnd h
          refine g_cVi (k := 0) (As := [.int ((g 0 4) + x2)]) (rest := [.int ((27 : Int32) * x1)]) (ro := r41) (go := g) (xo := xo) C (fun sz => cM_byteAt l D T ad xo g ((g 0 4) + x2) _ hr41 sz) kM_byteAt ⟨Nat.le_of_ble_eq_true rfl, Nat.le_of_ble_eq_true rfl⟩ ⟨rfl, rfl⟩ ⟨Nat.zero_le _, Nat.zero_le _⟩ (rfl : vwCl[11]? = some (RX12, TX12, 48)) kM0 rfl rfl (Nat.le_of_ble_eq_true rfl) dX12_wordHere_41 ?_
          refine g_iadd C dX12_wordHere_44 ?_
          refine g_bipush C dX12_wordHere_45 bp_97 ?_
          refine g_isub C dX12_wordHere_47 ?_
          refine g_iconst C dX12_wordHere_48 ic_1 ?_
          refine g_iadd C dX12_wordHere_49 ?_
          refine g_goto (tgt := 54) C dX12_wordHere_50 (by decide) ?_
          exact g_sub [0, 2] rfl (J54 x2 (((((27 : Int32) * x1) + r41) - (97 : Int32)) + (1 : Int32)) h)
    · show GcM_wordHere l D T ad Γ o xo xo g 61 [(1, .int x1), (2, .int x2)] []
      refine g_iload_n C dX12_wordHere_61 rfl 1 rfl ?_
      refine g_bipush C dX12_wordHere_62 bp_6 ?_
      refine g_icmp_le C 71 dX12_wordHere_64 (by decide) (fun c64 => ?_) (fun c64 => ?_)
      · have h := iteT c64 h
        refine g_iload_n C dX12_wordHere_71 rfl 0 rfl ?_
        obtain rfl := Option.some.inj h
        exact g_iret C rfl rfl rfl dX12_wordHere_72
      · have h := iteF c64 h
        refine g_iconst C dX12_wordHere_67 ic_m1 ?_
        refine g_goto (tgt := 72) C dX12_wordHere_68 (by decide) ?_
        obtain rfl := Option.some.inj h
        exact g_iret C rfl rfl rfl dX12_wordHere_72
  refine g_aload_n C dX12_wordHere_0 rfl 0 rfl ?_
  obtain ⟨g1, hr1, h⟩ := bnd h
  refine g_cVv (k := 0) (As := []) (rest := []) (go := g1) (xo := xo) C (fun sz => cM_blanks l D T ad xo g _ hr1 sz) kM_blanks ⟨Nat.le_of_ble_eq_true rfl, Nat.le_of_ble_eq_true rfl⟩ ⟨rfl, rfl⟩ ⟨Nat.zero_le _, Nat.zero_le _⟩ (rfl : vwCl[11]? = some (RX12, TX12, 48)) kM0 rfl rfl (Nat.le_of_ble_eq_true rfl) dX12_wordHere_1 ?_
  refine g_iconst C dX12_wordHere_4 ic_0 ?_
  refine g_istore_n (lv' := [(1, .int (0 : Int32)), (0, .ref (ad 0))]) C dX12_wordHere_5 rfl (Nat.le_of_ble_eq_true rfl) rfl ?_
  refine g_iconst C dX12_wordHere_6 ic_0 ?_
  refine g_istore_n (lv' := [(2, .int (0 : Int32)), (1, .int (0 : Int32)), (0, .ref (ad 0))]) C dX12_wordHere_7 rfl (Nat.le_of_ble_eq_true rfl) rfl ?_
  exact g_sub [2, 1, 0] rfl (J8 (0 : Int32) (0 : Int32) g1 h)
def fM_six_b49 (x5 : Int32) (s0 : Int32) : Int32 :=
  if x5 = 0 then
    (s0)
  else
    ((((27 : Int32) * s0) + x5))
def fM_six_b29 (x4 : Int32) (x5 : Int32) (s0 : Int32) : Int32 :=
  if x4 = 0 then
    (fM_six_b49 x5 s0)
  else
    (fM_six_b49 x5 (((27 : Int32) * s0) + x4))
def fM_six (x0 : Int32) (x1 : Int32) (x2 : Int32) (x3 : Int32) (x4 : Int32) (x5 : Int32) : Int32 :=
  if x3 = 0 then
    (fM_six_b29 x4 x5 (((27 : Int32) * (((27 : Int32) * x0) + x1)) + x2))
  else
    (fM_six_b29 x4 x5 (((27 : Int32) * (((27 : Int32) * (((27 : Int32) * x0) + x1)) + x2)) + x3))
def rmM_six : Room := { frames := 0, cells := 0, slots := 0, locals := 0 }
abbrev GcM_six (l : Launch) (D : va_G) (T : cT) (ad : Nat → Nat) (Γ : Cxt) (o : Int32) (xo : Sl) (g0 : St) (x : Sl) (g : St) (pc : Nat) (lv : List (Nat × Value)) (stk : List Value) : Prop := Gj l shM D T ad 7 (rmM_six) 0 0 Γ (MQ Γ.below (va_Qi (eqI o g0 xo) (wPost shM D T ad Γ.A) Γ.A) Γ.args Γ.s 0 0 Γ.A) x g pc lv stk
set_option maxRecDepth 100000 in
set_option maxHeartbeats 4000000 in
theorem cM_six (l : Launch) (D : va_G) (T : cT) (ad : Nat → Nat) (xo : Sl) (g : St) (x0 : Int32) (x1 : Int32) (x2 : Int32) (x3 : Int32) (x4 : Int32) (x5 : Int32) (o : Int32) (h : fM_six x0 x1 x2 x3 x4 x5 = o) (sz : Nat) : Met l yX12_six wM_six (rmM_six) (va_Pc [.int x0, .int x1, .int x2, .int x3, .int x4, .int x5] (wPre shM D T ad xo g sz)) (va_Qi (eqI o g xo) (wPost shM D T ad (aW shM T ad xo g sz)) (aW shM T ad xo g sz)) 0 0 (aW shM T ad xo g sz) := by
  refine g_start (Qc := fun A => va_Qi (eqI o g xo) (wPost shM D T ad A) A) (by decide +kernel) rfl rfl (Nat.le_of_ble_eq_true rfl) (lv := [(0, .int x0), (1, .int x1), (2, .int x2), (3, .int x3), (4, .int x4), (5, .int x5)]) rfl (fun Γ C => ?_)
  show GcM_six l D T ad Γ o xo g xo g 0 [(0, .int x0), (1, .int x1), (2, .int x2), (3, .int x3), (4, .int x4), (5, .int x5)] []
  have J49 : ∀ (x5 : Int32) (s0 : Int32), fM_six_b49 x5 s0 = o → GcM_six l D T ad Γ o xo g xo g 49 [(5, .int x5)] [.int s0] := by
    intro x5 s0 h
    refine g_istore (lv' := [(6, .int s0), (5, .int x5)]) C dX12_six_49 (Nat.le_of_ble_eq_true rfl) rfl ?_
    refine g_iload C dX12_six_51 1 rfl ?_
    refine g_if_ne C 61 dX12_six_53 (by decide) (fun c53 => ?_) (fun c53 => ?_)
    · have h := iteT c53 h
      refine g_iload C dX12_six_56 0 rfl ?_
      refine g_goto (tgt := 69) C dX12_six_58 (by decide) ?_
      subst h
      exact g_iret C rfl rfl rfl dX12_six_69
    · have h := iteF c53 h
      refine g_bipush C dX12_six_61 bp_27 ?_
      refine g_iload C dX12_six_63 0 rfl ?_
      refine g_imul C dX12_six_65 ?_
      refine g_iload C dX12_six_66 1 rfl ?_
      refine g_iadd C dX12_six_68 ?_
      subst h
      exact g_iret C rfl rfl rfl dX12_six_69
  have J29 : ∀ (x4 : Int32) (x5 : Int32) (s0 : Int32), fM_six_b29 x4 x5 s0 = o → GcM_six l D T ad Γ o xo g xo g 29 [(4, .int x4), (5, .int x5)] [.int s0] := by
    intro x4 x5 s0 h
    refine g_istore (lv' := [(6, .int s0), (4, .int x4), (5, .int x5)]) C dX12_six_29 (Nat.le_of_ble_eq_true rfl) rfl ?_
    refine g_iload C dX12_six_31 1 rfl ?_
    refine g_if_ne C 41 dX12_six_33 (by decide) (fun c33 => ?_) (fun c33 => ?_)
    · have h := iteT c33 h
      refine g_iload C dX12_six_36 0 rfl ?_
      refine g_goto (tgt := 49) C dX12_six_38 (by decide) ?_
      exact g_sub [2] rfl (J49 x5 s0 h)
    · have h := iteF c33 h
      refine g_bipush C dX12_six_41 bp_27 ?_
      refine g_iload C dX12_six_43 0 rfl ?_
      refine g_imul C dX12_six_45 ?_
      refine g_iload C dX12_six_46 1 rfl ?_
      refine g_iadd C dX12_six_48 ?_
      exact g_sub [2] rfl (J49 x5 (((27 : Int32) * s0) + x4) h)
  refine g_bipush C dX12_six_0 bp_27 ?_
  refine g_bipush C dX12_six_2 bp_27 ?_
  refine g_iload_n C dX12_six_4 rfl 0 rfl ?_
  refine g_imul C dX12_six_5 ?_
  refine g_iload_n C dX12_six_6 rfl 1 rfl ?_
  refine g_iadd C dX12_six_7 ?_
  refine g_imul C dX12_six_8 ?_
  refine g_iload_n C dX12_six_9 rfl 2 rfl ?_
  refine g_iadd C dX12_six_10 ?_
  refine g_istore (lv' := [(6, .int (((27 : Int32) * (((27 : Int32) * x0) + x1)) + x2)), (0, .int x0), (1, .int x1), (2, .int x2), (3, .int x3), (4, .int x4), (5, .int x5)]) C dX12_six_11 (Nat.le_of_ble_eq_true rfl) rfl ?_
  refine g_iload_n C dX12_six_13 rfl 4 rfl ?_
  refine g_if_ne C 22 dX12_six_14 (by decide) (fun c14 => ?_) (fun c14 => ?_)
  · have h := iteT c14 h
    refine g_iload C dX12_six_17 0 rfl ?_
    refine g_goto (tgt := 29) C dX12_six_19 (by decide) ?_
    exact g_sub [5, 6] rfl (J29 x4 x5 (((27 : Int32) * (((27 : Int32) * x0) + x1)) + x2) h)
  · have h := iteF c14 h
    refine g_bipush C dX12_six_22 bp_27 ?_
    refine g_iload C dX12_six_24 0 rfl ?_
    refine g_imul C dX12_six_26 ?_
    refine g_iload_n C dX12_six_27 rfl 4 rfl ?_
    refine g_iadd C dX12_six_28 ?_
    exact g_sub [5, 6] rfl (J29 x4 x5 (((27 : Int32) * (((27 : Int32) * (((27 : Int32) * x0) + x1)) + x2)) + x3) h)
def fM_isWord (x1 : Int32) (x2 : Int32) (x3 : Int32) (x4 : Int32) (x5 : Int32) (x6 : Int32) (g : St) : Option (Int32 × St) :=
  if (g 0 5) = 0 then
    ((fM_wordHere g).bind fun ⟨r8, g8⟩ => (if r8 = (fM_six x1 x2 x3 x4 x5 x6) then
    (some ((1 : Int32), g8))
  else
    (some ((0 : Int32), g8))))
  else
    (some ((0 : Int32), g))
def rmM_isWord : Room := { frames := 3, cells := 0, slots := 0, locals := 63 }
abbrev GcM_isWord (l : Launch) (D : va_G) (T : cT) (ad : Nat → Nat) (Γ : Cxt) (o : Int32 × St) (xo : Sl) (x : Sl) (g : St) (pc : Nat) (lv : List (Nat × Value)) (stk : List Value) : Prop := Gj l shM D T ad 7 (rmM_isWord) 0 0 Γ (MQ Γ.below (va_Qi (eqZ o.1 o.2 xo) (wPost shM D T ad Γ.A) Γ.A) Γ.args Γ.s 0 0 Γ.A) x g pc lv stk
set_option maxRecDepth 100000 in
set_option maxHeartbeats 4000000 in
theorem cM_isWord (l : Launch) (D : va_G) (T : cT) (ad : Nat → Nat) (xo : Sl) (g : St) (x1 : Int32) (x2 : Int32) (x3 : Int32) (x4 : Int32) (x5 : Int32) (x6 : Int32) (o : Int32 × St) (h : fM_isWord x1 x2 x3 x4 x5 x6 g = some o) (sz : Nat) : Met l yX12_isWord wM_isWord (rmM_isWord) (va_Pc [.ref (ad 0), .int x1, .int x2, .int x3, .int x4, .int x5, .int x6] (wPre shM D T ad xo g sz)) (va_Qi (eqZ o.1 o.2 xo) (wPost shM D T ad (aW shM T ad xo g sz)) (aW shM T ad xo g sz)) 0 0 (aW shM T ad xo g sz) := by
  refine g_start (Qc := fun A => va_Qi (eqZ o.1 o.2 xo) (wPost shM D T ad A) A) (by decide +kernel) rfl rfl (Nat.le_of_ble_eq_true rfl) (lv := [(0, .ref (ad 0)), (1, .int x1), (2, .int x2), (3, .int x3), (4, .int x4), (5, .int x5), (6, .int x6)]) rfl (fun Γ C => ?_)
  show GcM_isWord l D T ad Γ o xo xo g 0 [(0, .ref (ad 0)), (1, .int x1), (2, .int x2), (3, .int x3), (4, .int x4), (5, .int x5), (6, .int x6)] []
  refine g_aload_n C dX12_isWord_0 rfl 0 rfl ?_
  refine gM_get_fault (v := g 0 5) C rfl dX12_isWord_1 ?_
  refine g_if_ne C 30 dX12_isWord_4 (by decide) (fun c4 => ?_) (fun c4 => ?_)
  · have h := iteT c4 h
    refine g_aload_n C dX12_isWord_7 rfl 0 rfl ?_
    obtain ⟨⟨r8, g8⟩, hr8, h⟩ := bnd h
    refine g_cVi (k := 0) (As := []) (rest := []) (ro := r8) (go := g8) (xo := xo) C (fun sz => cM_wordHere l D T ad xo g _ hr8 sz) kM_wordHere ⟨Nat.le_of_ble_eq_true rfl, Nat.le_of_ble_eq_true rfl⟩ ⟨rfl, rfl⟩ ⟨Nat.zero_le _, Nat.zero_le _⟩ (rfl : vwCl[11]? = some (RX12, TX12, 48)) kM0 rfl rfl (Nat.le_of_ble_eq_true rfl) dX12_isWord_8 ?_
    refine g_iload_n C dX12_isWord_11 rfl 1 rfl ?_
    refine g_iload_n C dX12_isWord_12 rfl 2 rfl ?_
    refine g_iload_n C dX12_isWord_13 rfl 3 rfl ?_
    refine g_iload C dX12_isWord_14 4 rfl ?_
    refine g_iload C dX12_isWord_16 5 rfl ?_
    refine g_iload C dX12_isWord_18 6 rfl ?_
    refine g_cSi (As := [.int x1, .int x2, .int x3, .int x4, .int x5, .int x6]) (rest := [.int r8]) (ro := (fM_six x1 x2 x3 x4 x5 x6)) (go := g8) (xo := xo) C (fun sz => cM_six l D T ad xo g8 x1 x2 x3 x4 x5 x6 _ rfl sz) kM_six ⟨Nat.le_of_ble_eq_true rfl, Nat.le_of_ble_eq_true rfl⟩ ⟨rfl, rfl⟩ ⟨Nat.zero_le _, Nat.zero_le _⟩ rfl rfl (Nat.le_of_ble_eq_true rfl) dX12_isWord_20 ?_
    refine g_icmp_ne C 30 dX12_isWord_23 (by decide) (fun c23 => ?_) (fun c23 => ?_)
    · have h := iteT c23 h
      refine g_iconst C dX12_isWord_26 ic_1 ?_
      refine g_goto (tgt := 31) C dX12_isWord_27 (by decide) ?_
      obtain rfl := Option.some.inj h
      exact g_zret C rfl rfl rfl rfl dX12_isWord_31
    · have h := iteF c23 h
      refine g_iconst C dX12_isWord_30 ic_0 ?_
      obtain rfl := Option.some.inj h
      exact g_zret C rfl rfl rfl rfl dX12_isWord_31
  · have h := iteF c4 h
    refine g_iconst C dX12_isWord_30 ic_0 ?_
    obtain rfl := Option.some.inj h
    exact g_zret C rfl rfl rfl rfl dX12_isWord_31
def fM_skipWord_L0 : St → Option ((St) ⊕ (St)) := fun g =>
  (fM_byteAt (g 0 4) g).bind fun r5 => (if (fM_isSmall r5) = 0 then
    (some (.inr g))
  else
    (some (.inl (st g 0 4 ((g 0 4) + (1 : Int32))))))
def fM_skipWord_b0 (g : St) : Option (St) :=
  (lp (fM_skipWord_L0) fuel g).bind (fun g => some g)
def fM_skipWord (g : St) : Option (St) :=
  fM_skipWord_b0 g
def rmM_skipWord : Room := { frames := 1, cells := 0, slots := 0, locals := 21 }
abbrev GcM_skipWord (l : Launch) (D : va_G) (T : cT) (ad : Nat → Nat) (Γ : Cxt) (o : St) (xo : Sl) (x : Sl) (g : St) (pc : Nat) (lv : List (Nat × Value)) (stk : List Value) : Prop := Gj l shM D T ad 1 (rmM_skipWord) 0 0 Γ (MQ Γ.below (va_Qv (eqV o xo) (wPost shM D T ad Γ.A) Γ.A) Γ.args Γ.s 0 0 Γ.A) x g pc lv stk
set_option maxRecDepth 100000 in
set_option maxHeartbeats 4000000 in
theorem cM_skipWord (l : Launch) (D : va_G) (T : cT) (ad : Nat → Nat) (xo : Sl) (g : St) (o : St) (h : fM_skipWord g = some o) (sz : Nat) : Met l yX12_skipWord wM_skipWord (rmM_skipWord) (va_Pc [.ref (ad 0)] (wPre shM D T ad xo g sz)) (va_Qv (eqV o xo) (wPost shM D T ad (aW shM T ad xo g sz)) (aW shM T ad xo g sz)) 0 0 (aW shM T ad xo g sz) := by
  refine g_start (Qc := fun A => va_Qv (eqV o xo) (wPost shM D T ad A) A) (by decide +kernel) rfl rfl (Nat.le_of_ble_eq_true rfl) (lv := [(0, .ref (ad 0))]) rfl (fun Γ C => ?_)
  show GcM_skipWord l D T ad Γ o xo xo g 0 [(0, .ref (ad 0))] []
  have J0 : ∀ (g : St), fM_skipWord_b0 g = some o → GcM_skipWord l D T ad Γ o xo xo g 0 [(0, .ref (ad 0))] [] := by
    intro g h
    obtain ⟨g, ht, h⟩ := bnd h
    refine lp_run (P := fun g : St => GcM_skipWord l D T ad Γ o xo xo g 0 [(0, .ref (ad 0))] []) (E := fun g : St => GcM_skipWord l D T ad Γ o xo xo g 27 [] []) ?_ _ _ _ ht ?_
    · rintro g z h Kt Ke
      show GcM_skipWord l D T ad Γ o xo xo g 0 [(0, .ref (ad 0))] []
      refine g_aload_n C dX12_skipWord_0 rfl 0 rfl ?_
      refine g_aload_n C dX12_skipWord_1 rfl 0 rfl ?_
      refine gM_get_at (v := g 0 4) C rfl dX12_skipWord_2 ?_
      obtain ⟨r5, hr5, h⟩ := bnd h
      refine g_cVi (k := 0) (As := [.int (g 0 4)]) (rest := []) (ro := r5) (go := g) (xo := xo) C (fun sz => cM_byteAt l D T ad xo g (g 0 4) _ hr5 sz) kM_byteAt ⟨Nat.le_of_ble_eq_true rfl, Nat.le_of_ble_eq_true rfl⟩ ⟨rfl, rfl⟩ ⟨Nat.zero_le _, Nat.zero_le _⟩ (rfl : vwCl[11]? = some (RX12, TX12, 48)) kM0 rfl rfl (Nat.le_of_ble_eq_true rfl) dX12_skipWord_5 ?_
      refine g_cSz (As := [.int r5]) (rest := []) (ro := (fM_isSmall r5)) (go := g) (xo := xo) C (fun sz => cM_isSmall l D T ad xo g r5 _ rfl sz) kM_isSmall ⟨Nat.le_of_ble_eq_true rfl, Nat.le_of_ble_eq_true rfl⟩ ⟨rfl, rfl⟩ ⟨Nat.zero_le _, Nat.zero_le _⟩ rfl rfl (Nat.le_of_ble_eq_true rfl) dX12_skipWord_8 (fun hz8 => ?_)
      refine g_if_eq C 27 dX12_skipWord_11 (by decide) (fun c11 => ?_) (fun c11 => ?_)
      · have h := iteT c11 h
        exact g_sub [] rfl (Ke _ (Option.some.inj h).symm)
      · have h := iteF c11 h
        refine g_aload_n C dX12_skipWord_14 rfl 0 rfl ?_
        refine g_dup C dX12_skipWord_15 rfl ?_
        refine gM_get_at (v := g 0 4) C rfl dX12_skipWord_16 ?_
        refine g_iconst C dX12_skipWord_19 ic_1 ?_
        refine g_iadd C dX12_skipWord_20 ?_
        refine gM_put_at C dX12_skipWord_21 ?_
        refine g_goto (tgt := 0) C dX12_skipWord_24 (by decide) ?_
        exact g_sub [0] rfl (Kt _ (Option.some.inj h).symm)
    · show GcM_skipWord l D T ad Γ o xo xo g 27 [] []
      obtain rfl := Option.some.inj h
      exact g_vret C rfl rfl dX12_skipWord_27
  exact J0 g h
def fM_takes (x1 : Int32) (x2 : Int32) (x3 : Int32) (x4 : Int32) (x5 : Int32) (x6 : Int32) (g : St) : Option (Int32 × St) :=
  (fM_isWord x1 x2 x3 x4 x5 x6 g).bind fun ⟨r10, g10⟩ => (if r10 = 0 then
    (some (r10, g10))
  else
    ((fM_skipWord g10).bind fun g21 => (some (r10, g21))))
def rmM_takes : Room := { frames := 4, cells := 0, slots := 0, locals := 89 }
abbrev GcM_takes (l : Launch) (D : va_G) (T : cT) (ad : Nat → Nat) (Γ : Cxt) (o : Int32 × St) (xo : Sl) (x : Sl) (g : St) (pc : Nat) (lv : List (Nat × Value)) (stk : List Value) : Prop := Gj l shM D T ad 8 (rmM_takes) 0 0 Γ (MQ Γ.below (va_Qi (eqZ o.1 o.2 xo) (wPost shM D T ad Γ.A) Γ.A) Γ.args Γ.s 0 0 Γ.A) x g pc lv stk
set_option maxRecDepth 100000 in
set_option maxHeartbeats 4000000 in
theorem cM_takes (l : Launch) (D : va_G) (T : cT) (ad : Nat → Nat) (xo : Sl) (g : St) (x1 : Int32) (x2 : Int32) (x3 : Int32) (x4 : Int32) (x5 : Int32) (x6 : Int32) (o : Int32 × St) (h : fM_takes x1 x2 x3 x4 x5 x6 g = some o) (sz : Nat) : Met l yX12_takes wM_takes (rmM_takes) (va_Pc [.ref (ad 0), .int x1, .int x2, .int x3, .int x4, .int x5, .int x6] (wPre shM D T ad xo g sz)) (va_Qi (eqZ o.1 o.2 xo) (wPost shM D T ad (aW shM T ad xo g sz)) (aW shM T ad xo g sz)) 0 0 (aW shM T ad xo g sz) := by
  refine g_start (Qc := fun A => va_Qi (eqZ o.1 o.2 xo) (wPost shM D T ad A) A) (by decide +kernel) rfl rfl (Nat.le_of_ble_eq_true rfl) (lv := [(0, .ref (ad 0)), (1, .int x1), (2, .int x2), (3, .int x3), (4, .int x4), (5, .int x5), (6, .int x6)]) rfl (fun Γ C => ?_)
  show GcM_takes l D T ad Γ o xo xo g 0 [(0, .ref (ad 0)), (1, .int x1), (2, .int x2), (3, .int x3), (4, .int x4), (5, .int x5), (6, .int x6)] []
  refine g_aload_n C dX12_takes_0 rfl 0 rfl ?_
  refine g_iload_n C dX12_takes_1 rfl 1 rfl ?_
  refine g_iload_n C dX12_takes_2 rfl 2 rfl ?_
  refine g_iload_n C dX12_takes_3 rfl 3 rfl ?_
  refine g_iload C dX12_takes_4 4 rfl ?_
  refine g_iload C dX12_takes_6 5 rfl ?_
  refine g_iload C dX12_takes_8 6 rfl ?_
  obtain ⟨⟨r10, g10⟩, hr10, h⟩ := bnd h
  refine g_cVz (k := 0) (As := [.int x1, .int x2, .int x3, .int x4, .int x5, .int x6]) (rest := []) (ro := r10) (go := g10) (xo := xo) C (fun sz => cM_isWord l D T ad xo g x1 x2 x3 x4 x5 x6 _ hr10 sz) kM_isWord ⟨Nat.le_of_ble_eq_true rfl, Nat.le_of_ble_eq_true rfl⟩ ⟨rfl, rfl⟩ ⟨Nat.zero_le _, Nat.zero_le _⟩ (rfl : vwCl[11]? = some (RX12, TX12, 48)) kM0 rfl rfl (Nat.le_of_ble_eq_true rfl) dX12_takes_10 (fun hz10 => ?_)
  refine g_istore (lv' := [(7, .int r10), (0, .ref (ad 0)), (1, .int x1), (2, .int x2), (3, .int x3), (4, .int x4), (5, .int x5), (6, .int x6)]) C dX12_takes_13 (Nat.le_of_ble_eq_true rfl) rfl ?_
  refine g_iload C dX12_takes_15 0 rfl ?_
  refine g_if_eq C 24 dX12_takes_17 (by decide) (fun c17 => ?_) (fun c17 => ?_)
  · have h := iteT c17 h
    refine g_iload C dX12_takes_24 0 rfl ?_
    obtain rfl := Option.some.inj h
    exact g_zret C hz10 rfl rfl rfl dX12_takes_26
  · have h := iteF c17 h
    refine g_aload_n C dX12_takes_20 rfl 1 rfl ?_
    obtain ⟨g21, hr21, h⟩ := bnd h
    refine g_cVv (k := 0) (As := []) (rest := []) (go := g21) (xo := xo) C (fun sz => cM_skipWord l D T ad xo g10 _ hr21 sz) kM_skipWord ⟨Nat.le_of_ble_eq_true rfl, Nat.le_of_ble_eq_true rfl⟩ ⟨rfl, rfl⟩ ⟨Nat.zero_le _, Nat.zero_le _⟩ (rfl : vwCl[11]? = some (RX12, TX12, 48)) kM0 rfl rfl (Nat.le_of_ble_eq_true rfl) dX12_takes_21 ?_
    refine g_iload C dX12_takes_24 0 rfl ?_
    obtain rfl := Option.some.inj h
    exact g_zret C hz10 rfl rfl rfl dX12_takes_26
def fM_sign (x1 : Int32) (g : St) : Option (St) :=
  if (g 0 5) = 0 then
    ((fM_blanks g).bind fun g9 => ((fM_byteAt (g9 0 4) g9).bind fun r17 => (if r17 = x1 then
    (some (st g9 0 4 ((g9 0 4) + (1 : Int32))))
  else
    (lt1 (fM_wrong (1 : Int32) (g9 0 4) g9) fun g43 => (some g43)))))
  else
    (some g)
def rmM_sign : Room := { frames := 2, cells := 0, slots := 0, locals := 41 }
abbrev GcM_sign (l : Launch) (D : va_G) (T : cT) (ad : Nat → Nat) (Γ : Cxt) (o : St) (xo : Sl) (x : Sl) (g : St) (pc : Nat) (lv : List (Nat × Value)) (stk : List Value) : Prop := Gj l shM D T ad 2 (rmM_sign) 0 0 Γ (MQ Γ.below (va_Qv (eqV o xo) (wPost shM D T ad Γ.A) Γ.A) Γ.args Γ.s 0 0 Γ.A) x g pc lv stk
set_option maxRecDepth 100000 in
set_option maxHeartbeats 4000000 in
theorem cM_sign (l : Launch) (D : va_G) (T : cT) (ad : Nat → Nat) (xo : Sl) (g : St) (x1 : Int32) (o : St) (h : fM_sign x1 g = some o) (sz : Nat) : Met l yX12_sign wM_sign (rmM_sign) (va_Pc [.ref (ad 0), .int x1] (wPre shM D T ad xo g sz)) (va_Qv (eqV o xo) (wPost shM D T ad (aW shM T ad xo g sz)) (aW shM T ad xo g sz)) 0 0 (aW shM T ad xo g sz) := by
  refine g_start (Qc := fun A => va_Qv (eqV o xo) (wPost shM D T ad A) A) (by decide +kernel) rfl rfl (Nat.le_of_ble_eq_true rfl) (lv := [(0, .ref (ad 0)), (1, .int x1)]) rfl (fun Γ C => ?_)
  show GcM_sign l D T ad Γ o xo xo g 0 [(0, .ref (ad 0)), (1, .int x1)] []
  refine g_aload_n C dX12_sign_0 rfl 0 rfl ?_
  refine gM_get_fault (v := g 0 5) C rfl dX12_sign_1 ?_
  refine g_if_eq C 8 dX12_sign_4 (by decide) (fun c4 => ?_) (fun c4 => ?_)
  · have h := iteT c4 h
    refine g_aload_n C dX12_sign_8 rfl 0 rfl ?_
    obtain ⟨g9, hr9, h⟩ := bnd h
    refine g_cVv (k := 0) (As := []) (rest := []) (go := g9) (xo := xo) C (fun sz => cM_blanks l D T ad xo g _ hr9 sz) kM_blanks ⟨Nat.le_of_ble_eq_true rfl, Nat.le_of_ble_eq_true rfl⟩ ⟨rfl, rfl⟩ ⟨Nat.zero_le _, Nat.zero_le _⟩ (rfl : vwCl[11]? = some (RX12, TX12, 48)) kM0 rfl rfl (Nat.le_of_ble_eq_true rfl) dX12_sign_9 ?_
    refine g_aload_n C dX12_sign_12 rfl 0 rfl ?_
    refine g_aload_n C dX12_sign_13 rfl 0 rfl ?_
    refine gM_get_at (v := g9 0 4) C rfl dX12_sign_14 ?_
    obtain ⟨r17, hr17, h⟩ := bnd h
    refine g_cVi (k := 0) (As := [.int (g9 0 4)]) (rest := []) (ro := r17) (go := g9) (xo := xo) C (fun sz => cM_byteAt l D T ad xo g9 (g9 0 4) _ hr17 sz) kM_byteAt ⟨Nat.le_of_ble_eq_true rfl, Nat.le_of_ble_eq_true rfl⟩ ⟨rfl, rfl⟩ ⟨Nat.zero_le _, Nat.zero_le _⟩ (rfl : vwCl[11]? = some (RX12, TX12, 48)) kM0 rfl rfl (Nat.le_of_ble_eq_true rfl) dX12_sign_17 ?_
    refine g_iload_n C dX12_sign_20 rfl 1 rfl ?_
    refine g_icmp_ne C 37 dX12_sign_21 (by decide) (fun c21 => ?_) (fun c21 => ?_)
    · have h := iteT c21 h
      refine g_aload_n C dX12_sign_24 rfl 0 rfl ?_
      refine g_dup C dX12_sign_25 rfl ?_
      refine gM_get_at (v := g9 0 4) C rfl dX12_sign_26 ?_
      refine g_iconst C dX12_sign_29 ic_1 ?_
      refine g_iadd C dX12_sign_30 ?_
      refine gM_put_at C dX12_sign_31 ?_
      refine g_goto (tgt := 46) C dX12_sign_34 (by decide) ?_
      obtain rfl := Option.some.inj h
      exact g_vret C rfl rfl dX12_sign_46
    · have h := iteF c21 h
      refine g_aload_n C dX12_sign_37 rfl 0 rfl ?_
      refine g_iconst C dX12_sign_38 ic_1 ?_
      refine g_aload_n C dX12_sign_39 rfl 0 rfl ?_
      refine gM_get_at (v := g9 0 4) C rfl dX12_sign_40 ?_
      obtain ⟨g43, hr43, h⟩ := ltb h
      refine g_cVv (k := 0) (As := [.int (1 : Int32), .int (g9 0 4)]) (rest := []) (go := g43) (xo := xo) C (fun sz => cM_wrong l D T ad xo g9 (1 : Int32) (g9 0 4) _ hr43 sz) kM_wrong ⟨Nat.le_of_ble_eq_true rfl, Nat.le_of_ble_eq_true rfl⟩ ⟨rfl, rfl⟩ ⟨Nat.zero_le _, Nat.zero_le _⟩ (rfl : vwCl[11]? = some (RX12, TX12, 48)) kM0 rfl rfl (Nat.le_of_ble_eq_true rfl) dX12_sign_43 ?_
      obtain rfl := Option.some.inj h
      exact g_vret C rfl rfl dX12_sign_46
  · have h := iteF c4 h
    obtain rfl := Option.some.inj h
    exact g_vret C rfl rfl dX12_sign_7
def fM_takesSign_b30 (s0 : Int32) (g : St) : Option (Int32 × St) :=
  if s0 = 0 then
    (some (s0, g))
  else
    (some (s0, (st g 0 4 ((g 0 4) + (1 : Int32)))))
def fM_takesSign (x1 : Int32) (g : St) : Option (Int32 × St) :=
  if (g 0 5) = 0 then
    ((fM_blanks g).bind fun g10 => ((fM_byteAt (g10 0 4) g10).bind fun r18 => (if r18 = x1 then
    (fM_takesSign_b30 (1 : Int32) g10)
  else
    (fM_takesSign_b30 (0 : Int32) g10))))
  else
    (some ((0 : Int32), g))
def rmM_takesSign : Room := { frames := 2, cells := 0, slots := 0, locals := 41 }
abbrev GcM_takesSign (l : Launch) (D : va_G) (T : cT) (ad : Nat → Nat) (Γ : Cxt) (o : Int32 × St) (xo : Sl) (x : Sl) (g : St) (pc : Nat) (lv : List (Nat × Value)) (stk : List Value) : Prop := Gj l shM D T ad 3 (rmM_takesSign) 0 0 Γ (MQ Γ.below (va_Qi (eqZ o.1 o.2 xo) (wPost shM D T ad Γ.A) Γ.A) Γ.args Γ.s 0 0 Γ.A) x g pc lv stk
set_option maxRecDepth 100000 in
set_option maxHeartbeats 4000000 in
theorem cM_takesSign (l : Launch) (D : va_G) (T : cT) (ad : Nat → Nat) (xo : Sl) (g : St) (x1 : Int32) (o : Int32 × St) (h : fM_takesSign x1 g = some o) (sz : Nat) : Met l yX12_takesSign wM_takesSign (rmM_takesSign) (va_Pc [.ref (ad 0), .int x1] (wPre shM D T ad xo g sz)) (va_Qi (eqZ o.1 o.2 xo) (wPost shM D T ad (aW shM T ad xo g sz)) (aW shM T ad xo g sz)) 0 0 (aW shM T ad xo g sz) := by
  refine g_start (Qc := fun A => va_Qi (eqZ o.1 o.2 xo) (wPost shM D T ad A) A) (by decide +kernel) rfl rfl (Nat.le_of_ble_eq_true rfl) (lv := [(0, .ref (ad 0)), (1, .int x1)]) rfl (fun Γ C => ?_)
  show GcM_takesSign l D T ad Γ o xo xo g 0 [(0, .ref (ad 0)), (1, .int x1)] []
  have J30 : ∀ (s0 : Int32) (hs0 : narrow .boolean (.int s0) = .int s0) (g : St), fM_takesSign_b30 s0 g = some o → GcM_takesSign l D T ad Γ o xo xo g 30 [(0, .ref (ad 0))] [.int s0] := by
    intro s0 hs0 g h
    refine g_istore_n (lv' := [(2, .int s0), (0, .ref (ad 0))]) C dX12_takesSign_30 rfl (Nat.le_of_ble_eq_true rfl) rfl ?_
    refine g_iload_n C dX12_takesSign_31 rfl 0 rfl ?_
    refine g_if_eq C 45 dX12_takesSign_32 (by decide) (fun c32 => ?_) (fun c32 => ?_)
    · have h := iteT c32 h
      refine g_iload_n C dX12_takesSign_45 rfl 0 rfl ?_
      obtain rfl := Option.some.inj h
      exact g_zret C hs0 rfl rfl rfl dX12_takesSign_46
    · have h := iteF c32 h
      refine g_aload_n C dX12_takesSign_35 rfl 1 rfl ?_
      refine g_dup C dX12_takesSign_36 rfl ?_
      refine gM_get_at (v := g 0 4) C rfl dX12_takesSign_37 ?_
      refine g_iconst C dX12_takesSign_40 ic_1 ?_
      refine g_iadd C dX12_takesSign_41 ?_
      refine gM_put_at C dX12_takesSign_42 ?_
      refine g_iload_n C dX12_takesSign_45 rfl 0 rfl ?_
      obtain rfl := Option.some.inj h
      exact g_zret C hs0 rfl rfl rfl dX12_takesSign_46
  refine g_aload_n C dX12_takesSign_0 rfl 0 rfl ?_
  refine gM_get_fault (v := g 0 5) C rfl dX12_takesSign_1 ?_
  refine g_if_eq C 9 dX12_takesSign_4 (by decide) (fun c4 => ?_) (fun c4 => ?_)
  · have h := iteT c4 h
    refine g_aload_n C dX12_takesSign_9 rfl 0 rfl ?_
    obtain ⟨g10, hr10, h⟩ := bnd h
    refine g_cVv (k := 0) (As := []) (rest := []) (go := g10) (xo := xo) C (fun sz => cM_blanks l D T ad xo g _ hr10 sz) kM_blanks ⟨Nat.le_of_ble_eq_true rfl, Nat.le_of_ble_eq_true rfl⟩ ⟨rfl, rfl⟩ ⟨Nat.zero_le _, Nat.zero_le _⟩ (rfl : vwCl[11]? = some (RX12, TX12, 48)) kM0 rfl rfl (Nat.le_of_ble_eq_true rfl) dX12_takesSign_10 ?_
    refine g_aload_n C dX12_takesSign_13 rfl 0 rfl ?_
    refine g_aload_n C dX12_takesSign_14 rfl 0 rfl ?_
    refine gM_get_at (v := g10 0 4) C rfl dX12_takesSign_15 ?_
    obtain ⟨r18, hr18, h⟩ := bnd h
    refine g_cVi (k := 0) (As := [.int (g10 0 4)]) (rest := []) (ro := r18) (go := g10) (xo := xo) C (fun sz => cM_byteAt l D T ad xo g10 (g10 0 4) _ hr18 sz) kM_byteAt ⟨Nat.le_of_ble_eq_true rfl, Nat.le_of_ble_eq_true rfl⟩ ⟨rfl, rfl⟩ ⟨Nat.zero_le _, Nat.zero_le _⟩ (rfl : vwCl[11]? = some (RX12, TX12, 48)) kM0 rfl rfl (Nat.le_of_ble_eq_true rfl) dX12_takesSign_18 ?_
    refine g_iload_n C dX12_takesSign_21 rfl 1 rfl ?_
    refine g_icmp_ne C 29 dX12_takesSign_22 (by decide) (fun c22 => ?_) (fun c22 => ?_)
    · have h := iteT c22 h
      refine g_iconst C dX12_takesSign_25 ic_1 ?_
      refine g_goto (tgt := 30) C dX12_takesSign_26 (by decide) ?_
      exact g_sub [0] rfl (J30 (1 : Int32) rfl g10 h)
    · have h := iteF c22 h
      refine g_iconst C dX12_takesSign_29 ic_0 ?_
      exact g_sub [0] rfl (J30 (0 : Int32) rfl g10 h)
  · have h := iteF c4 h
    refine g_iconst C dX12_takesSign_7 ic_0 ?_
    obtain rfl := Option.some.inj h
    exact g_zret C rfl rfl rfl rfl dX12_takesSign_8
def fM_starts (x1 : Int32) (g : St) : Option (St) :=
  (fM_blanks (st (st (st (st (st (st (st g 0 1 (0 : Int32)) 0 2 x1) 0 4 (0 : Int32)) 0 5 (0 : Int32)) 0 6 (-1 : Int32)) 0 7 (0 : Int32)) 0 8 (0 : Int32))).bind fun g36 => (some g36)
def rmM_starts : Room := { frames := 2, cells := 0, slots := 0, locals := 41 }
abbrev GcM_starts (l : Launch) (D : va_G) (T : cT) (ad : Nat → Nat) (Γ : Cxt) (o : St) (xo : Sl) (x : Sl) (g : St) (pc : Nat) (lv : List (Nat × Value)) (stk : List Value) : Prop := Gj l shM D T ad 2 (rmM_starts) 0 0 Γ (MQ Γ.below (va_Qv (eqV o xo) (wPost shM D T ad Γ.A) Γ.A) Γ.args Γ.s 0 0 Γ.A) x g pc lv stk
set_option maxRecDepth 100000 in
set_option maxHeartbeats 4000000 in
theorem cM_starts (l : Launch) (D : va_G) (T : cT) (ad : Nat → Nat) (xo : Sl) (g : St) (x1 : Int32) (o : St) (h : fM_starts x1 g = some o) (sz : Nat) : Met l yX12_starts wM_starts (rmM_starts) (va_Pc [.ref (ad 0), .int x1] (wPre shM D T ad xo g sz)) (va_Qv (eqV o xo) (wPost shM D T ad (aW shM T ad xo g sz)) (aW shM T ad xo g sz)) 0 0 (aW shM T ad xo g sz) := by
  refine g_start (Qc := fun A => va_Qv (eqV o xo) (wPost shM D T ad A) A) (by decide +kernel) rfl rfl (Nat.le_of_ble_eq_true rfl) (lv := [(0, .ref (ad 0)), (1, .int x1)]) rfl (fun Γ C => ?_)
  show GcM_starts l D T ad Γ o xo xo g 0 [(0, .ref (ad 0)), (1, .int x1)] []
  refine g_aload_n C dX12_starts_0 rfl 0 rfl ?_
  refine g_iconst C dX12_starts_1 ic_0 ?_
  refine gM_put_tape C dX12_starts_2 ?_
  refine g_aload_n C dX12_starts_5 rfl 0 rfl ?_
  refine g_iload_n C dX12_starts_6 rfl 1 rfl ?_
  refine gM_put_size C dX12_starts_7 ?_
  refine g_aload_n C dX12_starts_10 rfl 0 rfl ?_
  refine g_iconst C dX12_starts_11 ic_0 ?_
  refine gM_put_at C dX12_starts_12 ?_
  refine g_aload_n C dX12_starts_15 rfl 0 rfl ?_
  refine g_iconst C dX12_starts_16 ic_0 ?_
  refine gM_put_fault C dX12_starts_17 ?_
  refine g_aload_n C dX12_starts_20 rfl 0 rfl ?_
  refine g_iconst C dX12_starts_21 ic_m1 ?_
  refine gM_put_faultAt C dX12_starts_22 ?_
  refine g_aload_n C dX12_starts_25 rfl 0 rfl ?_
  refine g_iconst C dX12_starts_26 ic_0 ?_
  refine gM_put_clauses C dX12_starts_27 ?_
  refine g_aload_n C dX12_starts_30 rfl 0 rfl ?_
  refine g_iconst C dX12_starts_31 ic_0 ?_
  refine gM_put_open C dX12_starts_32 ?_
  refine g_aload_n C dX12_starts_35 rfl 0 rfl ?_
  obtain ⟨g36, hr36, h⟩ := bnd h
  refine g_cVv (k := 0) (As := []) (rest := []) (go := g36) (xo := xo) C (fun sz => cM_blanks l D T ad xo (st (st (st (st (st (st (st g 0 1 (0 : Int32)) 0 2 x1) 0 4 (0 : Int32)) 0 5 (0 : Int32)) 0 6 (-1 : Int32)) 0 7 (0 : Int32)) 0 8 (0 : Int32)) _ hr36 sz) kM_blanks ⟨Nat.le_of_ble_eq_true rfl, Nat.le_of_ble_eq_true rfl⟩ ⟨rfl, rfl⟩ ⟨Nat.zero_le _, Nat.zero_le _⟩ (rfl : vwCl[11]? = some (RX12, TX12, 48)) kM0 rfl rfl (Nat.le_of_ble_eq_true rfl) dX12_starts_36 ?_
  obtain rfl := Option.some.inj h
  exact g_vret C rfl rfl dX12_starts_39
def fM_ends (g : St) : Int32 × St :=
  (((g 0 5) - (10 : Int32)), (st g 0 3 (g 0 6)))
def rmM_ends : Room := { frames := 0, cells := 0, slots := 0, locals := 0 }
abbrev GcM_ends (l : Launch) (D : va_G) (T : cT) (ad : Nat → Nat) (Γ : Cxt) (o : Int32 × St) (xo : Sl) (x : Sl) (g : St) (pc : Nat) (lv : List (Nat × Value)) (stk : List Value) : Prop := Gj l shM D T ad 1 (rmM_ends) 0 0 Γ (MQ Γ.below (va_Qi (eqI o.1 o.2 xo) (wPost shM D T ad Γ.A) Γ.A) Γ.args Γ.s 0 0 Γ.A) x g pc lv stk
set_option maxRecDepth 100000 in
set_option maxHeartbeats 4000000 in
theorem cM_ends (l : Launch) (D : va_G) (T : cT) (ad : Nat → Nat) (xo : Sl) (g : St) (o : Int32 × St) (h : fM_ends g = o) (sz : Nat) : Met l yX12_ends wM_ends (rmM_ends) (va_Pc [.ref (ad 0)] (wPre shM D T ad xo g sz)) (va_Qi (eqI o.1 o.2 xo) (wPost shM D T ad (aW shM T ad xo g sz)) (aW shM T ad xo g sz)) 0 0 (aW shM T ad xo g sz) := by
  refine g_start (Qc := fun A => va_Qi (eqI o.1 o.2 xo) (wPost shM D T ad A) A) (by decide +kernel) rfl rfl (Nat.le_of_ble_eq_true rfl) (lv := [(0, .ref (ad 0))]) rfl (fun Γ C => ?_)
  show GcM_ends l D T ad Γ o xo xo g 0 [(0, .ref (ad 0))] []
  refine g_aload_n C dX12_ends_0 rfl 0 rfl ?_
  refine g_aload_n C dX12_ends_1 rfl 0 rfl ?_
  refine gM_get_faultAt (v := g 0 6) C rfl dX12_ends_2 ?_
  refine gM_put_place C dX12_ends_5 ?_
  refine g_aload_n C dX12_ends_8 rfl 0 rfl ?_
  refine gM_get_fault (v := g 0 5) C rfl dX12_ends_9 ?_
  refine g_bipush C dX12_ends_12 bp_10 ?_
  refine g_isub C dX12_ends_14 ?_
  subst h
  exact g_iret C rfl rfl rfl dX12_ends_15
def fM_kindHere (g : St) : Option (Int32 × St) :=
  (fM_isWord (16 : Int32) (5 : Int32) (18 : Int32) (19 : Int32) (15 : Int32) (14 : Int32) g).bind fun ⟨r12, g12⟩ => (if r12 = 0 then
    ((fM_isWord (6 : Int32) (18 : Int32) (9 : Int32) (5 : Int32) (14 : Int32) (4 : Int32) g12).bind fun ⟨r31, g31⟩ => (if r31 = 0 then
    ((fM_isWord (13 : Int32) (15 : Int32) (19 : Int32) (20 : Int32) (0 : Int32) (0 : Int32) g31).bind fun ⟨r50, g50⟩ => (if r50 = 0 then
    (some ((-1 : Int32), g50))
  else
    (some ((2 : Int32), g50))))
  else
    (some ((1 : Int32), g31))))
  else
    (some ((0 : Int32), g12)))
def rmM_kindHere : Room := { frames := 4, cells := 0, slots := 0, locals := 89 }
abbrev GcM_kindHere (l : Launch) (D : va_G) (T : cT) (ad : Nat → Nat) (Γ : Cxt) (o : Int32 × St) (xo : Sl) (x : Sl) (g : St) (pc : Nat) (lv : List (Nat × Value)) (stk : List Value) : Prop := Gj l shM D T ad 1 (rmM_kindHere) 0 0 Γ (MQ Γ.below (va_Qi (eqI o.1 o.2 xo) (wPost shM D T ad Γ.A) Γ.A) Γ.args Γ.s 0 0 Γ.A) x g pc lv stk
set_option maxRecDepth 100000 in
set_option maxHeartbeats 4000000 in
theorem cM_kindHere (l : Launch) (D : va_G) (T : cT) (ad : Nat → Nat) (xo : Sl) (g : St) (o : Int32 × St) (h : fM_kindHere g = some o) (sz : Nat) : Met l yX12_kindHere wM_kindHere (rmM_kindHere) (va_Pc [.ref (ad 0)] (wPre shM D T ad xo g sz)) (va_Qi (eqI o.1 o.2 xo) (wPost shM D T ad (aW shM T ad xo g sz)) (aW shM T ad xo g sz)) 0 0 (aW shM T ad xo g sz) := by
  refine g_start (Qc := fun A => va_Qi (eqI o.1 o.2 xo) (wPost shM D T ad A) A) (by decide +kernel) rfl rfl (Nat.le_of_ble_eq_true rfl) (lv := [(0, .ref (ad 0))]) rfl (fun Γ C => ?_)
  show GcM_kindHere l D T ad Γ o xo xo g 0 [(0, .ref (ad 0))] []
  refine g_aload_n C dX12_kindHere_0 rfl 0 rfl ?_
  refine g_bipush C dX12_kindHere_1 bp_16 ?_
  refine g_iconst C dX12_kindHere_3 ic_5 ?_
  refine g_bipush C dX12_kindHere_4 bp_18 ?_
  refine g_bipush C dX12_kindHere_6 bp_19 ?_
  refine g_bipush C dX12_kindHere_8 bp_15 ?_
  refine g_bipush C dX12_kindHere_10 bp_14 ?_
  obtain ⟨⟨r12, g12⟩, hr12, h⟩ := bnd h
  refine g_cVz (k := 0) (As := [.int (16 : Int32), .int (5 : Int32), .int (18 : Int32), .int (19 : Int32), .int (15 : Int32), .int (14 : Int32)]) (rest := []) (ro := r12) (go := g12) (xo := xo) C (fun sz => cM_isWord l D T ad xo g (16 : Int32) (5 : Int32) (18 : Int32) (19 : Int32) (15 : Int32) (14 : Int32) _ hr12 sz) kM_isWord ⟨Nat.le_of_ble_eq_true rfl, Nat.le_of_ble_eq_true rfl⟩ ⟨rfl, rfl⟩ ⟨Nat.zero_le _, Nat.zero_le _⟩ (rfl : vwCl[11]? = some (RX12, TX12, 48)) kM0 rfl rfl (Nat.le_of_ble_eq_true rfl) dX12_kindHere_12 (fun hz12 => ?_)
  refine g_if_eq C 20 dX12_kindHere_15 (by decide) (fun c15 => ?_) (fun c15 => ?_)
  · have h := iteT c15 h
    refine g_aload_n C dX12_kindHere_20 rfl 0 rfl ?_
    refine g_bipush C dX12_kindHere_21 bp_6 ?_
    refine g_bipush C dX12_kindHere_23 bp_18 ?_
    refine g_bipush C dX12_kindHere_25 bp_9 ?_
    refine g_iconst C dX12_kindHere_27 ic_5 ?_
    refine g_bipush C dX12_kindHere_28 bp_14 ?_
    refine g_iconst C dX12_kindHere_30 ic_4 ?_
    obtain ⟨⟨r31, g31⟩, hr31, h⟩ := bnd h
    refine g_cVz (k := 0) (As := [.int (6 : Int32), .int (18 : Int32), .int (9 : Int32), .int (5 : Int32), .int (14 : Int32), .int (4 : Int32)]) (rest := []) (ro := r31) (go := g31) (xo := xo) C (fun sz => cM_isWord l D T ad xo g12 (6 : Int32) (18 : Int32) (9 : Int32) (5 : Int32) (14 : Int32) (4 : Int32) _ hr31 sz) kM_isWord ⟨Nat.le_of_ble_eq_true rfl, Nat.le_of_ble_eq_true rfl⟩ ⟨rfl, rfl⟩ ⟨Nat.zero_le _, Nat.zero_le _⟩ (rfl : vwCl[11]? = some (RX12, TX12, 48)) kM0 rfl rfl (Nat.le_of_ble_eq_true rfl) dX12_kindHere_31 (fun hz31 => ?_)
    refine g_if_eq C 39 dX12_kindHere_34 (by decide) (fun c34 => ?_) (fun c34 => ?_)
    · have h := iteT c34 h
      refine g_aload_n C dX12_kindHere_39 rfl 0 rfl ?_
      refine g_bipush C dX12_kindHere_40 bp_13 ?_
      refine g_bipush C dX12_kindHere_42 bp_15 ?_
      refine g_bipush C dX12_kindHere_44 bp_19 ?_
      refine g_bipush C dX12_kindHere_46 bp_20 ?_
      refine g_iconst C dX12_kindHere_48 ic_0 ?_
      refine g_iconst C dX12_kindHere_49 ic_0 ?_
      obtain ⟨⟨r50, g50⟩, hr50, h⟩ := bnd h
      refine g_cVz (k := 0) (As := [.int (13 : Int32), .int (15 : Int32), .int (19 : Int32), .int (20 : Int32), .int (0 : Int32), .int (0 : Int32)]) (rest := []) (ro := r50) (go := g50) (xo := xo) C (fun sz => cM_isWord l D T ad xo g31 (13 : Int32) (15 : Int32) (19 : Int32) (20 : Int32) (0 : Int32) (0 : Int32) _ hr50 sz) kM_isWord ⟨Nat.le_of_ble_eq_true rfl, Nat.le_of_ble_eq_true rfl⟩ ⟨rfl, rfl⟩ ⟨Nat.zero_le _, Nat.zero_le _⟩ (rfl : vwCl[11]? = some (RX12, TX12, 48)) kM0 rfl rfl (Nat.le_of_ble_eq_true rfl) dX12_kindHere_50 (fun hz50 => ?_)
      refine g_if_eq C 60 dX12_kindHere_53 (by decide) (fun c53 => ?_) (fun c53 => ?_)
      · have h := iteT c53 h
        refine g_iconst C dX12_kindHere_60 ic_m1 ?_
        obtain rfl := Option.some.inj h
        exact g_iret C rfl rfl rfl dX12_kindHere_61
      · have h := iteF c53 h
        refine g_iconst C dX12_kindHere_56 ic_2 ?_
        refine g_goto (tgt := 61) C dX12_kindHere_57 (by decide) ?_
        obtain rfl := Option.some.inj h
        exact g_iret C rfl rfl rfl dX12_kindHere_61
    · have h := iteF c34 h
      refine g_iconst C dX12_kindHere_37 ic_1 ?_
      obtain rfl := Option.some.inj h
      exact g_iret C rfl rfl rfl dX12_kindHere_38
  · have h := iteF c15 h
    refine g_iconst C dX12_kindHere_18 ic_0 ?_
    obtain rfl := Option.some.inj h
    exact g_iret C rfl rfl rfl dX12_kindHere_19
def fM_friends_b55 (x1 : Int32) (x3 : Int32) (g : St) : Option (St) :=
  if (g 0 5) = 0 then
    (if ¬ (x1 < 0 ∨ 8 ≤ x1.toNatClampNeg) then (if ¬ (x3 < 0 ∨ 8 ≤ x3.toNatClampNeg) then (some (st (st g 7 x1.toNatClampNeg ((g 7 x1.toNatClampNeg) ||| ((1 : Int32) <<< (x3 &&& 31)))) 7 x3.toNatClampNeg (((st g 7 x1.toNatClampNeg ((g 7 x1.toNatClampNeg) ||| ((1 : Int32) <<< (x3 &&& 31)))) 7 x3.toNatClampNeg) ||| ((1 : Int32) <<< (x1 &&& 31))))) else none) else none)
  else
    (some g)
def fM_friends (g : St) : Option (St) :=
  (fM_number (0 : Int32) ((g 3 0) - (1 : Int32)) g).bind fun ⟨r10, g10⟩ => ((fM_blanks g10).bind fun g15 => ((fM_number (0 : Int32) ((g15 3 0) - (1 : Int32)) g15).bind fun ⟨r33, g33⟩ => (if (g33 0 5) = 0 then
    (if r10 = r33 then
    (lt1 (fM_wrong (2 : Int32) (g15 0 4) g33) fun g52 => (fM_friends_b55 r10 r33 g52))
  else
    (fM_friends_b55 r10 r33 g33))
  else
    (fM_friends_b55 r10 r33 g33))))
def rmM_friends : Room := { frames := 3, cells := 0, slots := 0, locals := 65 }
abbrev GcM_friends (l : Launch) (D : va_G) (T : cT) (ad : Nat → Nat) (Γ : Cxt) (o : St) (xo : Sl) (x : Sl) (g : St) (pc : Nat) (lv : List (Nat × Value)) (stk : List Value) : Prop := Gj l shM D T ad 4 (rmM_friends) 0 0 Γ (MQ Γ.below (va_Qv (eqV o xo) (wPost shM D T ad Γ.A) Γ.A) Γ.args Γ.s 0 0 Γ.A) x g pc lv stk
set_option maxRecDepth 100000 in
set_option maxHeartbeats 4000000 in
theorem cM_friends (l : Launch) (D : va_G) (T : cT) (ad : Nat → Nat) (xo : Sl) (g : St) (o : St) (h : fM_friends g = some o) (sz : Nat) : Met l yX12_friends wM_friends (rmM_friends) (va_Pc [.ref (ad 0)] (wPre shM D T ad xo g sz)) (va_Qv (eqV o xo) (wPost shM D T ad (aW shM T ad xo g sz)) (aW shM T ad xo g sz)) 0 0 (aW shM T ad xo g sz) := by
  refine g_start (Qc := fun A => va_Qv (eqV o xo) (wPost shM D T ad A) A) (by decide +kernel) rfl rfl (Nat.le_of_ble_eq_true rfl) (lv := [(0, .ref (ad 0))]) rfl (fun Γ C => ?_)
  show GcM_friends l D T ad Γ o xo xo g 0 [(0, .ref (ad 0))] []
  have J55 : ∀ (x1 : Int32) (x3 : Int32) (g : St), fM_friends_b55 x1 x3 g = some o → GcM_friends l D T ad Γ o xo xo g 55 [(0, .ref (ad 0)), (1, .int x1), (3, .int x3)] [] := by
    intro x1 x3 g h
    refine g_aload_n C dX12_friends_55 rfl 0 rfl ?_
    refine gM_get_fault (v := g 0 5) C rfl dX12_friends_56 ?_
    refine g_if_eq C 63 dX12_friends_59 (by decide) (fun c59 => ?_) (fun c59 => ?_)
    · have h := iteT c59 h
      refine g_aload_n C dX12_friends_63 rfl 0 rfl ?_
      refine gM_get_readFriend C dX12_friends_64 ?_
      refine g_iload_n C dX12_friends_67 rfl 1 rfl ?_
      refine g_dup2 C dX12_friends_68 rfl rfl ?_
      obtain ⟨hi69, h⟩ := grd h
      refine g_iald (n := 8) (v := g 7 x1.toNatClampNeg) C ln_7 hi69 rfl dX12_friends_69 ?_
      refine g_iconst C dX12_friends_70 ic_1 ?_
      refine g_iload_n C dX12_friends_71 rfl 2 rfl ?_
      refine g_ishl C dX12_friends_72 ?_
      refine g_ior C dX12_friends_73 ?_
      refine g_iast (n := 8) (q := x1.toNatClampNeg) C ln_7 hi69 rfl dX12_friends_74 ?_
      refine g_aload_n C dX12_friends_75 rfl 0 rfl ?_
      refine gM_get_readFriend C dX12_friends_76 ?_
      refine g_iload_n C dX12_friends_79 rfl 2 rfl ?_
      refine g_dup2 C dX12_friends_80 rfl rfl ?_
      obtain ⟨hi81, h⟩ := grd h
      refine g_iald (n := 8) (v := (st g 7 x1.toNatClampNeg ((g 7 x1.toNatClampNeg) ||| ((1 : Int32) <<< (x3 &&& 31)))) 7 x3.toNatClampNeg) C ln_7 hi81 rfl dX12_friends_81 ?_
      refine g_iconst C dX12_friends_82 ic_1 ?_
      refine g_iload_n C dX12_friends_83 rfl 1 rfl ?_
      refine g_ishl C dX12_friends_84 ?_
      refine g_ior C dX12_friends_85 ?_
      refine g_iast (n := 8) (q := x3.toNatClampNeg) C ln_7 hi81 rfl dX12_friends_86 ?_
      obtain rfl := Option.some.inj h
      exact g_vret C rfl rfl dX12_friends_87
    · have h := iteF c59 h
      obtain rfl := Option.some.inj h
      exact g_vret C rfl rfl dX12_friends_62
  refine g_aload_n C dX12_friends_0 rfl 0 rfl ?_
  refine g_iconst C dX12_friends_1 ic_0 ?_
  refine g_aload_n C dX12_friends_2 rfl 0 rfl ?_
  refine gM_get_readTold C dX12_friends_3 ?_
  refine g_iconst C dX12_friends_6 ic_0 ?_
  refine g_iald (n := 2) (v := g 3 0) C ln_3 (by decide) rfl dX12_friends_7 ?_
  refine g_iconst C dX12_friends_8 ic_1 ?_
  refine g_isub C dX12_friends_9 ?_
  obtain ⟨⟨r10, g10⟩, hr10, h⟩ := bnd h
  refine g_cVi (k := 0) (As := [.int (0 : Int32), .int ((g 3 0) - (1 : Int32))]) (rest := []) (ro := r10) (go := g10) (xo := xo) C (fun sz => cM_number l D T ad xo g (0 : Int32) ((g 3 0) - (1 : Int32)) _ hr10 sz) kM_number ⟨Nat.le_of_ble_eq_true rfl, Nat.le_of_ble_eq_true rfl⟩ ⟨rfl, rfl⟩ ⟨Nat.zero_le _, Nat.zero_le _⟩ (rfl : vwCl[11]? = some (RX12, TX12, 48)) kM0 rfl rfl (Nat.le_of_ble_eq_true rfl) dX12_friends_10 ?_
  refine g_istore_n (lv' := [(1, .int r10), (0, .ref (ad 0))]) C dX12_friends_13 rfl (Nat.le_of_ble_eq_true rfl) rfl ?_
  refine g_aload_n C dX12_friends_14 rfl 1 rfl ?_
  obtain ⟨g15, hr15, h⟩ := bnd h
  refine g_cVv (k := 0) (As := []) (rest := []) (go := g15) (xo := xo) C (fun sz => cM_blanks l D T ad xo g10 _ hr15 sz) kM_blanks ⟨Nat.le_of_ble_eq_true rfl, Nat.le_of_ble_eq_true rfl⟩ ⟨rfl, rfl⟩ ⟨Nat.zero_le _, Nat.zero_le _⟩ (rfl : vwCl[11]? = some (RX12, TX12, 48)) kM0 rfl rfl (Nat.le_of_ble_eq_true rfl) dX12_friends_15 ?_
  refine g_aload_n C dX12_friends_18 rfl 1 rfl ?_
  refine gM_get_at (v := g15 0 4) C rfl dX12_friends_19 ?_
  refine g_istore_n (lv' := [(2, .int (g15 0 4)), (1, .int r10), (0, .ref (ad 0))]) C dX12_friends_22 rfl (Nat.le_of_ble_eq_true rfl) rfl ?_
  refine g_aload_n C dX12_friends_23 rfl 2 rfl ?_
  refine g_iconst C dX12_friends_24 ic_0 ?_
  refine g_aload_n C dX12_friends_25 rfl 2 rfl ?_
  refine gM_get_readTold C dX12_friends_26 ?_
  refine g_iconst C dX12_friends_29 ic_0 ?_
  refine g_iald (n := 2) (v := g15 3 0) C ln_3 (by decide) rfl dX12_friends_30 ?_
  refine g_iconst C dX12_friends_31 ic_1 ?_
  refine g_isub C dX12_friends_32 ?_
  obtain ⟨⟨r33, g33⟩, hr33, h⟩ := bnd h
  refine g_cVi (k := 0) (As := [.int (0 : Int32), .int ((g15 3 0) - (1 : Int32))]) (rest := []) (ro := r33) (go := g33) (xo := xo) C (fun sz => cM_number l D T ad xo g15 (0 : Int32) ((g15 3 0) - (1 : Int32)) _ hr33 sz) kM_number ⟨Nat.le_of_ble_eq_true rfl, Nat.le_of_ble_eq_true rfl⟩ ⟨rfl, rfl⟩ ⟨Nat.zero_le _, Nat.zero_le _⟩ (rfl : vwCl[11]? = some (RX12, TX12, 48)) kM0 rfl rfl (Nat.le_of_ble_eq_true rfl) dX12_friends_33 ?_
  refine g_istore_n (lv' := [(3, .int r33), (2, .int (g15 0 4)), (1, .int r10), (0, .ref (ad 0))]) C dX12_friends_36 rfl (Nat.le_of_ble_eq_true rfl) rfl ?_
  refine g_aload_n C dX12_friends_37 rfl 3 rfl ?_
  refine gM_get_fault (v := g33 0 5) C rfl dX12_friends_38 ?_
  refine g_if_ne C 55 dX12_friends_41 (by decide) (fun c41 => ?_) (fun c41 => ?_)
  · have h := iteT c41 h
    refine g_iload_n C dX12_friends_44 rfl 2 rfl ?_
    refine g_iload_n C dX12_friends_45 rfl 0 rfl ?_
    refine g_icmp_ne C 55 dX12_friends_46 (by decide) (fun c46 => ?_) (fun c46 => ?_)
    · have h := iteT c46 h
      refine g_aload_n C dX12_friends_49 rfl 3 rfl ?_
      refine g_iconst C dX12_friends_50 ic_2 ?_
      refine g_iload_n C dX12_friends_51 rfl 1 rfl ?_
      obtain ⟨g52, hr52, h⟩ := ltb h
      refine g_cVv (k := 0) (As := [.int (2 : Int32), .int (g15 0 4)]) (rest := []) (go := g52) (xo := xo) C (fun sz => cM_wrong l D T ad xo g33 (2 : Int32) (g15 0 4) _ hr52 sz) kM_wrong ⟨Nat.le_of_ble_eq_true rfl, Nat.le_of_ble_eq_true rfl⟩ ⟨rfl, rfl⟩ ⟨Nat.zero_le _, Nat.zero_le _⟩ (rfl : vwCl[11]? = some (RX12, TX12, 48)) kM0 rfl rfl (Nat.le_of_ble_eq_true rfl) dX12_friends_52 ?_
      exact g_sub [3, 2, 0] rfl (J55 r10 r33 g52 h)
    · have h := iteF c46 h
      exact g_sub [3, 2, 0] rfl (J55 r10 r33 g33 h)
  · have h := iteF c41 h
    exact g_sub [3, 2, 0] rfl (J55 r10 r33 g33 h)
def fM_clause_b176 (s1 : Int32) (s2 : Int32) (s3 : Int32) (g : St) : Option (St) :=
  if ¬ (s1 < 0 ∨ 2 ≤ s1.toNatClampNeg) then (some (st g 3 s1.toNatClampNeg (s2 + s3))) else none
def fM_clause_b147 (x1 : Int32) (g : St) : Option (St) :=
  (fM_sign (59 : Int32) g).bind fun g150 => (if x1 = 0 then
    (if (g150 0 5) = 0 then
    (fM_clause_b176 (0 : Int32) (g150 3 0) (1 : Int32) g150)
  else
    (fM_clause_b176 (0 : Int32) (g150 3 0) (0 : Int32) g150))
  else
    (some g150))
def fM_clause_b130 (x1 : Int32) (g : St) : Option (St) :=
  if x1 = (2 : Int32) then
    ((fM_number (1 : Int32) (4 : Int32) g).bind fun ⟨r143, g143⟩ => (fM_clause_b147 x1 (st g143 3 1 r143)))
  else
    (fM_clause_b147 x1 g)
def fM_clause_b121 (x1 : Int32) (g : St) : Option (St) :=
  if x1 = (1 : Int32) then
    ((fM_friends g).bind fun g127 => (fM_clause_b130 x1 g127))
  else
    (fM_clause_b130 x1 g)
def fM_clause_b55 (x1 : Int32) (g : St) : Option (St) :=
  if (g 0 5) = 0 then
    ((fM_skipWord g).bind fun g64 => (if x1 = 0 then
    (if ¬ ((g64 3 0) < 0 ∨ 8 ≤ (g64 3 0).toNatClampNeg) then ((fM_number (0 : Int32) (9 : Int32) (st g64 0 7 ((g64 0 7) + (1 : Int32)))).bind fun ⟨r97, g97⟩ => (if ¬ (((st g97 (26 + (g64 3 0).toNatClampNeg) 0 r97) 3 0) < 0 ∨ 8 ≤ ((st g97 (26 + (g64 3 0).toNatClampNeg) 0 r97) 3 0).toNatClampNeg) then ((fM_number (0 : Int32) (60 : Int32) (st g97 (26 + (g64 3 0).toNatClampNeg) 0 r97)).bind fun ⟨r117, g117⟩ => (fM_clause_b121 x1 (st g117 (26 + ((st g97 (26 + (g64 3 0).toNatClampNeg) 0 r97) 3 0).toNatClampNeg) 1 r117))) else none)) else none)
  else
    (fM_clause_b121 x1 (st g64 0 7 ((g64 0 7) + (1 : Int32))))))
  else
    (some g)
def fM_clause_b46 (x1 : Int32) (g : St) : Option (St) :=
  lt1 (fM_wrong (3 : Int32) (g 0 4) g) fun g52 => (fM_clause_b55 x1 g52)
def fM_clause (g : St) : Option (St) :=
  (fM_kindHere g).bind fun ⟨r1, g1⟩ => (if r1 = (-1 : Int32) then
    (lt1 (fM_wrong (1 : Int32) (g1 0 4) g1) fun g16 => (fM_clause_b55 r1 g16))
  else
    (if (g1 0 7) = (60 : Int32) then
    (fM_clause_b46 r1 g1)
  else
    (if r1 = 0 then
    (if (g1 3 0) = (8 : Int32) then
    (fM_clause_b46 r1 g1)
  else
    (fM_clause_b55 r1 g1))
  else
    (fM_clause_b55 r1 g1))))
def rmM_clause : Room := { frames := 5, cells := 0, slots := 0, locals := 109 }
abbrev GcM_clause (l : Launch) (D : va_G) (T : cT) (ad : Nat → Nat) (Γ : Cxt) (o : St) (xo : Sl) (x : Sl) (g : St) (pc : Nat) (lv : List (Nat × Value)) (stk : List Value) : Prop := Gj l shM D T ad 2 (rmM_clause) 0 0 Γ (MQ Γ.below (va_Qv (eqV o xo) (wPost shM D T ad Γ.A) Γ.A) Γ.args Γ.s 0 0 Γ.A) x g pc lv stk
set_option maxRecDepth 100000 in
set_option maxHeartbeats 4000000 in
theorem cM_clause (l : Launch) (D : va_G) (T : cT) (ad : Nat → Nat) (xo : Sl) (g : St) (o : St) (h : fM_clause g = some o) (sz : Nat) : Met l yX12_clause wM_clause (rmM_clause) (va_Pc [.ref (ad 0)] (wPre shM D T ad xo g sz)) (va_Qv (eqV o xo) (wPost shM D T ad (aW shM T ad xo g sz)) (aW shM T ad xo g sz)) 0 0 (aW shM T ad xo g sz) := by
  refine g_start (Qc := fun A => va_Qv (eqV o xo) (wPost shM D T ad A) A) (by decide +kernel) rfl rfl (Nat.le_of_ble_eq_true rfl) (lv := [(0, .ref (ad 0))]) rfl (fun Γ C => ?_)
  show GcM_clause l D T ad Γ o xo xo g 0 [(0, .ref (ad 0))] []
  have J176 : ∀ (s1 : Int32) (s2 : Int32) (s3 : Int32) (g : St), fM_clause_b176 s1 s2 s3 g = some o → GcM_clause l D T ad Γ o xo xo g 176 [] [.int s3, .int s2, .int s1, .ref (ad 3)] := by
    intro s1 s2 s3 g h
    refine g_iadd C dX12_clause_176 ?_
    obtain ⟨hi177, h⟩ := grd h
    refine g_iast (n := 2) (q := s1.toNatClampNeg) C ln_3 hi177 rfl dX12_clause_177 ?_
    obtain rfl := Option.some.inj h
    exact g_vret C rfl rfl dX12_clause_178
  have J147 : ∀ (x1 : Int32) (g : St), fM_clause_b147 x1 g = some o → GcM_clause l D T ad Γ o xo xo g 147 [(0, .ref (ad 0)), (1, .int x1)] [] := by
    intro x1 g h
    refine g_aload_n C dX12_clause_147 rfl 0 rfl ?_
    refine g_bipush C dX12_clause_148 bp_59 ?_
    obtain ⟨g150, hr150, h⟩ := bnd h
    refine g_cVv (k := 0) (As := [.int (59 : Int32)]) (rest := []) (go := g150) (xo := xo) C (fun sz => cM_sign l D T ad xo g (59 : Int32) _ hr150 sz) kM_sign ⟨Nat.le_of_ble_eq_true rfl, Nat.le_of_ble_eq_true rfl⟩ ⟨rfl, rfl⟩ ⟨Nat.zero_le _, Nat.zero_le _⟩ (rfl : vwCl[11]? = some (RX12, TX12, 48)) kM0 rfl rfl (Nat.le_of_ble_eq_true rfl) dX12_clause_150 ?_
    refine g_iload_n C dX12_clause_153 rfl 1 rfl ?_
    refine g_if_ne C 178 dX12_clause_154 (by decide) (fun c154 => ?_) (fun c154 => ?_)
    · have h := iteT c154 h
      refine g_aload_n C dX12_clause_157 rfl 0 rfl ?_
      refine gM_get_readTold C dX12_clause_158 ?_
      refine g_iconst C dX12_clause_161 ic_0 ?_
      refine g_dup2 C dX12_clause_162 rfl rfl ?_
      refine g_iald (n := 2) (v := g150 3 0) C ln_3 (by decide) rfl dX12_clause_163 ?_
      refine g_aload_n C dX12_clause_164 rfl 0 rfl ?_
      refine gM_get_fault (v := g150 0 5) C rfl dX12_clause_165 ?_
      refine g_if_ne C 175 dX12_clause_168 (by decide) (fun c168 => ?_) (fun c168 => ?_)
      · have h := iteT c168 h
        refine g_iconst C dX12_clause_171 ic_1 ?_
        refine g_goto (tgt := 176) C dX12_clause_172 (by decide) ?_
        exact g_sub [] rfl (J176 (0 : Int32) (g150 3 0) (1 : Int32) g150 h)
      · have h := iteF c168 h
        refine g_iconst C dX12_clause_175 ic_0 ?_
        exact g_sub [] rfl (J176 (0 : Int32) (g150 3 0) (0 : Int32) g150 h)
    · have h := iteF c154 h
      obtain rfl := Option.some.inj h
      exact g_vret C rfl rfl dX12_clause_178
  have J130 : ∀ (x1 : Int32) (g : St), fM_clause_b130 x1 g = some o → GcM_clause l D T ad Γ o xo xo g 130 [(0, .ref (ad 0)), (1, .int x1)] [] := by
    intro x1 g h
    refine g_iload_n C dX12_clause_130 rfl 1 rfl ?_
    refine g_iconst C dX12_clause_131 ic_2 ?_
    refine g_icmp_ne C 147 dX12_clause_132 (by decide) (fun c132 => ?_) (fun c132 => ?_)
    · have h := iteT c132 h
      refine g_aload_n C dX12_clause_135 rfl 0 rfl ?_
      refine gM_get_readTold C dX12_clause_136 ?_
      refine g_iconst C dX12_clause_139 ic_1 ?_
      refine g_aload_n C dX12_clause_140 rfl 0 rfl ?_
      refine g_iconst C dX12_clause_141 ic_1 ?_
      refine g_iconst C dX12_clause_142 ic_4 ?_
      obtain ⟨⟨r143, g143⟩, hr143, h⟩ := bnd h
      refine g_cVi (k := 0) (As := [.int (1 : Int32), .int (4 : Int32)]) (rest := [.int (1 : Int32), .ref (ad 3)]) (ro := r143) (go := g143) (xo := xo) C (fun sz => cM_number l D T ad xo g (1 : Int32) (4 : Int32) _ hr143 sz) kM_number ⟨Nat.le_of_ble_eq_true rfl, Nat.le_of_ble_eq_true rfl⟩ ⟨rfl, rfl⟩ ⟨Nat.zero_le _, Nat.zero_le _⟩ (rfl : vwCl[11]? = some (RX12, TX12, 48)) kM0 rfl rfl (Nat.le_of_ble_eq_true rfl) dX12_clause_143 ?_
      refine g_iast (n := 2) (q := 1) C ln_3 (by decide) cl_1 dX12_clause_146 ?_
      exact J147 x1 (st g143 3 1 r143) h
    · have h := iteF c132 h
      exact J147 x1 g h
  have J121 : ∀ (x1 : Int32) (g : St), fM_clause_b121 x1 g = some o → GcM_clause l D T ad Γ o xo xo g 121 [(0, .ref (ad 0)), (1, .int x1)] [] := by
    intro x1 g h
    refine g_iload_n C dX12_clause_121 rfl 1 rfl ?_
    refine g_iconst C dX12_clause_122 ic_1 ?_
    refine g_icmp_ne C 130 dX12_clause_123 (by decide) (fun c123 => ?_) (fun c123 => ?_)
    · have h := iteT c123 h
      refine g_aload_n C dX12_clause_126 rfl 0 rfl ?_
      obtain ⟨g127, hr127, h⟩ := bnd h
      refine g_cVv (k := 0) (As := []) (rest := []) (go := g127) (xo := xo) C (fun sz => cM_friends l D T ad xo g _ hr127 sz) kM_friends ⟨Nat.le_of_ble_eq_true rfl, Nat.le_of_ble_eq_true rfl⟩ ⟨rfl, rfl⟩ ⟨Nat.zero_le _, Nat.zero_le _⟩ (rfl : vwCl[11]? = some (RX12, TX12, 48)) kM0 rfl rfl (Nat.le_of_ble_eq_true rfl) dX12_clause_127 ?_
      exact J130 x1 g127 h
    · have h := iteF c123 h
      exact J130 x1 g h
  have J55 : ∀ (x1 : Int32) (g : St), fM_clause_b55 x1 g = some o → GcM_clause l D T ad Γ o xo xo g 55 [(0, .ref (ad 0)), (1, .int x1)] [] := by
    intro x1 g h
    refine g_aload_n C dX12_clause_55 rfl 0 rfl ?_
    refine gM_get_fault (v := g 0 5) C rfl dX12_clause_56 ?_
    refine g_if_eq C 63 dX12_clause_59 (by decide) (fun c59 => ?_) (fun c59 => ?_)
    · have h := iteT c59 h
      refine g_aload_n C dX12_clause_63 rfl 0 rfl ?_
      obtain ⟨g64, hr64, h⟩ := bnd h
      refine g_cVv (k := 0) (As := []) (rest := []) (go := g64) (xo := xo) C (fun sz => cM_skipWord l D T ad xo g _ hr64 sz) kM_skipWord ⟨Nat.le_of_ble_eq_true rfl, Nat.le_of_ble_eq_true rfl⟩ ⟨rfl, rfl⟩ ⟨Nat.zero_le _, Nat.zero_le _⟩ (rfl : vwCl[11]? = some (RX12, TX12, 48)) kM0 rfl rfl (Nat.le_of_ble_eq_true rfl) dX12_clause_64 ?_
      refine g_aload_n C dX12_clause_67 rfl 0 rfl ?_
      refine g_dup C dX12_clause_68 rfl ?_
      refine gM_get_clauses (v := g64 0 7) C rfl dX12_clause_69 ?_
      refine g_iconst C dX12_clause_72 ic_1 ?_
      refine g_iadd C dX12_clause_73 ?_
      refine gM_put_clauses C dX12_clause_74 ?_
      refine g_iload_n C dX12_clause_77 rfl 1 rfl ?_
      refine g_if_ne C 121 dX12_clause_78 (by decide) (fun c78 => ?_) (fun c78 => ?_)
      · have h := iteT c78 h
        refine g_aload_n C dX12_clause_81 rfl 0 rfl ?_
        refine gM_get_readPerson C dX12_clause_82 ?_
        refine g_aload_n C dX12_clause_85 rfl 0 rfl ?_
        refine gM_get_readTold C dX12_clause_86 ?_
        refine g_iconst C dX12_clause_89 ic_0 ?_
        refine g_iald (n := 2) (v := g64 3 0) C ln_3 (by decide) rfl dX12_clause_90 ?_
        obtain ⟨hi91, h⟩ := grd h
        refine g_aald (n := 8) (q := (26 + (g64 3 0).toNatClampNeg)) C lg_5 hi91 rfl dX12_clause_91 ?_
        refine g_iconst C dX12_clause_92 ic_0 ?_
        refine g_aload_n C dX12_clause_93 rfl 0 rfl ?_
        refine g_iconst C dX12_clause_94 ic_0 ?_
        refine g_bipush C dX12_clause_95 bp_9 ?_
        obtain ⟨⟨r97, g97⟩, hr97, h⟩ := bnd h
        refine g_cVi (k := 0) (As := [.int (0 : Int32), .int (9 : Int32)]) (rest := [.int (0 : Int32), .ref (ad (26 + (g64 3 0).toNatClampNeg))]) (ro := r97) (go := g97) (xo := xo) C (fun sz => cM_number l D T ad xo (st g64 0 7 ((g64 0 7) + (1 : Int32))) (0 : Int32) (9 : Int32) _ hr97 sz) kM_number ⟨Nat.le_of_ble_eq_true rfl, Nat.le_of_ble_eq_true rfl⟩ ⟨rfl, rfl⟩ ⟨Nat.zero_le _, Nat.zero_le _⟩ (rfl : vwCl[11]? = some (RX12, TX12, 48)) kM0 rfl rfl (Nat.le_of_ble_eq_true rfl) dX12_clause_97 ?_
        refine g_iast (n := 2) (q := 0) C (lenM_readPerson hi91) (by decide) cl_0 dX12_clause_100 ?_
        refine g_aload_n C dX12_clause_101 rfl 0 rfl ?_
        refine gM_get_readPerson C dX12_clause_102 ?_
        refine g_aload_n C dX12_clause_105 rfl 0 rfl ?_
        refine gM_get_readTold C dX12_clause_106 ?_
        refine g_iconst C dX12_clause_109 ic_0 ?_
        refine g_iald (n := 2) (v := (st g97 (26 + (g64 3 0).toNatClampNeg) 0 r97) 3 0) C ln_3 (by decide) rfl dX12_clause_110 ?_
        obtain ⟨hi111, h⟩ := grd h
        refine g_aald (n := 8) (q := (26 + ((st g97 (26 + (g64 3 0).toNatClampNeg) 0 r97) 3 0).toNatClampNeg)) C lg_5 hi111 rfl dX12_clause_111 ?_
        refine g_iconst C dX12_clause_112 ic_1 ?_
        refine g_aload_n C dX12_clause_113 rfl 0 rfl ?_
        refine g_iconst C dX12_clause_114 ic_0 ?_
        refine g_bipush C dX12_clause_115 bp_60 ?_
        obtain ⟨⟨r117, g117⟩, hr117, h⟩ := bnd h
        refine g_cVi (k := 0) (As := [.int (0 : Int32), .int (60 : Int32)]) (rest := [.int (1 : Int32), .ref (ad (26 + ((st g97 (26 + (g64 3 0).toNatClampNeg) 0 r97) 3 0).toNatClampNeg))]) (ro := r117) (go := g117) (xo := xo) C (fun sz => cM_number l D T ad xo (st g97 (26 + (g64 3 0).toNatClampNeg) 0 r97) (0 : Int32) (60 : Int32) _ hr117 sz) kM_number ⟨Nat.le_of_ble_eq_true rfl, Nat.le_of_ble_eq_true rfl⟩ ⟨rfl, rfl⟩ ⟨Nat.zero_le _, Nat.zero_le _⟩ (rfl : vwCl[11]? = some (RX12, TX12, 48)) kM0 rfl rfl (Nat.le_of_ble_eq_true rfl) dX12_clause_117 ?_
        refine g_iast (n := 2) (q := 1) C (lenM_readPerson hi111) (by decide) cl_1 dX12_clause_120 ?_
        exact J121 x1 (st g117 (26 + ((st g97 (26 + (g64 3 0).toNatClampNeg) 0 r97) 3 0).toNatClampNeg) 1 r117) h
      · have h := iteF c78 h
        exact J121 x1 (st g64 0 7 ((g64 0 7) + (1 : Int32))) h
    · have h := iteF c59 h
      obtain rfl := Option.some.inj h
      exact g_vret C rfl rfl dX12_clause_62
  have J46 : ∀ (x1 : Int32) (g : St), fM_clause_b46 x1 g = some o → GcM_clause l D T ad Γ o xo xo g 46 [(0, .ref (ad 0)), (1, .int x1)] [] := by
    intro x1 g h
    refine g_aload_n C dX12_clause_46 rfl 0 rfl ?_
    refine g_iconst C dX12_clause_47 ic_3 ?_
    refine g_aload_n C dX12_clause_48 rfl 0 rfl ?_
    refine gM_get_at (v := g 0 4) C rfl dX12_clause_49 ?_
    obtain ⟨g52, hr52, h⟩ := ltb h
    refine g_cVv (k := 0) (As := [.int (3 : Int32), .int (g 0 4)]) (rest := []) (go := g52) (xo := xo) C (fun sz => cM_wrong l D T ad xo g (3 : Int32) (g 0 4) _ hr52 sz) kM_wrong ⟨Nat.le_of_ble_eq_true rfl, Nat.le_of_ble_eq_true rfl⟩ ⟨rfl, rfl⟩ ⟨Nat.zero_le _, Nat.zero_le _⟩ (rfl : vwCl[11]? = some (RX12, TX12, 48)) kM0 rfl rfl (Nat.le_of_ble_eq_true rfl) dX12_clause_52 ?_
    exact J55 x1 g52 h
  refine g_aload_n C dX12_clause_0 rfl 0 rfl ?_
  obtain ⟨⟨r1, g1⟩, hr1, h⟩ := bnd h
  refine g_cVi (k := 0) (As := []) (rest := []) (ro := r1) (go := g1) (xo := xo) C (fun sz => cM_kindHere l D T ad xo g _ hr1 sz) kM_kindHere ⟨Nat.le_of_ble_eq_true rfl, Nat.le_of_ble_eq_true rfl⟩ ⟨rfl, rfl⟩ ⟨Nat.zero_le _, Nat.zero_le _⟩ (rfl : vwCl[11]? = some (RX12, TX12, 48)) kM0 rfl rfl (Nat.le_of_ble_eq_true rfl) dX12_clause_1 ?_
  refine g_istore_n (lv' := [(1, .int r1), (0, .ref (ad 0))]) C dX12_clause_4 rfl (Nat.le_of_ble_eq_true rfl) rfl ?_
  refine g_iload_n C dX12_clause_5 rfl 0 rfl ?_
  refine g_iconst C dX12_clause_6 ic_m1 ?_
  refine g_icmp_ne C 22 dX12_clause_7 (by decide) (fun c7 => ?_) (fun c7 => ?_)
  · have h := iteT c7 h
    refine g_aload_n C dX12_clause_10 rfl 1 rfl ?_
    refine g_iconst C dX12_clause_11 ic_1 ?_
    refine g_aload_n C dX12_clause_12 rfl 1 rfl ?_
    refine gM_get_at (v := g1 0 4) C rfl dX12_clause_13 ?_
    obtain ⟨g16, hr16, h⟩ := ltb h
    refine g_cVv (k := 0) (As := [.int (1 : Int32), .int (g1 0 4)]) (rest := []) (go := g16) (xo := xo) C (fun sz => cM_wrong l D T ad xo g1 (1 : Int32) (g1 0 4) _ hr16 sz) kM_wrong ⟨Nat.le_of_ble_eq_true rfl, Nat.le_of_ble_eq_true rfl⟩ ⟨rfl, rfl⟩ ⟨Nat.zero_le _, Nat.zero_le _⟩ (rfl : vwCl[11]? = some (RX12, TX12, 48)) kM0 rfl rfl (Nat.le_of_ble_eq_true rfl) dX12_clause_16 ?_
    refine g_goto (tgt := 55) C dX12_clause_19 (by decide) ?_
    exact g_sub [1, 0] rfl (J55 r1 g16 h)
  · have h := iteF c7 h
    refine g_aload_n C dX12_clause_22 rfl 1 rfl ?_
    refine gM_get_clauses (v := g1 0 7) C rfl dX12_clause_23 ?_
    refine g_bipush C dX12_clause_26 bp_60 ?_
    refine g_icmp_eq C 46 dX12_clause_28 (by decide) (fun c28 => ?_) (fun c28 => ?_)
    · have h := iteT c28 h
      exact g_sub [1, 0] rfl (J46 r1 g1 h)
    · have h := iteF c28 h
      refine g_iload_n C dX12_clause_31 rfl 0 rfl ?_
      refine g_if_ne C 55 dX12_clause_32 (by decide) (fun c32 => ?_) (fun c32 => ?_)
      · have h := iteT c32 h
        refine g_aload_n C dX12_clause_35 rfl 1 rfl ?_
        refine gM_get_readTold C dX12_clause_36 ?_
        refine g_iconst C dX12_clause_39 ic_0 ?_
        refine g_iald (n := 2) (v := g1 3 0) C ln_3 (by decide) rfl dX12_clause_40 ?_
        refine g_bipush C dX12_clause_41 bp_8 ?_
        refine g_icmp_ne C 55 dX12_clause_43 (by decide) (fun c43 => ?_) (fun c43 => ?_)
        · have h := iteT c43 h
          exact g_sub [1, 0] rfl (J46 r1 g1 h)
        · have h := iteF c43 h
          exact g_sub [1, 0] rfl (J55 r1 g1 h)
      · have h := iteF c32 h
        exact g_sub [1, 0] rfl (J55 r1 g1 h)
def fM_lays_L10 (x0 : Nat) (x1 : Nat) (x2 : Int32) (x3 : Int32) : (Int32 × St) → Option ((Int32 × St) ⊕ (St)) := fun ⟨x4, g⟩ =>
  if ¬ (x3 < 0 ∨ (lngW shM x1) ≤ x3.toNatClampNeg) then (if 0 < (lenW shM (bsM x1 + x3.toNatClampNeg)) then (if (Int32.ofNat ((lenW shM (bsM x1 + x3.toNatClampNeg)))) ≤ x4 then
    (some (.inr g))
  else
    (if ¬ (x3 < 0 ∨ (lngW shM x0) ≤ x3.toNatClampNeg) then (if ¬ (x4 < 0 ∨ (lenW shM (bsM x0 + x3.toNatClampNeg)) ≤ x4.toNatClampNeg) then (if ¬ (x4 < 0 ∨ (lenW shM (bsM x1 + x3.toNatClampNeg)) ≤ x4.toNatClampNeg) then (some (.inl ((x4 + (1 : Int32)), (st g (bsM x1 + x3.toNatClampNeg) x4.toNatClampNeg (g (bsM x0 + x3.toNatClampNeg) x4.toNatClampNeg))))) else none) else none) else none)) else none) else none
def fM_lays_b10 (x0 : Nat) (x1 : Nat) (x2 : Int32) (x3 : Int32) (x4 : Int32) (g : St) : Option ((Int32 × St) ⊕ (St)) :=
  (lp (fM_lays_L10 x0 x1 x2 x3) fuel (x4, g)).bind (fun g => some (.inl ((x3 + (1 : Int32)), g)))
def fM_lays_L2 (x0 : Nat) (x1 : Nat) (x2 : Int32) : (Int32 × St) → Option ((Int32 × St) ⊕ (St)) := fun ⟨x3, g⟩ =>
  if x2 ≤ x3 then
    (some (.inr g))
  else
    (fM_lays_b10 x0 x1 x2 x3 (0 : Int32) g)
def fM_lays_b2 (x0 : Nat) (x1 : Nat) (x2 : Int32) (x3 : Int32) (g : St) : Option (St) :=
  (lp (fM_lays_L2 x0 x1 x2) fuel (x3, g)).bind (fun g => some g)
def fM_lays (x0 : Nat) (x1 : Nat) (x2 : Int32) (g : St) : Option (St) :=
  fM_lays_b2 x0 x1 x2 (0 : Int32) g
def rmM_lays : Room := { frames := 0, cells := 0, slots := 0, locals := 0 }
abbrev GcM_lays (l : Launch) (D : va_G) (T : cT) (ad : Nat → Nat) (Γ : Cxt) (o : St) (xo : Sl) (x : Sl) (g : St) (pc : Nat) (lv : List (Nat × Value)) (stk : List Value) : Prop := Gj l shM D T ad 5 (rmM_lays) 0 0 Γ (MQ Γ.below (va_Qv (eqV o xo) (wPost shM D T ad Γ.A) Γ.A) Γ.args Γ.s 0 0 Γ.A) x g pc lv stk
set_option maxRecDepth 100000 in
set_option maxHeartbeats 4000000 in
theorem cM_lays (l : Launch) (D : va_G) (T : cT) (ad : Nat → Nat) (xo : Sl) (g : St) (x0 : Nat) (x1 : Nat) (x2 : Int32) (o : St) (h : fM_lays x0 x1 x2 g = some o) (sz : Nat) : Met l yX12_lays wM_lays (rmM_lays) (va_Pc [.ref (ad x0), .ref (ad x1), .int x2] (wPre shM D T ad xo g sz)) (va_Qv (eqV o xo) (wPost shM D T ad (aW shM T ad xo g sz)) (aW shM T ad xo g sz)) 0 0 (aW shM T ad xo g sz) := by
  refine g_start (Qc := fun A => va_Qv (eqV o xo) (wPost shM D T ad A) A) (by decide +kernel) rfl rfl (Nat.le_of_ble_eq_true rfl) (lv := [(0, .ref (ad x0)), (1, .ref (ad x1)), (2, .int x2)]) rfl (fun Γ C => ?_)
  show GcM_lays l D T ad Γ o xo xo g 0 [(0, .ref (ad x0)), (1, .ref (ad x1)), (2, .int x2)] []
  have J2 : ∀ (x0 : Nat) (x1 : Nat) (x2 : Int32) (x3 : Int32) (g : St), fM_lays_b2 x0 x1 x2 x3 g = some o → GcM_lays l D T ad Γ o xo xo g 2 [(0, .ref (ad x0)), (1, .ref (ad x1)), (2, .int x2), (3, .int x3)] [] := by
    intro x0 x1 x2 x3 g h
    obtain ⟨g, ht, h⟩ := bnd h
    refine lp_run (P := fun t : Int32 × St => match t with | (x3, g) => GcM_lays l D T ad Γ o xo xo g 2 [(0, .ref (ad x0)), (1, .ref (ad x1)), (2, .int x2), (3, .int x3)] []) (E := fun g : St => GcM_lays l D T ad Γ o xo xo g 43 [] []) ?_ _ _ _ ht ?_
    · rintro ⟨x3, g⟩ z h Kt Ke
      show GcM_lays l D T ad Γ o xo xo g 2 [(0, .ref (ad x0)), (1, .ref (ad x1)), (2, .int x2), (3, .int x3)] []
      have J10 : ∀ (x3 : Int32) (x4 : Int32) (g : St), fM_lays_b10 x0 x1 x2 x3 x4 g = some z → GcM_lays l D T ad Γ o xo xo g 10 [(0, .ref (ad x0)), (1, .ref (ad x1)), (2, .int x2), (3, .int x3), (4, .int x4)] [] := by
        intro x3 x4 g h
        obtain ⟨g, ht, h⟩ := bnd h
        refine lp_run (P := fun t : Int32 × St => match t with | (x4, g) => GcM_lays l D T ad Γ o xo xo g 10 [(0, .ref (ad x0)), (1, .ref (ad x1)), (2, .int x2), (3, .int x3), (4, .int x4)] []) (E := fun g : St => GcM_lays l D T ad Γ o xo xo g 37 [(0, .ref (ad x0)), (1, .ref (ad x1)), (2, .int x2), (3, .int x3)] []) ?_ _ _ _ ht ?_
        · rintro ⟨x4, g⟩ z h Kt Ke
          show GcM_lays l D T ad Γ o xo xo g 10 [(0, .ref (ad x0)), (1, .ref (ad x1)), (2, .int x2), (3, .int x3), (4, .int x4)] []
          refine g_iload C dX12_lays_10 4 rfl ?_
          refine g_aload_n C dX12_lays_12 rfl 1 rfl ?_
          refine g_iload_n C dX12_lays_13 rfl 3 rfl ?_
          obtain ⟨hi14, h⟩ := grd h
          refine g_aald (n := (lngW shM x1)) (q := (bsM x1 + x3.toNatClampNeg)) C rfl hi14 rfl dX12_lays_14 ?_
          obtain ⟨hl15, h⟩ := grd h
          refine g_alen (n := (lenW shM (bsM x1 + x3.toNatClampNeg))) (v := Int32.ofNat ((lenW shM (bsM x1 + x3.toNatClampNeg)))) C rfl hl15 rfl dX12_lays_15 ?_
          refine g_icmp_ge C 37 dX12_lays_16 (by decide) (fun c16 => ?_) (fun c16 => ?_)
          · have h := iteT c16 h
            exact g_sub [0, 1, 2, 3] rfl (Ke _ (Option.some.inj h).symm)
          · have h := iteF c16 h
            refine g_aload_n C dX12_lays_19 rfl 1 rfl ?_
            refine g_iload_n C dX12_lays_20 rfl 3 rfl ?_
            refine g_aald (n := (lngW shM x1)) (q := (bsM x1 + x3.toNatClampNeg)) C rfl hi14 rfl dX12_lays_21 ?_
            refine g_iload C dX12_lays_22 4 rfl ?_
            refine g_aload_n C dX12_lays_24 rfl 0 rfl ?_
            refine g_iload_n C dX12_lays_25 rfl 3 rfl ?_
            obtain ⟨hi26, h⟩ := grd h
            refine g_aald (n := (lngW shM x0)) (q := (bsM x0 + x3.toNatClampNeg)) C rfl hi26 rfl dX12_lays_26 ?_
            refine g_iload C dX12_lays_27 4 rfl ?_
            obtain ⟨hi29, h⟩ := grd h
            refine g_iald (n := (lenW shM (bsM x0 + x3.toNatClampNeg))) (v := g (bsM x0 + x3.toNatClampNeg) x4.toNatClampNeg) C rfl hi29 rfl dX12_lays_29 ?_
            obtain ⟨hi30, h⟩ := grd h
            refine g_iast (n := (lenW shM (bsM x1 + x3.toNatClampNeg))) (q := x4.toNatClampNeg) C rfl hi30 rfl dX12_lays_30 ?_
            refine g_iinc (lv' := [(4, .int (x4 + (1 : Int32))), (0, .ref (ad x0)), (1, .ref (ad x1)), (2, .int x2), (3, .int x3)]) C dX12_lays_31 4 rfl (ii_1 _) (Nat.le_of_ble_eq_true rfl) rfl ?_
            refine g_goto (tgt := 10) C dX12_lays_34 (by decide) ?_
            exact g_sub [1, 2, 3, 4, 0] rfl (Kt _ (Option.some.inj h).symm)
        · show GcM_lays l D T ad Γ o xo xo g 37 [(0, .ref (ad x0)), (1, .ref (ad x1)), (2, .int x2), (3, .int x3)] []
          refine g_iinc (lv' := [(3, .int (x3 + (1 : Int32))), (0, .ref (ad x0)), (1, .ref (ad x1)), (2, .int x2)]) C dX12_lays_37 3 rfl (ii_1 _) (Nat.le_of_ble_eq_true rfl) rfl ?_
          refine g_goto (tgt := 2) C dX12_lays_40 (by decide) ?_
          exact g_sub [1, 2, 3, 0] rfl (Kt _ (Option.some.inj h).symm)
      refine g_iload_n C dX12_lays_2 rfl 3 rfl ?_
      refine g_iload_n C dX12_lays_3 rfl 2 rfl ?_
      refine g_icmp_ge C 43 dX12_lays_4 (by decide) (fun c4 => ?_) (fun c4 => ?_)
      · have h := iteT c4 h
        exact g_sub [] rfl (Ke _ (Option.some.inj h).symm)
      · have h := iteF c4 h
        refine g_iconst C dX12_lays_7 ic_0 ?_
        refine g_istore (lv' := [(4, .int (0 : Int32)), (0, .ref (ad x0)), (1, .ref (ad x1)), (2, .int x2), (3, .int x3)]) C dX12_lays_8 (Nat.le_of_ble_eq_true rfl) rfl ?_
        exact g_sub [1, 2, 3, 4, 0] rfl (J10 x3 (0 : Int32) g h)
    · show GcM_lays l D T ad Γ o xo xo g 43 [] []
      obtain rfl := Option.some.inj h
      exact g_vret C rfl rfl dX12_lays_43
  refine g_iconst C dX12_lays_0 ic_0 ?_
  refine g_istore_n (lv' := [(3, .int (0 : Int32)), (0, .ref (ad x0)), (1, .ref (ad x1)), (2, .int x2)]) C dX12_lays_1 rfl (Nat.le_of_ble_eq_true rfl) rfl ?_
  exact g_sub [1, 2, 3, 0] rfl (J2 x0 x1 x2 (0 : Int32) g h)
def fM_beginsAnew_b91 (x1 : Int32) (s1 : Int32) (s2 : Int32) (g : St) : Option ((Int32 × St) ⊕ (St)) :=
  if ¬ (s1 < 0 ∨ 26 ≤ s1.toNatClampNeg) then (if ¬ (((8 : Int32) + x1) < 0 ∨ 26 ≤ ((8 : Int32) + x1).toNatClampNeg) then (if ¬ (((16 : Int32) + x1) < 0 ∨ 26 ≤ ((16 : Int32) + x1).toNatClampNeg) then (some (.inl ((x1 + (1 : Int32)), (st (st (st g 16 s1.toNatClampNeg s2) 16 (((8 : Int32) + x1).toNatClampNeg) (-1 : Int32)) 16 (((16 : Int32) + x1).toNatClampNeg) (-1 : Int32))))) else none) else none) else none
def fM_beginsAnew_L44 : (Int32 × St) → Option ((Int32 × St) ⊕ (St)) := fun ⟨x1, g⟩ =>
  if (8 : Int32) ≤ x1 then
    (some (.inr g))
  else
    (if ¬ (x1 < 0 ∨ 8 ≤ x1.toNatClampNeg) then (if (g 4 0) ≤ x1 then
    (fM_beginsAnew_b91 x1 ((0 : Int32) + x1) (0 : Int32) (st g 8 x1.toNatClampNeg (g 7 x1.toNatClampNeg)))
  else
    (fM_beginsAnew_b91 x1 ((0 : Int32) + x1) ((st g 8 x1.toNatClampNeg (g 7 x1.toNatClampNeg)) (34 + x1.toNatClampNeg) 1) (st g 8 x1.toNatClampNeg (g 7 x1.toNatClampNeg)))) else none)
def fM_beginsAnew_b44 (x1 : Int32) (g : St) : Option (St) :=
  (lp (fM_beginsAnew_L44) fuel (x1, g)).bind (fun g => some (st (st (st (st (st (st (st g 16 24 (((1 : Int32) <<< ((g 4 0) &&& 31)) - (1 : Int32))) 16 25 (0 : Int32)) 0 17 (0 : Int32)) 0 31 (0 : Int32)) 0 32 (0 : Int32)) 0 33 (0 : Int32)) 0 34 (0 : Int32)))
def fM_beginsAnew_L2 : (Int32 × St) → Option ((Int32 × St) ⊕ (St)) := fun ⟨x1, g⟩ =>
  if (2 : Int32) ≤ x1 then
    (some (.inr g))
  else
    (if ¬ (x1 < 0 ∨ 2 ≤ x1.toNatClampNeg) then (some (.inl ((x1 + (1 : Int32)), (st g 4 x1.toNatClampNeg (g 3 x1.toNatClampNeg))))) else none)
def fM_beginsAnew_b2 (x1 : Int32) (g : St) : Option (St) :=
  (lp (fM_beginsAnew_L2) fuel (x1, g)).bind (fun g => (fM_lays 5 6 (g 4 0) g).bind fun g39 => (fM_beginsAnew_b44 (0 : Int32) g39))
def fM_beginsAnew (g : St) : Option (St) :=
  fM_beginsAnew_b2 (0 : Int32) g
def rmM_beginsAnew : Room := { frames := 1, cells := 0, slots := 0, locals := 24 }
abbrev GcM_beginsAnew (l : Launch) (D : va_G) (T : cT) (ad : Nat → Nat) (Γ : Cxt) (o : St) (xo : Sl) (x : Sl) (g : St) (pc : Nat) (lv : List (Nat × Value)) (stk : List Value) : Prop := Gj l shM D T ad 2 (rmM_beginsAnew) 0 0 Γ (MQ Γ.below (va_Qv (eqV o xo) (wPost shM D T ad Γ.A) Γ.A) Γ.args Γ.s 0 0 Γ.A) x g pc lv stk
set_option maxRecDepth 100000 in
set_option maxHeartbeats 4000000 in
theorem cM_beginsAnew (l : Launch) (D : va_G) (T : cT) (ad : Nat → Nat) (xo : Sl) (g : St) (o : St) (h : fM_beginsAnew g = some o) (sz : Nat) : Met l yX12_beginsAnew wM_beginsAnew (rmM_beginsAnew) (va_Pc [.ref (ad 0)] (wPre shM D T ad xo g sz)) (va_Qv (eqV o xo) (wPost shM D T ad (aW shM T ad xo g sz)) (aW shM T ad xo g sz)) 0 0 (aW shM T ad xo g sz) := by
  refine g_start (Qc := fun A => va_Qv (eqV o xo) (wPost shM D T ad A) A) (by decide +kernel) rfl rfl (Nat.le_of_ble_eq_true rfl) (lv := [(0, .ref (ad 0))]) rfl (fun Γ C => ?_)
  show GcM_beginsAnew l D T ad Γ o xo xo g 0 [(0, .ref (ad 0))] []
  have J44 : ∀ (x1 : Int32) (g : St), fM_beginsAnew_b44 x1 g = some o → GcM_beginsAnew l D T ad Γ o xo xo g 44 [(0, .ref (ad 0)), (1, .int x1)] [] := by
    intro x1 g h
    obtain ⟨g, ht, h⟩ := bnd h
    refine lp_run (P := fun t : Int32 × St => match t with | (x1, g) => GcM_beginsAnew l D T ad Γ o xo xo g 44 [(0, .ref (ad 0)), (1, .int x1)] []) (E := fun g : St => GcM_beginsAnew l D T ad Γ o xo xo g 118 [(0, .ref (ad 0))] []) ?_ _ _ _ ht ?_
    · rintro ⟨x1, g⟩ z h Kt Ke
      show GcM_beginsAnew l D T ad Γ o xo xo g 44 [(0, .ref (ad 0)), (1, .int x1)] []
      have J91 : ∀ (x1 : Int32) (s1 : Int32) (s2 : Int32) (g : St), fM_beginsAnew_b91 x1 s1 s2 g = some z → GcM_beginsAnew l D T ad Γ o xo xo g 91 [(0, .ref (ad 0)), (1, .int x1)] [.int s2, .int s1, .ref (ad 16)] := by
        intro x1 s1 s2 g h
        obtain ⟨hi91, h⟩ := grd h
        refine g_iast (n := 26) (q := s1.toNatClampNeg) C ln_16 hi91 rfl dX12_beginsAnew_91 ?_
        refine g_aload_n C dX12_beginsAnew_92 rfl 0 rfl ?_
        refine gM_get_now C dX12_beginsAnew_93 ?_
        refine g_bipush C dX12_beginsAnew_96 bp_8 ?_
        refine g_iload_n C dX12_beginsAnew_98 rfl 1 rfl ?_
        refine g_iadd C dX12_beginsAnew_99 ?_
        refine g_iconst C dX12_beginsAnew_100 ic_m1 ?_
        obtain ⟨hi101, h⟩ := grd h
        refine g_iast (n := 26) (q := ((8 : Int32) + x1).toNatClampNeg) C ln_16 hi101 rfl dX12_beginsAnew_101 ?_
        refine g_aload_n C dX12_beginsAnew_102 rfl 0 rfl ?_
        refine gM_get_now C dX12_beginsAnew_103 ?_
        refine g_bipush C dX12_beginsAnew_106 bp_16 ?_
        refine g_iload_n C dX12_beginsAnew_108 rfl 1 rfl ?_
        refine g_iadd C dX12_beginsAnew_109 ?_
        refine g_iconst C dX12_beginsAnew_110 ic_m1 ?_
        obtain ⟨hi111, h⟩ := grd h
        refine g_iast (n := 26) (q := ((16 : Int32) + x1).toNatClampNeg) C ln_16 hi111 rfl dX12_beginsAnew_111 ?_
        refine g_iinc (lv' := [(1, .int (x1 + (1 : Int32))), (0, .ref (ad 0))]) C dX12_beginsAnew_112 1 rfl (ii_1 _) (Nat.le_of_ble_eq_true rfl) rfl ?_
        refine g_goto (tgt := 44) C dX12_beginsAnew_115 (by decide) ?_
        exact g_sub [1, 0] rfl (Kt _ (Option.some.inj h).symm)
      refine g_iload_n C dX12_beginsAnew_44 rfl 1 rfl ?_
      refine g_bipush C dX12_beginsAnew_45 bp_8 ?_
      refine g_icmp_ge C 118 dX12_beginsAnew_47 (by decide) (fun c47 => ?_) (fun c47 => ?_)
      · have h := iteT c47 h
        exact g_sub [0] rfl (Ke _ (Option.some.inj h).symm)
      · have h := iteF c47 h
        refine g_aload_n C dX12_beginsAnew_50 rfl 0 rfl ?_
        refine gM_get_friend C dX12_beginsAnew_51 ?_
        refine g_iload_n C dX12_beginsAnew_54 rfl 1 rfl ?_
        refine g_aload_n C dX12_beginsAnew_55 rfl 0 rfl ?_
        refine gM_get_readFriend C dX12_beginsAnew_56 ?_
        refine g_iload_n C dX12_beginsAnew_59 rfl 1 rfl ?_
        obtain ⟨hi60, h⟩ := grd h
        refine g_iald (n := 8) (v := g 7 x1.toNatClampNeg) C ln_7 hi60 rfl dX12_beginsAnew_60 ?_
        refine g_iast (n := 8) (q := x1.toNatClampNeg) C ln_8 hi60 rfl dX12_beginsAnew_61 ?_
        refine g_aload_n C dX12_beginsAnew_62 rfl 0 rfl ?_
        refine gM_get_now C dX12_beginsAnew_63 ?_
        refine g_iconst C dX12_beginsAnew_66 ic_0 ?_
        refine g_iload_n C dX12_beginsAnew_67 rfl 1 rfl ?_
        refine g_iadd C dX12_beginsAnew_68 ?_
        refine g_iload_n C dX12_beginsAnew_69 rfl 1 rfl ?_
        refine g_aload_n C dX12_beginsAnew_70 rfl 0 rfl ?_
        refine gM_get_told C dX12_beginsAnew_71 ?_
        refine g_iconst C dX12_beginsAnew_74 ic_0 ?_
        refine g_iald (n := 2) (v := g 4 0) C ln_4 (by decide) rfl dX12_beginsAnew_75 ?_
        refine g_icmp_ge C 90 dX12_beginsAnew_76 (by decide) (fun c76 => ?_) (fun c76 => ?_)
        · have h := iteT c76 h
          refine g_iconst C dX12_beginsAnew_90 ic_0 ?_
          exact J91 x1 ((0 : Int32) + x1) (0 : Int32) (st g 8 x1.toNatClampNeg (g 7 x1.toNatClampNeg)) h
        · have h := iteF c76 h
          refine g_aload_n C dX12_beginsAnew_79 rfl 0 rfl ?_
          refine gM_get_person C dX12_beginsAnew_80 ?_
          refine g_iload_n C dX12_beginsAnew_83 rfl 1 rfl ?_
          refine g_aald (n := 8) (q := (34 + x1.toNatClampNeg)) C lg_6 hi60 rfl dX12_beginsAnew_84 ?_
          refine g_iconst C dX12_beginsAnew_85 ic_1 ?_
          refine g_iald (n := 2) (v := (st g 8 x1.toNatClampNeg (g 7 x1.toNatClampNeg)) (34 + x1.toNatClampNeg) 1) C (lenM_person hi60) (by decide) rfl dX12_beginsAnew_86 ?_
          refine g_goto (tgt := 91) C dX12_beginsAnew_87 (by decide) ?_
          exact J91 x1 ((0 : Int32) + x1) ((st g 8 x1.toNatClampNeg (g 7 x1.toNatClampNeg)) (34 + x1.toNatClampNeg) 1) (st g 8 x1.toNatClampNeg (g 7 x1.toNatClampNeg)) h
    · show GcM_beginsAnew l D T ad Γ o xo xo g 118 [(0, .ref (ad 0))] []
      refine g_aload_n C dX12_beginsAnew_118 rfl 0 rfl ?_
      refine gM_get_now C dX12_beginsAnew_119 ?_
      refine g_bipush C dX12_beginsAnew_122 bp_24 ?_
      refine g_iconst C dX12_beginsAnew_124 ic_1 ?_
      refine g_aload_n C dX12_beginsAnew_125 rfl 0 rfl ?_
      refine gM_get_told C dX12_beginsAnew_126 ?_
      refine g_iconst C dX12_beginsAnew_129 ic_0 ?_
      refine g_iald (n := 2) (v := g 4 0) C ln_4 (by decide) rfl dX12_beginsAnew_130 ?_
      refine g_ishl C dX12_beginsAnew_131 ?_
      refine g_iconst C dX12_beginsAnew_132 ic_1 ?_
      refine g_isub C dX12_beginsAnew_133 ?_
      refine g_iast (n := 26) (q := 24) C ln_16 (by decide) cl_24 dX12_beginsAnew_134 ?_
      refine g_aload_n C dX12_beginsAnew_135 rfl 0 rfl ?_
      refine gM_get_now C dX12_beginsAnew_136 ?_
      refine g_bipush C dX12_beginsAnew_139 bp_25 ?_
      refine g_iconst C dX12_beginsAnew_141 ic_0 ?_
      refine g_iast (n := 26) (q := 25) C ln_16 (by decide) cl_25 dX12_beginsAnew_142 ?_
      refine g_aload_n C dX12_beginsAnew_143 rfl 0 rfl ?_
      refine g_iconst C dX12_beginsAnew_144 ic_0 ?_
      refine gM_put_lawMany C dX12_beginsAnew_145 ?_
      refine g_aload_n C dX12_beginsAnew_148 rfl 0 rfl ?_
      refine g_iconst C dX12_beginsAnew_149 ic_0 ?_
      refine gM_put_lines C dX12_beginsAnew_150 ?_
      refine g_aload_n C dX12_beginsAnew_153 rfl 0 rfl ?_
      refine g_iconst C dX12_beginsAnew_154 ic_0 ?_
      refine gM_put_works C dX12_beginsAnew_155 ?_
      refine g_aload_n C dX12_beginsAnew_158 rfl 0 rfl ?_
      refine g_iconst C dX12_beginsAnew_159 ic_0 ?_
      refine gM_put_refusedSteps C dX12_beginsAnew_160 ?_
      refine g_aload_n C dX12_beginsAnew_163 rfl 0 rfl ?_
      refine g_iconst C dX12_beginsAnew_164 ic_0 ?_
      refine gM_put_images C dX12_beginsAnew_165 ?_
      obtain rfl := Option.some.inj h
      exact g_vret C rfl rfl dX12_beginsAnew_168
  have J2 : ∀ (x1 : Int32) (g : St), fM_beginsAnew_b2 x1 g = some o → GcM_beginsAnew l D T ad Γ o xo xo g 2 [(0, .ref (ad 0)), (1, .int x1)] [] := by
    intro x1 g h
    obtain ⟨g, ht, h⟩ := bnd h
    refine lp_run (P := fun t : Int32 × St => match t with | (x1, g) => GcM_beginsAnew l D T ad Γ o xo xo g 2 [(0, .ref (ad 0)), (1, .int x1)] []) (E := fun g : St => GcM_beginsAnew l D T ad Γ o xo xo g 25 [(0, .ref (ad 0))] []) ?_ _ _ _ ht ?_
    · rintro ⟨x1, g⟩ z h Kt Ke
      show GcM_beginsAnew l D T ad Γ o xo xo g 2 [(0, .ref (ad 0)), (1, .int x1)] []
      refine g_iload_n C dX12_beginsAnew_2 rfl 1 rfl ?_
      refine g_iconst C dX12_beginsAnew_3 ic_2 ?_
      refine g_icmp_ge C 25 dX12_beginsAnew_4 (by decide) (fun c4 => ?_) (fun c4 => ?_)
      · have h := iteT c4 h
        exact g_sub [0] rfl (Ke _ (Option.some.inj h).symm)
      · have h := iteF c4 h
        refine g_aload_n C dX12_beginsAnew_7 rfl 0 rfl ?_
        refine gM_get_told C dX12_beginsAnew_8 ?_
        refine g_iload_n C dX12_beginsAnew_11 rfl 1 rfl ?_
        refine g_aload_n C dX12_beginsAnew_12 rfl 0 rfl ?_
        refine gM_get_readTold C dX12_beginsAnew_13 ?_
        refine g_iload_n C dX12_beginsAnew_16 rfl 1 rfl ?_
        obtain ⟨hi17, h⟩ := grd h
        refine g_iald (n := 2) (v := g 3 x1.toNatClampNeg) C ln_3 hi17 rfl dX12_beginsAnew_17 ?_
        refine g_iast (n := 2) (q := x1.toNatClampNeg) C ln_4 hi17 rfl dX12_beginsAnew_18 ?_
        refine g_iinc (lv' := [(1, .int (x1 + (1 : Int32))), (0, .ref (ad 0))]) C dX12_beginsAnew_19 1 rfl (ii_1 _) (Nat.le_of_ble_eq_true rfl) rfl ?_
        refine g_goto (tgt := 2) C dX12_beginsAnew_22 (by decide) ?_
        exact g_sub [1, 0] rfl (Kt _ (Option.some.inj h).symm)
    · show GcM_beginsAnew l D T ad Γ o xo xo g 25 [(0, .ref (ad 0))] []
      refine g_aload_n C dX12_beginsAnew_25 rfl 0 rfl ?_
      refine gM_get_readPerson C dX12_beginsAnew_26 ?_
      refine g_aload_n C dX12_beginsAnew_29 rfl 0 rfl ?_
      refine gM_get_person C dX12_beginsAnew_30 ?_
      refine g_aload_n C dX12_beginsAnew_33 rfl 0 rfl ?_
      refine gM_get_told C dX12_beginsAnew_34 ?_
      refine g_iconst C dX12_beginsAnew_37 ic_0 ?_
      refine g_iald (n := 2) (v := g 4 0) C ln_4 (by decide) rfl dX12_beginsAnew_38 ?_
      obtain ⟨g39, hr39, h⟩ := bnd h
      refine g_cSv (As := [.ref (ad 5), .ref (ad 6), .int (g 4 0)]) (rest := []) (go := g39) (xo := xo) C (fun sz => cM_lays l D T ad xo g 5 6 (g 4 0) _ hr39 sz) kM_lays ⟨Nat.le_of_ble_eq_true rfl, Nat.le_of_ble_eq_true rfl⟩ ⟨rfl, rfl⟩ ⟨Nat.zero_le _, Nat.zero_le _⟩ rfl rfl (Nat.le_of_ble_eq_true rfl) dX12_beginsAnew_39 ?_
      refine g_iconst C dX12_beginsAnew_42 ic_0 ?_
      refine g_istore_n (lv' := [(1, .int (0 : Int32)), (0, .ref (ad 0))]) C dX12_beginsAnew_43 rfl (Nat.le_of_ble_eq_true rfl) rfl ?_
      exact g_sub [1, 0] rfl (J44 (0 : Int32) g39 h)
  refine g_iconst C dX12_beginsAnew_0 ic_0 ?_
  refine g_istore_n (lv' := [(1, .int (0 : Int32)), (0, .ref (ad 0))]) C dX12_beginsAnew_1 rfl (Nat.le_of_ble_eq_true rfl) rfl ?_
  exact g_sub [1, 0] rfl (J2 (0 : Int32) g h)
