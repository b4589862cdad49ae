def fM_nameless_b43 (x1 : Nat) (x3 : Int32) (s0 : Int32) (s1 : Int32) (g : St) : Option ((Int32 × Int32) ⊕ (Int32)) :=
  some (.inl ((s0 ||| s1), (x3 + (1 : Int32))))
def fM_nameless_b42 (x1 : Nat) (x3 : Int32) (s0 : Int32) (g : St) : Option ((Int32 × Int32) ⊕ (Int32)) :=
  fM_nameless_b43 x1 x3 s0 (0 : Int32) g
def fM_nameless_L4 (x1 : Nat) (g : St) : (Int32 × Int32) → Option ((Int32 × Int32) ⊕ (Int32)) := fun ⟨x2, x3⟩ =>
  if (g 4 0) ≤ x3 then
    (some (.inr x2))
  else
    (if ¬ ((24 : Int32) < 0 ∨ (lenW shM x1) ≤ (24 : Int32).toNatClampNeg) then (if (fM_has (g x1 24) x3) = 0 then
    (if ¬ (((8 : Int32) + x3) < 0 ∨ (lenW shM x1) ≤ ((8 : Int32) + x3).toNatClampNeg) then (if (g x1 (((8 : Int32) + x3).toNatClampNeg)) = (-1 : Int32) then
    (fM_nameless_b43 x1 x3 x2 ((1 : Int32) <<< (x3 &&& 31)) g)
  else
    (fM_nameless_b42 x1 x3 x2 g)) else none)
  else
    (fM_nameless_b42 x1 x3 x2 g)) else none)
def fM_nameless_b4 (x1 : Nat) (x2 : Int32) (x3 : Int32) (g : St) : Option (Int32) :=
  (lp (fM_nameless_L4 x1 g) fuel (x2, x3)).bind (fun x2 => some x2)
def fM_nameless (x1 : Nat) (g : St) : Option (Int32) :=
  fM_nameless_b4 x1 (0 : Int32) (0 : Int32) g
def rmM_nameless : Room := { frames := 1, cells := 0, slots := 0, locals := 21 }
abbrev GcM_nameless (l : Launch) (D : va_G) (T : cT) (ad : Nat → Nat) (Γ : Cxt) (o : Int32) (xo : Sl) (g0 : St) (x : Sl) (g : St) (pc : Nat) (lv : List (Nat × Value)) (stk : List Value) : Prop := Gj l shM D T ad 4 (rmM_nameless) 0 0 Γ (MQ Γ.below (va_Qi (eqI o g0 xo) (wPost shM D T ad Γ.A) Γ.A) Γ.args Γ.s 0 0 Γ.A) x g pc lv stk
set_option maxRecDepth 100000 in
set_option maxHeartbeats 4000000 in
theorem cM_nameless (l : Launch) (D : va_G) (T : cT) (ad : Nat → Nat) (xo : Sl) (g : St) (x1 : Nat) (o : Int32) (h : fM_nameless x1 g = some o) (sz : Nat) : Met l yX12_nameless wM_nameless (rmM_nameless) (va_Pc [.ref (ad 0), .ref (ad x1)] (wPre shM D T ad xo g sz)) (va_Qi (eqI o g xo) (wPost shM D T ad (aW shM T ad xo g sz)) (aW shM T ad xo g sz)) 0 0 (aW shM T ad xo g sz) := by
  refine g_start (Qc := fun A => va_Qi (eqI o g xo) (wPost shM D T ad A) A) (by decide +kernel) rfl rfl (Nat.le_of_ble_eq_true rfl) (lv := [(0, .ref (ad 0)), (1, .ref (ad x1))]) rfl (fun Γ C => ?_)
  show GcM_nameless l D T ad Γ o xo g xo g 0 [(0, .ref (ad 0)), (1, .ref (ad x1))] []
  have J4 : ∀ (x1 : Nat) (x2 : Int32) (x3 : Int32), fM_nameless_b4 x1 x2 x3 g = some o → GcM_nameless l D T ad Γ o xo g xo g 4 [(0, .ref (ad 0)), (1, .ref (ad x1)), (2, .int x2), (3, .int x3)] [] := by
    intro x1 x2 x3 h
    obtain ⟨x2, ht, h⟩ := bnd h
    refine lp_run (P := fun t : Int32 × Int32 => match t with | (x2, x3) => GcM_nameless l D T ad Γ o xo g xo g 4 [(0, .ref (ad 0)), (1, .ref (ad x1)), (2, .int x2), (3, .int x3)] []) (E := fun x2 : Int32 => GcM_nameless l D T ad Γ o xo g xo g 51 [(2, .int x2)] []) ?_ _ _ _ ht ?_
    · rintro ⟨x2, x3⟩ z h Kt Ke
      show GcM_nameless l D T ad Γ o xo g xo g 4 [(0, .ref (ad 0)), (1, .ref (ad x1)), (2, .int x2), (3, .int x3)] []
      have J43 : ∀ (x3 : Int32) (s0 : Int32) (s1 : Int32), fM_nameless_b43 x1 x3 s0 s1 g = some z → GcM_nameless l D T ad Γ o xo g xo g 43 [(0, .ref (ad 0)), (1, .ref (ad x1)), (3, .int x3)] [.int s1, .int s0] := by
        intro x3 s0 s1 h
        refine g_ior C dX12_nameless_43 ?_
        refine g_istore_n (lv' := [(2, .int (s0 ||| s1)), (0, .ref (ad 0)), (1, .ref (ad x1)), (3, .int x3)]) C dX12_nameless_44 rfl (Nat.le_of_ble_eq_true rfl) rfl ?_
        refine g_iinc (lv' := [(3, .int (x3 + (1 : Int32))), (2, .int (s0 ||| s1)), (0, .ref (ad 0)), (1, .ref (ad x1))]) C dX12_nameless_45 3 rfl (ii_1 _) (Nat.le_of_ble_eq_true rfl) rfl ?_
        refine g_goto (tgt := 4) C dX12_nameless_48 (by decide) ?_
        exact g_sub [2, 3, 1, 0] rfl (Kt _ (Option.some.inj h).symm)
      have J42 : ∀ (x3 : Int32) (s0 : Int32), fM_nameless_b42 x1 x3 s0 g = some z → GcM_nameless l D T ad Γ o xo g xo g 42 [(0, .ref (ad 0)), (1, .ref (ad x1)), (3, .int x3)] [.int s0] := by
        intro x3 s0 h
        refine g_iconst C dX12_nameless_42 ic_0 ?_
        exact J43 x3 s0 (0 : Int32) h
      refine g_iload_n C dX12_nameless_4 rfl 3 rfl ?_
      refine g_aload_n C dX12_nameless_5 rfl 0 rfl ?_
      refine gM_get_told C dX12_nameless_6 ?_
      refine g_iconst C dX12_nameless_9 ic_0 ?_
      refine g_iald (n := 2) (v := g 4 0) C ln_4 (by decide) rfl dX12_nameless_10 ?_
      refine g_icmp_ge C 51 dX12_nameless_11 (by decide) (fun c11 => ?_) (fun c11 => ?_)
      · have h := iteT c11 h
        exact g_sub [2] rfl (Ke _ (Option.some.inj h).symm)
      · have h := iteF c11 h
        refine g_iload_n C dX12_nameless_14 rfl 2 rfl ?_
        refine g_aload_n C dX12_nameless_15 rfl 1 rfl ?_
        refine g_bipush C dX12_nameless_16 bp_24 ?_
        obtain ⟨hi18, h⟩ := grd h
        refine g_iald (n := (lenW shM x1)) (v := g x1 24) C rfl hi18 rfl dX12_nameless_18 ?_
        refine g_iload_n C dX12_nameless_19 rfl 3 rfl ?_
        refine g_cSz (As := [.int (g x1 24), .int x3]) (rest := [.int x2]) (ro := (fM_has (g x1 24) x3)) (go := g) (xo := xo) C (fun sz => cM_has l D T ad xo g (g x1 24) x3 _ rfl sz) kM_has ⟨Nat.le_of_ble_eq_true rfl, Nat.le_of_ble_eq_true rfl⟩ ⟨rfl, rfl⟩ ⟨Nat.zero_le _, Nat.zero_le _⟩ rfl rfl (Nat.le_of_ble_eq_true rfl) dX12_nameless_20 (fun hz20 => ?_)
        refine g_if_ne C 42 dX12_nameless_23 (by decide) (fun c23 => ?_) (fun c23 => ?_)
        · have h := iteT c23 h
          refine g_aload_n C dX12_nameless_26 rfl 1 rfl ?_
          refine g_bipush C dX12_nameless_27 bp_8 ?_
          refine g_iload_n C dX12_nameless_29 rfl 3 rfl ?_
          refine g_iadd C dX12_nameless_30 ?_
          obtain ⟨hi31, h⟩ := grd h
          refine g_iald (n := (lenW shM x1)) (v := g x1 (((8 : Int32) + x3).toNatClampNeg)) C rfl hi31 rfl dX12_nameless_31 ?_
          refine g_iconst C dX12_nameless_32 ic_m1 ?_
          refine g_icmp_ne C 42 dX12_nameless_33 (by decide) (fun c33 => ?_) (fun c33 => ?_)
          · have h := iteT c33 h
            refine g_iconst C dX12_nameless_36 ic_1 ?_
            refine g_iload_n C dX12_nameless_37 rfl 3 rfl ?_
            refine g_ishl C dX12_nameless_38 ?_
            refine g_goto (tgt := 43) C dX12_nameless_39 (by decide) ?_
            exact g_sub [0, 1, 3] rfl (J43 x3 x2 ((1 : Int32) <<< (x3 &&& 31)) h)
          · have h := iteF c33 h
            exact g_sub [0, 1, 3] rfl (J42 x3 x2 h)
        · have h := iteF c23 h
          exact g_sub [0, 1, 3] rfl (J42 x3 x2 h)
    · show GcM_nameless l D T ad Γ o xo g xo g 51 [(2, .int x2)] []
      refine g_iload_n C dX12_nameless_51 rfl 0 rfl ?_
      obtain rfl := Option.some.inj h
      exact g_iret C rfl rfl rfl dX12_nameless_52
  refine g_iconst C dX12_nameless_0 ic_0 ?_
  refine g_istore_n (lv' := [(2, .int (0 : Int32)), (0, .ref (ad 0)), (1, .ref (ad x1))]) C dX12_nameless_1 rfl (Nat.le_of_ble_eq_true rfl) rfl ?_
  refine g_iconst C dX12_nameless_2 ic_0 ?_
  refine g_istore_n (lv' := [(3, .int (0 : Int32)), (2, .int (0 : Int32)), (0, .ref (ad 0)), (1, .ref (ad x1))]) C dX12_nameless_3 rfl (Nat.le_of_ble_eq_true rfl) rfl ?_
  exact g_sub [2, 3, 1, 0] rfl (J4 x1 (0 : Int32) (0 : Int32) h)
def fM_follows_b40 (x0 : Nat) (x2 : Int32) (x3 : Int32) (s0 : Int32) (s1 : Int32) (g : St) : Option ((Int32 × Int32) ⊕ ((Int32 × Int32))) :=
  some (.inl (x3, (s0 + s1)))
def fM_follows_L5 (x0 : Nat) (x2 : Int32) (g : St) : (Int32 × Int32) → Option ((Int32 × Int32) ⊕ ((Int32 × Int32))) := fun ⟨x3, x4⟩ =>
  if x3 = (-1 : Int32) then
    (some (.inr (x3, x4)))
  else
    (if ¬ ((24 : Int32) < 0 ∨ (lenW shM x0) ≤ (24 : Int32).toNatClampNeg) then (if (fM_has (g x0 24) x3) = 0 then
    (if ¬ (((8 : Int32) + x3) < 0 ∨ (lenW shM x0) ≤ ((8 : Int32) + x3).toNatClampNeg) then (if (g x0 (((8 : Int32) + x3).toNatClampNeg)) = (-1 : Int32) then
    (fM_follows_b40 x0 x2 (g x0 (((8 : Int32) + x3).toNatClampNeg)) x4 (0 : Int32) g)
  else
    (fM_follows_b40 x0 x2 (g x0 (((8 : Int32) + x3).toNatClampNeg)) x4 (1 : Int32) g)) else none)
  else
    (some (.inr (x3, x4)))) else none)
def fM_follows_b5 (x0 : Nat) (x2 : Int32) (x3 : Int32) (x4 : Int32) (g : St) : Option (Int32) :=
  (lp (fM_follows_L5 x0 x2 g) fuel (x3, x4)).bind (fun ⟨x3, x4⟩ => if x2 = 0 then
    (some x3)
  else
    (some x4))
def fM_follows (x0 : Nat) (x1 : Int32) (x2 : Int32) (g : St) : Option (Int32) :=
  fM_follows_b5 x0 x2 x1 (0 : Int32) g
def rmM_follows : Room := { frames := 1, cells := 0, slots := 0, locals := 21 }
abbrev GcM_follows (l : Launch) (D : va_G) (T : cT) (ad : Nat → Nat) (Γ : Cxt) (o : Int32) (xo : Sl) (g0 : St) (x : Sl) (g : St) (pc : Nat) (lv : List (Nat × Value)) (stk : List Value) : Prop := Gj l shM D T ad 5 (rmM_follows) 0 0 Γ (MQ Γ.below (va_Qi (eqI o g0 xo) (wPost shM D T ad Γ.A) Γ.A) Γ.args Γ.s 0 0 Γ.A) x g pc lv stk
set_option maxRecDepth 100000 in
set_option maxHeartbeats 4000000 in
theorem cM_follows (l : Launch) (D : va_G) (T : cT) (ad : Nat → Nat) (xo : Sl) (g : St) (x0 : Nat) (x1 : Int32) (x2 : Int32) (o : Int32) (h : fM_follows x0 x1 x2 g = some o) (sz : Nat) : Met l yX12_follows wM_follows (rmM_follows) (va_Pc [.ref (ad x0), .int x1, .int x2] (wPre shM D T ad xo g sz)) (va_Qi (eqI o g xo) (wPost shM D T ad (aW shM T ad xo g sz)) (aW shM T ad xo g sz)) 0 0 (aW shM T ad xo g sz) := by
  refine g_start (Qc := fun A => va_Qi (eqI o g xo) (wPost shM D T ad A) A) (by decide +kernel) rfl rfl (Nat.le_of_ble_eq_true rfl) (lv := [(0, .ref (ad x0)), (1, .int x1), (2, .int x2)]) rfl (fun Γ C => ?_)
  show GcM_follows l D T ad Γ o xo g xo g 0 [(0, .ref (ad x0)), (1, .int x1), (2, .int x2)] []
  have J5 : ∀ (x0 : Nat) (x2 : Int32) (x3 : Int32) (x4 : Int32), fM_follows_b5 x0 x2 x3 x4 g = some o → GcM_follows l D T ad Γ o xo g xo g 5 [(0, .ref (ad x0)), (2, .int x2), (3, .int x3), (4, .int x4)] [] := by
    intro x0 x2 x3 x4 h
    obtain ⟨⟨x3, x4⟩, ht, h⟩ := bnd h
    refine lp_run (P := fun t : Int32 × Int32 => match t with | (x3, x4) => GcM_follows l D T ad Γ o xo g xo g 5 [(0, .ref (ad x0)), (2, .int x2), (3, .int x3), (4, .int x4)] []) (E := fun t : Int32 × Int32 => match t with | (x3, x4) => GcM_follows l D T ad Γ o xo g xo g 46 [(2, .int x2), (3, .int x3), (4, .int x4)] []) ?_ _ _ _ ht ?_
    · rintro ⟨x3, x4⟩ z h Kt Ke
      show GcM_follows l D T ad Γ o xo g xo g 5 [(0, .ref (ad x0)), (2, .int x2), (3, .int x3), (4, .int x4)] []
      have J40 : ∀ (x3 : Int32) (s0 : Int32) (s1 : Int32), fM_follows_b40 x0 x2 x3 s0 s1 g = some z → GcM_follows l D T ad Γ o xo g xo g 40 [(0, .ref (ad x0)), (2, .int x2), (3, .int x3)] [.int s1, .int s0] := by
        intro x3 s0 s1 h
        refine g_iadd C dX12_follows_40 ?_
        refine g_istore (lv' := [(4, .int (s0 + s1)), (0, .ref (ad x0)), (2, .int x2), (3, .int x3)]) C dX12_follows_41 (Nat.le_of_ble_eq_true rfl) rfl ?_
        refine g_goto (tgt := 5) C dX12_follows_43 (by decide) ?_
        exact g_sub [1, 2, 3, 0] rfl (Kt _ (Option.some.inj h).symm)
      refine g_iload_n C dX12_follows_5 rfl 2 rfl ?_
      refine g_iconst C dX12_follows_6 ic_m1 ?_
      refine g_icmp_eq C 46 dX12_follows_7 (by decide) (fun c7 => ?_) (fun c7 => ?_)
      · have h := iteT c7 h
        exact g_sub [1, 2, 3] rfl (Ke _ (Option.some.inj h).symm)
      · have h := iteF c7 h
        refine g_aload_n C dX12_follows_10 rfl 0 rfl ?_
        refine g_bipush C dX12_follows_11 bp_24 ?_
        obtain ⟨hi13, h⟩ := grd h
        refine g_iald (n := (lenW shM x0)) (v := g x0 24) C rfl hi13 rfl dX12_follows_13 ?_
        refine g_iload_n C dX12_follows_14 rfl 2 rfl ?_
        refine g_cSz (As := [.int (g x0 24), .int x3]) (rest := []) (ro := (fM_has (g x0 24) x3)) (go := g) (xo := xo) C (fun sz => cM_has l D T ad xo g (g x0 24) x3 _ rfl sz) kM_has ⟨Nat.le_of_ble_eq_true rfl, Nat.le_of_ble_eq_true rfl⟩ ⟨rfl, rfl⟩ ⟨Nat.zero_le _, Nat.zero_le _⟩ rfl rfl (Nat.le_of_ble_eq_true rfl) dX12_follows_15 (fun hz15 => ?_)
        refine g_if_ne C 46 dX12_follows_18 (by decide) (fun c18 => ?_) (fun c18 => ?_)
        · have h := iteT c18 h
          refine g_aload_n C dX12_follows_21 rfl 0 rfl ?_
          refine g_bipush C dX12_follows_22 bp_8 ?_
          refine g_iload_n C dX12_follows_24 rfl 2 rfl ?_
          refine g_iadd C dX12_follows_25 ?_
          obtain ⟨hi26, h⟩ := grd h
          refine g_iald (n := (lenW shM x0)) (v := g x0 (((8 : Int32) + x3).toNatClampNeg)) C rfl hi26 rfl dX12_follows_26 ?_
          refine g_istore_n (lv' := [(3, .int (g x0 (((8 : Int32) + x3).toNatClampNeg))), (0, .ref (ad x0)), (2, .int x2), (4, .int x4)]) C dX12_follows_27 rfl (Nat.le_of_ble_eq_true rfl) rfl ?_
          refine g_iload C dX12_follows_28 3 rfl ?_
          refine g_iload_n C dX12_follows_30 rfl 0 rfl ?_
          refine g_iconst C dX12_follows_31 ic_m1 ?_
          refine g_icmp_ne C 39 dX12_follows_32 (by decide) (fun c32 => ?_) (fun c32 => ?_)
          · have h := iteT c32 h
            refine g_iconst C dX12_follows_35 ic_0 ?_
            refine g_goto (tgt := 40) C dX12_follows_36 (by decide) ?_
            exact g_sub [1, 2, 0] rfl (J40 (g x0 (((8 : Int32) + x3).toNatClampNeg)) x4 (0 : Int32) h)
          · have h := iteF c32 h
            refine g_iconst C dX12_follows_39 ic_1 ?_
            exact g_sub [1, 2, 0] rfl (J40 (g x0 (((8 : Int32) + x3).toNatClampNeg)) x4 (1 : Int32) h)
        · have h := iteF c18 h
          exact g_sub [1, 2, 3] rfl (Ke _ (Option.some.inj h).symm)
    · show GcM_follows l D T ad Γ o xo g xo g 46 [(2, .int x2), (3, .int x3), (4, .int x4)] []
      refine g_iload_n C dX12_follows_46 rfl 0 rfl ?_
      refine g_if_eq C 55 dX12_follows_47 (by decide) (fun c47 => ?_) (fun c47 => ?_)
      · have h := iteT c47 h
        refine g_iload_n C dX12_follows_55 rfl 1 rfl ?_
        obtain rfl := Option.some.inj h
        exact g_iret C rfl rfl rfl dX12_follows_56
      · have h := iteF c47 h
        refine g_iload C dX12_follows_50 2 rfl ?_
        refine g_goto (tgt := 56) C dX12_follows_52 (by decide) ?_
        obtain rfl := Option.some.inj h
        exact g_iret C rfl rfl rfl dX12_follows_56
  refine g_iload_n C dX12_follows_0 rfl 1 rfl ?_
  refine g_istore_n (lv' := [(3, .int x1), (0, .ref (ad x0)), (1, .int x1), (2, .int x2)]) C dX12_follows_1 rfl (Nat.le_of_ble_eq_true rfl) rfl ?_
  refine g_iconst C dX12_follows_2 ic_0 ?_
  refine g_istore (lv' := [(4, .int (0 : Int32)), (3, .int x1), (0, .ref (ad x0)), (1, .int x1), (2, .int x2)]) C dX12_follows_3 (Nat.le_of_ble_eq_true rfl) rfl ?_
  exact g_sub [2, 4, 1, 0] rfl (J5 x0 x2 x1 (0 : Int32) h)
def fM_longest_L4 (x1 : Nat) (g : St) : (Int32 × Int32) → Option ((Int32 × Int32) ⊕ (Int32)) := fun ⟨x2, x3⟩ =>
  if (g 4 0) ≤ x3 then
    (some (.inr x2))
  else
    ((fM_follows x1 x3 (1 : Int32) g).bind fun r18 => (some (.inl ((fM_more x2 r18), (x3 + (1 : Int32))))))
def fM_longest_b4 (x1 : Nat) (x2 : Int32) (x3 : Int32) (g : St) : Option (Int32) :=
  (lp (fM_longest_L4 x1 g) fuel (x2, x3)).bind (fun x2 => some x2)
def fM_longest (x1 : Nat) (g : St) : Option (Int32) :=
  fM_longest_b4 x1 (0 : Int32) (0 : Int32) g
def rmM_longest : Room := { frames := 2, cells := 0, slots := 0, locals := 45 }
abbrev GcM_longest (l : Launch) (D : va_G) (T : cT) (ad : Nat → Nat) (Γ : Cxt) (o : Int32) (xo : Sl) (g0 : St) (x : Sl) (g : St) (pc : Nat) (lv : List (Nat × Value)) (stk : List Value) : Prop := Gj l shM D T ad 4 (rmM_longest) 0 0 Γ (MQ Γ.below (va_Qi (eqI o g0 xo) (wPost shM D T ad Γ.A) Γ.A) Γ.args Γ.s 0 0 Γ.A) x g pc lv stk
set_option maxRecDepth 100000 in
set_option maxHeartbeats 4000000 in
theorem cM_longest (l : Launch) (D : va_G) (T : cT) (ad : Nat → Nat) (xo : Sl) (g : St) (x1 : Nat) (o : Int32) (h : fM_longest x1 g = some o) (sz : Nat) : Met l yX12_longest wM_longest (rmM_longest) (va_Pc [.ref (ad 0), .ref (ad x1)] (wPre shM D T ad xo g sz)) (va_Qi (eqI o g xo) (wPost shM D T ad (aW shM T ad xo g sz)) (aW shM T ad xo g sz)) 0 0 (aW shM T ad xo g sz) := by
  refine g_start (Qc := fun A => va_Qi (eqI o g xo) (wPost shM D T ad A) A) (by decide +kernel) rfl rfl (Nat.le_of_ble_eq_true rfl) (lv := [(0, .ref (ad 0)), (1, .ref (ad x1))]) rfl (fun Γ C => ?_)
  show GcM_longest l D T ad Γ o xo g xo g 0 [(0, .ref (ad 0)), (1, .ref (ad x1))] []
  have J4 : ∀ (x1 : Nat) (x2 : Int32) (x3 : Int32), fM_longest_b4 x1 x2 x3 g = some o → GcM_longest l D T ad Γ o xo g xo g 4 [(0, .ref (ad 0)), (1, .ref (ad x1)), (2, .int x2), (3, .int x3)] [] := by
    intro x1 x2 x3 h
    obtain ⟨x2, ht, h⟩ := bnd h
    refine lp_run (P := fun t : Int32 × Int32 => match t with | (x2, x3) => GcM_longest l D T ad Γ o xo g xo g 4 [(0, .ref (ad 0)), (1, .ref (ad x1)), (2, .int x2), (3, .int x3)] []) (E := fun x2 : Int32 => GcM_longest l D T ad Γ o xo g xo g 31 [(2, .int x2)] []) ?_ _ _ _ ht ?_
    · rintro ⟨x2, x3⟩ z h Kt Ke
      show GcM_longest l D T ad Γ o xo g xo g 4 [(0, .ref (ad 0)), (1, .ref (ad x1)), (2, .int x2), (3, .int x3)] []
      refine g_iload_n C dX12_longest_4 rfl 3 rfl ?_
      refine g_aload_n C dX12_longest_5 rfl 0 rfl ?_
      refine gM_get_told C dX12_longest_6 ?_
      refine g_iconst C dX12_longest_9 ic_0 ?_
      refine g_iald (n := 2) (v := g 4 0) C ln_4 (by decide) rfl dX12_longest_10 ?_
      refine g_icmp_ge C 31 dX12_longest_11 (by decide) (fun c11 => ?_) (fun c11 => ?_)
      · have h := iteT c11 h
        exact g_sub [2] rfl (Ke _ (Option.some.inj h).symm)
      · have h := iteF c11 h
        refine g_iload_n C dX12_longest_14 rfl 2 rfl ?_
        refine g_aload_n C dX12_longest_15 rfl 1 rfl ?_
        refine g_iload_n C dX12_longest_16 rfl 3 rfl ?_
        refine g_iconst C dX12_longest_17 ic_1 ?_
        obtain ⟨r18, hr18, h⟩ := bnd h
        refine g_cSi (As := [.ref (ad x1), .int x3, .int (1 : Int32)]) (rest := [.int x2]) (ro := r18) (go := g) (xo := xo) C (fun sz => cM_follows l D T ad xo g x1 x3 (1 : Int32) _ hr18 sz) kM_follows ⟨Nat.le_of_ble_eq_true rfl, Nat.le_of_ble_eq_true rfl⟩ ⟨rfl, rfl⟩ ⟨Nat.zero_le _, Nat.zero_le _⟩ rfl rfl (Nat.le_of_ble_eq_true rfl) dX12_longest_18 ?_
        refine g_cSi (As := [.int x2, .int r18]) (rest := []) (ro := (fM_more x2 r18)) (go := g) (xo := xo) C (fun sz => cM_more l D T ad xo g x2 r18 _ rfl sz) kM_more ⟨Nat.le_of_ble_eq_true rfl, Nat.le_of_ble_eq_true rfl⟩ ⟨rfl, rfl⟩ ⟨Nat.zero_le _, Nat.zero_le _⟩ rfl rfl (Nat.le_of_ble_eq_true rfl) dX12_longest_21 ?_
        refine g_istore_n (lv' := [(2, .int (fM_more x2 r18)), (0, .ref (ad 0)), (1, .ref (ad x1)), (3, .int x3)]) C dX12_longest_24 rfl (Nat.le_of_ble_eq_true rfl) rfl ?_
        refine g_iinc (lv' := [(3, .int (x3 + (1 : Int32))), (2, .int (fM_more x2 r18)), (0, .ref (ad 0)), (1, .ref (ad x1))]) C dX12_longest_25 3 rfl (ii_1 _) (Nat.le_of_ble_eq_true rfl) rfl ?_
        refine g_goto (tgt := 4) C dX12_longest_28 (by decide) ?_
        exact g_sub [2, 3, 1, 0] rfl (Kt _ (Option.some.inj h).symm)
    · show GcM_longest l D T ad Γ o xo g xo g 31 [(2, .int x2)] []
      refine g_iload_n C dX12_longest_31 rfl 0 rfl ?_
      obtain rfl := Option.some.inj h
      exact g_iret C rfl rfl rfl dX12_longest_32
  refine g_iconst C dX12_longest_0 ic_0 ?_
  refine g_istore_n (lv' := [(2, .int (0 : Int32)), (0, .ref (ad 0)), (1, .ref (ad x1))]) C dX12_longest_1 rfl (Nat.le_of_ble_eq_true rfl) rfl ?_
  refine g_iconst C dX12_longest_2 ic_0 ?_
  refine g_istore_n (lv' := [(3, .int (0 : Int32)), (2, .int (0 : Int32)), (0, .ref (ad 0)), (1, .ref (ad x1))]) C dX12_longest_3 rfl (Nat.le_of_ble_eq_true rfl) rfl ?_
  exact g_sub [2, 3, 1, 0] rfl (J4 x1 (0 : Int32) (0 : Int32) h)
def fM_lenderIf (x1 : Nat) (x2 : Int32) (g : St) : Option (Int32 × St) :=
  if ¬ ((24 : Int32) < 0 ∨ (lenW shM x1) ≤ (24 : Int32).toNatClampNeg) then ((fM_lenderOf x1 x2 (st g x1 24 ((g x1 24) &&& (((1 : Int32) <<< (x2 &&& 31)) ^^^ (-1 : Int32))))).bind fun ⟨r15, g15⟩ => (some (r15, (st g15 x1 24 ((g15 x1 24) ||| ((1 : Int32) <<< (x2 &&& 31))))))) else none
def rmM_lenderIf : Room := { frames := 7, cells := 0, slots := 0, locals := 164 }
abbrev GcM_lenderIf (l : Launch) (D : va_G) (T : cT) (ad : Nat → Nat) (Γ : Cxt) (o : Int32 × St) (xo : Sl) (x : Sl) (g : St) (pc : Nat) (lv : List (Nat × Value)) (stk : List Value) : Prop := Gj l shM D T ad 4 (rmM_lenderIf) 0 0 Γ (MQ Γ.below (va_Qi (eqI o.1 o.2 xo) (wPost shM D T ad Γ.A) Γ.A) Γ.args Γ.s 0 0 Γ.A) x g pc lv stk
set_option maxRecDepth 100000 in
set_option maxHeartbeats 4000000 in
theorem cM_lenderIf (l : Launch) (D : va_G) (T : cT) (ad : Nat → Nat) (xo : Sl) (g : St) (x1 : Nat) (x2 : Int32) (o : Int32 × St) (h : fM_lenderIf x1 x2 g = some o) (sz : Nat) : Met l yX12_lenderIf wM_lenderIf (rmM_lenderIf) (va_Pc [.ref (ad 0), .ref (ad x1), .int x2] (wPre shM D T ad xo g sz)) (va_Qi (eqI o.1 o.2 xo) (wPost shM D T ad (aW shM T ad xo g sz)) (aW shM T ad xo g sz)) 0 0 (aW shM T ad xo g sz) := by
  refine g_start (Qc := fun A => va_Qi (eqI o.1 o.2 xo) (wPost shM D T ad A) A) (by decide +kernel) rfl rfl (Nat.le_of_ble_eq_true rfl) (lv := [(0, .ref (ad 0)), (1, .ref (ad x1)), (2, .int x2)]) rfl (fun Γ C => ?_)
  show GcM_lenderIf l D T ad Γ o xo xo g 0 [(0, .ref (ad 0)), (1, .ref (ad x1)), (2, .int x2)] []
  refine g_aload_n C dX12_lenderIf_0 rfl 1 rfl ?_
  refine g_bipush C dX12_lenderIf_1 bp_24 ?_
  refine g_dup2 C dX12_lenderIf_3 rfl rfl ?_
  obtain ⟨hi4, h⟩ := grd h
  refine g_iald (n := (lenW shM x1)) (v := g x1 24) C rfl hi4 rfl dX12_lenderIf_4 ?_
  refine g_iconst C dX12_lenderIf_5 ic_1 ?_
  refine g_iload_n C dX12_lenderIf_6 rfl 2 rfl ?_
  refine g_ishl C dX12_lenderIf_7 ?_
  refine g_iconst C dX12_lenderIf_8 ic_m1 ?_
  refine g_ixor C dX12_lenderIf_9 ?_
  refine g_iand C dX12_lenderIf_10 ?_
  refine g_iast (n := (lenW shM x1)) (q := 24) C rfl hi4 cl_24 dX12_lenderIf_11 ?_
  refine g_aload_n C dX12_lenderIf_12 rfl 0 rfl ?_
  refine g_aload_n C dX12_lenderIf_13 rfl 1 rfl ?_
  refine g_iload_n C dX12_lenderIf_14 rfl 2 rfl ?_
  obtain ⟨⟨r15, g15⟩, hr15, h⟩ := bnd h
  refine g_cVi (k := 0) (As := [.ref (ad x1), .int x2]) (rest := []) (ro := r15) (go := g15) (xo := xo) C (fun sz => cM_lenderOf l D T ad xo (st g x1 24 ((g x1 24) &&& (((1 : Int32) <<< (x2 &&& 31)) ^^^ (-1 : Int32)))) x1 x2 _ hr15 sz) kM_lenderOf ⟨Nat.le_of_ble_eq_true rfl, Nat.le_of_ble_eq_true rfl⟩ ⟨rfl, rfl⟩ ⟨Nat.zero_le _, Nat.zero_le _⟩ (rfl : vwCl[11]? = some (RX12, TX12, 48)) kM0 rfl rfl (Nat.le_of_ble_eq_true rfl) dX12_lenderIf_15 ?_
  refine g_istore_n (lv' := [(3, .int r15), (0, .ref (ad 0)), (1, .ref (ad x1)), (2, .int x2)]) C dX12_lenderIf_18 rfl (Nat.le_of_ble_eq_true rfl) rfl ?_
  refine g_aload_n C dX12_lenderIf_19 rfl 2 rfl ?_
  refine g_bipush C dX12_lenderIf_20 bp_24 ?_
  refine g_dup2 C dX12_lenderIf_22 rfl rfl ?_
  refine g_iald (n := (lenW shM x1)) (v := g15 x1 24) C rfl hi4 rfl dX12_lenderIf_23 ?_
  refine g_iconst C dX12_lenderIf_24 ic_1 ?_
  refine g_iload_n C dX12_lenderIf_25 rfl 3 rfl ?_
  refine g_ishl C dX12_lenderIf_26 ?_
  refine g_ior C dX12_lenderIf_27 ?_
  refine g_iast (n := (lenW shM x1)) (q := 24) C rfl hi4 cl_24 dX12_lenderIf_28 ?_
  refine g_iload_n C dX12_lenderIf_29 rfl 0 rfl ?_
  obtain rfl := Option.some.inj h
  exact g_iret C rfl rfl rfl dX12_lenderIf_30
def fM_told_b108 (x1 : Int32) (x2 : Int32) (x4 : Int32) (s0 : Int32) (s1 : Int32) (g : St) : Option ((Int32 × Int32 × Int32 × St) ⊕ ((Int32 × Int32 × St))) :=
  some (.inl (x2, (s0 ||| s1), (x4 + (1 : Int32)), g))
def fM_told_b78 (x1 : Int32) (x2 : Int32) (x3 : Int32) (x4 : Int32) (s0 : Int32) (g : St) : Option ((Int32 × Int32 × Int32 × St) ⊕ ((Int32 × Int32 × St))) :=
  (fM_stones 16 x4 g).bind fun r88 => (if s0 = (-1 : Int32) then
    (fM_told_b108 x1 (x2 + r88) x4 x3 (0 : Int32) g)
  else
    (fM_told_b108 x1 (x2 + r88) x4 x3 ((1 : Int32) <<< (s0 &&& 31)) g))
def fM_told_L38 (x1 : Int32) : (Int32 × Int32 × Int32 × St) → Option ((Int32 × Int32 × Int32 × St) ⊕ ((Int32 × Int32 × St))) := fun ⟨x2, x3, x4, g⟩ =>
  if (g 4 0) ≤ x4 then
    (some (.inr (x2, x3, g)))
  else
    (if (fM_has (g 16 24) x4) = 0 then
    (fM_told_b78 x1 x2 x3 x4 (-1 : Int32) g)
  else
    ((fM_lenderIf 16 x4 g).bind fun ⟨r71, g71⟩ => (fM_told_b78 x1 x2 x3 x4 r71 g71)))
def fM_told_b38 (x1 : Int32) (x2 : Int32) (x3 : Int32) (x4 : Int32) (g : St) : Option (Int32 × St) :=
  (lp (fM_told_L38 x1) fuel (x2, x3, x4, g)).bind (fun ⟨x2, x3, g⟩ => if x1 = 0 then
    (some ((g 4 0), g))
  else
    (if x1 = 1 then
    (some ((g 16 24), g))
  else
    (if x1 = 2 then
    ((fM_nameless 16 g).bind fun r196 => (some (r196, g)))
  else
    (if x1 = 3 then
    (some ((g 16 25), g))
  else
    (if x1 = 4 then
    (some (x2, g))
  else
    (if x1 = 5 then
    ((fM_debts 16 (0 : Int32) g).bind fun r216 => (some (r216, g)))
  else
    (if x1 = 6 then
    ((fM_debts 16 (1 : Int32) g).bind fun r226 => (some (r226, g)))
  else
    (if x1 = 7 then
    (some (x3, g))
  else
    (if x1 = 8 then
    (some ((g 4 1), g))
  else
    (if x1 = 9 then
    (some ((g 0 31), g))
  else
    (if x1 = 10 then
    (some ((g 0 33), g))
  else
    ((fM_longest 16 g).bind fun r254 => (some (r254, g))))))))))))))
def fM_told_b21 (x1 : Int32) (s1 : Int32) (g : St) : Option (Int32 × St) :=
  (fM_bad s1 (1 : Int32) (1 : Int32) g).bind fun ⟨r23, g23⟩ => (if r23 = 0 then
    (fM_told_b38 x1 (0 : Int32) (0 : Int32) (0 : Int32) g23)
  else
    (some ((0 : Int32), g23)))
def fM_told (x1 : Int32) (g : St) : Option (Int32 × St) :=
  if (fM_in x1 (0 : Int32) (11 : Int32)) = 0 then
    (fM_told_b21 x1 (1 : Int32) (st g 0 0 (0 : Int32)))
  else
    (fM_told_b21 x1 (0 : Int32) (st g 0 0 (0 : Int32)))
def rmM_told : Room := { frames := 8, cells := 0, slots := 0, locals := 187 }
abbrev GcM_told (l : Launch) (D : va_G) (T : cT) (ad : Nat → Nat) (Γ : Cxt) (o : Int32 × St) (xo : Sl) (x : Sl) (g : St) (pc : Nat) (lv : List (Nat × Value)) (stk : List Value) : Prop := Gj l shM D T ad 6 (rmM_told) 0 0 Γ (MQ Γ.below (va_Qi (eqI o.1 o.2 xo) (wPost shM D T ad Γ.A) Γ.A) Γ.args Γ.s 0 0 Γ.A) x g pc lv stk
set_option maxRecDepth 100000 in
set_option maxHeartbeats 4000000 in
theorem cM_told (l : Launch) (D : va_G) (T : cT) (ad : Nat → Nat) (xo : Sl) (g : St) (x1 : Int32) (o : Int32 × St) (h : fM_told x1 g = some o) (sz : Nat) : Met l yX12_told wM_told (rmM_told) (va_Pc [.ref (ad 0), .int x1] (wPre shM D T ad xo g sz)) (va_Qi (eqI o.1 o.2 xo) (wPost shM D T ad (aW shM T ad xo g sz)) (aW shM T ad xo g sz)) 0 0 (aW shM T ad xo g sz) := by
  refine g_start (Qc := fun A => va_Qi (eqI o.1 o.2 xo) (wPost shM D T ad A) A) (by decide +kernel) rfl rfl (Nat.le_of_ble_eq_true rfl) (lv := [(0, .ref (ad 0)), (1, .int x1)]) rfl (fun Γ C => ?_)
  show GcM_told l D T ad Γ o xo xo g 0 [(0, .ref (ad 0)), (1, .int x1)] []
  have J38 : ∀ (x1 : Int32) (x2 : Int32) (x3 : Int32) (x4 : Int32) (g : St), fM_told_b38 x1 x2 x3 x4 g = some o → GcM_told l D T ad Γ o xo xo g 38 [(0, .ref (ad 0)), (1, .int x1), (2, .int x2), (3, .int x3), (4, .int x4)] [] := by
    intro x1 x2 x3 x4 g h
    obtain ⟨⟨x2, x3, g⟩, ht, h⟩ := bnd h
    refine lp_run (P := fun t : Int32 × Int32 × Int32 × St => match t with | (x2, x3, x4, g) => GcM_told l D T ad Γ o xo xo g 38 [(0, .ref (ad 0)), (1, .int x1), (2, .int x2), (3, .int x3), (4, .int x4)] []) (E := fun t : Int32 × Int32 × St => match t with | (x2, x3, g) => GcM_told l D T ad Γ o xo xo g 116 [(0, .ref (ad 0)), (1, .int x1), (2, .int x2), (3, .int x3)] []) ?_ _ _ _ ht ?_
    · rintro ⟨x2, x3, x4, g⟩ z h Kt Ke
      show GcM_told l D T ad Γ o xo xo g 38 [(0, .ref (ad 0)), (1, .int x1), (2, .int x2), (3, .int x3), (4, .int x4)] []
      have J108 : ∀ (x2 : Int32) (x4 : Int32) (s0 : Int32) (s1 : Int32) (g : St), fM_told_b108 x1 x2 x4 s0 s1 g = some z → GcM_told l D T ad Γ o xo xo g 108 [(0, .ref (ad 0)), (1, .int x1), (2, .int x2), (4, .int x4)] [.int s1, .int s0] := by
        intro x2 x4 s0 s1 g h
        refine g_ior C dX12_told_108 ?_
        refine g_istore_n (lv' := [(3, .int (s0 ||| s1)), (0, .ref (ad 0)), (1, .int x1), (2, .int x2), (4, .int x4)]) C dX12_told_109 rfl (Nat.le_of_ble_eq_true rfl) rfl ?_
        refine g_iinc (lv' := [(4, .int (x4 + (1 : Int32))), (3, .int (s0 ||| s1)), (0, .ref (ad 0)), (1, .int x1), (2, .int x2)]) C dX12_told_110 4 rfl (ii_1 _) (Nat.le_of_ble_eq_true rfl) rfl ?_
        refine g_goto (tgt := 38) C dX12_told_113 (by decide) ?_
        exact g_sub [2, 3, 4, 1, 0] rfl (Kt _ (Option.some.inj h).symm)
      have J78 : ∀ (x2 : Int32) (x3 : Int32) (x4 : Int32) (s0 : Int32) (g : St), fM_told_b78 x1 x2 x3 x4 s0 g = some z → GcM_told l D T ad Γ o xo xo g 78 [(0, .ref (ad 0)), (1, .int x1), (2, .int x2), (3, .int x3), (4, .int x4)] [.int s0] := by
        intro x2 x3 x4 s0 g h
        refine g_istore (lv' := [(5, .int s0), (0, .ref (ad 0)), (1, .int x1), (2, .int x2), (3, .int x3), (4, .int x4)]) C dX12_told_78 (Nat.le_of_ble_eq_true rfl) rfl ?_
        refine g_iload_n C dX12_told_80 rfl 3 rfl ?_
        refine g_aload_n C dX12_told_81 rfl 1 rfl ?_
        refine g_aload_n C dX12_told_82 rfl 1 rfl ?_
        refine gM_get_now C dX12_told_83 ?_
        refine g_iload C dX12_told_86 5 rfl ?_
        obtain ⟨r88, hr88, h⟩ := bnd h
        refine g_cVi (k := 0) (As := [.ref (ad 16), .int x4]) (rest := [.int x2]) (ro := r88) (go := g) (xo := xo) C (fun sz => cM_stones l D T ad xo g 16 x4 _ hr88 sz) kM_stones ⟨Nat.le_of_ble_eq_true rfl, Nat.le_of_ble_eq_true rfl⟩ ⟨rfl, rfl⟩ ⟨Nat.zero_le _, Nat.zero_le _⟩ (rfl : vwCl[11]? = some (RX12, TX12, 48)) kM0 rfl rfl (Nat.le_of_ble_eq_true rfl) dX12_told_88 ?_
        refine g_iadd C dX12_told_91 ?_
        refine g_istore_n (lv' := [(2, .int (x2 + r88)), (5, .int s0), (0, .ref (ad 0)), (1, .int x1), (3, .int x3), (4, .int x4)]) C dX12_told_92 rfl (Nat.le_of_ble_eq_true rfl) rfl ?_
        refine g_iload_n C dX12_told_93 rfl 4 rfl ?_
        refine g_iload C dX12_told_94 1 rfl ?_
        refine g_iconst C dX12_told_96 ic_m1 ?_
        refine g_icmp_ne C 104 dX12_told_97 (by decide) (fun c97 => ?_) (fun c97 => ?_)
        · have h := iteT c97 h
          refine g_iconst C dX12_told_100 ic_0 ?_
          refine g_goto (tgt := 108) C dX12_told_101 (by decide) ?_
          exact g_sub [2, 3, 0, 5] rfl (J108 (x2 + r88) x4 x3 (0 : Int32) g h)
        · have h := iteF c97 h
          refine g_iconst C dX12_told_104 ic_1 ?_
          refine g_iload C dX12_told_105 1 rfl ?_
          refine g_ishl C dX12_told_107 ?_
          exact g_sub [2, 3, 0, 5] rfl (J108 (x2 + r88) x4 x3 ((1 : Int32) <<< (s0 &&& 31)) g h)
      refine g_iload C dX12_told_38 4 rfl ?_
      refine g_aload_n C dX12_told_40 rfl 0 rfl ?_
      refine gM_get_told C dX12_told_41 ?_
      refine g_iconst C dX12_told_44 ic_0 ?_
      refine g_iald (n := 2) (v := g 4 0) C ln_4 (by decide) rfl dX12_told_45 ?_
      refine g_icmp_ge C 116 dX12_told_46 (by decide) (fun c46 => ?_) (fun c46 => ?_)
      · have h := iteT c46 h
        exact g_sub [0, 1, 2, 3] rfl (Ke _ (Option.some.inj h).symm)
      · have h := iteF c46 h
        refine g_aload_n C dX12_told_49 rfl 0 rfl ?_
        refine gM_get_now C dX12_told_50 ?_
        refine g_bipush C dX12_told_53 bp_24 ?_
        refine g_iald (n := 26) (v := g 16 24) C ln_16 (by decide) rfl dX12_told_55 ?_
        refine g_iload C dX12_told_56 4 rfl ?_
        refine g_cSz (As := [.int (g 16 24), .int x4]) (rest := []) (ro := (fM_has (g 16 24) x4)) (go := g) (xo := xo) C (fun sz => cM_has l D T ad xo g (g 16 24) x4 _ rfl sz) kM_has ⟨Nat.le_of_ble_eq_true rfl, Nat.le_of_ble_eq_true rfl⟩ ⟨rfl, rfl⟩ ⟨Nat.zero_le _, Nat.zero_le _⟩ rfl rfl (Nat.le_of_ble_eq_true rfl) dX12_told_58 (fun hz58 => ?_)
        refine g_if_eq C 77 dX12_told_61 (by decide) (fun c61 => ?_) (fun c61 => ?_)
        · have h := iteT c61 h
          refine g_iconst C dX12_told_77 ic_m1 ?_
          exact J78 x2 x3 x4 (-1 : Int32) g h
        · have h := iteF c61 h
          refine g_aload_n C dX12_told_64 rfl 0 rfl ?_
          refine g_aload_n C dX12_told_65 rfl 0 rfl ?_
          refine gM_get_now C dX12_told_66 ?_
          refine g_iload C dX12_told_69 4 rfl ?_
          obtain ⟨⟨r71, g71⟩, hr71, h⟩ := bnd h
          refine g_cVi (k := 0) (As := [.ref (ad 16), .int x4]) (rest := []) (ro := r71) (go := g71) (xo := xo) C (fun sz => cM_lenderIf l D T ad xo g 16 x4 _ hr71 sz) kM_lenderIf ⟨Nat.le_of_ble_eq_true rfl, Nat.le_of_ble_eq_true rfl⟩ ⟨rfl, rfl⟩ ⟨Nat.zero_le _, Nat.zero_le _⟩ (rfl : vwCl[11]? = some (RX12, TX12, 48)) kM0 rfl rfl (Nat.le_of_ble_eq_true rfl) dX12_told_71 ?_
          refine g_goto (tgt := 78) C dX12_told_74 (by decide) ?_
          exact J78 x2 x3 x4 r71 g71 h
    · show GcM_told l D T ad Γ o xo xo g 116 [(0, .ref (ad 0)), (1, .int x1), (2, .int x2), (3, .int x3)] []
      refine g_iload_n C dX12_told_116 rfl 1 rfl ?_
      by_cases c117_0 : x1 = 0
      · have h := iteT c117_0 h
        refine g_tabIn C 0 176 dX12_told_117 c117_0 (by decide) (by decide) rfl (by decide) ?_
        refine g_aload_n C dX12_told_176 rfl 0 rfl ?_
        refine gM_get_told C dX12_told_177 ?_
        refine g_iconst C dX12_told_180 ic_0 ?_
        refine g_iald (n := 2) (v := g 4 0) C ln_4 (by decide) rfl dX12_told_181 ?_
        obtain rfl := Option.some.inj h
        exact g_iret C rfl rfl rfl dX12_told_182
      have h := iteF c117_0 h
      by_cases c117_1 : x1 = 1
      · have h := iteT c117_1 h
        refine g_tabIn C 1 183 dX12_told_117 c117_1 (by decide) (by decide) rfl (by decide) ?_
        refine g_aload_n C dX12_told_183 rfl 0 rfl ?_
        refine gM_get_now C dX12_told_184 ?_
        refine g_bipush C dX12_told_187 bp_24 ?_
        refine g_iald (n := 26) (v := g 16 24) C ln_16 (by decide) rfl dX12_told_189 ?_
        obtain rfl := Option.some.inj h
        exact g_iret C rfl rfl rfl dX12_told_190
      have h := iteF c117_1 h
      by_cases c117_2 : x1 = 2
      · have h := iteT c117_2 h
        refine g_tabIn C 2 191 dX12_told_117 c117_2 (by decide) (by decide) rfl (by decide) ?_
        refine g_aload_n C dX12_told_191 rfl 0 rfl ?_
        refine g_aload_n C dX12_told_192 rfl 0 rfl ?_
        refine gM_get_now C dX12_told_193 ?_
        obtain ⟨r196, hr196, h⟩ := bnd h
        refine g_cVi (k := 0) (As := [.ref (ad 16)]) (rest := []) (ro := r196) (go := g) (xo := xo) C (fun sz => cM_nameless l D T ad xo g 16 _ hr196 sz) kM_nameless ⟨Nat.le_of_ble_eq_true rfl, Nat.le_of_ble_eq_true rfl⟩ ⟨rfl, rfl⟩ ⟨Nat.zero_le _, Nat.zero_le _⟩ (rfl : vwCl[11]? = some (RX12, TX12, 48)) kM0 rfl rfl (Nat.le_of_ble_eq_true rfl) dX12_told_196 ?_
        obtain rfl := Option.some.inj h
        exact g_iret C rfl rfl rfl dX12_told_199
      have h := iteF c117_2 h
      by_cases c117_3 : x1 = 3
      · have h := iteT c117_3 h
        refine g_tabIn C 3 200 dX12_told_117 c117_3 (by decide) (by decide) rfl (by decide) ?_
        refine g_aload_n C dX12_told_200 rfl 0 rfl ?_
        refine gM_get_now C dX12_told_201 ?_
        refine g_bipush C dX12_told_204 bp_25 ?_
        refine g_iald (n := 26) (v := g 16 25) C ln_16 (by decide) rfl dX12_told_206 ?_
        obtain rfl := Option.some.inj h
        exact g_iret C rfl rfl rfl dX12_told_207
      have h := iteF c117_3 h
      by_cases c117_4 : x1 = 4
      · have h := iteT c117_4 h
        refine g_tabIn C 4 208 dX12_told_117 c117_4 (by decide) (by decide) rfl (by decide) ?_
        refine g_iload_n C dX12_told_208 rfl 2 rfl ?_
        obtain rfl := Option.some.inj h
        exact g_iret C rfl rfl rfl dX12_told_209
      have h := iteF c117_4 h
      by_cases c117_5 : x1 = 5
      · have h := iteT c117_5 h
        refine g_tabIn C 5 210 dX12_told_117 c117_5 (by decide) (by decide) rfl (by decide) ?_
        refine g_aload_n C dX12_told_210 rfl 0 rfl ?_
        refine g_aload_n C dX12_told_211 rfl 0 rfl ?_
        refine gM_get_now C dX12_told_212 ?_
        refine g_iconst C dX12_told_215 ic_0 ?_
        obtain ⟨r216, hr216, h⟩ := bnd h
        refine g_cVi (k := 0) (As := [.ref (ad 16), .int (0 : Int32)]) (rest := []) (ro := r216) (go := g) (xo := xo) C (fun sz => cM_debts l D T ad xo g 16 (0 : Int32) _ hr216 sz) kM_debts ⟨Nat.le_of_ble_eq_true rfl, Nat.le_of_ble_eq_true rfl⟩ ⟨rfl, rfl⟩ ⟨Nat.zero_le _, Nat.zero_le _⟩ (rfl : vwCl[11]? = some (RX12, TX12, 48)) kM0 rfl rfl (Nat.le_of_ble_eq_true rfl) dX12_told_216 ?_
        obtain rfl := Option.some.inj h
        exact g_iret C rfl rfl rfl dX12_told_219
      have h := iteF c117_5 h
      by_cases c117_6 : x1 = 6
      · have h := iteT c117_6 h
        refine g_tabIn C 6 220 dX12_told_117 c117_6 (by decide) (by decide) rfl (by decide) ?_
        refine g_aload_n C dX12_told_220 rfl 0 rfl ?_
        refine g_aload_n C dX12_told_221 rfl 0 rfl ?_
        refine gM_get_now C dX12_told_222 ?_
        refine g_iconst C dX12_told_225 ic_1 ?_
        obtain ⟨r226, hr226, h⟩ := bnd h
        refine g_cVi (k := 0) (As := [.ref (ad 16), .int (1 : Int32)]) (rest := []) (ro := r226) (go := g) (xo := xo) C (fun sz => cM_debts l D T ad xo g 16 (1 : Int32) _ hr226 sz) kM_debts ⟨Nat.le_of_ble_eq_true rfl, Nat.le_of_ble_eq_true rfl⟩ ⟨rfl, rfl⟩ ⟨Nat.zero_le _, Nat.zero_le _⟩ (rfl : vwCl[11]? = some (RX12, TX12, 48)) kM0 rfl rfl (Nat.le_of_ble_eq_true rfl) dX12_told_226 ?_
        obtain rfl := Option.some.inj h
        exact g_iret C rfl rfl rfl dX12_told_229
      have h := iteF c117_6 h
      by_cases c117_7 : x1 = 7
      · have h := iteT c117_7 h
        refine g_tabIn C 7 230 dX12_told_117 c117_7 (by decide) (by decide) rfl (by decide) ?_
        refine g_iload_n C dX12_told_230 rfl 3 rfl ?_
        obtain rfl := Option.some.inj h
        exact g_iret C rfl rfl rfl dX12_told_231
      have h := iteF c117_7 h
      by_cases c117_8 : x1 = 8
      · have h := iteT c117_8 h
        refine g_tabIn C 8 232 dX12_told_117 c117_8 (by decide) (by decide) rfl (by decide) ?_
        refine g_aload_n C dX12_told_232 rfl 0 rfl ?_
        refine gM_get_told C dX12_told_233 ?_
        refine g_iconst C dX12_told_236 ic_1 ?_
        refine g_iald (n := 2) (v := g 4 1) C ln_4 (by decide) rfl dX12_told_237 ?_
        obtain rfl := Option.some.inj h
        exact g_iret C rfl rfl rfl dX12_told_238
      have h := iteF c117_8 h
      by_cases c117_9 : x1 = 9
      · have h := iteT c117_9 h
        refine g_tabIn C 9 239 dX12_told_117 c117_9 (by decide) (by decide) rfl (by decide) ?_
        refine g_aload_n C dX12_told_239 rfl 0 rfl ?_
        refine gM_get_lines (v := g 0 31) C rfl dX12_told_240 ?_
        obtain rfl := Option.some.inj h
        exact g_iret C rfl rfl rfl dX12_told_243
      have h := iteF c117_9 h
      by_cases c117_10 : x1 = 10
      · have h := iteT c117_10 h
        refine g_tabIn C 10 244 dX12_told_117 c117_10 (by decide) (by decide) rfl (by decide) ?_
        refine g_aload_n C dX12_told_244 rfl 0 rfl ?_
        refine gM_get_refusedSteps (v := g 0 33) C rfl dX12_told_245 ?_
        obtain rfl := Option.some.inj h
        exact g_iret C rfl rfl rfl dX12_told_248
      have h := iteF c117_10 h
      refine g_tabOut C 249 dX12_told_117 (tab_0_10 _ c117_0 c117_1 c117_2 c117_3 c117_4 c117_5 c117_6 c117_7 c117_8 c117_9 c117_10) (by decide) ?_
      refine g_aload_n C dX12_told_249 rfl 0 rfl ?_
      refine g_aload_n C dX12_told_250 rfl 0 rfl ?_
      refine gM_get_now C dX12_told_251 ?_
      obtain ⟨r254, hr254, h⟩ := bnd h
      refine g_cVi (k := 0) (As := [.ref (ad 16)]) (rest := []) (ro := r254) (go := g) (xo := xo) C (fun sz => cM_longest l D T ad xo g 16 _ hr254 sz) kM_longest ⟨Nat.le_of_ble_eq_true rfl, Nat.le_of_ble_eq_true rfl⟩ ⟨rfl, rfl⟩ ⟨Nat.zero_le _, Nat.zero_le _⟩ (rfl : vwCl[11]? = some (RX12, TX12, 48)) kM0 rfl rfl (Nat.le_of_ble_eq_true rfl) dX12_told_254 ?_
      obtain rfl := Option.some.inj h
      exact g_iret C rfl rfl rfl dX12_told_257
  have J21 : ∀ (x1 : Int32) (s1 : Int32) (g : St), fM_told_b21 x1 s1 g = some o → GcM_told l D T ad Γ o xo xo g 21 [(0, .ref (ad 0)), (1, .int x1)] [.int s1, .ref (ad 0)] := by
    intro x1 s1 g h
    refine g_iconst C dX12_told_21 ic_1 ?_
    refine g_iconst C dX12_told_22 ic_1 ?_
    obtain ⟨⟨r23, g23⟩, hr23, h⟩ := bnd h
    refine g_cVz (k := 0) (As := [.int s1, .int (1 : Int32), .int (1 : Int32)]) (rest := []) (ro := r23) (go := g23) (xo := xo) C (fun sz => cM_bad l D T ad xo g s1 (1 : Int32) (1 : Int32) _ hr23 sz) kM_bad ⟨Nat.le_of_ble_eq_true rfl, Nat.le_of_ble_eq_true rfl⟩ ⟨rfl, rfl⟩ ⟨Nat.zero_le _, Nat.zero_le _⟩ (rfl : vwCl[11]? = some (RX12, TX12, 48)) kM0 rfl rfl (Nat.le_of_ble_eq_true rfl) dX12_told_23 (fun hz23 => ?_)
    refine g_if_eq C 31 dX12_told_26 (by decide) (fun c26 => ?_) (fun c26 => ?_)
    · have h := iteT c26 h
      refine g_iconst C dX12_told_31 ic_0 ?_
      refine g_istore_n (lv' := [(2, .int (0 : Int32)), (0, .ref (ad 0)), (1, .int x1)]) C dX12_told_32 rfl (Nat.le_of_ble_eq_true rfl) rfl ?_
      refine g_iconst C dX12_told_33 ic_0 ?_
      refine g_istore_n (lv' := [(3, .int (0 : Int32)), (2, .int (0 : Int32)), (0, .ref (ad 0)), (1, .int x1)]) C dX12_told_34 rfl (Nat.le_of_ble_eq_true rfl) rfl ?_
      refine g_iconst C dX12_told_35 ic_0 ?_
      refine g_istore (lv' := [(4, .int (0 : Int32)), (3, .int (0 : Int32)), (2, .int (0 : Int32)), (0, .ref (ad 0)), (1, .int x1)]) C dX12_told_36 (Nat.le_of_ble_eq_true rfl) rfl ?_
      exact g_sub [3, 4, 2, 1, 0] rfl (J38 x1 (0 : Int32) (0 : Int32) (0 : Int32) g23 h)
    · have h := iteF c26 h
      refine g_iconst C dX12_told_29 ic_0 ?_
      obtain rfl := Option.some.inj h
      exact g_iret C rfl rfl rfl dX12_told_30
  refine g_aload_n C dX12_told_0 rfl 0 rfl ?_
  refine g_iconst C dX12_told_1 ic_0 ?_
  refine gM_put_thrown C dX12_told_2 ?_
  refine g_aload_n C dX12_told_5 rfl 0 rfl ?_
  refine g_iload_n C dX12_told_6 rfl 1 rfl ?_
  refine g_iconst C dX12_told_7 ic_0 ?_
  refine g_bipush C dX12_told_8 bp_11 ?_
  refine g_cSz (As := [.int x1, .int (0 : Int32), .int (11 : Int32)]) (rest := [.ref (ad 0)]) (ro := (fM_in x1 (0 : Int32) (11 : Int32))) (go := (st g 0 0 (0 : Int32))) (xo := xo) C (fun sz => cM_in l D T ad xo (st g 0 0 (0 : Int32)) x1 (0 : Int32) (11 : Int32) _ rfl sz) kM_in ⟨Nat.le_of_ble_eq_true rfl, Nat.le_of_ble_eq_true rfl⟩ ⟨rfl, rfl⟩ ⟨Nat.zero_le _, Nat.zero_le _⟩ rfl rfl (Nat.le_of_ble_eq_true rfl) dX12_told_10 (fun hz10 => ?_)
  refine g_if_ne C 20 dX12_told_13 (by decide) (fun c13 => ?_) (fun c13 => ?_)
  · have h := iteT c13 h
    refine g_iconst C dX12_told_16 ic_1 ?_
    refine g_goto (tgt := 21) C dX12_told_17 (by decide) ?_
    exact J21 x1 (1 : Int32) (st g 0 0 (0 : Int32)) h
  · have h := iteF c13 h
    refine g_iconst C dX12_told_20 ic_0 ?_
    exact J21 x1 (0 : Int32) (st g 0 0 (0 : Int32)) h
def fM_isPerson (x1 : Int32) (g : St) : Int32 :=
  (fM_in x1 (0 : Int32) ((g 4 0) - (1 : Int32)))
def rmM_isPerson : Room := { frames := 1, cells := 0, slots := 0, locals := 22 }
abbrev GcM_isPerson (l : Launch) (D : va_G) (T : cT) (ad : Nat → Nat) (Γ : Cxt) (o : Int32) (xo : Sl) (g0 : St) (x : Sl) (g : St) (pc : Nat) (lv : List (Nat × Value)) (stk : List Value) : Prop := Gj l shM D T ad 2 (rmM_isPerson) 0 0 Γ (MQ Γ.below (va_Qi (eqZ o g0 xo) (wPost shM D T ad Γ.A) Γ.A) Γ.args Γ.s 0 0 Γ.A) x g pc lv stk
set_option maxRecDepth 100000 in
set_option maxHeartbeats 4000000 in
theorem cM_isPerson (l : Launch) (D : va_G) (T : cT) (ad : Nat → Nat) (xo : Sl) (g : St) (x1 : Int32) (o : Int32) (h : fM_isPerson x1 g = o) (sz : Nat) : Met l yX12_isPerson wM_isPerson (rmM_isPerson) (va_Pc [.ref (ad 0), .int x1] (wPre shM D T ad xo g sz)) (va_Qi (eqZ o g xo) (wPost shM D T ad (aW shM T ad xo g sz)) (aW shM T ad xo g sz)) 0 0 (aW shM T ad xo g sz) := by
  refine g_start (Qc := fun A => va_Qi (eqZ o g xo) (wPost shM D T ad A) A) (by decide +kernel) rfl rfl (Nat.le_of_ble_eq_true rfl) (lv := [(0, .ref (ad 0)), (1, .int x1)]) rfl (fun Γ C => ?_)
  show GcM_isPerson l D T ad Γ o xo g xo g 0 [(0, .ref (ad 0)), (1, .int x1)] []
  refine g_iload_n C dX12_isPerson_0 rfl 1 rfl ?_
  refine g_iconst C dX12_isPerson_1 ic_0 ?_
  refine g_aload_n C dX12_isPerson_2 rfl 0 rfl ?_
  refine gM_get_told C dX12_isPerson_3 ?_
  refine g_iconst C dX12_isPerson_6 ic_0 ?_
  refine g_iald (n := 2) (v := g 4 0) C ln_4 (by decide) rfl dX12_isPerson_7 ?_
  refine g_iconst C dX12_isPerson_8 ic_1 ?_
  refine g_isub C dX12_isPerson_9 ?_
  refine g_cSz (As := [.int x1, .int (0 : Int32), .int ((g 4 0) - (1 : Int32))]) (rest := []) (ro := (fM_in x1 (0 : Int32) ((g 4 0) - (1 : Int32)))) (go := g) (xo := xo) C (fun sz => cM_in l D T ad xo g x1 (0 : Int32) ((g 4 0) - (1 : Int32)) _ rfl sz) kM_in ⟨Nat.le_of_ble_eq_true rfl, Nat.le_of_ble_eq_true rfl⟩ ⟨rfl, rfl⟩ ⟨Nat.zero_le _, Nat.zero_le _⟩ rfl rfl (Nat.le_of_ble_eq_true rfl) dX12_isPerson_10 (fun hz10 => ?_)
  subst h
  exact g_zret C hz10 rfl rfl rfl dX12_isPerson_13
def fM_person_b43 (x1 : Int32) (x2 : Int32) (s1 : Int32) (g : St) : Option (Int32 × St) :=
  (fM_bad s1 (2 : Int32) (1 : Int32) g).bind fun ⟨r45, g45⟩ => (if r45 = 0 then
    (if x2 = 0 then
    (if ¬ (x1 < 0 ∨ 8 ≤ x1.toNatClampNeg) then (some ((g45 (34 + x1.toNatClampNeg) 0), g45)) else none)
  else
    (if x2 = 1 then
    (if ¬ (((0 : Int32) + x1) < 0 ∨ 26 ≤ ((0 : Int32) + x1).toNatClampNeg) then (some ((g45 16 (((0 : Int32) + x1).toNatClampNeg)), g45)) else none)
  else
    (if x2 = 2 then
    (some ((((g45 16 24) >>> (x1 &&& 31)) &&& (1 : Int32)), g45))
  else
    (if x2 = 3 then
    (if ¬ (((8 : Int32) + x1) < 0 ∨ 26 ≤ ((8 : Int32) + x1).toNatClampNeg) then (some ((g45 16 (((8 : Int32) + x1).toNatClampNeg)), g45)) else none)
  else
    (if x2 = 4 then
    ((fM_stones 16 x1 g45).bind fun r142 => (some (r142, g45)))
  else
    (if x2 = 5 then
    ((fM_stonesOf 16 x1 g45).bind fun r152 => (some (r152, g45)))
  else
    (if x2 = 6 then
    (if ¬ (x1 < 0 ∨ 8 ≤ x1.toNatClampNeg) then (some ((g45 8 x1.toNatClampNeg), g45)) else none)
  else
    (if ¬ (((16 : Int32) + x1) < 0 ∨ 26 ≤ ((16 : Int32) + x1).toNatClampNeg) then (some ((g45 16 (((16 : Int32) + x1).toNatClampNeg)), g45)) else none))))))))
  else
    (some ((0 : Int32), g45)))
def fM_person_b19 (x1 : Int32) (x2 : Int32) (s1 : Int32) (g : St) : Option (Int32 × St) :=
  (fM_bad s1 (1 : Int32) (0 : Int32) g).bind fun ⟨r21, g21⟩ => (if r21 = 0 then
    (if (fM_in x2 (0 : Int32) (7 : Int32)) = 0 then
    (fM_person_b43 x1 x2 (1 : Int32) g21)
  else
    (fM_person_b43 x1 x2 (0 : Int32) g21))
  else
    (some ((0 : Int32), g21)))
def fM_person (x1 : Int32) (x2 : Int32) (g : St) : Option (Int32 × St) :=
  if (fM_isPerson x1 (st g 0 0 (0 : Int32))) = 0 then
    (fM_person_b19 x1 x2 (1 : Int32) (st g 0 0 (0 : Int32)))
  else
    (fM_person_b19 x1 x2 (0 : Int32) (st g 0 0 (0 : Int32)))
def rmM_person : Room := { frames := 2, cells := 0, slots := 0, locals := 46 }
abbrev GcM_person (l : Launch) (D : va_G) (T : cT) (ad : Nat → Nat) (Γ : Cxt) (o : Int32 × St) (xo : Sl) (x : Sl) (g : St) (pc : Nat) (lv : List (Nat × Value)) (stk : List Value) : Prop := Gj l shM D T ad 3 (rmM_person) 0 0 Γ (MQ Γ.below (va_Qi (eqI o.1 o.2 xo) (wPost shM D T ad Γ.A) Γ.A) Γ.args Γ.s 0 0 Γ.A) x g pc lv stk
set_option maxRecDepth 100000 in
set_option maxHeartbeats 4000000 in
theorem cM_person (l : Launch) (D : va_G) (T : cT) (ad : Nat → Nat) (xo : Sl) (g : St) (x1 : Int32) (x2 : Int32) (o : Int32 × St) (h : fM_person x1 x2 g = some o) (sz : Nat) : Met l yX12_person wM_person (rmM_person) (va_Pc [.ref (ad 0), .int x1, .int x2] (wPre shM D T ad xo g sz)) (va_Qi (eqI o.1 o.2 xo) (wPost shM D T ad (aW shM T ad xo g sz)) (aW shM T ad xo g sz)) 0 0 (aW shM T ad xo g sz) := by
  refine g_start (Qc := fun A => va_Qi (eqI o.1 o.2 xo) (wPost shM D T ad A) A) (by decide +kernel) rfl rfl (Nat.le_of_ble_eq_true rfl) (lv := [(0, .ref (ad 0)), (1, .int x1), (2, .int x2)]) rfl (fun Γ C => ?_)
  show GcM_person l D T ad Γ o xo xo g 0 [(0, .ref (ad 0)), (1, .int x1), (2, .int x2)] []
  have J43 : ∀ (x1 : Int32) (x2 : Int32) (s1 : Int32) (g : St), fM_person_b43 x1 x2 s1 g = some o → GcM_person l D T ad Γ o xo xo g 43 [(0, .ref (ad 0)), (1, .int x1), (2, .int x2)] [.int s1, .ref (ad 0)] := by
    intro x1 x2 s1 g h
    refine g_iconst C dX12_person_43 ic_2 ?_
    refine g_iconst C dX12_person_44 ic_1 ?_
    obtain ⟨⟨r45, g45⟩, hr45, h⟩ := bnd h
    refine g_cVz (k := 0) (As := [.int s1, .int (2 : Int32), .int (1 : Int32)]) (rest := []) (ro := r45) (go := g45) (xo := xo) C (fun sz => cM_bad l D T ad xo g s1 (2 : Int32) (1 : Int32) _ hr45 sz) kM_bad ⟨Nat.le_of_ble_eq_true rfl, Nat.le_of_ble_eq_true rfl⟩ ⟨rfl, rfl⟩ ⟨Nat.zero_le _, Nat.zero_le _⟩ (rfl : vwCl[11]? = some (RX12, TX12, 48)) kM0 rfl rfl (Nat.le_of_ble_eq_true rfl) dX12_person_45 (fun hz45 => ?_)
    refine g_if_eq C 53 dX12_person_48 (by decide) (fun c48 => ?_) (fun c48 => ?_)
    · have h := iteT c48 h
      refine g_iload_n C dX12_person_53 rfl 2 rfl ?_
      by_cases c54_0 : x2 = 0
      · have h := iteT c54_0 h
        refine g_tabIn C 0 96 dX12_person_54 c54_0 (by decide) (by decide) rfl (by decide) ?_
        refine g_aload_n C dX12_person_96 rfl 0 rfl ?_
        refine gM_get_person C dX12_person_97 ?_
        refine g_iload_n C dX12_person_100 rfl 1 rfl ?_
        obtain ⟨hi101, h⟩ := grd h
        refine g_aald (n := 8) (q := (34 + x1.toNatClampNeg)) C lg_6 hi101 rfl dX12_person_101 ?_
        refine g_iconst C dX12_person_102 ic_0 ?_
        refine g_iald (n := 2) (v := g45 (34 + x1.toNatClampNeg) 0) C (lenM_person hi101) (by decide) rfl dX12_person_103 ?_
        obtain rfl := Option.some.inj h
        exact g_iret C rfl rfl rfl dX12_person_104
      have h := iteF c54_0 h
      by_cases c54_1 : x2 = 1
      · have h := iteT c54_1 h
        refine g_tabIn C 1 105 dX12_person_54 c54_1 (by decide) (by decide) rfl (by decide) ?_
        refine g_aload_n C dX12_person_105 rfl 0 rfl ?_
        refine gM_get_now C dX12_person_106 ?_
        refine g_iconst C dX12_person_109 ic_0 ?_
        refine g_iload_n C dX12_person_110 rfl 1 rfl ?_
        refine g_iadd C dX12_person_111 ?_
        obtain ⟨hi112, h⟩ := grd h
        refine g_iald (n := 26) (v := g45 16 (((0 : Int32) + x1).toNatClampNeg)) C ln_16 hi112 rfl dX12_person_112 ?_
        obtain rfl := Option.some.inj h
        exact g_iret C rfl rfl rfl dX12_person_113
      have h := iteF c54_1 h
      by_cases c54_2 : x2 = 2
      · have h := iteT c54_2 h
        refine g_tabIn C 2 114 dX12_person_54 c54_2 (by decide) (by decide) rfl (by decide) ?_
        refine g_aload_n C dX12_person_114 rfl 0 rfl ?_
        refine gM_get_now C dX12_person_115 ?_
        refine g_bipush C dX12_person_118 bp_24 ?_
        refine g_iald (n := 26) (v := g45 16 24) C ln_16 (by decide) rfl dX12_person_120 ?_
        refine g_iload_n C dX12_person_121 rfl 1 rfl ?_
        refine g_ishr C dX12_person_122 ?_
        refine g_iconst C dX12_person_123 ic_1 ?_
        refine g_iand C dX12_person_124 ?_
        obtain rfl := Option.some.inj h
        exact g_iret C rfl rfl rfl dX12_person_125
      have h := iteF c54_2 h
      by_cases c54_3 : x2 = 3
      · have h := iteT c54_3 h
        refine g_tabIn C 3 126 dX12_person_54 c54_3 (by decide) (by decide) rfl (by decide) ?_
        refine g_aload_n C dX12_person_126 rfl 0 rfl ?_
        refine gM_get_now C dX12_person_127 ?_
        refine g_bipush C dX12_person_130 bp_8 ?_
        refine g_iload_n C dX12_person_132 rfl 1 rfl ?_
        refine g_iadd C dX12_person_133 ?_
        obtain ⟨hi134, h⟩ := grd h
        refine g_iald (n := 26) (v := g45 16 (((8 : Int32) + x1).toNatClampNeg)) C ln_16 hi134 rfl dX12_person_134 ?_
        obtain rfl := Option.some.inj h
        exact g_iret C rfl rfl rfl dX12_person_135
      have h := iteF c54_3 h
      by_cases c54_4 : x2 = 4
      · have h := iteT c54_4 h
        refine g_tabIn C 4 136 dX12_person_54 c54_4 (by decide) (by decide) rfl (by decide) ?_
        refine g_aload_n C dX12_person_136 rfl 0 rfl ?_
        refine g_aload_n C dX12_person_137 rfl 0 rfl ?_
        refine gM_get_now C dX12_person_138 ?_
        refine g_iload_n C dX12_person_141 rfl 1 rfl ?_
        obtain ⟨r142, hr142, h⟩ := bnd h
        refine g_cVi (k := 0) (As := [.ref (ad 16), .int x1]) (rest := []) (ro := r142) (go := g45) (xo := xo) C (fun sz => cM_stones l D T ad xo g45 16 x1 _ hr142 sz) kM_stones ⟨Nat.le_of_ble_eq_true rfl, Nat.le_of_ble_eq_true rfl⟩ ⟨rfl, rfl⟩ ⟨Nat.zero_le _, Nat.zero_le _⟩ (rfl : vwCl[11]? = some (RX12, TX12, 48)) kM0 rfl rfl (Nat.le_of_ble_eq_true rfl) dX12_person_142 ?_
        obtain rfl := Option.some.inj h
        exact g_iret C rfl rfl rfl dX12_person_145
      have h := iteF c54_4 h
      by_cases c54_5 : x2 = 5
      · have h := iteT c54_5 h
        refine g_tabIn C 5 146 dX12_person_54 c54_5 (by decide) (by decide) rfl (by decide) ?_
        refine g_aload_n C dX12_person_146 rfl 0 rfl ?_
        refine g_aload_n C dX12_person_147 rfl 0 rfl ?_
        refine gM_get_now C dX12_person_148 ?_
        refine g_iload_n C dX12_person_151 rfl 1 rfl ?_
        obtain ⟨r152, hr152, h⟩ := bnd h
        refine g_cVi (k := 0) (As := [.ref (ad 16), .int x1]) (rest := []) (ro := r152) (go := g45) (xo := xo) C (fun sz => cM_stonesOf l D T ad xo g45 16 x1 _ hr152 sz) kM_stonesOf ⟨Nat.le_of_ble_eq_true rfl, Nat.le_of_ble_eq_true rfl⟩ ⟨rfl, rfl⟩ ⟨Nat.zero_le _, Nat.zero_le _⟩ (rfl : vwCl[11]? = some (RX12, TX12, 48)) kM0 rfl rfl (Nat.le_of_ble_eq_true rfl) dX12_person_152 ?_
        obtain rfl := Option.some.inj h
        exact g_iret C rfl rfl rfl dX12_person_155
      have h := iteF c54_5 h
      by_cases c54_6 : x2 = 6
      · have h := iteT c54_6 h
        refine g_tabIn C 6 156 dX12_person_54 c54_6 (by decide) (by decide) rfl (by decide) ?_
        refine g_aload_n C dX12_person_156 rfl 0 rfl ?_
        refine gM_get_friend C dX12_person_157 ?_
        refine g_iload_n C dX12_person_160 rfl 1 rfl ?_
        obtain ⟨hi161, h⟩ := grd h
        refine g_iald (n := 8) (v := g45 8 x1.toNatClampNeg) C ln_8 hi161 rfl dX12_person_161 ?_
        obtain rfl := Option.some.inj h
        exact g_iret C rfl rfl rfl dX12_person_162
      have h := iteF c54_6 h
      refine g_tabOut C 163 dX12_person_54 (tab_0_6 _ c54_0 c54_1 c54_2 c54_3 c54_4 c54_5 c54_6) (by decide) ?_
      refine g_aload_n C dX12_person_163 rfl 0 rfl ?_
      refine gM_get_now C dX12_person_164 ?_
      refine g_bipush C dX12_person_167 bp_16 ?_
      refine g_iload_n C dX12_person_169 rfl 1 rfl ?_
      refine g_iadd C dX12_person_170 ?_
      obtain ⟨hi171, h⟩ := grd h
      refine g_iald (n := 26) (v := g45 16 (((16 : Int32) + x1).toNatClampNeg)) C ln_16 hi171 rfl dX12_person_171 ?_
      obtain rfl := Option.some.inj h
      exact g_iret C rfl rfl rfl dX12_person_172
    · have h := iteF c48 h
      refine g_iconst C dX12_person_51 ic_0 ?_
      obtain rfl := Option.some.inj h
      exact g_iret C rfl rfl rfl dX12_person_52
  have J19 : ∀ (x1 : Int32) (x2 : Int32) (s1 : Int32) (g : St), fM_person_b19 x1 x2 s1 g = some o → GcM_person l D T ad Γ o xo xo g 19 [(0, .ref (ad 0)), (1, .int x1), (2, .int x2)] [.int s1, .ref (ad 0)] := by
    intro x1 x2 s1 g h
    refine g_iconst C dX12_person_19 ic_1 ?_
    refine g_iconst C dX12_person_20 ic_0 ?_
    obtain ⟨⟨r21, g21⟩, hr21, h⟩ := bnd h
    refine g_cVz (k := 0) (As := [.int s1, .int (1 : Int32), .int (0 : Int32)]) (rest := []) (ro := r21) (go := g21) (xo := xo) C (fun sz => cM_bad l D T ad xo g s1 (1 : Int32) (0 : Int32) _ hr21 sz) kM_bad ⟨Nat.le_of_ble_eq_true rfl, Nat.le_of_ble_eq_true rfl⟩ ⟨rfl, rfl⟩ ⟨Nat.zero_le _, Nat.zero_le _⟩ (rfl : vwCl[11]? = some (RX12, TX12, 48)) kM0 rfl rfl (Nat.le_of_ble_eq_true rfl) dX12_person_21 (fun hz21 => ?_)
    refine g_if_ne C 51 dX12_person_24 (by decide) (fun c24 => ?_) (fun c24 => ?_)
    · have h := iteT c24 h
      refine g_aload_n C dX12_person_27 rfl 0 rfl ?_
      refine g_iload_n C dX12_person_28 rfl 2 rfl ?_
      refine g_iconst C dX12_person_29 ic_0 ?_
      refine g_bipush C dX12_person_30 bp_7 ?_
      refine g_cSz (As := [.int x2, .int (0 : Int32), .int (7 : Int32)]) (rest := [.ref (ad 0)]) (ro := (fM_in x2 (0 : Int32) (7 : Int32))) (go := g21) (xo := xo) C (fun sz => cM_in l D T ad xo g21 x2 (0 : Int32) (7 : Int32) _ rfl sz) kM_in ⟨Nat.le_of_ble_eq_true rfl, Nat.le_of_ble_eq_true rfl⟩ ⟨rfl, rfl⟩ ⟨Nat.zero_le _, Nat.zero_le _⟩ rfl rfl (Nat.le_of_ble_eq_true rfl) dX12_person_32 (fun hz32 => ?_)
      refine g_if_ne C 42 dX12_person_35 (by decide) (fun c35 => ?_) (fun c35 => ?_)
      · have h := iteT c35 h
        refine g_iconst C dX12_person_38 ic_1 ?_
        refine g_goto (tgt := 43) C dX12_person_39 (by decide) ?_
        exact J43 x1 x2 (1 : Int32) g21 h
      · have h := iteF c35 h
        refine g_iconst C dX12_person_42 ic_0 ?_
        exact J43 x1 x2 (0 : Int32) g21 h
    · have h := iteF c24 h
      refine g_iconst C dX12_person_51 ic_0 ?_
      obtain rfl := Option.some.inj h
      exact g_iret C rfl rfl rfl dX12_person_52
  refine g_aload_n C dX12_person_0 rfl 0 rfl ?_
  refine g_iconst C dX12_person_1 ic_0 ?_
  refine gM_put_thrown C dX12_person_2 ?_
  refine g_aload_n C dX12_person_5 rfl 0 rfl ?_
  refine g_aload_n C dX12_person_6 rfl 0 rfl ?_
  refine g_iload_n C dX12_person_7 rfl 1 rfl ?_
  refine g_cVz (k := 0) (As := [.int x1]) (rest := [.ref (ad 0)]) (ro := (fM_isPerson x1 (st g 0 0 (0 : Int32)))) (go := (st g 0 0 (0 : Int32))) (xo := xo) C (fun sz => cM_isPerson l D T ad xo (st g 0 0 (0 : Int32)) x1 _ rfl sz) kM_isPerson ⟨Nat.le_of_ble_eq_true rfl, Nat.le_of_ble_eq_true rfl⟩ ⟨rfl, rfl⟩ ⟨Nat.zero_le _, Nat.zero_le _⟩ (rfl : vwCl[11]? = some (RX12, TX12, 48)) kM0 rfl rfl (Nat.le_of_ble_eq_true rfl) dX12_person_8 (fun hz8 => ?_)
  refine g_if_ne C 18 dX12_person_11 (by decide) (fun c11 => ?_) (fun c11 => ?_)
  · have h := iteT c11 h
    refine g_iconst C dX12_person_14 ic_1 ?_
    refine g_goto (tgt := 19) C dX12_person_15 (by decide) ?_
    exact J19 x1 x2 (1 : Int32) (st g 0 0 (0 : Int32)) h
  · have h := iteF c11 h
    refine g_iconst C dX12_person_18 ic_0 ?_
    exact J19 x1 x2 (0 : Int32) (st g 0 0 (0 : Int32)) h
def fM_will_b27 (x1 : Int32) (x2 : Int32) (s1 : Int32) (g : St) : Option (Int32 × St) :=
  (fM_bad s1 (1 : Int32) (0 : Int32) g).bind fun ⟨r29, g29⟩ => (if r29 = 0 then
    ((fM_willOf 16 x1 x2 g29).bind fun ⟨r44, g44⟩ => (some (r44, g44)))
  else
    (some ((0 : Int32), g29)))
def fM_will_b22 (x1 : Int32) (x2 : Int32) (g : St) : Option (Int32 × St) :=
  fM_will_b27 x1 x2 (1 : Int32) g
def fM_will (x1 : Int32) (x2 : Int32) (g : St) : Option (Int32 × St) :=
  if (fM_isPerson x1 (st g 0 0 (0 : Int32))) = 0 then
    (fM_will_b22 x1 x2 (st g 0 0 (0 : Int32)))
  else
    (if (fM_isPerson x2 (st g 0 0 (0 : Int32))) = 0 then
    (fM_will_b22 x1 x2 (st g 0 0 (0 : Int32)))
  else
    (fM_will_b27 x1 x2 (0 : Int32) (st g 0 0 (0 : Int32))))
def rmM_will : Room := { frames := 5, cells := 0, slots := 0, locals := 116 }
abbrev GcM_will (l : Launch) (D : va_G) (T : cT) (ad : Nat → Nat) (Γ : Cxt) (o : Int32 × St) (xo : Sl) (x : Sl) (g : St) (pc : Nat) (lv : List (Nat × Value)) (stk : List Value) : Prop := Gj l shM D T ad 3 (rmM_will) 0 0 Γ (MQ Γ.below (va_Qi (eqI o.1 o.2 xo) (wPost shM D T ad Γ.A) Γ.A) Γ.args Γ.s 0 0 Γ.A) x g pc lv stk
set_option maxRecDepth 100000 in
set_option maxHeartbeats 4000000 in
theorem cM_will (l : Launch) (D : va_G) (T : cT) (ad : Nat → Nat) (xo : Sl) (g : St) (x1 : Int32) (x2 : Int32) (o : Int32 × St) (h : fM_will x1 x2 g = some o) (sz : Nat) : Met l yX12_will wM_will (rmM_will) (va_Pc [.ref (ad 0), .int x1, .int x2] (wPre shM D T ad xo g sz)) (va_Qi (eqI o.1 o.2 xo) (wPost shM D T ad (aW shM T ad xo g sz)) (aW shM T ad xo g sz)) 0 0 (aW shM T ad xo g sz) := by
  refine g_start (Qc := fun A => va_Qi (eqI o.1 o.2 xo) (wPost shM D T ad A) A) (by decide +kernel) rfl rfl (Nat.le_of_ble_eq_true rfl) (lv := [(0, .ref (ad 0)), (1, .int x1), (2, .int x2)]) rfl (fun Γ C => ?_)
  show GcM_will l D T ad Γ o xo xo g 0 [(0, .ref (ad 0)), (1, .int x1), (2, .int x2)] []
  have J27 : ∀ (x1 : Int32) (x2 : Int32) (s1 : Int32) (g : St), fM_will_b27 x1 x2 s1 g = some o → GcM_will l D T ad Γ o xo xo g 27 [(0, .ref (ad 0)), (1, .int x1), (2, .int x2)] [.int s1, .ref (ad 0)] := by
    intro x1 x2 s1 g h
    refine g_iconst C dX12_will_27 ic_1 ?_
    refine g_iconst C dX12_will_28 ic_0 ?_
    obtain ⟨⟨r29, g29⟩, hr29, h⟩ := bnd h
    refine g_cVz (k := 0) (As := [.int s1, .int (1 : Int32), .int (0 : Int32)]) (rest := []) (ro := r29) (go := g29) (xo := xo) C (fun sz => cM_bad l D T ad xo g s1 (1 : Int32) (0 : Int32) _ hr29 sz) kM_bad ⟨Nat.le_of_ble_eq_true rfl, Nat.le_of_ble_eq_true rfl⟩ ⟨rfl, rfl⟩ ⟨Nat.zero_le _, Nat.zero_le _⟩ (rfl : vwCl[11]? = some (RX12, TX12, 48)) kM0 rfl rfl (Nat.le_of_ble_eq_true rfl) dX12_will_29 (fun hz29 => ?_)
    refine g_if_eq C 37 dX12_will_32 (by decide) (fun c32 => ?_) (fun c32 => ?_)
    · have h := iteT c32 h
      refine g_aload_n C dX12_will_37 rfl 0 rfl ?_
      refine g_aload_n C dX12_will_38 rfl 0 rfl ?_
      refine gM_get_now C dX12_will_39 ?_
      refine g_iload_n C dX12_will_42 rfl 1 rfl ?_
      refine g_iload_n C dX12_will_43 rfl 2 rfl ?_
      obtain ⟨⟨r44, g44⟩, hr44, h⟩ := bnd h
      refine g_cVi (k := 0) (As := [.ref (ad 16), .int x1, .int x2]) (rest := []) (ro := r44) (go := g44) (xo := xo) C (fun sz => cM_willOf l D T ad xo g29 16 x1 x2 _ hr44 sz) kM_willOf ⟨Nat.le_of_ble_eq_true rfl, Nat.le_of_ble_eq_true rfl⟩ ⟨rfl, rfl⟩ ⟨Nat.zero_le _, Nat.zero_le _⟩ (rfl : vwCl[11]? = some (RX12, TX12, 48)) kM0 rfl rfl (Nat.le_of_ble_eq_true rfl) dX12_will_44 ?_
      obtain rfl := Option.some.inj h
      exact g_iret C rfl rfl rfl dX12_will_47
    · have h := iteF c32 h
      refine g_iconst C dX12_will_35 ic_0 ?_
      obtain rfl := Option.some.inj h
      exact g_iret C rfl rfl rfl dX12_will_36
  have J22 : ∀ (x1 : Int32) (x2 : Int32) (g : St), fM_will_b22 x1 x2 g = some o → GcM_will l D T ad Γ o xo xo g 22 [(0, .ref (ad 0)), (1, .int x1), (2, .int x2)] [.ref (ad 0)] := by
    intro x1 x2 g h
    refine g_iconst C dX12_will_22 ic_1 ?_
    refine g_goto (tgt := 27) C dX12_will_23 (by decide) ?_
    exact J27 x1 x2 (1 : Int32) g h
  refine g_aload_n C dX12_will_0 rfl 0 rfl ?_
  refine g_iconst C dX12_will_1 ic_0 ?_
  refine gM_put_thrown C dX12_will_2 ?_
  refine g_aload_n C dX12_will_5 rfl 0 rfl ?_
  refine g_aload_n C dX12_will_6 rfl 0 rfl ?_
  refine g_iload_n C dX12_will_7 rfl 1 rfl ?_
  refine g_cVz (k := 0) (As := [.int x1]) (rest := [.ref (ad 0)]) (ro := (fM_isPerson x1 (st g 0 0 (0 : Int32)))) (go := (st g 0 0 (0 : Int32))) (xo := xo) C (fun sz => cM_isPerson l D T ad xo (st g 0 0 (0 : Int32)) x1 _ rfl sz) kM_isPerson ⟨Nat.le_of_ble_eq_true rfl, Nat.le_of_ble_eq_true rfl⟩ ⟨rfl, rfl⟩ ⟨Nat.zero_le _, Nat.zero_le _⟩ (rfl : vwCl[11]? = some (RX12, TX12, 48)) kM0 rfl rfl (Nat.le_of_ble_eq_true rfl) dX12_will_8 (fun hz8 => ?_)
  refine g_if_eq C 22 dX12_will_11 (by decide) (fun c11 => ?_) (fun c11 => ?_)
  · have h := iteT c11 h
    exact J22 x1 x2 (st g 0 0 (0 : Int32)) h
  · have h := iteF c11 h
    refine g_aload_n C dX12_will_14 rfl 0 rfl ?_
    refine g_iload_n C dX12_will_15 rfl 2 rfl ?_
    refine g_cVz (k := 0) (As := [.int x2]) (rest := [.ref (ad 0)]) (ro := (fM_isPerson x2 (st g 0 0 (0 : Int32)))) (go := (st g 0 0 (0 : Int32))) (xo := xo) C (fun sz => cM_isPerson l D T ad xo (st g 0 0 (0 : Int32)) x2 _ rfl sz) kM_isPerson ⟨Nat.le_of_ble_eq_true rfl, Nat.le_of_ble_eq_true rfl⟩ ⟨rfl, rfl⟩ ⟨Nat.zero_le _, Nat.zero_le _⟩ (rfl : vwCl[11]? = some (RX12, TX12, 48)) kM0 rfl rfl (Nat.le_of_ble_eq_true rfl) dX12_will_16 (fun hz16 => ?_)
    refine g_if_ne C 26 dX12_will_19 (by decide) (fun c19 => ?_) (fun c19 => ?_)
    · have h := iteT c19 h
      exact J22 x1 x2 (st g 0 0 (0 : Int32)) h
    · have h := iteF c19 h
      refine g_iconst C dX12_will_26 ic_0 ?_
      exact J27 x1 x2 (0 : Int32) (st g 0 0 (0 : Int32)) h
def fM_lends_b27 (x1 : Int32) (x2 : Int32) (s1 : Int32) (g : St) : Option (Int32 × St) :=
  (fM_bad s1 (1 : Int32) (0 : Int32) g).bind fun ⟨r29, g29⟩ => (if r29 = 0 then
    ((fM_isLent 16 x1 x2 g29).bind fun ⟨r44, g44⟩ => (some (r44, g44)))
  else
    (some ((0 : Int32), g29)))
def fM_lends_b22 (x1 : Int32) (x2 : Int32) (g : St) : Option (Int32 × St) :=
  fM_lends_b27 x1 x2 (1 : Int32) g
def fM_lends (x1 : Int32) (x2 : Int32) (g : St) : Option (Int32 × St) :=
  if (fM_isPerson x1 (st g 0 0 (0 : Int32))) = 0 then
    (fM_lends_b22 x1 x2 (st g 0 0 (0 : Int32)))
  else
    (if (fM_isPerson x2 (st g 0 0 (0 : Int32))) = 0 then
    (fM_lends_b22 x1 x2 (st g 0 0 (0 : Int32)))
  else
    (fM_lends_b27 x1 x2 (0 : Int32) (st g 0 0 (0 : Int32))))
def rmM_lends : Room := { frames := 6, cells := 0, slots := 0, locals := 139 }
abbrev GcM_lends (l : Launch) (D : va_G) (T : cT) (ad : Nat → Nat) (Γ : Cxt) (o : Int32 × St) (xo : Sl) (x : Sl) (g : St) (pc : Nat) (lv : List (Nat × Value)) (stk : List Value) : Prop := Gj l shM D T ad 3 (rmM_lends) 0 0 Γ (MQ Γ.below (va_Qi (eqZ o.1 o.2 xo) (wPost shM D T ad Γ.A) Γ.A) Γ.args Γ.s 0 0 Γ.A) x g pc lv stk
set_option maxRecDepth 100000 in
set_option maxHeartbeats 4000000 in
theorem cM_lends (l : Launch) (D : va_G) (T : cT) (ad : Nat → Nat) (xo : Sl) (g : St) (x1 : Int32) (x2 : Int32) (o : Int32 × St) (h : fM_lends x1 x2 g = some o) (sz : Nat) : Met l yX12_lends wM_lends (rmM_lends) (va_Pc [.ref (ad 0), .int x1, .int x2] (wPre shM D T ad xo g sz)) (va_Qi (eqZ o.1 o.2 xo) (wPost shM D T ad (aW shM T ad xo g sz)) (aW shM T ad xo g sz)) 0 0 (aW shM T ad xo g sz) := by
  refine g_start (Qc := fun A => va_Qi (eqZ o.1 o.2 xo) (wPost shM D T ad A) A) (by decide +kernel) rfl rfl (Nat.le_of_ble_eq_true rfl) (lv := [(0, .ref (ad 0)), (1, .int x1), (2, .int x2)]) rfl (fun Γ C => ?_)
  show GcM_lends l D T ad Γ o xo xo g 0 [(0, .ref (ad 0)), (1, .int x1), (2, .int x2)] []
  have J27 : ∀ (x1 : Int32) (x2 : Int32) (s1 : Int32) (hs1 : narrow .boolean (.int s1) = .int s1) (g : St), fM_lends_b27 x1 x2 s1 g = some o → GcM_lends l D T ad Γ o xo xo g 27 [(0, .ref (ad 0)), (1, .int x1), (2, .int x2)] [.int s1, .ref (ad 0)] := by
    intro x1 x2 s1 hs1 g h
    refine g_iconst C dX12_lends_27 ic_1 ?_
    refine g_iconst C dX12_lends_28 ic_0 ?_
    obtain ⟨⟨r29, g29⟩, hr29, h⟩ := bnd h
    refine g_cVz (k := 0) (As := [.int s1, .int (1 : Int32), .int (0 : Int32)]) (rest := []) (ro := r29) (go := g29) (xo := xo) C (fun sz => cM_bad l D T ad xo g s1 (1 : Int32) (0 : Int32) _ hr29 sz) kM_bad ⟨Nat.le_of_ble_eq_true rfl, Nat.le_of_ble_eq_true rfl⟩ ⟨rfl, rfl⟩ ⟨Nat.zero_le _, Nat.zero_le _⟩ (rfl : vwCl[11]? = some (RX12, TX12, 48)) kM0 rfl rfl (Nat.le_of_ble_eq_true rfl) dX12_lends_29 (fun hz29 => ?_)
    refine g_if_eq C 37 dX12_lends_32 (by decide) (fun c32 => ?_) (fun c32 => ?_)
    · have h := iteT c32 h
      refine g_aload_n C dX12_lends_37 rfl 0 rfl ?_
      refine g_aload_n C dX12_lends_38 rfl 0 rfl ?_
      refine gM_get_now C dX12_lends_39 ?_
      refine g_iload_n C dX12_lends_42 rfl 1 rfl ?_
      refine g_iload_n C dX12_lends_43 rfl 2 rfl ?_
      obtain ⟨⟨r44, g44⟩, hr44, h⟩ := bnd h
      refine g_cVz (k := 0) (As := [.ref (ad 16), .int x1, .int x2]) (rest := []) (ro := r44) (go := g44) (xo := xo) C (fun sz => cM_isLent l D T ad xo g29 16 x1 x2 _ hr44 sz) kM_isLent ⟨Nat.le_of_ble_eq_true rfl, Nat.le_of_ble_eq_true rfl⟩ ⟨rfl, rfl⟩ ⟨Nat.zero_le _, Nat.zero_le _⟩ (rfl : vwCl[11]? = some (RX12, TX12, 48)) kM0 rfl rfl (Nat.le_of_ble_eq_true rfl) dX12_lends_44 (fun hz44 => ?_)
      obtain rfl := Option.some.inj h
      exact g_zret C hz44 rfl rfl rfl dX12_lends_47
    · have h := iteF c32 h
      refine g_iconst C dX12_lends_35 ic_0 ?_
      obtain rfl := Option.some.inj h
      exact g_zret C rfl rfl rfl rfl dX12_lends_36
  have J22 : ∀ (x1 : Int32) (x2 : Int32) (g : St), fM_lends_b22 x1 x2 g = some o → GcM_lends l D T ad Γ o xo xo g 22 [(0, .ref (ad 0)), (1, .int x1), (2, .int x2)] [.ref (ad 0)] := by
    intro x1 x2 g h
    refine g_iconst C dX12_lends_22 ic_1 ?_
    refine g_goto (tgt := 27) C dX12_lends_23 (by decide) ?_
    exact J27 x1 x2 (1 : Int32) rfl g h
  refine g_aload_n C dX12_lends_0 rfl 0 rfl ?_
  refine g_iconst C dX12_lends_1 ic_0 ?_
  refine gM_put_thrown C dX12_lends_2 ?_
  refine g_aload_n C dX12_lends_5 rfl 0 rfl ?_
  refine g_aload_n C dX12_lends_6 rfl 0 rfl ?_
  refine g_iload_n C dX12_lends_7 rfl 1 rfl ?_
  refine g_cVz (k := 0) (As := [.int x1]) (rest := [.ref (ad 0)]) (ro := (fM_isPerson x1 (st g 0 0 (0 : Int32)))) (go := (st g 0 0 (0 : Int32))) (xo := xo) C (fun sz => cM_isPerson l D T ad xo (st g 0 0 (0 : Int32)) x1 _ rfl sz) kM_isPerson ⟨Nat.le_of_ble_eq_true rfl, Nat.le_of_ble_eq_true rfl⟩ ⟨rfl, rfl⟩ ⟨Nat.zero_le _, Nat.zero_le _⟩ (rfl : vwCl[11]? = some (RX12, TX12, 48)) kM0 rfl rfl (Nat.le_of_ble_eq_true rfl) dX12_lends_8 (fun hz8 => ?_)
  refine g_if_eq C 22 dX12_lends_11 (by decide) (fun c11 => ?_) (fun c11 => ?_)
  · have h := iteT c11 h
    exact J22 x1 x2 (st g 0 0 (0 : Int32)) h
  · have h := iteF c11 h
    refine g_aload_n C dX12_lends_14 rfl 0 rfl ?_
    refine g_iload_n C dX12_lends_15 rfl 2 rfl ?_
    refine g_cVz (k := 0) (As := [.int x2]) (rest := [.ref (ad 0)]) (ro := (fM_isPerson x2 (st g 0 0 (0 : Int32)))) (go := (st g 0 0 (0 : Int32))) (xo := xo) C (fun sz => cM_isPerson l D T ad xo (st g 0 0 (0 : Int32)) x2 _ rfl sz) kM_isPerson ⟨Nat.le_of_ble_eq_true rfl, Nat.le_of_ble_eq_true rfl⟩ ⟨rfl, rfl⟩ ⟨Nat.zero_le _, Nat.zero_le _⟩ (rfl : vwCl[11]? = some (RX12, TX12, 48)) kM0 rfl rfl (Nat.le_of_ble_eq_true rfl) dX12_lends_16 (fun hz16 => ?_)
    refine g_if_ne C 26 dX12_lends_19 (by decide) (fun c19 => ?_) (fun c19 => ?_)
    · have h := iteT c19 h
      exact J22 x1 x2 (st g 0 0 (0 : Int32)) h
    · have h := iteF c19 h
      refine g_iconst C dX12_lends_26 ic_0 ?_
      exact J27 x1 x2 (0 : Int32) rfl (st g 0 0 (0 : Int32)) h
def fM_would_b98 (x1 : Int32) (x2 : Int32) (x3 : Int32) (x4 : Int32) (x5 : Int32) (x6 : Int32) (x7 : Int32) (x8 : Int32) (s1 : Int32) (g : St) : Option (Int32 × St) :=
  (fM_bad s1 (1 : Int32) (1 : Int32) g).bind fun ⟨r100, g100⟩ => (if r100 = 0 then
    ((fM_willBy x1 x2 x3 x4 x5 x6 x7 x8 g100).bind fun ⟨r122, g122⟩ => (some (r122, g122)))
  else
    (some ((0 : Int32), g100)))
def fM_would_b93 (x1 : Int32) (x2 : Int32) (x3 : Int32) (x4 : Int32) (x5 : Int32) (x6 : Int32) (x7 : Int32) (x8 : Int32) (g : St) : Option (Int32 × St) :=
  fM_would_b98 x1 x2 x3 x4 x5 x6 x7 x8 (1 : Int32) g
def fM_would (x1 : Int32) (x2 : Int32) (x3 : Int32) (x4 : Int32) (x5 : Int32) (x6 : Int32) (x7 : Int32) (x8 : Int32) (g : St) : Option (Int32 × St) :=
  if (fM_in x1 (0 : Int32) (9 : Int32)) = 0 then
    (fM_would_b93 x1 x2 x3 x4 x5 x6 x7 x8 (st g 0 0 (0 : Int32)))
  else
    (if (fM_in x2 (0 : Int32) (999 : Int32)) = 0 then
    (fM_would_b93 x1 x2 x3 x4 x5 x6 x7 x8 (st g 0 0 (0 : Int32)))
  else
    (if (fM_in x3 (0 : Int32) (8 : Int32)) = 0 then
    (fM_would_b93 x1 x2 x3 x4 x5 x6 x7 x8 (st g 0 0 (0 : Int32)))
  else
    (if (fM_in x4 (0 : Int32) (1 : Int32)) = 0 then
    (fM_would_b93 x1 x2 x3 x4 x5 x6 x7 x8 (st g 0 0 (0 : Int32)))
  else
    (if (fM_in x5 (0 : Int32) (999 : Int32)) = 0 then
    (fM_would_b93 x1 x2 x3 x4 x5 x6 x7 x8 (st g 0 0 (0 : Int32)))
  else
    (if (fM_in x6 (0 : Int32) (8 : Int32)) = 0 then
    (fM_would_b93 x1 x2 x3 x4 x5 x6 x7 x8 (st g 0 0 (0 : Int32)))
  else
    (if (fM_in x7 (0 : Int32) (900 : Int32)) = 0 then
    (fM_would_b93 x1 x2 x3 x4 x5 x6 x7 x8 (st g 0 0 (0 : Int32)))
  else
    (if (fM_in x8 (0 : Int32) (7 : Int32)) = 0 then
    (fM_would_b93 x1 x2 x3 x4 x5 x6 x7 x8 (st g 0 0 (0 : Int32)))
  else
    (fM_would_b98 x1 x2 x3 x4 x5 x6 x7 x8 (0 : Int32) (st g 0 0 (0 : Int32))))))))))
def rmM_would : Room := { frames := 4, cells := 0, slots := 0, locals := 93 }
abbrev GcM_would (l : Launch) (D : va_G) (T : cT) (ad : Nat → Nat) (Γ : Cxt) (o : Int32 × St) (xo : Sl) (x : Sl) (g : St) (pc : Nat) (lv : List (Nat × Value)) (stk : List Value) : Prop := Gj l shM D T ad 9 (rmM_would) 0 0 Γ (MQ Γ.below (va_Qi (eqI o.1 o.2 xo) (wPost shM D T ad Γ.A) Γ.A) Γ.args Γ.s 0 0 Γ.A) x g pc lv stk
set_option maxRecDepth 100000 in
set_option maxHeartbeats 4000000 in
theorem cM_would (l : Launch) (D : va_G) (T : cT) (ad : Nat → Nat) (xo : Sl) (g : St) (x1 : Int32) (x2 : Int32) (x3 : Int32) (x4 : Int32) (x5 : Int32) (x6 : Int32) (x7 : Int32) (x8 : Int32) (o : Int32 × St) (h : fM_would x1 x2 x3 x4 x5 x6 x7 x8 g = some o) (sz : Nat) : Met l yX12_would wM_would (rmM_would) (va_Pc [.ref (ad 0), .int x1, .int x2, .int x3, .int x4, .int x5, .int x6, .int x7, .int x8] (wPre shM D T ad xo g sz)) (va_Qi (eqI o.1 o.2 xo) (wPost shM D T ad (aW shM T ad xo g sz)) (aW shM T ad xo g sz)) 0 0 (aW shM T ad xo g sz) := by
  refine g_start (Qc := fun A => va_Qi (eqI o.1 o.2 xo) (wPost shM D T ad A) A) (by decide +kernel) rfl rfl (Nat.le_of_ble_eq_true rfl) (lv := [(0, .ref (ad 0)), (1, .int x1), (2, .int x2), (3, .int x3), (4, .int x4), (5, .int x5), (6, .int x6), (7, .int x7), (8, .int x8)]) rfl (fun Γ C => ?_)
  show GcM_would l D T ad Γ o xo xo g 0 [(0, .ref (ad 0)), (1, .int x1), (2, .int x2), (3, .int x3), (4, .int x4), (5, .int x5), (6, .int x6), (7, .int x7), (8, .int x8)] []
  have J98 : ∀ (x1 : Int32) (x2 : Int32) (x3 : Int32) (x4 : Int32) (x5 : Int32) (x6 : Int32) (x7 : Int32) (x8 : Int32) (s1 : Int32) (g : St), fM_would_b98 x1 x2 x3 x4 x5 x6 x7 x8 s1 g = some o → GcM_would l D T ad Γ o xo xo g 98 [(0, .ref (ad 0)), (1, .int x1), (2, .int x2), (3, .int x3), (4, .int x4), (5, .int x5), (6, .int x6), (7, .int x7), (8, .int x8)] [.int s1, .ref (ad 0)] := by
    intro x1 x2 x3 x4 x5 x6 x7 x8 s1 g h
    refine g_iconst C dX12_would_98 ic_1 ?_
    refine g_iconst C dX12_would_99 ic_1 ?_
    obtain ⟨⟨r100, g100⟩, hr100, h⟩ := bnd h
    refine g_cVz (k := 0) (As := [.int s1, .int (1 : Int32), .int (1 : Int32)]) (rest := []) (ro := r100) (go := g100) (xo := xo) C (fun sz => cM_bad l D T ad xo g s1 (1 : Int32) (1 : Int32) _ hr100 sz) kM_bad ⟨Nat.le_of_ble_eq_true rfl, Nat.le_of_ble_eq_true rfl⟩ ⟨rfl, rfl⟩ ⟨Nat.zero_le _, Nat.zero_le _⟩ (rfl : vwCl[11]? = some (RX12, TX12, 48)) kM0 rfl rfl (Nat.le_of_ble_eq_true rfl) dX12_would_100 (fun hz100 => ?_)
    refine g_if_eq C 108 dX12_would_103 (by decide) (fun c103 => ?_) (fun c103 => ?_)
    · have h := iteT c103 h
      refine g_aload_n C dX12_would_108 rfl 0 rfl ?_
      refine g_iload_n C dX12_would_109 rfl 1 rfl ?_
      refine g_iload_n C dX12_would_110 rfl 2 rfl ?_
      refine g_iload_n C dX12_would_111 rfl 3 rfl ?_
      refine g_iload C dX12_would_112 4 rfl ?_
      refine g_iload C dX12_would_114 5 rfl ?_
      refine g_iload C dX12_would_116 6 rfl ?_
      refine g_iload C dX12_would_118 7 rfl ?_
      refine g_iload C dX12_would_120 8 rfl ?_
      obtain ⟨⟨r122, g122⟩, hr122, h⟩ := bnd h
      refine g_cVi (k := 0) (As := [.int x1, .int x2, .int x3, .int x4, .int x5, .int x6, .int x7, .int x8]) (rest := []) (ro := r122) (go := g122) (xo := xo) C (fun sz => cM_willBy l D T ad xo g100 x1 x2 x3 x4 x5 x6 x7 x8 _ hr122 sz) kM_willBy ⟨Nat.le_of_ble_eq_true rfl, Nat.le_of_ble_eq_true rfl⟩ ⟨rfl, rfl⟩ ⟨Nat.zero_le _, Nat.zero_le _⟩ (rfl : vwCl[11]? = some (RX12, TX12, 48)) kM0 rfl rfl (Nat.le_of_ble_eq_true rfl) dX12_would_122 ?_
      obtain rfl := Option.some.inj h
      exact g_iret C rfl rfl rfl dX12_would_125
    · have h := iteF c103 h
      refine g_iconst C dX12_would_106 ic_0 ?_
      obtain rfl := Option.some.inj h
      exact g_iret C rfl rfl rfl dX12_would_107
  have J93 : ∀ (x1 : Int32) (x2 : Int32) (x3 : Int32) (x4 : Int32) (x5 : Int32) (x6 : Int32) (x7 : Int32) (x8 : Int32) (g : St), fM_would_b93 x1 x2 x3 x4 x5 x6 x7 x8 g = some o → GcM_would l D T ad Γ o xo xo g 93 [(0, .ref (ad 0)), (1, .int x1), (2, .int x2), (3, .int x3), (4, .int x4), (5, .int x5), (6, .int x6), (7, .int x7), (8, .int x8)] [.ref (ad 0)] := by
    intro x1 x2 x3 x4 x5 x6 x7 x8 g h
    refine g_iconst C dX12_would_93 ic_1 ?_
    refine g_goto (tgt := 98) C dX12_would_94 (by decide) ?_
    exact J98 x1 x2 x3 x4 x5 x6 x7 x8 (1 : Int32) g h
  refine g_aload_n C dX12_would_0 rfl 0 rfl ?_
  refine g_iconst C dX12_would_1 ic_0 ?_
  refine gM_put_thrown C dX12_would_2 ?_
  refine g_aload_n C dX12_would_5 rfl 0 rfl ?_
  refine g_iload_n C dX12_would_6 rfl 1 rfl ?_
  refine g_iconst C dX12_would_7 ic_0 ?_
  refine g_bipush C dX12_would_8 bp_9 ?_
  refine g_cSz (As := [.int x1, .int (0 : Int32), .int (9 : Int32)]) (rest := [.ref (ad 0)]) (ro := (fM_in x1 (0 : Int32) (9 : Int32))) (go := (st g 0 0 (0 : Int32))) (xo := xo) C (fun sz => cM_in l D T ad xo (st g 0 0 (0 : Int32)) x1 (0 : Int32) (9 : Int32) _ rfl sz) kM_in ⟨Nat.le_of_ble_eq_true rfl, Nat.le_of_ble_eq_true rfl⟩ ⟨rfl, rfl⟩ ⟨Nat.zero_le _, Nat.zero_le _⟩ rfl rfl (Nat.le_of_ble_eq_true rfl) dX12_would_10 (fun hz10 => ?_)
  refine g_if_eq C 93 dX12_would_13 (by decide) (fun c13 => ?_) (fun c13 => ?_)
  · have h := iteT c13 h
    exact J93 x1 x2 x3 x4 x5 x6 x7 x8 (st g 0 0 (0 : Int32)) h
  · have h := iteF c13 h
    refine g_iload_n C dX12_would_16 rfl 2 rfl ?_
    refine g_iconst C dX12_would_17 ic_0 ?_
    refine g_sipush C dX12_would_18 sp_999 ?_
    refine g_cSz (As := [.int x2, .int (0 : Int32), .int (999 : Int32)]) (rest := [.ref (ad 0)]) (ro := (fM_in x2 (0 : Int32) (999 : Int32))) (go := (st g 0 0 (0 : Int32))) (xo := xo) C (fun sz => cM_in l D T ad xo (st g 0 0 (0 : Int32)) x2 (0 : Int32) (999 : Int32) _ rfl sz) kM_in ⟨Nat.le_of_ble_eq_true rfl, Nat.le_of_ble_eq_true rfl⟩ ⟨rfl, rfl⟩ ⟨Nat.zero_le _, Nat.zero_le _⟩ rfl rfl (Nat.le_of_ble_eq_true rfl) dX12_would_21 (fun hz21 => ?_)
    refine g_if_eq C 93 dX12_would_24 (by decide) (fun c24 => ?_) (fun c24 => ?_)
    · have h := iteT c24 h
      exact J93 x1 x2 x3 x4 x5 x6 x7 x8 (st g 0 0 (0 : Int32)) h
    · have h := iteF c24 h
      refine g_iload_n C dX12_would_27 rfl 3 rfl ?_
      refine g_iconst C dX12_would_28 ic_0 ?_
      refine g_bipush C dX12_would_29 bp_8 ?_
      refine g_cSz (As := [.int x3, .int (0 : Int32), .int (8 : Int32)]) (rest := [.ref (ad 0)]) (ro := (fM_in x3 (0 : Int32) (8 : Int32))) (go := (st g 0 0 (0 : Int32))) (xo := xo) C (fun sz => cM_in l D T ad xo (st g 0 0 (0 : Int32)) x3 (0 : Int32) (8 : Int32) _ rfl sz) kM_in ⟨Nat.le_of_ble_eq_true rfl, Nat.le_of_ble_eq_true rfl⟩ ⟨rfl, rfl⟩ ⟨Nat.zero_le _, Nat.zero_le _⟩ rfl rfl (Nat.le_of_ble_eq_true rfl) dX12_would_31 (fun hz31 => ?_)
      refine g_if_eq C 93 dX12_would_34 (by decide) (fun c34 => ?_) (fun c34 => ?_)
      · have h := iteT c34 h
        exact J93 x1 x2 x3 x4 x5 x6 x7 x8 (st g 0 0 (0 : Int32)) h
      · have h := iteF c34 h
        refine g_iload C dX12_would_37 4 rfl ?_
        refine g_iconst C dX12_would_39 ic_0 ?_
        refine g_iconst C dX12_would_40 ic_1 ?_
        refine g_cSz (As := [.int x4, .int (0 : Int32), .int (1 : Int32)]) (rest := [.ref (ad 0)]) (ro := (fM_in x4 (0 : Int32) (1 : Int32))) (go := (st g 0 0 (0 : Int32))) (xo := xo) C (fun sz => cM_in l D T ad xo (st g 0 0 (0 : Int32)) x4 (0 : Int32) (1 : Int32) _ rfl sz) kM_in ⟨Nat.le_of_ble_eq_true rfl, Nat.le_of_ble_eq_true rfl⟩ ⟨rfl, rfl⟩ ⟨Nat.zero_le _, Nat.zero_le _⟩ rfl rfl (Nat.le_of_ble_eq_true rfl) dX12_would_41 (fun hz41 => ?_)
        refine g_if_eq C 93 dX12_would_44 (by decide) (fun c44 => ?_) (fun c44 => ?_)
        · have h := iteT c44 h
          exact J93 x1 x2 x3 x4 x5 x6 x7 x8 (st g 0 0 (0 : Int32)) h
        · have h := iteF c44 h
          refine g_iload C dX12_would_47 5 rfl ?_
          refine g_iconst C dX12_would_49 ic_0 ?_
          refine g_sipush C dX12_would_50 sp_999 ?_
          refine g_cSz (As := [.int x5, .int (0 : Int32), .int (999 : Int32)]) (rest := [.ref (ad 0)]) (ro := (fM_in x5 (0 : Int32) (999 : Int32))) (go := (st g 0 0 (0 : Int32))) (xo := xo) C (fun sz => cM_in l D T ad xo (st g 0 0 (0 : Int32)) x5 (0 : Int32) (999 : Int32) _ rfl sz) kM_in ⟨Nat.le_of_ble_eq_true rfl, Nat.le_of_ble_eq_true rfl⟩ ⟨rfl, rfl⟩ ⟨Nat.zero_le _, Nat.zero_le _⟩ rfl rfl (Nat.le_of_ble_eq_true rfl) dX12_would_53 (fun hz53 => ?_)
          refine g_if_eq C 93 dX12_would_56 (by decide) (fun c56 => ?_) (fun c56 => ?_)
          · have h := iteT c56 h
            exact J93 x1 x2 x3 x4 x5 x6 x7 x8 (st g 0 0 (0 : Int32)) h
          · have h := iteF c56 h
            refine g_iload C dX12_would_59 6 rfl ?_
            refine g_iconst C dX12_would_61 ic_0 ?_
            refine g_bipush C dX12_would_62 bp_8 ?_
            refine g_cSz (As := [.int x6, .int (0 : Int32), .int (8 : Int32)]) (rest := [.ref (ad 0)]) (ro := (fM_in x6 (0 : Int32) (8 : Int32))) (go := (st g 0 0 (0 : Int32))) (xo := xo) C (fun sz => cM_in l D T ad xo (st g 0 0 (0 : Int32)) x6 (0 : Int32) (8 : Int32) _ rfl sz) kM_in ⟨Nat.le_of_ble_eq_true rfl, Nat.le_of_ble_eq_true rfl⟩ ⟨rfl, rfl⟩ ⟨Nat.zero_le _, Nat.zero_le _⟩ rfl rfl (Nat.le_of_ble_eq_true rfl) dX12_would_64 (fun hz64 => ?_)
            refine g_if_eq C 93 dX12_would_67 (by decide) (fun c67 => ?_) (fun c67 => ?_)
            · have h := iteT c67 h
              exact J93 x1 x2 x3 x4 x5 x6 x7 x8 (st g 0 0 (0 : Int32)) h
            · have h := iteF c67 h
              refine g_iload C dX12_would_70 7 rfl ?_
              refine g_iconst C dX12_would_72 ic_0 ?_
              refine g_sipush C dX12_would_73 sp_900 ?_
              refine g_cSz (As := [.int x7, .int (0 : Int32), .int (900 : Int32)]) (rest := [.ref (ad 0)]) (ro := (fM_in x7 (0 : Int32) (900 : Int32))) (go := (st g 0 0 (0 : Int32))) (xo := xo) C (fun sz => cM_in l D T ad xo (st g 0 0 (0 : Int32)) x7 (0 : Int32) (900 : Int32) _ rfl sz) kM_in ⟨Nat.le_of_ble_eq_true rfl, Nat.le_of_ble_eq_true rfl⟩ ⟨rfl, rfl⟩ ⟨Nat.zero_le _, Nat.zero_le _⟩ rfl rfl (Nat.le_of_ble_eq_true rfl) dX12_would_76 (fun hz76 => ?_)
              refine g_if_eq C 93 dX12_would_79 (by decide) (fun c79 => ?_) (fun c79 => ?_)
              · have h := iteT c79 h
                exact J93 x1 x2 x3 x4 x5 x6 x7 x8 (st g 0 0 (0 : Int32)) h
              · have h := iteF c79 h
                refine g_iload C dX12_would_82 8 rfl ?_
                refine g_iconst C dX12_would_84 ic_0 ?_
                refine g_bipush C dX12_would_85 bp_7 ?_
                refine g_cSz (As := [.int x8, .int (0 : Int32), .int (7 : Int32)]) (rest := [.ref (ad 0)]) (ro := (fM_in x8 (0 : Int32) (7 : Int32))) (go := (st g 0 0 (0 : Int32))) (xo := xo) C (fun sz => cM_in l D T ad xo (st g 0 0 (0 : Int32)) x8 (0 : Int32) (7 : Int32) _ rfl sz) kM_in ⟨Nat.le_of_ble_eq_true rfl, Nat.le_of_ble_eq_true rfl⟩ ⟨rfl, rfl⟩ ⟨Nat.zero_le _, Nat.zero_le _⟩ rfl rfl (Nat.le_of_ble_eq_true rfl) dX12_would_87 (fun hz87 => ?_)
                refine g_if_ne C 97 dX12_would_90 (by decide) (fun c90 => ?_) (fun c90 => ?_)
                · have h := iteT c90 h
                  exact J93 x1 x2 x3 x4 x5 x6 x7 x8 (st g 0 0 (0 : Int32)) h
                · have h := iteF c90 h
                  refine g_iconst C dX12_would_97 ic_0 ?_
                  exact J98 x1 x2 x3 x4 x5 x6 x7 x8 (0 : Int32) (st g 0 0 (0 : Int32)) h
def fM_lender_b19 (x1 : Int32) (s1 : Int32) (g : St) : Option (Int32 × St) :=
  (fM_bad s1 (1 : Int32) (0 : Int32) g).bind fun ⟨r21, g21⟩ => (if r21 = 0 then
    (if (fM_has (g21 16 24) x1) = 0 then
    (some ((-1 : Int32), g21))
  else
    ((fM_lenderIf 16 x1 g21).bind fun ⟨r49, g49⟩ => (some (r49, g49))))
  else
    (some ((0 : Int32), g21)))
def fM_lender (x1 : Int32) (g : St) : Option (Int32 × St) :=
  if (fM_isPerson x1 (st g 0 0 (0 : Int32))) = 0 then
    (fM_lender_b19 x1 (1 : Int32) (st g 0 0 (0 : Int32)))
  else
    (fM_lender_b19 x1 (0 : Int32) (st g 0 0 (0 : Int32)))
def rmM_lender : Room := { frames := 8, cells := 0, slots := 0, locals := 187 }
abbrev GcM_lender (l : Launch) (D : va_G) (T : cT) (ad : Nat → Nat) (Γ : Cxt) (o : Int32 × St) (xo : Sl) (x : Sl) (g : St) (pc : Nat) (lv : List (Nat × Value)) (stk : List Value) : Prop := Gj l shM D T ad 2 (rmM_lender) 0 0 Γ (MQ Γ.below (va_Qi (eqI o.1 o.2 xo) (wPost shM D T ad Γ.A) Γ.A) Γ.args Γ.s 0 0 Γ.A) x g pc lv stk
set_option maxRecDepth 100000 in
set_option maxHeartbeats 4000000 in
theorem cM_lender (l : Launch) (D : va_G) (T : cT) (ad : Nat → Nat) (xo : Sl) (g : St) (x1 : Int32) (o : Int32 × St) (h : fM_lender x1 g = some o) (sz : Nat) : Met l yX12_lender wM_lender (rmM_lender) (va_Pc [.ref (ad 0), .int x1] (wPre shM D T ad xo g sz)) (va_Qi (eqI o.1 o.2 xo) (wPost shM D T ad (aW shM T ad xo g sz)) (aW shM T ad xo g sz)) 0 0 (aW shM T ad xo g sz) := by
  refine g_start (Qc := fun A => va_Qi (eqI o.1 o.2 xo) (wPost shM D T ad A) A) (by decide +kernel) rfl rfl (Nat.le_of_ble_eq_true rfl) (lv := [(0, .ref (ad 0)), (1, .int x1)]) rfl (fun Γ C => ?_)
  show GcM_lender l D T ad Γ o xo xo g 0 [(0, .ref (ad 0)), (1, .int x1)] []
  have J19 : ∀ (x1 : Int32) (s1 : Int32) (g : St), fM_lender_b19 x1 s1 g = some o → GcM_lender l D T ad Γ o xo xo g 19 [(0, .ref (ad 0)), (1, .int x1)] [.int s1, .ref (ad 0)] := by
    intro x1 s1 g h
    refine g_iconst C dX12_lender_19 ic_1 ?_
    refine g_iconst C dX12_lender_20 ic_0 ?_
    obtain ⟨⟨r21, g21⟩, hr21, h⟩ := bnd h
    refine g_cVz (k := 0) (As := [.int s1, .int (1 : Int32), .int (0 : Int32)]) (rest := []) (ro := r21) (go := g21) (xo := xo) C (fun sz => cM_bad l D T ad xo g s1 (1 : Int32) (0 : Int32) _ hr21 sz) kM_bad ⟨Nat.le_of_ble_eq_true rfl, Nat.le_of_ble_eq_true rfl⟩ ⟨rfl, rfl⟩ ⟨Nat.zero_le _, Nat.zero_le _⟩ (rfl : vwCl[11]? = some (RX12, TX12, 48)) kM0 rfl rfl (Nat.le_of_ble_eq_true rfl) dX12_lender_21 (fun hz21 => ?_)
    refine g_if_eq C 29 dX12_lender_24 (by decide) (fun c24 => ?_) (fun c24 => ?_)
    · have h := iteT c24 h
      refine g_aload_n C dX12_lender_29 rfl 0 rfl ?_
      refine gM_get_now C dX12_lender_30 ?_
      refine g_bipush C dX12_lender_33 bp_24 ?_
      refine g_iald (n := 26) (v := g21 16 24) C ln_16 (by decide) rfl dX12_lender_35 ?_
      refine g_iload_n C dX12_lender_36 rfl 1 rfl ?_
      refine g_cSz (As := [.int (g21 16 24), .int x1]) (rest := []) (ro := (fM_has (g21 16 24) x1)) (go := g21) (xo := xo) C (fun sz => cM_has l D T ad xo g21 (g21 16 24) x1 _ rfl sz) kM_has ⟨Nat.le_of_ble_eq_true rfl, Nat.le_of_ble_eq_true rfl⟩ ⟨rfl, rfl⟩ ⟨Nat.zero_le _, Nat.zero_le _⟩ rfl rfl (Nat.le_of_ble_eq_true rfl) dX12_lender_37 (fun hz37 => ?_)
      refine g_if_eq C 55 dX12_lender_40 (by decide) (fun c40 => ?_) (fun c40 => ?_)
      · have h := iteT c40 h
        refine g_iconst C dX12_lender_55 ic_m1 ?_
        obtain rfl := Option.some.inj h
        exact g_iret C rfl rfl rfl dX12_lender_56
      · have h := iteF c40 h
        refine g_aload_n C dX12_lender_43 rfl 0 rfl ?_
        refine g_aload_n C dX12_lender_44 rfl 0 rfl ?_
        refine gM_get_now C dX12_lender_45 ?_
        refine g_iload_n C dX12_lender_48 rfl 1 rfl ?_
        obtain ⟨⟨r49, g49⟩, hr49, h⟩ := bnd h
        refine g_cVi (k := 0) (As := [.ref (ad 16), .int x1]) (rest := []) (ro := r49) (go := g49) (xo := xo) C (fun sz => cM_lenderIf l D T ad xo g21 16 x1 _ hr49 sz) kM_lenderIf ⟨Nat.le_of_ble_eq_true rfl, Nat.le_of_ble_eq_true rfl⟩ ⟨rfl, rfl⟩ ⟨Nat.zero_le _, Nat.zero_le _⟩ (rfl : vwCl[11]? = some (RX12, TX12, 48)) kM0 rfl rfl (Nat.le_of_ble_eq_true rfl) dX12_lender_49 ?_
        refine g_goto (tgt := 56) C dX12_lender_52 (by decide) ?_
        obtain rfl := Option.some.inj h
        exact g_iret C rfl rfl rfl dX12_lender_56
    · have h := iteF c24 h
      refine g_iconst C dX12_lender_27 ic_0 ?_
      obtain rfl := Option.some.inj h
      exact g_iret C rfl rfl rfl dX12_lender_28
  refine g_aload_n C dX12_lender_0 rfl 0 rfl ?_
  refine g_iconst C dX12_lender_1 ic_0 ?_
  refine gM_put_thrown C dX12_lender_2 ?_
  refine g_aload_n C dX12_lender_5 rfl 0 rfl ?_
  refine g_aload_n C dX12_lender_6 rfl 0 rfl ?_
  refine g_iload_n C dX12_lender_7 rfl 1 rfl ?_
  refine g_cVz (k := 0) (As := [.int x1]) (rest := [.ref (ad 0)]) (ro := (fM_isPerson x1 (st g 0 0 (0 : Int32)))) (go := (st g 0 0 (0 : Int32))) (xo := xo) C (fun sz => cM_isPerson l D T ad xo (st g 0 0 (0 : Int32)) x1 _ rfl sz) kM_isPerson ⟨Nat.le_of_ble_eq_true rfl, Nat.le_of_ble_eq_true rfl⟩ ⟨rfl, rfl⟩ ⟨Nat.zero_le _, Nat.zero_le _⟩ (rfl : vwCl[11]? = some (RX12, TX12, 48)) kM0 rfl rfl (Nat.le_of_ble_eq_true rfl) dX12_lender_8 (fun hz8 => ?_)
  refine g_if_ne C 18 dX12_lender_11 (by decide) (fun c11 => ?_) (fun c11 => ?_)
  · have h := iteT c11 h
    refine g_iconst C dX12_lender_14 ic_1 ?_
    refine g_goto (tgt := 19) C dX12_lender_15 (by decide) ?_
    exact J19 x1 (1 : Int32) (st g 0 0 (0 : Int32)) h
  · have h := iteF c11 h
    refine g_iconst C dX12_lender_18 ic_0 ?_
    exact J19 x1 (0 : Int32) (st g 0 0 (0 : Int32)) h
def fM_deepest_b37 (x1 : Nat) (x3 : Int32) (s0 : Int32) (g : St) : Option ((Int32 × Int32) ⊕ (Int32)) :=
  some (.inl (s0, (x3 + (1 : Int32))))
def fM_deepest_b32 (x1 : Nat) (x3 : Int32) (g : St) : Option ((Int32 × Int32) ⊕ (Int32)) :=
  fM_deepest_b37 x1 x3 x3 g
def fM_deepest_L4 (x1 : Nat) (g : St) : (Int32 × Int32) → Option ((Int32 × Int32) ⊕ (Int32)) := fun ⟨x2, x3⟩ =>
  if (g 4 0) ≤ x3 then
    (some (.inr x2))
  else
    (if x2 = (-1 : Int32) then
    (fM_deepest_b32 x1 x3 g)
  else
    (if ¬ (((0 : Int32) + x3) < 0 ∨ (lenW shM x1) ≤ ((0 : Int32) + x3).toNatClampNeg) then (if ¬ (((0 : Int32) + x2) < 0 ∨ (lenW shM x1) ≤ ((0 : Int32) + x2).toNatClampNeg) then (if (g x1 (((0 : Int32) + x3).toNatClampNeg)) ≤ (g x1 (((0 : Int32) + x2).toNatClampNeg)) then
    (fM_deepest_b37 x1 x3 x2 g)
  else
    (fM_deepest_b32 x1 x3 g)) else none) else none))
def fM_deepest_b4 (x1 : Nat) (x2 : Int32) (x3 : Int32) (g : St) : Option (Int32) :=
  (lp (fM_deepest_L4 x1 g) fuel (x2, x3)).bind (fun x2 => some x2)
def fM_deepest (x1 : Nat) (g : St) : Option (Int32) :=
  fM_deepest_b4 x1 (-1 : Int32) (0 : Int32) g
def rmM_deepest : Room := { frames := 0, cells := 0, slots := 0, locals := 0 }
abbrev GcM_deepest (l : Launch) (D : va_G) (T : cT) (ad : Nat → Nat) (Γ : Cxt) (o : Int32) (xo : Sl) (g0 : St) (x : Sl) (g : St) (pc : Nat) (lv : List (Nat × Value)) (stk : List Value) : Prop := Gj l shM D T ad 4 (rmM_deepest) 0 0 Γ (MQ Γ.below (va_Qi (eqI o g0 xo) (wPost shM D T ad Γ.A) Γ.A) Γ.args Γ.s 0 0 Γ.A) x g pc lv stk
set_option maxRecDepth 100000 in
set_option maxHeartbeats 4000000 in
theorem cM_deepest (l : Launch) (D : va_G) (T : cT) (ad : Nat → Nat) (xo : Sl) (g : St) (x1 : Nat) (o : Int32) (h : fM_deepest x1 g = some o) (sz : Nat) : Met l yX12_deepest wM_deepest (rmM_deepest) (va_Pc [.ref (ad 0), .ref (ad x1)] (wPre shM D T ad xo g sz)) (va_Qi (eqI o g xo) (wPost shM D T ad (aW shM T ad xo g sz)) (aW shM T ad xo g sz)) 0 0 (aW shM T ad xo g sz) := by
  refine g_start (Qc := fun A => va_Qi (eqI o g xo) (wPost shM D T ad A) A) (by decide +kernel) rfl rfl (Nat.le_of_ble_eq_true rfl) (lv := [(0, .ref (ad 0)), (1, .ref (ad x1))]) rfl (fun Γ C => ?_)
  show GcM_deepest l D T ad Γ o xo g xo g 0 [(0, .ref (ad 0)), (1, .ref (ad x1))] []
  have J4 : ∀ (x1 : Nat) (x2 : Int32) (x3 : Int32), fM_deepest_b4 x1 x2 x3 g = some o → GcM_deepest l D T ad Γ o xo g xo g 4 [(0, .ref (ad 0)), (1, .ref (ad x1)), (2, .int x2), (3, .int x3)] [] := by
    intro x1 x2 x3 h
    obtain ⟨x2, ht, h⟩ := bnd h
    refine lp_run (P := fun t : Int32 × Int32 => match t with | (x2, x3) => GcM_deepest l D T ad Γ o xo g xo g 4 [(0, .ref (ad 0)), (1, .ref (ad x1)), (2, .int x2), (3, .int x3)] []) (E := fun x2 : Int32 => GcM_deepest l D T ad Γ o xo g xo g 44 [(2, .int x2)] []) ?_ _ _ _ ht ?_
    · rintro ⟨x2, x3⟩ z h Kt Ke
      show GcM_deepest l D T ad Γ o xo g xo g 4 [(0, .ref (ad 0)), (1, .ref (ad x1)), (2, .int x2), (3, .int x3)] []
      have J37 : ∀ (x3 : Int32) (s0 : Int32), fM_deepest_b37 x1 x3 s0 g = some z → GcM_deepest l D T ad Γ o xo g xo g 37 [(0, .ref (ad 0)), (1, .ref (ad x1)), (3, .int x3)] [.int s0] := by
        intro x3 s0 h
        refine g_istore_n (lv' := [(2, .int s0), (0, .ref (ad 0)), (1, .ref (ad x1)), (3, .int x3)]) C dX12_deepest_37 rfl (Nat.le_of_ble_eq_true rfl) rfl ?_
        refine g_iinc (lv' := [(3, .int (x3 + (1 : Int32))), (2, .int s0), (0, .ref (ad 0)), (1, .ref (ad x1))]) C dX12_deepest_38 3 rfl (ii_1 _) (Nat.le_of_ble_eq_true rfl) rfl ?_
        refine g_goto (tgt := 4) C dX12_deepest_41 (by decide) ?_
        exact g_sub [2, 3, 1, 0] rfl (Kt _ (Option.some.inj h).symm)
      have J32 : ∀ (x3 : Int32), fM_deepest_b32 x1 x3 g = some z → GcM_deepest l D T ad Γ o xo g xo g 32 [(0, .ref (ad 0)), (1, .ref (ad x1)), (3, .int x3)] [] := by
        intro x3 h
        refine g_iload_n C dX12_deepest_32 rfl 2 rfl ?_
        refine g_goto (tgt := 37) C dX12_deepest_33 (by decide) ?_
        exact J37 x3 x3 h
      refine g_iload_n C dX12_deepest_4 rfl 3 rfl ?_
      refine g_aload_n C dX12_deepest_5 rfl 0 rfl ?_
      refine gM_get_told C dX12_deepest_6 ?_
      refine g_iconst C dX12_deepest_9 ic_0 ?_
      refine g_iald (n := 2) (v := g 4 0) C ln_4 (by decide) rfl dX12_deepest_10 ?_
      refine g_icmp_ge C 44 dX12_deepest_11 (by decide) (fun c11 => ?_) (fun c11 => ?_)
      · have h := iteT c11 h
        exact g_sub [2] rfl (Ke _ (Option.some.inj h).symm)
      · have h := iteF c11 h
        refine g_iload_n C dX12_deepest_14 rfl 2 rfl ?_
        refine g_iconst C dX12_deepest_15 ic_m1 ?_
        refine g_icmp_eq C 32 dX12_deepest_16 (by decide) (fun c16 => ?_) (fun c16 => ?_)
        · have h := iteT c16 h
          exact g_sub [0, 1, 3] rfl (J32 x3 h)
        · have h := iteF c16 h
          refine g_aload_n C dX12_deepest_19 rfl 1 rfl ?_
          refine g_iconst C dX12_deepest_20 ic_0 ?_
          refine g_iload_n C dX12_deepest_21 rfl 3 rfl ?_
          refine g_iadd C dX12_deepest_22 ?_
          obtain ⟨hi23, h⟩ := grd h
          refine g_iald (n := (lenW shM x1)) (v := g x1 (((0 : Int32) + x3).toNatClampNeg)) C rfl hi23 rfl dX12_deepest_23 ?_
          refine g_aload_n C dX12_deepest_24 rfl 1 rfl ?_
          refine g_iconst C dX12_deepest_25 ic_0 ?_
          refine g_iload_n C dX12_deepest_26 rfl 2 rfl ?_
          refine g_iadd C dX12_deepest_27 ?_
          obtain ⟨hi28, h⟩ := grd h
          refine g_iald (n := (lenW shM x1)) (v := g x1 (((0 : Int32) + x2).toNatClampNeg)) C rfl hi28 rfl dX12_deepest_28 ?_
          refine g_icmp_le C 36 dX12_deepest_29 (by decide) (fun c29 => ?_) (fun c29 => ?_)
          · have h := iteT c29 h
            refine g_iload_n C dX12_deepest_36 rfl 2 rfl ?_
            exact g_sub [0, 1, 3] rfl (J37 x3 x2 h)
          · have h := iteF c29 h
            exact g_sub [0, 1, 3] rfl (J32 x3 h)
    · show GcM_deepest l D T ad Γ o xo g xo g 44 [(2, .int x2)] []
      refine g_iload_n C dX12_deepest_44 rfl 0 rfl ?_
      obtain rfl := Option.some.inj h
      exact g_iret C rfl rfl rfl dX12_deepest_45
  refine g_iconst C dX12_deepest_0 ic_m1 ?_
  refine g_istore_n (lv' := [(2, .int (-1 : Int32)), (0, .ref (ad 0)), (1, .ref (ad x1))]) C dX12_deepest_1 rfl (Nat.le_of_ble_eq_true rfl) rfl ?_
  refine g_iconst C dX12_deepest_2 ic_0 ?_
  refine g_istore_n (lv' := [(3, .int (0 : Int32)), (2, .int (-1 : Int32)), (0, .ref (ad 0)), (1, .ref (ad x1))]) C dX12_deepest_3 rfl (Nat.le_of_ble_eq_true rfl) rfl ?_
  exact g_sub [2, 3, 1, 0] rfl (J4 x1 (-1 : Int32) (0 : Int32) h)
def fM_ahead_b156 (x4 : Int32) (s0 : Int32) (s1 : Int32) (g : St) : Option ((Int32 × Int32 × St) ⊕ ((Int32 × St))) :=
  some (.inl ((s0 ||| s1), (x4 + (1 : Int32)), g))
def fM_ahead_b155 (x4 : Int32) (s0 : Int32) (g : St) : Option ((Int32 × Int32 × St) ⊕ ((Int32 × St))) :=
  fM_ahead_b156 x4 s0 (0 : Int32) g
def fM_ahead_L107 : (Int32 × Int32 × St) → Option ((Int32 × Int32 × St) ⊕ ((Int32 × St))) := fun ⟨x3, x4, g⟩ =>
  if (g 4 0) ≤ x4 then
    (some (.inr (x3, g)))
  else
    (if (fM_has (g 17 24) x4) = 0 then
    (fM_ahead_b155 x4 x3 g)
  else
    ((fM_lenderIf 17 x4 g).bind fun ⟨r141, g141⟩ => (if r141 = (-1 : Int32) then
    (fM_ahead_b155 x4 x3 g141)
  else
    (fM_ahead_b156 x4 x3 ((1 : Int32) <<< (x4 &&& 31)) g141))))
def fM_ahead_b107 (x3 : Int32) (x4 : Int32) (g : St) : Option (Int32 × St) :=
  (lp (fM_ahead_L107) fuel (x3, x4, g)).bind (fun ⟨x3, g⟩ => some (x3, g))
def fM_ahead_L53 (x1 : Int32) (x2 : Int32) : (Int32 × St) → Option ((Int32 × St) ⊕ (St)) := fun ⟨x3, g⟩ =>
  if x1 ≤ x3 then
    (some (.inr g))
  else
    ((fM_yearEnds 17 g).bind fun g63 => (some (.inl ((x3 + (1 : Int32)), g63))))
def fM_ahead_b53 (x1 : Int32) (x2 : Int32) (x3 : Int32) (g : St) : Option (Int32 × St) :=
  (lp (fM_ahead_L53 x1 x2) fuel (x3, g)).bind (fun g => if x2 = (1 : Int32) then
    (fM_ahead_b107 (0 : Int32) (0 : Int32) g)
  else
    (if x2 = 0 then
    ((fM_debts 17 (0 : Int32) g).bind fun r87 => (some (r87, g)))
  else
    ((fM_deepest 17 g).bind fun r98 => (some (r98, g)))))
def fM_ahead_b30 (x1 : Int32) (x2 : Int32) (s1 : Int32) (g : St) : Option (Int32 × St) :=
  (fM_bad s1 (1 : Int32) (1 : Int32) g).bind fun ⟨r32, g32⟩ => (if r32 = 0 then
    ((fM_copies 16 17 g32).bind fun g48 => (fM_ahead_b53 x1 x2 (0 : Int32) g48))
  else
    (some ((0 : Int32), g32)))
def fM_ahead_b25 (x1 : Int32) (x2 : Int32) (g : St) : Option (Int32 × St) :=
  fM_ahead_b30 x1 x2 (1 : Int32) g
def fM_ahead (x1 : Int32) (x2 : Int32) (g : St) : Option (Int32 × St) :=
  if (fM_in x1 (0 : Int32) (99 : Int32)) = 0 then
    (fM_ahead_b25 x1 x2 (st g 0 0 (0 : Int32)))
  else
    (if (fM_in x2 (0 : Int32) (2 : Int32)) = 0 then
    (fM_ahead_b25 x1 x2 (st g 0 0 (0 : Int32)))
  else
    (fM_ahead_b30 x1 x2 (0 : Int32) (st g 0 0 (0 : Int32))))
def rmM_ahead : Room := { frames := 8, cells := 0, slots := 0, locals := 187 }
abbrev GcM_ahead (l : Launch) (D : va_G) (T : cT) (ad : Nat → Nat) (Γ : Cxt) (o : Int32 × St) (xo : Sl) (x : Sl) (g : St) (pc : Nat) (lv : List (Nat × Value)) (stk : List Value) : Prop := Gj l shM D T ad 5 (rmM_ahead) 0 0 Γ (MQ Γ.below (va_Qi (eqI o.1 o.2 xo) (wPost shM D T ad Γ.A) Γ.A) Γ.args Γ.s 0 0 Γ.A) x g pc lv stk
set_option maxRecDepth 100000 in
set_option maxHeartbeats 4000000 in
theorem cM_ahead (l : Launch) (D : va_G) (T : cT) (ad : Nat → Nat) (xo : Sl) (g : St) (x1 : Int32) (x2 : Int32) (o : Int32 × St) (h : fM_ahead x1 x2 g = some o) (sz : Nat) : Met l yX12_ahead wM_ahead (rmM_ahead) (va_Pc [.ref (ad 0), .int x1, .int x2] (wPre shM D T ad xo g sz)) (va_Qi (eqI o.1 o.2 xo) (wPost shM D T ad (aW shM T ad xo g sz)) (aW shM T ad xo g sz)) 0 0 (aW shM T ad xo g sz) := by
  refine g_start (Qc := fun A => va_Qi (eqI o.1 o.2 xo) (wPost shM D T ad A) A) (by decide +kernel) rfl rfl (Nat.le_of_ble_eq_true rfl) (lv := [(0, .ref (ad 0)), (1, .int x1), (2, .int x2)]) rfl (fun Γ C => ?_)
  show GcM_ahead l D T ad Γ o xo xo g 0 [(0, .ref (ad 0)), (1, .int x1), (2, .int x2)] []
  have J107 : ∀ (x3 : Int32) (x4 : Int32) (g : St), fM_ahead_b107 x3 x4 g = some o → GcM_ahead l D T ad Γ o xo xo g 107 [(0, .ref (ad 0)), (3, .int x3), (4, .int x4)] [] := by
    intro x3 x4 g h
    obtain ⟨⟨x3, g⟩, ht, h⟩ := bnd h
    refine lp_run (P := fun t : Int32 × Int32 × St => match t with | (x3, x4, g) => GcM_ahead l D T ad Γ o xo xo g 107 [(0, .ref (ad 0)), (3, .int x3), (4, .int x4)] []) (E := fun t : Int32 × St => match t with | (x3, g) => GcM_ahead l D T ad Γ o xo xo g 164 [(3, .int x3)] []) ?_ _ _ _ ht ?_
    · rintro ⟨x3, x4, g⟩ z h Kt Ke
      show GcM_ahead l D T ad Γ o xo xo g 107 [(0, .ref (ad 0)), (3, .int x3), (4, .int x4)] []
      have J156 : ∀ (x4 : Int32) (s0 : Int32) (s1 : Int32) (g : St), fM_ahead_b156 x4 s0 s1 g = some z → GcM_ahead l D T ad Γ o xo xo g 156 [(0, .ref (ad 0)), (4, .int x4)] [.int s1, .int s0] := by
        intro x4 s0 s1 g h
        refine g_ior C dX12_ahead_156 ?_
        refine g_istore_n (lv' := [(3, .int (s0 ||| s1)), (0, .ref (ad 0)), (4, .int x4)]) C dX12_ahead_157 rfl (Nat.le_of_ble_eq_true rfl) rfl ?_
        refine g_iinc (lv' := [(4, .int (x4 + (1 : Int32))), (3, .int (s0 ||| s1)), (0, .ref (ad 0))]) C dX12_ahead_158 2 rfl (ii_1 _) (Nat.le_of_ble_eq_true rfl) rfl ?_
        refine g_goto (tgt := 107) C dX12_ahead_161 (by decide) ?_
        exact g_sub [2, 1, 0] rfl (Kt _ (Option.some.inj h).symm)
      have J155 : ∀ (x4 : Int32) (s0 : Int32) (g : St), fM_ahead_b155 x4 s0 g = some z → GcM_ahead l D T ad Γ o xo xo g 155 [(0, .ref (ad 0)), (4, .int x4)] [.int s0] := by
        intro x4 s0 g h
        refine g_iconst C dX12_ahead_155 ic_0 ?_
        exact J156 x4 s0 (0 : Int32) g h
      refine g_iload C dX12_ahead_107 2 rfl ?_
      refine g_aload_n C dX12_ahead_109 rfl 0 rfl ?_
      refine gM_get_told C dX12_ahead_110 ?_
      refine g_iconst C dX12_ahead_113 ic_0 ?_
      refine g_iald (n := 2) (v := g 4 0) C ln_4 (by decide) rfl dX12_ahead_114 ?_
      refine g_icmp_ge C 164 dX12_ahead_115 (by decide) (fun c115 => ?_) (fun c115 => ?_)
      · have h := iteT c115 h
        exact g_sub [1] rfl (Ke _ (Option.some.inj h).symm)
      · have h := iteF c115 h
        refine g_iload_n C dX12_ahead_118 rfl 1 rfl ?_
        refine g_aload_n C dX12_ahead_119 rfl 0 rfl ?_
        refine gM_get_trial C dX12_ahead_120 ?_
        refine g_bipush C dX12_ahead_123 bp_24 ?_
        refine g_iald (n := 26) (v := g 17 24) C ln_17 (by decide) rfl dX12_ahead_125 ?_
        refine g_iload C dX12_ahead_126 2 rfl ?_
        refine g_cSz (As := [.int (g 17 24), .int x4]) (rest := [.int x3]) (ro := (fM_has (g 17 24) x4)) (go := g) (xo := xo) C (fun sz => cM_has l D T ad xo g (g 17 24) x4 _ rfl sz) kM_has ⟨Nat.le_of_ble_eq_true rfl, Nat.le_of_ble_eq_true rfl⟩ ⟨rfl, rfl⟩ ⟨Nat.zero_le _, Nat.zero_le _⟩ rfl rfl (Nat.le_of_ble_eq_true rfl) dX12_ahead_128 (fun hz128 => ?_)
        refine g_if_eq C 155 dX12_ahead_131 (by decide) (fun c131 => ?_) (fun c131 => ?_)
        · have h := iteT c131 h
          exact g_sub [0, 2] rfl (J155 x4 x3 g h)
        · have h := iteF c131 h
          refine g_aload_n C dX12_ahead_134 rfl 0 rfl ?_
          refine g_aload_n C dX12_ahead_135 rfl 0 rfl ?_
          refine gM_get_trial C dX12_ahead_136 ?_
          refine g_iload C dX12_ahead_139 2 rfl ?_
          obtain ⟨⟨r141, g141⟩, hr141, h⟩ := bnd h
          refine g_cVi (k := 0) (As := [.ref (ad 17), .int x4]) (rest := [.int x3]) (ro := r141) (go := g141) (xo := xo) C (fun sz => cM_lenderIf l D T ad xo g 17 x4 _ hr141 sz) kM_lenderIf ⟨Nat.le_of_ble_eq_true rfl, Nat.le_of_ble_eq_true rfl⟩ ⟨rfl, rfl⟩ ⟨Nat.zero_le _, Nat.zero_le _⟩ (rfl : vwCl[11]? = some (RX12, TX12, 48)) kM0 rfl rfl (Nat.le_of_ble_eq_true rfl) dX12_ahead_141 ?_
          refine g_iconst C dX12_ahead_144 ic_m1 ?_
          refine g_icmp_eq C 155 dX12_ahead_145 (by decide) (fun c145 => ?_) (fun c145 => ?_)
          · have h := iteT c145 h
            exact g_sub [0, 2] rfl (J155 x4 x3 g141 h)
          · have h := iteF c145 h
            refine g_iconst C dX12_ahead_148 ic_1 ?_
            refine g_iload C dX12_ahead_149 2 rfl ?_
            refine g_ishl C dX12_ahead_151 ?_
            refine g_goto (tgt := 156) C dX12_ahead_152 (by decide) ?_
            exact g_sub [0, 2] rfl (J156 x4 x3 ((1 : Int32) <<< (x4 &&& 31)) g141 h)
    · show GcM_ahead l D T ad Γ o xo xo g 164 [(3, .int x3)] []
      refine g_iload_n C dX12_ahead_164 rfl 0 rfl ?_
      obtain rfl := Option.some.inj h
      exact g_iret C rfl rfl rfl dX12_ahead_165
  have J53 : ∀ (x1 : Int32) (x2 : Int32) (x3 : Int32) (g : St), fM_ahead_b53 x1 x2 x3 g = some o → GcM_ahead l D T ad Γ o xo xo g 53 [(0, .ref (ad 0)), (1, .int x1), (2, .int x2), (3, .int x3)] [] := by
    intro x1 x2 x3 g h
    obtain ⟨g, ht, h⟩ := bnd h
    refine lp_run (P := fun t : Int32 × St => match t with | (x3, g) => GcM_ahead l D T ad Γ o xo xo g 53 [(0, .ref (ad 0)), (1, .int x1), (2, .int x2), (3, .int x3)] []) (E := fun g : St => GcM_ahead l D T ad Γ o xo xo g 72 [(0, .ref (ad 0)), (2, .int x2)] []) ?_ _ _ _ ht ?_
    · rintro ⟨x3, g⟩ z h Kt Ke
      show GcM_ahead l D T ad Γ o xo xo g 53 [(0, .ref (ad 0)), (1, .int x1), (2, .int x2), (3, .int x3)] []
      refine g_iload_n C dX12_ahead_53 rfl 3 rfl ?_
      refine g_iload_n C dX12_ahead_54 rfl 1 rfl ?_
      refine g_icmp_ge C 72 dX12_ahead_55 (by decide) (fun c55 => ?_) (fun c55 => ?_)
      · have h := iteT c55 h
        exact g_sub [0, 2] rfl (Ke _ (Option.some.inj h).symm)
      · have h := iteF c55 h
        refine g_aload_n C dX12_ahead_58 rfl 0 rfl ?_
        refine g_aload_n C dX12_ahead_59 rfl 0 rfl ?_
        refine gM_get_trial C dX12_ahead_60 ?_
        obtain ⟨g63, hr63, h⟩ := bnd h
        refine g_cVv (k := 0) (As := [.ref (ad 17)]) (rest := []) (go := g63) (xo := xo) C (fun sz => cM_yearEnds l D T ad xo g 17 _ hr63 sz) kM_yearEnds ⟨Nat.le_of_ble_eq_true rfl, Nat.le_of_ble_eq_true rfl⟩ ⟨rfl, rfl⟩ ⟨Nat.zero_le _, Nat.zero_le _⟩ (rfl : vwCl[11]? = some (RX12, TX12, 48)) kM0 rfl rfl (Nat.le_of_ble_eq_true rfl) dX12_ahead_63 ?_
        refine g_iinc (lv' := [(3, .int (x3 + (1 : Int32))), (0, .ref (ad 0)), (1, .int x1), (2, .int x2)]) C dX12_ahead_66 3 rfl (ii_1 _) (Nat.le_of_ble_eq_true rfl) rfl ?_
        refine g_goto (tgt := 53) C dX12_ahead_69 (by decide) ?_
        exact g_sub [1, 2, 3, 0] rfl (Kt _ (Option.some.inj h).symm)
    · show GcM_ahead l D T ad Γ o xo xo g 72 [(0, .ref (ad 0)), (2, .int x2)] []
      refine g_iload_n C dX12_ahead_72 rfl 1 rfl ?_
      refine g_iconst C dX12_ahead_73 ic_1 ?_
      refine g_icmp_eq C 102 dX12_ahead_74 (by decide) (fun c74 => ?_) (fun c74 => ?_)
      · have h := iteT c74 h
        refine g_iconst C dX12_ahead_102 ic_0 ?_
        refine g_istore_n (lv' := [(3, .int (0 : Int32)), (0, .ref (ad 0)), (2, .int x2)]) C dX12_ahead_103 rfl (Nat.le_of_ble_eq_true rfl) rfl ?_
        refine g_iconst C dX12_ahead_104 ic_0 ?_
        refine g_istore (lv' := [(4, .int (0 : Int32)), (3, .int (0 : Int32)), (0, .ref (ad 0)), (2, .int x2)]) C dX12_ahead_105 (Nat.le_of_ble_eq_true rfl) rfl ?_
        exact g_sub [2, 1, 0] rfl (J107 (0 : Int32) (0 : Int32) g h)
      · have h := iteF c74 h
        refine g_iload_n C dX12_ahead_77 rfl 1 rfl ?_
        refine g_if_ne C 93 dX12_ahead_78 (by decide) (fun c78 => ?_) (fun c78 => ?_)
        · have h := iteT c78 h
          refine g_aload_n C dX12_ahead_81 rfl 0 rfl ?_
          refine g_aload_n C dX12_ahead_82 rfl 0 rfl ?_
          refine gM_get_trial C dX12_ahead_83 ?_
          refine g_iconst C dX12_ahead_86 ic_0 ?_
          obtain ⟨r87, hr87, h⟩ := bnd h
          refine g_cVi (k := 0) (As := [.ref (ad 17), .int (0 : Int32)]) (rest := []) (ro := r87) (go := g) (xo := xo) C (fun sz => cM_debts l D T ad xo g 17 (0 : Int32) _ hr87 sz) kM_debts ⟨Nat.le_of_ble_eq_true rfl, Nat.le_of_ble_eq_true rfl⟩ ⟨rfl, rfl⟩ ⟨Nat.zero_le _, Nat.zero_le _⟩ (rfl : vwCl[11]? = some (RX12, TX12, 48)) kM0 rfl rfl (Nat.le_of_ble_eq_true rfl) dX12_ahead_87 ?_
          refine g_goto (tgt := 101) C dX12_ahead_90 (by decide) ?_
          obtain rfl := Option.some.inj h
          exact g_iret C rfl rfl rfl dX12_ahead_101
        · have h := iteF c78 h
          refine g_aload_n C dX12_ahead_93 rfl 0 rfl ?_
          refine g_aload_n C dX12_ahead_94 rfl 0 rfl ?_
          refine gM_get_trial C dX12_ahead_95 ?_
          obtain ⟨r98, hr98, h⟩ := bnd h
          refine g_cVi (k := 0) (As := [.ref (ad 17)]) (rest := []) (ro := r98) (go := g) (xo := xo) C (fun sz => cM_deepest l D T ad xo g 17 _ hr98 sz) kM_deepest ⟨Nat.le_of_ble_eq_true rfl, Nat.le_of_ble_eq_true rfl⟩ ⟨rfl, rfl⟩ ⟨Nat.zero_le _, Nat.zero_le _⟩ (rfl : vwCl[11]? = some (RX12, TX12, 48)) kM0 rfl rfl (Nat.le_of_ble_eq_true rfl) dX12_ahead_98 ?_
          obtain rfl := Option.some.inj h
          exact g_iret C rfl rfl rfl dX12_ahead_101
  have J30 : ∀ (x1 : Int32) (x2 : Int32) (s1 : Int32) (g : St), fM_ahead_b30 x1 x2 s1 g = some o → GcM_ahead l D T ad Γ o xo xo g 30 [(0, .ref (ad 0)), (1, .int x1), (2, .int x2)] [.int s1, .ref (ad 0)] := by
    intro x1 x2 s1 g h
    refine g_iconst C dX12_ahead_30 ic_1 ?_
    refine g_iconst C dX12_ahead_31 ic_1 ?_
    obtain ⟨⟨r32, g32⟩, hr32, h⟩ := bnd h
    refine g_cVz (k := 0) (As := [.int s1, .int (1 : Int32), .int (1 : Int32)]) (rest := []) (ro := r32) (go := g32) (xo := xo) C (fun sz => cM_bad l D T ad xo g s1 (1 : Int32) (1 : Int32) _ hr32 sz) kM_bad ⟨Nat.le_of_ble_eq_true rfl, Nat.le_of_ble_eq_true rfl⟩ ⟨rfl, rfl⟩ ⟨Nat.zero_le _, Nat.zero_le _⟩ (rfl : vwCl[11]? = some (RX12, TX12, 48)) kM0 rfl rfl (Nat.le_of_ble_eq_true rfl) dX12_ahead_32 (fun hz32 => ?_)
    refine g_if_eq C 40 dX12_ahead_35 (by decide) (fun c35 => ?_) (fun c35 => ?_)
    · have h := iteT c35 h
      refine g_aload_n C dX12_ahead_40 rfl 0 rfl ?_
      refine gM_get_now C dX12_ahead_41 ?_
      refine g_aload_n C dX12_ahead_44 rfl 0 rfl ?_
      refine gM_get_trial C dX12_ahead_45 ?_
      obtain ⟨g48, hr48, h⟩ := bnd h
      refine g_cSv (As := [.ref (ad 16), .ref (ad 17)]) (rest := []) (go := g48) (xo := xo) C (fun sz => cM_copies l D T ad xo g32 16 17 _ hr48 sz) kM_copies ⟨Nat.le_of_ble_eq_true rfl, Nat.le_of_ble_eq_true rfl⟩ ⟨rfl, rfl⟩ ⟨Nat.zero_le _, Nat.zero_le _⟩ rfl rfl (Nat.le_of_ble_eq_true rfl) dX12_ahead_48 ?_
      refine g_iconst C dX12_ahead_51 ic_0 ?_
      refine g_istore_n (lv' := [(3, .int (0 : Int32)), (0, .ref (ad 0)), (1, .int x1), (2, .int x2)]) C dX12_ahead_52 rfl (Nat.le_of_ble_eq_true rfl) rfl ?_
      exact g_sub [1, 2, 3, 0] rfl (J53 x1 x2 (0 : Int32) g48 h)
    · have h := iteF c35 h
      refine g_iconst C dX12_ahead_38 ic_0 ?_
      obtain rfl := Option.some.inj h
      exact g_iret C rfl rfl rfl dX12_ahead_39
  have J25 : ∀ (x1 : Int32) (x2 : Int32) (g : St), fM_ahead_b25 x1 x2 g = some o → GcM_ahead l D T ad Γ o xo xo g 25 [(0, .ref (ad 0)), (1, .int x1), (2, .int x2)] [.ref (ad 0)] := by
    intro x1 x2 g h
    refine g_iconst C dX12_ahead_25 ic_1 ?_
    refine g_goto (tgt := 30) C dX12_ahead_26 (by decide) ?_
    exact J30 x1 x2 (1 : Int32) g h
  refine g_aload_n C dX12_ahead_0 rfl 0 rfl ?_
  refine g_iconst C dX12_ahead_1 ic_0 ?_
  refine gM_put_thrown C dX12_ahead_2 ?_
  refine g_aload_n C dX12_ahead_5 rfl 0 rfl ?_
  refine g_iload_n C dX12_ahead_6 rfl 1 rfl ?_
  refine g_iconst C dX12_ahead_7 ic_0 ?_
  refine g_bipush C dX12_ahead_8 bp_99 ?_
  refine g_cSz (As := [.int x1, .int (0 : Int32), .int (99 : Int32)]) (rest := [.ref (ad 0)]) (ro := (fM_in x1 (0 : Int32) (99 : Int32))) (go := (st g 0 0 (0 : Int32))) (xo := xo) C (fun sz => cM_in l D T ad xo (st g 0 0 (0 : Int32)) x1 (0 : Int32) (99 : Int32) _ rfl sz) kM_in ⟨Nat.le_of_ble_eq_true rfl, Nat.le_of_ble_eq_true rfl⟩ ⟨rfl, rfl⟩ ⟨Nat.zero_le _, Nat.zero_le _⟩ rfl rfl (Nat.le_of_ble_eq_true rfl) dX12_ahead_10 (fun hz10 => ?_)
  refine g_if_eq C 25 dX12_ahead_13 (by decide) (fun c13 => ?_) (fun c13 => ?_)
  · have h := iteT c13 h
    exact J25 x1 x2 (st g 0 0 (0 : Int32)) h
  · have h := iteF c13 h
    refine g_iload_n C dX12_ahead_16 rfl 2 rfl ?_
    refine g_iconst C dX12_ahead_17 ic_0 ?_
    refine g_iconst C dX12_ahead_18 ic_2 ?_
    refine g_cSz (As := [.int x2, .int (0 : Int32), .int (2 : Int32)]) (rest := [.ref (ad 0)]) (ro := (fM_in x2 (0 : Int32) (2 : Int32))) (go := (st g 0 0 (0 : Int32))) (xo := xo) C (fun sz => cM_in l D T ad xo (st g 0 0 (0 : Int32)) x2 (0 : Int32) (2 : Int32) _ rfl sz) kM_in ⟨Nat.le_of_ble_eq_true rfl, Nat.le_of_ble_eq_true rfl⟩ ⟨rfl, rfl⟩ ⟨Nat.zero_le _, Nat.zero_le _⟩ rfl rfl (Nat.le_of_ble_eq_true rfl) dX12_ahead_19 (fun hz19 => ?_)
    refine g_if_ne C 29 dX12_ahead_22 (by decide) (fun c22 => ?_) (fun c22 => ?_)
    · have h := iteT c22 h
      exact J25 x1 x2 (st g 0 0 (0 : Int32)) h
    · have h := iteF c22 h
      refine g_iconst C dX12_ahead_29 ic_0 ?_
      exact J30 x1 x2 (0 : Int32) (st g 0 0 (0 : Int32)) h
def fM_truly_b19 (x1 : Int32) (s1 : Int32) (g : St) : Option (Int32 × St) :=
  (fM_bad s1 (1 : Int32) (0 : Int32) g).bind fun ⟨r21, g21⟩ => (if r21 = 0 then
    (if (fM_has (g21 16 24) x1) = 0 then
    ((fM_follows 16 x1 (0 : Int32) g21).bind fun r53 => (some (r53, g21)))
  else
    (some ((-1 : Int32), g21)))
  else
    (some ((0 : Int32), g21)))
def fM_truly (x1 : Int32) (g : St) : Option (Int32 × St) :=
  if (fM_isPerson x1 (st g 0 0 (0 : Int32))) = 0 then
    (fM_truly_b19 x1 (1 : Int32) (st g 0 0 (0 : Int32)))
  else
    (fM_truly_b19 x1 (0 : Int32) (st g 0 0 (0 : Int32)))
def rmM_truly : Room := { frames := 2, cells := 0, slots := 0, locals := 45 }
abbrev GcM_truly (l : Launch) (D : va_G) (T : cT) (ad : Nat → Nat) (Γ : Cxt) (o : Int32 × St) (xo : Sl) (x : Sl) (g : St) (pc : Nat) (lv : List (Nat × Value)) (stk : List Value) : Prop := Gj l shM D T ad 2 (rmM_truly) 0 0 Γ (MQ Γ.below (va_Qi (eqI o.1 o.2 xo) (wPost shM D T ad Γ.A) Γ.A) Γ.args Γ.s 0 0 Γ.A) x g pc lv stk
set_option maxRecDepth 100000 in
set_option maxHeartbeats 4000000 in
theorem cM_truly (l : Launch) (D : va_G) (T : cT) (ad : Nat → Nat) (xo : Sl) (g : St) (x1 : Int32) (o : Int32 × St) (h : fM_truly x1 g = some o) (sz : Nat) : Met l yX12_truly wM_truly (rmM_truly) (va_Pc [.ref (ad 0), .int x1] (wPre shM D T ad xo g sz)) (va_Qi (eqI o.1 o.2 xo) (wPost shM D T ad (aW shM T ad xo g sz)) (aW shM T ad xo g sz)) 0 0 (aW shM T ad xo g sz) := by
  refine g_start (Qc := fun A => va_Qi (eqI o.1 o.2 xo) (wPost shM D T ad A) A) (by decide +kernel) rfl rfl (Nat.le_of_ble_eq_true rfl) (lv := [(0, .ref (ad 0)), (1, .int x1)]) rfl (fun Γ C => ?_)
  show GcM_truly l D T ad Γ o xo xo g 0 [(0, .ref (ad 0)), (1, .int x1)] []
  have J19 : ∀ (x1 : Int32) (s1 : Int32) (g : St), fM_truly_b19 x1 s1 g = some o → GcM_truly l D T ad Γ o xo xo g 19 [(0, .ref (ad 0)), (1, .int x1)] [.int s1, .ref (ad 0)] := by
    intro x1 s1 g h
    refine g_iconst C dX12_truly_19 ic_1 ?_
    refine g_iconst C dX12_truly_20 ic_0 ?_
    obtain ⟨⟨r21, g21⟩, hr21, h⟩ := bnd h
    refine g_cVz (k := 0) (As := [.int s1, .int (1 : Int32), .int (0 : Int32)]) (rest := []) (ro := r21) (go := g21) (xo := xo) C (fun sz => cM_bad l D T ad xo g s1 (1 : Int32) (0 : Int32) _ hr21 sz) kM_bad ⟨Nat.le_of_ble_eq_true rfl, Nat.le_of_ble_eq_true rfl⟩ ⟨rfl, rfl⟩ ⟨Nat.zero_le _, Nat.zero_le _⟩ (rfl : vwCl[11]? = some (RX12, TX12, 48)) kM0 rfl rfl (Nat.le_of_ble_eq_true rfl) dX12_truly_21 (fun hz21 => ?_)
    refine g_if_eq C 29 dX12_truly_24 (by decide) (fun c24 => ?_) (fun c24 => ?_)
    · have h := iteT c24 h
      refine g_aload_n C dX12_truly_29 rfl 0 rfl ?_
      refine gM_get_now C dX12_truly_30 ?_
      refine g_bipush C dX12_truly_33 bp_24 ?_
      refine g_iald (n := 26) (v := g21 16 24) C ln_16 (by decide) rfl dX12_truly_35 ?_
      refine g_iload_n C dX12_truly_36 rfl 1 rfl ?_
      refine g_cSz (As := [.int (g21 16 24), .int x1]) (rest := []) (ro := (fM_has (g21 16 24) x1)) (go := g21) (xo := xo) C (fun sz => cM_has l D T ad xo g21 (g21 16 24) x1 _ rfl sz) kM_has ⟨Nat.le_of_ble_eq_true rfl, Nat.le_of_ble_eq_true rfl⟩ ⟨rfl, rfl⟩ ⟨Nat.zero_le _, Nat.zero_le _⟩ rfl rfl (Nat.le_of_ble_eq_true rfl) dX12_truly_37 (fun hz37 => ?_)
      refine g_if_eq C 47 dX12_truly_40 (by decide) (fun c40 => ?_) (fun c40 => ?_)
      · have h := iteT c40 h
        refine g_aload_n C dX12_truly_47 rfl 0 rfl ?_
        refine gM_get_now C dX12_truly_48 ?_
        refine g_iload_n C dX12_truly_51 rfl 1 rfl ?_
        refine g_iconst C dX12_truly_52 ic_0 ?_
        obtain ⟨r53, hr53, h⟩ := bnd h
        refine g_cSi (As := [.ref (ad 16), .int x1, .int (0 : Int32)]) (rest := []) (ro := r53) (go := g21) (xo := xo) C (fun sz => cM_follows l D T ad xo g21 16 x1 (0 : Int32) _ hr53 sz) kM_follows ⟨Nat.le_of_ble_eq_true rfl, Nat.le_of_ble_eq_true rfl⟩ ⟨rfl, rfl⟩ ⟨Nat.zero_le _, Nat.zero_le _⟩ rfl rfl (Nat.le_of_ble_eq_true rfl) dX12_truly_53 ?_
        obtain rfl := Option.some.inj h
        exact g_iret C rfl rfl rfl dX12_truly_56
      · have h := iteF c40 h
        refine g_iconst C dX12_truly_43 ic_m1 ?_
        refine g_goto (tgt := 56) C dX12_truly_44 (by decide) ?_
        obtain rfl := Option.some.inj h
        exact g_iret C rfl rfl rfl dX12_truly_56
    · have h := iteF c24 h
      refine g_iconst C dX12_truly_27 ic_0 ?_
      obtain rfl := Option.some.inj h
      exact g_iret C rfl rfl rfl dX12_truly_28
  refine g_aload_n C dX12_truly_0 rfl 0 rfl ?_
  refine g_iconst C dX12_truly_1 ic_0 ?_
  refine gM_put_thrown C dX12_truly_2 ?_
  refine g_aload_n C dX12_truly_5 rfl 0 rfl ?_
  refine g_aload_n C dX12_truly_6 rfl 0 rfl ?_
  refine g_iload_n C dX12_truly_7 rfl 1 rfl ?_
  refine g_cVz (k := 0) (As := [.int x1]) (rest := [.ref (ad 0)]) (ro := (fM_isPerson x1 (st g 0 0 (0 : Int32)))) (go := (st g 0 0 (0 : Int32))) (xo := xo) C (fun sz => cM_isPerson l D T ad xo (st g 0 0 (0 : Int32)) x1 _ rfl sz) kM_isPerson ⟨Nat.le_of_ble_eq_true rfl, Nat.le_of_ble_eq_true rfl⟩ ⟨rfl, rfl⟩ ⟨Nat.zero_le _, Nat.zero_le _⟩ (rfl : vwCl[11]? = some (RX12, TX12, 48)) kM0 rfl rfl (Nat.le_of_ble_eq_true rfl) dX12_truly_8 (fun hz8 => ?_)
  refine g_if_ne C 18 dX12_truly_11 (by decide) (fun c11 => ?_) (fun c11 => ?_)
  · have h := iteT c11 h
    refine g_iconst C dX12_truly_14 ic_1 ?_
    refine g_goto (tgt := 19) C dX12_truly_15 (by decide) ?_
    exact J19 x1 (1 : Int32) (st g 0 0 (0 : Int32)) h
  · have h := iteF c11 h
    refine g_iconst C dX12_truly_18 ic_0 ?_
    exact J19 x1 (0 : Int32) (st g 0 0 (0 : Int32)) h
def fM_chain_b19 (x1 : Int32) (s1 : Int32) (g : St) : Option (Int32 × St) :=
  (fM_bad s1 (1 : Int32) (0 : Int32) g).bind fun ⟨r21, g21⟩ => (if r21 = 0 then
    ((fM_follows 16 x1 (1 : Int32) g21).bind fun r35 => (some (r35, g21)))
  else
    (some ((0 : Int32), g21)))
def fM_chain (x1 : Int32) (g : St) : Option (Int32 × St) :=
  if (fM_isPerson x1 (st g 0 0 (0 : Int32))) = 0 then
    (fM_chain_b19 x1 (1 : Int32) (st g 0 0 (0 : Int32)))
  else
    (fM_chain_b19 x1 (0 : Int32) (st g 0 0 (0 : Int32)))
def rmM_chain : Room := { frames := 2, cells := 0, slots := 0, locals := 45 }
abbrev GcM_chain (l : Launch) (D : va_G) (T : cT) (ad : Nat → Nat) (Γ : Cxt) (o : Int32 × St) (xo : Sl) (x : Sl) (g : St) (pc : Nat) (lv : List (Nat × Value)) (stk : List Value) : Prop := Gj l shM D T ad 2 (rmM_chain) 0 0 Γ (MQ Γ.below (va_Qi (eqI o.1 o.2 xo) (wPost shM D T ad Γ.A) Γ.A) Γ.args Γ.s 0 0 Γ.A) x g pc lv stk
set_option maxRecDepth 100000 in
set_option maxHeartbeats 4000000 in
theorem cM_chain (l : Launch) (D : va_G) (T : cT) (ad : Nat → Nat) (xo : Sl) (g : St) (x1 : Int32) (o : Int32 × St) (h : fM_chain x1 g = some o) (sz : Nat) : Met l yX12_chain wM_chain (rmM_chain) (va_Pc [.ref (ad 0), .int x1] (wPre shM D T ad xo g sz)) (va_Qi (eqI o.1 o.2 xo) (wPost shM D T ad (aW shM T ad xo g sz)) (aW shM T ad xo g sz)) 0 0 (aW shM T ad xo g sz) := by
  refine g_start (Qc := fun A => va_Qi (eqI o.1 o.2 xo) (wPost shM D T ad A) A) (by decide +kernel) rfl rfl (Nat.le_of_ble_eq_true rfl) (lv := [(0, .ref (ad 0)), (1, .int x1)]) rfl (fun Γ C => ?_)
  show GcM_chain l D T ad Γ o xo xo g 0 [(0, .ref (ad 0)), (1, .int x1)] []
  have J19 : ∀ (x1 : Int32) (s1 : Int32) (g : St), fM_chain_b19 x1 s1 g = some o → GcM_chain l D T ad Γ o xo xo g 19 [(0, .ref (ad 0)), (1, .int x1)] [.int s1, .ref (ad 0)] := by
    intro x1 s1 g h
    refine g_iconst C dX12_chain_19 ic_1 ?_
    refine g_iconst C dX12_chain_20 ic_0 ?_
    obtain ⟨⟨r21, g21⟩, hr21, h⟩ := bnd h
    refine g_cVz (k := 0) (As := [.int s1, .int (1 : Int32), .int (0 : Int32)]) (rest := []) (ro := r21) (go := g21) (xo := xo) C (fun sz => cM_bad l D T ad xo g s1 (1 : Int32) (0 : Int32) _ hr21 sz) kM_bad ⟨Nat.le_of_ble_eq_true rfl, Nat.le_of_ble_eq_true rfl⟩ ⟨rfl, rfl⟩ ⟨Nat.zero_le _, Nat.zero_le _⟩ (rfl : vwCl[11]? = some (RX12, TX12, 48)) kM0 rfl rfl (Nat.le_of_ble_eq_true rfl) dX12_chain_21 (fun hz21 => ?_)
    refine g_if_eq C 29 dX12_chain_24 (by decide) (fun c24 => ?_) (fun c24 => ?_)
    · have h := iteT c24 h
      refine g_aload_n C dX12_chain_29 rfl 0 rfl ?_
      refine gM_get_now C dX12_chain_30 ?_
      refine g_iload_n C dX12_chain_33 rfl 1 rfl ?_
      refine g_iconst C dX12_chain_34 ic_1 ?_
      obtain ⟨r35, hr35, h⟩ := bnd h
      refine g_cSi (As := [.ref (ad 16), .int x1, .int (1 : Int32)]) (rest := []) (ro := r35) (go := g21) (xo := xo) C (fun sz => cM_follows l D T ad xo g21 16 x1 (1 : Int32) _ hr35 sz) kM_follows ⟨Nat.le_of_ble_eq_true rfl, Nat.le_of_ble_eq_true rfl⟩ ⟨rfl, rfl⟩ ⟨Nat.zero_le _, Nat.zero_le _⟩ rfl rfl (Nat.le_of_ble_eq_true rfl) dX12_chain_35 ?_
      obtain rfl := Option.some.inj h
      exact g_iret C rfl rfl rfl dX12_chain_38
    · have h := iteF c24 h
      refine g_iconst C dX12_chain_27 ic_0 ?_
      obtain rfl := Option.some.inj h
      exact g_iret C rfl rfl rfl dX12_chain_28
  refine g_aload_n C dX12_chain_0 rfl 0 rfl ?_
  refine g_iconst C dX12_chain_1 ic_0 ?_
  refine gM_put_thrown C dX12_chain_2 ?_
  refine g_aload_n C dX12_chain_5 rfl 0 rfl ?_
  refine g_aload_n C dX12_chain_6 rfl 0 rfl ?_
  refine g_iload_n C dX12_chain_7 rfl 1 rfl ?_
  refine g_cVz (k := 0) (As := [.int x1]) (rest := [.ref (ad 0)]) (ro := (fM_isPerson x1 (st g 0 0 (0 : Int32)))) (go := (st g 0 0 (0 : Int32))) (xo := xo) C (fun sz => cM_isPerson l D T ad xo (st g 0 0 (0 : Int32)) x1 _ rfl sz) kM_isPerson ⟨Nat.le_of_ble_eq_true rfl, Nat.le_of_ble_eq_true rfl⟩ ⟨rfl, rfl⟩ ⟨Nat.zero_le _, Nat.zero_le _⟩ (rfl : vwCl[11]? = some (RX12, TX12, 48)) kM0 rfl rfl (Nat.le_of_ble_eq_true rfl) dX12_chain_8 (fun hz8 => ?_)
  refine g_if_ne C 18 dX12_chain_11 (by decide) (fun c11 => ?_) (fun c11 => ?_)
  · have h := iteT c11 h
    refine g_iconst C dX12_chain_14 ic_1 ?_
    refine g_goto (tgt := 19) C dX12_chain_15 (by decide) ?_
    exact J19 x1 (1 : Int32) (st g 0 0 (0 : Int32)) h
  · have h := iteF c11 h
    refine g_iconst C dX12_chain_18 ic_0 ?_
    exact J19 x1 (0 : Int32) (st g 0 0 (0 : Int32)) h
