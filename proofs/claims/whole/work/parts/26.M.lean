def fM_after_b88 (x2 : Int32) (s0 : Int32) (g : St) : Option (Int32 × St) :=
  if s0 = (-1 : Int32) then
    (some ((-1 : Int32), g))
  else
    (if x2 = 0 then
    ((fM_stones 17 s0 g).bind fun r108 => (some (r108, g)))
  else
    (if ¬ (((0 : Int32) + s0) < 0 ∨ 26 ≤ ((0 : Int32) + s0).toNatClampNeg) then (some ((g 17 (((0 : Int32) + s0).toNatClampNeg)), g)) else none))
def fM_after_b42 (x1 : Int32) (x2 : Int32) (s1 : Int32) (g : St) : Option (Int32 × St) :=
  (fM_bad s1 (2 : Int32) (1 : Int32) g).bind fun ⟨r44, g44⟩ => (if r44 = 0 then
    ((fM_copies 16 17 g44).bind fun g60 => ((fM_dies 17 x1 g60).bind fun ⟨r69, g69⟩ => (if r69 = 0 then
    (fM_after_b88 x2 (-1 : Int32) g69)
  else
    (if ¬ (((8 : Int32) + x1) < 0 ∨ 26 ≤ ((8 : Int32) + x1).toNatClampNeg) then (fM_after_b88 x2 (g69 17 (((8 : Int32) + x1).toNatClampNeg)) g69) else none))))
  else
    (some ((0 : Int32), g44)))
def fM_after_b19 (x1 : Int32) (x2 : Int32) (s1 : Int32) (g : St) : Option (Int32 × St) :=
  (fM_bad s1 (1 : Int32) (0 : Int32) g).bind fun ⟨r21, g21⟩ => (if r21 = 0 then
    (if (fM_in x2 (0 : Int32) (1 : Int32)) = 0 then
    (fM_after_b42 x1 x2 (1 : Int32) g21)
  else
    (fM_after_b42 x1 x2 (0 : Int32) g21))
  else
    (some ((0 : Int32), g21)))
def fM_after (x1 : Int32) (x2 : Int32) (g : St) : Option (Int32 × St) :=
  if (fM_isPerson x1 (st g 0 0 (0 : Int32))) = 0 then
    (fM_after_b19 x1 x2 (1 : Int32) (st g 0 0 (0 : Int32)))
  else
    (fM_after_b19 x1 x2 (0 : Int32) (st g 0 0 (0 : Int32)))
def rmM_after : Room := { frames := 8, cells := 0, slots := 0, locals := 187 }
abbrev GcM_after (l : Launch) (D : va_G) (T : cT) (ad : Nat → Nat) (Γ : Cxt) (o : Int32 × St) (xo : Sl) (x : Sl) (g : St) (pc : Nat) (lv : List (Nat × Value)) (stk : List Value) : Prop := Gj l shM D T ad 4 (rmM_after) 0 0 Γ (MQ Γ.below (va_Qi (eqI o.1 o.2 xo) (wPost shM D T ad Γ.A) Γ.A) Γ.args Γ.s 0 0 Γ.A) x g pc lv stk
set_option maxRecDepth 100000 in
set_option maxHeartbeats 4000000 in
theorem cM_after (l : Launch) (D : va_G) (T : cT) (ad : Nat → Nat) (xo : Sl) (g : St) (x1 : Int32) (x2 : Int32) (o : Int32 × St) (h : fM_after x1 x2 g = some o) (sz : Nat) : Met l yX12_after wM_after (rmM_after) (va_Pc [.ref (ad 0), .int x1, .int x2] (wPre shM D T ad xo g sz)) (va_Qi (eqI o.1 o.2 xo) (wPost shM D T ad (aW shM T ad xo g sz)) (aW shM T ad xo g sz)) 0 0 (aW shM T ad xo g sz) := by
  refine g_start (Qc := fun A => va_Qi (eqI o.1 o.2 xo) (wPost shM D T ad A) A) (by decide +kernel) rfl rfl (Nat.le_of_ble_eq_true rfl) (lv := [(0, .ref (ad 0)), (1, .int x1), (2, .int x2)]) rfl (fun Γ C => ?_)
  show GcM_after l D T ad Γ o xo xo g 0 [(0, .ref (ad 0)), (1, .int x1), (2, .int x2)] []
  have J88 : ∀ (x2 : Int32) (s0 : Int32) (g : St), fM_after_b88 x2 s0 g = some o → GcM_after l D T ad Γ o xo xo g 88 [(0, .ref (ad 0)), (2, .int x2)] [.int s0] := by
    intro x2 s0 g h
    refine g_istore_n (lv' := [(3, .int s0), (0, .ref (ad 0)), (2, .int x2)]) C dX12_after_88 rfl (Nat.le_of_ble_eq_true rfl) rfl ?_
    refine g_iload_n C dX12_after_89 rfl 0 rfl ?_
    refine g_iconst C dX12_after_90 ic_m1 ?_
    refine g_icmp_ne C 98 dX12_after_91 (by decide) (fun c91 => ?_) (fun c91 => ?_)
    · have h := iteT c91 h
      refine g_iconst C dX12_after_94 ic_m1 ?_
      refine g_goto (tgt := 122) C dX12_after_95 (by decide) ?_
      obtain rfl := Option.some.inj h
      exact g_iret C rfl rfl rfl dX12_after_122
    · have h := iteF c91 h
      refine g_iload_n C dX12_after_98 rfl 2 rfl ?_
      refine g_if_ne C 114 dX12_after_99 (by decide) (fun c99 => ?_) (fun c99 => ?_)
      · have h := iteT c99 h
        refine g_aload_n C dX12_after_102 rfl 1 rfl ?_
        refine g_aload_n C dX12_after_103 rfl 1 rfl ?_
        refine gM_get_trial C dX12_after_104 ?_
        refine g_iload_n C dX12_after_107 rfl 0 rfl ?_
        obtain ⟨r108, hr108, h⟩ := bnd h
        refine g_cVi (k := 0) (As := [.ref (ad 17), .int s0]) (rest := []) (ro := r108) (go := g) (xo := xo) C (fun sz => cM_stones l D T ad xo g 17 s0 _ hr108 sz) kM_stones ⟨Nat.le_of_ble_eq_true rfl, Nat.le_of_ble_eq_true rfl⟩ ⟨rfl, rfl⟩ ⟨Nat.zero_le _, Nat.zero_le _⟩ (rfl : vwCl[11]? = some (RX12, TX12, 48)) kM0 rfl rfl (Nat.le_of_ble_eq_true rfl) dX12_after_108 ?_
        refine g_goto (tgt := 122) C dX12_after_111 (by decide) ?_
        obtain rfl := Option.some.inj h
        exact g_iret C rfl rfl rfl dX12_after_122
      · have h := iteF c99 h
        refine g_aload_n C dX12_after_114 rfl 1 rfl ?_
        refine gM_get_trial C dX12_after_115 ?_
        refine g_iconst C dX12_after_118 ic_0 ?_
        refine g_iload_n C dX12_after_119 rfl 0 rfl ?_
        refine g_iadd C dX12_after_120 ?_
        obtain ⟨hi121, h⟩ := grd h
        refine g_iald (n := 26) (v := g 17 (((0 : Int32) + s0).toNatClampNeg)) C ln_17 hi121 rfl dX12_after_121 ?_
        obtain rfl := Option.some.inj h
        exact g_iret C rfl rfl rfl dX12_after_122
  have J42 : ∀ (x1 : Int32) (x2 : Int32) (s1 : Int32) (g : St), fM_after_b42 x1 x2 s1 g = some o → GcM_after l D T ad Γ o xo xo g 42 [(0, .ref (ad 0)), (1, .int x1), (2, .int x2)] [.int s1, .ref (ad 0)] := by
    intro x1 x2 s1 g h
    refine g_iconst C dX12_after_42 ic_2 ?_
    refine g_iconst C dX12_after_43 ic_1 ?_
    obtain ⟨⟨r44, g44⟩, hr44, h⟩ := bnd h
    refine g_cVz (k := 0) (As := [.int s1, .int (2 : Int32), .int (1 : Int32)]) (rest := []) (ro := r44) (go := g44) (xo := xo) C (fun sz => cM_bad l D T ad xo g s1 (2 : Int32) (1 : Int32) _ hr44 sz) kM_bad ⟨Nat.le_of_ble_eq_true rfl, Nat.le_of_ble_eq_true rfl⟩ ⟨rfl, rfl⟩ ⟨Nat.zero_le _, Nat.zero_le _⟩ (rfl : vwCl[11]? = some (RX12, TX12, 48)) kM0 rfl rfl (Nat.le_of_ble_eq_true rfl) dX12_after_44 (fun hz44 => ?_)
    refine g_if_eq C 52 dX12_after_47 (by decide) (fun c47 => ?_) (fun c47 => ?_)
    · have h := iteT c47 h
      refine g_aload_n C dX12_after_52 rfl 0 rfl ?_
      refine gM_get_now C dX12_after_53 ?_
      refine g_aload_n C dX12_after_56 rfl 0 rfl ?_
      refine gM_get_trial C dX12_after_57 ?_
      obtain ⟨g60, hr60, h⟩ := bnd h
      refine g_cSv (As := [.ref (ad 16), .ref (ad 17)]) (rest := []) (go := g60) (xo := xo) C (fun sz => cM_copies l D T ad xo g44 16 17 _ hr60 sz) kM_copies ⟨Nat.le_of_ble_eq_true rfl, Nat.le_of_ble_eq_true rfl⟩ ⟨rfl, rfl⟩ ⟨Nat.zero_le _, Nat.zero_le _⟩ rfl rfl (Nat.le_of_ble_eq_true rfl) dX12_after_60 ?_
      refine g_aload_n C dX12_after_63 rfl 0 rfl ?_
      refine g_aload_n C dX12_after_64 rfl 0 rfl ?_
      refine gM_get_trial C dX12_after_65 ?_
      refine g_iload_n C dX12_after_68 rfl 1 rfl ?_
      obtain ⟨⟨r69, g69⟩, hr69, h⟩ := bnd h
      refine g_cVz (k := 0) (As := [.ref (ad 17), .int x1]) (rest := []) (ro := r69) (go := g69) (xo := xo) C (fun sz => cM_dies l D T ad xo g60 17 x1 _ hr69 sz) kM_dies ⟨Nat.le_of_ble_eq_true rfl, Nat.le_of_ble_eq_true rfl⟩ ⟨rfl, rfl⟩ ⟨Nat.zero_le _, Nat.zero_le _⟩ (rfl : vwCl[11]? = some (RX12, TX12, 48)) kM0 rfl rfl (Nat.le_of_ble_eq_true rfl) dX12_after_69 (fun hz69 => ?_)
      refine g_if_eq C 87 dX12_after_72 (by decide) (fun c72 => ?_) (fun c72 => ?_)
      · have h := iteT c72 h
        refine g_iconst C dX12_after_87 ic_m1 ?_
        exact g_sub [0, 2] rfl (J88 x2 (-1 : Int32) g69 h)
      · have h := iteF c72 h
        refine g_aload_n C dX12_after_75 rfl 0 rfl ?_
        refine gM_get_trial C dX12_after_76 ?_
        refine g_bipush C dX12_after_79 bp_8 ?_
        refine g_iload_n C dX12_after_81 rfl 1 rfl ?_
        refine g_iadd C dX12_after_82 ?_
        obtain ⟨hi83, h⟩ := grd h
        refine g_iald (n := 26) (v := g69 17 (((8 : Int32) + x1).toNatClampNeg)) C ln_17 hi83 rfl dX12_after_83 ?_
        refine g_goto (tgt := 88) C dX12_after_84 (by decide) ?_
        exact g_sub [0, 2] rfl (J88 x2 (g69 17 (((8 : Int32) + x1).toNatClampNeg)) g69 h)
    · have h := iteF c47 h
      refine g_iconst C dX12_after_50 ic_0 ?_
      obtain rfl := Option.some.inj h
      exact g_iret C rfl rfl rfl dX12_after_51
  have J19 : ∀ (x1 : Int32) (x2 : Int32) (s1 : Int32) (g : St), fM_after_b19 x1 x2 s1 g = some o → GcM_after l D T ad Γ o xo xo g 19 [(0, .ref (ad 0)), (1, .int x1), (2, .int x2)] [.int s1, .ref (ad 0)] := by
    intro x1 x2 s1 g h
    refine g_iconst C dX12_after_19 ic_1 ?_
    refine g_iconst C dX12_after_20 ic_0 ?_
    obtain ⟨⟨r21, g21⟩, hr21, h⟩ := bnd h
    refine g_cVz (k := 0) (As := [.int s1, .int (1 : Int32), .int (0 : Int32)]) (rest := []) (ro := r21) (go := g21) (xo := xo) C (fun sz => cM_bad l D T ad xo g s1 (1 : Int32) (0 : Int32) _ hr21 sz) kM_bad ⟨Nat.le_of_ble_eq_true rfl, Nat.le_of_ble_eq_true rfl⟩ ⟨rfl, rfl⟩ ⟨Nat.zero_le _, Nat.zero_le _⟩ (rfl : vwCl[11]? = some (RX12, TX12, 48)) kM0 rfl rfl (Nat.le_of_ble_eq_true rfl) dX12_after_21 (fun hz21 => ?_)
    refine g_if_ne C 50 dX12_after_24 (by decide) (fun c24 => ?_) (fun c24 => ?_)
    · have h := iteT c24 h
      refine g_aload_n C dX12_after_27 rfl 0 rfl ?_
      refine g_iload_n C dX12_after_28 rfl 2 rfl ?_
      refine g_iconst C dX12_after_29 ic_0 ?_
      refine g_iconst C dX12_after_30 ic_1 ?_
      refine g_cSz (As := [.int x2, .int (0 : Int32), .int (1 : Int32)]) (rest := [.ref (ad 0)]) (ro := (fM_in x2 (0 : Int32) (1 : Int32))) (go := g21) (xo := xo) C (fun sz => cM_in l D T ad xo g21 x2 (0 : Int32) (1 : Int32) _ rfl sz) kM_in ⟨Nat.le_of_ble_eq_true rfl, Nat.le_of_ble_eq_true rfl⟩ ⟨rfl, rfl⟩ ⟨Nat.zero_le _, Nat.zero_le _⟩ rfl rfl (Nat.le_of_ble_eq_true rfl) dX12_after_31 (fun hz31 => ?_)
      refine g_if_ne C 41 dX12_after_34 (by decide) (fun c34 => ?_) (fun c34 => ?_)
      · have h := iteT c34 h
        refine g_iconst C dX12_after_37 ic_1 ?_
        refine g_goto (tgt := 42) C dX12_after_38 (by decide) ?_
        exact J42 x1 x2 (1 : Int32) g21 h
      · have h := iteF c34 h
        refine g_iconst C dX12_after_41 ic_0 ?_
        exact J42 x1 x2 (0 : Int32) g21 h
    · have h := iteF c24 h
      refine g_iconst C dX12_after_50 ic_0 ?_
      obtain rfl := Option.some.inj h
      exact g_iret C rfl rfl rfl dX12_after_51
  refine g_aload_n C dX12_after_0 rfl 0 rfl ?_
  refine g_iconst C dX12_after_1 ic_0 ?_
  refine gM_put_thrown C dX12_after_2 ?_
  refine g_aload_n C dX12_after_5 rfl 0 rfl ?_
  refine g_aload_n C dX12_after_6 rfl 0 rfl ?_
  refine g_iload_n C dX12_after_7 rfl 1 rfl ?_
  refine g_cVz (k := 0) (As := [.int x1]) (rest := [.ref (ad 0)]) (ro := (fM_isPerson x1 (st g 0 0 (0 : Int32)))) (go := (st g 0 0 (0 : Int32))) (xo := xo) C (fun sz => cM_isPerson l D T ad xo (st g 0 0 (0 : Int32)) x1 _ rfl sz) kM_isPerson ⟨Nat.le_of_ble_eq_true rfl, Nat.le_of_ble_eq_true rfl⟩ ⟨rfl, rfl⟩ ⟨Nat.zero_le _, Nat.zero_le _⟩ (rfl : vwCl[11]? = some (RX12, TX12, 48)) kM0 rfl rfl (Nat.le_of_ble_eq_true rfl) dX12_after_8 (fun hz8 => ?_)
  refine g_if_ne C 18 dX12_after_11 (by decide) (fun c11 => ?_) (fun c11 => ?_)
  · have h := iteT c11 h
    refine g_iconst C dX12_after_14 ic_1 ?_
    refine g_goto (tgt := 19) C dX12_after_15 (by decide) ?_
    exact J19 x1 x2 (1 : Int32) (st g 0 0 (0 : Int32)) h
  · have h := iteF c11 h
    refine g_iconst C dX12_after_18 ic_0 ?_
    exact J19 x1 x2 (0 : Int32) (st g 0 0 (0 : Int32)) h
def fM_latest_b89 (x1 : Int32) (x3 : Int32) (s0 : Int32) (g : St) : Option ((Int32 × Int32) ⊕ (Int32)) :=
  some (.inl (s0, (x3 + (1 : Int32))))
def fM_latest_b88 (x1 : Int32) (x2 : Int32) (x3 : Int32) (g : St) : Option ((Int32 × Int32) ⊕ (Int32)) :=
  fM_latest_b89 x1 x3 x2 g
def fM_latest_b84 (x1 : Int32) (x3 : Int32) (g : St) : Option ((Int32 × Int32) ⊕ (Int32)) :=
  fM_latest_b89 x1 x3 x3 g
def fM_latest_L34 (x1 : Int32) (g : St) : (Int32 × Int32) → Option ((Int32 × Int32) ⊕ (Int32)) := fun ⟨x2, x3⟩ =>
  if (g 4 0) ≤ x3 then
    (some (.inr x2))
  else
    (if (fM_has (g 16 24) x3) = 0 then
    (if x2 = (-1 : Int32) then
    (fM_latest_b84 x1 x3 g)
  else
    (if ¬ (((16 : Int32) + x3) < 0 ∨ 26 ≤ ((16 : Int32) + x3).toNatClampNeg) then (if ¬ (((16 : Int32) + x2) < 0 ∨ 26 ≤ ((16 : Int32) + x2).toNatClampNeg) then (if (g 16 (((16 : Int32) + x3).toNatClampNeg)) ≤ (g 16 (((16 : Int32) + x2).toNatClampNeg)) then
    (fM_latest_b88 x1 x2 x3 g)
  else
    (fM_latest_b84 x1 x3 g)) else none) else none))
  else
    (fM_latest_b88 x1 x2 x3 g))
def fM_latest_b34 (x1 : Int32) (x2 : Int32) (x3 : Int32) (g : St) : Option (Int32 × St) :=
  (lp (fM_latest_L34 x1 g) fuel (x2, x3)).bind (fun x2 => if x1 = 0 then
    (some (x2, g))
  else
    (if x2 = (-1 : Int32) then
    (some (x2, g))
  else
    (if ¬ (((16 : Int32) + x2) < 0 ∨ 26 ≤ ((16 : Int32) + x2).toNatClampNeg) then (some ((g 16 (((16 : Int32) + x2).toNatClampNeg)), g)) else none)))
def fM_latest_b20 (x1 : Int32) (s1 : Int32) (g : St) : Option (Int32 × St) :=
  (fM_bad s1 (1 : Int32) (1 : Int32) g).bind fun ⟨r22, g22⟩ => (if r22 = 0 then
    (fM_latest_b34 x1 (-1 : Int32) (0 : Int32) g22)
  else
    (some ((0 : Int32), g22)))
def fM_latest (x1 : Int32) (g : St) : Option (Int32 × St) :=
  if (fM_in x1 (0 : Int32) (1 : Int32)) = 0 then
    (fM_latest_b20 x1 (1 : Int32) (st g 0 0 (0 : Int32)))
  else
    (fM_latest_b20 x1 (0 : Int32) (st g 0 0 (0 : Int32)))
def rmM_latest : Room := { frames := 1, cells := 0, slots := 0, locals := 23 }
abbrev GcM_latest (l : Launch) (D : va_G) (T : cT) (ad : Nat → Nat) (Γ : Cxt) (o : Int32 × St) (xo : Sl) (x : Sl) (g : St) (pc : Nat) (lv : List (Nat × Value)) (stk : List Value) : Prop := Gj l shM D T ad 4 (rmM_latest) 0 0 Γ (MQ Γ.below (va_Qi (eqI o.1 o.2 xo) (wPost shM D T ad Γ.A) Γ.A) Γ.args Γ.s 0 0 Γ.A) x g pc lv stk
set_option maxRecDepth 100000 in
set_option maxHeartbeats 4000000 in
theorem cM_latest (l : Launch) (D : va_G) (T : cT) (ad : Nat → Nat) (xo : Sl) (g : St) (x1 : Int32) (o : Int32 × St) (h : fM_latest x1 g = some o) (sz : Nat) : Met l yX12_latest wM_latest (rmM_latest) (va_Pc [.ref (ad 0), .int x1] (wPre shM D T ad xo g sz)) (va_Qi (eqI o.1 o.2 xo) (wPost shM D T ad (aW shM T ad xo g sz)) (aW shM T ad xo g sz)) 0 0 (aW shM T ad xo g sz) := by
  refine g_start (Qc := fun A => va_Qi (eqI o.1 o.2 xo) (wPost shM D T ad A) A) (by decide +kernel) rfl rfl (Nat.le_of_ble_eq_true rfl) (lv := [(0, .ref (ad 0)), (1, .int x1)]) rfl (fun Γ C => ?_)
  show GcM_latest l D T ad Γ o xo xo g 0 [(0, .ref (ad 0)), (1, .int x1)] []
  have J34 : ∀ (x1 : Int32) (x2 : Int32) (x3 : Int32) (g : St), fM_latest_b34 x1 x2 x3 g = some o → GcM_latest l D T ad Γ o xo xo g 34 [(0, .ref (ad 0)), (1, .int x1), (2, .int x2), (3, .int x3)] [] := by
    intro x1 x2 x3 g h
    obtain ⟨x2, ht, h⟩ := bnd h
    refine lp_run (P := fun t : Int32 × Int32 => match t with | (x2, x3) => GcM_latest l D T ad Γ o xo xo g 34 [(0, .ref (ad 0)), (1, .int x1), (2, .int x2), (3, .int x3)] []) (E := fun x2 : Int32 => GcM_latest l D T ad Γ o xo xo g 96 [(0, .ref (ad 0)), (1, .int x1), (2, .int x2)] []) ?_ _ _ _ ht ?_
    · rintro ⟨x2, x3⟩ z h Kt Ke
      show GcM_latest l D T ad Γ o xo xo g 34 [(0, .ref (ad 0)), (1, .int x1), (2, .int x2), (3, .int x3)] []
      have J89 : ∀ (x3 : Int32) (s0 : Int32), fM_latest_b89 x1 x3 s0 g = some z → GcM_latest l D T ad Γ o xo xo g 89 [(0, .ref (ad 0)), (1, .int x1), (3, .int x3)] [.int s0] := by
        intro x3 s0 h
        refine g_istore_n (lv' := [(2, .int s0), (0, .ref (ad 0)), (1, .int x1), (3, .int x3)]) C dX12_latest_89 rfl (Nat.le_of_ble_eq_true rfl) rfl ?_
        refine g_iinc (lv' := [(3, .int (x3 + (1 : Int32))), (2, .int s0), (0, .ref (ad 0)), (1, .int x1)]) C dX12_latest_90 3 rfl (ii_1 _) (Nat.le_of_ble_eq_true rfl) rfl ?_
        refine g_goto (tgt := 34) C dX12_latest_93 (by decide) ?_
        exact g_sub [2, 3, 1, 0] rfl (Kt _ (Option.some.inj h).symm)
      have J88 : ∀ (x2 : Int32) (x3 : Int32), fM_latest_b88 x1 x2 x3 g = some z → GcM_latest l D T ad Γ o xo xo g 88 [(0, .ref (ad 0)), (1, .int x1), (2, .int x2), (3, .int x3)] [] := by
        intro x2 x3 h
        refine g_iload_n C dX12_latest_88 rfl 2 rfl ?_
        exact g_sub [0, 1, 3] rfl (J89 x3 x2 h)
      have J84 : ∀ (x3 : Int32), fM_latest_b84 x1 x3 g = some z → GcM_latest l D T ad Γ o xo xo g 84 [(0, .ref (ad 0)), (1, .int x1), (3, .int x3)] [] := by
        intro x3 h
        refine g_iload_n C dX12_latest_84 rfl 2 rfl ?_
        refine g_goto (tgt := 89) C dX12_latest_85 (by decide) ?_
        exact J89 x3 x3 h
      refine g_iload_n C dX12_latest_34 rfl 3 rfl ?_
      refine g_aload_n C dX12_latest_35 rfl 0 rfl ?_
      refine gM_get_told C dX12_latest_36 ?_
      refine g_iconst C dX12_latest_39 ic_0 ?_
      refine g_iald (n := 2) (v := g 4 0) C ln_4 (by decide) rfl dX12_latest_40 ?_
      refine g_icmp_ge C 96 dX12_latest_41 (by decide) (fun c41 => ?_) (fun c41 => ?_)
      · have h := iteT c41 h
        exact g_sub [0, 1, 2] rfl (Ke _ (Option.some.inj h).symm)
      · have h := iteF c41 h
        refine g_aload_n C dX12_latest_44 rfl 0 rfl ?_
        refine gM_get_now C dX12_latest_45 ?_
        refine g_bipush C dX12_latest_48 bp_24 ?_
        refine g_iald (n := 26) (v := g 16 24) C ln_16 (by decide) rfl dX12_latest_50 ?_
        refine g_iload_n C dX12_latest_51 rfl 3 rfl ?_
        refine g_cSz (As := [.int (g 16 24), .int x3]) (rest := []) (ro := (fM_has (g 16 24) x3)) (go := g) (xo := xo) C (fun sz => cM_has l D T ad xo g (g 16 24) x3 _ rfl sz) kM_has ⟨Nat.le_of_ble_eq_true rfl, Nat.le_of_ble_eq_true rfl⟩ ⟨rfl, rfl⟩ ⟨Nat.zero_le _, Nat.zero_le _⟩ rfl rfl (Nat.le_of_ble_eq_true rfl) dX12_latest_52 (fun hz52 => ?_)
        refine g_if_ne C 88 dX12_latest_55 (by decide) (fun c55 => ?_) (fun c55 => ?_)
        · have h := iteT c55 h
          refine g_iload_n C dX12_latest_58 rfl 2 rfl ?_
          refine g_iconst C dX12_latest_59 ic_m1 ?_
          refine g_icmp_eq C 84 dX12_latest_60 (by decide) (fun c60 => ?_) (fun c60 => ?_)
          · have h := iteT c60 h
            exact g_sub [0, 1, 3] rfl (J84 x3 h)
          · have h := iteF c60 h
            refine g_aload_n C dX12_latest_63 rfl 0 rfl ?_
            refine gM_get_now C dX12_latest_64 ?_
            refine g_bipush C dX12_latest_67 bp_16 ?_
            refine g_iload_n C dX12_latest_69 rfl 3 rfl ?_
            refine g_iadd C dX12_latest_70 ?_
            obtain ⟨hi71, h⟩ := grd h
            refine g_iald (n := 26) (v := g 16 (((16 : Int32) + x3).toNatClampNeg)) C ln_16 hi71 rfl dX12_latest_71 ?_
            refine g_aload_n C dX12_latest_72 rfl 0 rfl ?_
            refine gM_get_now C dX12_latest_73 ?_
            refine g_bipush C dX12_latest_76 bp_16 ?_
            refine g_iload_n C dX12_latest_78 rfl 2 rfl ?_
            refine g_iadd C dX12_latest_79 ?_
            obtain ⟨hi80, h⟩ := grd h
            refine g_iald (n := 26) (v := g 16 (((16 : Int32) + x2).toNatClampNeg)) C ln_16 hi80 rfl dX12_latest_80 ?_
            refine g_icmp_le C 88 dX12_latest_81 (by decide) (fun c81 => ?_) (fun c81 => ?_)
            · have h := iteT c81 h
              exact J88 x2 x3 h
            · have h := iteF c81 h
              exact g_sub [0, 1, 3] rfl (J84 x3 h)
        · have h := iteF c55 h
          exact J88 x2 x3 h
    · show GcM_latest l D T ad Γ o xo xo g 96 [(0, .ref (ad 0)), (1, .int x1), (2, .int x2)] []
      refine g_iload_n C dX12_latest_96 rfl 1 rfl ?_
      refine g_if_eq C 105 dX12_latest_97 (by decide) (fun c97 => ?_) (fun c97 => ?_)
      · have h := iteT c97 h
        refine g_iload_n C dX12_latest_105 rfl 2 rfl ?_
        refine g_goto (tgt := 118) C dX12_latest_106 (by decide) ?_
        obtain rfl := Option.some.inj h
        exact g_iret C rfl rfl rfl dX12_latest_118
      · have h := iteF c97 h
        refine g_iload_n C dX12_latest_100 rfl 2 rfl ?_
        refine g_iconst C dX12_latest_101 ic_m1 ?_
        refine g_icmp_ne C 109 dX12_latest_102 (by decide) (fun c102 => ?_) (fun c102 => ?_)
        · have h := iteT c102 h
          refine g_iload_n C dX12_latest_105 rfl 2 rfl ?_
          refine g_goto (tgt := 118) C dX12_latest_106 (by decide) ?_
          obtain rfl := Option.some.inj h
          exact g_iret C rfl rfl rfl dX12_latest_118
        · have h := iteF c102 h
          refine g_aload_n C dX12_latest_109 rfl 0 rfl ?_
          refine gM_get_now C dX12_latest_110 ?_
          refine g_bipush C dX12_latest_113 bp_16 ?_
          refine g_iload_n C dX12_latest_115 rfl 2 rfl ?_
          refine g_iadd C dX12_latest_116 ?_
          obtain ⟨hi117, h⟩ := grd h
          refine g_iald (n := 26) (v := g 16 (((16 : Int32) + x2).toNatClampNeg)) C ln_16 hi117 rfl dX12_latest_117 ?_
          obtain rfl := Option.some.inj h
          exact g_iret C rfl rfl rfl dX12_latest_118
  have J20 : ∀ (x1 : Int32) (s1 : Int32) (g : St), fM_latest_b20 x1 s1 g = some o → GcM_latest l D T ad Γ o xo xo g 20 [(0, .ref (ad 0)), (1, .int x1)] [.int s1, .ref (ad 0)] := by
    intro x1 s1 g h
    refine g_iconst C dX12_latest_20 ic_1 ?_
    refine g_iconst C dX12_latest_21 ic_1 ?_
    obtain ⟨⟨r22, g22⟩, hr22, h⟩ := bnd h
    refine g_cVz (k := 0) (As := [.int s1, .int (1 : Int32), .int (1 : Int32)]) (rest := []) (ro := r22) (go := g22) (xo := xo) C (fun sz => cM_bad l D T ad xo g s1 (1 : Int32) (1 : Int32) _ hr22 sz) kM_bad ⟨Nat.le_of_ble_eq_true rfl, Nat.le_of_ble_eq_true rfl⟩ ⟨rfl, rfl⟩ ⟨Nat.zero_le _, Nat.zero_le _⟩ (rfl : vwCl[11]? = some (RX12, TX12, 48)) kM0 rfl rfl (Nat.le_of_ble_eq_true rfl) dX12_latest_22 (fun hz22 => ?_)
    refine g_if_eq C 30 dX12_latest_25 (by decide) (fun c25 => ?_) (fun c25 => ?_)
    · have h := iteT c25 h
      refine g_iconst C dX12_latest_30 ic_m1 ?_
      refine g_istore_n (lv' := [(2, .int (-1 : Int32)), (0, .ref (ad 0)), (1, .int x1)]) C dX12_latest_31 rfl (Nat.le_of_ble_eq_true rfl) rfl ?_
      refine g_iconst C dX12_latest_32 ic_0 ?_
      refine g_istore_n (lv' := [(3, .int (0 : Int32)), (2, .int (-1 : Int32)), (0, .ref (ad 0)), (1, .int x1)]) C dX12_latest_33 rfl (Nat.le_of_ble_eq_true rfl) rfl ?_
      exact g_sub [2, 3, 1, 0] rfl (J34 x1 (-1 : Int32) (0 : Int32) g22 h)
    · have h := iteF c25 h
      refine g_iconst C dX12_latest_28 ic_0 ?_
      obtain rfl := Option.some.inj h
      exact g_iret C rfl rfl rfl dX12_latest_29
  refine g_aload_n C dX12_latest_0 rfl 0 rfl ?_
  refine g_iconst C dX12_latest_1 ic_0 ?_
  refine gM_put_thrown C dX12_latest_2 ?_
  refine g_aload_n C dX12_latest_5 rfl 0 rfl ?_
  refine g_iload_n C dX12_latest_6 rfl 1 rfl ?_
  refine g_iconst C dX12_latest_7 ic_0 ?_
  refine g_iconst C dX12_latest_8 ic_1 ?_
  refine g_cSz (As := [.int x1, .int (0 : Int32), .int (1 : Int32)]) (rest := [.ref (ad 0)]) (ro := (fM_in x1 (0 : Int32) (1 : Int32))) (go := (st g 0 0 (0 : Int32))) (xo := xo) C (fun sz => cM_in l D T ad xo (st g 0 0 (0 : Int32)) x1 (0 : Int32) (1 : Int32) _ rfl sz) kM_in ⟨Nat.le_of_ble_eq_true rfl, Nat.le_of_ble_eq_true rfl⟩ ⟨rfl, rfl⟩ ⟨Nat.zero_le _, Nat.zero_le _⟩ rfl rfl (Nat.le_of_ble_eq_true rfl) dX12_latest_9 (fun hz9 => ?_)
  refine g_if_ne C 19 dX12_latest_12 (by decide) (fun c12 => ?_) (fun c12 => ?_)
  · have h := iteT c12 h
    refine g_iconst C dX12_latest_15 ic_1 ?_
    refine g_goto (tgt := 20) C dX12_latest_16 (by decide) ?_
    exact J20 x1 (1 : Int32) (st g 0 0 (0 : Int32)) h
  · have h := iteF c12 h
    refine g_iconst C dX12_latest_19 ic_0 ?_
    exact J20 x1 (0 : Int32) (st g 0 0 (0 : Int32)) h
def fM_draw (x1 : Int32) (g : St) : Option (Int32 × St) :=
  if ¬ x1 = 0 then (some (((((((g 0 47) * (1103515245 : Int32)) + (12345 : Int32)) >>> ((16 : Int32) &&& 31)) &&& (32767 : Int32)) - (((((g 0 47) * (1103515245 : Int32)) + (12345 : Int32)) >>> ((16 : Int32) &&& 31)) &&& (32767 : Int32)) / x1 * x1), (st g 0 47 (((g 0 47) * (1103515245 : Int32)) + (12345 : Int32))))) else none
def rmM_draw : Room := { frames := 0, cells := 0, slots := 0, locals := 0 }
abbrev GcM_draw (l : Launch) (D : va_G) (T : cT) (ad : Nat → Nat) (Γ : Cxt) (o : Int32 × St) (xo : Sl) (x : Sl) (g : St) (pc : Nat) (lv : List (Nat × Value)) (stk : List Value) : Prop := Gj l shM D T ad 2 (rmM_draw) 0 0 Γ (MQ Γ.below (va_Qi (eqI o.1 o.2 xo) (wPost shM D T ad Γ.A) Γ.A) Γ.args Γ.s 0 0 Γ.A) x g pc lv stk
set_option maxRecDepth 100000 in
set_option maxHeartbeats 4000000 in
theorem cM_draw (l : Launch) (D : va_G) (T : cT) (ad : Nat → Nat) (xo : Sl) (g : St) (x1 : Int32) (o : Int32 × St) (h : fM_draw x1 g = some o) (sz : Nat) : Met l yX12_draw wM_draw (rmM_draw) (va_Pc [.ref (ad 0), .int x1] (wPre shM D T ad xo g sz)) (va_Qi (eqI o.1 o.2 xo) (wPost shM D T ad (aW shM T ad xo g sz)) (aW shM T ad xo g sz)) 0 0 (aW shM T ad xo g sz) := by
  refine g_start (Qc := fun A => va_Qi (eqI o.1 o.2 xo) (wPost shM D T ad A) A) (by decide +kernel) rfl rfl (Nat.le_of_ble_eq_true rfl) (lv := [(0, .ref (ad 0)), (1, .int x1)]) rfl (fun Γ C => ?_)
  show GcM_draw l D T ad Γ o xo xo g 0 [(0, .ref (ad 0)), (1, .int x1)] []
  refine g_aload_n C dX12_draw_0 rfl 0 rfl ?_
  refine g_aload_n C dX12_draw_1 rfl 0 rfl ?_
  refine gM_get_lots (v := g 0 47) C rfl dX12_draw_2 ?_
  refine g_ldc_w C dX12_draw_5 (List.mem_cons_of_mem _ bm_367) ?_
  refine g_imul C dX12_draw_8 ?_
  refine g_sipush C dX12_draw_9 sp_12345 ?_
  refine g_iadd C dX12_draw_12 ?_
  refine gM_put_lots C dX12_draw_13 ?_
  refine g_aload_n C dX12_draw_16 rfl 0 rfl ?_
  refine gM_get_lots (v := ((g 0 47) * (1103515245 : Int32)) + (12345 : Int32)) C rfl dX12_draw_17 ?_
  refine g_bipush C dX12_draw_20 bp_16 ?_
  refine g_ishr C dX12_draw_22 ?_
  refine g_sipush C dX12_draw_23 sp_32767 ?_
  refine g_iand C dX12_draw_26 ?_
  refine g_iload_n C dX12_draw_27 rfl 1 rfl ?_
  obtain ⟨hd28, h⟩ := grd h
  refine g_irem C dX12_draw_28 hd28 ?_
  obtain rfl := Option.some.inj h
  exact g_iret C rfl rfl rfl dX12_draw_29
def fM_centuryBy_b96 (x2 : Int32) (x3 : Int32) (x4 : Int32) (g : St) : Option ((Int32 × St) ⊕ (St)) :=
  (fM_yearEnds 17 g).bind fun g101 => (some (.inl ((x4 + (1 : Int32)), g101)))
def fM_centuryBy_b63 (x2 : Int32) (x3 : Int32) (x4 : Int32) (g : St) : Option ((Int32 × St) ⊕ (St)) :=
  (fM_draw (g 4 0) g).bind fun ⟨r70, g70⟩ => ((fM_draw (g70 4 0) g70).bind fun ⟨r89, g89⟩ => ((fM_lendsLate 17 r70 r89 g89).bind fun ⟨r92, g92⟩ => (fM_centuryBy_b96 x2 x3 x4 g92)))
def fM_centuryBy_L19 (x2 : Int32) (x3 : Int32) : (Int32 × St) → Option ((Int32 × St) ⊕ (St)) := fun ⟨x4, g⟩ =>
  if x2 ≤ x4 then
    (some (.inr g))
  else
    (if (g 4 0) ≤ 0 then
    (fM_centuryBy_b96 x2 x3 x4 g)
  else
    ((fM_draw (16 : Int32) g).bind fun ⟨r37, g37⟩ => (if x3 ≤ r37 then
    (fM_centuryBy_b63 x2 x3 x4 g37)
  else
    ((fM_draw (g37 4 0) g37).bind fun ⟨r56, g56⟩ => ((fM_dies 17 r56 g56).bind fun ⟨r59, g59⟩ => (fM_centuryBy_b63 x2 x3 x4 g59))))))
def fM_centuryBy_b19 (x2 : Int32) (x3 : Int32) (x4 : Int32) (g : St) : Option (St) :=
  (lp (fM_centuryBy_L19 x2 x3) fuel (x4, g)).bind (fun g => some g)
def fM_centuryBy (x1 : Int32) (x2 : Int32) (x3 : Int32) (g : St) : Option (St) :=
  (fM_copies 16 17 g).bind fun g8 => (fM_centuryBy_b19 x2 x3 (0 : Int32) (st g8 0 47 x1))
def rmM_centuryBy : Room := { frames := 8, cells := 0, slots := 0, locals := 187 }
abbrev GcM_centuryBy (l : Launch) (D : va_G) (T : cT) (ad : Nat → Nat) (Γ : Cxt) (o : St) (xo : Sl) (x : Sl) (g : St) (pc : Nat) (lv : List (Nat × Value)) (stk : List Value) : Prop := Gj l shM D T ad 6 (rmM_centuryBy) 0 0 Γ (MQ Γ.below (va_Qv (eqV o xo) (wPost shM D T ad Γ.A) Γ.A) Γ.args Γ.s 0 0 Γ.A) x g pc lv stk
set_option maxRecDepth 100000 in
set_option maxHeartbeats 4000000 in
theorem cM_centuryBy (l : Launch) (D : va_G) (T : cT) (ad : Nat → Nat) (xo : Sl) (g : St) (x1 : Int32) (x2 : Int32) (x3 : Int32) (o : St) (h : fM_centuryBy x1 x2 x3 g = some o) (sz : Nat) : Met l yX12_centuryBy wM_centuryBy (rmM_centuryBy) (va_Pc [.ref (ad 0), .int x1, .int x2, .int x3] (wPre shM D T ad xo g sz)) (va_Qv (eqV o xo) (wPost shM D T ad (aW shM T ad xo g sz)) (aW shM T ad xo g sz)) 0 0 (aW shM T ad xo g sz) := by
  refine g_start (Qc := fun A => va_Qv (eqV o xo) (wPost shM D T ad A) A) (by decide +kernel) rfl rfl (Nat.le_of_ble_eq_true rfl) (lv := [(0, .ref (ad 0)), (1, .int x1), (2, .int x2), (3, .int x3)]) rfl (fun Γ C => ?_)
  show GcM_centuryBy l D T ad Γ o xo xo g 0 [(0, .ref (ad 0)), (1, .int x1), (2, .int x2), (3, .int x3)] []
  have J19 : ∀ (x2 : Int32) (x3 : Int32) (x4 : Int32) (g : St), fM_centuryBy_b19 x2 x3 x4 g = some o → GcM_centuryBy l D T ad Γ o xo xo g 19 [(0, .ref (ad 0)), (2, .int x2), (3, .int x3), (4, .int x4)] [] := by
    intro x2 x3 x4 g h
    obtain ⟨g, ht, h⟩ := bnd h
    refine lp_run (P := fun t : Int32 × St => match t with | (x4, g) => GcM_centuryBy l D T ad Γ o xo xo g 19 [(0, .ref (ad 0)), (2, .int x2), (3, .int x3), (4, .int x4)] []) (E := fun g : St => GcM_centuryBy l D T ad Γ o xo xo g 110 [] []) ?_ _ _ _ ht ?_
    · rintro ⟨x4, g⟩ z h Kt Ke
      show GcM_centuryBy l D T ad Γ o xo xo g 19 [(0, .ref (ad 0)), (2, .int x2), (3, .int x3), (4, .int x4)] []
      have J96 : ∀ (x4 : Int32) (g : St), fM_centuryBy_b96 x2 x3 x4 g = some z → GcM_centuryBy l D T ad Γ o xo xo g 96 [(0, .ref (ad 0)), (2, .int x2), (3, .int x3), (4, .int x4)] [] := by
        intro x4 g h
        refine g_aload_n C dX12_centuryBy_96 rfl 0 rfl ?_
        refine g_aload_n C dX12_centuryBy_97 rfl 0 rfl ?_
        refine gM_get_trial C dX12_centuryBy_98 ?_
        obtain ⟨g101, hr101, h⟩ := bnd h
        refine g_cVv (k := 0) (As := [.ref (ad 17)]) (rest := []) (go := g101) (xo := xo) C (fun sz => cM_yearEnds l D T ad xo g 17 _ hr101 sz) kM_yearEnds ⟨Nat.le_of_ble_eq_true rfl, Nat.le_of_ble_eq_true rfl⟩ ⟨rfl, rfl⟩ ⟨Nat.zero_le _, Nat.zero_le _⟩ (rfl : vwCl[11]? = some (RX12, TX12, 48)) kM0 rfl rfl (Nat.le_of_ble_eq_true rfl) dX12_centuryBy_101 ?_
        refine g_iinc (lv' := [(4, .int (x4 + (1 : Int32))), (0, .ref (ad 0)), (2, .int x2), (3, .int x3)]) C dX12_centuryBy_104 3 rfl (ii_1 _) (Nat.le_of_ble_eq_true rfl) rfl ?_
        refine g_goto (tgt := 19) C dX12_centuryBy_107 (by decide) ?_
        exact g_sub [1, 2, 3, 0] rfl (Kt _ (Option.some.inj h).symm)
      have J63 : ∀ (x4 : Int32) (g : St), fM_centuryBy_b63 x2 x3 x4 g = some z → GcM_centuryBy l D T ad Γ o xo xo g 63 [(0, .ref (ad 0)), (2, .int x2), (3, .int x3), (4, .int x4)] [] := by
        intro x4 g h
        refine g_aload_n C dX12_centuryBy_63 rfl 0 rfl ?_
        refine g_aload_n C dX12_centuryBy_64 rfl 0 rfl ?_
        refine gM_get_told C dX12_centuryBy_65 ?_
        refine g_iconst C dX12_centuryBy_68 ic_0 ?_
        refine g_iald (n := 2) (v := g 4 0) C ln_4 (by decide) rfl dX12_centuryBy_69 ?_
        obtain ⟨⟨r70, g70⟩, hr70, h⟩ := bnd h
        refine g_cVi (k := 0) (As := [.int (g 4 0)]) (rest := []) (ro := r70) (go := g70) (xo := xo) C (fun sz => cM_draw l D T ad xo g (g 4 0) _ hr70 sz) kM_draw ⟨Nat.le_of_ble_eq_true rfl, Nat.le_of_ble_eq_true rfl⟩ ⟨rfl, rfl⟩ ⟨Nat.zero_le _, Nat.zero_le _⟩ (rfl : vwCl[11]? = some (RX12, TX12, 48)) kM0 rfl rfl (Nat.le_of_ble_eq_true rfl) dX12_centuryBy_70 ?_
        refine g_istore (lv' := [(5, .int r70), (0, .ref (ad 0)), (2, .int x2), (3, .int x3), (4, .int x4)]) C dX12_centuryBy_73 (Nat.le_of_ble_eq_true rfl) rfl ?_
        refine g_aload_n C dX12_centuryBy_75 rfl 1 rfl ?_
        refine g_aload_n C dX12_centuryBy_76 rfl 1 rfl ?_
        refine gM_get_trial C dX12_centuryBy_77 ?_
        refine g_iload C dX12_centuryBy_80 0 rfl ?_
        refine g_aload_n C dX12_centuryBy_82 rfl 1 rfl ?_
        refine g_aload_n C dX12_centuryBy_83 rfl 1 rfl ?_
        refine gM_get_told C dX12_centuryBy_84 ?_
        refine g_iconst C dX12_centuryBy_87 ic_0 ?_
        refine g_iald (n := 2) (v := g70 4 0) C ln_4 (by decide) rfl dX12_centuryBy_88 ?_
        obtain ⟨⟨r89, g89⟩, hr89, h⟩ := bnd h
        refine g_cVi (k := 0) (As := [.int (g70 4 0)]) (rest := [.int r70, .ref (ad 17), .ref (ad 0)]) (ro := r89) (go := g89) (xo := xo) C (fun sz => cM_draw l D T ad xo g70 (g70 4 0) _ hr89 sz) kM_draw ⟨Nat.le_of_ble_eq_true rfl, Nat.le_of_ble_eq_true rfl⟩ ⟨rfl, rfl⟩ ⟨Nat.zero_le _, Nat.zero_le _⟩ (rfl : vwCl[11]? = some (RX12, TX12, 48)) kM0 rfl rfl (Nat.le_of_ble_eq_true rfl) dX12_centuryBy_89 ?_
        obtain ⟨⟨r92, g92⟩, hr92, h⟩ := bnd h
        refine g_cVz (k := 0) (As := [.ref (ad 17), .int r70, .int r89]) (rest := []) (ro := r92) (go := g92) (xo := xo) C (fun sz => cM_lendsLate l D T ad xo g89 17 r70 r89 _ hr92 sz) kM_lendsLate ⟨Nat.le_of_ble_eq_true rfl, Nat.le_of_ble_eq_true rfl⟩ ⟨rfl, rfl⟩ ⟨Nat.zero_le _, Nat.zero_le _⟩ (rfl : vwCl[11]? = some (RX12, TX12, 48)) kM0 rfl rfl (Nat.le_of_ble_eq_true rfl) dX12_centuryBy_92 (fun hz92 => ?_)
        refine g_pop C dX12_centuryBy_95 rfl ?_
        exact g_sub [1, 2, 3, 4] rfl (J96 x4 g92 h)
      refine g_iload C dX12_centuryBy_19 3 rfl ?_
      refine g_iload_n C dX12_centuryBy_21 rfl 1 rfl ?_
      refine g_icmp_ge C 110 dX12_centuryBy_22 (by decide) (fun c22 => ?_) (fun c22 => ?_)
      · have h := iteT c22 h
        exact g_sub [] rfl (Ke _ (Option.some.inj h).symm)
      · have h := iteF c22 h
        refine g_aload_n C dX12_centuryBy_25 rfl 0 rfl ?_
        refine gM_get_told C dX12_centuryBy_26 ?_
        refine g_iconst C dX12_centuryBy_29 ic_0 ?_
        refine g_iald (n := 2) (v := g 4 0) C ln_4 (by decide) rfl dX12_centuryBy_30 ?_
        refine g_if_le C 96 dX12_centuryBy_31 (by decide) (fun c31 => ?_) (fun c31 => ?_)
        · have h := iteT c31 h
          exact J96 x4 g h
        · have h := iteF c31 h
          refine g_aload_n C dX12_centuryBy_34 rfl 0 rfl ?_
          refine g_bipush C dX12_centuryBy_35 bp_16 ?_
          obtain ⟨⟨r37, g37⟩, hr37, h⟩ := bnd h
          refine g_cVi (k := 0) (As := [.int (16 : Int32)]) (rest := []) (ro := r37) (go := g37) (xo := xo) C (fun sz => cM_draw l D T ad xo g (16 : Int32) _ hr37 sz) kM_draw ⟨Nat.le_of_ble_eq_true rfl, Nat.le_of_ble_eq_true rfl⟩ ⟨rfl, rfl⟩ ⟨Nat.zero_le _, Nat.zero_le _⟩ (rfl : vwCl[11]? = some (RX12, TX12, 48)) kM0 rfl rfl (Nat.le_of_ble_eq_true rfl) dX12_centuryBy_37 ?_
          refine g_iload_n C dX12_centuryBy_40 rfl 2 rfl ?_
          refine g_icmp_ge C 63 dX12_centuryBy_41 (by decide) (fun c41 => ?_) (fun c41 => ?_)
          · have h := iteT c41 h
            exact J63 x4 g37 h
          · have h := iteF c41 h
            refine g_aload_n C dX12_centuryBy_44 rfl 0 rfl ?_
            refine g_aload_n C dX12_centuryBy_45 rfl 0 rfl ?_
            refine gM_get_trial C dX12_centuryBy_46 ?_
            refine g_aload_n C dX12_centuryBy_49 rfl 0 rfl ?_
            refine g_aload_n C dX12_centuryBy_50 rfl 0 rfl ?_
            refine gM_get_told C dX12_centuryBy_51 ?_
            refine g_iconst C dX12_centuryBy_54 ic_0 ?_
            refine g_iald (n := 2) (v := g37 4 0) C ln_4 (by decide) rfl dX12_centuryBy_55 ?_
            obtain ⟨⟨r56, g56⟩, hr56, h⟩ := bnd h
            refine g_cVi (k := 0) (As := [.int (g37 4 0)]) (rest := [.ref (ad 17), .ref (ad 0)]) (ro := r56) (go := g56) (xo := xo) C (fun sz => cM_draw l D T ad xo g37 (g37 4 0) _ hr56 sz) kM_draw ⟨Nat.le_of_ble_eq_true rfl, Nat.le_of_ble_eq_true rfl⟩ ⟨rfl, rfl⟩ ⟨Nat.zero_le _, Nat.zero_le _⟩ (rfl : vwCl[11]? = some (RX12, TX12, 48)) kM0 rfl rfl (Nat.le_of_ble_eq_true rfl) dX12_centuryBy_56 ?_
            obtain ⟨⟨r59, g59⟩, hr59, h⟩ := bnd h
            refine g_cVz (k := 0) (As := [.ref (ad 17), .int r56]) (rest := []) (ro := r59) (go := g59) (xo := xo) C (fun sz => cM_dies l D T ad xo g56 17 r56 _ hr59 sz) kM_dies ⟨Nat.le_of_ble_eq_true rfl, Nat.le_of_ble_eq_true rfl⟩ ⟨rfl, rfl⟩ ⟨Nat.zero_le _, Nat.zero_le _⟩ (rfl : vwCl[11]? = some (RX12, TX12, 48)) kM0 rfl rfl (Nat.le_of_ble_eq_true rfl) dX12_centuryBy_59 (fun hz59 => ?_)
            refine g_pop C dX12_centuryBy_62 rfl ?_
            exact J63 x4 g59 h
    · show GcM_centuryBy l D T ad Γ o xo xo g 110 [] []
      obtain rfl := Option.some.inj h
      exact g_vret C rfl rfl dX12_centuryBy_110
  refine g_aload_n C dX12_centuryBy_0 rfl 0 rfl ?_
  refine gM_get_now C dX12_centuryBy_1 ?_
  refine g_aload_n C dX12_centuryBy_4 rfl 0 rfl ?_
  refine gM_get_trial C dX12_centuryBy_5 ?_
  obtain ⟨g8, hr8, h⟩ := bnd h
  refine g_cSv (As := [.ref (ad 16), .ref (ad 17)]) (rest := []) (go := g8) (xo := xo) C (fun sz => cM_copies l D T ad xo g 16 17 _ hr8 sz) kM_copies ⟨Nat.le_of_ble_eq_true rfl, Nat.le_of_ble_eq_true rfl⟩ ⟨rfl, rfl⟩ ⟨Nat.zero_le _, Nat.zero_le _⟩ rfl rfl (Nat.le_of_ble_eq_true rfl) dX12_centuryBy_8 ?_
  refine g_aload_n C dX12_centuryBy_11 rfl 0 rfl ?_
  refine g_iload_n C dX12_centuryBy_12 rfl 1 rfl ?_
  refine gM_put_lots C dX12_centuryBy_13 ?_
  refine g_iconst C dX12_centuryBy_16 ic_0 ?_
  refine g_istore (lv' := [(4, .int (0 : Int32)), (0, .ref (ad 0)), (1, .int x1), (2, .int x2), (3, .int x3)]) C dX12_centuryBy_17 (Nat.le_of_ble_eq_true rfl) rfl ?_
  exact g_sub [1, 3, 4, 0] rfl (J19 x2 x3 (0 : Int32) (st g8 0 47 x1) h)
def fM_isCentury (x0 : Int32) (x1 : Int32) : Int32 :=
  if (fM_in x0 (1 : Int32) (96 : Int32)) = 0 then
    ((0 : Int32))
  else
    (if (fM_in x1 (0 : Int32) (16 : Int32)) = 0 then
    ((0 : Int32))
  else
    ((1 : Int32)))
def rmM_isCentury : Room := { frames := 1, cells := 0, slots := 0, locals := 22 }
abbrev GcM_isCentury (l : Launch) (D : va_G) (T : cT) (ad : Nat → Nat) (Γ : Cxt) (o : Int32) (xo : Sl) (g0 : St) (x : Sl) (g : St) (pc : Nat) (lv : List (Nat × Value)) (stk : List Value) : Prop := Gj l shM D T ad 2 (rmM_isCentury) 0 0 Γ (MQ Γ.below (va_Qi (eqZ o g0 xo) (wPost shM D T ad Γ.A) Γ.A) Γ.args Γ.s 0 0 Γ.A) x g pc lv stk
set_option maxRecDepth 100000 in
set_option maxHeartbeats 4000000 in
theorem cM_isCentury (l : Launch) (D : va_G) (T : cT) (ad : Nat → Nat) (xo : Sl) (g : St) (x0 : Int32) (x1 : Int32) (o : Int32) (h : fM_isCentury x0 x1 = o) (sz : Nat) : Met l yX12_isCentury wM_isCentury (rmM_isCentury) (va_Pc [.int x0, .int x1] (wPre shM D T ad xo g sz)) (va_Qi (eqZ o g xo) (wPost shM D T ad (aW shM T ad xo g sz)) (aW shM T ad xo g sz)) 0 0 (aW shM T ad xo g sz) := by
  refine g_start (Qc := fun A => va_Qi (eqZ o g xo) (wPost shM D T ad A) A) (by decide +kernel) rfl rfl (Nat.le_of_ble_eq_true rfl) (lv := [(0, .int x0), (1, .int x1)]) rfl (fun Γ C => ?_)
  show GcM_isCentury l D T ad Γ o xo g xo g 0 [(0, .int x0), (1, .int x1)] []
  refine g_iload_n C dX12_isCentury_0 rfl 0 rfl ?_
  refine g_iconst C dX12_isCentury_1 ic_1 ?_
  refine g_bipush C dX12_isCentury_2 bp_96 ?_
  refine g_cSz (As := [.int x0, .int (1 : Int32), .int (96 : Int32)]) (rest := []) (ro := (fM_in x0 (1 : Int32) (96 : Int32))) (go := g) (xo := xo) C (fun sz => cM_in l D T ad xo g x0 (1 : Int32) (96 : Int32) _ rfl sz) kM_in ⟨Nat.le_of_ble_eq_true rfl, Nat.le_of_ble_eq_true rfl⟩ ⟨rfl, rfl⟩ ⟨Nat.zero_le _, Nat.zero_le _⟩ rfl rfl (Nat.le_of_ble_eq_true rfl) dX12_isCentury_4 (fun hz4 => ?_)
  refine g_if_eq C 24 dX12_isCentury_7 (by decide) (fun c7 => ?_) (fun c7 => ?_)
  · have h := iteT c7 h
    refine g_iconst C dX12_isCentury_24 ic_0 ?_
    subst h
    exact g_zret C rfl rfl rfl rfl dX12_isCentury_25
  · have h := iteF c7 h
    refine g_iload_n C dX12_isCentury_10 rfl 1 rfl ?_
    refine g_iconst C dX12_isCentury_11 ic_0 ?_
    refine g_bipush C dX12_isCentury_12 bp_16 ?_
    refine g_cSz (As := [.int x1, .int (0 : Int32), .int (16 : Int32)]) (rest := []) (ro := (fM_in x1 (0 : Int32) (16 : Int32))) (go := g) (xo := xo) C (fun sz => cM_in l D T ad xo g x1 (0 : Int32) (16 : Int32) _ rfl sz) kM_in ⟨Nat.le_of_ble_eq_true rfl, Nat.le_of_ble_eq_true rfl⟩ ⟨rfl, rfl⟩ ⟨Nat.zero_le _, Nat.zero_le _⟩ rfl rfl (Nat.le_of_ble_eq_true rfl) dX12_isCentury_14 (fun hz14 => ?_)
    refine g_if_eq C 24 dX12_isCentury_17 (by decide) (fun c17 => ?_) (fun c17 => ?_)
    · have h := iteT c17 h
      refine g_iconst C dX12_isCentury_24 ic_0 ?_
      subst h
      exact g_zret C rfl rfl rfl rfl dX12_isCentury_25
    · have h := iteF c17 h
      refine g_iconst C dX12_isCentury_20 ic_1 ?_
      refine g_goto (tgt := 25) C dX12_isCentury_21 (by decide) ?_
      subst h
      exact g_zret C rfl rfl rfl rfl dX12_isCentury_25
def fM_century_b29 (x1 : Int32) (x2 : Int32) (x3 : Int32) (x4 : Int32) (s1 : Int32) (g : St) : Option (Int32 × St) :=
  (fM_bad s1 (1 : Int32) (1 : Int32) g).bind fun ⟨r31, g31⟩ => (if r31 = 0 then
    ((fM_centuryBy x1 x2 x3 g31).bind fun g43 => (if x4 = 0 then
    (some ((g43 17 24), g43))
  else
    (if x4 = (1 : Int32) then
    ((fM_nameless 17 g43).bind fun r72 => (some (r72, g43)))
  else
    (if x4 = (2 : Int32) then
    ((fM_debts 17 (0 : Int32) g43).bind fun r90 => (some (r90, g43)))
  else
    ((fM_longest 17 g43).bind fun r101 => (some (r101, g43)))))))
  else
    (some ((0 : Int32), g31)))
def fM_century_b24 (x1 : Int32) (x2 : Int32) (x3 : Int32) (x4 : Int32) (g : St) : Option (Int32 × St) :=
  fM_century_b29 x1 x2 x3 x4 (1 : Int32) g
def fM_century (x1 : Int32) (x2 : Int32) (x3 : Int32) (x4 : Int32) (g : St) : Option (Int32 × St) :=
  if (fM_isCentury x2 x3) = 0 then
    (fM_century_b24 x1 x2 x3 x4 (st g 0 0 (0 : Int32)))
  else
    (if (fM_in x4 (0 : Int32) (3 : Int32)) = 0 then
    (fM_century_b24 x1 x2 x3 x4 (st g 0 0 (0 : Int32)))
  else
    (fM_century_b29 x1 x2 x3 x4 (0 : Int32) (st g 0 0 (0 : Int32))))
def rmM_century : Room := { frames := 9, cells := 0, slots := 0, locals := 212 }
abbrev GcM_century (l : Launch) (D : va_G) (T : cT) (ad : Nat → Nat) (Γ : Cxt) (o : Int32 × St) (xo : Sl) (x : Sl) (g : St) (pc : Nat) (lv : List (Nat × Value)) (stk : List Value) : Prop := Gj l shM D T ad 5 (rmM_century) 0 0 Γ (MQ Γ.below (va_Qi (eqI o.1 o.2 xo) (wPost shM D T ad Γ.A) Γ.A) Γ.args Γ.s 0 0 Γ.A) x g pc lv stk
set_option maxRecDepth 100000 in
set_option maxHeartbeats 4000000 in
theorem cM_century (l : Launch) (D : va_G) (T : cT) (ad : Nat → Nat) (xo : Sl) (g : St) (x1 : Int32) (x2 : Int32) (x3 : Int32) (x4 : Int32) (o : Int32 × St) (h : fM_century x1 x2 x3 x4 g = some o) (sz : Nat) : Met l yX12_century wM_century (rmM_century) (va_Pc [.ref (ad 0), .int x1, .int x2, .int x3, .int x4] (wPre shM D T ad xo g sz)) (va_Qi (eqI o.1 o.2 xo) (wPost shM D T ad (aW shM T ad xo g sz)) (aW shM T ad xo g sz)) 0 0 (aW shM T ad xo g sz) := by
  refine g_start (Qc := fun A => va_Qi (eqI o.1 o.2 xo) (wPost shM D T ad A) A) (by decide +kernel) rfl rfl (Nat.le_of_ble_eq_true rfl) (lv := [(0, .ref (ad 0)), (1, .int x1), (2, .int x2), (3, .int x3), (4, .int x4)]) rfl (fun Γ C => ?_)
  show GcM_century l D T ad Γ o xo xo g 0 [(0, .ref (ad 0)), (1, .int x1), (2, .int x2), (3, .int x3), (4, .int x4)] []
  have J29 : ∀ (x1 : Int32) (x2 : Int32) (x3 : Int32) (x4 : Int32) (s1 : Int32) (g : St), fM_century_b29 x1 x2 x3 x4 s1 g = some o → GcM_century l D T ad Γ o xo xo g 29 [(0, .ref (ad 0)), (1, .int x1), (2, .int x2), (3, .int x3), (4, .int x4)] [.int s1, .ref (ad 0)] := by
    intro x1 x2 x3 x4 s1 g h
    refine g_iconst C dX12_century_29 ic_1 ?_
    refine g_iconst C dX12_century_30 ic_1 ?_
    obtain ⟨⟨r31, g31⟩, hr31, h⟩ := bnd h
    refine g_cVz (k := 0) (As := [.int s1, .int (1 : Int32), .int (1 : Int32)]) (rest := []) (ro := r31) (go := g31) (xo := xo) C (fun sz => cM_bad l D T ad xo g s1 (1 : Int32) (1 : Int32) _ hr31 sz) kM_bad ⟨Nat.le_of_ble_eq_true rfl, Nat.le_of_ble_eq_true rfl⟩ ⟨rfl, rfl⟩ ⟨Nat.zero_le _, Nat.zero_le _⟩ (rfl : vwCl[11]? = some (RX12, TX12, 48)) kM0 rfl rfl (Nat.le_of_ble_eq_true rfl) dX12_century_31 (fun hz31 => ?_)
    refine g_if_eq C 39 dX12_century_34 (by decide) (fun c34 => ?_) (fun c34 => ?_)
    · have h := iteT c34 h
      refine g_aload_n C dX12_century_39 rfl 0 rfl ?_
      refine g_iload_n C dX12_century_40 rfl 1 rfl ?_
      refine g_iload_n C dX12_century_41 rfl 2 rfl ?_
      refine g_iload_n C dX12_century_42 rfl 3 rfl ?_
      obtain ⟨g43, hr43, h⟩ := bnd h
      refine g_cVv (k := 0) (As := [.int x1, .int x2, .int x3]) (rest := []) (go := g43) (xo := xo) C (fun sz => cM_centuryBy l D T ad xo g31 x1 x2 x3 _ hr43 sz) kM_centuryBy ⟨Nat.le_of_ble_eq_true rfl, Nat.le_of_ble_eq_true rfl⟩ ⟨rfl, rfl⟩ ⟨Nat.zero_le _, Nat.zero_le _⟩ (rfl : vwCl[11]? = some (RX12, TX12, 48)) kM0 rfl rfl (Nat.le_of_ble_eq_true rfl) dX12_century_43 ?_
      refine g_iload C dX12_century_46 4 rfl ?_
      refine g_if_ne C 61 dX12_century_48 (by decide) (fun c48 => ?_) (fun c48 => ?_)
      · have h := iteT c48 h
        refine g_aload_n C dX12_century_51 rfl 0 rfl ?_
        refine gM_get_trial C dX12_century_52 ?_
        refine g_bipush C dX12_century_55 bp_24 ?_
        refine g_iald (n := 26) (v := g43 17 24) C ln_17 (by decide) rfl dX12_century_57 ?_
        refine g_goto (tgt := 104) C dX12_century_58 (by decide) ?_
        obtain rfl := Option.some.inj h
        exact g_iret C rfl rfl rfl dX12_century_104
      · have h := iteF c48 h
        refine g_iload C dX12_century_61 4 rfl ?_
        refine g_iconst C dX12_century_63 ic_1 ?_
        refine g_icmp_ne C 78 dX12_century_64 (by decide) (fun c64 => ?_) (fun c64 => ?_)
        · have h := iteT c64 h
          refine g_aload_n C dX12_century_67 rfl 0 rfl ?_
          refine g_aload_n C dX12_century_68 rfl 0 rfl ?_
          refine gM_get_trial C dX12_century_69 ?_
          obtain ⟨r72, hr72, h⟩ := bnd h
          refine g_cVi (k := 0) (As := [.ref (ad 17)]) (rest := []) (ro := r72) (go := g43) (xo := xo) C (fun sz => cM_nameless l D T ad xo g43 17 _ hr72 sz) kM_nameless ⟨Nat.le_of_ble_eq_true rfl, Nat.le_of_ble_eq_true rfl⟩ ⟨rfl, rfl⟩ ⟨Nat.zero_le _, Nat.zero_le _⟩ (rfl : vwCl[11]? = some (RX12, TX12, 48)) kM0 rfl rfl (Nat.le_of_ble_eq_true rfl) dX12_century_72 ?_
          refine g_goto (tgt := 104) C dX12_century_75 (by decide) ?_
          obtain rfl := Option.some.inj h
          exact g_iret C rfl rfl rfl dX12_century_104
        · have h := iteF c64 h
          refine g_iload C dX12_century_78 4 rfl ?_
          refine g_iconst C dX12_century_80 ic_2 ?_
          refine g_icmp_ne C 96 dX12_century_81 (by decide) (fun c81 => ?_) (fun c81 => ?_)
          · have h := iteT c81 h
            refine g_aload_n C dX12_century_84 rfl 0 rfl ?_
            refine g_aload_n C dX12_century_85 rfl 0 rfl ?_
            refine gM_get_trial C dX12_century_86 ?_
            refine g_iconst C dX12_century_89 ic_0 ?_
            obtain ⟨r90, hr90, h⟩ := bnd h
            refine g_cVi (k := 0) (As := [.ref (ad 17), .int (0 : Int32)]) (rest := []) (ro := r90) (go := g43) (xo := xo) C (fun sz => cM_debts l D T ad xo g43 17 (0 : Int32) _ hr90 sz) kM_debts ⟨Nat.le_of_ble_eq_true rfl, Nat.le_of_ble_eq_true rfl⟩ ⟨rfl, rfl⟩ ⟨Nat.zero_le _, Nat.zero_le _⟩ (rfl : vwCl[11]? = some (RX12, TX12, 48)) kM0 rfl rfl (Nat.le_of_ble_eq_true rfl) dX12_century_90 ?_
            refine g_goto (tgt := 104) C dX12_century_93 (by decide) ?_
            obtain rfl := Option.some.inj h
            exact g_iret C rfl rfl rfl dX12_century_104
          · have h := iteF c81 h
            refine g_aload_n C dX12_century_96 rfl 0 rfl ?_
            refine g_aload_n C dX12_century_97 rfl 0 rfl ?_
            refine gM_get_trial C dX12_century_98 ?_
            obtain ⟨r101, hr101, h⟩ := bnd h
            refine g_cVi (k := 0) (As := [.ref (ad 17)]) (rest := []) (ro := r101) (go := g43) (xo := xo) C (fun sz => cM_longest l D T ad xo g43 17 _ hr101 sz) kM_longest ⟨Nat.le_of_ble_eq_true rfl, Nat.le_of_ble_eq_true rfl⟩ ⟨rfl, rfl⟩ ⟨Nat.zero_le _, Nat.zero_le _⟩ (rfl : vwCl[11]? = some (RX12, TX12, 48)) kM0 rfl rfl (Nat.le_of_ble_eq_true rfl) dX12_century_101 ?_
            obtain rfl := Option.some.inj h
            exact g_iret C rfl rfl rfl dX12_century_104
    · have h := iteF c34 h
      refine g_iconst C dX12_century_37 ic_0 ?_
      obtain rfl := Option.some.inj h
      exact g_iret C rfl rfl rfl dX12_century_38
  have J24 : ∀ (x1 : Int32) (x2 : Int32) (x3 : Int32) (x4 : Int32) (g : St), fM_century_b24 x1 x2 x3 x4 g = some o → GcM_century l D T ad Γ o xo xo g 24 [(0, .ref (ad 0)), (1, .int x1), (2, .int x2), (3, .int x3), (4, .int x4)] [.ref (ad 0)] := by
    intro x1 x2 x3 x4 g h
    refine g_iconst C dX12_century_24 ic_1 ?_
    refine g_goto (tgt := 29) C dX12_century_25 (by decide) ?_
    exact J29 x1 x2 x3 x4 (1 : Int32) g h
  refine g_aload_n C dX12_century_0 rfl 0 rfl ?_
  refine g_iconst C dX12_century_1 ic_0 ?_
  refine gM_put_thrown C dX12_century_2 ?_
  refine g_aload_n C dX12_century_5 rfl 0 rfl ?_
  refine g_iload_n C dX12_century_6 rfl 2 rfl ?_
  refine g_iload_n C dX12_century_7 rfl 3 rfl ?_
  refine g_cSz (As := [.int x2, .int x3]) (rest := [.ref (ad 0)]) (ro := (fM_isCentury x2 x3)) (go := (st g 0 0 (0 : Int32))) (xo := xo) C (fun sz => cM_isCentury l D T ad xo (st g 0 0 (0 : Int32)) x2 x3 _ rfl sz) kM_isCentury ⟨Nat.le_of_ble_eq_true rfl, Nat.le_of_ble_eq_true rfl⟩ ⟨rfl, rfl⟩ ⟨Nat.zero_le _, Nat.zero_le _⟩ rfl rfl (Nat.le_of_ble_eq_true rfl) dX12_century_8 (fun hz8 => ?_)
  refine g_if_eq C 24 dX12_century_11 (by decide) (fun c11 => ?_) (fun c11 => ?_)
  · have h := iteT c11 h
    exact J24 x1 x2 x3 x4 (st g 0 0 (0 : Int32)) h
  · have h := iteF c11 h
    refine g_iload C dX12_century_14 4 rfl ?_
    refine g_iconst C dX12_century_16 ic_0 ?_
    refine g_iconst C dX12_century_17 ic_3 ?_
    refine g_cSz (As := [.int x4, .int (0 : Int32), .int (3 : Int32)]) (rest := [.ref (ad 0)]) (ro := (fM_in x4 (0 : Int32) (3 : Int32))) (go := (st g 0 0 (0 : Int32))) (xo := xo) C (fun sz => cM_in l D T ad xo (st g 0 0 (0 : Int32)) x4 (0 : Int32) (3 : Int32) _ rfl sz) kM_in ⟨Nat.le_of_ble_eq_true rfl, Nat.le_of_ble_eq_true rfl⟩ ⟨rfl, rfl⟩ ⟨Nat.zero_le _, Nat.zero_le _⟩ rfl rfl (Nat.le_of_ble_eq_true rfl) dX12_century_18 (fun hz18 => ?_)
    refine g_if_ne C 28 dX12_century_21 (by decide) (fun c21 => ?_) (fun c21 => ?_)
    · have h := iteT c21 h
      exact J24 x1 x2 x3 x4 (st g 0 0 (0 : Int32)) h
    · have h := iteF c21 h
      refine g_iconst C dX12_century_28 ic_0 ?_
      exact J29 x1 x2 x3 x4 (0 : Int32) (st g 0 0 (0 : Int32)) h
def fM_span_b119 (x1 : Int32) (x2 : Int32) (x3 : Int32) (x4 : Int32) (x5 : Int32) (x6 : Int32) (x8 : Int32) (x9 : Int32) (x10 : Int32) (x11 : Int32) (s0 : Int32) (g : St) : Option ((Int32 × Int32 × Int32 × Int32 × St) ⊕ ((Int32 × Int32 × Int32 × St))) :=
  some (.inl (s0, (fM_more x8 x11), (x9 + (((g 17 24) >>> (x6 &&& 31)) &&& (1 : Int32))), (x10 + (1 : Int32)), g))
def fM_span_L71 (x1 : Int32) (x2 : Int32) (x3 : Int32) (x4 : Int32) (x5 : Int32) (x6 : Int32) : (Int32 × Int32 × Int32 × Int32 × St) → Option ((Int32 × Int32 × Int32 × Int32 × St) ⊕ ((Int32 × Int32 × Int32 × St))) := fun ⟨x7, x8, x9, x10, g⟩ =>
  if x2 ≤ x10 then
    (some (.inr (x7, x8, x9, g)))
  else
    ((fM_centuryBy (x1 + x10) x3 x4 g).bind fun g85 => ((fM_nameless 17 g85).bind fun r93 => ((fM_ones r93).bind fun r96 => (if x7 = (-1 : Int32) then
    (fM_span_b119 x1 x2 x3 x4 x5 x6 x8 x9 x10 r96 r96 g85)
  else
    (fM_span_b119 x1 x2 x3 x4 x5 x6 x8 x9 x10 r96 (fM_less x7 r96) g85)))))
def fM_span_b71 (x1 : Int32) (x2 : Int32) (x3 : Int32) (x4 : Int32) (x5 : Int32) (x6 : Int32) (x7 : Int32) (x8 : Int32) (x9 : Int32) (x10 : Int32) (g : St) : Option (Int32 × St) :=
  (lp (fM_span_L71 x1 x2 x3 x4 x5 x6) fuel (x7, x8, x9, x10, g)).bind (fun ⟨x7, x8, x9, g⟩ => if x5 = 0 then
    (some (x7, g))
  else
    (if x5 = (1 : Int32) then
    (some (x8, g))
  else
    (some (x9, g))))
def fM_span_b49 (x1 : Int32) (x2 : Int32) (x3 : Int32) (x4 : Int32) (x5 : Int32) (x6 : Int32) (s1 : Int32) (g : St) : Option (Int32 × St) :=
  (fM_bad s1 (1 : Int32) (1 : Int32) g).bind fun ⟨r51, g51⟩ => (if r51 = 0 then
    (fM_span_b71 x1 x2 x3 x4 x5 x6 (-1 : Int32) (0 : Int32) (0 : Int32) (0 : Int32) g51)
  else
    (some ((0 : Int32), g51)))
def fM_span_b44 (x1 : Int32) (x2 : Int32) (x3 : Int32) (x4 : Int32) (x5 : Int32) (x6 : Int32) (g : St) : Option (Int32 × St) :=
  fM_span_b49 x1 x2 x3 x4 x5 x6 (1 : Int32) g
def fM_span (x1 : Int32) (x2 : Int32) (x3 : Int32) (x4 : Int32) (x5 : Int32) (x6 : Int32) (g : St) : Option (Int32 × St) :=
  if (fM_in x2 (1 : Int32) (20 : Int32)) = 0 then
    (fM_span_b44 x1 x2 x3 x4 x5 x6 (st g 0 0 (0 : Int32)))
  else
    (if (fM_isCentury x3 x4) = 0 then
    (fM_span_b44 x1 x2 x3 x4 x5 x6 (st g 0 0 (0 : Int32)))
  else
    (if (fM_in x5 (0 : Int32) (2 : Int32)) = 0 then
    (fM_span_b44 x1 x2 x3 x4 x5 x6 (st g 0 0 (0 : Int32)))
  else
    (if (fM_isPerson x6 (st g 0 0 (0 : Int32))) = 0 then
    (fM_span_b44 x1 x2 x3 x4 x5 x6 (st g 0 0 (0 : Int32)))
  else
    (fM_span_b49 x1 x2 x3 x4 x5 x6 (0 : Int32) (st g 0 0 (0 : Int32))))))
def rmM_span : Room := { frames := 9, cells := 0, slots := 0, locals := 212 }
abbrev GcM_span (l : Launch) (D : va_G) (T : cT) (ad : Nat → Nat) (Γ : Cxt) (o : Int32 × St) (xo : Sl) (x : Sl) (g : St) (pc : Nat) (lv : List (Nat × Value)) (stk : List Value) : Prop := Gj l shM D T ad 12 (rmM_span) 0 0 Γ (MQ Γ.below (va_Qi (eqI o.1 o.2 xo) (wPost shM D T ad Γ.A) Γ.A) Γ.args Γ.s 0 0 Γ.A) x g pc lv stk
set_option maxRecDepth 100000 in
set_option maxHeartbeats 4000000 in
theorem cM_span (l : Launch) (D : va_G) (T : cT) (ad : Nat → Nat) (xo : Sl) (g : St) (x1 : Int32) (x2 : Int32) (x3 : Int32) (x4 : Int32) (x5 : Int32) (x6 : Int32) (o : Int32 × St) (h : fM_span x1 x2 x3 x4 x5 x6 g = some o) (sz : Nat) : Met l yX12_span wM_span (rmM_span) (va_Pc [.ref (ad 0), .int x1, .int x2, .int x3, .int x4, .int x5, .int x6] (wPre shM D T ad xo g sz)) (va_Qi (eqI o.1 o.2 xo) (wPost shM D T ad (aW shM T ad xo g sz)) (aW shM T ad xo g sz)) 0 0 (aW shM T ad xo g sz) := by
  refine g_start (Qc := fun A => va_Qi (eqI o.1 o.2 xo) (wPost shM D T ad A) A) (by decide +kernel) rfl rfl (Nat.le_of_ble_eq_true rfl) (lv := [(0, .ref (ad 0)), (1, .int x1), (2, .int x2), (3, .int x3), (4, .int x4), (5, .int x5), (6, .int x6)]) rfl (fun Γ C => ?_)
  show GcM_span l D T ad Γ o xo xo g 0 [(0, .ref (ad 0)), (1, .int x1), (2, .int x2), (3, .int x3), (4, .int x4), (5, .int x5), (6, .int x6)] []
  have J71 : ∀ (x1 : Int32) (x2 : Int32) (x3 : Int32) (x4 : Int32) (x5 : Int32) (x6 : Int32) (x7 : Int32) (x8 : Int32) (x9 : Int32) (x10 : Int32) (g : St), fM_span_b71 x1 x2 x3 x4 x5 x6 x7 x8 x9 x10 g = some o → GcM_span l D T ad Γ o xo xo g 71 [(0, .ref (ad 0)), (1, .int x1), (2, .int x2), (3, .int x3), (4, .int x4), (5, .int x5), (6, .int x6), (7, .int x7), (8, .int x8), (9, .int x9), (10, .int x10)] [] := by
    intro x1 x2 x3 x4 x5 x6 x7 x8 x9 x10 g h
    obtain ⟨⟨x7, x8, x9, g⟩, ht, h⟩ := bnd h
    refine lp_run (P := fun t : Int32 × Int32 × Int32 × Int32 × St => match t with | (x7, x8, x9, x10, g) => GcM_span l D T ad Γ o xo xo g 71 [(0, .ref (ad 0)), (1, .int x1), (2, .int x2), (3, .int x3), (4, .int x4), (5, .int x5), (6, .int x6), (7, .int x7), (8, .int x8), (9, .int x9), (10, .int x10)] []) (E := fun t : Int32 × Int32 × Int32 × St => match t with | (x7, x8, x9, g) => GcM_span l D T ad Γ o xo xo g 153 [(5, .int x5), (7, .int x7), (8, .int x8), (9, .int x9)] []) ?_ _ _ _ ht ?_
    · rintro ⟨x7, x8, x9, x10, g⟩ z h Kt Ke
      show GcM_span l D T ad Γ o xo xo g 71 [(0, .ref (ad 0)), (1, .int x1), (2, .int x2), (3, .int x3), (4, .int x4), (5, .int x5), (6, .int x6), (7, .int x7), (8, .int x8), (9, .int x9), (10, .int x10)] []
      have J119 : ∀ (x8 : Int32) (x9 : Int32) (x10 : Int32) (x11 : Int32) (s0 : Int32) (g : St), fM_span_b119 x1 x2 x3 x4 x5 x6 x8 x9 x10 x11 s0 g = some z → GcM_span l D T ad Γ o xo xo g 119 [(0, .ref (ad 0)), (1, .int x1), (2, .int x2), (3, .int x3), (4, .int x4), (5, .int x5), (6, .int x6), (8, .int x8), (9, .int x9), (10, .int x10), (11, .int x11)] [.int s0] := by
        intro x8 x9 x10 x11 s0 g h
        refine g_istore (lv' := [(7, .int s0), (0, .ref (ad 0)), (1, .int x1), (2, .int x2), (3, .int x3), (4, .int x4), (5, .int x5), (6, .int x6), (8, .int x8), (9, .int x9), (10, .int x10), (11, .int x11)]) C dX12_span_119 (Nat.le_of_ble_eq_true rfl) rfl ?_
        refine g_iload C dX12_span_121 8 rfl ?_
        refine g_iload C dX12_span_123 11 rfl ?_
        refine g_cSi (As := [.int x8, .int x11]) (rest := []) (ro := (fM_more x8 x11)) (go := g) (xo := xo) C (fun sz => cM_more l D T ad xo g x8 x11 _ rfl sz) kM_more ⟨Nat.le_of_ble_eq_true rfl, Nat.le_of_ble_eq_true rfl⟩ ⟨rfl, rfl⟩ ⟨Nat.zero_le _, Nat.zero_le _⟩ rfl rfl (Nat.le_of_ble_eq_true rfl) dX12_span_125 ?_
        refine g_istore (lv' := [(8, .int (fM_more x8 x11)), (7, .int s0), (0, .ref (ad 0)), (1, .int x1), (2, .int x2), (3, .int x3), (4, .int x4), (5, .int x5), (6, .int x6), (9, .int x9), (10, .int x10), (11, .int x11)]) C dX12_span_128 (Nat.le_of_ble_eq_true rfl) rfl ?_
        refine g_iload C dX12_span_130 9 rfl ?_
        refine g_aload_n C dX12_span_132 rfl 2 rfl ?_
        refine gM_get_trial C dX12_span_133 ?_
        refine g_bipush C dX12_span_136 bp_24 ?_
        refine g_iald (n := 26) (v := g 17 24) C ln_17 (by decide) rfl dX12_span_138 ?_
        refine g_iload C dX12_span_139 8 rfl ?_
        refine g_ishr C dX12_span_141 ?_
        refine g_iconst C dX12_span_142 ic_1 ?_
        refine g_iand C dX12_span_143 ?_
        refine g_iadd C dX12_span_144 ?_
        refine g_istore (lv' := [(9, .int (x9 + (((g 17 24) >>> (x6 &&& 31)) &&& (1 : Int32)))), (8, .int (fM_more x8 x11)), (7, .int s0), (0, .ref (ad 0)), (1, .int x1), (2, .int x2), (3, .int x3), (4, .int x4), (5, .int x5), (6, .int x6), (10, .int x10), (11, .int x11)]) C dX12_span_145 (Nat.le_of_ble_eq_true rfl) rfl ?_
        refine g_iinc (lv' := [(10, .int (x10 + (1 : Int32))), (9, .int (x9 + (((g 17 24) >>> (x6 &&& 31)) &&& (1 : Int32)))), (8, .int (fM_more x8 x11)), (7, .int s0), (0, .ref (ad 0)), (1, .int x1), (2, .int x2), (3, .int x3), (4, .int x4), (5, .int x5), (6, .int x6), (11, .int x11)]) C dX12_span_147 10 rfl (ii_1 _) (Nat.le_of_ble_eq_true rfl) rfl ?_
        refine g_goto (tgt := 71) C dX12_span_150 (by decide) ?_
        exact g_sub [4, 5, 6, 7, 8, 9, 10, 3, 2, 1, 0] rfl (Kt _ (Option.some.inj h).symm)
      refine g_iload C dX12_span_71 10 rfl ?_
      refine g_iload_n C dX12_span_73 rfl 2 rfl ?_
      refine g_icmp_ge C 153 dX12_span_74 (by decide) (fun c74 => ?_) (fun c74 => ?_)
      · have h := iteT c74 h
        exact g_sub [5, 7, 8, 9] rfl (Ke _ (Option.some.inj h).symm)
      · have h := iteF c74 h
        refine g_aload_n C dX12_span_77 rfl 0 rfl ?_
        refine g_iload_n C dX12_span_78 rfl 1 rfl ?_
        refine g_iload C dX12_span_79 10 rfl ?_
        refine g_iadd C dX12_span_81 ?_
        refine g_iload_n C dX12_span_82 rfl 3 rfl ?_
        refine g_iload C dX12_span_83 4 rfl ?_
        obtain ⟨g85, hr85, h⟩ := bnd h
        refine g_cVv (k := 0) (As := [.int (x1 + x10), .int x3, .int x4]) (rest := []) (go := g85) (xo := xo) C (fun sz => cM_centuryBy l D T ad xo g (x1 + x10) x3 x4 _ hr85 sz) kM_centuryBy ⟨Nat.le_of_ble_eq_true rfl, Nat.le_of_ble_eq_true rfl⟩ ⟨rfl, rfl⟩ ⟨Nat.zero_le _, Nat.zero_le _⟩ (rfl : vwCl[11]? = some (RX12, TX12, 48)) kM0 rfl rfl (Nat.le_of_ble_eq_true rfl) dX12_span_85 ?_
        refine g_aload_n C dX12_span_88 rfl 0 rfl ?_
        refine g_aload_n C dX12_span_89 rfl 0 rfl ?_
        refine gM_get_trial C dX12_span_90 ?_
        obtain ⟨r93, hr93, h⟩ := bnd h
        refine g_cVi (k := 0) (As := [.ref (ad 17)]) (rest := []) (ro := r93) (go := g85) (xo := xo) C (fun sz => cM_nameless l D T ad xo g85 17 _ hr93 sz) kM_nameless ⟨Nat.le_of_ble_eq_true rfl, Nat.le_of_ble_eq_true rfl⟩ ⟨rfl, rfl⟩ ⟨Nat.zero_le _, Nat.zero_le _⟩ (rfl : vwCl[11]? = some (RX12, TX12, 48)) kM0 rfl rfl (Nat.le_of_ble_eq_true rfl) dX12_span_93 ?_
        obtain ⟨r96, hr96, h⟩ := bnd h
        refine g_cSi (As := [.int r93]) (rest := []) (ro := r96) (go := g85) (xo := xo) C (fun sz => cM_ones l D T ad xo g85 r93 _ hr96 sz) kM_ones ⟨Nat.le_of_ble_eq_true rfl, Nat.le_of_ble_eq_true rfl⟩ ⟨rfl, rfl⟩ ⟨Nat.zero_le _, Nat.zero_le _⟩ rfl rfl (Nat.le_of_ble_eq_true rfl) dX12_span_96 ?_
        refine g_istore (lv' := [(11, .int r96), (0, .ref (ad 0)), (1, .int x1), (2, .int x2), (3, .int x3), (4, .int x4), (5, .int x5), (6, .int x6), (7, .int x7), (8, .int x8), (9, .int x9), (10, .int x10)]) C dX12_span_99 (Nat.le_of_ble_eq_true rfl) rfl ?_
        refine g_iload C dX12_span_101 8 rfl ?_
        refine g_iconst C dX12_span_103 ic_m1 ?_
        refine g_icmp_ne C 112 dX12_span_104 (by decide) (fun c104 => ?_) (fun c104 => ?_)
        · have h := iteT c104 h
          refine g_iload C dX12_span_107 0 rfl ?_
          refine g_goto (tgt := 119) C dX12_span_109 (by decide) ?_
          exact g_sub [1, 2, 3, 4, 5, 6, 7, 9, 10, 11, 0] rfl (J119 x8 x9 x10 r96 r96 g85 h)
        · have h := iteF c104 h
          refine g_iload C dX12_span_112 8 rfl ?_
          refine g_iload C dX12_span_114 0 rfl ?_
          refine g_cSi (As := [.int x7, .int r96]) (rest := []) (ro := (fM_less x7 r96)) (go := g85) (xo := xo) C (fun sz => cM_less l D T ad xo g85 x7 r96 _ rfl sz) kM_less ⟨Nat.le_of_ble_eq_true rfl, Nat.le_of_ble_eq_true rfl⟩ ⟨rfl, rfl⟩ ⟨Nat.zero_le _, Nat.zero_le _⟩ rfl rfl (Nat.le_of_ble_eq_true rfl) dX12_span_116 ?_
          exact g_sub [1, 2, 3, 4, 5, 6, 7, 9, 10, 11, 0] rfl (J119 x8 x9 x10 r96 (fM_less x7 r96) g85 h)
    · show GcM_span l D T ad Γ o xo xo g 153 [(5, .int x5), (7, .int x7), (8, .int x8), (9, .int x9)] []
      refine g_iload C dX12_span_153 0 rfl ?_
      refine g_if_ne C 163 dX12_span_155 (by decide) (fun c155 => ?_) (fun c155 => ?_)
      · have h := iteT c155 h
        refine g_iload C dX12_span_158 1 rfl ?_
        refine g_goto (tgt := 176) C dX12_span_160 (by decide) ?_
        obtain rfl := Option.some.inj h
        exact g_iret C rfl rfl rfl dX12_span_176
      · have h := iteF c155 h
        refine g_iload C dX12_span_163 0 rfl ?_
        refine g_iconst C dX12_span_165 ic_1 ?_
        refine g_icmp_ne C 174 dX12_span_166 (by decide) (fun c166 => ?_) (fun c166 => ?_)
        · have h := iteT c166 h
          refine g_iload C dX12_span_169 2 rfl ?_
          refine g_goto (tgt := 176) C dX12_span_171 (by decide) ?_
          obtain rfl := Option.some.inj h
          exact g_iret C rfl rfl rfl dX12_span_176
        · have h := iteF c166 h
          refine g_iload C dX12_span_174 3 rfl ?_
          obtain rfl := Option.some.inj h
          exact g_iret C rfl rfl rfl dX12_span_176
  have J49 : ∀ (x1 : Int32) (x2 : Int32) (x3 : Int32) (x4 : Int32) (x5 : Int32) (x6 : Int32) (s1 : Int32) (g : St), fM_span_b49 x1 x2 x3 x4 x5 x6 s1 g = some o → GcM_span l D T ad Γ o xo xo g 49 [(0, .ref (ad 0)), (1, .int x1), (2, .int x2), (3, .int x3), (4, .int x4), (5, .int x5), (6, .int x6)] [.int s1, .ref (ad 0)] := by
    intro x1 x2 x3 x4 x5 x6 s1 g h
    refine g_iconst C dX12_span_49 ic_1 ?_
    refine g_iconst C dX12_span_50 ic_1 ?_
    obtain ⟨⟨r51, g51⟩, hr51, h⟩ := bnd h
    refine g_cVz (k := 0) (As := [.int s1, .int (1 : Int32), .int (1 : Int32)]) (rest := []) (ro := r51) (go := g51) (xo := xo) C (fun sz => cM_bad l D T ad xo g s1 (1 : Int32) (1 : Int32) _ hr51 sz) kM_bad ⟨Nat.le_of_ble_eq_true rfl, Nat.le_of_ble_eq_true rfl⟩ ⟨rfl, rfl⟩ ⟨Nat.zero_le _, Nat.zero_le _⟩ (rfl : vwCl[11]? = some (RX12, TX12, 48)) kM0 rfl rfl (Nat.le_of_ble_eq_true rfl) dX12_span_51 (fun hz51 => ?_)
    refine g_if_eq C 59 dX12_span_54 (by decide) (fun c54 => ?_) (fun c54 => ?_)
    · have h := iteT c54 h
      refine g_iconst C dX12_span_59 ic_m1 ?_
      refine g_istore (lv' := [(7, .int (-1 : Int32)), (0, .ref (ad 0)), (1, .int x1), (2, .int x2), (3, .int x3), (4, .int x4), (5, .int x5), (6, .int x6)]) C dX12_span_60 (Nat.le_of_ble_eq_true rfl) rfl ?_
      refine g_iconst C dX12_span_62 ic_0 ?_
      refine g_istore (lv' := [(8, .int (0 : Int32)), (7, .int (-1 : Int32)), (0, .ref (ad 0)), (1, .int x1), (2, .int x2), (3, .int x3), (4, .int x4), (5, .int x5), (6, .int x6)]) C dX12_span_63 (Nat.le_of_ble_eq_true rfl) rfl ?_
      refine g_iconst C dX12_span_65 ic_0 ?_
      refine g_istore (lv' := [(9, .int (0 : Int32)), (8, .int (0 : Int32)), (7, .int (-1 : Int32)), (0, .ref (ad 0)), (1, .int x1), (2, .int x2), (3, .int x3), (4, .int x4), (5, .int x5), (6, .int x6)]) C dX12_span_66 (Nat.le_of_ble_eq_true rfl) rfl ?_
      refine g_iconst C dX12_span_68 ic_0 ?_
      refine g_istore (lv' := [(10, .int (0 : Int32)), (9, .int (0 : Int32)), (8, .int (0 : Int32)), (7, .int (-1 : Int32)), (0, .ref (ad 0)), (1, .int x1), (2, .int x2), (3, .int x3), (4, .int x4), (5, .int x5), (6, .int x6)]) C dX12_span_69 (Nat.le_of_ble_eq_true rfl) rfl ?_
      exact g_sub [4, 5, 6, 7, 8, 9, 10, 3, 2, 1, 0] rfl (J71 x1 x2 x3 x4 x5 x6 (-1 : Int32) (0 : Int32) (0 : Int32) (0 : Int32) g51 h)
    · have h := iteF c54 h
      refine g_iconst C dX12_span_57 ic_0 ?_
      obtain rfl := Option.some.inj h
      exact g_iret C rfl rfl rfl dX12_span_58
  have J44 : ∀ (x1 : Int32) (x2 : Int32) (x3 : Int32) (x4 : Int32) (x5 : Int32) (x6 : Int32) (g : St), fM_span_b44 x1 x2 x3 x4 x5 x6 g = some o → GcM_span l D T ad Γ o xo xo g 44 [(0, .ref (ad 0)), (1, .int x1), (2, .int x2), (3, .int x3), (4, .int x4), (5, .int x5), (6, .int x6)] [.ref (ad 0)] := by
    intro x1 x2 x3 x4 x5 x6 g h
    refine g_iconst C dX12_span_44 ic_1 ?_
    refine g_goto (tgt := 49) C dX12_span_45 (by decide) ?_
    exact J49 x1 x2 x3 x4 x5 x6 (1 : Int32) g h
  refine g_aload_n C dX12_span_0 rfl 0 rfl ?_
  refine g_iconst C dX12_span_1 ic_0 ?_
  refine gM_put_thrown C dX12_span_2 ?_
  refine g_aload_n C dX12_span_5 rfl 0 rfl ?_
  refine g_iload_n C dX12_span_6 rfl 2 rfl ?_
  refine g_iconst C dX12_span_7 ic_1 ?_
  refine g_bipush C dX12_span_8 bp_20 ?_
  refine g_cSz (As := [.int x2, .int (1 : Int32), .int (20 : Int32)]) (rest := [.ref (ad 0)]) (ro := (fM_in x2 (1 : Int32) (20 : Int32))) (go := (st g 0 0 (0 : Int32))) (xo := xo) C (fun sz => cM_in l D T ad xo (st g 0 0 (0 : Int32)) x2 (1 : Int32) (20 : Int32) _ rfl sz) kM_in ⟨Nat.le_of_ble_eq_true rfl, Nat.le_of_ble_eq_true rfl⟩ ⟨rfl, rfl⟩ ⟨Nat.zero_le _, Nat.zero_le _⟩ rfl rfl (Nat.le_of_ble_eq_true rfl) dX12_span_10 (fun hz10 => ?_)
  refine g_if_eq C 44 dX12_span_13 (by decide) (fun c13 => ?_) (fun c13 => ?_)
  · have h := iteT c13 h
    exact J44 x1 x2 x3 x4 x5 x6 (st g 0 0 (0 : Int32)) h
  · have h := iteF c13 h
    refine g_iload_n C dX12_span_16 rfl 3 rfl ?_
    refine g_iload C dX12_span_17 4 rfl ?_
    refine g_cSz (As := [.int x3, .int x4]) (rest := [.ref (ad 0)]) (ro := (fM_isCentury x3 x4)) (go := (st g 0 0 (0 : Int32))) (xo := xo) C (fun sz => cM_isCentury l D T ad xo (st g 0 0 (0 : Int32)) x3 x4 _ rfl sz) kM_isCentury ⟨Nat.le_of_ble_eq_true rfl, Nat.le_of_ble_eq_true rfl⟩ ⟨rfl, rfl⟩ ⟨Nat.zero_le _, Nat.zero_le _⟩ rfl rfl (Nat.le_of_ble_eq_true rfl) dX12_span_19 (fun hz19 => ?_)
    refine g_if_eq C 44 dX12_span_22 (by decide) (fun c22 => ?_) (fun c22 => ?_)
    · have h := iteT c22 h
      exact J44 x1 x2 x3 x4 x5 x6 (st g 0 0 (0 : Int32)) h
    · have h := iteF c22 h
      refine g_iload C dX12_span_25 5 rfl ?_
      refine g_iconst C dX12_span_27 ic_0 ?_
      refine g_iconst C dX12_span_28 ic_2 ?_
      refine g_cSz (As := [.int x5, .int (0 : Int32), .int (2 : Int32)]) (rest := [.ref (ad 0)]) (ro := (fM_in x5 (0 : Int32) (2 : Int32))) (go := (st g 0 0 (0 : Int32))) (xo := xo) C (fun sz => cM_in l D T ad xo (st g 0 0 (0 : Int32)) x5 (0 : Int32) (2 : Int32) _ rfl sz) kM_in ⟨Nat.le_of_ble_eq_true rfl, Nat.le_of_ble_eq_true rfl⟩ ⟨rfl, rfl⟩ ⟨Nat.zero_le _, Nat.zero_le _⟩ rfl rfl (Nat.le_of_ble_eq_true rfl) dX12_span_29 (fun hz29 => ?_)
      refine g_if_eq C 44 dX12_span_32 (by decide) (fun c32 => ?_) (fun c32 => ?_)
      · have h := iteT c32 h
        exact J44 x1 x2 x3 x4 x5 x6 (st g 0 0 (0 : Int32)) h
      · have h := iteF c32 h
        refine g_aload_n C dX12_span_35 rfl 0 rfl ?_
        refine g_iload C dX12_span_36 6 rfl ?_
        refine g_cVz (k := 0) (As := [.int x6]) (rest := [.ref (ad 0)]) (ro := (fM_isPerson x6 (st g 0 0 (0 : Int32)))) (go := (st g 0 0 (0 : Int32))) (xo := xo) C (fun sz => cM_isPerson l D T ad xo (st g 0 0 (0 : Int32)) x6 _ rfl sz) kM_isPerson ⟨Nat.le_of_ble_eq_true rfl, Nat.le_of_ble_eq_true rfl⟩ ⟨rfl, rfl⟩ ⟨Nat.zero_le _, Nat.zero_le _⟩ (rfl : vwCl[11]? = some (RX12, TX12, 48)) kM0 rfl rfl (Nat.le_of_ble_eq_true rfl) dX12_span_38 (fun hz38 => ?_)
        refine g_if_ne C 48 dX12_span_41 (by decide) (fun c41 => ?_) (fun c41 => ?_)
        · have h := iteT c41 h
          exact J44 x1 x2 x3 x4 x5 x6 (st g 0 0 (0 : Int32)) h
        · have h := iteF c41 h
          refine g_iconst C dX12_span_48 ic_0 ?_
          exact J49 x1 x2 x3 x4 x5 x6 (0 : Int32) (st g 0 0 (0 : Int32)) h
def fM_puts_b11 (x1 : Nat) (g : St) : Option (Int32 × St) :=
  if ¬ ((((g 0 35) + (1 : Int32)) - (1 : Int32)) < 0 ∨ (lenW shM x1) ≤ (((g 0 35) + (1 : Int32)) - (1 : Int32)).toNatClampNeg) then (some (((st g 0 35 ((g 0 35) + (1 : Int32))) x1 ((((g 0 35) + (1 : Int32)) - (1 : Int32)).toNatClampNeg)), (st g 0 35 ((g 0 35) + (1 : Int32))))) else none
def fM_puts (x1 : Nat) (x2 : Int32) (x3 : Int32) (g : St) : Option (Int32 × St) :=
  if x3 = 0 then
    (if ¬ ((g 0 35) < 0 ∨ (lenW shM x1) ≤ (g 0 35).toNatClampNeg) then (fM_puts_b11 x1 (st g x1 ((g 0 35).toNatClampNeg) x2)) else none)
  else
    (fM_puts_b11 x1 g)
def rmM_puts : Room := { frames := 0, cells := 0, slots := 0, locals := 0 }
abbrev GcM_puts (l : Launch) (D : va_G) (T : cT) (ad : Nat → Nat) (Γ : Cxt) (o : Int32 × St) (xo : Sl) (x : Sl) (g : St) (pc : Nat) (lv : List (Nat × Value)) (stk : List Value) : Prop := Gj l shM D T ad 4 (rmM_puts) 0 0 Γ (MQ Γ.below (va_Qi (eqI o.1 o.2 xo) (wPost shM D T ad Γ.A) Γ.A) Γ.args Γ.s 0 0 Γ.A) x g pc lv stk
set_option maxRecDepth 100000 in
set_option maxHeartbeats 4000000 in
theorem cM_puts (l : Launch) (D : va_G) (T : cT) (ad : Nat → Nat) (xo : Sl) (g : St) (x1 : Nat) (x2 : Int32) (x3 : Int32) (o : Int32 × St) (h : fM_puts x1 x2 x3 g = some o) (sz : Nat) : Met l yX12_puts wM_puts (rmM_puts) (va_Pc [.ref (ad 0), .ref (ad x1), .int x2, .int x3] (wPre shM D T ad xo g sz)) (va_Qi (eqI o.1 o.2 xo) (wPost shM D T ad (aW shM T ad xo g sz)) (aW shM T ad xo g sz)) 0 0 (aW shM T ad xo g sz) := by
  refine g_start (Qc := fun A => va_Qi (eqI o.1 o.2 xo) (wPost shM D T ad A) A) (by decide +kernel) rfl rfl (Nat.le_of_ble_eq_true rfl) (lv := [(0, .ref (ad 0)), (1, .ref (ad x1)), (2, .int x2), (3, .int x3)]) rfl (fun Γ C => ?_)
  show GcM_puts l D T ad Γ o xo xo g 0 [(0, .ref (ad 0)), (1, .ref (ad x1)), (2, .int x2), (3, .int x3)] []
  have J11 : ∀ (x1 : Nat) (g : St), fM_puts_b11 x1 g = some o → GcM_puts l D T ad Γ o xo xo g 11 [(0, .ref (ad 0)), (1, .ref (ad x1))] [] := by
    intro x1 g h
    refine g_aload_n C dX12_puts_11 rfl 0 rfl ?_
    refine g_dup C dX12_puts_12 rfl ?_
    refine gM_get_spot (v := g 0 35) C rfl dX12_puts_13 ?_
    refine g_iconst C dX12_puts_16 ic_1 ?_
    refine g_iadd C dX12_puts_17 ?_
    refine gM_put_spot C dX12_puts_18 ?_
    refine g_aload_n C dX12_puts_21 rfl 1 rfl ?_
    refine g_aload_n C dX12_puts_22 rfl 0 rfl ?_
    refine gM_get_spot (v := (g 0 35) + (1 : Int32)) C rfl dX12_puts_23 ?_
    refine g_iconst C dX12_puts_26 ic_1 ?_
    refine g_isub C dX12_puts_27 ?_
    obtain ⟨hi28, h⟩ := grd h
    refine g_iald (n := (lenW shM x1)) (v := (st g 0 35 ((g 0 35) + (1 : Int32))) x1 ((((g 0 35) + (1 : Int32)) - (1 : Int32)).toNatClampNeg)) C rfl hi28 rfl dX12_puts_28 ?_
    obtain rfl := Option.some.inj h
    exact g_iret C rfl rfl rfl dX12_puts_29
  refine g_iload_n C dX12_puts_0 rfl 3 rfl ?_
  refine g_if_ne C 11 dX12_puts_1 (by decide) (fun c1 => ?_) (fun c1 => ?_)
  · have h := iteT c1 h
    refine g_aload_n C dX12_puts_4 rfl 1 rfl ?_
    refine g_aload_n C dX12_puts_5 rfl 0 rfl ?_
    refine gM_get_spot (v := g 0 35) C rfl dX12_puts_6 ?_
    refine g_iload_n C dX12_puts_9 rfl 2 rfl ?_
    obtain ⟨hi10, h⟩ := grd h
    refine g_iast (n := (lenW shM x1)) (q := (g 0 35).toNatClampNeg) C rfl hi10 rfl dX12_puts_10 ?_
    exact g_sub [0, 1] rfl (J11 x1 (st g x1 ((g 0 35).toNatClampNeg) x2) h)
  · have h := iteF c1 h
    exact g_sub [0, 1] rfl (J11 x1 g h)
def fM_putsAll_L62 (x1 : Nat) (x2 : Int32) (x3 : Int32) : (Int32 × St) → Option ((Int32 × St) ⊕ (St)) := fun ⟨x4, g⟩ =>
  if (26 : Int32) ≤ x4 then
    (some (.inr g))
  else
    (if ¬ (x3 < 0 ∨ 16 ≤ x3.toNatClampNeg) then (if ¬ (x4 < 0 ∨ 26 ≤ x4.toNatClampNeg) then ((fM_puts x1 (g (458 + x3.toNatClampNeg) x4.toNatClampNeg) x2 g).bind fun ⟨r89, g89⟩ => (some (.inl ((x4 + (1 : Int32)), (st g89 (458 + x3.toNatClampNeg) x4.toNatClampNeg r89))))) else none) else none)
def fM_putsAll_b62 (x1 : Nat) (x2 : Int32) (x3 : Int32) (x4 : Int32) (g : St) : Option ((Int32 × St) ⊕ (St)) :=
  (lp (fM_putsAll_L62 x1 x2 x3) fuel (x4, g)).bind (fun g => some (.inl ((x3 + (1 : Int32)), g)))
def fM_putsAll_L53 (x1 : Nat) (x2 : Int32) : (Int32 × St) → Option ((Int32 × St) ⊕ (St)) := fun ⟨x3, g⟩ =>
  if (16 : Int32) ≤ x3 then
    (some (.inr g))
  else
    (fM_putsAll_b62 x1 x2 x3 (0 : Int32) g)
def fM_putsAll_b53 (x1 : Nat) (x2 : Int32) (x3 : Int32) (g : St) : Option (St) :=
  (lp (fM_putsAll_L53 x1 x2) fuel (x3, g)).bind (fun g => some g)
def fM_putsAll_L21 (x1 : Nat) (x2 : Int32) : (Int32 × St) → Option ((Int32 × St) ⊕ (St)) := fun ⟨x3, g⟩ =>
  if (26 : Int32) ≤ x3 then
    (some (.inr g))
  else
    (if ¬ (x3 < 0 ∨ 26 ≤ x3.toNatClampNeg) then ((fM_puts x1 (g 16 x3.toNatClampNeg) x2 g).bind fun ⟨r41, g41⟩ => (some (.inl ((x3 + (1 : Int32)), (st g41 16 x3.toNatClampNeg r41))))) else none)
def fM_putsAll_b21 (x1 : Nat) (x2 : Int32) (x3 : Int32) (g : St) : Option (St) :=
  (lp (fM_putsAll_L21 x1 x2) fuel (x3, g)).bind (fun g => fM_putsAll_b53 x1 x2 (0 : Int32) g)
def fM_putsAll (x1 : Nat) (x2 : Int32) (g : St) : Option (St) :=
  (fM_puts x1 (g 0 32) x2 (st g 0 35 (0 : Int32))).bind fun ⟨r13, g13⟩ => (fM_putsAll_b21 x1 x2 (0 : Int32) (st g13 0 32 r13))
def rmM_putsAll : Room := { frames := 1, cells := 0, slots := 0, locals := 23 }
abbrev GcM_putsAll (l : Launch) (D : va_G) (T : cT) (ad : Nat → Nat) (Γ : Cxt) (o : St) (xo : Sl) (x : Sl) (g : St) (pc : Nat) (lv : List (Nat × Value)) (stk : List Value) : Prop := Gj l shM D T ad 5 (rmM_putsAll) 0 0 Γ (MQ Γ.below (va_Qv (eqV o xo) (wPost shM D T ad Γ.A) Γ.A) Γ.args Γ.s 0 0 Γ.A) x g pc lv stk
set_option maxRecDepth 100000 in
set_option maxHeartbeats 4000000 in
theorem cM_putsAll (l : Launch) (D : va_G) (T : cT) (ad : Nat → Nat) (xo : Sl) (g : St) (x1 : Nat) (x2 : Int32) (o : St) (h : fM_putsAll x1 x2 g = some o) (sz : Nat) : Met l yX12_putsAll wM_putsAll (rmM_putsAll) (va_Pc [.ref (ad 0), .ref (ad x1), .int x2] (wPre shM D T ad xo g sz)) (va_Qv (eqV o xo) (wPost shM D T ad (aW shM T ad xo g sz)) (aW shM T ad xo g sz)) 0 0 (aW shM T ad xo g sz) := by
  refine g_start (Qc := fun A => va_Qv (eqV o xo) (wPost shM D T ad A) A) (by decide +kernel) rfl rfl (Nat.le_of_ble_eq_true rfl) (lv := [(0, .ref (ad 0)), (1, .ref (ad x1)), (2, .int x2)]) rfl (fun Γ C => ?_)
  show GcM_putsAll l D T ad Γ o xo xo g 0 [(0, .ref (ad 0)), (1, .ref (ad x1)), (2, .int x2)] []
  have J53 : ∀ (x1 : Nat) (x2 : Int32) (x3 : Int32) (g : St), fM_putsAll_b53 x1 x2 x3 g = some o → GcM_putsAll l D T ad Γ o xo xo g 53 [(0, .ref (ad 0)), (1, .ref (ad x1)), (2, .int x2), (3, .int x3)] [] := by
    intro x1 x2 x3 g h
    obtain ⟨g, ht, h⟩ := bnd h
    refine lp_run (P := fun t : Int32 × St => match t with | (x3, g) => GcM_putsAll l D T ad Γ o xo xo g 53 [(0, .ref (ad 0)), (1, .ref (ad x1)), (2, .int x2), (3, .int x3)] []) (E := fun g : St => GcM_putsAll l D T ad Γ o xo xo g 105 [] []) ?_ _ _ _ ht ?_
    · rintro ⟨x3, g⟩ z h Kt Ke
      show GcM_putsAll l D T ad Γ o xo xo g 53 [(0, .ref (ad 0)), (1, .ref (ad x1)), (2, .int x2), (3, .int x3)] []
      have J62 : ∀ (x3 : Int32) (x4 : Int32) (g : St), fM_putsAll_b62 x1 x2 x3 x4 g = some z → GcM_putsAll l D T ad Γ o xo xo g 62 [(0, .ref (ad 0)), (1, .ref (ad x1)), (2, .int x2), (3, .int x3), (4, .int x4)] [] := by
        intro x3 x4 g h
        obtain ⟨g, ht, h⟩ := bnd h
        refine lp_run (P := fun t : Int32 × St => match t with | (x4, g) => GcM_putsAll l D T ad Γ o xo xo g 62 [(0, .ref (ad 0)), (1, .ref (ad x1)), (2, .int x2), (3, .int x3), (4, .int x4)] []) (E := fun g : St => GcM_putsAll l D T ad Γ o xo xo g 99 [(0, .ref (ad 0)), (1, .ref (ad x1)), (2, .int x2), (3, .int x3)] []) ?_ _ _ _ ht ?_
        · rintro ⟨x4, g⟩ z h Kt Ke
          show GcM_putsAll l D T ad Γ o xo xo g 62 [(0, .ref (ad 0)), (1, .ref (ad x1)), (2, .int x2), (3, .int x3), (4, .int x4)] []
          refine g_iload C dX12_putsAll_62 4 rfl ?_
          refine g_bipush C dX12_putsAll_64 bp_26 ?_
          refine g_icmp_ge C 99 dX12_putsAll_66 (by decide) (fun c66 => ?_) (fun c66 => ?_)
          · have h := iteT c66 h
            exact g_sub [0, 1, 2, 3] rfl (Ke _ (Option.some.inj h).symm)
          · have h := iteF c66 h
            refine g_aload_n C dX12_putsAll_69 rfl 0 rfl ?_
            refine gM_get_before C dX12_putsAll_70 ?_
            refine g_iload_n C dX12_putsAll_73 rfl 3 rfl ?_
            obtain ⟨hi74, h⟩ := grd h
            refine g_aald (n := 16) (q := (458 + x3.toNatClampNeg)) C lg_18 hi74 rfl dX12_putsAll_74 ?_
            refine g_iload C dX12_putsAll_75 4 rfl ?_
            refine g_aload_n C dX12_putsAll_77 rfl 0 rfl ?_
            refine g_aload_n C dX12_putsAll_78 rfl 1 rfl ?_
            refine g_aload_n C dX12_putsAll_79 rfl 0 rfl ?_
            refine gM_get_before C dX12_putsAll_80 ?_
            refine g_iload_n C dX12_putsAll_83 rfl 3 rfl ?_
            refine g_aald (n := 16) (q := (458 + x3.toNatClampNeg)) C lg_18 hi74 rfl dX12_putsAll_84 ?_
            refine g_iload C dX12_putsAll_85 4 rfl ?_
            obtain ⟨hi87, h⟩ := grd h
            refine g_iald (n := 26) (v := g (458 + x3.toNatClampNeg) x4.toNatClampNeg) C (lenM_before hi74) hi87 rfl dX12_putsAll_87 ?_
            refine g_iload_n C dX12_putsAll_88 rfl 2 rfl ?_
            obtain ⟨⟨r89, g89⟩, hr89, h⟩ := bnd h
            refine g_cVi (k := 0) (As := [.ref (ad x1), .int (g (458 + x3.toNatClampNeg) x4.toNatClampNeg), .int x2]) (rest := [.int x4, .ref (ad (458 + x3.toNatClampNeg))]) (ro := r89) (go := g89) (xo := xo) C (fun sz => cM_puts l D T ad xo g x1 (g (458 + x3.toNatClampNeg) x4.toNatClampNeg) x2 _ hr89 sz) kM_puts ⟨Nat.le_of_ble_eq_true rfl, Nat.le_of_ble_eq_true rfl⟩ ⟨rfl, rfl⟩ ⟨Nat.zero_le _, Nat.zero_le _⟩ (rfl : vwCl[11]? = some (RX12, TX12, 48)) kM0 rfl rfl (Nat.le_of_ble_eq_true rfl) dX12_putsAll_89 ?_
            refine g_iast (n := 26) (q := x4.toNatClampNeg) C (lenM_before hi74) hi87 rfl dX12_putsAll_92 ?_
            refine g_iinc (lv' := [(4, .int (x4 + (1 : Int32))), (0, .ref (ad 0)), (1, .ref (ad x1)), (2, .int x2), (3, .int x3)]) C dX12_putsAll_93 4 rfl (ii_1 _) (Nat.le_of_ble_eq_true rfl) rfl ?_
            refine g_goto (tgt := 62) C dX12_putsAll_96 (by decide) ?_
            exact g_sub [1, 2, 3, 4, 0] rfl (Kt _ (Option.some.inj h).symm)
        · show GcM_putsAll l D T ad Γ o xo xo g 99 [(0, .ref (ad 0)), (1, .ref (ad x1)), (2, .int x2), (3, .int x3)] []
          refine g_iinc (lv' := [(3, .int (x3 + (1 : Int32))), (0, .ref (ad 0)), (1, .ref (ad x1)), (2, .int x2)]) C dX12_putsAll_99 3 rfl (ii_1 _) (Nat.le_of_ble_eq_true rfl) rfl ?_
          refine g_goto (tgt := 53) C dX12_putsAll_102 (by decide) ?_
          exact g_sub [1, 2, 3, 0] rfl (Kt _ (Option.some.inj h).symm)
      refine g_iload_n C dX12_putsAll_53 rfl 3 rfl ?_
      refine g_bipush C dX12_putsAll_54 bp_16 ?_
      refine g_icmp_ge C 105 dX12_putsAll_56 (by decide) (fun c56 => ?_) (fun c56 => ?_)
      · have h := iteT c56 h
        exact g_sub [] rfl (Ke _ (Option.some.inj h).symm)
      · have h := iteF c56 h
        refine g_iconst C dX12_putsAll_59 ic_0 ?_
        refine g_istore (lv' := [(4, .int (0 : Int32)), (0, .ref (ad 0)), (1, .ref (ad x1)), (2, .int x2), (3, .int x3)]) C dX12_putsAll_60 (Nat.le_of_ble_eq_true rfl) rfl ?_
        exact g_sub [1, 2, 3, 4, 0] rfl (J62 x3 (0 : Int32) g h)
    · show GcM_putsAll l D T ad Γ o xo xo g 105 [] []
      obtain rfl := Option.some.inj h
      exact g_vret C rfl rfl dX12_putsAll_105
  have J21 : ∀ (x1 : Nat) (x2 : Int32) (x3 : Int32) (g : St), fM_putsAll_b21 x1 x2 x3 g = some o → GcM_putsAll l D T ad Γ o xo xo g 21 [(0, .ref (ad 0)), (1, .ref (ad x1)), (2, .int x2), (3, .int x3)] [] := by
    intro x1 x2 x3 g h
    obtain ⟨g, ht, h⟩ := bnd h
    refine lp_run (P := fun t : Int32 × St => match t with | (x3, g) => GcM_putsAll l D T ad Γ o xo xo g 21 [(0, .ref (ad 0)), (1, .ref (ad x1)), (2, .int x2), (3, .int x3)] []) (E := fun g : St => GcM_putsAll l D T ad Γ o xo xo g 51 [(0, .ref (ad 0)), (1, .ref (ad x1)), (2, .int x2)] []) ?_ _ _ _ ht ?_
    · rintro ⟨x3, g⟩ z h Kt Ke
      show GcM_putsAll l D T ad Γ o xo xo g 21 [(0, .ref (ad 0)), (1, .ref (ad x1)), (2, .int x2), (3, .int x3)] []
      refine g_iload_n C dX12_putsAll_21 rfl 3 rfl ?_
      refine g_bipush C dX12_putsAll_22 bp_26 ?_
      refine g_icmp_ge C 51 dX12_putsAll_24 (by decide) (fun c24 => ?_) (fun c24 => ?_)
      · have h := iteT c24 h
        exact g_sub [0, 1, 2] rfl (Ke _ (Option.some.inj h).symm)
      · have h := iteF c24 h
        refine g_aload_n C dX12_putsAll_27 rfl 0 rfl ?_
        refine gM_get_now C dX12_putsAll_28 ?_
        refine g_iload_n C dX12_putsAll_31 rfl 3 rfl ?_
        refine g_aload_n C dX12_putsAll_32 rfl 0 rfl ?_
        refine g_aload_n C dX12_putsAll_33 rfl 1 rfl ?_
        refine g_aload_n C dX12_putsAll_34 rfl 0 rfl ?_
        refine gM_get_now C dX12_putsAll_35 ?_
        refine g_iload_n C dX12_putsAll_38 rfl 3 rfl ?_
        obtain ⟨hi39, h⟩ := grd h
        refine g_iald (n := 26) (v := g 16 x3.toNatClampNeg) C ln_16 hi39 rfl dX12_putsAll_39 ?_
        refine g_iload_n C dX12_putsAll_40 rfl 2 rfl ?_
        obtain ⟨⟨r41, g41⟩, hr41, h⟩ := bnd h
        refine g_cVi (k := 0) (As := [.ref (ad x1), .int (g 16 x3.toNatClampNeg), .int x2]) (rest := [.int x3, .ref (ad 16)]) (ro := r41) (go := g41) (xo := xo) C (fun sz => cM_puts l D T ad xo g x1 (g 16 x3.toNatClampNeg) x2 _ hr41 sz) kM_puts ⟨Nat.le_of_ble_eq_true rfl, Nat.le_of_ble_eq_true rfl⟩ ⟨rfl, rfl⟩ ⟨Nat.zero_le _, Nat.zero_le _⟩ (rfl : vwCl[11]? = some (RX12, TX12, 48)) kM0 rfl rfl (Nat.le_of_ble_eq_true rfl) dX12_putsAll_41 ?_
        refine g_iast (n := 26) (q := x3.toNatClampNeg) C ln_16 hi39 rfl dX12_putsAll_44 ?_
        refine g_iinc (lv' := [(3, .int (x3 + (1 : Int32))), (0, .ref (ad 0)), (1, .ref (ad x1)), (2, .int x2)]) C dX12_putsAll_45 3 rfl (ii_1 _) (Nat.le_of_ble_eq_true rfl) rfl ?_
        refine g_goto (tgt := 21) C dX12_putsAll_48 (by decide) ?_
        exact g_sub [1, 2, 3, 0] rfl (Kt _ (Option.some.inj h).symm)
    · show GcM_putsAll l D T ad Γ o xo xo g 51 [(0, .ref (ad 0)), (1, .ref (ad x1)), (2, .int x2)] []
      refine g_iconst C dX12_putsAll_51 ic_0 ?_
      refine g_istore_n (lv' := [(3, .int (0 : Int32)), (0, .ref (ad 0)), (1, .ref (ad x1)), (2, .int x2)]) C dX12_putsAll_52 rfl (Nat.le_of_ble_eq_true rfl) rfl ?_
      exact g_sub [1, 2, 3, 0] rfl (J53 x1 x2 (0 : Int32) g h)
  refine g_aload_n C dX12_putsAll_0 rfl 0 rfl ?_
  refine g_iconst C dX12_putsAll_1 ic_0 ?_
  refine gM_put_spot C dX12_putsAll_2 ?_
  refine g_aload_n C dX12_putsAll_5 rfl 0 rfl ?_
  refine g_aload_n C dX12_putsAll_6 rfl 0 rfl ?_
  refine g_aload_n C dX12_putsAll_7 rfl 1 rfl ?_
  refine g_aload_n C dX12_putsAll_8 rfl 0 rfl ?_
  refine gM_get_works (v := g 0 32) C rfl dX12_putsAll_9 ?_
  refine g_iload_n C dX12_putsAll_12 rfl 2 rfl ?_
  obtain ⟨⟨r13, g13⟩, hr13, h⟩ := bnd h
  refine g_cVi (k := 0) (As := [.ref (ad x1), .int (g 0 32), .int x2]) (rest := [.ref (ad 0)]) (ro := r13) (go := g13) (xo := xo) C (fun sz => cM_puts l D T ad xo (st g 0 35 (0 : Int32)) x1 (g 0 32) x2 _ hr13 sz) kM_puts ⟨Nat.le_of_ble_eq_true rfl, Nat.le_of_ble_eq_true rfl⟩ ⟨rfl, rfl⟩ ⟨Nat.zero_le _, Nat.zero_le _⟩ (rfl : vwCl[11]? = some (RX12, TX12, 48)) kM0 rfl rfl (Nat.le_of_ble_eq_true rfl) dX12_putsAll_13 ?_
  refine gM_put_works C dX12_putsAll_16 ?_
  refine g_iconst C dX12_putsAll_19 ic_0 ?_
  refine g_istore_n (lv' := [(3, .int (0 : Int32)), (0, .ref (ad 0)), (1, .ref (ad x1)), (2, .int x2)]) C dX12_putsAll_20 rfl (Nat.le_of_ble_eq_true rfl) rfl ?_
  exact g_sub [1, 2, 3, 0] rfl (J21 x1 x2 (0 : Int32) (st g13 0 32 r13) h)
def fM_image (g : St) : Option (Int32 × St) :=
  if (g 0 34) = (3 : Int32) then
    (some ((-1 : Int32), (st g 0 0 (0 : Int32))))
  else
    (if ¬ ((g 0 34) < 0 ∨ 3 ≤ (g 0 34).toNatClampNeg) then ((fM_putsAll (474 + (g 0 34).toNatClampNeg) (0 : Int32) (st g 0 0 (0 : Int32))).bind fun g26 => (some (((g26 0 34) + (1 : Int32)), (st g26 0 34 ((g26 0 34) + (1 : Int32)))))) else none)
def rmM_image : Room := { frames := 2, cells := 0, slots := 0, locals := 47 }
abbrev GcM_image (l : Launch) (D : va_G) (T : cT) (ad : Nat → Nat) (Γ : Cxt) (o : Int32 × St) (xo : Sl) (x : Sl) (g : St) (pc : Nat) (lv : List (Nat × Value)) (stk : List Value) : Prop := Gj l shM D T ad 1 (rmM_image) 0 0 Γ (MQ Γ.below (va_Qi (eqI o.1 o.2 xo) (wPost shM D T ad Γ.A) Γ.A) Γ.args Γ.s 0 0 Γ.A) x g pc lv stk
set_option maxRecDepth 100000 in
set_option maxHeartbeats 4000000 in
theorem cM_image (l : Launch) (D : va_G) (T : cT) (ad : Nat → Nat) (xo : Sl) (g : St) (o : Int32 × St) (h : fM_image g = some o) (sz : Nat) : Met l yX12_image wM_image (rmM_image) (va_Pc [.ref (ad 0)] (wPre shM D T ad xo g sz)) (va_Qi (eqI o.1 o.2 xo) (wPost shM D T ad (aW shM T ad xo g sz)) (aW shM T ad xo g sz)) 0 0 (aW shM T ad xo g sz) := by
  refine g_start (Qc := fun A => va_Qi (eqI o.1 o.2 xo) (wPost shM D T ad A) A) (by decide +kernel) rfl rfl (Nat.le_of_ble_eq_true rfl) (lv := [(0, .ref (ad 0))]) rfl (fun Γ C => ?_)
  show GcM_image l D T ad Γ o xo xo g 0 [(0, .ref (ad 0))] []
  refine g_aload_n C dX12_image_0 rfl 0 rfl ?_
  refine g_iconst C dX12_image_1 ic_0 ?_
  refine gM_put_thrown C dX12_image_2 ?_
  refine g_aload_n C dX12_image_5 rfl 0 rfl ?_
  refine gM_get_images (v := g 0 34) C rfl dX12_image_6 ?_
  refine g_iconst C dX12_image_9 ic_3 ?_
  refine g_icmp_ne C 15 dX12_image_10 (by decide) (fun c10 => ?_) (fun c10 => ?_)
  · have h := iteT c10 h
    refine g_iconst C dX12_image_13 ic_m1 ?_
    obtain rfl := Option.some.inj h
    exact g_iret C rfl rfl rfl dX12_image_14
  · have h := iteF c10 h
    refine g_aload_n C dX12_image_15 rfl 0 rfl ?_
    refine g_aload_n C dX12_image_16 rfl 0 rfl ?_
    refine gM_get_kept C dX12_image_17 ?_
    refine g_aload_n C dX12_image_20 rfl 0 rfl ?_
    refine gM_get_images (v := g 0 34) C rfl dX12_image_21 ?_
    obtain ⟨hi24, h⟩ := grd h
    refine g_aald (n := 3) (q := (474 + (g 0 34).toNatClampNeg)) C lg_19 hi24 rfl dX12_image_24 ?_
    refine g_iconst C dX12_image_25 ic_0 ?_
    obtain ⟨g26, hr26, h⟩ := bnd h
    refine g_cVv (k := 0) (As := [.ref (ad (474 + (g 0 34).toNatClampNeg)), .int (0 : Int32)]) (rest := []) (go := g26) (xo := xo) C (fun sz => cM_putsAll l D T ad xo (st g 0 0 (0 : Int32)) (474 + (g 0 34).toNatClampNeg) (0 : Int32) _ hr26 sz) kM_putsAll ⟨Nat.le_of_ble_eq_true rfl, Nat.le_of_ble_eq_true rfl⟩ ⟨rfl, rfl⟩ ⟨Nat.zero_le _, Nat.zero_le _⟩ (rfl : vwCl[11]? = some (RX12, TX12, 48)) kM0 rfl rfl (Nat.le_of_ble_eq_true rfl) dX12_image_26 ?_
    refine g_aload_n C dX12_image_29 rfl 0 rfl ?_
    refine g_dup C dX12_image_30 rfl ?_
    refine gM_get_images (v := g26 0 34) C rfl dX12_image_31 ?_
    refine g_iconst C dX12_image_34 ic_1 ?_
    refine g_iadd C dX12_image_35 ?_
    refine gM_put_images C dX12_image_36 ?_
    refine g_aload_n C dX12_image_39 rfl 0 rfl ?_
    refine gM_get_images (v := (g26 0 34) + (1 : Int32)) C rfl dX12_image_40 ?_
    obtain rfl := Option.some.inj h
    exact g_iret C rfl rfl rfl dX12_image_43
def fM_restore (g : St) : Option (Int32 × St) :=
  if (g 0 34) = 0 then
    (some ((-1 : Int32), (st g 0 0 (0 : Int32))))
  else
    (if ¬ (((g 0 34) - (1 : Int32)) < 0 ∨ 3 ≤ ((g 0 34) - (1 : Int32)).toNatClampNeg) then ((fM_putsAll (474 + ((g 0 34) - (1 : Int32)).toNatClampNeg) (1 : Int32) (st (st g 0 0 (0 : Int32)) 0 34 ((g 0 34) - (1 : Int32)))).bind fun g35 => (some ((g35 0 34), (st g35 0 33 (0 : Int32))))) else none)
def rmM_restore : Room := { frames := 2, cells := 0, slots := 0, locals := 47 }
abbrev GcM_restore (l : Launch) (D : va_G) (T : cT) (ad : Nat → Nat) (Γ : Cxt) (o : Int32 × St) (xo : Sl) (x : Sl) (g : St) (pc : Nat) (lv : List (Nat × Value)) (stk : List Value) : Prop := Gj l shM D T ad 1 (rmM_restore) 0 0 Γ (MQ Γ.below (va_Qi (eqI o.1 o.2 xo) (wPost shM D T ad Γ.A) Γ.A) Γ.args Γ.s 0 0 Γ.A) x g pc lv stk
set_option maxRecDepth 100000 in
set_option maxHeartbeats 4000000 in
theorem cM_restore (l : Launch) (D : va_G) (T : cT) (ad : Nat → Nat) (xo : Sl) (g : St) (o : Int32 × St) (h : fM_restore g = some o) (sz : Nat) : Met l yX12_restore wM_restore (rmM_restore) (va_Pc [.ref (ad 0)] (wPre shM D T ad xo g sz)) (va_Qi (eqI o.1 o.2 xo) (wPost shM D T ad (aW shM T ad xo g sz)) (aW shM T ad xo g sz)) 0 0 (aW shM T ad xo g sz) := by
  refine g_start (Qc := fun A => va_Qi (eqI o.1 o.2 xo) (wPost shM D T ad A) A) (by decide +kernel) rfl rfl (Nat.le_of_ble_eq_true rfl) (lv := [(0, .ref (ad 0))]) rfl (fun Γ C => ?_)
  show GcM_restore l D T ad Γ o xo xo g 0 [(0, .ref (ad 0))] []
  refine g_aload_n C dX12_restore_0 rfl 0 rfl ?_
  refine g_iconst C dX12_restore_1 ic_0 ?_
  refine gM_put_thrown C dX12_restore_2 ?_
  refine g_aload_n C dX12_restore_5 rfl 0 rfl ?_
  refine gM_get_images (v := g 0 34) C rfl dX12_restore_6 ?_
  refine g_if_ne C 14 dX12_restore_9 (by decide) (fun c9 => ?_) (fun c9 => ?_)
  · have h := iteT c9 h
    refine g_iconst C dX12_restore_12 ic_m1 ?_
    obtain rfl := Option.some.inj h
    exact g_iret C rfl rfl rfl dX12_restore_13
  · have h := iteF c9 h
    refine g_aload_n C dX12_restore_14 rfl 0 rfl ?_
    refine g_dup C dX12_restore_15 rfl ?_
    refine gM_get_images (v := g 0 34) C rfl dX12_restore_16 ?_
    refine g_iconst C dX12_restore_19 ic_1 ?_
    refine g_isub C dX12_restore_20 ?_
    refine gM_put_images C dX12_restore_21 ?_
    refine g_aload_n C dX12_restore_24 rfl 0 rfl ?_
    refine g_aload_n C dX12_restore_25 rfl 0 rfl ?_
    refine gM_get_kept C dX12_restore_26 ?_
    refine g_aload_n C dX12_restore_29 rfl 0 rfl ?_
    refine gM_get_images (v := (g 0 34) - (1 : Int32)) C rfl dX12_restore_30 ?_
    obtain ⟨hi33, h⟩ := grd h
    refine g_aald (n := 3) (q := (474 + ((g 0 34) - (1 : Int32)).toNatClampNeg)) C lg_19 hi33 rfl dX12_restore_33 ?_
    refine g_iconst C dX12_restore_34 ic_1 ?_
    obtain ⟨g35, hr35, h⟩ := bnd h
    refine g_cVv (k := 0) (As := [.ref (ad (474 + ((g 0 34) - (1 : Int32)).toNatClampNeg)), .int (1 : Int32)]) (rest := []) (go := g35) (xo := xo) C (fun sz => cM_putsAll l D T ad xo (st (st g 0 0 (0 : Int32)) 0 34 ((g 0 34) - (1 : Int32))) (474 + ((g 0 34) - (1 : Int32)).toNatClampNeg) (1 : Int32) _ hr35 sz) kM_putsAll ⟨Nat.le_of_ble_eq_true rfl, Nat.le_of_ble_eq_true rfl⟩ ⟨rfl, rfl⟩ ⟨Nat.zero_le _, Nat.zero_le _⟩ (rfl : vwCl[11]? = some (RX12, TX12, 48)) kM0 rfl rfl (Nat.le_of_ble_eq_true rfl) dX12_restore_35 ?_
    refine g_aload_n C dX12_restore_38 rfl 0 rfl ?_
    refine g_iconst C dX12_restore_39 ic_0 ?_
    refine gM_put_refusedSteps C dX12_restore_40 ?_
    refine g_aload_n C dX12_restore_43 rfl 0 rfl ?_
    refine gM_get_images (v := g35 0 34) C rfl dX12_restore_44 ?_
    obtain rfl := Option.some.inj h
    exact g_iret C rfl rfl rfl dX12_restore_47
def fM_status (x1 : Int32) (g : St) : Option (Int32 × St) :=
  if (fM_in x1 (0 : Int32) (1 : Int32)) = 0 then
    (some ((-1 : Int32), (st g 0 0 (0 : Int32))))
  else
    (if ¬ (x1 < 0 ∨ 2 ≤ x1.toNatClampNeg) then (some ((g 2 x1.toNatClampNeg), (st g 0 0 (0 : Int32)))) else none)
def rmM_status : Room := { frames := 1, cells := 0, slots := 0, locals := 22 }
abbrev GcM_status (l : Launch) (D : va_G) (T : cT) (ad : Nat → Nat) (Γ : Cxt) (o : Int32 × St) (xo : Sl) (x : Sl) (g : St) (pc : Nat) (lv : List (Nat × Value)) (stk : List Value) : Prop := Gj l shM D T ad 2 (rmM_status) 0 0 Γ (MQ Γ.below (va_Qi (eqI o.1 o.2 xo) (wPost shM D T ad Γ.A) Γ.A) Γ.args Γ.s 0 0 Γ.A) x g pc lv stk
set_option maxRecDepth 100000 in
set_option maxHeartbeats 4000000 in
theorem cM_status (l : Launch) (D : va_G) (T : cT) (ad : Nat → Nat) (xo : Sl) (g : St) (x1 : Int32) (o : Int32 × St) (h : fM_status x1 g = some o) (sz : Nat) : Met l yX12_status wM_status (rmM_status) (va_Pc [.ref (ad 0), .int x1] (wPre shM D T ad xo g sz)) (va_Qi (eqI o.1 o.2 xo) (wPost shM D T ad (aW shM T ad xo g sz)) (aW shM T ad xo g sz)) 0 0 (aW shM T ad xo g sz) := by
  refine g_start (Qc := fun A => va_Qi (eqI o.1 o.2 xo) (wPost shM D T ad A) A) (by decide +kernel) rfl rfl (Nat.le_of_ble_eq_true rfl) (lv := [(0, .ref (ad 0)), (1, .int x1)]) rfl (fun Γ C => ?_)
  show GcM_status l D T ad Γ o xo xo g 0 [(0, .ref (ad 0)), (1, .int x1)] []
  refine g_aload_n C dX12_status_0 rfl 0 rfl ?_
  refine g_iconst C dX12_status_1 ic_0 ?_
  refine gM_put_thrown C dX12_status_2 ?_
  refine g_iload_n C dX12_status_5 rfl 1 rfl ?_
  refine g_iconst C dX12_status_6 ic_0 ?_
  refine g_iconst C dX12_status_7 ic_1 ?_
  refine g_cSz (As := [.int x1, .int (0 : Int32), .int (1 : Int32)]) (rest := []) (ro := (fM_in x1 (0 : Int32) (1 : Int32))) (go := (st g 0 0 (0 : Int32))) (xo := xo) C (fun sz => cM_in l D T ad xo (st g 0 0 (0 : Int32)) x1 (0 : Int32) (1 : Int32) _ rfl sz) kM_in ⟨Nat.le_of_ble_eq_true rfl, Nat.le_of_ble_eq_true rfl⟩ ⟨rfl, rfl⟩ ⟨Nat.zero_le _, Nat.zero_le _⟩ rfl rfl (Nat.le_of_ble_eq_true rfl) dX12_status_8 (fun hz8 => ?_)
  refine g_if_eq C 23 dX12_status_11 (by decide) (fun c11 => ?_) (fun c11 => ?_)
  · have h := iteT c11 h
    refine g_iconst C dX12_status_23 ic_m1 ?_
    obtain rfl := Option.some.inj h
    exact g_iret C rfl rfl rfl dX12_status_24
  · have h := iteF c11 h
    refine g_aload_n C dX12_status_14 rfl 0 rfl ?_
    refine gM_get_refused C dX12_status_15 ?_
    refine g_iload_n C dX12_status_18 rfl 1 rfl ?_
    obtain ⟨hi19, h⟩ := grd h
    refine g_iald (n := 2) (v := g 2 x1.toNatClampNeg) C ln_2 hi19 rfl dX12_status_19 ?_
    refine g_goto (tgt := 24) C dX12_status_20 (by decide) ?_
    obtain rfl := Option.some.inj h
    exact g_iret C rfl rfl rfl dX12_status_24
def fM_count (x1 : Int32) (g : St) : Int32 × St :=
  if x1 = 0 then
    (((g 0 34), (st g 0 0 (0 : Int32))))
  else
    (if x1 = (1 : Int32) then
    (((g 0 1), (st g 0 0 (0 : Int32))))
  else
    (if x1 = (2 : Int32) then
    (((g 0 32), (st g 0 0 (0 : Int32))))
  else
    (((-1 : Int32), (st g 0 0 (0 : Int32))))))
def rmM_count : Room := { frames := 0, cells := 0, slots := 0, locals := 0 }
abbrev GcM_count (l : Launch) (D : va_G) (T : cT) (ad : Nat → Nat) (Γ : Cxt) (o : Int32 × St) (xo : Sl) (x : Sl) (g : St) (pc : Nat) (lv : List (Nat × Value)) (stk : List Value) : Prop := Gj l shM D T ad 2 (rmM_count) 0 0 Γ (MQ Γ.below (va_Qi (eqI o.1 o.2 xo) (wPost shM D T ad Γ.A) Γ.A) Γ.args Γ.s 0 0 Γ.A) x g pc lv stk
set_option maxRecDepth 100000 in
set_option maxHeartbeats 4000000 in
theorem cM_count (l : Launch) (D : va_G) (T : cT) (ad : Nat → Nat) (xo : Sl) (g : St) (x1 : Int32) (o : Int32 × St) (h : fM_count x1 g = o) (sz : Nat) : Met l yX12_count wM_count (rmM_count) (va_Pc [.ref (ad 0), .int x1] (wPre shM D T ad xo g sz)) (va_Qi (eqI o.1 o.2 xo) (wPost shM D T ad (aW shM T ad xo g sz)) (aW shM T ad xo g sz)) 0 0 (aW shM T ad xo g sz) := by
  refine g_start (Qc := fun A => va_Qi (eqI o.1 o.2 xo) (wPost shM D T ad A) A) (by decide +kernel) rfl rfl (Nat.le_of_ble_eq_true rfl) (lv := [(0, .ref (ad 0)), (1, .int x1)]) rfl (fun Γ C => ?_)
  show GcM_count l D T ad Γ o xo xo g 0 [(0, .ref (ad 0)), (1, .int x1)] []
  refine g_aload_n C dX12_count_0 rfl 0 rfl ?_
  refine g_iconst C dX12_count_1 ic_0 ?_
  refine gM_put_thrown C dX12_count_2 ?_
  refine g_iload_n C dX12_count_5 rfl 1 rfl ?_
  refine g_if_ne C 16 dX12_count_6 (by decide) (fun c6 => ?_) (fun c6 => ?_)
  · have h := iteT c6 h
    refine g_aload_n C dX12_count_9 rfl 0 rfl ?_
    refine gM_get_images (v := g 0 34) C rfl dX12_count_10 ?_
    refine g_goto (tgt := 41) C dX12_count_13 (by decide) ?_
    subst h
    exact g_iret C rfl rfl rfl dX12_count_41
  · have h := iteF c6 h
    refine g_iload_n C dX12_count_16 rfl 1 rfl ?_
    refine g_iconst C dX12_count_17 ic_1 ?_
    refine g_icmp_ne C 28 dX12_count_18 (by decide) (fun c18 => ?_) (fun c18 => ?_)
    · have h := iteT c18 h
      refine g_aload_n C dX12_count_21 rfl 0 rfl ?_
      refine gM_get_tape (v := g 0 1) C rfl dX12_count_22 ?_
      refine g_goto (tgt := 41) C dX12_count_25 (by decide) ?_
      subst h
      exact g_iret C rfl rfl rfl dX12_count_41
    · have h := iteF c18 h
      refine g_iload_n C dX12_count_28 rfl 1 rfl ?_
      refine g_iconst C dX12_count_29 ic_2 ?_
      refine g_icmp_ne C 40 dX12_count_30 (by decide) (fun c30 => ?_) (fun c30 => ?_)
      · have h := iteT c30 h
        refine g_aload_n C dX12_count_33 rfl 0 rfl ?_
        refine gM_get_works (v := g 0 32) C rfl dX12_count_34 ?_
        refine g_goto (tgt := 41) C dX12_count_37 (by decide) ?_
        subst h
        exact g_iret C rfl rfl rfl dX12_count_41
      · have h := iteF c30 h
        refine g_iconst C dX12_count_40 ic_m1 ?_
        subst h
        exact g_iret C rfl rfl rfl dX12_count_41
