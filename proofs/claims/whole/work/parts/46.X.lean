def fX_neighbours_b178 (x1 : Int32) (x2 : Int32) (x3 : Int32) (x4 : Int32) (x5 : Int32) (x6 : Int32) (x7 : Int32) (g : St) : Option ((Int32 × Int32 × Int32 × Int32) ⊕ ((Int32 × Int32 × Int32))) :=
  some (.inl (x4, x5, x6, (x7 + (1 : Int32))))
def fX_neighbours_b126 (x1 : Int32) (x2 : Int32) (x3 : Int32) (x4 : Int32) (x5 : Int32) (x6 : Int32) (x7 : Int32) (x8 : Int32) (x9 : Int32) (x10 : Int32) (s0 : Int32) (g : St) : Option ((Int32 × Int32 × Int32 × Int32) ⊕ ((Int32 × Int32 × Int32))) :=
  if x10 = 0 then
    (fX_neighbours_b178 x1 x2 x3 x4 x5 x6 x7 g)
  else
    (if s0 = 0 then
    (fX_neighbours_b178 x1 x2 x3 x4 x5 x6 x7 g)
  else
    (if x5 = (-1 : Int32) then
    (fX_neighbours_b178 x1 x2 x3 (x4 + (1 : Int32)) (((10 : Int32) * x8) + x9) ((fX_gain x8 x9 x1 x2) + (fX_gain x9 x8 x1 x2)) x7 g)
  else
    (fX_neighbours_b178 x1 x2 x3 (x4 + (1 : Int32)) x5 x6 x7 g)))
def fX_neighbours_b96 (x1 : Int32) (x2 : Int32) (x3 : Int32) (x4 : Int32) (x5 : Int32) (x6 : Int32) (x7 : Int32) (x8 : Int32) (x9 : Int32) (s0 : Int32) (g : St) : Option ((Int32 × Int32 × Int32 × Int32) ⊕ ((Int32 × Int32 × Int32))) :=
  if (fX_gain x9 x8 x1 x2) < (fX_gain ((1 : Int32) - x9) x8 x1 x2) then
    (fX_neighbours_b126 x1 x2 x3 x4 x5 x6 x7 x8 x9 s0 (0 : Int32) g)
  else
    (fX_neighbours_b126 x1 x2 x3 x4 x5 x6 x7 x8 x9 s0 (1 : Int32) g)
def fX_neighbours_L50 (x1 : Int32) (x2 : Int32) (x3 : Int32) (g : St) : (Int32 × Int32 × Int32 × Int32) → Option ((Int32 × Int32 × Int32 × Int32) ⊕ ((Int32 × Int32 × Int32))) := fun ⟨x4, x5, x6, x7⟩ =>
  if (4 : Int32) ≤ x7 then
    (some (.inr (x4, x5, x6)))
  else
    (if (fX_gain (x7 >>> ((1 : Int32) &&& 31)) (x7 &&& (1 : Int32)) x1 x2) < (fX_gain ((1 : Int32) - (x7 >>> ((1 : Int32) &&& 31))) (x7 &&& (1 : Int32)) x1 x2) then
    (fX_neighbours_b96 x1 x2 x3 x4 x5 x6 x7 (x7 >>> ((1 : Int32) &&& 31)) (x7 &&& (1 : Int32)) (0 : Int32) g)
  else
    (fX_neighbours_b96 x1 x2 x3 x4 x5 x6 x7 (x7 >>> ((1 : Int32) &&& 31)) (x7 &&& (1 : Int32)) (1 : Int32) g))
def fX_neighbours_b50 (x1 : Int32) (x2 : Int32) (x3 : Int32) (x4 : Int32) (x5 : Int32) (x6 : Int32) (x7 : Int32) (g : St) : Option ((Nat ⊕ Int32) × St) :=
  (lp (fX_neighbours_L50 x1 x2 x3 g) fuel (x4, x5, x6, x7)).bind (fun ⟨x4, x5, x6⟩ => if x3 = 0 then
    (some (.inr x4, g))
  else
    (if x3 = (1 : Int32) then
    (some (.inr x5, g))
  else
    (some (.inr x6, g))))
def fX_neighbours_b35 (x1 : Int32) (x2 : Int32) (x3 : Int32) (s1 : Int32) (g : St) : Option ((Nat ⊕ Int32) × St) :=
  lt1 (fX_need s1 g) fun ⟨r35, g35⟩ => Sum.elim (fun k => some (.inl k, g35)) (fun _ => fX_neighbours_b50 x1 x2 x3 (0 : Int32) (-1 : Int32) (0 : Int32) (0 : Int32) g35) r35
def fX_neighbours_b34 (x1 : Int32) (x2 : Int32) (x3 : Int32) (g : St) : Option ((Nat ⊕ Int32) × St) :=
  fX_neighbours_b35 x1 x2 x3 (0 : Int32) g
def fX_neighbours (x1 : Int32) (x2 : Int32) (x3 : Int32) (g : St) : Option ((Nat ⊕ Int32) × St) :=
  if x1 < 0 then
    (fX_neighbours_b34 x1 x2 x3 g)
  else
    (if (99 : Int32) < x1 then
    (fX_neighbours_b34 x1 x2 x3 g)
  else
    (if x2 < 0 then
    (fX_neighbours_b34 x1 x2 x3 g)
  else
    (if (99 : Int32) < x2 then
    (fX_neighbours_b34 x1 x2 x3 g)
  else
    (if x3 < 0 then
    (fX_neighbours_b34 x1 x2 x3 g)
  else
    (if (2 : Int32) < x3 then
    (fX_neighbours_b34 x1 x2 x3 g)
  else
    (fX_neighbours_b35 x1 x2 x3 (1 : Int32) g))))))
def rmX_neighbours : Room := { frames := 9, cells := 1, slots := 6, locals := 141 }
abbrev GcX_neighbours (l : Launch) (D : va_G) (T : cT) (ad : Nat → Nat) (Γ : Cxt) (o : (Nat ⊕ Int32) × St) (xo : Sl) (kc : Nat) (x : Sl) (g : St) (pc : Nat) (lv : List (Nat × Value)) (stk : List Value) : Prop := Gj l shX D T ad 12 (rmX_neighbours) kc (6 * kc) Γ (vx_MQ Γ.below (va_Qi (xoI o xo) (wPost shX D T ad Γ.A) Γ.A) (xoX shX D T ad o.1 (o.2, xo) Γ.A) Γ.args Γ.s 1 6 Γ.A) x g pc lv stk
set_option maxRecDepth 100000 in
set_option maxHeartbeats 4000000 in
theorem cX_neighbours (l : Launch) (hl0 : l.stackTraces = false) (D : va_G) (T : cT) (ad : Nat → Nat) (sK sV : Nat → Nat) (xo : Sl) (g : St) (x1 : Int32) (x2 : Int32) (x3 : Int32) (o : (Nat ⊕ Int32) × St) (h : fX_neighbours x1 x2 x3 g = some o) (sz : Nat) : vx_Met l yX11_neighbours wX_neighbours (rmX_neighbours) (va_Pc [.ref (ad 0), .int x1, .int x2, .int x3] (xPre shX D T ad sK sV xo g sz)) (va_Qi (xoI o xo) (wPost shX D T ad (aW shX T ad xo g sz)) (aW shX T ad xo g sz)) (xoX shX D T ad o.1 (o.2, xo) (aW shX T ad xo g sz)) 1 6 (aW shX T ad xo g sz) := by
  refine g_startt (Qc := fun A => va_Qi (xoI o xo) (wPost shX D T ad A) A) (XC := fun A => xoX shX D T ad o.1 (o.2, xo) A) hl0 (by decide +kernel) rfl rfl (Nat.le_of_ble_eq_true rfl) (lv := [(0, .ref (ad 0)), (1, .int x1), (2, .int x2), (3, .int x3)]) rfl (fun Γ Z => ?_)
  have Y := Z.1
  have C := Y.1
  show GcX_neighbours l D T ad Γ o xo 0 xo g 0 [(0, .ref (ad 0)), (1, .int x1), (2, .int x2), (3, .int x3)] []
  have J50 : ∀ (x1 : Int32) (x2 : Int32) (x3 : Int32) (x4 : Int32) (x5 : Int32) (x6 : Int32) (x7 : Int32) (g : St), fX_neighbours_b50 x1 x2 x3 x4 x5 x6 x7 g = some o → GcX_neighbours l D T ad Γ o xo 1 xo g 50 [(1, .int x1), (2, .int x2), (3, .int x3), (4, .int x4), (5, .int x5), (6, .int x6), (7, .int x7)] [] := by
    intro x1 x2 x3 x4 x5 x6 x7 g h
    obtain ⟨⟨x4, x5, x6⟩, ht, h⟩ := bnd h
    refine lp_run (P := fun t : Int32 × Int32 × Int32 × Int32 => match t with | (x4, x5, x6, x7) => GcX_neighbours l D T ad Γ o xo 1 xo g 50 [(1, .int x1), (2, .int x2), (3, .int x3), (4, .int x4), (5, .int x5), (6, .int x6), (7, .int x7)] []) (E := fun t : Int32 × Int32 × Int32 => match t with | (x4, x5, x6) => GcX_neighbours l D T ad Γ o xo 1 xo g 184 [(3, .int x3), (4, .int x4), (5, .int x5), (6, .int x6)] []) ?_ _ _ _ ht ?_
    · rintro ⟨x4, x5, x6, x7⟩ z h Kt Ke
      show GcX_neighbours l D T ad Γ o xo 1 xo g 50 [(1, .int x1), (2, .int x2), (3, .int x3), (4, .int x4), (5, .int x5), (6, .int x6), (7, .int x7)] []
      have J178 : ∀ (x4 : Int32) (x5 : Int32) (x6 : Int32) (x7 : Int32), fX_neighbours_b178 x1 x2 x3 x4 x5 x6 x7 g = some z → GcX_neighbours l D T ad Γ o xo 1 xo g 178 [(1, .int x1), (2, .int x2), (3, .int x3), (4, .int x4), (5, .int x5), (6, .int x6), (7, .int x7)] [] := by
        intro x4 x5 x6 x7 h
        refine g_iinc (lv' := [(7, .int (x7 + (1 : Int32))), (1, .int x1), (2, .int x2), (3, .int x3), (4, .int x4), (5, .int x5), (6, .int x6)]) C dX11_neighbours_178 6 rfl (ii_1 _) (Nat.le_of_ble_eq_true rfl) rfl ?_
        refine g_goto (tgt := 50) C dX11_neighbours_181 (by decide) ?_
        exact g_sub [1, 2, 3, 4, 5, 6, 0] rfl (Kt _ (Option.some.inj h).symm)
      have J126 : ∀ (x4 : Int32) (x5 : Int32) (x6 : Int32) (x7 : Int32) (x8 : Int32) (x9 : Int32) (x10 : Int32) (s0 : Int32), fX_neighbours_b126 x1 x2 x3 x4 x5 x6 x7 x8 x9 x10 s0 g = some z → GcX_neighbours l D T ad Γ o xo 1 xo g 126 [(1, .int x1), (2, .int x2), (3, .int x3), (4, .int x4), (5, .int x5), (6, .int x6), (7, .int x7), (8, .int x8), (9, .int x9), (10, .int x10)] [.int s0] := by
        intro x4 x5 x6 x7 x8 x9 x10 s0 h
        refine g_istore (lv' := [(11, .int s0), (1, .int x1), (2, .int x2), (3, .int x3), (4, .int x4), (5, .int x5), (6, .int x6), (7, .int x7), (8, .int x8), (9, .int x9), (10, .int x10)]) C dX11_neighbours_126 (Nat.le_of_ble_eq_true rfl) rfl ?_
        refine g_iload C dX11_neighbours_128 10 rfl ?_
        refine g_if_eq C 178 dX11_neighbours_130 (by decide) (fun c130 => ?_) (fun c130 => ?_)
        · have h := iteT c130 h
          exact g_sub [1, 2, 3, 4, 5, 6, 7] rfl (J178 x4 x5 x6 x7 h)
        · have h := iteF c130 h
          refine g_iload C dX11_neighbours_133 0 rfl ?_
          refine g_if_eq C 178 dX11_neighbours_135 (by decide) (fun c135 => ?_) (fun c135 => ?_)
          · have h := iteT c135 h
            exact g_sub [1, 2, 3, 4, 5, 6, 7] rfl (J178 x4 x5 x6 x7 h)
          · have h := iteF c135 h
            refine g_iinc (lv' := [(4, .int (x4 + (1 : Int32))), (11, .int s0), (1, .int x1), (2, .int x2), (3, .int x3), (5, .int x5), (6, .int x6), (7, .int x7), (8, .int x8), (9, .int x9), (10, .int x10)]) C dX11_neighbours_138 4 rfl (ii_1 _) (Nat.le_of_ble_eq_true rfl) rfl ?_
            refine g_iload C dX11_neighbours_141 5 rfl ?_
            refine g_iconst C dX11_neighbours_143 ic_m1 ?_
            refine g_icmp_ne C 178 dX11_neighbours_144 (by decide) (fun c144 => ?_) (fun c144 => ?_)
            · have h := iteT c144 h
              refine g_bipush C dX11_neighbours_147 bp_10 ?_
              refine g_iload C dX11_neighbours_149 8 rfl ?_
              refine g_imul C dX11_neighbours_151 ?_
              refine g_iload C dX11_neighbours_152 9 rfl ?_
              refine g_iadd C dX11_neighbours_154 ?_
              refine g_istore (lv' := [(5, .int (((10 : Int32) * x8) + x9)), (4, .int (x4 + (1 : Int32))), (11, .int s0), (1, .int x1), (2, .int x2), (3, .int x3), (6, .int x6), (7, .int x7), (8, .int x8), (9, .int x9), (10, .int x10)]) C dX11_neighbours_155 (Nat.le_of_ble_eq_true rfl) rfl ?_
              refine g_iload C dX11_neighbours_157 8 rfl ?_
              refine g_iload C dX11_neighbours_159 9 rfl ?_
              refine g_iload_n C dX11_neighbours_161 rfl 3 rfl ?_
              refine g_iload_n C dX11_neighbours_162 rfl 4 rfl ?_
              refine g_xSi (As := [.int x8, .int x9, .int x1, .int x2]) (rest := []) (ro := (fX_gain x8 x9 x1 x2)) (go := g) (xo := xo) Y (fun sz => cX_gain l D T ad sK sV xo g x8 x9 x1 x2 _ rfl sz) kX_RX11_334_gain ⟨Nat.le_of_ble_eq_true rfl, Nat.le_of_ble_eq_true rfl⟩ ⟨rfl, rfl⟩ ⟨Nat.le_of_ble_eq_true rfl, Nat.le_of_ble_eq_true rfl⟩ rfl rfl (Nat.le_of_ble_eq_true rfl) dX11_neighbours_163 ?_
              refine g_iload C dX11_neighbours_166 9 rfl ?_
              refine g_iload C dX11_neighbours_168 8 rfl ?_
              refine g_iload_n C dX11_neighbours_170 rfl 3 rfl ?_
              refine g_iload_n C dX11_neighbours_171 rfl 4 rfl ?_
              refine g_xSi (As := [.int x9, .int x8, .int x1, .int x2]) (rest := [.int (fX_gain x8 x9 x1 x2)]) (ro := (fX_gain x9 x8 x1 x2)) (go := g) (xo := xo) Y (fun sz => cX_gain l D T ad sK sV xo g x9 x8 x1 x2 _ rfl sz) kX_RX11_334_gain ⟨Nat.le_of_ble_eq_true rfl, Nat.le_of_ble_eq_true rfl⟩ ⟨rfl, rfl⟩ ⟨Nat.le_of_ble_eq_true rfl, Nat.le_of_ble_eq_true rfl⟩ rfl rfl (Nat.le_of_ble_eq_true rfl) dX11_neighbours_172 ?_
              refine g_iadd C dX11_neighbours_175 ?_
              refine g_istore (lv' := [(6, .int ((fX_gain x8 x9 x1 x2) + (fX_gain x9 x8 x1 x2))), (5, .int (((10 : Int32) * x8) + x9)), (4, .int (x4 + (1 : Int32))), (11, .int s0), (1, .int x1), (2, .int x2), (3, .int x3), (7, .int x7), (8, .int x8), (9, .int x9), (10, .int x10)]) C dX11_neighbours_176 (Nat.le_of_ble_eq_true rfl) rfl ?_
              exact g_sub [4, 5, 6, 2, 1, 0, 7] rfl (J178 (x4 + (1 : Int32)) (((10 : Int32) * x8) + x9) ((fX_gain x8 x9 x1 x2) + (fX_gain x9 x8 x1 x2)) x7 h)
            · have h := iteF c144 h
              exact g_sub [2, 3, 4, 0, 5, 6, 7] rfl (J178 (x4 + (1 : Int32)) x5 x6 x7 h)
      have J96 : ∀ (x4 : Int32) (x5 : Int32) (x6 : Int32) (x7 : Int32) (x8 : Int32) (x9 : Int32) (s0 : Int32), fX_neighbours_b96 x1 x2 x3 x4 x5 x6 x7 x8 x9 s0 g = some z → GcX_neighbours l D T ad Γ o xo 1 xo g 96 [(1, .int x1), (2, .int x2), (3, .int x3), (4, .int x4), (5, .int x5), (6, .int x6), (7, .int x7), (8, .int x8), (9, .int x9)] [.int s0] := by
        intro x4 x5 x6 x7 x8 x9 s0 h
        refine g_istore (lv' := [(10, .int s0), (1, .int x1), (2, .int x2), (3, .int x3), (4, .int x4), (5, .int x5), (6, .int x6), (7, .int x7), (8, .int x8), (9, .int x9)]) C dX11_neighbours_96 (Nat.le_of_ble_eq_true rfl) rfl ?_
        refine g_iload C dX11_neighbours_98 9 rfl ?_
        refine g_iload C dX11_neighbours_100 8 rfl ?_
        refine g_iload_n C dX11_neighbours_102 rfl 1 rfl ?_
        refine g_iload_n C dX11_neighbours_103 rfl 2 rfl ?_
        refine g_xSi (As := [.int x9, .int x8, .int x1, .int x2]) (rest := []) (ro := (fX_gain x9 x8 x1 x2)) (go := g) (xo := xo) Y (fun sz => cX_gain l D T ad sK sV xo g x9 x8 x1 x2 _ rfl sz) kX_RX11_334_gain ⟨Nat.le_of_ble_eq_true rfl, Nat.le_of_ble_eq_true rfl⟩ ⟨rfl, rfl⟩ ⟨Nat.le_of_ble_eq_true rfl, Nat.le_of_ble_eq_true rfl⟩ rfl rfl (Nat.le_of_ble_eq_true rfl) dX11_neighbours_104 ?_
        refine g_iconst C dX11_neighbours_107 ic_1 ?_
        refine g_iload C dX11_neighbours_108 9 rfl ?_
        refine g_isub C dX11_neighbours_110 ?_
        refine g_iload C dX11_neighbours_111 8 rfl ?_
        refine g_iload_n C dX11_neighbours_113 rfl 1 rfl ?_
        refine g_iload_n C dX11_neighbours_114 rfl 2 rfl ?_
        refine g_xSi (As := [.int ((1 : Int32) - x9), .int x8, .int x1, .int x2]) (rest := [.int (fX_gain x9 x8 x1 x2)]) (ro := (fX_gain ((1 : Int32) - x9) x8 x1 x2)) (go := g) (xo := xo) Y (fun sz => cX_gain l D T ad sK sV xo g ((1 : Int32) - x9) x8 x1 x2 _ rfl sz) kX_RX11_334_gain ⟨Nat.le_of_ble_eq_true rfl, Nat.le_of_ble_eq_true rfl⟩ ⟨rfl, rfl⟩ ⟨Nat.le_of_ble_eq_true rfl, Nat.le_of_ble_eq_true rfl⟩ rfl rfl (Nat.le_of_ble_eq_true rfl) dX11_neighbours_115 ?_
        refine g_icmp_lt C 125 dX11_neighbours_118 (by decide) (fun c118 => ?_) (fun c118 => ?_)
        · have h := iteT c118 h
          refine g_iconst C dX11_neighbours_125 ic_0 ?_
          exact g_sub [1, 2, 3, 4, 5, 6, 7, 8, 9, 0] rfl (J126 x4 x5 x6 x7 x8 x9 s0 (0 : Int32) h)
        · have h := iteF c118 h
          refine g_iconst C dX11_neighbours_121 ic_1 ?_
          refine g_goto (tgt := 126) C dX11_neighbours_122 (by decide) ?_
          exact g_sub [1, 2, 3, 4, 5, 6, 7, 8, 9, 0] rfl (J126 x4 x5 x6 x7 x8 x9 s0 (1 : Int32) h)
      refine g_iload C dX11_neighbours_50 6 rfl ?_
      refine g_iconst C dX11_neighbours_52 ic_4 ?_
      refine g_icmp_ge C 184 dX11_neighbours_53 (by decide) (fun c53 => ?_) (fun c53 => ?_)
      · have h := iteT c53 h
        exact g_sub [2, 3, 4, 5] rfl (Ke _ (Option.some.inj h).symm)
      · have h := iteF c53 h
        refine g_iload C dX11_neighbours_56 6 rfl ?_
        refine g_iconst C dX11_neighbours_58 ic_1 ?_
        refine g_ishr C dX11_neighbours_59 ?_
        refine g_istore (lv' := [(8, .int (x7 >>> ((1 : Int32) &&& 31))), (1, .int x1), (2, .int x2), (3, .int x3), (4, .int x4), (5, .int x5), (6, .int x6), (7, .int x7)]) C dX11_neighbours_60 (Nat.le_of_ble_eq_true rfl) rfl ?_
        refine g_iload C dX11_neighbours_62 7 rfl ?_
        refine g_iconst C dX11_neighbours_64 ic_1 ?_
        refine g_iand C dX11_neighbours_65 ?_
        refine g_istore (lv' := [(9, .int (x7 &&& (1 : Int32))), (8, .int (x7 >>> ((1 : Int32) &&& 31))), (1, .int x1), (2, .int x2), (3, .int x3), (4, .int x4), (5, .int x5), (6, .int x6), (7, .int x7)]) C dX11_neighbours_66 (Nat.le_of_ble_eq_true rfl) rfl ?_
        refine g_iload C dX11_neighbours_68 1 rfl ?_
        refine g_iload C dX11_neighbours_70 0 rfl ?_
        refine g_iload_n C dX11_neighbours_72 rfl 2 rfl ?_
        refine g_iload_n C dX11_neighbours_73 rfl 3 rfl ?_
        refine g_xSi (As := [.int (x7 >>> ((1 : Int32) &&& 31)), .int (x7 &&& (1 : Int32)), .int x1, .int x2]) (rest := []) (ro := (fX_gain (x7 >>> ((1 : Int32) &&& 31)) (x7 &&& (1 : Int32)) x1 x2)) (go := g) (xo := xo) Y (fun sz => cX_gain l D T ad sK sV xo g (x7 >>> ((1 : Int32) &&& 31)) (x7 &&& (1 : Int32)) x1 x2 _ rfl sz) kX_RX11_334_gain ⟨Nat.le_of_ble_eq_true rfl, Nat.le_of_ble_eq_true rfl⟩ ⟨rfl, rfl⟩ ⟨Nat.le_of_ble_eq_true rfl, Nat.le_of_ble_eq_true rfl⟩ rfl rfl (Nat.le_of_ble_eq_true rfl) dX11_neighbours_74 ?_
        refine g_iconst C dX11_neighbours_77 ic_1 ?_
        refine g_iload C dX11_neighbours_78 1 rfl ?_
        refine g_isub C dX11_neighbours_80 ?_
        refine g_iload C dX11_neighbours_81 0 rfl ?_
        refine g_iload_n C dX11_neighbours_83 rfl 2 rfl ?_
        refine g_iload_n C dX11_neighbours_84 rfl 3 rfl ?_
        refine g_xSi (As := [.int ((1 : Int32) - (x7 >>> ((1 : Int32) &&& 31))), .int (x7 &&& (1 : Int32)), .int x1, .int x2]) (rest := [.int (fX_gain (x7 >>> ((1 : Int32) &&& 31)) (x7 &&& (1 : Int32)) x1 x2)]) (ro := (fX_gain ((1 : Int32) - (x7 >>> ((1 : Int32) &&& 31))) (x7 &&& (1 : Int32)) x1 x2)) (go := g) (xo := xo) Y (fun sz => cX_gain l D T ad sK sV xo g ((1 : Int32) - (x7 >>> ((1 : Int32) &&& 31))) (x7 &&& (1 : Int32)) x1 x2 _ rfl sz) kX_RX11_334_gain ⟨Nat.le_of_ble_eq_true rfl, Nat.le_of_ble_eq_true rfl⟩ ⟨rfl, rfl⟩ ⟨Nat.le_of_ble_eq_true rfl, Nat.le_of_ble_eq_true rfl⟩ rfl rfl (Nat.le_of_ble_eq_true rfl) dX11_neighbours_85 ?_
        refine g_icmp_lt C 95 dX11_neighbours_88 (by decide) (fun c88 => ?_) (fun c88 => ?_)
        · have h := iteT c88 h
          refine g_iconst C dX11_neighbours_95 ic_0 ?_
          exact g_sub [2, 3, 4, 5, 6, 7, 8, 1, 0] rfl (J96 x4 x5 x6 x7 (x7 >>> ((1 : Int32) &&& 31)) (x7 &&& (1 : Int32)) (0 : Int32) h)
        · have h := iteF c88 h
          refine g_iconst C dX11_neighbours_91 ic_1 ?_
          refine g_goto (tgt := 96) C dX11_neighbours_92 (by decide) ?_
          exact g_sub [2, 3, 4, 5, 6, 7, 8, 1, 0] rfl (J96 x4 x5 x6 x7 (x7 >>> ((1 : Int32) &&& 31)) (x7 &&& (1 : Int32)) (1 : Int32) h)
    · show GcX_neighbours l D T ad Γ o xo 1 xo g 184 [(3, .int x3), (4, .int x4), (5, .int x5), (6, .int x6)] []
      refine g_iload_n C dX11_neighbours_184 rfl 0 rfl ?_
      refine g_if_ne C 193 dX11_neighbours_185 (by decide) (fun c185 => ?_) (fun c185 => ?_)
      · have h := iteT c185 h
        refine g_iload C dX11_neighbours_188 1 rfl ?_
        refine g_goto (tgt := 205) C dX11_neighbours_190 (by decide) ?_
        obtain rfl := Option.some.inj h
        exact g_treti Z rfl rfl ⟨Nat.le_of_ble_eq_true rfl, Nat.le_of_ble_eq_true rfl⟩ dX11_neighbours_205
      · have h := iteF c185 h
        refine g_iload_n C dX11_neighbours_193 rfl 0 rfl ?_
        refine g_iconst C dX11_neighbours_194 ic_1 ?_
        refine g_icmp_ne C 203 dX11_neighbours_195 (by decide) (fun c195 => ?_) (fun c195 => ?_)
        · have h := iteT c195 h
          refine g_iload C dX11_neighbours_198 2 rfl ?_
          refine g_goto (tgt := 205) C dX11_neighbours_200 (by decide) ?_
          obtain rfl := Option.some.inj h
          exact g_treti Z rfl rfl ⟨Nat.le_of_ble_eq_true rfl, Nat.le_of_ble_eq_true rfl⟩ dX11_neighbours_205
        · have h := iteF c195 h
          refine g_iload C dX11_neighbours_203 3 rfl ?_
          obtain rfl := Option.some.inj h
          exact g_treti Z rfl rfl ⟨Nat.le_of_ble_eq_true rfl, Nat.le_of_ble_eq_true rfl⟩ dX11_neighbours_205
  have J35 : ∀ (x1 : Int32) (x2 : Int32) (x3 : Int32) (s1 : Int32) (g : St), fX_neighbours_b35 x1 x2 x3 s1 g = some o → GcX_neighbours l D T ad Γ o xo 0 xo g 35 [(1, .int x1), (2, .int x2), (3, .int x3)] [.int s1, .ref (ad 0)] := by
    intro x1 x2 x3 s1 g h
    obtain ⟨⟨r35, g35⟩, hr35, h⟩ := ltb h
    refine g_tVv (k := 0) (As := [.int s1]) (rest := []) (o := (r35, g35)) (xo := xo) Z (fun sz => cX_need l hl0 D T ad sK sV xo g s1 _ hr35 sz) kX_RX11_115_need ⟨Nat.le_of_ble_eq_true rfl, Nat.le_of_ble_eq_true rfl⟩ ⟨rfl, rfl⟩ ⟨Nat.le_of_ble_eq_true rfl, Nat.le_of_ble_eq_true rfl⟩ (rfl : vwCl[10]? = some (RX11, TX11, 19)) ob_0 rfl rfl (Nat.le_of_ble_eq_true rfl) dX11_neighbours_35 ⟨Nat.le_of_ble_eq_true rfl, Nat.le_of_ble_eq_true rfl⟩ (fun k9 hk9 => ?_) (fun v9 hv9 => ?_)
    · subst hk9
      obtain rfl := Option.some.inj h
      exact ⟨rfl, rfl⟩
    · subst hv9
      have h := selR h
      refine g_iconst C dX11_neighbours_38 ic_0 ?_
      refine g_istore (lv' := [(4, .int (0 : Int32)), (1, .int x1), (2, .int x2), (3, .int x3)]) C dX11_neighbours_39 (Nat.le_of_ble_eq_true rfl) rfl ?_
      refine g_iconst C dX11_neighbours_41 ic_m1 ?_
      refine g_istore (lv' := [(5, .int (-1 : Int32)), (4, .int (0 : Int32)), (1, .int x1), (2, .int x2), (3, .int x3)]) C dX11_neighbours_42 (Nat.le_of_ble_eq_true rfl) rfl ?_
      refine g_iconst C dX11_neighbours_44 ic_0 ?_
      refine g_istore (lv' := [(6, .int (0 : Int32)), (5, .int (-1 : Int32)), (4, .int (0 : Int32)), (1, .int x1), (2, .int x2), (3, .int x3)]) C dX11_neighbours_45 (Nat.le_of_ble_eq_true rfl) rfl ?_
      refine g_iconst C dX11_neighbours_47 ic_0 ?_
      refine g_istore (lv' := [(7, .int (0 : Int32)), (6, .int (0 : Int32)), (5, .int (-1 : Int32)), (4, .int (0 : Int32)), (1, .int x1), (2, .int x2), (3, .int x3)]) C dX11_neighbours_48 (Nat.le_of_ble_eq_true rfl) rfl ?_
      exact g_sub [4, 5, 6, 3, 2, 1, 0] rfl (J50 x1 x2 x3 (0 : Int32) (-1 : Int32) (0 : Int32) (0 : Int32) g35 h)
  have J34 : ∀ (x1 : Int32) (x2 : Int32) (x3 : Int32) (g : St), fX_neighbours_b34 x1 x2 x3 g = some o → GcX_neighbours l D T ad Γ o xo 0 xo g 34 [(1, .int x1), (2, .int x2), (3, .int x3)] [.ref (ad 0)] := by
    intro x1 x2 x3 g h
    refine g_iconst C dX11_neighbours_34 ic_0 ?_
    exact J35 x1 x2 x3 (0 : Int32) g h
  refine g_aload_n C dX11_neighbours_0 rfl 0 rfl ?_
  refine g_iload_n C dX11_neighbours_1 rfl 1 rfl ?_
  refine g_if_lt C 34 dX11_neighbours_2 (by decide) (fun c2 => ?_) (fun c2 => ?_)
  · have h := iteT c2 h
    exact g_sub [1, 2, 3] rfl (J34 x1 x2 x3 g h)
  · have h := iteF c2 h
    refine g_iload_n C dX11_neighbours_5 rfl 1 rfl ?_
    refine g_bipush C dX11_neighbours_6 bp_99 ?_
    refine g_icmp_gt C 34 dX11_neighbours_8 (by decide) (fun c8 => ?_) (fun c8 => ?_)
    · have h := iteT c8 h
      exact g_sub [1, 2, 3] rfl (J34 x1 x2 x3 g h)
    · have h := iteF c8 h
      refine g_iload_n C dX11_neighbours_11 rfl 2 rfl ?_
      refine g_if_lt C 34 dX11_neighbours_12 (by decide) (fun c12 => ?_) (fun c12 => ?_)
      · have h := iteT c12 h
        exact g_sub [1, 2, 3] rfl (J34 x1 x2 x3 g h)
      · have h := iteF c12 h
        refine g_iload_n C dX11_neighbours_15 rfl 2 rfl ?_
        refine g_bipush C dX11_neighbours_16 bp_99 ?_
        refine g_icmp_gt C 34 dX11_neighbours_18 (by decide) (fun c18 => ?_) (fun c18 => ?_)
        · have h := iteT c18 h
          exact g_sub [1, 2, 3] rfl (J34 x1 x2 x3 g h)
        · have h := iteF c18 h
          refine g_iload_n C dX11_neighbours_21 rfl 3 rfl ?_
          refine g_if_lt C 34 dX11_neighbours_22 (by decide) (fun c22 => ?_) (fun c22 => ?_)
          · have h := iteT c22 h
            exact g_sub [1, 2, 3] rfl (J34 x1 x2 x3 g h)
          · have h := iteF c22 h
            refine g_iload_n C dX11_neighbours_25 rfl 3 rfl ?_
            refine g_iconst C dX11_neighbours_26 ic_2 ?_
            refine g_icmp_gt C 34 dX11_neighbours_27 (by decide) (fun c27 => ?_) (fun c27 => ?_)
            · have h := iteT c27 h
              exact g_sub [1, 2, 3] rfl (J34 x1 x2 x3 g h)
            · have h := iteF c27 h
              refine g_iconst C dX11_neighbours_30 ic_1 ?_
              refine g_goto (tgt := 35) C dX11_neighbours_31 (by decide) ?_
              exact g_sub [1, 2, 3] rfl (J35 x1 x2 x3 (1 : Int32) g h)
def fX_weighNames_b71 (x1 : Int32) (x2 : Int32) (x3 : Int32) (x4 : Int32) (s0 : Int64) (g : St) (x : Sl) : Option ((Int32 × Sl) ⊕ (Sl)) :=
  if ¬ (x4 < 0 ∨ 13 ≤ x4.toNatClampNeg) then (some (.inl ((x4 + (-1 : Int32)), (sl x 15 x4.toNatClampNeg (((x 15 x4.toNatClampNeg) * x2.toInt64) + (s0 * (((16 : Int32) - x2).toInt64))))))) else none
def fX_weighNames_L48 (x1 : Int32) (x2 : Int32) (x3 : Int32) (g : St) : (Int32 × Sl) → Option ((Int32 × Sl) ⊕ (Sl)) := fun ⟨x4, x⟩ =>
  if x4 < 0 then
    (some (.inr x))
  else
    (if x4 ≤ 0 then
    (fX_weighNames_b71 x1 x2 x3 x4 (0 : Int64) g x)
  else
    (if ¬ ((x4 - (1 : Int32)) < 0 ∨ 13 ≤ (x4 - (1 : Int32)).toNatClampNeg) then (fX_weighNames_b71 x1 x2 x3 x4 (x 15 ((x4 - (1 : Int32)).toNatClampNeg)) g x) else none))
def fX_weighNames_b48 (x1 : Int32) (x2 : Int32) (x3 : Int32) (x4 : Int32) (g : St) (x : Sl) : Option ((Int32 × Sl) ⊕ (Sl)) :=
  (lp (fX_weighNames_L48 x1 x2 x3 g) fuel (x4, x)).bind (fun x => some (.inl ((x3 + (1 : Int32)), x)))
def fX_weighNames_L34 (x1 : Int32) (x2 : Int32) (g : St) : (Int32 × Sl) → Option ((Int32 × Sl) ⊕ (Sl)) := fun ⟨x3, x⟩ =>
  if x1 ≤ x3 then
    (some (.inr x))
  else
    (fX_weighNames_b48 x1 x2 x3 ((13 : Int32) - (1 : Int32)) g x)
def fX_weighNames_b34 (x1 : Int32) (x2 : Int32) (x3 : Int32) (g : St) (x : Sl) : Option (Sl) :=
  (lp (fX_weighNames_L34 x1 x2 g) fuel (x3, x)).bind (fun x => some x)
def fX_weighNames_b25 (x1 : Int32) (x2 : Int32) (x3 : Int32) (s1 : Int32) (s2 : Int64) (g : St) (x : Sl) : Option ((Int32 × Sl) ⊕ (Sl)) :=
  if ¬ (s1 < 0 ∨ 13 ≤ s1.toNatClampNeg) then (some (.inl ((x3 + (1 : Int32)), (sl x 15 s1.toNatClampNeg s2)))) else none
def fX_weighNames_L2 (x1 : Int32) (x2 : Int32) (g : St) : (Int32 × Sl) → Option ((Int32 × Sl) ⊕ (Sl)) := fun ⟨x3, x⟩ =>
  if (13 : Int32) ≤ x3 then
    (some (.inr x))
  else
    (if x3 = 0 then
    (fX_weighNames_b25 x1 x2 x3 x3 (1 : Int64) g x)
  else
    (fX_weighNames_b25 x1 x2 x3 x3 (0 : Int64) g x))
def fX_weighNames_b2 (x1 : Int32) (x2 : Int32) (x3 : Int32) (g : St) (x : Sl) : Option (Sl) :=
  (lp (fX_weighNames_L2 x1 x2 g) fuel (x3, x)).bind (fun x => fX_weighNames_b34 x1 x2 (0 : Int32) g x)
def fX_weighNames (x1 : Int32) (x2 : Int32) (g : St) (x : Sl) : Option (Sl) :=
  fX_weighNames_b2 x1 x2 (0 : Int32) g x
def rmX_weighNames : Room := { frames := 0, cells := 0, slots := 0, locals := 0 }
abbrev GcX_weighNames (l : Launch) (D : va_G) (T : cT) (ad : Nat → Nat) (Γ : Cxt) (o : Sl) (xo : Sl) (g0 : St) (x : Sl) (g : St) (pc : Nat) (lv : List (Nat × Value)) (stk : List Value) : Prop := Gj l shX D T ad 7 (rmX_weighNames) 0 0 Γ (MQ Γ.below (va_Qv (eqV g0 o) (wPost shX D T ad Γ.A) Γ.A) Γ.args Γ.s 0 0 Γ.A) x g pc lv stk
set_option maxRecDepth 100000 in
set_option maxHeartbeats 4000000 in
theorem cX_weighNames (l : Launch) (D : va_G) (T : cT) (ad : Nat → Nat) (sK sV : Nat → Nat) (xo : Sl) (g : St) (x1 : Int32) (x2 : Int32) (o : Sl) (h : fX_weighNames x1 x2 g xo = some o) (sz : Nat) : Met l yX11_weighNames wX_weighNames (rmX_weighNames) (va_Pc [.ref (ad 0), .int x1, .int x2] (xPre shX D T ad sK sV xo g sz)) (va_Qv (eqV g o) (wPost shX D T ad (aW shX T ad xo g sz)) (aW shX T ad xo g sz)) 0 0 (aW shX T ad xo g sz) := by
  refine g_startx (Qc := fun A => va_Qv (eqV g o) (wPost shX D T ad A) A) (by decide +kernel) rfl rfl (Nat.le_of_ble_eq_true rfl) (lv := [(0, .ref (ad 0)), (1, .int x1), (2, .int x2)]) rfl (fun Γ Y => ?_)
  have C := Y.1
  show GcX_weighNames l D T ad Γ o xo g xo g 0 [(0, .ref (ad 0)), (1, .int x1), (2, .int x2)] []
  have J34 : ∀ (x1 : Int32) (x2 : Int32) (x3 : Int32) (x : Sl), fX_weighNames_b34 x1 x2 x3 g x = some o → GcX_weighNames l D T ad Γ o xo g x g 34 [(0, .ref (ad 0)), (1, .int x1), (2, .int x2), (3, .int x3)] [] := by
    intro x1 x2 x3 x h
    obtain ⟨x, ht, h⟩ := bnd h
    refine lp_run (P := fun t : Int32 × Sl => match t with | (x3, x) => GcX_weighNames l D T ad Γ o xo g x g 34 [(0, .ref (ad 0)), (1, .int x1), (2, .int x2), (3, .int x3)] []) (E := fun x : Sl => GcX_weighNames l D T ad Γ o xo g x g 111 [] []) ?_ _ _ _ ht ?_
    · rintro ⟨x3, x⟩ z h Kt Ke
      show GcX_weighNames l D T ad Γ o xo g x g 34 [(0, .ref (ad 0)), (1, .int x1), (2, .int x2), (3, .int x3)] []
      have J48 : ∀ (x3 : Int32) (x4 : Int32) (x : Sl), fX_weighNames_b48 x1 x2 x3 x4 g x = some z → GcX_weighNames l D T ad Γ o xo g x g 48 [(0, .ref (ad 0)), (1, .int x1), (2, .int x2), (3, .int x3), (4, .int x4)] [] := by
        intro x3 x4 x h
        obtain ⟨x, ht, h⟩ := bnd h
        refine lp_run (P := fun t : Int32 × Sl => match t with | (x4, x) => GcX_weighNames l D T ad Γ o xo g x g 48 [(0, .ref (ad 0)), (1, .int x1), (2, .int x2), (3, .int x3), (4, .int x4)] []) (E := fun x : Sl => GcX_weighNames l D T ad Γ o xo g x g 105 [(0, .ref (ad 0)), (1, .int x1), (2, .int x2), (3, .int x3)] []) ?_ _ _ _ ht ?_
        · rintro ⟨x4, x⟩ z h Kt Ke
          show GcX_weighNames l D T ad Γ o xo g x g 48 [(0, .ref (ad 0)), (1, .int x1), (2, .int x2), (3, .int x3), (4, .int x4)] []
          have J71 : ∀ (x4 : Int32) (s0 : Int64) (x : Sl), fX_weighNames_b71 x1 x2 x3 x4 s0 g x = some z → GcX_weighNames l D T ad Γ o xo g x g 71 [(0, .ref (ad 0)), (1, .int x1), (2, .int x2), (3, .int x3), (4, .int x4)] [.long s0] := by
            intro x4 s0 x h
            refine g_lstore (lv' := [(5, .long s0), (0, .ref (ad 0)), (1, .int x1), (2, .int x2), (3, .int x3), (4, .int x4)]) C dX11_weighNames_71 (Nat.le_of_ble_eq_true rfl) rfl ?_
            refine g_aload_n C dX11_weighNames_73 rfl 1 rfl ?_
            refine gX_get_X11_93 C ob_0 rfl dX11_weighNames_74 ?_
            refine g_iload C dX11_weighNames_77 5 rfl ?_
            refine g_aload_n C dX11_weighNames_79 rfl 1 rfl ?_
            refine gX_get_X11_93 C ob_0 rfl dX11_weighNames_80 ?_
            refine g_iload C dX11_weighNames_83 5 rfl ?_
            obtain ⟨hi85, h⟩ := grd h
            refine g_lald (n := 13) (v := x 15 x4.toNatClampNeg) C lnlX_15 hi85 rfl dX11_weighNames_85 ?_
            refine g_iload_n C dX11_weighNames_86 rfl 3 rfl ?_
            refine g_i2l C dX11_weighNames_87 ?_
            refine g_lmul C dX11_weighNames_88 ?_
            refine g_lload C dX11_weighNames_89 0 rfl ?_
            refine g_bipush C dX11_weighNames_91 bp_16 ?_
            refine g_iload_n C dX11_weighNames_93 rfl 3 rfl ?_
            refine g_isub C dX11_weighNames_94 ?_
            refine g_i2l C dX11_weighNames_95 ?_
            refine g_lmul C dX11_weighNames_96 ?_
            refine g_ladd C dX11_weighNames_97 ?_
            refine g_last (n := 13) (q := x4.toNatClampNeg) C lnlX_15 hi85 rfl dX11_weighNames_98 ?_
            refine g_iinc (lv' := [(4, .int (x4 + (-1 : Int32))), (5, .long s0), (0, .ref (ad 0)), (1, .int x1), (2, .int x2), (3, .int x3)]) C dX11_weighNames_99 5 rfl (ii_m1 _) (Nat.le_of_ble_eq_true rfl) rfl ?_
            refine g_goto (tgt := 48) C dX11_weighNames_102 (by decide) ?_
            exact g_sub [2, 3, 4, 5, 0] rfl (Kt _ (Option.some.inj h).symm)
          refine g_iload C dX11_weighNames_48 4 rfl ?_
          refine g_if_lt C 105 dX11_weighNames_50 (by decide) (fun c50 => ?_) (fun c50 => ?_)
          · have h := iteT c50 h
            exact g_sub [0, 1, 2, 3] rfl (Ke _ (Option.some.inj h).symm)
          · have h := iteF c50 h
            refine g_iload C dX11_weighNames_53 4 rfl ?_
            refine g_if_le C 70 dX11_weighNames_55 (by decide) (fun c55 => ?_) (fun c55 => ?_)
            · have h := iteT c55 h
              refine g_lconst C dX11_weighNames_70 lc_0 ?_
              exact J71 x4 (0 : Int64) x h
            · have h := iteF c55 h
              refine g_aload_n C dX11_weighNames_58 rfl 0 rfl ?_
              refine gX_get_X11_93 C ob_0 rfl dX11_weighNames_59 ?_
              refine g_iload C dX11_weighNames_62 4 rfl ?_
              refine g_iconst C dX11_weighNames_64 ic_1 ?_
              refine g_isub C dX11_weighNames_65 ?_
              obtain ⟨hi66, h⟩ := grd h
              refine g_lald (n := 13) (v := x 15 ((x4 - (1 : Int32)).toNatClampNeg)) C lnlX_15 hi66 rfl dX11_weighNames_66 ?_
              refine g_goto (tgt := 71) C dX11_weighNames_67 (by decide) ?_
              exact J71 x4 (x 15 ((x4 - (1 : Int32)).toNatClampNeg)) x h
        · show GcX_weighNames l D T ad Γ o xo g x g 105 [(0, .ref (ad 0)), (1, .int x1), (2, .int x2), (3, .int x3)] []
          refine g_iinc (lv' := [(3, .int (x3 + (1 : Int32))), (0, .ref (ad 0)), (1, .int x1), (2, .int x2)]) C dX11_weighNames_105 3 rfl (ii_1 _) (Nat.le_of_ble_eq_true rfl) rfl ?_
          refine g_goto (tgt := 34) C dX11_weighNames_108 (by decide) ?_
          exact g_sub [1, 2, 3, 0] rfl (Kt _ (Option.some.inj h).symm)
      refine g_iload_n C dX11_weighNames_34 rfl 3 rfl ?_
      refine g_iload_n C dX11_weighNames_35 rfl 1 rfl ?_
      refine g_icmp_ge C 111 dX11_weighNames_36 (by decide) (fun c36 => ?_) (fun c36 => ?_)
      · have h := iteT c36 h
        exact g_sub [] rfl (Ke _ (Option.some.inj h).symm)
      · have h := iteF c36 h
        refine g_aload_n C dX11_weighNames_39 rfl 0 rfl ?_
        refine gX_get_X11_93 C ob_0 rfl dX11_weighNames_40 ?_
        refine g_alenl (n := 13) (v := (13 : Int32)) C lnlX_15 (Nat.le_of_ble_eq_true rfl) rfl dX11_weighNames_43 ?_
        refine g_iconst C dX11_weighNames_44 ic_1 ?_
        refine g_isub C dX11_weighNames_45 ?_
        refine g_istore (lv' := [(4, .int ((13 : Int32) - (1 : Int32))), (0, .ref (ad 0)), (1, .int x1), (2, .int x2), (3, .int x3)]) C dX11_weighNames_46 (Nat.le_of_ble_eq_true rfl) rfl ?_
        exact g_sub [1, 2, 3, 4, 0] rfl (J48 x3 ((13 : Int32) - (1 : Int32)) x h)
    · show GcX_weighNames l D T ad Γ o xo g x g 111 [] []
      obtain rfl := Option.some.inj h
      exact g_vret C rfl rfl dX11_weighNames_111
  have J2 : ∀ (x1 : Int32) (x2 : Int32) (x3 : Int32) (x : Sl), fX_weighNames_b2 x1 x2 x3 g x = some o → GcX_weighNames l D T ad Γ o xo g x g 2 [(0, .ref (ad 0)), (1, .int x1), (2, .int x2), (3, .int x3)] [] := by
    intro x1 x2 x3 x h
    obtain ⟨x, ht, h⟩ := bnd h
    refine lp_run (P := fun t : Int32 × Sl => match t with | (x3, x) => GcX_weighNames l D T ad Γ o xo g x g 2 [(0, .ref (ad 0)), (1, .int x1), (2, .int x2), (3, .int x3)] []) (E := fun x : Sl => GcX_weighNames l D T ad Γ o xo g x g 32 [(0, .ref (ad 0)), (1, .int x1), (2, .int x2)] []) ?_ _ _ _ ht ?_
    · rintro ⟨x3, x⟩ z h Kt Ke
      show GcX_weighNames l D T ad Γ o xo g x g 2 [(0, .ref (ad 0)), (1, .int x1), (2, .int x2), (3, .int x3)] []
      have J25 : ∀ (x3 : Int32) (s1 : Int32) (s2 : Int64) (x : Sl), fX_weighNames_b25 x1 x2 x3 s1 s2 g x = some z → GcX_weighNames l D T ad Γ o xo g x g 25 [(0, .ref (ad 0)), (1, .int x1), (2, .int x2), (3, .int x3)] [.long s2, .int s1, .ref (ad 15)] := by
        intro x3 s1 s2 x h
        obtain ⟨hi25, h⟩ := grd h
        refine g_last (n := 13) (q := s1.toNatClampNeg) C lnlX_15 hi25 rfl dX11_weighNames_25 ?_
        refine g_iinc (lv' := [(3, .int (x3 + (1 : Int32))), (0, .ref (ad 0)), (1, .int x1), (2, .int x2)]) C dX11_weighNames_26 3 rfl (ii_1 _) (Nat.le_of_ble_eq_true rfl) rfl ?_
        refine g_goto (tgt := 2) C dX11_weighNames_29 (by decide) ?_
        exact g_sub [1, 2, 3, 0] rfl (Kt _ (Option.some.inj h).symm)
      refine g_iload_n C dX11_weighNames_2 rfl 3 rfl ?_
      refine g_aload_n C dX11_weighNames_3 rfl 0 rfl ?_
      refine gX_get_X11_93 C ob_0 rfl dX11_weighNames_4 ?_
      refine g_alenl (n := 13) (v := (13 : Int32)) C lnlX_15 (Nat.le_of_ble_eq_true rfl) rfl dX11_weighNames_7 ?_
      refine g_icmp_ge C 32 dX11_weighNames_8 (by decide) (fun c8 => ?_) (fun c8 => ?_)
      · have h := iteT c8 h
        exact g_sub [0, 1, 2] rfl (Ke _ (Option.some.inj h).symm)
      · have h := iteF c8 h
        refine g_aload_n C dX11_weighNames_11 rfl 0 rfl ?_
        refine gX_get_X11_93 C ob_0 rfl dX11_weighNames_12 ?_
        refine g_iload_n C dX11_weighNames_15 rfl 3 rfl ?_
        refine g_iload_n C dX11_weighNames_16 rfl 3 rfl ?_
        refine g_if_ne C 24 dX11_weighNames_17 (by decide) (fun c17 => ?_) (fun c17 => ?_)
        · have h := iteT c17 h
          refine g_lconst C dX11_weighNames_20 lc_1 ?_
          refine g_goto (tgt := 25) C dX11_weighNames_21 (by decide) ?_
          exact J25 x3 x3 (1 : Int64) x h
        · have h := iteF c17 h
          refine g_lconst C dX11_weighNames_24 lc_0 ?_
          exact J25 x3 x3 (0 : Int64) x h
    · show GcX_weighNames l D T ad Γ o xo g x g 32 [(0, .ref (ad 0)), (1, .int x1), (2, .int x2)] []
      refine g_iconst C dX11_weighNames_32 ic_0 ?_
      refine g_istore_n (lv' := [(3, .int (0 : Int32)), (0, .ref (ad 0)), (1, .int x1), (2, .int x2)]) C dX11_weighNames_33 rfl (Nat.le_of_ble_eq_true rfl) rfl ?_
      exact g_sub [1, 2, 3, 0] rfl (J34 x1 x2 (0 : Int32) x h)
  refine g_iconst C dX11_weighNames_0 ic_0 ?_
  refine g_istore_n (lv' := [(3, .int (0 : Int32)), (0, .ref (ad 0)), (1, .int x1), (2, .int x2)]) C dX11_weighNames_1 rfl (Nat.le_of_ble_eq_true rfl) rfl ?_
  exact g_sub [1, 2, 3, 0] rfl (J2 x1 x2 (0 : Int32) xo h)
def fX_home_L115 (x4 : Int32) (g : St) (x : Sl) : (Int64 × Int64 × Int32) → Option ((Int64 × Int64 × Int32) ⊕ ((Int64 × Int64))) := fun ⟨x5, x7, x9⟩ =>
  if (64 : Int32) ≤ x9 then
    (some (.inr (x5, x7)))
  else
    (if (lg_cmp x7 (1 : Int64)) ≤ 0 then
    (some (.inr (x5, x7)))
  else
    (if (lg_cmp (x5 &&& (1 : Int64)) (0 : Int64)) = 0 then
    (some (.inl ((x5 >>> ((1 : Int32).toInt64 &&& 63)), (x7 >>> ((1 : Int32).toInt64 &&& 63)), (x9 + (1 : Int32)))))
  else
    (some (.inr (x5, x7)))))
def fX_home_b115 (x4 : Int32) (x5 : Int64) (x7 : Int64) (x9 : Int32) (g : St) (x : Sl) : Option ((Nat ⊕ Int64) × St × Sl) :=
  (lp (fX_home_L115 x4 g x) fuel (x5, x7, x9)).bind (fun ⟨x5, x7⟩ => if x4 = 0 then
    (some (.inr x5, g, x))
  else
    (some (.inr x7, g, x)))
def fX_home_L71 (x1 : Int32) (x4 : Int32) (g : St) (x : Sl) : (Int64 × Int32) → Option ((Int64 × Int32) ⊕ (Int64)) := fun ⟨x5, x7⟩ =>
  if x1 < x7 then
    (some (.inr x5))
  else
    (if (13 : Int32) ≤ x7 then
    (some (.inr x5))
  else
    (if ¬ (x7 < 0 ∨ 13 ≤ x7.toNatClampNeg) then (some (.inl ((x5 + (x 15 x7.toNatClampNeg)), (x7 + (1 : Int32))))) else none))
def fX_home_b71 (x1 : Int32) (x4 : Int32) (x5 : Int64) (x7 : Int32) (g : St) (x : Sl) : Option ((Nat ⊕ Int64) × St × Sl) :=
  (lp (fX_home_L71 x1 x4 g x) fuel (x5, x7)).bind (fun x5 => fX_home_b115 x4 x5 ((1 : Int64) <<< (((4 : Int32) * x1).toInt64 &&& 63)) (0 : Int32) g x)
def fX_home_b56 (x1 : Int32) (x2 : Int32) (x3 : Int32) (x4 : Int32) (s1 : Int32) (g : St) (x : Sl) : Option ((Nat ⊕ Int64) × St × Sl) :=
  lt1 (fX_need s1 g) fun ⟨r56, g56⟩ => Sum.elim (fun k => some (.inl k, g56, x)) (fun _ => (fX_weighNames x1 x3 g56 x).bind fun y62 => (fX_home_b71 x1 x4 (0 : Int64) x2 g56 y62)) r56
def fX_home_b55 (x1 : Int32) (x2 : Int32) (x3 : Int32) (x4 : Int32) (g : St) (x : Sl) : Option ((Nat ⊕ Int64) × St × Sl) :=
  fX_home_b56 x1 x2 x3 x4 (0 : Int32) g x
def fX_home_b51 (x1 : Int32) (x2 : Int32) (x3 : Int32) (x4 : Int32) (g : St) (x : Sl) : Option ((Nat ⊕ Int64) × St × Sl) :=
  fX_home_b56 x1 x2 x3 x4 (1 : Int32) g x
def fX_home_b26 (x1 : Int32) (x2 : Int32) (x3 : Int32) (x4 : Int32) (s1 : Int32) (g : St) (x : Sl) : Option ((Nat ⊕ Int64) × St × Sl) :=
  lt1 (fX_need s1 g) fun ⟨r26, g26⟩ => Sum.elim (fun k => some (.inl k, g26, x)) (fun _ => if x3 < 0 then
    (fX_home_b55 x1 x2 x3 x4 g26 x)
  else
    (if (16 : Int32) < x3 then
    (fX_home_b55 x1 x2 x3 x4 g26 x)
  else
    (if x4 = 0 then
    (fX_home_b51 x1 x2 x3 x4 g26 x)
  else
    (if x4 = (1 : Int32) then
    (fX_home_b51 x1 x2 x3 x4 g26 x)
  else
    (fX_home_b55 x1 x2 x3 x4 g26 x))))) r26
def fX_home_b25 (x1 : Int32) (x2 : Int32) (x3 : Int32) (x4 : Int32) (g : St) (x : Sl) : Option ((Nat ⊕ Int64) × St × Sl) :=
  fX_home_b26 x1 x2 x3 x4 (0 : Int32) g x
def fX_home (x1 : Int32) (x2 : Int32) (x3 : Int32) (x4 : Int32) (g : St) (x : Sl) : Option ((Nat ⊕ Int64) × St × Sl) :=
  if x1 < 0 then
    (fX_home_b25 x1 x2 x3 x4 g x)
  else
    (if (12 : Int32) < x1 then
    (fX_home_b25 x1 x2 x3 x4 g x)
  else
    (if x2 < 0 then
    (fX_home_b25 x1 x2 x3 x4 g x)
  else
    (if (13 : Int32) < x2 then
    (fX_home_b25 x1 x2 x3 x4 g x)
  else
    (fX_home_b26 x1 x2 x3 x4 (1 : Int32) g x))))
def rmX_home : Room := { frames := 9, cells := 2, slots := 12, locals := 141 }
abbrev GcX_home (l : Launch) (D : va_G) (T : cT) (ad : Nat → Nat) (Γ : Cxt) (o : (Nat ⊕ Int64) × St × Sl) (xo : Sl) (kc : Nat) (x : Sl) (g : St) (pc : Nat) (lv : List (Nat × Value)) (stk : List Value) : Prop := Gj l shX D T ad 10 (rmX_home) kc (6 * kc) Γ (vx_MQ Γ.below (va_Ql (xoL o) (wPost shX D T ad Γ.A) Γ.A) (xoX shX D T ad o.1 o.2 Γ.A) Γ.args Γ.s 2 12 Γ.A) x g pc lv stk
set_option maxRecDepth 100000 in
set_option maxHeartbeats 4000000 in
theorem cX_home (l : Launch) (hl0 : l.stackTraces = false) (D : va_G) (T : cT) (ad : Nat → Nat) (sK sV : Nat → Nat) (xo : Sl) (g : St) (x1 : Int32) (x2 : Int32) (x3 : Int32) (x4 : Int32) (o : (Nat ⊕ Int64) × St × Sl) (h : fX_home x1 x2 x3 x4 g xo = some o) (sz : Nat) : vx_Met l yX11_home wX_home (rmX_home) (va_Pc [.ref (ad 0), .int x1, .int x2, .int x3, .int x4] (xPre shX D T ad sK sV xo g sz)) (va_Ql (xoL o) (wPost shX D T ad (aW shX T ad xo g sz)) (aW shX T ad xo g sz)) (xoX shX D T ad o.1 o.2 (aW shX T ad xo g sz)) 2 12 (aW shX T ad xo g sz) := by
  refine g_startt (Qc := fun A => va_Ql (xoL o) (wPost shX D T ad A) A) (XC := fun A => xoX shX D T ad o.1 o.2 A) hl0 (by decide +kernel) rfl rfl (Nat.le_of_ble_eq_true rfl) (lv := [(0, .ref (ad 0)), (1, .int x1), (2, .int x2), (3, .int x3), (4, .int x4)]) rfl (fun Γ Z => ?_)
  have Y := Z.1
  have C := Y.1
  show GcX_home l D T ad Γ o xo 0 xo g 0 [(0, .ref (ad 0)), (1, .int x1), (2, .int x2), (3, .int x3), (4, .int x4)] []
  have J115 : ∀ (x4 : Int32) (x5 : Int64) (x7 : Int64) (x9 : Int32) (g : St) (x : Sl), fX_home_b115 x4 x5 x7 x9 g x = some o → GcX_home l D T ad Γ o xo 2 x g 115 [(4, .int x4), (5, .long x5), (7, .long x7), (9, .int x9)] [] := by
    intro x4 x5 x7 x9 g x h
    obtain ⟨⟨x5, x7⟩, ht, h⟩ := bnd h
    refine lp_run (P := fun t : Int64 × Int64 × Int32 => match t with | (x5, x7, x9) => GcX_home l D T ad Γ o xo 2 x g 115 [(4, .int x4), (5, .long x5), (7, .long x7), (9, .int x9)] []) (E := fun t : Int64 × Int64 => match t with | (x5, x7) => GcX_home l D T ad Γ o xo 2 x g 156 [(4, .int x4), (5, .long x5), (7, .long x7)] []) ?_ _ _ _ ht ?_
    · rintro ⟨x5, x7, x9⟩ z h Kt Ke
      show GcX_home l D T ad Γ o xo 2 x g 115 [(4, .int x4), (5, .long x5), (7, .long x7), (9, .int x9)] []
      refine g_iload C dX11_home_115 3 rfl ?_
      refine g_bipush C dX11_home_117 bp_64 ?_
      refine g_icmp_ge C 156 dX11_home_119 (by decide) (fun c119 => ?_) (fun c119 => ?_)
      · have h := iteT c119 h
        exact g_sub [0, 1, 2] rfl (Ke _ (Option.some.inj h).symm)
      · have h := iteF c119 h
        refine g_lload C dX11_home_122 2 rfl ?_
        refine g_lconst C dX11_home_124 lc_1 ?_
        refine g_lcmp C dX11_home_125 ?_
        refine g_if_le C 156 dX11_home_126 (by decide) (fun c126 => ?_) (fun c126 => ?_)
        · have h := iteT c126 h
          exact g_sub [0, 1, 2] rfl (Ke _ (Option.some.inj h).symm)
        · have h := iteF c126 h
          refine g_lload C dX11_home_129 1 rfl ?_
          refine g_lconst C dX11_home_131 lc_1 ?_
          refine g_land C dX11_home_132 ?_
          refine g_lconst C dX11_home_133 lc_0 ?_
          refine g_lcmp C dX11_home_134 ?_
          refine g_if_ne C 156 dX11_home_135 (by decide) (fun c135 => ?_) (fun c135 => ?_)
          · have h := iteT c135 h
            refine g_lload C dX11_home_138 1 rfl ?_
            refine g_iconst C dX11_home_140 ic_1 ?_
            refine g_lshr C dX11_home_141 ?_
            refine g_lstore (lv' := [(5, .long (x5 >>> ((1 : Int32).toInt64 &&& 63))), (4, .int x4), (7, .long x7), (9, .int x9)]) C dX11_home_142 (Nat.le_of_ble_eq_true rfl) rfl ?_
            refine g_lload C dX11_home_144 2 rfl ?_
            refine g_iconst C dX11_home_146 ic_1 ?_
            refine g_lshr C dX11_home_147 ?_
            refine g_lstore (lv' := [(7, .long (x7 >>> ((1 : Int32).toInt64 &&& 63))), (5, .long (x5 >>> ((1 : Int32).toInt64 &&& 63))), (4, .int x4), (9, .int x9)]) C dX11_home_148 (Nat.le_of_ble_eq_true rfl) rfl ?_
            refine g_iinc (lv' := [(9, .int (x9 + (1 : Int32))), (7, .long (x7 >>> ((1 : Int32).toInt64 &&& 63))), (5, .long (x5 >>> ((1 : Int32).toInt64 &&& 63))), (4, .int x4)]) C dX11_home_150 3 rfl (ii_1 _) (Nat.le_of_ble_eq_true rfl) rfl ?_
            refine g_goto (tgt := 115) C dX11_home_153 (by decide) ?_
            exact g_sub [3, 2, 1, 0] rfl (Kt _ (Option.some.inj h).symm)
          · have h := iteF c135 h
            exact g_sub [0, 1, 2] rfl (Ke _ (Option.some.inj h).symm)
    · show GcX_home l D T ad Γ o xo 2 x g 156 [(4, .int x4), (5, .long x5), (7, .long x7)] []
      refine g_iload C dX11_home_156 0 rfl ?_
      refine g_if_ne C 166 dX11_home_158 (by decide) (fun c158 => ?_) (fun c158 => ?_)
      · have h := iteT c158 h
        refine g_lload C dX11_home_161 1 rfl ?_
        refine g_goto (tgt := 168) C dX11_home_163 (by decide) ?_
        obtain rfl := Option.some.inj h
        exact g_tretl Z rfl ⟨Nat.le_of_ble_eq_true rfl, Nat.le_of_ble_eq_true rfl⟩ dX11_home_168
      · have h := iteF c158 h
        refine g_lload C dX11_home_166 2 rfl ?_
        obtain rfl := Option.some.inj h
        exact g_tretl Z rfl ⟨Nat.le_of_ble_eq_true rfl, Nat.le_of_ble_eq_true rfl⟩ dX11_home_168
  have J71 : ∀ (x1 : Int32) (x4 : Int32) (x5 : Int64) (x7 : Int32) (g : St) (x : Sl), fX_home_b71 x1 x4 x5 x7 g x = some o → GcX_home l D T ad Γ o xo 2 x g 71 [(0, .ref (ad 0)), (1, .int x1), (4, .int x4), (5, .long x5), (7, .int x7)] [] := by
    intro x1 x4 x5 x7 g x h
    obtain ⟨x5, ht, h⟩ := bnd h
    refine lp_run (P := fun t : Int64 × Int32 => match t with | (x5, x7) => GcX_home l D T ad Γ o xo 2 x g 71 [(0, .ref (ad 0)), (1, .int x1), (4, .int x4), (5, .long x5), (7, .int x7)] []) (E := fun x5 : Int64 => GcX_home l D T ad Γ o xo 2 x g 105 [(1, .int x1), (4, .int x4), (5, .long x5)] []) ?_ _ _ _ ht ?_
    · rintro ⟨x5, x7⟩ z h Kt Ke
      show GcX_home l D T ad Γ o xo 2 x g 71 [(0, .ref (ad 0)), (1, .int x1), (4, .int x4), (5, .long x5), (7, .int x7)] []
      refine g_iload C dX11_home_71 4 rfl ?_
      refine g_iload_n C dX11_home_73 rfl 1 rfl ?_
      refine g_icmp_gt C 105 dX11_home_74 (by decide) (fun c74 => ?_) (fun c74 => ?_)
      · have h := iteT c74 h
        exact g_sub [1, 2, 3] rfl (Ke _ (Option.some.inj h).symm)
      · have h := iteF c74 h
        refine g_iload C dX11_home_77 4 rfl ?_
        refine g_aload_n C dX11_home_79 rfl 0 rfl ?_
        refine gX_get_X11_93 C ob_0 rfl dX11_home_80 ?_
        refine g_alenl (n := 13) (v := (13 : Int32)) C lnlX_15 (Nat.le_of_ble_eq_true rfl) rfl dX11_home_83 ?_
        refine g_icmp_ge C 105 dX11_home_84 (by decide) (fun c84 => ?_) (fun c84 => ?_)
        · have h := iteT c84 h
          exact g_sub [1, 2, 3] rfl (Ke _ (Option.some.inj h).symm)
        · have h := iteF c84 h
          refine g_lload C dX11_home_87 3 rfl ?_
          refine g_aload_n C dX11_home_89 rfl 0 rfl ?_
          refine gX_get_X11_93 C ob_0 rfl dX11_home_90 ?_
          refine g_iload C dX11_home_93 4 rfl ?_
          obtain ⟨hi95, h⟩ := grd h
          refine g_lald (n := 13) (v := x 15 x7.toNatClampNeg) C lnlX_15 hi95 rfl dX11_home_95 ?_
          refine g_ladd C dX11_home_96 ?_
          refine g_lstore (lv' := [(5, .long (x5 + (x 15 x7.toNatClampNeg))), (0, .ref (ad 0)), (1, .int x1), (4, .int x4), (7, .int x7)]) C dX11_home_97 (Nat.le_of_ble_eq_true rfl) rfl ?_
          refine g_iinc (lv' := [(7, .int (x7 + (1 : Int32))), (5, .long (x5 + (x 15 x7.toNatClampNeg))), (0, .ref (ad 0)), (1, .int x1), (4, .int x4)]) C dX11_home_99 4 rfl (ii_1 _) (Nat.le_of_ble_eq_true rfl) rfl ?_
          refine g_goto (tgt := 71) C dX11_home_102 (by decide) ?_
          exact g_sub [2, 3, 4, 1, 0] rfl (Kt _ (Option.some.inj h).symm)
    · show GcX_home l D T ad Γ o xo 2 x g 105 [(1, .int x1), (4, .int x4), (5, .long x5)] []
      refine g_lconst C dX11_home_105 lc_1 ?_
      refine g_iconst C dX11_home_106 ic_4 ?_
      refine g_iload_n C dX11_home_107 rfl 0 rfl ?_
      refine g_imul C dX11_home_108 ?_
      refine g_lshl C dX11_home_109 ?_
      refine g_lstore (lv' := [(7, .long ((1 : Int64) <<< (((4 : Int32) * x1).toInt64 &&& 63))), (1, .int x1), (4, .int x4), (5, .long x5)]) C dX11_home_110 (Nat.le_of_ble_eq_true rfl) rfl ?_
      refine g_iconst C dX11_home_112 ic_0 ?_
      refine g_istore (lv' := [(9, .int (0 : Int32)), (7, .long ((1 : Int64) <<< (((4 : Int32) * x1).toInt64 &&& 63))), (1, .int x1), (4, .int x4), (5, .long x5)]) C dX11_home_113 (Nat.le_of_ble_eq_true rfl) rfl ?_
      exact g_sub [3, 4, 1, 0] rfl (J115 x4 x5 ((1 : Int64) <<< (((4 : Int32) * x1).toInt64 &&& 63)) (0 : Int32) g x h)
  have J56 : ∀ (x1 : Int32) (x2 : Int32) (x3 : Int32) (x4 : Int32) (s1 : Int32) (g : St) (x : Sl), fX_home_b56 x1 x2 x3 x4 s1 g x = some o → GcX_home l D T ad Γ o xo 1 x g 56 [(0, .ref (ad 0)), (1, .int x1), (2, .int x2), (3, .int x3), (4, .int x4)] [.int s1, .ref (ad 0)] := by
    intro x1 x2 x3 x4 s1 g x h
    obtain ⟨⟨r56, g56⟩, hr56, h⟩ := ltb h
    refine g_tVv (k := 0) (As := [.int s1]) (rest := []) (o := (r56, g56)) (xo := x) Z (fun sz => cX_need l hl0 D T ad sK sV x g s1 _ hr56 sz) kX_RX11_115_need ⟨Nat.le_of_ble_eq_true rfl, Nat.le_of_ble_eq_true rfl⟩ ⟨rfl, rfl⟩ ⟨Nat.le_of_ble_eq_true rfl, Nat.le_of_ble_eq_true rfl⟩ (rfl : vwCl[10]? = some (RX11, TX11, 19)) ob_0 rfl rfl (Nat.le_of_ble_eq_true rfl) dX11_home_56 ⟨Nat.le_of_ble_eq_true rfl, Nat.le_of_ble_eq_true rfl⟩ (fun k9 hk9 => ?_) (fun v9 hv9 => ?_)
    · subst hk9
      obtain rfl := Option.some.inj h
      exact ⟨rfl, rfl⟩
    · subst hv9
      have h := selR h
      refine g_aload_n C dX11_home_59 rfl 0 rfl ?_
      refine g_iload_n C dX11_home_60 rfl 1 rfl ?_
      refine g_iload_n C dX11_home_61 rfl 3 rfl ?_
      obtain ⟨y62, hr62, h⟩ := bnd h
      refine g_xVv (k := 0) (As := [.int x1, .int x3]) (rest := []) (go := g56) (xo := y62) Y (fun sz => cX_weighNames l D T ad sK sV x g56 x1 x3 _ hr62 sz) kX_RX11_338_weighNames ⟨Nat.le_of_ble_eq_true rfl, Nat.le_of_ble_eq_true rfl⟩ ⟨rfl, rfl⟩ ⟨Nat.le_of_ble_eq_true rfl, Nat.le_of_ble_eq_true rfl⟩ (rfl : vwCl[10]? = some (RX11, TX11, 19)) ob_0 rfl rfl (Nat.le_of_ble_eq_true rfl) dX11_home_62 ?_
      refine g_lconst C dX11_home_65 lc_0 ?_
      refine g_lstore (lv' := [(5, .long (0 : Int64)), (0, .ref (ad 0)), (1, .int x1), (2, .int x2), (3, .int x3), (4, .int x4)]) C dX11_home_66 (Nat.le_of_ble_eq_true rfl) rfl ?_
      refine g_iload_n C dX11_home_68 rfl 3 rfl ?_
      refine g_istore (lv' := [(7, .int x2), (5, .long (0 : Int64)), (0, .ref (ad 0)), (1, .int x1), (2, .int x2), (3, .int x3), (4, .int x4)]) C dX11_home_69 (Nat.le_of_ble_eq_true rfl) rfl ?_
      exact g_sub [2, 3, 6, 1, 0] rfl (J71 x1 x4 (0 : Int64) x2 g56 y62 h)
  have J55 : ∀ (x1 : Int32) (x2 : Int32) (x3 : Int32) (x4 : Int32) (g : St) (x : Sl), fX_home_b55 x1 x2 x3 x4 g x = some o → GcX_home l D T ad Γ o xo 1 x g 55 [(0, .ref (ad 0)), (1, .int x1), (2, .int x2), (3, .int x3), (4, .int x4)] [.ref (ad 0)] := by
    intro x1 x2 x3 x4 g x h
    refine g_iconst C dX11_home_55 ic_0 ?_
    exact J56 x1 x2 x3 x4 (0 : Int32) g x h
  have J51 : ∀ (x1 : Int32) (x2 : Int32) (x3 : Int32) (x4 : Int32) (g : St) (x : Sl), fX_home_b51 x1 x2 x3 x4 g x = some o → GcX_home l D T ad Γ o xo 1 x g 51 [(0, .ref (ad 0)), (1, .int x1), (2, .int x2), (3, .int x3), (4, .int x4)] [.ref (ad 0)] := by
    intro x1 x2 x3 x4 g x h
    refine g_iconst C dX11_home_51 ic_1 ?_
    refine g_goto (tgt := 56) C dX11_home_52 (by decide) ?_
    exact J56 x1 x2 x3 x4 (1 : Int32) g x h
  have J26 : ∀ (x1 : Int32) (x2 : Int32) (x3 : Int32) (x4 : Int32) (s1 : Int32) (g : St) (x : Sl), fX_home_b26 x1 x2 x3 x4 s1 g x = some o → GcX_home l D T ad Γ o xo 0 x g 26 [(0, .ref (ad 0)), (1, .int x1), (2, .int x2), (3, .int x3), (4, .int x4)] [.int s1, .ref (ad 0)] := by
    intro x1 x2 x3 x4 s1 g x h
    obtain ⟨⟨r26, g26⟩, hr26, h⟩ := ltb h
    refine g_tVv (k := 0) (As := [.int s1]) (rest := []) (o := (r26, g26)) (xo := x) Z (fun sz => cX_need l hl0 D T ad sK sV x g s1 _ hr26 sz) kX_RX11_115_need ⟨Nat.le_of_ble_eq_true rfl, Nat.le_of_ble_eq_true rfl⟩ ⟨rfl, rfl⟩ ⟨Nat.le_of_ble_eq_true rfl, Nat.le_of_ble_eq_true rfl⟩ (rfl : vwCl[10]? = some (RX11, TX11, 19)) ob_0 rfl rfl (Nat.le_of_ble_eq_true rfl) dX11_home_26 ⟨Nat.le_of_ble_eq_true rfl, Nat.le_of_ble_eq_true rfl⟩ (fun k9 hk9 => ?_) (fun v9 hv9 => ?_)
    · subst hk9
      obtain rfl := Option.some.inj h
      exact ⟨rfl, rfl⟩
    · subst hv9
      have h := selR h
      refine g_aload_n C dX11_home_29 rfl 0 rfl ?_
      refine g_iload_n C dX11_home_30 rfl 3 rfl ?_
      refine g_if_lt C 55 dX11_home_31 (by decide) (fun c31 => ?_) (fun c31 => ?_)
      · have h := iteT c31 h
        exact J55 x1 x2 x3 x4 g26 x h
      · have h := iteF c31 h
        refine g_iload_n C dX11_home_34 rfl 3 rfl ?_
        refine g_bipush C dX11_home_35 bp_16 ?_
        refine g_icmp_gt C 55 dX11_home_37 (by decide) (fun c37 => ?_) (fun c37 => ?_)
        · have h := iteT c37 h
          exact J55 x1 x2 x3 x4 g26 x h
        · have h := iteF c37 h
          refine g_iload C dX11_home_40 4 rfl ?_
          refine g_if_eq C 51 dX11_home_42 (by decide) (fun c42 => ?_) (fun c42 => ?_)
          · have h := iteT c42 h
            exact J51 x1 x2 x3 x4 g26 x h
          · have h := iteF c42 h
            refine g_iload C dX11_home_45 4 rfl ?_
            refine g_iconst C dX11_home_47 ic_1 ?_
            refine g_icmp_ne C 55 dX11_home_48 (by decide) (fun c48 => ?_) (fun c48 => ?_)
            · have h := iteT c48 h
              exact J51 x1 x2 x3 x4 g26 x h
            · have h := iteF c48 h
              exact J55 x1 x2 x3 x4 g26 x h
  have J25 : ∀ (x1 : Int32) (x2 : Int32) (x3 : Int32) (x4 : Int32) (g : St) (x : Sl), fX_home_b25 x1 x2 x3 x4 g x = some o → GcX_home l D T ad Γ o xo 0 x g 25 [(0, .ref (ad 0)), (1, .int x1), (2, .int x2), (3, .int x3), (4, .int x4)] [.ref (ad 0)] := by
    intro x1 x2 x3 x4 g x h
    refine g_iconst C dX11_home_25 ic_0 ?_
    exact J26 x1 x2 x3 x4 (0 : Int32) g x h
  refine g_aload_n C dX11_home_0 rfl 0 rfl ?_
  refine g_iload_n C dX11_home_1 rfl 1 rfl ?_
  refine g_if_lt C 25 dX11_home_2 (by decide) (fun c2 => ?_) (fun c2 => ?_)
  · have h := iteT c2 h
    exact J25 x1 x2 x3 x4 g xo h
  · have h := iteF c2 h
    refine g_iload_n C dX11_home_5 rfl 1 rfl ?_
    refine g_bipush C dX11_home_6 bp_12 ?_
    refine g_icmp_gt C 25 dX11_home_8 (by decide) (fun c8 => ?_) (fun c8 => ?_)
    · have h := iteT c8 h
      exact J25 x1 x2 x3 x4 g xo h
    · have h := iteF c8 h
      refine g_iload_n C dX11_home_11 rfl 2 rfl ?_
      refine g_if_lt C 25 dX11_home_12 (by decide) (fun c12 => ?_) (fun c12 => ?_)
      · have h := iteT c12 h
        exact J25 x1 x2 x3 x4 g xo h
      · have h := iteF c12 h
        refine g_iload_n C dX11_home_15 rfl 2 rfl ?_
        refine g_bipush C dX11_home_16 bp_13 ?_
        refine g_icmp_gt C 25 dX11_home_18 (by decide) (fun c18 => ?_) (fun c18 => ?_)
        · have h := iteT c18 h
          exact J25 x1 x2 x3 x4 g xo h
        · have h := iteF c18 h
          refine g_iconst C dX11_home_21 ic_1 ?_
          refine g_goto (tgt := 26) C dX11_home_22 (by decide) ?_
          exact J26 x1 x2 x3 x4 (1 : Int32) g xo h
def fX_flowers_L46 (x1 : Int32) (x2 : Int32) (x3 : Int32) (g : St) : Int32 → Option ((Int32) ⊕ (Int32)) := fun x4 =>
  if x4 ≤ 0 then
    (some (.inr x4))
  else
    ((fX_State_stonesUpTo 10 x2 x4 g).bind fun r58 => (if r58 ≤ x3 then
    (some (.inr x4))
  else
    (some (.inl (x4 + (-1 : Int32))))))
def fX_flowers_b46 (x1 : Int32) (x2 : Int32) (x3 : Int32) (x4 : Int32) (g : St) : Option ((Nat ⊕ Int32) × St) :=
  (lp (fX_flowers_L46 x1 x2 x3 g) fuel x4).bind (fun x4 => (fX_State_stonesOf 10 x1 g).bind fun r76 => (some (.inr (if x4 < r76 then x4 else r76), g)))
def fX_flowers_b29 (x1 : Int32) (x2 : Int32) (x3 : Int32) (s1 : Int32) (g : St) : Option ((Nat ⊕ Int32) × St) :=
  lt1 (fX_need s1 g) fun ⟨r29, g29⟩ => Sum.elim (fun k => some (.inl k, g29)) (fun _ => if ((x2 >>> (x1 &&& 31)) &&& (1 : Int32)) = 0 then
    (some (.inr (0 : Int32), g29))
  else
    (fX_flowers_b46 x1 x2 x3 (8 : Int32) g29)) r29
def fX_flowers_b28 (x1 : Int32) (x2 : Int32) (x3 : Int32) (g : St) : Option ((Nat ⊕ Int32) × St) :=
  fX_flowers_b29 x1 x2 x3 (0 : Int32) g
def fX_flowers (x1 : Int32) (x2 : Int32) (x3 : Int32) (g : St) : Option ((Nat ⊕ Int32) × St) :=
  lt1 (fX_needPerson x1 g) fun ⟨r2, g2⟩ => Sum.elim (fun k => some (.inl k, g2)) (fun _ => if (fX_areTold x2 g2) = 0 then
    (fX_flowers_b28 x1 x2 x3 g2)
  else
    (if x3 < 0 then
    (fX_flowers_b28 x1 x2 x3 g2)
  else
    (if (99 : Int32) < x3 then
    (fX_flowers_b28 x1 x2 x3 g2)
  else
    (fX_flowers_b29 x1 x2 x3 (1 : Int32) g2)))) r2
def rmX_flowers : Room := { frames := 9, cells := 2, slots := 12, locals := 141 }
abbrev GcX_flowers (l : Launch) (D : va_G) (T : cT) (ad : Nat → Nat) (Γ : Cxt) (o : (Nat ⊕ Int32) × St) (xo : Sl) (kc : Nat) (x : Sl) (g : St) (pc : Nat) (lv : List (Nat × Value)) (stk : List Value) : Prop := Gj l shX D T ad 5 (rmX_flowers) kc (6 * kc) Γ (vx_MQ Γ.below (va_Qi (xoI o xo) (wPost shX D T ad Γ.A) Γ.A) (xoX shX D T ad o.1 (o.2, xo) Γ.A) Γ.args Γ.s 2 12 Γ.A) x g pc lv stk
set_option maxRecDepth 100000 in
set_option maxHeartbeats 4000000 in
theorem cX_flowers (l : Launch) (hl0 : l.stackTraces = false) (D : va_G) (T : cT) (ad : Nat → Nat) (sK sV : Nat → Nat) (xo : Sl) (g : St) (x1 : Int32) (x2 : Int32) (x3 : Int32) (o : (Nat ⊕ Int32) × St) (h : fX_flowers x1 x2 x3 g = some o) (sz : Nat) : vx_Met l yX11_flowers wX_flowers (rmX_flowers) (va_Pc [.ref (ad 0), .int x1, .int x2, .int x3] (xPre shX D T ad sK sV xo g sz)) (va_Qi (xoI o xo) (wPost shX D T ad (aW shX T ad xo g sz)) (aW shX T ad xo g sz)) (xoX shX D T ad o.1 (o.2, xo) (aW shX T ad xo g sz)) 2 12 (aW shX T ad xo g sz) := by
  refine g_startt (Qc := fun A => va_Qi (xoI o xo) (wPost shX D T ad A) A) (XC := fun A => xoX shX D T ad o.1 (o.2, xo) A) hl0 (by decide +kernel) rfl rfl (Nat.le_of_ble_eq_true rfl) (lv := [(0, .ref (ad 0)), (1, .int x1), (2, .int x2), (3, .int x3)]) rfl (fun Γ Z => ?_)
  have Y := Z.1
  have C := Y.1
  show GcX_flowers l D T ad Γ o xo 0 xo g 0 [(0, .ref (ad 0)), (1, .int x1), (2, .int x2), (3, .int x3)] []
  have J46 : ∀ (x1 : Int32) (x2 : Int32) (x3 : Int32) (x4 : Int32) (g : St), fX_flowers_b46 x1 x2 x3 x4 g = some o → GcX_flowers l D T ad Γ o xo 2 xo g 46 [(0, .ref (ad 0)), (1, .int x1), (2, .int x2), (3, .int x3), (4, .int x4)] [] := by
    intro x1 x2 x3 x4 g h
    obtain ⟨x4, ht, h⟩ := bnd h
    refine lp_run (P := fun x4 : Int32 => GcX_flowers l D T ad Γ o xo 2 xo g 46 [(0, .ref (ad 0)), (1, .int x1), (2, .int x2), (3, .int x3), (4, .int x4)] []) (E := fun x4 : Int32 => GcX_flowers l D T ad Γ o xo 2 xo g 71 [(0, .ref (ad 0)), (1, .int x1), (4, .int x4)] []) ?_ _ _ _ ht ?_
    · rintro x4 z h Kt Ke
      show GcX_flowers l D T ad Γ o xo 2 xo g 46 [(0, .ref (ad 0)), (1, .int x1), (2, .int x2), (3, .int x3), (4, .int x4)] []
      refine g_iload C dX11_flowers_46 4 rfl ?_
      refine g_if_le C 71 dX11_flowers_48 (by decide) (fun c48 => ?_) (fun c48 => ?_)
      · have h := iteT c48 h
        exact g_sub [0, 1, 4] rfl (Ke _ (Option.some.inj h).symm)
      · have h := iteF c48 h
        refine g_aload_n C dX11_flowers_51 rfl 0 rfl ?_
        refine gX_get_X11_65 C ob_0 rfl dX11_flowers_52 ?_
        refine g_iload_n C dX11_flowers_55 rfl 2 rfl ?_
        refine g_iload C dX11_flowers_56 4 rfl ?_
        obtain ⟨r58, hr58, h⟩ := bnd h
        refine g_xVi (k := 10) (As := [.int x2, .int x4]) (rest := []) (ro := r58) (go := g) (xo := xo) Y (fun sz => cX_State_stonesUpTo l D T ad sK sV xo g 10 x2 x4 (Or.inl rfl) _ hr58 sz) kX_RX11_341_State_stonesUpTo ⟨Nat.le_of_ble_eq_true rfl, Nat.le_of_ble_eq_true rfl⟩ ⟨rfl, rfl⟩ ⟨Nat.le_of_ble_eq_true rfl, Nat.le_of_ble_eq_true rfl⟩ (rfl : vwCl[6]? = some (RX7, TX7, 6)) ob_10 rfl rfl (Nat.le_of_ble_eq_true rfl) dX11_flowers_58 ?_
        refine g_iload_n C dX11_flowers_61 rfl 3 rfl ?_
        refine g_icmp_le C 71 dX11_flowers_62 (by decide) (fun c62 => ?_) (fun c62 => ?_)
        · have h := iteT c62 h
          exact g_sub [0, 1, 4] rfl (Ke _ (Option.some.inj h).symm)
        · have h := iteF c62 h
          refine g_iinc (lv' := [(4, .int (x4 + (-1 : Int32))), (0, .ref (ad 0)), (1, .int x1), (2, .int x2), (3, .int x3)]) C dX11_flowers_65 4 rfl (ii_m1 _) (Nat.le_of_ble_eq_true rfl) rfl ?_
          refine g_goto (tgt := 46) C dX11_flowers_68 (by decide) ?_
          exact g_sub [1, 2, 3, 4, 0] rfl (Kt _ (Option.some.inj h).symm)
    · show GcX_flowers l D T ad Γ o xo 2 xo g 71 [(0, .ref (ad 0)), (1, .int x1), (4, .int x4)] []
      refine g_aload_n C dX11_flowers_71 rfl 0 rfl ?_
      refine gX_get_X11_65 C ob_0 rfl dX11_flowers_72 ?_
      refine g_iload_n C dX11_flowers_75 rfl 1 rfl ?_
      obtain ⟨r76, hr76, h⟩ := bnd h
      refine g_xVi (k := 10) (As := [.int x1]) (rest := []) (ro := r76) (go := g) (xo := xo) Y (fun sz => cX_State_stonesOf l D T ad sK sV xo g 10 x1 (Or.inl rfl) _ hr76 sz) kX_RX11_237_State_stonesOf ⟨Nat.le_of_ble_eq_true rfl, Nat.le_of_ble_eq_true rfl⟩ ⟨rfl, rfl⟩ ⟨Nat.le_of_ble_eq_true rfl, Nat.le_of_ble_eq_true rfl⟩ (rfl : vwCl[6]? = some (RX7, TX7, 6)) ob_10 rfl rfl (Nat.le_of_ble_eq_true rfl) dX11_flowers_76 ?_
      refine g_iload C dX11_flowers_79 2 rfl ?_
      refine g_mmin (rest := []) C (List.mem_cons_of_mem _ bx_756) (List.mem_cons_of_mem _ bx_56) (List.mem_cons_of_mem _ bx_57) (List.mem_cons_of_mem _ bx_58) (Nat.le_of_ble_eq_true rfl) (Nat.le_of_ble_eq_true rfl) ⟨Nat.le_of_ble_eq_true rfl, Nat.le_of_ble_eq_true rfl⟩ dX11_flowers_81 ?_
      obtain rfl := Option.some.inj h
      exact g_treti Z rfl rfl ⟨Nat.le_of_ble_eq_true rfl, Nat.le_of_ble_eq_true rfl⟩ dX11_flowers_84
  have J29 : ∀ (x1 : Int32) (x2 : Int32) (x3 : Int32) (s1 : Int32) (g : St), fX_flowers_b29 x1 x2 x3 s1 g = some o → GcX_flowers l D T ad Γ o xo 1 xo g 29 [(0, .ref (ad 0)), (1, .int x1), (2, .int x2), (3, .int x3)] [.int s1, .ref (ad 0)] := by
    intro x1 x2 x3 s1 g h
    obtain ⟨⟨r29, g29⟩, hr29, h⟩ := ltb h
    refine g_tVv (k := 0) (As := [.int s1]) (rest := []) (o := (r29, g29)) (xo := xo) Z (fun sz => cX_need l hl0 D T ad sK sV xo g s1 _ hr29 sz) kX_RX11_115_need ⟨Nat.le_of_ble_eq_true rfl, Nat.le_of_ble_eq_true rfl⟩ ⟨rfl, rfl⟩ ⟨Nat.le_of_ble_eq_true rfl, Nat.le_of_ble_eq_true rfl⟩ (rfl : vwCl[10]? = some (RX11, TX11, 19)) ob_0 rfl rfl (Nat.le_of_ble_eq_true rfl) dX11_flowers_29 ⟨Nat.le_of_ble_eq_true rfl, Nat.le_of_ble_eq_true rfl⟩ (fun k9 hk9 => ?_) (fun v9 hv9 => ?_)
    · subst hk9
      obtain rfl := Option.some.inj h
      exact ⟨rfl, rfl⟩
    · subst hv9
      have h := selR h
      refine g_iload_n C dX11_flowers_32 rfl 2 rfl ?_
      refine g_iload_n C dX11_flowers_33 rfl 1 rfl ?_
      refine g_ishr C dX11_flowers_34 ?_
      refine g_iconst C dX11_flowers_35 ic_1 ?_
      refine g_iand C dX11_flowers_36 ?_
      refine g_if_ne C 42 dX11_flowers_37 (by decide) (fun c37 => ?_) (fun c37 => ?_)
      · have h := iteT c37 h
        refine g_iconst C dX11_flowers_40 ic_0 ?_
        obtain rfl := Option.some.inj h
        exact g_treti Z rfl rfl ⟨Nat.le_of_ble_eq_true rfl, Nat.le_of_ble_eq_true rfl⟩ dX11_flowers_41
      · have h := iteF c37 h
        refine g_bipush C dX11_flowers_42 bp_8 ?_
        refine g_istore (lv' := [(4, .int (8 : Int32)), (0, .ref (ad 0)), (1, .int x1), (2, .int x2), (3, .int x3)]) C dX11_flowers_44 (Nat.le_of_ble_eq_true rfl) rfl ?_
        exact g_sub [1, 2, 3, 4, 0] rfl (J46 x1 x2 x3 (8 : Int32) g29 h)
  have J28 : ∀ (x1 : Int32) (x2 : Int32) (x3 : Int32) (g : St), fX_flowers_b28 x1 x2 x3 g = some o → GcX_flowers l D T ad Γ o xo 1 xo g 28 [(0, .ref (ad 0)), (1, .int x1), (2, .int x2), (3, .int x3)] [.ref (ad 0)] := by
    intro x1 x2 x3 g h
    refine g_iconst C dX11_flowers_28 ic_0 ?_
    exact J29 x1 x2 x3 (0 : Int32) g h
  refine g_aload_n C dX11_flowers_0 rfl 0 rfl ?_
  refine g_iload_n C dX11_flowers_1 rfl 1 rfl ?_
  obtain ⟨⟨r2, g2⟩, hr2, h⟩ := ltb h
  refine g_tVv (k := 0) (As := [.int x1]) (rest := []) (o := (r2, g2)) (xo := xo) Z (fun sz => cX_needPerson l hl0 D T ad sK sV xo g x1 _ hr2 sz) kX_RX11_214_needPerson ⟨Nat.le_of_ble_eq_true rfl, Nat.le_of_ble_eq_true rfl⟩ ⟨rfl, rfl⟩ ⟨Nat.le_of_ble_eq_true rfl, Nat.le_of_ble_eq_true rfl⟩ (rfl : vwCl[10]? = some (RX11, TX11, 19)) ob_0 rfl rfl (Nat.le_of_ble_eq_true rfl) dX11_flowers_2 ⟨Nat.le_of_ble_eq_true rfl, Nat.le_of_ble_eq_true rfl⟩ (fun k9 hk9 => ?_) (fun v9 hv9 => ?_)
  · subst hk9
    obtain rfl := Option.some.inj h
    exact ⟨rfl, rfl⟩
  · subst hv9
    have h := selR h
    refine g_aload_n C dX11_flowers_5 rfl 0 rfl ?_
    refine g_aload_n C dX11_flowers_6 rfl 0 rfl ?_
    refine g_iload_n C dX11_flowers_7 rfl 2 rfl ?_
    refine g_xVz (k := 0) (As := [.int x2]) (rest := [.ref (ad 0)]) (ro := (fX_areTold x2 g2)) (go := g2) (xo := xo) Y (fun sz => cX_areTold l D T ad sK sV xo g2 x2 _ rfl sz) kX_RX11_288_areTold ⟨Nat.le_of_ble_eq_true rfl, Nat.le_of_ble_eq_true rfl⟩ ⟨rfl, rfl⟩ ⟨Nat.le_of_ble_eq_true rfl, Nat.le_of_ble_eq_true rfl⟩ (rfl : vwCl[10]? = some (RX11, TX11, 19)) ob_0 rfl rfl (Nat.le_of_ble_eq_true rfl) dX11_flowers_8 (fun hz8 => ?_)
    refine g_if_eq C 28 dX11_flowers_11 (by decide) (fun c11 => ?_) (fun c11 => ?_)
    · have h := iteT c11 h
      exact J28 x1 x2 x3 g2 h
    · have h := iteF c11 h
      refine g_iload_n C dX11_flowers_14 rfl 3 rfl ?_
      refine g_if_lt C 28 dX11_flowers_15 (by decide) (fun c15 => ?_) (fun c15 => ?_)
      · have h := iteT c15 h
        exact J28 x1 x2 x3 g2 h
      · have h := iteF c15 h
        refine g_iload_n C dX11_flowers_18 rfl 3 rfl ?_
        refine g_bipush C dX11_flowers_19 bp_99 ?_
        refine g_icmp_gt C 28 dX11_flowers_21 (by decide) (fun c21 => ?_) (fun c21 => ?_)
        · have h := iteT c21 h
          exact J28 x1 x2 x3 g2 h
        · have h := iteF c21 h
          refine g_iconst C dX11_flowers_24 ic_1 ?_
          refine g_goto (tgt := 29) C dX11_flowers_25 (by decide) ?_
          exact J29 x1 x2 x3 (1 : Int32) g2 h
def fX_honoured_b60 (x1 : Int32) (x2 : Int32) (x3 : Int32) (x4 : Int32) (g : St) : Option ((Int32 × Int32 × Int32) ⊕ ((Int32 × Int32))) :=
  some (.inl (x2, x3, (x4 + (1 : Int32))))
def fX_honoured_L25 (x1 : Int32) (g : St) : (Int32 × Int32 × Int32) → Option ((Int32 × Int32 × Int32) ⊕ ((Int32 × Int32))) := fun ⟨x2, x3, x4⟩ =>
  if (g 2 0) ≤ x4 then
    (some (.inr (x2, x3)))
  else
    ((fX_State_stonesOf 10 x4 g).bind fun r43 => (if r43 ≤ x3 then
    (fX_honoured_b60 x1 x2 x3 x4 g)
  else
    (fX_honoured_b60 x1 x4 r43 x4 g)))
def fX_honoured_b25 (x1 : Int32) (x2 : Int32) (x3 : Int32) (x4 : Int32) (g : St) : Option ((Nat ⊕ Int32) × St) :=
  (lp (fX_honoured_L25 x1 g) fuel (x2, x3, x4)).bind (fun ⟨x2, x3⟩ => if x2 = (-1 : Int32) then
    (some (.inr x2, g))
  else
    (if x1 = 0 then
    (some (.inr x2, g))
  else
    (some (.inr x3, g))))
def fX_honoured_b15 (x1 : Int32) (s1 : Int32) (g : St) : Option ((Nat ⊕ Int32) × St) :=
  lt1 (fX_need s1 g) fun ⟨r15, g15⟩ => Sum.elim (fun k => some (.inl k, g15)) (fun _ => fX_honoured_b25 x1 (-1 : Int32) (0 : Int32) (0 : Int32) g15) r15
def fX_honoured_b10 (x1 : Int32) (g : St) : Option ((Nat ⊕ Int32) × St) :=
  fX_honoured_b15 x1 (1 : Int32) g
def fX_honoured (x1 : Int32) (g : St) : Option ((Nat ⊕ Int32) × St) :=
  if x1 = 0 then
    (fX_honoured_b10 x1 g)
  else
    (if x1 = (1 : Int32) then
    (fX_honoured_b10 x1 g)
  else
    (fX_honoured_b15 x1 (0 : Int32) g))
def rmX_honoured : Room := { frames := 9, cells := 1, slots := 6, locals := 141 }
abbrev GcX_honoured (l : Launch) (D : va_G) (T : cT) (ad : Nat → Nat) (Γ : Cxt) (o : (Nat ⊕ Int32) × St) (xo : Sl) (kc : Nat) (x : Sl) (g : St) (pc : Nat) (lv : List (Nat × Value)) (stk : List Value) : Prop := Gj l shX D T ad 6 (rmX_honoured) kc (6 * kc) Γ (vx_MQ Γ.below (va_Qi (xoI o xo) (wPost shX D T ad Γ.A) Γ.A) (xoX shX D T ad o.1 (o.2, xo) Γ.A) Γ.args Γ.s 1 6 Γ.A) x g pc lv stk
set_option maxRecDepth 100000 in
set_option maxHeartbeats 4000000 in
theorem cX_honoured (l : Launch) (hl0 : l.stackTraces = false) (D : va_G) (T : cT) (ad : Nat → Nat) (sK sV : Nat → Nat) (xo : Sl) (g : St) (x1 : Int32) (o : (Nat ⊕ Int32) × St) (h : fX_honoured x1 g = some o) (sz : Nat) : vx_Met l yX11_honoured wX_honoured (rmX_honoured) (va_Pc [.ref (ad 0), .int x1] (xPre shX D T ad sK sV xo g sz)) (va_Qi (xoI o xo) (wPost shX D T ad (aW shX T ad xo g sz)) (aW shX T ad xo g sz)) (xoX shX D T ad o.1 (o.2, xo) (aW shX T ad xo g sz)) 1 6 (aW shX T ad xo g sz) := by
  refine g_startt (Qc := fun A => va_Qi (xoI o xo) (wPost shX D T ad A) A) (XC := fun A => xoX shX D T ad o.1 (o.2, xo) A) hl0 (by decide +kernel) rfl rfl (Nat.le_of_ble_eq_true rfl) (lv := [(0, .ref (ad 0)), (1, .int x1)]) rfl (fun Γ Z => ?_)
  have Y := Z.1
  have C := Y.1
  show GcX_honoured l D T ad Γ o xo 0 xo g 0 [(0, .ref (ad 0)), (1, .int x1)] []
  have J25 : ∀ (x1 : Int32) (x2 : Int32) (x3 : Int32) (x4 : Int32) (g : St), fX_honoured_b25 x1 x2 x3 x4 g = some o → GcX_honoured l D T ad Γ o xo 1 xo g 25 [(0, .ref (ad 0)), (1, .int x1), (2, .int x2), (3, .int x3), (4, .int x4)] [] := by
    intro x1 x2 x3 x4 g h
    obtain ⟨⟨x2, x3⟩, ht, h⟩ := bnd h
    refine lp_run (P := fun t : Int32 × Int32 × Int32 => match t with | (x2, x3, x4) => GcX_honoured l D T ad Γ o xo 1 xo g 25 [(0, .ref (ad 0)), (1, .int x1), (2, .int x2), (3, .int x3), (4, .int x4)] []) (E := fun t : Int32 × Int32 => match t with | (x2, x3) => GcX_honoured l D T ad Γ o xo 1 xo g 66 [(1, .int x1), (2, .int x2), (3, .int x3)] []) ?_ _ _ _ ht ?_
    · rintro ⟨x2, x3, x4⟩ z h Kt Ke
      show GcX_honoured l D T ad Γ o xo 1 xo g 25 [(0, .ref (ad 0)), (1, .int x1), (2, .int x2), (3, .int x3), (4, .int x4)] []
      have J60 : ∀ (x2 : Int32) (x3 : Int32) (x4 : Int32), fX_honoured_b60 x1 x2 x3 x4 g = some z → GcX_honoured l D T ad Γ o xo 1 xo g 60 [(0, .ref (ad 0)), (1, .int x1), (2, .int x2), (3, .int x3), (4, .int x4)] [] := by
        intro x2 x3 x4 h
        refine g_iinc (lv' := [(4, .int (x4 + (1 : Int32))), (0, .ref (ad 0)), (1, .int x1), (2, .int x2), (3, .int x3)]) C dX11_honoured_60 4 rfl (ii_1 _) (Nat.le_of_ble_eq_true rfl) rfl ?_
        refine g_goto (tgt := 25) C dX11_honoured_63 (by decide) ?_
        exact g_sub [1, 2, 3, 4, 0] rfl (Kt _ (Option.some.inj h).symm)
      refine g_iload C dX11_honoured_25 4 rfl ?_
      refine g_aload_n C dX11_honoured_27 rfl 0 rfl ?_
      refine gX_get_X11_19 C ob_0 rfl dX11_honoured_28 ?_
      refine gX_get_X11_143 (v := g 2 0) C ob_2 rfl rfl dX11_honoured_31 ?_
      refine g_icmp_ge C 66 dX11_honoured_34 (by decide) (fun c34 => ?_) (fun c34 => ?_)
      · have h := iteT c34 h
        exact g_sub [1, 2, 3] rfl (Ke _ (Option.some.inj h).symm)
      · have h := iteF c34 h
        refine g_aload_n C dX11_honoured_37 rfl 0 rfl ?_
        refine gX_get_X11_65 C ob_0 rfl dX11_honoured_38 ?_
        refine g_iload C dX11_honoured_41 4 rfl ?_
        obtain ⟨r43, hr43, h⟩ := bnd h
        refine g_xVi (k := 10) (As := [.int x4]) (rest := []) (ro := r43) (go := g) (xo := xo) Y (fun sz => cX_State_stonesOf l D T ad sK sV xo g 10 x4 (Or.inl rfl) _ hr43 sz) kX_RX11_237_State_stonesOf ⟨Nat.le_of_ble_eq_true rfl, Nat.le_of_ble_eq_true rfl⟩ ⟨rfl, rfl⟩ ⟨Nat.le_of_ble_eq_true rfl, Nat.le_of_ble_eq_true rfl⟩ (rfl : vwCl[6]? = some (RX7, TX7, 6)) ob_10 rfl rfl (Nat.le_of_ble_eq_true rfl) dX11_honoured_43 ?_
        refine g_istore (lv' := [(5, .int r43), (0, .ref (ad 0)), (1, .int x1), (2, .int x2), (3, .int x3), (4, .int x4)]) C dX11_honoured_46 (Nat.le_of_ble_eq_true rfl) rfl ?_
        refine g_iload C dX11_honoured_48 0 rfl ?_
        refine g_iload_n C dX11_honoured_50 rfl 4 rfl ?_
        refine g_icmp_le C 60 dX11_honoured_51 (by decide) (fun c51 => ?_) (fun c51 => ?_)
        · have h := iteT c51 h
          exact g_sub [1, 2, 3, 4, 5] rfl (J60 x2 x3 x4 h)
        · have h := iteF c51 h
          refine g_iload C dX11_honoured_54 5 rfl ?_
          refine g_istore_n (lv' := [(2, .int x4), (5, .int r43), (0, .ref (ad 0)), (1, .int x1), (3, .int x3), (4, .int x4)]) C dX11_honoured_56 rfl (Nat.le_of_ble_eq_true rfl) rfl ?_
          refine g_iload C dX11_honoured_57 1 rfl ?_
          refine g_istore_n (lv' := [(3, .int r43), (2, .int x4), (5, .int r43), (0, .ref (ad 0)), (1, .int x1), (4, .int x4)]) C dX11_honoured_59 rfl (Nat.le_of_ble_eq_true rfl) rfl ?_
          exact g_sub [3, 4, 1, 0, 5] rfl (J60 x4 r43 x4 h)
    · show GcX_honoured l D T ad Γ o xo 1 xo g 66 [(1, .int x1), (2, .int x2), (3, .int x3)] []
      refine g_iload_n C dX11_honoured_66 rfl 1 rfl ?_
      refine g_iconst C dX11_honoured_67 ic_m1 ?_
      refine g_icmp_eq C 75 dX11_honoured_68 (by decide) (fun c68 => ?_) (fun c68 => ?_)
      · have h := iteT c68 h
        refine g_iload_n C dX11_honoured_75 rfl 1 rfl ?_
        refine g_goto (tgt := 80) C dX11_honoured_76 (by decide) ?_
        obtain rfl := Option.some.inj h
        exact g_treti Z rfl rfl ⟨Nat.le_of_ble_eq_true rfl, Nat.le_of_ble_eq_true rfl⟩ dX11_honoured_80
      · have h := iteF c68 h
        refine g_iload_n C dX11_honoured_71 rfl 0 rfl ?_
        refine g_if_ne C 79 dX11_honoured_72 (by decide) (fun c72 => ?_) (fun c72 => ?_)
        · have h := iteT c72 h
          refine g_iload_n C dX11_honoured_75 rfl 1 rfl ?_
          refine g_goto (tgt := 80) C dX11_honoured_76 (by decide) ?_
          obtain rfl := Option.some.inj h
          exact g_treti Z rfl rfl ⟨Nat.le_of_ble_eq_true rfl, Nat.le_of_ble_eq_true rfl⟩ dX11_honoured_80
        · have h := iteF c72 h
          refine g_iload_n C dX11_honoured_79 rfl 2 rfl ?_
          obtain rfl := Option.some.inj h
          exact g_treti Z rfl rfl ⟨Nat.le_of_ble_eq_true rfl, Nat.le_of_ble_eq_true rfl⟩ dX11_honoured_80
  have J15 : ∀ (x1 : Int32) (s1 : Int32) (g : St), fX_honoured_b15 x1 s1 g = some o → GcX_honoured l D T ad Γ o xo 0 xo g 15 [(0, .ref (ad 0)), (1, .int x1)] [.int s1, .ref (ad 0)] := by
    intro x1 s1 g h
    obtain ⟨⟨r15, g15⟩, hr15, h⟩ := ltb h
    refine g_tVv (k := 0) (As := [.int s1]) (rest := []) (o := (r15, g15)) (xo := xo) Z (fun sz => cX_need l hl0 D T ad sK sV xo g s1 _ hr15 sz) kX_RX11_115_need ⟨Nat.le_of_ble_eq_true rfl, Nat.le_of_ble_eq_true rfl⟩ ⟨rfl, rfl⟩ ⟨Nat.le_of_ble_eq_true rfl, Nat.le_of_ble_eq_true rfl⟩ (rfl : vwCl[10]? = some (RX11, TX11, 19)) ob_0 rfl rfl (Nat.le_of_ble_eq_true rfl) dX11_honoured_15 ⟨Nat.le_of_ble_eq_true rfl, Nat.le_of_ble_eq_true rfl⟩ (fun k9 hk9 => ?_) (fun v9 hv9 => ?_)
    · subst hk9
      obtain rfl := Option.some.inj h
      exact ⟨rfl, rfl⟩
    · subst hv9
      have h := selR h
      refine g_iconst C dX11_honoured_18 ic_m1 ?_
      refine g_istore_n (lv' := [(2, .int (-1 : Int32)), (0, .ref (ad 0)), (1, .int x1)]) C dX11_honoured_19 rfl (Nat.le_of_ble_eq_true rfl) rfl ?_
      refine g_iconst C dX11_honoured_20 ic_0 ?_
      refine g_istore_n (lv' := [(3, .int (0 : Int32)), (2, .int (-1 : Int32)), (0, .ref (ad 0)), (1, .int x1)]) C dX11_honoured_21 rfl (Nat.le_of_ble_eq_true rfl) rfl ?_
      refine g_iconst C dX11_honoured_22 ic_0 ?_
      refine g_istore (lv' := [(4, .int (0 : Int32)), (3, .int (0 : Int32)), (2, .int (-1 : Int32)), (0, .ref (ad 0)), (1, .int x1)]) C dX11_honoured_23 (Nat.le_of_ble_eq_true rfl) rfl ?_
      exact g_sub [3, 4, 2, 1, 0] rfl (J25 x1 (-1 : Int32) (0 : Int32) (0 : Int32) g15 h)
  have J10 : ∀ (x1 : Int32) (g : St), fX_honoured_b10 x1 g = some o → GcX_honoured l D T ad Γ o xo 0 xo g 10 [(0, .ref (ad 0)), (1, .int x1)] [.ref (ad 0)] := by
    intro x1 g h
    refine g_iconst C dX11_honoured_10 ic_1 ?_
    refine g_goto (tgt := 15) C dX11_honoured_11 (by decide) ?_
    exact J15 x1 (1 : Int32) g h
  refine g_aload_n C dX11_honoured_0 rfl 0 rfl ?_
  refine g_iload_n C dX11_honoured_1 rfl 1 rfl ?_
  refine g_if_eq C 10 dX11_honoured_2 (by decide) (fun c2 => ?_) (fun c2 => ?_)
  · have h := iteT c2 h
    exact J10 x1 g h
  · have h := iteF c2 h
    refine g_iload_n C dX11_honoured_5 rfl 1 rfl ?_
    refine g_iconst C dX11_honoured_6 ic_1 ?_
    refine g_icmp_ne C 14 dX11_honoured_7 (by decide) (fun c7 => ?_) (fun c7 => ?_)
    · have h := iteT c7 h
      exact J10 x1 g h
    · have h := iteF c7 h
      refine g_iconst C dX11_honoured_14 ic_0 ?_
      exact J15 x1 (0 : Int32) g h
def fX_sued_b15 (x1 : Int32) (s1 : Int32) (g : St) : Option ((Nat ⊕ Int32) × St) :=
  lt1 (fX_need s1 g) fun ⟨r15, g15⟩ => Sum.elim (fun k => some (.inl k, g15)) (fun _ => (fX_State_mostInDebt 10 g15).bind fun r22 => ((fX_Rows_at 37 r22 g15).bind fun r34 => (if 0 < r34 then
    (if x1 = 0 then
    (some (.inr r22, g15))
  else
    (some (.inr r34, g15)))
  else
    (some (.inr (-1 : Int32), g15))))) r15
def fX_sued_b10 (x1 : Int32) (g : St) : Option ((Nat ⊕ Int32) × St) :=
  fX_sued_b15 x1 (1 : Int32) g
def fX_sued (x1 : Int32) (g : St) : Option ((Nat ⊕ Int32) × St) :=
  if x1 = 0 then
    (fX_sued_b10 x1 g)
  else
    (if x1 = (1 : Int32) then
    (fX_sued_b10 x1 g)
  else
    (fX_sued_b15 x1 (0 : Int32) g))
def rmX_sued : Room := { frames := 9, cells := 1, slots := 6, locals := 141 }
abbrev GcX_sued (l : Launch) (D : va_G) (T : cT) (ad : Nat → Nat) (Γ : Cxt) (o : (Nat ⊕ Int32) × St) (xo : Sl) (kc : Nat) (x : Sl) (g : St) (pc : Nat) (lv : List (Nat × Value)) (stk : List Value) : Prop := Gj l shX D T ad 4 (rmX_sued) kc (6 * kc) Γ (vx_MQ Γ.below (va_Qi (xoI o xo) (wPost shX D T ad Γ.A) Γ.A) (xoX shX D T ad o.1 (o.2, xo) Γ.A) Γ.args Γ.s 1 6 Γ.A) x g pc lv stk
set_option maxRecDepth 100000 in
set_option maxHeartbeats 4000000 in
theorem cX_sued (l : Launch) (hl0 : l.stackTraces = false) (D : va_G) (T : cT) (ad : Nat → Nat) (sK sV : Nat → Nat) (xo : Sl) (g : St) (x1 : Int32) (o : (Nat ⊕ Int32) × St) (h : fX_sued x1 g = some o) (sz : Nat) : vx_Met l yX11_sued wX_sued (rmX_sued) (va_Pc [.ref (ad 0), .int x1] (xPre shX D T ad sK sV xo g sz)) (va_Qi (xoI o xo) (wPost shX D T ad (aW shX T ad xo g sz)) (aW shX T ad xo g sz)) (xoX shX D T ad o.1 (o.2, xo) (aW shX T ad xo g sz)) 1 6 (aW shX T ad xo g sz) := by
  refine g_startt (Qc := fun A => va_Qi (xoI o xo) (wPost shX D T ad A) A) (XC := fun A => xoX shX D T ad o.1 (o.2, xo) A) hl0 (by decide +kernel) rfl rfl (Nat.le_of_ble_eq_true rfl) (lv := [(0, .ref (ad 0)), (1, .int x1)]) rfl (fun Γ Z => ?_)
  have Y := Z.1
  have C := Y.1
  show GcX_sued l D T ad Γ o xo 0 xo g 0 [(0, .ref (ad 0)), (1, .int x1)] []
  have J15 : ∀ (x1 : Int32) (s1 : Int32) (g : St), fX_sued_b15 x1 s1 g = some o → GcX_sued l D T ad Γ o xo 0 xo g 15 [(0, .ref (ad 0)), (1, .int x1)] [.int s1, .ref (ad 0)] := by
    intro x1 s1 g h
    obtain ⟨⟨r15, g15⟩, hr15, h⟩ := ltb h
    refine g_tVv (k := 0) (As := [.int s1]) (rest := []) (o := (r15, g15)) (xo := xo) Z (fun sz => cX_need l hl0 D T ad sK sV xo g s1 _ hr15 sz) kX_RX11_115_need ⟨Nat.le_of_ble_eq_true rfl, Nat.le_of_ble_eq_true rfl⟩ ⟨rfl, rfl⟩ ⟨Nat.le_of_ble_eq_true rfl, Nat.le_of_ble_eq_true rfl⟩ (rfl : vwCl[10]? = some (RX11, TX11, 19)) ob_0 rfl rfl (Nat.le_of_ble_eq_true rfl) dX11_sued_15 ⟨Nat.le_of_ble_eq_true rfl, Nat.le_of_ble_eq_true rfl⟩ (fun k9 hk9 => ?_) (fun v9 hv9 => ?_)
    · subst hk9
      obtain rfl := Option.some.inj h
      exact ⟨rfl, rfl⟩
    · subst hv9
      have h := selR h
      refine g_aload_n C dX11_sued_18 rfl 0 rfl ?_
      refine gX_get_X11_65 C ob_0 rfl dX11_sued_19 ?_
      obtain ⟨r22, hr22, h⟩ := bnd h
      refine g_xVi (k := 10) (As := []) (rest := []) (ro := r22) (go := g15) (xo := xo) Y (fun sz => cX_State_mostInDebt l D T ad sK sV xo g15 10 (Or.inl rfl) _ hr22 sz) kX_RX11_279_State_mostInDebt ⟨Nat.le_of_ble_eq_true rfl, Nat.le_of_ble_eq_true rfl⟩ ⟨rfl, rfl⟩ ⟨Nat.le_of_ble_eq_true rfl, Nat.le_of_ble_eq_true rfl⟩ (rfl : vwCl[6]? = some (RX7, TX7, 6)) ob_10 rfl rfl (Nat.le_of_ble_eq_true rfl) dX11_sued_22 ?_
      refine g_istore_n (lv' := [(2, .int r22), (0, .ref (ad 0)), (1, .int x1)]) C dX11_sued_25 rfl (Nat.le_of_ble_eq_true rfl) rfl ?_
      refine g_aload_n C dX11_sued_26 rfl 1 rfl ?_
      refine gX_get_X11_65 C ob_0 rfl dX11_sued_27 ?_
      refine gX_get_X11_227 C ob_10 rfl dX11_sued_30 ?_
      refine g_iload_n C dX11_sued_33 rfl 0 rfl ?_
      obtain ⟨r34, hr34, h⟩ := bnd h
      refine g_xSi (As := [.ref (ad 37), .int r22]) (rest := []) (ro := r34) (go := g15) (xo := xo) Y (fun sz => cX_Rows_at l D T ad sK sV xo g15 37 r22 _ hr34 sz) kX_RX11_221_Rows_at ⟨Nat.le_of_ble_eq_true rfl, Nat.le_of_ble_eq_true rfl⟩ ⟨rfl, rfl⟩ ⟨Nat.le_of_ble_eq_true rfl, Nat.le_of_ble_eq_true rfl⟩ rfl rfl (Nat.le_of_ble_eq_true rfl) dX11_sued_34 ?_
      refine g_istore_n (lv' := [(3, .int r34), (2, .int r22), (0, .ref (ad 0)), (1, .int x1)]) C dX11_sued_37 rfl (Nat.le_of_ble_eq_true rfl) rfl ?_
      refine g_iload_n C dX11_sued_38 rfl 0 rfl ?_
      refine g_if_gt C 44 dX11_sued_39 (by decide) (fun c39 => ?_) (fun c39 => ?_)
      · have h := iteT c39 h
        refine g_iload_n C dX11_sued_44 rfl 3 rfl ?_
        refine g_if_ne C 52 dX11_sued_45 (by decide) (fun c45 => ?_) (fun c45 => ?_)
        · have h := iteT c45 h
          refine g_iload_n C dX11_sued_48 rfl 1 rfl ?_
          refine g_goto (tgt := 53) C dX11_sued_49 (by decide) ?_
          obtain rfl := Option.some.inj h
          exact g_treti Z rfl rfl ⟨Nat.le_of_ble_eq_true rfl, Nat.le_of_ble_eq_true rfl⟩ dX11_sued_53
        · have h := iteF c45 h
          refine g_iload_n C dX11_sued_52 rfl 0 rfl ?_
          obtain rfl := Option.some.inj h
          exact g_treti Z rfl rfl ⟨Nat.le_of_ble_eq_true rfl, Nat.le_of_ble_eq_true rfl⟩ dX11_sued_53
      · have h := iteF c39 h
        refine g_iconst C dX11_sued_42 ic_m1 ?_
        obtain rfl := Option.some.inj h
        exact g_treti Z rfl rfl ⟨Nat.le_of_ble_eq_true rfl, Nat.le_of_ble_eq_true rfl⟩ dX11_sued_43
  have J10 : ∀ (x1 : Int32) (g : St), fX_sued_b10 x1 g = some o → GcX_sued l D T ad Γ o xo 0 xo g 10 [(0, .ref (ad 0)), (1, .int x1)] [.ref (ad 0)] := by
    intro x1 g h
    refine g_iconst C dX11_sued_10 ic_1 ?_
    refine g_goto (tgt := 15) C dX11_sued_11 (by decide) ?_
    exact J15 x1 (1 : Int32) g h
  refine g_aload_n C dX11_sued_0 rfl 0 rfl ?_
  refine g_iload_n C dX11_sued_1 rfl 1 rfl ?_
  refine g_if_eq C 10 dX11_sued_2 (by decide) (fun c2 => ?_) (fun c2 => ?_)
  · have h := iteT c2 h
    exact J10 x1 g h
  · have h := iteF c2 h
    refine g_iload_n C dX11_sued_5 rfl 1 rfl ?_
    refine g_iconst C dX11_sued_6 ic_1 ?_
    refine g_icmp_ne C 14 dX11_sued_7 (by decide) (fun c7 => ?_) (fun c7 => ?_)
    · have h := iteT c7 h
      exact J10 x1 g h
    · have h := iteF c7 h
      refine g_iconst C dX11_sued_14 ic_0 ?_
      exact J15 x1 (0 : Int32) g h
def fX_free_b60 (x1 : Int32) (x2 : Int32) (x3 : Int32) (g : St) : Option ((Int32 × Int32) ⊕ (Int32)) :=
  some (.inl (x2, (x3 + (1 : Int32))))
def fX_free_L9 (x1 : Int32) (g : St) : (Int32 × Int32) → Option ((Int32 × Int32) ⊕ (Int32)) := fun ⟨x2, x3⟩ =>
  if (g 2 0) ≤ x3 then
    (some (.inr x2))
  else
    ((fX_Land_areFriends 2 x1 x3 g).bind fun r26 => (if r26 = 0 then
    (fX_free_b60 x1 x2 x3 g)
  else
    ((fX_State_lives 10 x3 g).bind fun r37 => (if r37 = 0 then
    (fX_free_b60 x1 x2 x3 g)
  else
    ((fX_State_hasRoom 10 x3 g).bind fun r48 => (if r48 = 0 then
    (fX_free_b60 x1 x2 x3 g)
  else
    (fX_free_b60 x1 (x2 ||| ((1 : Int32) <<< (x3 &&& 31))) x3 g)))))))
def fX_free_b9 (x1 : Int32) (x2 : Int32) (x3 : Int32) (g : St) : Option ((Nat ⊕ Int32) × St) :=
  (lp (fX_free_L9 x1 g) fuel (x2, x3)).bind (fun x2 => some (.inr x2, g))
def fX_free (x1 : Int32) (g : St) : Option ((Nat ⊕ Int32) × St) :=
  lt1 (fX_needPerson x1 g) fun ⟨r2, g2⟩ => Sum.elim (fun k => some (.inl k, g2)) (fun _ => fX_free_b9 x1 (0 : Int32) (0 : Int32) g2) r2
def rmX_free : Room := { frames := 9, cells := 1, slots := 6, locals := 141 }
abbrev GcX_free (l : Launch) (D : va_G) (T : cT) (ad : Nat → Nat) (Γ : Cxt) (o : (Nat ⊕ Int32) × St) (xo : Sl) (kc : Nat) (x : Sl) (g : St) (pc : Nat) (lv : List (Nat × Value)) (stk : List Value) : Prop := Gj l shX D T ad 4 (rmX_free) kc (6 * kc) Γ (vx_MQ Γ.below (va_Qi (xoI o xo) (wPost shX D T ad Γ.A) Γ.A) (xoX shX D T ad o.1 (o.2, xo) Γ.A) Γ.args Γ.s 1 6 Γ.A) x g pc lv stk
set_option maxRecDepth 100000 in
set_option maxHeartbeats 4000000 in
theorem cX_free (l : Launch) (hl0 : l.stackTraces = false) (D : va_G) (T : cT) (ad : Nat → Nat) (sK sV : Nat → Nat) (xo : Sl) (g : St) (x1 : Int32) (o : (Nat ⊕ Int32) × St) (h : fX_free x1 g = some o) (sz : Nat) : vx_Met l yX11_free wX_free (rmX_free) (va_Pc [.ref (ad 0), .int x1] (xPre shX D T ad sK sV xo g sz)) (va_Qi (xoI o xo) (wPost shX D T ad (aW shX T ad xo g sz)) (aW shX T ad xo g sz)) (xoX shX D T ad o.1 (o.2, xo) (aW shX T ad xo g sz)) 1 6 (aW shX T ad xo g sz) := by
  refine g_startt (Qc := fun A => va_Qi (xoI o xo) (wPost shX D T ad A) A) (XC := fun A => xoX shX D T ad o.1 (o.2, xo) A) hl0 (by decide +kernel) rfl rfl (Nat.le_of_ble_eq_true rfl) (lv := [(0, .ref (ad 0)), (1, .int x1)]) rfl (fun Γ Z => ?_)
  have Y := Z.1
  have C := Y.1
  show GcX_free l D T ad Γ o xo 0 xo g 0 [(0, .ref (ad 0)), (1, .int x1)] []
  have J9 : ∀ (x1 : Int32) (x2 : Int32) (x3 : Int32) (g : St), fX_free_b9 x1 x2 x3 g = some o → GcX_free l D T ad Γ o xo 1 xo g 9 [(0, .ref (ad 0)), (1, .int x1), (2, .int x2), (3, .int x3)] [] := by
    intro x1 x2 x3 g h
    obtain ⟨x2, ht, h⟩ := bnd h
    refine lp_run (P := fun t : Int32 × Int32 => match t with | (x2, x3) => GcX_free l D T ad Γ o xo 1 xo g 9 [(0, .ref (ad 0)), (1, .int x1), (2, .int x2), (3, .int x3)] []) (E := fun x2 : Int32 => GcX_free l D T ad Γ o xo 1 xo g 66 [(2, .int x2)] []) ?_ _ _ _ ht ?_
    · rintro ⟨x2, x3⟩ z h Kt Ke
      show GcX_free l D T ad Γ o xo 1 xo g 9 [(0, .ref (ad 0)), (1, .int x1), (2, .int x2), (3, .int x3)] []
      have J60 : ∀ (x2 : Int32) (x3 : Int32), fX_free_b60 x1 x2 x3 g = some z → GcX_free l D T ad Γ o xo 1 xo g 60 [(0, .ref (ad 0)), (1, .int x1), (2, .int x2), (3, .int x3)] [] := by
        intro x2 x3 h
        refine g_iinc (lv' := [(3, .int (x3 + (1 : Int32))), (0, .ref (ad 0)), (1, .int x1), (2, .int x2)]) C dX11_free_60 3 rfl (ii_1 _) (Nat.le_of_ble_eq_true rfl) rfl ?_
        refine g_goto (tgt := 9) C dX11_free_63 (by decide) ?_
        exact g_sub [1, 2, 3, 0] rfl (Kt _ (Option.some.inj h).symm)
      refine g_iload_n C dX11_free_9 rfl 3 rfl ?_
      refine g_aload_n C dX11_free_10 rfl 0 rfl ?_
      refine gX_get_X11_19 C ob_0 rfl dX11_free_11 ?_
      refine gX_get_X11_143 (v := g 2 0) C ob_2 rfl rfl dX11_free_14 ?_
      refine g_icmp_ge C 66 dX11_free_17 (by decide) (fun c17 => ?_) (fun c17 => ?_)
      · have h := iteT c17 h
        exact g_sub [2] rfl (Ke _ (Option.some.inj h).symm)
      · have h := iteF c17 h
        refine g_aload_n C dX11_free_20 rfl 0 rfl ?_
        refine gX_get_X11_19 C ob_0 rfl dX11_free_21 ?_
        refine g_iload_n C dX11_free_24 rfl 1 rfl ?_
        refine g_iload_n C dX11_free_25 rfl 3 rfl ?_
        obtain ⟨r26, hr26, h⟩ := bnd h
        refine g_xVz (k := 2) (As := [.int x1, .int x3]) (rest := []) (ro := r26) (go := g) (xo := xo) Y (fun sz => cX_Land_areFriends l D T ad sK sV xo g 2 x1 x3 (Or.inl rfl) _ hr26 sz) kX_RX11_349_Land_areFriends ⟨Nat.le_of_ble_eq_true rfl, Nat.le_of_ble_eq_true rfl⟩ ⟨rfl, rfl⟩ ⟨Nat.le_of_ble_eq_true rfl, Nat.le_of_ble_eq_true rfl⟩ (rfl : vwCl[1]? = some (RX1, TX1, 5)) ob_2 rfl rfl (Nat.le_of_ble_eq_true rfl) dX11_free_26 (fun hz26 => ?_)
        refine g_if_eq C 60 dX11_free_29 (by decide) (fun c29 => ?_) (fun c29 => ?_)
        · have h := iteT c29 h
          exact J60 x2 x3 h
        · have h := iteF c29 h
          refine g_aload_n C dX11_free_32 rfl 0 rfl ?_
          refine gX_get_X11_65 C ob_0 rfl dX11_free_33 ?_
          refine g_iload_n C dX11_free_36 rfl 3 rfl ?_
          obtain ⟨r37, hr37, h⟩ := bnd h
          refine g_xVz (k := 10) (As := [.int x3]) (rest := []) (ro := r37) (go := g) (xo := xo) Y (fun sz => cX_State_lives l D T ad sK sV xo g 10 x3 (Or.inl rfl) _ hr37 sz) kX_RX11_230_State_lives ⟨Nat.le_of_ble_eq_true rfl, Nat.le_of_ble_eq_true rfl⟩ ⟨rfl, rfl⟩ ⟨Nat.le_of_ble_eq_true rfl, Nat.le_of_ble_eq_true rfl⟩ (rfl : vwCl[6]? = some (RX7, TX7, 6)) ob_10 rfl rfl (Nat.le_of_ble_eq_true rfl) dX11_free_37 (fun hz37 => ?_)
          refine g_if_eq C 60 dX11_free_40 (by decide) (fun c40 => ?_) (fun c40 => ?_)
          · have h := iteT c40 h
            exact J60 x2 x3 h
          · have h := iteF c40 h
            refine g_aload_n C dX11_free_43 rfl 0 rfl ?_
            refine gX_get_X11_65 C ob_0 rfl dX11_free_44 ?_
            refine g_iload_n C dX11_free_47 rfl 3 rfl ?_
            obtain ⟨r48, hr48, h⟩ := bnd h
            refine g_xVz (k := 10) (As := [.int x3]) (rest := []) (ro := r48) (go := g) (xo := xo) Y (fun sz => cX_State_hasRoom l D T ad sK sV xo g 10 x3 (Or.inl rfl) _ hr48 sz) kX_RX11_352_State_hasRoom ⟨Nat.le_of_ble_eq_true rfl, Nat.le_of_ble_eq_true rfl⟩ ⟨rfl, rfl⟩ ⟨Nat.le_of_ble_eq_true rfl, Nat.le_of_ble_eq_true rfl⟩ (rfl : vwCl[6]? = some (RX7, TX7, 6)) ob_10 rfl rfl (Nat.le_of_ble_eq_true rfl) dX11_free_48 (fun hz48 => ?_)
            refine g_if_eq C 60 dX11_free_51 (by decide) (fun c51 => ?_) (fun c51 => ?_)
            · have h := iteT c51 h
              exact J60 x2 x3 h
            · have h := iteF c51 h
              refine g_iload_n C dX11_free_54 rfl 2 rfl ?_
              refine g_iconst C dX11_free_55 ic_1 ?_
              refine g_iload_n C dX11_free_56 rfl 3 rfl ?_
              refine g_ishl C dX11_free_57 ?_
              refine g_ior C dX11_free_58 ?_
              refine g_istore_n (lv' := [(2, .int (x2 ||| ((1 : Int32) <<< (x3 &&& 31)))), (0, .ref (ad 0)), (1, .int x1), (3, .int x3)]) C dX11_free_59 rfl (Nat.le_of_ble_eq_true rfl) rfl ?_
              exact g_sub [1, 2, 0, 3] rfl (J60 (x2 ||| ((1 : Int32) <<< (x3 &&& 31))) x3 h)
    · show GcX_free l D T ad Γ o xo 1 xo g 66 [(2, .int x2)] []
      refine g_iload_n C dX11_free_66 rfl 0 rfl ?_
      obtain rfl := Option.some.inj h
      exact g_treti Z rfl rfl ⟨Nat.le_of_ble_eq_true rfl, Nat.le_of_ble_eq_true rfl⟩ dX11_free_67
  refine g_aload_n C dX11_free_0 rfl 0 rfl ?_
  refine g_iload_n C dX11_free_1 rfl 1 rfl ?_
  obtain ⟨⟨r2, g2⟩, hr2, h⟩ := ltb h
  refine g_tVv (k := 0) (As := [.int x1]) (rest := []) (o := (r2, g2)) (xo := xo) Z (fun sz => cX_needPerson l hl0 D T ad sK sV xo g x1 _ hr2 sz) kX_RX11_214_needPerson ⟨Nat.le_of_ble_eq_true rfl, Nat.le_of_ble_eq_true rfl⟩ ⟨rfl, rfl⟩ ⟨Nat.le_of_ble_eq_true rfl, Nat.le_of_ble_eq_true rfl⟩ (rfl : vwCl[10]? = some (RX11, TX11, 19)) ob_0 rfl rfl (Nat.le_of_ble_eq_true rfl) dX11_free_2 ⟨Nat.le_of_ble_eq_true rfl, Nat.le_of_ble_eq_true rfl⟩ (fun k9 hk9 => ?_) (fun v9 hv9 => ?_)
  · subst hk9
    obtain rfl := Option.some.inj h
    exact ⟨rfl, rfl⟩
  · subst hv9
    have h := selR h
    refine g_iconst C dX11_free_5 ic_0 ?_
    refine g_istore_n (lv' := [(2, .int (0 : Int32)), (0, .ref (ad 0)), (1, .int x1)]) C dX11_free_6 rfl (Nat.le_of_ble_eq_true rfl) rfl ?_
    refine g_iconst C dX11_free_7 ic_0 ?_
    refine g_istore_n (lv' := [(3, .int (0 : Int32)), (2, .int (0 : Int32)), (0, .ref (ad 0)), (1, .int x1)]) C dX11_free_8 rfl (Nat.le_of_ble_eq_true rfl) rfl ?_
    exact g_sub [2, 3, 1, 0] rfl (J9 x1 (0 : Int32) (0 : Int32) g2 h)
def fX_kin_b57 (x2 : Int32) (x3 : Int32) (x4 : Int32) (g : St) : Option ((Int32 × Int32) ⊕ (Int32)) :=
  some (.inl (x2, (x4 + (1 : Int32))))
def fX_kin_L20 (x3 : Int32) (g : St) : (Int32 × Int32) → Option ((Int32 × Int32) ⊕ (Int32)) := fun ⟨x2, x4⟩ =>
  if (g 2 0) ≤ x4 then
    (some (.inr x2))
  else
    (if ((x2 >>> (x4 &&& 31)) &&& (1 : Int32)) = (1 : Int32) then
    ((fX_Rows_at 19 x4 g).bind fun r52 => (fX_kin_b57 (x2 ||| r52) x3 x4 g))
  else
    (fX_kin_b57 x2 x3 x4 g))
def fX_kin_b20 (x2 : Int32) (x3 : Int32) (x4 : Int32) (g : St) : Option ((Int32 × Int32) ⊕ (Int32)) :=
  (lp (fX_kin_L20 x3 g) fuel (x2, x4)).bind (fun x2 => some (.inl (x2, (x3 + (1 : Int32)))))
def fX_kin_L11 (g : St) : (Int32 × Int32) → Option ((Int32 × Int32) ⊕ (Int32)) := fun ⟨x2, x3⟩ =>
  if (8 : Int32) ≤ x3 then
    (some (.inr x2))
  else
    (fX_kin_b20 x2 x3 (0 : Int32) g)
def fX_kin_b11 (x2 : Int32) (x3 : Int32) (g : St) : Option ((Nat ⊕ Int32) × St) :=
  (lp (fX_kin_L11 g) fuel (x2, x3)).bind (fun x2 => some (.inr x2, g))
def fX_kin (x1 : Int32) (g : St) : Option ((Nat ⊕ Int32) × St) :=
  lt1 (fX_needPerson x1 g) fun ⟨r2, g2⟩ => Sum.elim (fun k => some (.inl k, g2)) (fun _ => fX_kin_b11 ((1 : Int32) <<< (x1 &&& 31)) (0 : Int32) g2) r2
def rmX_kin : Room := { frames := 9, cells := 1, slots := 6, locals := 141 }
abbrev GcX_kin (l : Launch) (D : va_G) (T : cT) (ad : Nat → Nat) (Γ : Cxt) (o : (Nat ⊕ Int32) × St) (xo : Sl) (kc : Nat) (x : Sl) (g : St) (pc : Nat) (lv : List (Nat × Value)) (stk : List Value) : Prop := Gj l shX D T ad 5 (rmX_kin) kc (6 * kc) Γ (vx_MQ Γ.below (va_Qi (xoI o xo) (wPost shX D T ad Γ.A) Γ.A) (xoX shX D T ad o.1 (o.2, xo) Γ.A) Γ.args Γ.s 1 6 Γ.A) x g pc lv stk
set_option maxRecDepth 100000 in
set_option maxHeartbeats 4000000 in
theorem cX_kin (l : Launch) (hl0 : l.stackTraces = false) (D : va_G) (T : cT) (ad : Nat → Nat) (sK sV : Nat → Nat) (xo : Sl) (g : St) (x1 : Int32) (o : (Nat ⊕ Int32) × St) (h : fX_kin x1 g = some o) (sz : Nat) : vx_Met l yX11_kin wX_kin (rmX_kin) (va_Pc [.ref (ad 0), .int x1] (xPre shX D T ad sK sV xo g sz)) (va_Qi (xoI o xo) (wPost shX D T ad (aW shX T ad xo g sz)) (aW shX T ad xo g sz)) (xoX shX D T ad o.1 (o.2, xo) (aW shX T ad xo g sz)) 1 6 (aW shX T ad xo g sz) := by
  refine g_startt (Qc := fun A => va_Qi (xoI o xo) (wPost shX D T ad A) A) (XC := fun A => xoX shX D T ad o.1 (o.2, xo) A) hl0 (by decide +kernel) rfl rfl (Nat.le_of_ble_eq_true rfl) (lv := [(0, .ref (ad 0)), (1, .int x1)]) rfl (fun Γ Z => ?_)
  have Y := Z.1
  have C := Y.1
  show GcX_kin l D T ad Γ o xo 0 xo g 0 [(0, .ref (ad 0)), (1, .int x1)] []
  have J11 : ∀ (x2 : Int32) (x3 : Int32) (g : St), fX_kin_b11 x2 x3 g = some o → GcX_kin l D T ad Γ o xo 1 xo g 11 [(0, .ref (ad 0)), (2, .int x2), (3, .int x3)] [] := by
    intro x2 x3 g h
    obtain ⟨x2, ht, h⟩ := bnd h
    refine lp_run (P := fun t : Int32 × Int32 => match t with | (x2, x3) => GcX_kin l D T ad Γ o xo 1 xo g 11 [(0, .ref (ad 0)), (2, .int x2), (3, .int x3)] []) (E := fun x2 : Int32 => GcX_kin l D T ad Γ o xo 1 xo g 69 [(2, .int x2)] []) ?_ _ _ _ ht ?_
    · rintro ⟨x2, x3⟩ z h Kt Ke
      show GcX_kin l D T ad Γ o xo 1 xo g 11 [(0, .ref (ad 0)), (2, .int x2), (3, .int x3)] []
      have J20 : ∀ (x2 : Int32) (x3 : Int32) (x4 : Int32), fX_kin_b20 x2 x3 x4 g = some z → GcX_kin l D T ad Γ o xo 1 xo g 20 [(0, .ref (ad 0)), (2, .int x2), (3, .int x3), (4, .int x4)] [] := by
        intro x2 x3 x4 h
        obtain ⟨x2, ht, h⟩ := bnd h
        refine lp_run (P := fun t : Int32 × Int32 => match t with | (x2, x4) => GcX_kin l D T ad Γ o xo 1 xo g 20 [(0, .ref (ad 0)), (2, .int x2), (3, .int x3), (4, .int x4)] []) (E := fun x2 : Int32 => GcX_kin l D T ad Γ o xo 1 xo g 63 [(0, .ref (ad 0)), (2, .int x2), (3, .int x3)] []) ?_ _ _ _ ht ?_
        · rintro ⟨x2, x4⟩ z h Kt Ke
          show GcX_kin l D T ad Γ o xo 1 xo g 20 [(0, .ref (ad 0)), (2, .int x2), (3, .int x3), (4, .int x4)] []
          have J57 : ∀ (x2 : Int32) (x4 : Int32), fX_kin_b57 x2 x3 x4 g = some z → GcX_kin l D T ad Γ o xo 1 xo g 57 [(0, .ref (ad 0)), (2, .int x2), (3, .int x3), (4, .int x4)] [] := by
            intro x2 x4 h
            refine g_iinc (lv' := [(4, .int (x4 + (1 : Int32))), (0, .ref (ad 0)), (2, .int x2), (3, .int x3)]) C dX11_kin_57 3 rfl (ii_1 _) (Nat.le_of_ble_eq_true rfl) rfl ?_
            refine g_goto (tgt := 20) C dX11_kin_60 (by decide) ?_
            exact g_sub [1, 2, 3, 0] rfl (Kt _ (Option.some.inj h).symm)
          refine g_iload C dX11_kin_20 3 rfl ?_
          refine g_aload_n C dX11_kin_22 rfl 0 rfl ?_
          refine gX_get_X11_19 C ob_0 rfl dX11_kin_23 ?_
          refine gX_get_X11_143 (v := g 2 0) C ob_2 rfl rfl dX11_kin_26 ?_
          refine g_icmp_ge C 63 dX11_kin_29 (by decide) (fun c29 => ?_) (fun c29 => ?_)
          · have h := iteT c29 h
            exact g_sub [0, 1, 2] rfl (Ke _ (Option.some.inj h).symm)
          · have h := iteF c29 h
            refine g_iload_n C dX11_kin_32 rfl 1 rfl ?_
            refine g_iload C dX11_kin_33 3 rfl ?_
            refine g_ishr C dX11_kin_35 ?_
            refine g_iconst C dX11_kin_36 ic_1 ?_
            refine g_iand C dX11_kin_37 ?_
            refine g_iconst C dX11_kin_38 ic_1 ?_
            refine g_icmp_ne C 57 dX11_kin_39 (by decide) (fun c39 => ?_) (fun c39 => ?_)
            · have h := iteT c39 h
              refine g_iload_n C dX11_kin_42 rfl 1 rfl ?_
              refine g_aload_n C dX11_kin_43 rfl 0 rfl ?_
              refine gX_get_X11_19 C ob_0 rfl dX11_kin_44 ?_
              refine gX_get_X11_244 C ob_2 rfl dX11_kin_47 ?_
              refine g_iload C dX11_kin_50 3 rfl ?_
              obtain ⟨r52, hr52, h⟩ := bnd h
              refine g_xSi (As := [.ref (ad 19), .int x4]) (rest := [.int x2]) (ro := r52) (go := g) (xo := xo) Y (fun sz => cX_Rows_at l D T ad sK sV xo g 19 x4 _ hr52 sz) kX_RX11_221_Rows_at ⟨Nat.le_of_ble_eq_true rfl, Nat.le_of_ble_eq_true rfl⟩ ⟨rfl, rfl⟩ ⟨Nat.le_of_ble_eq_true rfl, Nat.le_of_ble_eq_true rfl⟩ rfl rfl (Nat.le_of_ble_eq_true rfl) dX11_kin_52 ?_
              refine g_ior C dX11_kin_55 ?_
              refine g_istore_n (lv' := [(2, .int (x2 ||| r52)), (0, .ref (ad 0)), (3, .int x3), (4, .int x4)]) C dX11_kin_56 rfl (Nat.le_of_ble_eq_true rfl) rfl ?_
              exact g_sub [1, 0, 2, 3] rfl (J57 (x2 ||| r52) x4 h)
            · have h := iteF c39 h
              exact J57 x2 x4 h
        · show GcX_kin l D T ad Γ o xo 1 xo g 63 [(0, .ref (ad 0)), (2, .int x2), (3, .int x3)] []
          refine g_iinc (lv' := [(3, .int (x3 + (1 : Int32))), (0, .ref (ad 0)), (2, .int x2)]) C dX11_kin_63 2 rfl (ii_1 _) (Nat.le_of_ble_eq_true rfl) rfl ?_
          refine g_goto (tgt := 11) C dX11_kin_66 (by decide) ?_
          exact g_sub [1, 2, 0] rfl (Kt _ (Option.some.inj h).symm)
      refine g_iload_n C dX11_kin_11 rfl 2 rfl ?_
      refine g_bipush C dX11_kin_12 bp_8 ?_
      refine g_icmp_ge C 69 dX11_kin_14 (by decide) (fun c14 => ?_) (fun c14 => ?_)
      · have h := iteT c14 h
        exact g_sub [1] rfl (Ke _ (Option.some.inj h).symm)
      · have h := iteF c14 h
        refine g_iconst C dX11_kin_17 ic_0 ?_
        refine g_istore (lv' := [(4, .int (0 : Int32)), (0, .ref (ad 0)), (2, .int x2), (3, .int x3)]) C dX11_kin_18 (Nat.le_of_ble_eq_true rfl) rfl ?_
        exact g_sub [1, 2, 3, 0] rfl (J20 x2 x3 (0 : Int32) h)
    · show GcX_kin l D T ad Γ o xo 1 xo g 69 [(2, .int x2)] []
      refine g_iload_n C dX11_kin_69 rfl 0 rfl ?_
      obtain rfl := Option.some.inj h
      exact g_treti Z rfl rfl ⟨Nat.le_of_ble_eq_true rfl, Nat.le_of_ble_eq_true rfl⟩ dX11_kin_70
  refine g_aload_n C dX11_kin_0 rfl 0 rfl ?_
  refine g_iload_n C dX11_kin_1 rfl 1 rfl ?_
  obtain ⟨⟨r2, g2⟩, hr2, h⟩ := ltb h
  refine g_tVv (k := 0) (As := [.int x1]) (rest := []) (o := (r2, g2)) (xo := xo) Z (fun sz => cX_needPerson l hl0 D T ad sK sV xo g x1 _ hr2 sz) kX_RX11_214_needPerson ⟨Nat.le_of_ble_eq_true rfl, Nat.le_of_ble_eq_true rfl⟩ ⟨rfl, rfl⟩ ⟨Nat.le_of_ble_eq_true rfl, Nat.le_of_ble_eq_true rfl⟩ (rfl : vwCl[10]? = some (RX11, TX11, 19)) ob_0 rfl rfl (Nat.le_of_ble_eq_true rfl) dX11_kin_2 ⟨Nat.le_of_ble_eq_true rfl, Nat.le_of_ble_eq_true rfl⟩ (fun k9 hk9 => ?_) (fun v9 hv9 => ?_)
  · subst hk9
    obtain rfl := Option.some.inj h
    exact ⟨rfl, rfl⟩
  · subst hv9
    have h := selR h
    refine g_iconst C dX11_kin_5 ic_1 ?_
    refine g_iload_n C dX11_kin_6 rfl 1 rfl ?_
    refine g_ishl C dX11_kin_7 ?_
    refine g_istore_n (lv' := [(2, .int ((1 : Int32) <<< (x1 &&& 31))), (0, .ref (ad 0)), (1, .int x1)]) C dX11_kin_8 rfl (Nat.le_of_ble_eq_true rfl) rfl ?_
    refine g_iconst C dX11_kin_9 ic_0 ?_
    refine g_istore_n (lv' := [(3, .int (0 : Int32)), (2, .int ((1 : Int32) <<< (x1 &&& 31))), (0, .ref (ad 0)), (1, .int x1)]) C dX11_kin_10 rfl (Nat.le_of_ble_eq_true rfl) rfl ?_
    exact g_sub [2, 1, 0] rfl (J11 ((1 : Int32) <<< (x1 &&& 31)) (0 : Int32) g2 h)
def fX_willing_b38 (x1 : Int32) (x2 : Int32) (x3 : Int32) (g : St) : Option ((Int32 × Int32 × St) ⊕ ((Int32 × St))) :=
  some (.inl (x2, (x3 + (1 : Int32)), g))
def fX_willing_L9 (x1 : Int32) : (Int32 × Int32 × St) → Option ((Int32 × Int32 × St) ⊕ ((Int32 × St))) := fun ⟨x2, x3, g⟩ =>
  if (g 2 0) ≤ x3 then
    (some (.inr (x2, g)))
  else
    ((fX_State_lendsTo 10 x3 x1 g).bind fun ⟨r26, g26⟩ => (if r26 = 0 then
    (fX_willing_b38 x1 x2 x3 g26)
  else
    (fX_willing_b38 x1 (x2 ||| ((1 : Int32) <<< (x3 &&& 31))) x3 g26)))
def fX_willing_b9 (x1 : Int32) (x2 : Int32) (x3 : Int32) (g : St) : Option ((Nat ⊕ Int32) × St) :=
  (lp (fX_willing_L9 x1) fuel (x2, x3, g)).bind (fun ⟨x2, g⟩ => some (.inr x2, g))
def fX_willing (x1 : Int32) (g : St) : Option ((Nat ⊕ Int32) × St) :=
  lt1 (fX_needPerson x1 g) fun ⟨r2, g2⟩ => Sum.elim (fun k => some (.inl k, g2)) (fun _ => fX_willing_b9 x1 (0 : Int32) (0 : Int32) g2) r2
def rmX_willing : Room := { frames := 9, cells := 1, slots := 6, locals := 141 }
abbrev GcX_willing (l : Launch) (D : va_G) (T : cT) (ad : Nat → Nat) (Γ : Cxt) (o : (Nat ⊕ Int32) × St) (xo : Sl) (kc : Nat) (x : Sl) (g : St) (pc : Nat) (lv : List (Nat × Value)) (stk : List Value) : Prop := Gj l shX D T ad 4 (rmX_willing) kc (6 * kc) Γ (vx_MQ Γ.below (va_Qi (xoI o xo) (wPost shX D T ad Γ.A) Γ.A) (xoX shX D T ad o.1 (o.2, xo) Γ.A) Γ.args Γ.s 1 6 Γ.A) x g pc lv stk
set_option maxRecDepth 100000 in
set_option maxHeartbeats 4000000 in
theorem cX_willing (l : Launch) (hl0 : l.stackTraces = false) (D : va_G) (T : cT) (ad : Nat → Nat) (sK sV : Nat → Nat) (xo : Sl) (g : St) (x1 : Int32) (o : (Nat ⊕ Int32) × St) (h : fX_willing x1 g = some o) (sz : Nat) : vx_Met l yX11_willing wX_willing (rmX_willing) (va_Pc [.ref (ad 0), .int x1] (xPre shX D T ad sK sV xo g sz)) (va_Qi (xoI o xo) (wPost shX D T ad (aW shX T ad xo g sz)) (aW shX T ad xo g sz)) (xoX shX D T ad o.1 (o.2, xo) (aW shX T ad xo g sz)) 1 6 (aW shX T ad xo g sz) := by
  refine g_startt (Qc := fun A => va_Qi (xoI o xo) (wPost shX D T ad A) A) (XC := fun A => xoX shX D T ad o.1 (o.2, xo) A) hl0 (by decide +kernel) rfl rfl (Nat.le_of_ble_eq_true rfl) (lv := [(0, .ref (ad 0)), (1, .int x1)]) rfl (fun Γ Z => ?_)
  have Y := Z.1
  have C := Y.1
  show GcX_willing l D T ad Γ o xo 0 xo g 0 [(0, .ref (ad 0)), (1, .int x1)] []
  have J9 : ∀ (x1 : Int32) (x2 : Int32) (x3 : Int32) (g : St), fX_willing_b9 x1 x2 x3 g = some o → GcX_willing l D T ad Γ o xo 1 xo g 9 [(0, .ref (ad 0)), (1, .int x1), (2, .int x2), (3, .int x3)] [] := by
    intro x1 x2 x3 g h
    obtain ⟨⟨x2, g⟩, ht, h⟩ := bnd h
    refine lp_run (P := fun t : Int32 × Int32 × St => match t with | (x2, x3, g) => GcX_willing l D T ad Γ o xo 1 xo g 9 [(0, .ref (ad 0)), (1, .int x1), (2, .int x2), (3, .int x3)] []) (E := fun t : Int32 × St => match t with | (x2, g) => GcX_willing l D T ad Γ o xo 1 xo g 44 [(2, .int x2)] []) ?_ _ _ _ ht ?_
    · rintro ⟨x2, x3, g⟩ z h Kt Ke
      show GcX_willing l D T ad Γ o xo 1 xo g 9 [(0, .ref (ad 0)), (1, .int x1), (2, .int x2), (3, .int x3)] []
      have J38 : ∀ (x2 : Int32) (x3 : Int32) (g : St), fX_willing_b38 x1 x2 x3 g = some z → GcX_willing l D T ad Γ o xo 1 xo g 38 [(0, .ref (ad 0)), (1, .int x1), (2, .int x2), (3, .int x3)] [] := by
        intro x2 x3 g h
        refine g_iinc (lv' := [(3, .int (x3 + (1 : Int32))), (0, .ref (ad 0)), (1, .int x1), (2, .int x2)]) C dX11_willing_38 3 rfl (ii_1 _) (Nat.le_of_ble_eq_true rfl) rfl ?_
        refine g_goto (tgt := 9) C dX11_willing_41 (by decide) ?_
        exact g_sub [1, 2, 3, 0] rfl (Kt _ (Option.some.inj h).symm)
      refine g_iload_n C dX11_willing_9 rfl 3 rfl ?_
      refine g_aload_n C dX11_willing_10 rfl 0 rfl ?_
      refine gX_get_X11_19 C ob_0 rfl dX11_willing_11 ?_
      refine gX_get_X11_143 (v := g 2 0) C ob_2 rfl rfl dX11_willing_14 ?_
      refine g_icmp_ge C 44 dX11_willing_17 (by decide) (fun c17 => ?_) (fun c17 => ?_)
      · have h := iteT c17 h
        exact g_sub [2] rfl (Ke _ (Option.some.inj h).symm)
      · have h := iteF c17 h
        refine g_aload_n C dX11_willing_20 rfl 0 rfl ?_
        refine gX_get_X11_65 C ob_0 rfl dX11_willing_21 ?_
        refine g_iload_n C dX11_willing_24 rfl 3 rfl ?_
        refine g_iload_n C dX11_willing_25 rfl 1 rfl ?_
        obtain ⟨⟨r26, g26⟩, hr26, h⟩ := bnd h
        refine g_xVz (k := 10) (As := [.int x3, .int x1]) (rest := []) (ro := r26) (go := g26) (xo := xo) Y (fun sz => cX_State_lendsTo l D T ad sK sV xo g 10 x3 x1 (Or.inl rfl) _ hr26 sz) kX_RX11_254_State_lendsTo ⟨Nat.le_of_ble_eq_true rfl, Nat.le_of_ble_eq_true rfl⟩ ⟨rfl, rfl⟩ ⟨Nat.le_of_ble_eq_true rfl, Nat.le_of_ble_eq_true rfl⟩ (rfl : vwCl[6]? = some (RX7, TX7, 6)) ob_10 rfl rfl (Nat.le_of_ble_eq_true rfl) dX11_willing_26 (fun hz26 => ?_)
        refine g_if_eq C 38 dX11_willing_29 (by decide) (fun c29 => ?_) (fun c29 => ?_)
        · have h := iteT c29 h
          exact J38 x2 x3 g26 h
        · have h := iteF c29 h
          refine g_iload_n C dX11_willing_32 rfl 2 rfl ?_
          refine g_iconst C dX11_willing_33 ic_1 ?_
          refine g_iload_n C dX11_willing_34 rfl 3 rfl ?_
          refine g_ishl C dX11_willing_35 ?_
          refine g_ior C dX11_willing_36 ?_
          refine g_istore_n (lv' := [(2, .int (x2 ||| ((1 : Int32) <<< (x3 &&& 31)))), (0, .ref (ad 0)), (1, .int x1), (3, .int x3)]) C dX11_willing_37 rfl (Nat.le_of_ble_eq_true rfl) rfl ?_
          exact g_sub [1, 2, 0, 3] rfl (J38 (x2 ||| ((1 : Int32) <<< (x3 &&& 31))) x3 g26 h)
    · show GcX_willing l D T ad Γ o xo 1 xo g 44 [(2, .int x2)] []
      refine g_iload_n C dX11_willing_44 rfl 0 rfl ?_
      obtain rfl := Option.some.inj h
      exact g_treti Z rfl rfl ⟨Nat.le_of_ble_eq_true rfl, Nat.le_of_ble_eq_true rfl⟩ dX11_willing_45
  refine g_aload_n C dX11_willing_0 rfl 0 rfl ?_
  refine g_iload_n C dX11_willing_1 rfl 1 rfl ?_
  obtain ⟨⟨r2, g2⟩, hr2, h⟩ := ltb h
  refine g_tVv (k := 0) (As := [.int x1]) (rest := []) (o := (r2, g2)) (xo := xo) Z (fun sz => cX_needPerson l hl0 D T ad sK sV xo g x1 _ hr2 sz) kX_RX11_214_needPerson ⟨Nat.le_of_ble_eq_true rfl, Nat.le_of_ble_eq_true rfl⟩ ⟨rfl, rfl⟩ ⟨Nat.le_of_ble_eq_true rfl, Nat.le_of_ble_eq_true rfl⟩ (rfl : vwCl[10]? = some (RX11, TX11, 19)) ob_0 rfl rfl (Nat.le_of_ble_eq_true rfl) dX11_willing_2 ⟨Nat.le_of_ble_eq_true rfl, Nat.le_of_ble_eq_true rfl⟩ (fun k9 hk9 => ?_) (fun v9 hv9 => ?_)
  · subst hk9
    obtain rfl := Option.some.inj h
    exact ⟨rfl, rfl⟩
  · subst hv9
    have h := selR h
    refine g_iconst C dX11_willing_5 ic_0 ?_
    refine g_istore_n (lv' := [(2, .int (0 : Int32)), (0, .ref (ad 0)), (1, .int x1)]) C dX11_willing_6 rfl (Nat.le_of_ble_eq_true rfl) rfl ?_
    refine g_iconst C dX11_willing_7 ic_0 ?_
    refine g_istore_n (lv' := [(3, .int (0 : Int32)), (2, .int (0 : Int32)), (0, .ref (ad 0)), (1, .int x1)]) C dX11_willing_8 rfl (Nat.le_of_ble_eq_true rfl) rfl ?_
    exact g_sub [2, 3, 1, 0] rfl (J9 x1 (0 : Int32) (0 : Int32) g2 h)
def fX_below_b59 (x2 : Int32) (x3 : Int32) (x4 : Int32) (g : St) : Option ((Int32 × Int32) ⊕ (Int32)) :=
  some (.inl (x2, (x4 + (1 : Int32))))
def fX_below_L25 (x3 : Int32) (g : St) : (Int32 × Int32) → Option ((Int32 × Int32) ⊕ (Int32)) := fun ⟨x2, x4⟩ =>
  if (g 2 0) ≤ x4 then
    (some (.inr x2))
  else
    (if ((x2 >>> (x4 &&& 31)) &&& (1 : Int32)) = (1 : Int32) then
    ((fX_State_directlyUnder 10 x4 g).bind fun r54 => (fX_below_b59 (x2 ||| r54) x3 x4 g))
  else
    (fX_below_b59 x2 x3 x4 g))
def fX_below_b25 (x2 : Int32) (x3 : Int32) (x4 : Int32) (g : St) : Option ((Int32 × Int32) ⊕ (Int32)) :=
  (lp (fX_below_L25 x3 g) fuel (x2, x4)).bind (fun x2 => some (.inl (x2, (x3 + (1 : Int32)))))
def fX_below_L16 (g : St) : (Int32 × Int32) → Option ((Int32 × Int32) ⊕ (Int32)) := fun ⟨x2, x3⟩ =>
  if (8 : Int32) ≤ x3 then
    (some (.inr x2))
  else
    (fX_below_b25 x2 x3 (0 : Int32) g)
def fX_below_b16 (x2 : Int32) (x3 : Int32) (g : St) : Option ((Nat ⊕ Int32) × St) :=
  (lp (fX_below_L16 g) fuel (x2, x3)).bind (fun x2 => some (.inr x2, g))
def fX_below (x1 : Int32) (g : St) : Option ((Nat ⊕ Int32) × St) :=
  lt1 (fX_needPerson x1 g) fun ⟨r2, g2⟩ => Sum.elim (fun k => some (.inl k, g2)) (fun _ => (fX_State_directlyUnder 10 x1 g2).bind fun r10 => (fX_below_b16 r10 (0 : Int32) g2)) r2
def rmX_below : Room := { frames := 9, cells := 1, slots := 6, locals := 141 }
abbrev GcX_below (l : Launch) (D : va_G) (T : cT) (ad : Nat → Nat) (Γ : Cxt) (o : (Nat ⊕ Int32) × St) (xo : Sl) (kc : Nat) (x : Sl) (g : St) (pc : Nat) (lv : List (Nat × Value)) (stk : List Value) : Prop := Gj l shX D T ad 5 (rmX_below) kc (6 * kc) Γ (vx_MQ Γ.below (va_Qi (xoI o xo) (wPost shX D T ad Γ.A) Γ.A) (xoX shX D T ad o.1 (o.2, xo) Γ.A) Γ.args Γ.s 1 6 Γ.A) x g pc lv stk
set_option maxRecDepth 100000 in
set_option maxHeartbeats 4000000 in
theorem cX_below (l : Launch) (hl0 : l.stackTraces = false) (D : va_G) (T : cT) (ad : Nat → Nat) (sK sV : Nat → Nat) (xo : Sl) (g : St) (x1 : Int32) (o : (Nat ⊕ Int32) × St) (h : fX_below x1 g = some o) (sz : Nat) : vx_Met l yX11_below wX_below (rmX_below) (va_Pc [.ref (ad 0), .int x1] (xPre shX D T ad sK sV xo g sz)) (va_Qi (xoI o xo) (wPost shX D T ad (aW shX T ad xo g sz)) (aW shX T ad xo g sz)) (xoX shX D T ad o.1 (o.2, xo) (aW shX T ad xo g sz)) 1 6 (aW shX T ad xo g sz) := by
  refine g_startt (Qc := fun A => va_Qi (xoI o xo) (wPost shX D T ad A) A) (XC := fun A => xoX shX D T ad o.1 (o.2, xo) A) hl0 (by decide +kernel) rfl rfl (Nat.le_of_ble_eq_true rfl) (lv := [(0, .ref (ad 0)), (1, .int x1)]) rfl (fun Γ Z => ?_)
  have Y := Z.1
  have C := Y.1
  show GcX_below l D T ad Γ o xo 0 xo g 0 [(0, .ref (ad 0)), (1, .int x1)] []
  have J16 : ∀ (x2 : Int32) (x3 : Int32) (g : St), fX_below_b16 x2 x3 g = some o → GcX_below l D T ad Γ o xo 1 xo g 16 [(0, .ref (ad 0)), (2, .int x2), (3, .int x3)] [] := by
    intro x2 x3 g h
    obtain ⟨x2, ht, h⟩ := bnd h
    refine lp_run (P := fun t : Int32 × Int32 => match t with | (x2, x3) => GcX_below l D T ad Γ o xo 1 xo g 16 [(0, .ref (ad 0)), (2, .int x2), (3, .int x3)] []) (E := fun x2 : Int32 => GcX_below l D T ad Γ o xo 1 xo g 71 [(2, .int x2)] []) ?_ _ _ _ ht ?_
    · rintro ⟨x2, x3⟩ z h Kt Ke
      show GcX_below l D T ad Γ o xo 1 xo g 16 [(0, .ref (ad 0)), (2, .int x2), (3, .int x3)] []
      have J25 : ∀ (x2 : Int32) (x3 : Int32) (x4 : Int32), fX_below_b25 x2 x3 x4 g = some z → GcX_below l D T ad Γ o xo 1 xo g 25 [(0, .ref (ad 0)), (2, .int x2), (3, .int x3), (4, .int x4)] [] := by
        intro x2 x3 x4 h
        obtain ⟨x2, ht, h⟩ := bnd h
        refine lp_run (P := fun t : Int32 × Int32 => match t with | (x2, x4) => GcX_below l D T ad Γ o xo 1 xo g 25 [(0, .ref (ad 0)), (2, .int x2), (3, .int x3), (4, .int x4)] []) (E := fun x2 : Int32 => GcX_below l D T ad Γ o xo 1 xo g 65 [(0, .ref (ad 0)), (2, .int x2), (3, .int x3)] []) ?_ _ _ _ ht ?_
        · rintro ⟨x2, x4⟩ z h Kt Ke
          show GcX_below l D T ad Γ o xo 1 xo g 25 [(0, .ref (ad 0)), (2, .int x2), (3, .int x3), (4, .int x4)] []
          have J59 : ∀ (x2 : Int32) (x4 : Int32), fX_below_b59 x2 x3 x4 g = some z → GcX_below l D T ad Γ o xo 1 xo g 59 [(0, .ref (ad 0)), (2, .int x2), (3, .int x3), (4, .int x4)] [] := by
            intro x2 x4 h
            refine g_iinc (lv' := [(4, .int (x4 + (1 : Int32))), (0, .ref (ad 0)), (2, .int x2), (3, .int x3)]) C dX11_below_59 3 rfl (ii_1 _) (Nat.le_of_ble_eq_true rfl) rfl ?_
            refine g_goto (tgt := 25) C dX11_below_62 (by decide) ?_
            exact g_sub [1, 2, 3, 0] rfl (Kt _ (Option.some.inj h).symm)
          refine g_iload C dX11_below_25 3 rfl ?_
          refine g_aload_n C dX11_below_27 rfl 0 rfl ?_
          refine gX_get_X11_19 C ob_0 rfl dX11_below_28 ?_
          refine gX_get_X11_143 (v := g 2 0) C ob_2 rfl rfl dX11_below_31 ?_
          refine g_icmp_ge C 65 dX11_below_34 (by decide) (fun c34 => ?_) (fun c34 => ?_)
          · have h := iteT c34 h
            exact g_sub [0, 1, 2] rfl (Ke _ (Option.some.inj h).symm)
          · have h := iteF c34 h
            refine g_iload_n C dX11_below_37 rfl 1 rfl ?_
            refine g_iload C dX11_below_38 3 rfl ?_
            refine g_ishr C dX11_below_40 ?_
            refine g_iconst C dX11_below_41 ic_1 ?_
            refine g_iand C dX11_below_42 ?_
            refine g_iconst C dX11_below_43 ic_1 ?_
            refine g_icmp_ne C 59 dX11_below_44 (by decide) (fun c44 => ?_) (fun c44 => ?_)
            · have h := iteT c44 h
              refine g_iload_n C dX11_below_47 rfl 1 rfl ?_
              refine g_aload_n C dX11_below_48 rfl 0 rfl ?_
              refine gX_get_X11_65 C ob_0 rfl dX11_below_49 ?_
              refine g_iload C dX11_below_52 3 rfl ?_
              obtain ⟨r54, hr54, h⟩ := bnd h
              refine g_xVi (k := 10) (As := [.int x4]) (rest := [.int x2]) (ro := r54) (go := g) (xo := xo) Y (fun sz => cX_State_directlyUnder l D T ad sK sV xo g 10 x4 (Or.inl rfl) _ hr54 sz) kX_RX11_241_State_directlyUnder ⟨Nat.le_of_ble_eq_true rfl, Nat.le_of_ble_eq_true rfl⟩ ⟨rfl, rfl⟩ ⟨Nat.le_of_ble_eq_true rfl, Nat.le_of_ble_eq_true rfl⟩ (rfl : vwCl[6]? = some (RX7, TX7, 6)) ob_10 rfl rfl (Nat.le_of_ble_eq_true rfl) dX11_below_54 ?_
              refine g_ior C dX11_below_57 ?_
              refine g_istore_n (lv' := [(2, .int (x2 ||| r54)), (0, .ref (ad 0)), (3, .int x3), (4, .int x4)]) C dX11_below_58 rfl (Nat.le_of_ble_eq_true rfl) rfl ?_
              exact g_sub [1, 0, 2, 3] rfl (J59 (x2 ||| r54) x4 h)
            · have h := iteF c44 h
              exact J59 x2 x4 h
        · show GcX_below l D T ad Γ o xo 1 xo g 65 [(0, .ref (ad 0)), (2, .int x2), (3, .int x3)] []
          refine g_iinc (lv' := [(3, .int (x3 + (1 : Int32))), (0, .ref (ad 0)), (2, .int x2)]) C dX11_below_65 2 rfl (ii_1 _) (Nat.le_of_ble_eq_true rfl) rfl ?_
          refine g_goto (tgt := 16) C dX11_below_68 (by decide) ?_
          exact g_sub [1, 2, 0] rfl (Kt _ (Option.some.inj h).symm)
      refine g_iload_n C dX11_below_16 rfl 2 rfl ?_
      refine g_bipush C dX11_below_17 bp_8 ?_
      refine g_icmp_ge C 71 dX11_below_19 (by decide) (fun c19 => ?_) (fun c19 => ?_)
      · have h := iteT c19 h
        exact g_sub [1] rfl (Ke _ (Option.some.inj h).symm)
      · have h := iteF c19 h
        refine g_iconst C dX11_below_22 ic_0 ?_
        refine g_istore (lv' := [(4, .int (0 : Int32)), (0, .ref (ad 0)), (2, .int x2), (3, .int x3)]) C dX11_below_23 (Nat.le_of_ble_eq_true rfl) rfl ?_
        exact g_sub [1, 2, 3, 0] rfl (J25 x2 x3 (0 : Int32) h)
    · show GcX_below l D T ad Γ o xo 1 xo g 71 [(2, .int x2)] []
      refine g_iload_n C dX11_below_71 rfl 0 rfl ?_
      obtain rfl := Option.some.inj h
      exact g_treti Z rfl rfl ⟨Nat.le_of_ble_eq_true rfl, Nat.le_of_ble_eq_true rfl⟩ dX11_below_72
  refine g_aload_n C dX11_below_0 rfl 0 rfl ?_
  refine g_iload_n C dX11_below_1 rfl 1 rfl ?_
  obtain ⟨⟨r2, g2⟩, hr2, h⟩ := ltb h
  refine g_tVv (k := 0) (As := [.int x1]) (rest := []) (o := (r2, g2)) (xo := xo) Z (fun sz => cX_needPerson l hl0 D T ad sK sV xo g x1 _ hr2 sz) kX_RX11_214_needPerson ⟨Nat.le_of_ble_eq_true rfl, Nat.le_of_ble_eq_true rfl⟩ ⟨rfl, rfl⟩ ⟨Nat.le_of_ble_eq_true rfl, Nat.le_of_ble_eq_true rfl⟩ (rfl : vwCl[10]? = some (RX11, TX11, 19)) ob_0 rfl rfl (Nat.le_of_ble_eq_true rfl) dX11_below_2 ⟨Nat.le_of_ble_eq_true rfl, Nat.le_of_ble_eq_true rfl⟩ (fun k9 hk9 => ?_) (fun v9 hv9 => ?_)
  · subst hk9
    obtain rfl := Option.some.inj h
    exact ⟨rfl, rfl⟩
  · subst hv9
    have h := selR h
    refine g_aload_n C dX11_below_5 rfl 0 rfl ?_
    refine gX_get_X11_65 C ob_0 rfl dX11_below_6 ?_
    refine g_iload_n C dX11_below_9 rfl 1 rfl ?_
    obtain ⟨r10, hr10, h⟩ := bnd h
    refine g_xVi (k := 10) (As := [.int x1]) (rest := []) (ro := r10) (go := g2) (xo := xo) Y (fun sz => cX_State_directlyUnder l D T ad sK sV xo g2 10 x1 (Or.inl rfl) _ hr10 sz) kX_RX11_241_State_directlyUnder ⟨Nat.le_of_ble_eq_true rfl, Nat.le_of_ble_eq_true rfl⟩ ⟨rfl, rfl⟩ ⟨Nat.le_of_ble_eq_true rfl, Nat.le_of_ble_eq_true rfl⟩ (rfl : vwCl[6]? = some (RX7, TX7, 6)) ob_10 rfl rfl (Nat.le_of_ble_eq_true rfl) dX11_below_10 ?_
    refine g_istore_n (lv' := [(2, .int r10), (0, .ref (ad 0)), (1, .int x1)]) C dX11_below_13 rfl (Nat.le_of_ble_eq_true rfl) rfl ?_
    refine g_iconst C dX11_below_14 ic_0 ?_
    refine g_istore_n (lv' := [(3, .int (0 : Int32)), (2, .int r10), (0, .ref (ad 0)), (1, .int x1)]) C dX11_below_15 rfl (Nat.le_of_ble_eq_true rfl) rfl ?_
    exact g_sub [2, 1, 0] rfl (J16 r10 (0 : Int32) g2 h)
def fX_debtless_b35 (x1 : Int32) (x2 : Int32) (g : St) : Option ((Int32 × Int32) ⊕ (Int32)) :=
  some (.inl (x1, (x2 + (1 : Int32))))
def fX_debtless_L4 (g : St) : (Int32 × Int32) → Option ((Int32 × Int32) ⊕ (Int32)) := fun ⟨x1, x2⟩ =>
  if (g 2 0) ≤ x2 then
    (some (.inr x1))
  else
    ((fX_Rows_at 37 x2 g).bind fun r23 => (if r23 = 0 then
    (fX_debtless_b35 (x1 ||| ((1 : Int32) <<< (x2 &&& 31))) x2 g)
  else
    (fX_debtless_b35 x1 x2 g)))
def fX_debtless_b4 (x1 : Int32) (x2 : Int32) (g : St) : Option (Int32) :=
  (lp (fX_debtless_L4 g) fuel (x1, x2)).bind (fun x1 => some x1)
def fX_debtless (g : St) : Option (Int32) :=
  fX_debtless_b4 (0 : Int32) (0 : Int32) g
def rmX_debtless : Room := { frames := 1, cells := 0, slots := 0, locals := 21 }
abbrev GcX_debtless (l : Launch) (D : va_G) (T : cT) (ad : Nat → Nat) (Γ : Cxt) (o : Int32) (xo : Sl) (g0 : St) (x : Sl) (g : St) (pc : Nat) (lv : List (Nat × Value)) (stk : List Value) : Prop := Gj l shX D T ad 3 (rmX_debtless) 0 0 Γ (MQ Γ.below (va_Qi (eqI o g0 xo) (wPost shX D T ad Γ.A) Γ.A) Γ.args Γ.s 0 0 Γ.A) x g pc lv stk
set_option maxRecDepth 100000 in
set_option maxHeartbeats 4000000 in
theorem cX_debtless (l : Launch) (D : va_G) (T : cT) (ad : Nat → Nat) (sK sV : Nat → Nat) (xo : Sl) (g : St) (o : Int32) (h : fX_debtless g = some o) (sz : Nat) : Met l yX11_debtless wX_debtless (rmX_debtless) (va_Pc [.ref (ad 0)] (xPre shX D T ad sK sV xo g sz)) (va_Qi (eqI o g xo) (wPost shX D T ad (aW shX T ad xo g sz)) (aW shX T ad xo g sz)) 0 0 (aW shX T ad xo g sz) := by
  refine g_startx (Qc := fun A => va_Qi (eqI o g xo) (wPost shX D T ad A) A) (by decide +kernel) rfl rfl (Nat.le_of_ble_eq_true rfl) (lv := [(0, .ref (ad 0))]) rfl (fun Γ Y => ?_)
  have C := Y.1
  show GcX_debtless l D T ad Γ o xo g xo g 0 [(0, .ref (ad 0))] []
  have J4 : ∀ (x1 : Int32) (x2 : Int32), fX_debtless_b4 x1 x2 g = some o → GcX_debtless l D T ad Γ o xo g xo g 4 [(0, .ref (ad 0)), (1, .int x1), (2, .int x2)] [] := by
    intro x1 x2 h
    obtain ⟨x1, ht, h⟩ := bnd h
    refine lp_run (P := fun t : Int32 × Int32 => match t with | (x1, x2) => GcX_debtless l D T ad Γ o xo g xo g 4 [(0, .ref (ad 0)), (1, .int x1), (2, .int x2)] []) (E := fun x1 : Int32 => GcX_debtless l D T ad Γ o xo g xo g 41 [(1, .int x1)] []) ?_ _ _ _ ht ?_
    · rintro ⟨x1, x2⟩ z h Kt Ke
      show GcX_debtless l D T ad Γ o xo g xo g 4 [(0, .ref (ad 0)), (1, .int x1), (2, .int x2)] []
      have J35 : ∀ (x1 : Int32) (x2 : Int32), fX_debtless_b35 x1 x2 g = some z → GcX_debtless l D T ad Γ o xo g xo g 35 [(0, .ref (ad 0)), (1, .int x1), (2, .int x2)] [] := by
        intro x1 x2 h
        refine g_iinc (lv' := [(2, .int (x2 + (1 : Int32))), (0, .ref (ad 0)), (1, .int x1)]) C dX11_debtless_35 2 rfl (ii_1 _) (Nat.le_of_ble_eq_true rfl) rfl ?_
        refine g_goto (tgt := 4) C dX11_debtless_38 (by decide) ?_
        exact g_sub [1, 2, 0] rfl (Kt _ (Option.some.inj h).symm)
      refine g_iload_n C dX11_debtless_4 rfl 2 rfl ?_
      refine g_aload_n C dX11_debtless_5 rfl 0 rfl ?_
      refine gX_get_X11_19 C ob_0 rfl dX11_debtless_6 ?_
      refine gX_get_X11_143 (v := g 2 0) C ob_2 rfl rfl dX11_debtless_9 ?_
      refine g_icmp_ge C 41 dX11_debtless_12 (by decide) (fun c12 => ?_) (fun c12 => ?_)
      · have h := iteT c12 h
        exact g_sub [1] rfl (Ke _ (Option.some.inj h).symm)
      · have h := iteF c12 h
        refine g_aload_n C dX11_debtless_15 rfl 0 rfl ?_
        refine gX_get_X11_65 C ob_0 rfl dX11_debtless_16 ?_
        refine gX_get_X11_227 C ob_10 rfl dX11_debtless_19 ?_
        refine g_iload_n C dX11_debtless_22 rfl 2 rfl ?_
        obtain ⟨r23, hr23, h⟩ := bnd h
        refine g_xSi (As := [.ref (ad 37), .int x2]) (rest := []) (ro := r23) (go := g) (xo := xo) Y (fun sz => cX_Rows_at l D T ad sK sV xo g 37 x2 _ hr23 sz) kX_RX11_221_Rows_at ⟨Nat.le_of_ble_eq_true rfl, Nat.le_of_ble_eq_true rfl⟩ ⟨rfl, rfl⟩ ⟨Nat.zero_le _, Nat.zero_le _⟩ rfl rfl (Nat.le_of_ble_eq_true rfl) dX11_debtless_23 ?_
        refine g_if_ne C 35 dX11_debtless_26 (by decide) (fun c26 => ?_) (fun c26 => ?_)
        · have h := iteT c26 h
          refine g_iload_n C dX11_debtless_29 rfl 1 rfl ?_
          refine g_iconst C dX11_debtless_30 ic_1 ?_
          refine g_iload_n C dX11_debtless_31 rfl 2 rfl ?_
          refine g_ishl C dX11_debtless_32 ?_
          refine g_ior C dX11_debtless_33 ?_
          refine g_istore_n (lv' := [(1, .int (x1 ||| ((1 : Int32) <<< (x2 &&& 31)))), (0, .ref (ad 0)), (2, .int x2)]) C dX11_debtless_34 rfl (Nat.le_of_ble_eq_true rfl) rfl ?_
          exact g_sub [1, 0, 2] rfl (J35 (x1 ||| ((1 : Int32) <<< (x2 &&& 31))) x2 h)
        · have h := iteF c26 h
          exact J35 x1 x2 h
    · show GcX_debtless l D T ad Γ o xo g xo g 41 [(1, .int x1)] []
      refine g_iload_n C dX11_debtless_41 rfl 0 rfl ?_
      obtain rfl := Option.some.inj h
      exact g_iret C rfl rfl rfl dX11_debtless_42
  refine g_iconst C dX11_debtless_0 ic_0 ?_
  refine g_istore_n (lv' := [(1, .int (0 : Int32)), (0, .ref (ad 0))]) C dX11_debtless_1 rfl (Nat.le_of_ble_eq_true rfl) rfl ?_
  refine g_iconst C dX11_debtless_2 ic_0 ?_
  refine g_istore_n (lv' := [(2, .int (0 : Int32)), (1, .int (0 : Int32)), (0, .ref (ad 0))]) C dX11_debtless_3 rfl (Nat.le_of_ble_eq_true rfl) rfl ?_
  exact g_sub [2, 1, 0] rfl (J4 (0 : Int32) (0 : Int32) h)
def fX_after_b46 (x1 : Int32) (x2 : Int32) (s0 : Int32) (g : St) : Option ((Nat ⊕ Int32) × St) :=
  if s0 = (-1 : Int32) then
    (some (.inr (-1 : Int32), g))
  else
    (if x2 = 0 then
    ((fX_State_stonesOf 10 s0 g).bind fun r63 => (some (.inr (r63 + (1 : Int32)), g)))
  else
    ((fX_Rows_at 37 s0 g).bind fun r80 => ((fX_Rows_at 37 x1 g).bind fun r91 => (some (.inr (if (r80 + r91) < (999 : Int32) then (r80 + r91) else (999 : Int32)), g)))))
def fX_after_b20 (x1 : Int32) (x2 : Int32) (s1 : Int32) (g : St) : Option ((Nat ⊕ Int32) × St) :=
  lt1 (fX_need s1 g) fun ⟨r20, g20⟩ => Sum.elim (fun k => some (.inl k, g20)) (fun _ => (fX_State_lives 10 x1 g20).bind fun r28 => (if r28 = 0 then
    (fX_after_b46 x1 x2 (-1 : Int32) g20)
  else
    ((fX_State_heirOf 10 x1 g20).bind fun ⟨r39, g39⟩ => (fX_after_b46 x1 x2 r39 g39)))) r20
def fX_after_b15 (x1 : Int32) (x2 : Int32) (g : St) : Option ((Nat ⊕ Int32) × St) :=
  fX_after_b20 x1 x2 (1 : Int32) g
def fX_after (x1 : Int32) (x2 : Int32) (g : St) : Option ((Nat ⊕ Int32) × St) :=
  lt1 (fX_needPerson x1 g) fun ⟨r2, g2⟩ => Sum.elim (fun k => some (.inl k, g2)) (fun _ => if x2 = 0 then
    (fX_after_b15 x1 x2 g2)
  else
    (if x2 = (1 : Int32) then
    (fX_after_b15 x1 x2 g2)
  else
    (fX_after_b20 x1 x2 (0 : Int32) g2))) r2
def rmX_after : Room := { frames := 9, cells := 2, slots := 12, locals := 141 }
abbrev GcX_after (l : Launch) (D : va_G) (T : cT) (ad : Nat → Nat) (Γ : Cxt) (o : (Nat ⊕ Int32) × St) (xo : Sl) (kc : Nat) (x : Sl) (g : St) (pc : Nat) (lv : List (Nat × Value)) (stk : List Value) : Prop := Gj l shX D T ad 4 (rmX_after) kc (6 * kc) Γ (vx_MQ Γ.below (va_Qi (xoI o xo) (wPost shX D T ad Γ.A) Γ.A) (xoX shX D T ad o.1 (o.2, xo) Γ.A) Γ.args Γ.s 2 12 Γ.A) x g pc lv stk
set_option maxRecDepth 100000 in
set_option maxHeartbeats 4000000 in
theorem cX_after (l : Launch) (hl0 : l.stackTraces = false) (D : va_G) (T : cT) (ad : Nat → Nat) (sK sV : Nat → Nat) (xo : Sl) (g : St) (x1 : Int32) (x2 : Int32) (o : (Nat ⊕ Int32) × St) (h : fX_after x1 x2 g = some o) (sz : Nat) : vx_Met l yX11_after wX_after (rmX_after) (va_Pc [.ref (ad 0), .int x1, .int x2] (xPre shX D T ad sK sV xo g sz)) (va_Qi (xoI o xo) (wPost shX D T ad (aW shX T ad xo g sz)) (aW shX T ad xo g sz)) (xoX shX D T ad o.1 (o.2, xo) (aW shX T ad xo g sz)) 2 12 (aW shX T ad xo g sz) := by
  refine g_startt (Qc := fun A => va_Qi (xoI o xo) (wPost shX D T ad A) A) (XC := fun A => xoX shX D T ad o.1 (o.2, xo) A) hl0 (by decide +kernel) rfl rfl (Nat.le_of_ble_eq_true rfl) (lv := [(0, .ref (ad 0)), (1, .int x1), (2, .int x2)]) rfl (fun Γ Z => ?_)
  have Y := Z.1
  have C := Y.1
  show GcX_after l D T ad Γ o xo 0 xo g 0 [(0, .ref (ad 0)), (1, .int x1), (2, .int x2)] []
  have J46 : ∀ (x1 : Int32) (x2 : Int32) (s0 : Int32) (g : St), fX_after_b46 x1 x2 s0 g = some o → GcX_after l D T ad Γ o xo 2 xo g 46 [(0, .ref (ad 0)), (1, .int x1), (2, .int x2)] [.int s0] := by
    intro x1 x2 s0 g h
    refine g_istore_n (lv' := [(3, .int s0), (0, .ref (ad 0)), (1, .int x1), (2, .int x2)]) C dX11_after_46 rfl (Nat.le_of_ble_eq_true rfl) rfl ?_
    refine g_iload_n C dX11_after_47 rfl 0 rfl ?_
    refine g_iconst C dX11_after_48 ic_m1 ?_
    refine g_icmp_ne C 54 dX11_after_49 (by decide) (fun c49 => ?_) (fun c49 => ?_)
    · have h := iteT c49 h
      refine g_iconst C dX11_after_52 ic_m1 ?_
      obtain rfl := Option.some.inj h
      exact g_treti Z rfl rfl ⟨Nat.le_of_ble_eq_true rfl, Nat.le_of_ble_eq_true rfl⟩ dX11_after_53
    · have h := iteF c49 h
      refine g_iload_n C dX11_after_54 rfl 3 rfl ?_
      refine g_if_ne C 69 dX11_after_55 (by decide) (fun c55 => ?_) (fun c55 => ?_)
      · have h := iteT c55 h
        refine g_aload_n C dX11_after_58 rfl 1 rfl ?_
        refine gX_get_X11_65 C ob_0 rfl dX11_after_59 ?_
        refine g_iload_n C dX11_after_62 rfl 0 rfl ?_
        obtain ⟨r63, hr63, h⟩ := bnd h
        refine g_xVi (k := 10) (As := [.int s0]) (rest := []) (ro := r63) (go := g) (xo := xo) Y (fun sz => cX_State_stonesOf l D T ad sK sV xo g 10 s0 (Or.inl rfl) _ hr63 sz) kX_RX11_237_State_stonesOf ⟨Nat.le_of_ble_eq_true rfl, Nat.le_of_ble_eq_true rfl⟩ ⟨rfl, rfl⟩ ⟨Nat.le_of_ble_eq_true rfl, Nat.le_of_ble_eq_true rfl⟩ (rfl : vwCl[6]? = some (RX7, TX7, 6)) ob_10 rfl rfl (Nat.le_of_ble_eq_true rfl) dX11_after_63 ?_
        refine g_iconst C dX11_after_66 ic_1 ?_
        refine g_iadd C dX11_after_67 ?_
        obtain rfl := Option.some.inj h
        exact g_treti Z rfl rfl ⟨Nat.le_of_ble_eq_true rfl, Nat.le_of_ble_eq_true rfl⟩ dX11_after_68
      · have h := iteF c55 h
        refine g_sipush C dX11_after_69 sp_999 ?_
        refine g_aload_n C dX11_after_72 rfl 1 rfl ?_
        refine gX_get_X11_65 C ob_0 rfl dX11_after_73 ?_
        refine gX_get_X11_227 C ob_10 rfl dX11_after_76 ?_
        refine g_iload_n C dX11_after_79 rfl 0 rfl ?_
        obtain ⟨r80, hr80, h⟩ := bnd h
        refine g_xSi (As := [.ref (ad 37), .int s0]) (rest := [.int (999 : Int32)]) (ro := r80) (go := g) (xo := xo) Y (fun sz => cX_Rows_at l D T ad sK sV xo g 37 s0 _ hr80 sz) kX_RX11_221_Rows_at ⟨Nat.le_of_ble_eq_true rfl, Nat.le_of_ble_eq_true rfl⟩ ⟨rfl, rfl⟩ ⟨Nat.le_of_ble_eq_true rfl, Nat.le_of_ble_eq_true rfl⟩ rfl rfl (Nat.le_of_ble_eq_true rfl) dX11_after_80 ?_
        refine g_aload_n C dX11_after_83 rfl 1 rfl ?_
        refine gX_get_X11_65 C ob_0 rfl dX11_after_84 ?_
        refine gX_get_X11_227 C ob_10 rfl dX11_after_87 ?_
        refine g_iload_n C dX11_after_90 rfl 2 rfl ?_
        obtain ⟨r91, hr91, h⟩ := bnd h
        refine g_xSi (As := [.ref (ad 37), .int x1]) (rest := [.int r80, .int (999 : Int32)]) (ro := r91) (go := g) (xo := xo) Y (fun sz => cX_Rows_at l D T ad sK sV xo g 37 x1 _ hr91 sz) kX_RX11_221_Rows_at ⟨Nat.le_of_ble_eq_true rfl, Nat.le_of_ble_eq_true rfl⟩ ⟨rfl, rfl⟩ ⟨Nat.le_of_ble_eq_true rfl, Nat.le_of_ble_eq_true rfl⟩ rfl rfl (Nat.le_of_ble_eq_true rfl) dX11_after_91 ?_
        refine g_iadd C dX11_after_94 ?_
        refine g_mmin (rest := []) C (List.mem_cons_of_mem _ bx_756) (List.mem_cons_of_mem _ bx_56) (List.mem_cons_of_mem _ bx_57) (List.mem_cons_of_mem _ bx_58) (Nat.le_of_ble_eq_true rfl) (Nat.le_of_ble_eq_true rfl) ⟨Nat.le_of_ble_eq_true rfl, Nat.le_of_ble_eq_true rfl⟩ dX11_after_95 ?_
        obtain rfl := Option.some.inj h
        exact g_treti Z rfl rfl ⟨Nat.le_of_ble_eq_true rfl, Nat.le_of_ble_eq_true rfl⟩ dX11_after_98
  have J20 : ∀ (x1 : Int32) (x2 : Int32) (s1 : Int32) (g : St), fX_after_b20 x1 x2 s1 g = some o → GcX_after l D T ad Γ o xo 1 xo g 20 [(0, .ref (ad 0)), (1, .int x1), (2, .int x2)] [.int s1, .ref (ad 0)] := by
    intro x1 x2 s1 g h
    obtain ⟨⟨r20, g20⟩, hr20, h⟩ := ltb h
    refine g_tVv (k := 0) (As := [.int s1]) (rest := []) (o := (r20, g20)) (xo := xo) Z (fun sz => cX_need l hl0 D T ad sK sV xo g s1 _ hr20 sz) kX_RX11_115_need ⟨Nat.le_of_ble_eq_true rfl, Nat.le_of_ble_eq_true rfl⟩ ⟨rfl, rfl⟩ ⟨Nat.le_of_ble_eq_true rfl, Nat.le_of_ble_eq_true rfl⟩ (rfl : vwCl[10]? = some (RX11, TX11, 19)) ob_0 rfl rfl (Nat.le_of_ble_eq_true rfl) dX11_after_20 ⟨Nat.le_of_ble_eq_true rfl, Nat.le_of_ble_eq_true rfl⟩ (fun k9 hk9 => ?_) (fun v9 hv9 => ?_)
    · subst hk9
      obtain rfl := Option.some.inj h
      exact ⟨rfl, rfl⟩
    · subst hv9
      have h := selR h
      refine g_aload_n C dX11_after_23 rfl 0 rfl ?_
      refine gX_get_X11_65 C ob_0 rfl dX11_after_24 ?_
      refine g_iload_n C dX11_after_27 rfl 1 rfl ?_
      obtain ⟨r28, hr28, h⟩ := bnd h
      refine g_xVz (k := 10) (As := [.int x1]) (rest := []) (ro := r28) (go := g20) (xo := xo) Y (fun sz => cX_State_lives l D T ad sK sV xo g20 10 x1 (Or.inl rfl) _ hr28 sz) kX_RX11_230_State_lives ⟨Nat.le_of_ble_eq_true rfl, Nat.le_of_ble_eq_true rfl⟩ ⟨rfl, rfl⟩ ⟨Nat.le_of_ble_eq_true rfl, Nat.le_of_ble_eq_true rfl⟩ (rfl : vwCl[6]? = some (RX7, TX7, 6)) ob_10 rfl rfl (Nat.le_of_ble_eq_true rfl) dX11_after_28 (fun hz28 => ?_)
      refine g_if_eq C 45 dX11_after_31 (by decide) (fun c31 => ?_) (fun c31 => ?_)
      · have h := iteT c31 h
        refine g_iconst C dX11_after_45 ic_m1 ?_
        exact J46 x1 x2 (-1 : Int32) g20 h
      · have h := iteF c31 h
        refine g_aload_n C dX11_after_34 rfl 0 rfl ?_
        refine gX_get_X11_65 C ob_0 rfl dX11_after_35 ?_
        refine g_iload_n C dX11_after_38 rfl 1 rfl ?_
        obtain ⟨⟨r39, g39⟩, hr39, h⟩ := bnd h
        refine g_xVi (k := 10) (As := [.int x1]) (rest := []) (ro := r39) (go := g39) (xo := xo) Y (fun sz => cX_State_heirOf l D T ad sK sV xo g20 10 x1 (Or.inl rfl) _ hr39 sz) kX_RX11_268_State_heirOf ⟨Nat.le_of_ble_eq_true rfl, Nat.le_of_ble_eq_true rfl⟩ ⟨rfl, rfl⟩ ⟨Nat.le_of_ble_eq_true rfl, Nat.le_of_ble_eq_true rfl⟩ (rfl : vwCl[6]? = some (RX7, TX7, 6)) ob_10 rfl rfl (Nat.le_of_ble_eq_true rfl) dX11_after_39 ?_
        refine g_goto (tgt := 46) C dX11_after_42 (by decide) ?_
        exact J46 x1 x2 r39 g39 h
  have J15 : ∀ (x1 : Int32) (x2 : Int32) (g : St), fX_after_b15 x1 x2 g = some o → GcX_after l D T ad Γ o xo 1 xo g 15 [(0, .ref (ad 0)), (1, .int x1), (2, .int x2)] [.ref (ad 0)] := by
    intro x1 x2 g h
    refine g_iconst C dX11_after_15 ic_1 ?_
    refine g_goto (tgt := 20) C dX11_after_16 (by decide) ?_
    exact J20 x1 x2 (1 : Int32) g h
  refine g_aload_n C dX11_after_0 rfl 0 rfl ?_
  refine g_iload_n C dX11_after_1 rfl 1 rfl ?_
  obtain ⟨⟨r2, g2⟩, hr2, h⟩ := ltb h
  refine g_tVv (k := 0) (As := [.int x1]) (rest := []) (o := (r2, g2)) (xo := xo) Z (fun sz => cX_needPerson l hl0 D T ad sK sV xo g x1 _ hr2 sz) kX_RX11_214_needPerson ⟨Nat.le_of_ble_eq_true rfl, Nat.le_of_ble_eq_true rfl⟩ ⟨rfl, rfl⟩ ⟨Nat.le_of_ble_eq_true rfl, Nat.le_of_ble_eq_true rfl⟩ (rfl : vwCl[10]? = some (RX11, TX11, 19)) ob_0 rfl rfl (Nat.le_of_ble_eq_true rfl) dX11_after_2 ⟨Nat.le_of_ble_eq_true rfl, Nat.le_of_ble_eq_true rfl⟩ (fun k9 hk9 => ?_) (fun v9 hv9 => ?_)
  · subst hk9
    obtain rfl := Option.some.inj h
    exact ⟨rfl, rfl⟩
  · subst hv9
    have h := selR h
    refine g_aload_n C dX11_after_5 rfl 0 rfl ?_
    refine g_iload_n C dX11_after_6 rfl 2 rfl ?_
    refine g_if_eq C 15 dX11_after_7 (by decide) (fun c7 => ?_) (fun c7 => ?_)
    · have h := iteT c7 h
      exact J15 x1 x2 g2 h
    · have h := iteF c7 h
      refine g_iload_n C dX11_after_10 rfl 2 rfl ?_
      refine g_iconst C dX11_after_11 ic_1 ?_
      refine g_icmp_ne C 19 dX11_after_12 (by decide) (fun c12 => ?_) (fun c12 => ?_)
      · have h := iteT c12 h
        exact J15 x1 x2 g2 h
      · have h := iteF c12 h
        refine g_iconst C dX11_after_19 ic_0 ?_
        exact J20 x1 x2 (0 : Int32) g2 h
