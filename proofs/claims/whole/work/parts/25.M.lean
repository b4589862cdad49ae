def fM_neighbours_b158 (x1 : Int32) (x2 : Int32) (x3 : Int32) (x4 : Int32) (x5 : Int32) (x6 : Int32) (x7 : Int32) (x8 : Int32) (g : St) : Option ((Int32 × Int32 × Int32 × Int32) ⊕ ((Int32 × Int32 × Int32))) :=
  some (.inl (x4, x5, x6, (x8 + (1 : Int32))))
def fM_neighbours_b153 (x1 : Int32) (x2 : Int32) (x3 : Int32) (x4 : Int32) (x6 : Int32) (x7 : Int32) (x8 : Int32) (s0 : Int32) (g : St) : Option ((Int32 × Int32 × Int32 × Int32) ⊕ ((Int32 × Int32 × Int32))) :=
  fM_neighbours_b158 x1 x2 x3 (x4 + (1 : Int32)) s0 x6 x7 x8 g
def fM_neighbours_b133 (x1 : Int32) (x2 : Int32) (x3 : Int32) (x4 : Int32) (x5 : Int32) (x7 : Int32) (x8 : Int32) (s0 : Int32) (g : St) : Option ((Int32 × Int32 × Int32 × Int32) ⊕ ((Int32 × Int32 × Int32))) :=
  if x4 = 0 then
    (fM_neighbours_b153 x1 x2 x3 x4 s0 x7 x8 (((10 : Int32) * x7) + x8) g)
  else
    (fM_neighbours_b153 x1 x2 x3 x4 s0 x7 x8 x5 g)
def fM_neighbours_L71 (x1 : Int32) (x2 : Int32) (x3 : Int32) (x7 : Int32) (g : St) : (Int32 × Int32 × Int32 × Int32) → Option ((Int32 × Int32 × Int32 × Int32) ⊕ ((Int32 × Int32 × Int32))) := fun ⟨x4, x5, x6, x8⟩ =>
  if (2 : Int32) ≤ x8 then
    (some (.inr (x4, x5, x6)))
  else
    (if (fM_isBest x7 x8 x1 x2) = 0 then
    (fM_neighbours_b158 x1 x2 x3 x4 x5 x6 x7 x8 g)
  else
    (if (fM_isBest x8 x7 x1 x2) = 0 then
    (fM_neighbours_b158 x1 x2 x3 x4 x5 x6 x7 x8 g)
  else
    (if x4 = 0 then
    (fM_neighbours_b133 x1 x2 x3 x4 x5 x7 x8 ((fM_hasBy x7 x8 x1 x2) + (fM_hasBy x8 x7 x1 x2)) g)
  else
    (fM_neighbours_b133 x1 x2 x3 x4 x5 x7 x8 x6 g))))
def fM_neighbours_b71 (x1 : Int32) (x2 : Int32) (x3 : Int32) (x4 : Int32) (x5 : Int32) (x6 : Int32) (x7 : Int32) (x8 : Int32) (g : St) : Option ((Int32 × Int32 × Int32 × Int32) ⊕ ((Int32 × Int32 × Int32))) :=
  (lp (fM_neighbours_L71 x1 x2 x3 x7 g) fuel (x4, x5, x6, x8)).bind (fun ⟨x4, x5, x6⟩ => some (.inl (x4, x5, x6, (x7 + (1 : Int32)))))
def fM_neighbours_L62 (x1 : Int32) (x2 : Int32) (x3 : Int32) (g : St) : (Int32 × Int32 × Int32 × Int32) → Option ((Int32 × Int32 × Int32 × Int32) ⊕ ((Int32 × Int32 × Int32))) := fun ⟨x4, x5, x6, x7⟩ =>
  if (2 : Int32) ≤ x7 then
    (some (.inr (x4, x5, x6)))
  else
    (fM_neighbours_b71 x1 x2 x3 x4 x5 x6 x7 (0 : Int32) g)
def fM_neighbours_b62 (x1 : Int32) (x2 : Int32) (x3 : Int32) (x4 : Int32) (x5 : Int32) (x6 : Int32) (x7 : Int32) (g : St) : Option (Int32 × St) :=
  (lp (fM_neighbours_L62 x1 x2 x3 g) fuel (x4, x5, x6, x7)).bind (fun ⟨x4, x5, x6⟩ => if x3 = 0 then
    (some (x4, g))
  else
    (if x3 = (1 : Int32) then
    (some (x5, g))
  else
    (some (x6, g))))
def fM_neighbours_b40 (x1 : Int32) (x2 : Int32) (x3 : Int32) (s1 : Int32) (g : St) : Option (Int32 × St) :=
  (fM_bad s1 (1 : Int32) (1 : Int32) g).bind fun ⟨r42, g42⟩ => (if r42 = 0 then
    (fM_neighbours_b62 x1 x2 x3 (0 : Int32) (-1 : Int32) (0 : Int32) (0 : Int32) g42)
  else
    (some ((0 : Int32), g42)))
def fM_neighbours_b35 (x1 : Int32) (x2 : Int32) (x3 : Int32) (g : St) : Option (Int32 × St) :=
  fM_neighbours_b40 x1 x2 x3 (1 : Int32) g
def fM_neighbours (x1 : Int32) (x2 : Int32) (x3 : Int32) (g : St) : Option (Int32 × St) :=
  if (fM_in x1 (0 : Int32) (99 : Int32)) = 0 then
    (fM_neighbours_b35 x1 x2 x3 (st g 0 0 (0 : Int32)))
  else
    (if (fM_in x2 (0 : Int32) (99 : Int32)) = 0 then
    (fM_neighbours_b35 x1 x2 x3 (st g 0 0 (0 : Int32)))
  else
    (if (fM_in x3 (0 : Int32) (2 : Int32)) = 0 then
    (fM_neighbours_b35 x1 x2 x3 (st g 0 0 (0 : Int32)))
  else
    (fM_neighbours_b40 x1 x2 x3 (0 : Int32) (st g 0 0 (0 : Int32)))))
def rmM_neighbours : Room := { frames := 2, cells := 0, slots := 0, locals := 46 }
abbrev GcM_neighbours (l : Launch) (D : va_G) (T : cT) (ad : Nat → Nat) (Γ : Cxt) (o : Int32 × St) (xo : Sl) (x : Sl) (g : St) (pc : Nat) (lv : List (Nat × Value)) (stk : List Value) : Prop := Gj l shM D T ad 9 (rmM_neighbours) 0 0 Γ (MQ Γ.below (va_Qi (eqI o.1 o.2 xo) (wPost shM D T ad Γ.A) Γ.A) Γ.args Γ.s 0 0 Γ.A) x g pc lv stk
set_option maxRecDepth 100000 in
set_option maxHeartbeats 4000000 in
theorem cM_neighbours (l : Launch) (D : va_G) (T : cT) (ad : Nat → Nat) (xo : Sl) (g : St) (x1 : Int32) (x2 : Int32) (x3 : Int32) (o : Int32 × St) (h : fM_neighbours x1 x2 x3 g = some o) (sz : Nat) : Met l yX12_neighbours wM_neighbours (rmM_neighbours) (va_Pc [.ref (ad 0), .int x1, .int x2, .int x3] (wPre shM D T ad xo g sz)) (va_Qi (eqI o.1 o.2 xo) (wPost shM D T ad (aW shM T ad xo g sz)) (aW shM T ad xo g sz)) 0 0 (aW shM T ad xo g sz) := by
  refine g_start (Qc := fun A => va_Qi (eqI o.1 o.2 xo) (wPost shM D T ad A) A) (by decide +kernel) rfl rfl (Nat.le_of_ble_eq_true rfl) (lv := [(0, .ref (ad 0)), (1, .int x1), (2, .int x2), (3, .int x3)]) rfl (fun Γ C => ?_)
  show GcM_neighbours l D T ad Γ o xo xo g 0 [(0, .ref (ad 0)), (1, .int x1), (2, .int x2), (3, .int x3)] []
  have J62 : ∀ (x1 : Int32) (x2 : Int32) (x3 : Int32) (x4 : Int32) (x5 : Int32) (x6 : Int32) (x7 : Int32) (g : St), fM_neighbours_b62 x1 x2 x3 x4 x5 x6 x7 g = some o → GcM_neighbours l D T ad Γ o xo xo g 62 [(1, .int x1), (2, .int x2), (3, .int x3), (4, .int x4), (5, .int x5), (6, .int x6), (7, .int x7)] [] := by
    intro x1 x2 x3 x4 x5 x6 x7 g h
    obtain ⟨⟨x4, x5, x6⟩, ht, h⟩ := bnd h
    refine lp_run (P := fun t : Int32 × Int32 × Int32 × Int32 => match t with | (x4, x5, x6, x7) => GcM_neighbours l D T ad Γ o xo xo g 62 [(1, .int x1), (2, .int x2), (3, .int x3), (4, .int x4), (5, .int x5), (6, .int x6), (7, .int x7)] []) (E := fun t : Int32 × Int32 × Int32 => match t with | (x4, x5, x6) => GcM_neighbours l D T ad Γ o xo xo g 170 [(3, .int x3), (4, .int x4), (5, .int x5), (6, .int x6)] []) ?_ _ _ _ ht ?_
    · rintro ⟨x4, x5, x6, x7⟩ z h Kt Ke
      show GcM_neighbours l D T ad Γ o xo xo g 62 [(1, .int x1), (2, .int x2), (3, .int x3), (4, .int x4), (5, .int x5), (6, .int x6), (7, .int x7)] []
      have J71 : ∀ (x4 : Int32) (x5 : Int32) (x6 : Int32) (x7 : Int32) (x8 : Int32), fM_neighbours_b71 x1 x2 x3 x4 x5 x6 x7 x8 g = some z → GcM_neighbours l D T ad Γ o xo xo g 71 [(1, .int x1), (2, .int x2), (3, .int x3), (4, .int x4), (5, .int x5), (6, .int x6), (7, .int x7), (8, .int x8)] [] := by
        intro x4 x5 x6 x7 x8 h
        obtain ⟨⟨x4, x5, x6⟩, ht, h⟩ := bnd h
        refine lp_run (P := fun t : Int32 × Int32 × Int32 × Int32 => match t with | (x4, x5, x6, x8) => GcM_neighbours l D T ad Γ o xo xo g 71 [(1, .int x1), (2, .int x2), (3, .int x3), (4, .int x4), (5, .int x5), (6, .int x6), (7, .int x7), (8, .int x8)] []) (E := fun t : Int32 × Int32 × Int32 => match t with | (x4, x5, x6) => GcM_neighbours l D T ad Γ o xo xo g 164 [(1, .int x1), (2, .int x2), (3, .int x3), (4, .int x4), (5, .int x5), (6, .int x6), (7, .int x7)] []) ?_ _ _ _ ht ?_
        · rintro ⟨x4, x5, x6, x8⟩ z h Kt Ke
          show GcM_neighbours l D T ad Γ o xo xo g 71 [(1, .int x1), (2, .int x2), (3, .int x3), (4, .int x4), (5, .int x5), (6, .int x6), (7, .int x7), (8, .int x8)] []
          have J158 : ∀ (x4 : Int32) (x5 : Int32) (x6 : Int32) (x8 : Int32), fM_neighbours_b158 x1 x2 x3 x4 x5 x6 x7 x8 g = some z → GcM_neighbours l D T ad Γ o xo xo g 158 [(1, .int x1), (2, .int x2), (3, .int x3), (4, .int x4), (5, .int x5), (6, .int x6), (7, .int x7), (8, .int x8)] [] := by
            intro x4 x5 x6 x8 h
            refine g_iinc (lv' := [(8, .int (x8 + (1 : Int32))), (1, .int x1), (2, .int x2), (3, .int x3), (4, .int x4), (5, .int x5), (6, .int x6), (7, .int x7)]) C dX12_neighbours_158 7 rfl (ii_1 _) (Nat.le_of_ble_eq_true rfl) rfl ?_
            refine g_goto (tgt := 71) C dX12_neighbours_161 (by decide) ?_
            exact g_sub [1, 2, 3, 4, 5, 6, 7, 0] rfl (Kt _ (Option.some.inj h).symm)
          have J153 : ∀ (x4 : Int32) (x6 : Int32) (x8 : Int32) (s0 : Int32), fM_neighbours_b153 x1 x2 x3 x4 x6 x7 x8 s0 g = some z → GcM_neighbours l D T ad Γ o xo xo g 153 [(1, .int x1), (2, .int x2), (3, .int x3), (4, .int x4), (6, .int x6), (7, .int x7), (8, .int x8)] [.int s0] := by
            intro x4 x6 x8 s0 h
            refine g_istore (lv' := [(5, .int s0), (1, .int x1), (2, .int x2), (3, .int x3), (4, .int x4), (6, .int x6), (7, .int x7), (8, .int x8)]) C dX12_neighbours_153 (Nat.le_of_ble_eq_true rfl) rfl ?_
            refine g_iinc (lv' := [(4, .int (x4 + (1 : Int32))), (5, .int s0), (1, .int x1), (2, .int x2), (3, .int x3), (6, .int x6), (7, .int x7), (8, .int x8)]) C dX12_neighbours_155 4 rfl (ii_1 _) (Nat.le_of_ble_eq_true rfl) rfl ?_
            exact g_sub [2, 3, 4, 0, 1, 5, 6, 7] rfl (J158 (x4 + (1 : Int32)) s0 x6 x8 h)
          have J133 : ∀ (x4 : Int32) (x5 : Int32) (x8 : Int32) (s0 : Int32), fM_neighbours_b133 x1 x2 x3 x4 x5 x7 x8 s0 g = some z → GcM_neighbours l D T ad Γ o xo xo g 133 [(1, .int x1), (2, .int x2), (3, .int x3), (4, .int x4), (5, .int x5), (7, .int x7), (8, .int x8)] [.int s0] := by
            intro x4 x5 x8 s0 h
            refine g_istore (lv' := [(6, .int s0), (1, .int x1), (2, .int x2), (3, .int x3), (4, .int x4), (5, .int x5), (7, .int x7), (8, .int x8)]) C dX12_neighbours_133 (Nat.le_of_ble_eq_true rfl) rfl ?_
            refine g_iload C dX12_neighbours_135 4 rfl ?_
            refine g_if_ne C 151 dX12_neighbours_137 (by decide) (fun c137 => ?_) (fun c137 => ?_)
            · have h := iteT c137 h
              refine g_bipush C dX12_neighbours_140 bp_10 ?_
              refine g_iload C dX12_neighbours_142 6 rfl ?_
              refine g_imul C dX12_neighbours_144 ?_
              refine g_iload C dX12_neighbours_145 7 rfl ?_
              refine g_iadd C dX12_neighbours_147 ?_
              refine g_goto (tgt := 153) C dX12_neighbours_148 (by decide) ?_
              exact g_sub [1, 2, 3, 4, 0, 6, 7] rfl (J153 x4 s0 x8 (((10 : Int32) * x7) + x8) h)
            · have h := iteF c137 h
              refine g_iload C dX12_neighbours_151 5 rfl ?_
              exact g_sub [1, 2, 3, 4, 0, 6, 7] rfl (J153 x4 s0 x8 x5 h)
          refine g_iload C dX12_neighbours_71 7 rfl ?_
          refine g_iconst C dX12_neighbours_73 ic_2 ?_
          refine g_icmp_ge C 164 dX12_neighbours_74 (by decide) (fun c74 => ?_) (fun c74 => ?_)
          · have h := iteT c74 h
            exact g_sub [0, 1, 2, 3, 4, 5, 6] rfl (Ke _ (Option.some.inj h).symm)
          · have h := iteF c74 h
            refine g_iload C dX12_neighbours_77 6 rfl ?_
            refine g_iload C dX12_neighbours_79 7 rfl ?_
            refine g_iload_n C dX12_neighbours_81 rfl 0 rfl ?_
            refine g_iload_n C dX12_neighbours_82 rfl 1 rfl ?_
            refine g_cSz (As := [.int x7, .int x8, .int x1, .int x2]) (rest := []) (ro := (fM_isBest x7 x8 x1 x2)) (go := g) (xo := xo) C (fun sz => cM_isBest l D T ad xo g x7 x8 x1 x2 _ rfl sz) kM_isBest ⟨Nat.le_of_ble_eq_true rfl, Nat.le_of_ble_eq_true rfl⟩ ⟨rfl, rfl⟩ ⟨Nat.zero_le _, Nat.zero_le _⟩ rfl rfl (Nat.le_of_ble_eq_true rfl) dX12_neighbours_83 (fun hz83 => ?_)
            refine g_if_eq C 158 dX12_neighbours_86 (by decide) (fun c86 => ?_) (fun c86 => ?_)
            · have h := iteT c86 h
              exact J158 x4 x5 x6 x8 h
            · have h := iteF c86 h
              refine g_iload C dX12_neighbours_89 7 rfl ?_
              refine g_iload C dX12_neighbours_91 6 rfl ?_
              refine g_iload_n C dX12_neighbours_93 rfl 0 rfl ?_
              refine g_iload_n C dX12_neighbours_94 rfl 1 rfl ?_
              refine g_cSz (As := [.int x8, .int x7, .int x1, .int x2]) (rest := []) (ro := (fM_isBest x8 x7 x1 x2)) (go := g) (xo := xo) C (fun sz => cM_isBest l D T ad xo g x8 x7 x1 x2 _ rfl sz) kM_isBest ⟨Nat.le_of_ble_eq_true rfl, Nat.le_of_ble_eq_true rfl⟩ ⟨rfl, rfl⟩ ⟨Nat.zero_le _, Nat.zero_le _⟩ rfl rfl (Nat.le_of_ble_eq_true rfl) dX12_neighbours_95 (fun hz95 => ?_)
              refine g_if_ne C 104 dX12_neighbours_98 (by decide) (fun c98 => ?_) (fun c98 => ?_)
              · have h := iteT c98 h
                refine g_goto (tgt := 158) C dX12_neighbours_101 (by decide) ?_
                exact J158 x4 x5 x6 x8 h
              · have h := iteF c98 h
                refine g_iload C dX12_neighbours_104 3 rfl ?_
                refine g_if_ne C 131 dX12_neighbours_106 (by decide) (fun c106 => ?_) (fun c106 => ?_)
                · have h := iteT c106 h
                  refine g_iload C dX12_neighbours_109 6 rfl ?_
                  refine g_iload C dX12_neighbours_111 7 rfl ?_
                  refine g_iload_n C dX12_neighbours_113 rfl 0 rfl ?_
                  refine g_iload_n C dX12_neighbours_114 rfl 1 rfl ?_
                  refine g_cSi (As := [.int x7, .int x8, .int x1, .int x2]) (rest := []) (ro := (fM_hasBy x7 x8 x1 x2)) (go := g) (xo := xo) C (fun sz => cM_hasBy l D T ad xo g x7 x8 x1 x2 _ rfl sz) kM_hasBy ⟨Nat.le_of_ble_eq_true rfl, Nat.le_of_ble_eq_true rfl⟩ ⟨rfl, rfl⟩ ⟨Nat.zero_le _, Nat.zero_le _⟩ rfl rfl (Nat.le_of_ble_eq_true rfl) dX12_neighbours_115 ?_
                  refine g_iload C dX12_neighbours_118 7 rfl ?_
                  refine g_iload C dX12_neighbours_120 6 rfl ?_
                  refine g_iload_n C dX12_neighbours_122 rfl 0 rfl ?_
                  refine g_iload_n C dX12_neighbours_123 rfl 1 rfl ?_
                  refine g_cSi (As := [.int x8, .int x7, .int x1, .int x2]) (rest := [.int (fM_hasBy x7 x8 x1 x2)]) (ro := (fM_hasBy x8 x7 x1 x2)) (go := g) (xo := xo) C (fun sz => cM_hasBy l D T ad xo g x8 x7 x1 x2 _ rfl sz) kM_hasBy ⟨Nat.le_of_ble_eq_true rfl, Nat.le_of_ble_eq_true rfl⟩ ⟨rfl, rfl⟩ ⟨Nat.zero_le _, Nat.zero_le _⟩ rfl rfl (Nat.le_of_ble_eq_true rfl) dX12_neighbours_124 ?_
                  refine g_iadd C dX12_neighbours_127 ?_
                  refine g_goto (tgt := 133) C dX12_neighbours_128 (by decide) ?_
                  exact g_sub [0, 1, 2, 3, 4, 6, 7] rfl (J133 x4 x5 x8 ((fM_hasBy x7 x8 x1 x2) + (fM_hasBy x8 x7 x1 x2)) h)
                · have h := iteF c106 h
                  refine g_iload C dX12_neighbours_131 5 rfl ?_
                  exact g_sub [0, 1, 2, 3, 4, 6, 7] rfl (J133 x4 x5 x8 x6 h)
        · show GcM_neighbours l D T ad Γ o xo xo g 164 [(1, .int x1), (2, .int x2), (3, .int x3), (4, .int x4), (5, .int x5), (6, .int x6), (7, .int x7)] []
          refine g_iinc (lv' := [(7, .int (x7 + (1 : Int32))), (1, .int x1), (2, .int x2), (3, .int x3), (4, .int x4), (5, .int x5), (6, .int x6)]) C dX12_neighbours_164 6 rfl (ii_1 _) (Nat.le_of_ble_eq_true rfl) rfl ?_
          refine g_goto (tgt := 62) C dX12_neighbours_167 (by decide) ?_
          exact g_sub [1, 2, 3, 4, 5, 6, 0] rfl (Kt _ (Option.some.inj h).symm)
      refine g_iload C dX12_neighbours_62 6 rfl ?_
      refine g_iconst C dX12_neighbours_64 ic_2 ?_
      refine g_icmp_ge C 170 dX12_neighbours_65 (by decide) (fun c65 => ?_) (fun c65 => ?_)
      · have h := iteT c65 h
        exact g_sub [2, 3, 4, 5] rfl (Ke _ (Option.some.inj h).symm)
      · have h := iteF c65 h
        refine g_iconst C dX12_neighbours_68 ic_0 ?_
        refine g_istore (lv' := [(8, .int (0 : Int32)), (1, .int x1), (2, .int x2), (3, .int x3), (4, .int x4), (5, .int x5), (6, .int x6), (7, .int x7)]) C dX12_neighbours_69 (Nat.le_of_ble_eq_true rfl) rfl ?_
        exact g_sub [1, 2, 3, 4, 5, 6, 7, 0] rfl (J71 x4 x5 x6 x7 (0 : Int32) h)
    · show GcM_neighbours l D T ad Γ o xo xo g 170 [(3, .int x3), (4, .int x4), (5, .int x5), (6, .int x6)] []
      refine g_iload_n C dX12_neighbours_170 rfl 0 rfl ?_
      refine g_if_ne C 179 dX12_neighbours_171 (by decide) (fun c171 => ?_) (fun c171 => ?_)
      · have h := iteT c171 h
        refine g_iload C dX12_neighbours_174 1 rfl ?_
        refine g_goto (tgt := 191) C dX12_neighbours_176 (by decide) ?_
        obtain rfl := Option.some.inj h
        exact g_iret C rfl rfl rfl dX12_neighbours_191
      · have h := iteF c171 h
        refine g_iload_n C dX12_neighbours_179 rfl 0 rfl ?_
        refine g_iconst C dX12_neighbours_180 ic_1 ?_
        refine g_icmp_ne C 189 dX12_neighbours_181 (by decide) (fun c181 => ?_) (fun c181 => ?_)
        · have h := iteT c181 h
          refine g_iload C dX12_neighbours_184 2 rfl ?_
          refine g_goto (tgt := 191) C dX12_neighbours_186 (by decide) ?_
          obtain rfl := Option.some.inj h
          exact g_iret C rfl rfl rfl dX12_neighbours_191
        · have h := iteF c181 h
          refine g_iload C dX12_neighbours_189 3 rfl ?_
          obtain rfl := Option.some.inj h
          exact g_iret C rfl rfl rfl dX12_neighbours_191
  have J40 : ∀ (x1 : Int32) (x2 : Int32) (x3 : Int32) (s1 : Int32) (g : St), fM_neighbours_b40 x1 x2 x3 s1 g = some o → GcM_neighbours l D T ad Γ o xo xo g 40 [(1, .int x1), (2, .int x2), (3, .int x3)] [.int s1, .ref (ad 0)] := by
    intro x1 x2 x3 s1 g h
    refine g_iconst C dX12_neighbours_40 ic_1 ?_
    refine g_iconst C dX12_neighbours_41 ic_1 ?_
    obtain ⟨⟨r42, g42⟩, hr42, h⟩ := bnd h
    refine g_cVz (k := 0) (As := [.int s1, .int (1 : Int32), .int (1 : Int32)]) (rest := []) (ro := r42) (go := g42) (xo := xo) C (fun sz => cM_bad l D T ad xo g s1 (1 : Int32) (1 : Int32) _ hr42 sz) kM_bad ⟨Nat.le_of_ble_eq_true rfl, Nat.le_of_ble_eq_true rfl⟩ ⟨rfl, rfl⟩ ⟨Nat.zero_le _, Nat.zero_le _⟩ (rfl : vwCl[11]? = some (RX12, TX12, 48)) kM0 rfl rfl (Nat.le_of_ble_eq_true rfl) dX12_neighbours_42 (fun hz42 => ?_)
    refine g_if_eq C 50 dX12_neighbours_45 (by decide) (fun c45 => ?_) (fun c45 => ?_)
    · have h := iteT c45 h
      refine g_iconst C dX12_neighbours_50 ic_0 ?_
      refine g_istore (lv' := [(4, .int (0 : Int32)), (1, .int x1), (2, .int x2), (3, .int x3)]) C dX12_neighbours_51 (Nat.le_of_ble_eq_true rfl) rfl ?_
      refine g_iconst C dX12_neighbours_53 ic_m1 ?_
      refine g_istore (lv' := [(5, .int (-1 : Int32)), (4, .int (0 : Int32)), (1, .int x1), (2, .int x2), (3, .int x3)]) C dX12_neighbours_54 (Nat.le_of_ble_eq_true rfl) rfl ?_
      refine g_iconst C dX12_neighbours_56 ic_0 ?_
      refine g_istore (lv' := [(6, .int (0 : Int32)), (5, .int (-1 : Int32)), (4, .int (0 : Int32)), (1, .int x1), (2, .int x2), (3, .int x3)]) C dX12_neighbours_57 (Nat.le_of_ble_eq_true rfl) rfl ?_
      refine g_iconst C dX12_neighbours_59 ic_0 ?_
      refine g_istore (lv' := [(7, .int (0 : Int32)), (6, .int (0 : Int32)), (5, .int (-1 : Int32)), (4, .int (0 : Int32)), (1, .int x1), (2, .int x2), (3, .int x3)]) C dX12_neighbours_60 (Nat.le_of_ble_eq_true rfl) rfl ?_
      exact g_sub [4, 5, 6, 3, 2, 1, 0] rfl (J62 x1 x2 x3 (0 : Int32) (-1 : Int32) (0 : Int32) (0 : Int32) g42 h)
    · have h := iteF c45 h
      refine g_iconst C dX12_neighbours_48 ic_0 ?_
      obtain rfl := Option.some.inj h
      exact g_iret C rfl rfl rfl dX12_neighbours_49
  have J35 : ∀ (x1 : Int32) (x2 : Int32) (x3 : Int32) (g : St), fM_neighbours_b35 x1 x2 x3 g = some o → GcM_neighbours l D T ad Γ o xo xo g 35 [(1, .int x1), (2, .int x2), (3, .int x3)] [.ref (ad 0)] := by
    intro x1 x2 x3 g h
    refine g_iconst C dX12_neighbours_35 ic_1 ?_
    refine g_goto (tgt := 40) C dX12_neighbours_36 (by decide) ?_
    exact J40 x1 x2 x3 (1 : Int32) g h
  refine g_aload_n C dX12_neighbours_0 rfl 0 rfl ?_
  refine g_iconst C dX12_neighbours_1 ic_0 ?_
  refine gM_put_thrown C dX12_neighbours_2 ?_
  refine g_aload_n C dX12_neighbours_5 rfl 0 rfl ?_
  refine g_iload_n C dX12_neighbours_6 rfl 1 rfl ?_
  refine g_iconst C dX12_neighbours_7 ic_0 ?_
  refine g_bipush C dX12_neighbours_8 bp_99 ?_
  refine g_cSz (As := [.int x1, .int (0 : Int32), .int (99 : Int32)]) (rest := [.ref (ad 0)]) (ro := (fM_in x1 (0 : Int32) (99 : Int32))) (go := (st g 0 0 (0 : Int32))) (xo := xo) C (fun sz => cM_in l D T ad xo (st g 0 0 (0 : Int32)) x1 (0 : Int32) (99 : Int32) _ rfl sz) kM_in ⟨Nat.le_of_ble_eq_true rfl, Nat.le_of_ble_eq_true rfl⟩ ⟨rfl, rfl⟩ ⟨Nat.zero_le _, Nat.zero_le _⟩ rfl rfl (Nat.le_of_ble_eq_true rfl) dX12_neighbours_10 (fun hz10 => ?_)
  refine g_if_eq C 35 dX12_neighbours_13 (by decide) (fun c13 => ?_) (fun c13 => ?_)
  · have h := iteT c13 h
    exact g_sub [1, 2, 3] rfl (J35 x1 x2 x3 (st g 0 0 (0 : Int32)) h)
  · have h := iteF c13 h
    refine g_iload_n C dX12_neighbours_16 rfl 2 rfl ?_
    refine g_iconst C dX12_neighbours_17 ic_0 ?_
    refine g_bipush C dX12_neighbours_18 bp_99 ?_
    refine g_cSz (As := [.int x2, .int (0 : Int32), .int (99 : Int32)]) (rest := [.ref (ad 0)]) (ro := (fM_in x2 (0 : Int32) (99 : Int32))) (go := (st g 0 0 (0 : Int32))) (xo := xo) C (fun sz => cM_in l D T ad xo (st g 0 0 (0 : Int32)) x2 (0 : Int32) (99 : Int32) _ rfl sz) kM_in ⟨Nat.le_of_ble_eq_true rfl, Nat.le_of_ble_eq_true rfl⟩ ⟨rfl, rfl⟩ ⟨Nat.zero_le _, Nat.zero_le _⟩ rfl rfl (Nat.le_of_ble_eq_true rfl) dX12_neighbours_20 (fun hz20 => ?_)
    refine g_if_eq C 35 dX12_neighbours_23 (by decide) (fun c23 => ?_) (fun c23 => ?_)
    · have h := iteT c23 h
      exact g_sub [1, 2, 3] rfl (J35 x1 x2 x3 (st g 0 0 (0 : Int32)) h)
    · have h := iteF c23 h
      refine g_iload_n C dX12_neighbours_26 rfl 3 rfl ?_
      refine g_iconst C dX12_neighbours_27 ic_0 ?_
      refine g_iconst C dX12_neighbours_28 ic_2 ?_
      refine g_cSz (As := [.int x3, .int (0 : Int32), .int (2 : Int32)]) (rest := [.ref (ad 0)]) (ro := (fM_in x3 (0 : Int32) (2 : Int32))) (go := (st g 0 0 (0 : Int32))) (xo := xo) C (fun sz => cM_in l D T ad xo (st g 0 0 (0 : Int32)) x3 (0 : Int32) (2 : Int32) _ rfl sz) kM_in ⟨Nat.le_of_ble_eq_true rfl, Nat.le_of_ble_eq_true rfl⟩ ⟨rfl, rfl⟩ ⟨Nat.zero_le _, Nat.zero_le _⟩ rfl rfl (Nat.le_of_ble_eq_true rfl) dX12_neighbours_29 (fun hz29 => ?_)
      refine g_if_ne C 39 dX12_neighbours_32 (by decide) (fun c32 => ?_) (fun c32 => ?_)
      · have h := iteT c32 h
        exact g_sub [1, 2, 3] rfl (J35 x1 x2 x3 (st g 0 0 (0 : Int32)) h)
      · have h := iteF c32 h
        refine g_iconst C dX12_neighbours_39 ic_0 ?_
        exact g_sub [1, 2, 3] rfl (J40 x1 x2 x3 (0 : Int32) (st g 0 0 (0 : Int32)) h)
def fM_home_L212 (x4 : Int32) (x5 : Int64) (x7 : Int64) (g : St) (x : Sl) : (Int64 × Int64) → Option ((Int64 × Int64) ⊕ (Int64)) := fun ⟨x9, x11⟩ =>
  if (lg_cmp x11 (0 : Int64)) = 0 then
    (some (.inr x9))
  else
    (if ¬ x11 = 0 then (some (.inl (x11, (x9 - x9 / x11 * x11)))) else none)
def fM_home_b212 (x4 : Int32) (x5 : Int64) (x7 : Int64) (x9 : Int64) (x11 : Int64) (g : St) (x : Sl) : Option (Int64 × St × Sl) :=
  (lp (fM_home_L212 x4 x5 x7 g x) fuel (x9, x11)).bind (fun x9 => if x4 = 0 then
    (if ¬ x9 = 0 then (some ((x5 / x9), g, x)) else none)
  else
    (if ¬ x9 = 0 then (some ((x7 / x9), g, x)) else none))
def fM_home_L179 (x4 : Int32) (x7 : Int64) (g : St) (x : Sl) : (Int64 × Int32) → Option ((Int64 × Int32) ⊕ (Int64)) := fun ⟨x5, x9⟩ =>
  if (14 : Int32) ≤ x9 then
    (some (.inr x5))
  else
    (if ¬ (x9 < 0 ∨ 14 ≤ x9.toNatClampNeg) then (some (.inl ((x5 + (x 25 x9.toNatClampNeg)), (x9 + (1 : Int32))))) else none)
def fM_home_b179 (x4 : Int32) (x5 : Int64) (x7 : Int64) (x9 : Int32) (g : St) (x : Sl) : Option (Int64 × St × Sl) :=
  (lp (fM_home_L179 x4 x7 g x) fuel (x5, x9)).bind (fun x5 => fM_home_b212 x4 x5 x7 x7 x5 g x)
def fM_home_b152 (x1 : Int32) (x2 : Int32) (x3 : Int32) (x4 : Int32) (x5 : Int32) (x6 : Int32) (s1 : Int32) (s2 : Int64) (s3 : Int64) (g : St) (x : Sl) : Option ((Int32 × Sl) ⊕ (Sl)) :=
  if ¬ (s1 < 0 ∨ 14 ≤ s1.toNatClampNeg) then (some (.inl ((x6 + (-1 : Int32)), (sl x 25 s1.toNatClampNeg (s2 + s3))))) else none
def fM_home_L107 (x1 : Int32) (x2 : Int32) (x3 : Int32) (x4 : Int32) (x5 : Int32) (g : St) : (Int32 × Sl) → Option ((Int32 × Sl) ⊕ (Sl)) := fun ⟨x6, x⟩ =>
  if x6 < 0 then
    (some (.inr x))
  else
    (if ¬ (x6 < 0 ∨ 14 ≤ x6.toNatClampNeg) then (if x6 ≤ 0 then
    (fM_home_b152 x1 x2 x3 x4 x5 x6 x6 ((x 25 x6.toNatClampNeg) * x3.toInt64) (0 : Int64) g x)
  else
    (if ¬ ((x6 - (1 : Int32)) < 0 ∨ 14 ≤ (x6 - (1 : Int32)).toNatClampNeg) then (fM_home_b152 x1 x2 x3 x4 x5 x6 x6 ((x 25 x6.toNatClampNeg) * x3.toInt64) ((x 25 ((x6 - (1 : Int32)).toNatClampNeg)) * (((16 : Int32) - x3).toInt64)) g x) else none)) else none)
def fM_home_b107 (x1 : Int32) (x2 : Int32) (x3 : Int32) (x4 : Int32) (x5 : Int32) (x6 : Int32) (g : St) (x : Sl) : Option ((Int32 × Sl) ⊕ (Sl)) :=
  (lp (fM_home_L107 x1 x2 x3 x4 x5 g) fuel (x6, x)).bind (fun x => some (.inl ((x5 + (1 : Int32)), x)))
def fM_home_L97 (x1 : Int32) (x2 : Int32) (x3 : Int32) (x4 : Int32) (g : St) : (Int32 × Sl) → Option ((Int32 × Sl) ⊕ (Sl)) := fun ⟨x5, x⟩ =>
  if x1 ≤ x5 then
    (some (.inr x))
  else
    (fM_home_b107 x1 x2 x3 x4 x5 (13 : Int32) g x)
def fM_home_b97 (x1 : Int32) (x2 : Int32) (x3 : Int32) (x4 : Int32) (x5 : Int32) (g : St) (x : Sl) : Option (Int64 × St × Sl) :=
  (lp (fM_home_L97 x1 x2 x3 x4 g) fuel (x5, x)).bind (fun x => fM_home_b179 x4 (0 : Int64) ((1 : Int64) <<< (((4 : Int32) * x1).toInt64 &&& 63)) x2 g x)
def fM_home_b87 (x1 : Int32) (x2 : Int32) (x3 : Int32) (x4 : Int32) (x5 : Int32) (s1 : Int32) (s2 : Int64) (g : St) (x : Sl) : Option ((Int32 × Sl) ⊕ (Sl)) :=
  if ¬ (s1 < 0 ∨ 14 ≤ s1.toNatClampNeg) then (some (.inl ((x5 + (1 : Int32)), (sl x 25 s1.toNatClampNeg s2)))) else none
def fM_home_L64 (x1 : Int32) (x2 : Int32) (x3 : Int32) (x4 : Int32) (g : St) : (Int32 × Sl) → Option ((Int32 × Sl) ⊕ (Sl)) := fun ⟨x5, x⟩ =>
  if (14 : Int32) ≤ x5 then
    (some (.inr x))
  else
    (if x5 = 0 then
    (fM_home_b87 x1 x2 x3 x4 x5 x5 (1 : Int64) g x)
  else
    (fM_home_b87 x1 x2 x3 x4 x5 x5 (0 : Int64) g x))
def fM_home_b64 (x1 : Int32) (x2 : Int32) (x3 : Int32) (x4 : Int32) (x5 : Int32) (g : St) (x : Sl) : Option (Int64 × St × Sl) :=
  (lp (fM_home_L64 x1 x2 x3 x4 g) fuel (x5, x)).bind (fun x => fM_home_b97 x1 x2 x3 x4 (0 : Int32) g x)
def fM_home_b51 (x1 : Int32) (x2 : Int32) (x3 : Int32) (x4 : Int32) (s1 : Int32) (g : St) (x : Sl) : Option (Int64 × St × Sl) :=
  (fM_bad s1 (1 : Int32) (1 : Int32) g).bind fun ⟨r53, g53⟩ => (if r53 = 0 then
    (fM_home_b64 x1 x2 x3 x4 (0 : Int32) g53 x)
  else
    (some ((0 : Int64), g53, x)))
def fM_home_b46 (x1 : Int32) (x2 : Int32) (x3 : Int32) (x4 : Int32) (g : St) (x : Sl) : Option (Int64 × St × Sl) :=
  fM_home_b51 x1 x2 x3 x4 (1 : Int32) g x
def fM_home (x1 : Int32) (x2 : Int32) (x3 : Int32) (x4 : Int32) (g : St) (x : Sl) : Option (Int64 × St × Sl) :=
  if (fM_in x1 (0 : Int32) (12 : Int32)) = 0 then
    (fM_home_b46 x1 x2 x3 x4 (st g 0 0 (0 : Int32)) x)
  else
    (if (fM_in x2 (0 : Int32) (13 : Int32)) = 0 then
    (fM_home_b46 x1 x2 x3 x4 (st g 0 0 (0 : Int32)) x)
  else
    (if (fM_in x3 (0 : Int32) (16 : Int32)) = 0 then
    (fM_home_b46 x1 x2 x3 x4 (st g 0 0 (0 : Int32)) x)
  else
    (if (fM_in x4 (0 : Int32) (1 : Int32)) = 0 then
    (fM_home_b46 x1 x2 x3 x4 (st g 0 0 (0 : Int32)) x)
  else
    (fM_home_b51 x1 x2 x3 x4 (0 : Int32) (st g 0 0 (0 : Int32)) x))))
def rmM_home : Room := { frames := 1, cells := 0, slots := 0, locals := 23 }
abbrev GcM_home (l : Launch) (D : va_G) (T : cT) (ad : Nat → Nat) (Γ : Cxt) (o : Int64 × St × Sl) (xo : Sl) (x : Sl) (g : St) (pc : Nat) (lv : List (Nat × Value)) (stk : List Value) : Prop := Gj l shM D T ad 15 (rmM_home) 0 0 Γ (MQ Γ.below (va_Ql (eqL o.1 o.2.1 o.2.2) (wPost shM D T ad Γ.A) Γ.A) Γ.args Γ.s 0 0 Γ.A) x g pc lv stk
set_option maxRecDepth 100000 in
set_option maxHeartbeats 4000000 in
theorem cM_home (l : Launch) (D : va_G) (T : cT) (ad : Nat → Nat) (xo : Sl) (g : St) (x1 : Int32) (x2 : Int32) (x3 : Int32) (x4 : Int32) (o : Int64 × St × Sl) (h : fM_home x1 x2 x3 x4 g xo = some o) (sz : Nat) : Met l yX12_home wM_home (rmM_home) (va_Pc [.ref (ad 0), .int x1, .int x2, .int x3, .int x4] (wPre shM D T ad xo g sz)) (va_Ql (eqL o.1 o.2.1 o.2.2) (wPost shM D T ad (aW shM T ad xo g sz)) (aW shM T ad xo g sz)) 0 0 (aW shM T ad xo g sz) := by
  refine g_start (Qc := fun A => va_Ql (eqL o.1 o.2.1 o.2.2) (wPost shM D T ad A) A) (by decide +kernel) rfl rfl (Nat.le_of_ble_eq_true rfl) (lv := [(0, .ref (ad 0)), (1, .int x1), (2, .int x2), (3, .int x3), (4, .int x4)]) rfl (fun Γ C => ?_)
  show GcM_home l D T ad Γ o xo xo g 0 [(0, .ref (ad 0)), (1, .int x1), (2, .int x2), (3, .int x3), (4, .int x4)] []
  have J212 : ∀ (x4 : Int32) (x5 : Int64) (x7 : Int64) (x9 : Int64) (x11 : Int64) (g : St) (x : Sl), fM_home_b212 x4 x5 x7 x9 x11 g x = some o → GcM_home l D T ad Γ o xo x g 212 [(4, .int x4), (5, .long x5), (7, .long x7), (9, .long x9), (11, .long x11)] [] := by
    intro x4 x5 x7 x9 x11 g x h
    obtain ⟨x9, ht, h⟩ := bnd h
    refine lp_run (P := fun t : Int64 × Int64 => match t with | (x9, x11) => GcM_home l D T ad Γ o xo x g 212 [(4, .int x4), (5, .long x5), (7, .long x7), (9, .long x9), (11, .long x11)] []) (E := fun x9 : Int64 => GcM_home l D T ad Γ o xo x g 237 [(4, .int x4), (5, .long x5), (7, .long x7), (9, .long x9)] []) ?_ _ _ _ ht ?_
    · rintro ⟨x9, x11⟩ z h Kt Ke
      show GcM_home l D T ad Γ o xo x g 212 [(4, .int x4), (5, .long x5), (7, .long x7), (9, .long x9), (11, .long x11)] []
      refine g_lload C dX12_home_212 4 rfl ?_
      refine g_lconst C dX12_home_214 lc_0 ?_
      refine g_lcmp C dX12_home_215 ?_
      refine g_if_eq C 237 dX12_home_216 (by decide) (fun c216 => ?_) (fun c216 => ?_)
      · have h := iteT c216 h
        exact g_sub [0, 1, 2, 3] rfl (Ke _ (Option.some.inj h).symm)
      · have h := iteF c216 h
        refine g_lload C dX12_home_219 3 rfl ?_
        refine g_lload C dX12_home_221 4 rfl ?_
        obtain ⟨hd223, h⟩ := grd h
        refine g_lrem C dX12_home_223 hd223 ?_
        refine g_lstore (lv' := [(13, .long (x9 - x9 / x11 * x11)), (4, .int x4), (5, .long x5), (7, .long x7), (9, .long x9), (11, .long x11)]) C dX12_home_224 (Nat.le_of_ble_eq_true rfl) rfl ?_
        refine g_lload C dX12_home_226 5 rfl ?_
        refine g_lstore (lv' := [(9, .long x11), (13, .long (x9 - x9 / x11 * x11)), (4, .int x4), (5, .long x5), (7, .long x7), (11, .long x11)]) C dX12_home_228 (Nat.le_of_ble_eq_true rfl) rfl ?_
        refine g_lload C dX12_home_230 1 rfl ?_
        refine g_lstore (lv' := [(11, .long (x9 - x9 / x11 * x11)), (9, .long x11), (13, .long (x9 - x9 / x11 * x11)), (4, .int x4), (5, .long x5), (7, .long x7)]) C dX12_home_232 (Nat.le_of_ble_eq_true rfl) rfl ?_
        refine g_goto (tgt := 212) C dX12_home_234 (by decide) ?_
        exact g_sub [3, 4, 5, 1, 0] rfl (Kt _ (Option.some.inj h).symm)
    · show GcM_home l D T ad Γ o xo x g 237 [(4, .int x4), (5, .long x5), (7, .long x7), (9, .long x9)] []
      refine g_iload C dX12_home_237 0 rfl ?_
      refine g_if_ne C 250 dX12_home_239 (by decide) (fun c239 => ?_) (fun c239 => ?_)
      · have h := iteT c239 h
        refine g_lload C dX12_home_242 1 rfl ?_
        refine g_lload C dX12_home_244 3 rfl ?_
        obtain ⟨hd246, h⟩ := grd h
        refine g_ldiv C dX12_home_246 hd246 ?_
        refine g_goto (tgt := 255) C dX12_home_247 (by decide) ?_
        obtain rfl := Option.some.inj h
        exact g_lret C rfl rfl rfl dX12_home_255
      · have h := iteF c239 h
        refine g_lload C dX12_home_250 2 rfl ?_
        refine g_lload C dX12_home_252 3 rfl ?_
        obtain ⟨hd254, h⟩ := grd h
        refine g_ldiv C dX12_home_254 hd254 ?_
        obtain rfl := Option.some.inj h
        exact g_lret C rfl rfl rfl dX12_home_255
  have J179 : ∀ (x4 : Int32) (x5 : Int64) (x7 : Int64) (x9 : Int32) (g : St) (x : Sl), fM_home_b179 x4 x5 x7 x9 g x = some o → GcM_home l D T ad Γ o xo x g 179 [(0, .ref (ad 0)), (4, .int x4), (5, .long x5), (7, .long x7), (9, .int x9)] [] := by
    intro x4 x5 x7 x9 g x h
    obtain ⟨x5, ht, h⟩ := bnd h
    refine lp_run (P := fun t : Int64 × Int32 => match t with | (x5, x9) => GcM_home l D T ad Γ o xo x g 179 [(0, .ref (ad 0)), (4, .int x4), (5, .long x5), (7, .long x7), (9, .int x9)] []) (E := fun x5 : Int64 => GcM_home l D T ad Γ o xo x g 204 [(4, .int x4), (5, .long x5), (7, .long x7)] []) ?_ _ _ _ ht ?_
    · rintro ⟨x5, x9⟩ z h Kt Ke
      show GcM_home l D T ad Γ o xo x g 179 [(0, .ref (ad 0)), (4, .int x4), (5, .long x5), (7, .long x7), (9, .int x9)] []
      refine g_iload C dX12_home_179 4 rfl ?_
      refine g_bipush C dX12_home_181 bp_14 ?_
      refine g_icmp_ge C 204 dX12_home_183 (by decide) (fun c183 => ?_) (fun c183 => ?_)
      · have h := iteT c183 h
        exact g_sub [1, 2, 3] rfl (Ke _ (Option.some.inj h).symm)
      · have h := iteF c183 h
        refine g_lload C dX12_home_186 2 rfl ?_
        refine g_aload_n C dX12_home_188 rfl 0 rfl ?_
        refine gM_get_exact C dX12_home_189 ?_
        refine g_iload C dX12_home_192 4 rfl ?_
        obtain ⟨hi194, h⟩ := grd h
        refine g_lald (n := 14) (v := x 25 x9.toNatClampNeg) C lnl_25 hi194 rfl dX12_home_194 ?_
        refine g_ladd C dX12_home_195 ?_
        refine g_lstore (lv' := [(5, .long (x5 + (x 25 x9.toNatClampNeg))), (0, .ref (ad 0)), (4, .int x4), (7, .long x7), (9, .int x9)]) C dX12_home_196 (Nat.le_of_ble_eq_true rfl) rfl ?_
        refine g_iinc (lv' := [(9, .int (x9 + (1 : Int32))), (5, .long (x5 + (x 25 x9.toNatClampNeg))), (0, .ref (ad 0)), (4, .int x4), (7, .long x7)]) C dX12_home_198 4 rfl (ii_1 _) (Nat.le_of_ble_eq_true rfl) rfl ?_
        refine g_goto (tgt := 179) C dX12_home_201 (by decide) ?_
        exact g_sub [2, 3, 1, 4, 0] rfl (Kt _ (Option.some.inj h).symm)
    · show GcM_home l D T ad Γ o xo x g 204 [(4, .int x4), (5, .long x5), (7, .long x7)] []
      refine g_lload C dX12_home_204 2 rfl ?_
      refine g_lstore (lv' := [(9, .long x7), (4, .int x4), (5, .long x5), (7, .long x7)]) C dX12_home_206 (Nat.le_of_ble_eq_true rfl) rfl ?_
      refine g_lload C dX12_home_208 2 rfl ?_
      refine g_lstore (lv' := [(11, .long x5), (9, .long x7), (4, .int x4), (5, .long x5), (7, .long x7)]) C dX12_home_210 (Nat.le_of_ble_eq_true rfl) rfl ?_
      exact g_sub [2, 3, 4, 1, 0] rfl (J212 x4 x5 x7 x7 x5 g x h)
  have J97 : ∀ (x1 : Int32) (x2 : Int32) (x3 : Int32) (x4 : Int32) (x5 : Int32) (g : St) (x : Sl), fM_home_b97 x1 x2 x3 x4 x5 g x = some o → GcM_home l D T ad Γ o xo x g 97 [(0, .ref (ad 0)), (1, .int x1), (2, .int x2), (3, .int x3), (4, .int x4), (5, .int x5)] [] := by
    intro x1 x2 x3 x4 x5 g x h
    obtain ⟨x, ht, h⟩ := bnd h
    refine lp_run (P := fun t : Int32 × Sl => match t with | (x5, x) => GcM_home l D T ad Γ o xo x g 97 [(0, .ref (ad 0)), (1, .int x1), (2, .int x2), (3, .int x3), (4, .int x4), (5, .int x5)] []) (E := fun x : Sl => GcM_home l D T ad Γ o xo x g 166 [(0, .ref (ad 0)), (1, .int x1), (2, .int x2), (4, .int x4)] []) ?_ _ _ _ ht ?_
    · rintro ⟨x5, x⟩ z h Kt Ke
      show GcM_home l D T ad Γ o xo x g 97 [(0, .ref (ad 0)), (1, .int x1), (2, .int x2), (3, .int x3), (4, .int x4), (5, .int x5)] []
      have J107 : ∀ (x5 : Int32) (x6 : Int32) (x : Sl), fM_home_b107 x1 x2 x3 x4 x5 x6 g x = some z → GcM_home l D T ad Γ o xo x g 107 [(0, .ref (ad 0)), (1, .int x1), (2, .int x2), (3, .int x3), (4, .int x4), (5, .int x5), (6, .int x6)] [] := by
        intro x5 x6 x h
        obtain ⟨x, ht, h⟩ := bnd h
        refine lp_run (P := fun t : Int32 × Sl => match t with | (x6, x) => GcM_home l D T ad Γ o xo x g 107 [(0, .ref (ad 0)), (1, .int x1), (2, .int x2), (3, .int x3), (4, .int x4), (5, .int x5), (6, .int x6)] []) (E := fun x : Sl => GcM_home l D T ad Γ o xo x g 160 [(0, .ref (ad 0)), (1, .int x1), (2, .int x2), (3, .int x3), (4, .int x4), (5, .int x5)] []) ?_ _ _ _ ht ?_
        · rintro ⟨x6, x⟩ z h Kt Ke
          show GcM_home l D T ad Γ o xo x g 107 [(0, .ref (ad 0)), (1, .int x1), (2, .int x2), (3, .int x3), (4, .int x4), (5, .int x5), (6, .int x6)] []
          have J152 : ∀ (x6 : Int32) (s1 : Int32) (s2 : Int64) (s3 : Int64) (x : Sl), fM_home_b152 x1 x2 x3 x4 x5 x6 s1 s2 s3 g x = some z → GcM_home l D T ad Γ o xo x g 152 [(0, .ref (ad 0)), (1, .int x1), (2, .int x2), (3, .int x3), (4, .int x4), (5, .int x5), (6, .int x6)] [.long s3, .long s2, .int s1, .ref (ad 25)] := by
            intro x6 s1 s2 s3 x h
            refine g_ladd C dX12_home_152 ?_
            obtain ⟨hi153, h⟩ := grd h
            refine g_last (n := 14) (q := s1.toNatClampNeg) C lnl_25 hi153 rfl dX12_home_153 ?_
            refine g_iinc (lv' := [(6, .int (x6 + (-1 : Int32))), (0, .ref (ad 0)), (1, .int x1), (2, .int x2), (3, .int x3), (4, .int x4), (5, .int x5)]) C dX12_home_154 6 rfl (ii_m1 _) (Nat.le_of_ble_eq_true rfl) rfl ?_
            refine g_goto (tgt := 107) C dX12_home_157 (by decide) ?_
            exact g_sub [1, 2, 3, 4, 5, 6, 0] rfl (Kt _ (Option.some.inj h).symm)
          refine g_iload C dX12_home_107 6 rfl ?_
          refine g_if_lt C 160 dX12_home_109 (by decide) (fun c109 => ?_) (fun c109 => ?_)
          · have h := iteT c109 h
            exact g_sub [0, 1, 2, 3, 4, 5] rfl (Ke _ (Option.some.inj h).symm)
          · have h := iteF c109 h
            refine g_aload_n C dX12_home_112 rfl 0 rfl ?_
            refine gM_get_exact C dX12_home_113 ?_
            refine g_iload C dX12_home_116 6 rfl ?_
            refine g_aload_n C dX12_home_118 rfl 0 rfl ?_
            refine gM_get_exact C dX12_home_119 ?_
            refine g_iload C dX12_home_122 6 rfl ?_
            obtain ⟨hi124, h⟩ := grd h
            refine g_lald (n := 14) (v := x 25 x6.toNatClampNeg) C lnl_25 hi124 rfl dX12_home_124 ?_
            refine g_iload_n C dX12_home_125 rfl 3 rfl ?_
            refine g_i2l C dX12_home_126 ?_
            refine g_lmul C dX12_home_127 ?_
            refine g_iload C dX12_home_128 6 rfl ?_
            refine g_if_le C 151 dX12_home_130 (by decide) (fun c130 => ?_) (fun c130 => ?_)
            · have h := iteT c130 h
              refine g_lconst C dX12_home_151 lc_0 ?_
              exact J152 x6 x6 ((x 25 x6.toNatClampNeg) * x3.toInt64) (0 : Int64) x h
            · have h := iteF c130 h
              refine g_aload_n C dX12_home_133 rfl 0 rfl ?_
              refine gM_get_exact C dX12_home_134 ?_
              refine g_iload C dX12_home_137 6 rfl ?_
              refine g_iconst C dX12_home_139 ic_1 ?_
              refine g_isub C dX12_home_140 ?_
              obtain ⟨hi141, h⟩ := grd h
              refine g_lald (n := 14) (v := x 25 ((x6 - (1 : Int32)).toNatClampNeg)) C lnl_25 hi141 rfl dX12_home_141 ?_
              refine g_bipush C dX12_home_142 bp_16 ?_
              refine g_iload_n C dX12_home_144 rfl 3 rfl ?_
              refine g_isub C dX12_home_145 ?_
              refine g_i2l C dX12_home_146 ?_
              refine g_lmul C dX12_home_147 ?_
              refine g_goto (tgt := 152) C dX12_home_148 (by decide) ?_
              exact J152 x6 x6 ((x 25 x6.toNatClampNeg) * x3.toInt64) ((x 25 ((x6 - (1 : Int32)).toNatClampNeg)) * (((16 : Int32) - x3).toInt64)) x h
        · show GcM_home l D T ad Γ o xo x g 160 [(0, .ref (ad 0)), (1, .int x1), (2, .int x2), (3, .int x3), (4, .int x4), (5, .int x5)] []
          refine g_iinc (lv' := [(5, .int (x5 + (1 : Int32))), (0, .ref (ad 0)), (1, .int x1), (2, .int x2), (3, .int x3), (4, .int x4)]) C dX12_home_160 5 rfl (ii_1 _) (Nat.le_of_ble_eq_true rfl) rfl ?_
          refine g_goto (tgt := 97) C dX12_home_163 (by decide) ?_
          exact g_sub [1, 2, 3, 4, 5, 0] rfl (Kt _ (Option.some.inj h).symm)
      refine g_iload C dX12_home_97 5 rfl ?_
      refine g_iload_n C dX12_home_99 rfl 1 rfl ?_
      refine g_icmp_ge C 166 dX12_home_100 (by decide) (fun c100 => ?_) (fun c100 => ?_)
      · have h := iteT c100 h
        exact g_sub [0, 1, 2, 4] rfl (Ke _ (Option.some.inj h).symm)
      · have h := iteF c100 h
        refine g_bipush C dX12_home_103 bp_13 ?_
        refine g_istore (lv' := [(6, .int (13 : Int32)), (0, .ref (ad 0)), (1, .int x1), (2, .int x2), (3, .int x3), (4, .int x4), (5, .int x5)]) C dX12_home_105 (Nat.le_of_ble_eq_true rfl) rfl ?_
        exact g_sub [1, 2, 3, 4, 5, 6, 0] rfl (J107 x5 (13 : Int32) x h)
    · show GcM_home l D T ad Γ o xo x g 166 [(0, .ref (ad 0)), (1, .int x1), (2, .int x2), (4, .int x4)] []
      refine g_lconst C dX12_home_166 lc_0 ?_
      refine g_lstore (lv' := [(5, .long (0 : Int64)), (0, .ref (ad 0)), (1, .int x1), (2, .int x2), (4, .int x4)]) C dX12_home_167 (Nat.le_of_ble_eq_true rfl) rfl ?_
      refine g_lconst C dX12_home_169 lc_1 ?_
      refine g_iconst C dX12_home_170 ic_4 ?_
      refine g_iload_n C dX12_home_171 rfl 2 rfl ?_
      refine g_imul C dX12_home_172 ?_
      refine g_lshl C dX12_home_173 ?_
      refine g_lstore (lv' := [(7, .long ((1 : Int64) <<< (((4 : Int32) * x1).toInt64 &&& 63))), (5, .long (0 : Int64)), (0, .ref (ad 0)), (1, .int x1), (2, .int x2), (4, .int x4)]) C dX12_home_174 (Nat.le_of_ble_eq_true rfl) rfl ?_
      refine g_iload_n C dX12_home_176 rfl 4 rfl ?_
      refine g_istore (lv' := [(9, .int x2), (7, .long ((1 : Int64) <<< (((4 : Int32) * x1).toInt64 &&& 63))), (5, .long (0 : Int64)), (0, .ref (ad 0)), (1, .int x1), (2, .int x2), (4, .int x4)]) C dX12_home_177 (Nat.le_of_ble_eq_true rfl) rfl ?_
      exact g_sub [3, 6, 2, 1, 0] rfl (J179 x4 (0 : Int64) ((1 : Int64) <<< (((4 : Int32) * x1).toInt64 &&& 63)) x2 g x h)
  have J64 : ∀ (x1 : Int32) (x2 : Int32) (x3 : Int32) (x4 : Int32) (x5 : Int32) (g : St) (x : Sl), fM_home_b64 x1 x2 x3 x4 x5 g x = some o → GcM_home l D T ad Γ o xo x g 64 [(0, .ref (ad 0)), (1, .int x1), (2, .int x2), (3, .int x3), (4, .int x4), (5, .int x5)] [] := by
    intro x1 x2 x3 x4 x5 g x h
    obtain ⟨x, ht, h⟩ := bnd h
    refine lp_run (P := fun t : Int32 × Sl => match t with | (x5, x) => GcM_home l D T ad Γ o xo x g 64 [(0, .ref (ad 0)), (1, .int x1), (2, .int x2), (3, .int x3), (4, .int x4), (5, .int x5)] []) (E := fun x : Sl => GcM_home l D T ad Γ o xo x g 94 [(0, .ref (ad 0)), (1, .int x1), (2, .int x2), (3, .int x3), (4, .int x4)] []) ?_ _ _ _ ht ?_
    · rintro ⟨x5, x⟩ z h Kt Ke
      show GcM_home l D T ad Γ o xo x g 64 [(0, .ref (ad 0)), (1, .int x1), (2, .int x2), (3, .int x3), (4, .int x4), (5, .int x5)] []
      have J87 : ∀ (x5 : Int32) (s1 : Int32) (s2 : Int64) (x : Sl), fM_home_b87 x1 x2 x3 x4 x5 s1 s2 g x = some z → GcM_home l D T ad Γ o xo x g 87 [(0, .ref (ad 0)), (1, .int x1), (2, .int x2), (3, .int x3), (4, .int x4), (5, .int x5)] [.long s2, .int s1, .ref (ad 25)] := by
        intro x5 s1 s2 x h
        obtain ⟨hi87, h⟩ := grd h
        refine g_last (n := 14) (q := s1.toNatClampNeg) C lnl_25 hi87 rfl dX12_home_87 ?_
        refine g_iinc (lv' := [(5, .int (x5 + (1 : Int32))), (0, .ref (ad 0)), (1, .int x1), (2, .int x2), (3, .int x3), (4, .int x4)]) C dX12_home_88 5 rfl (ii_1 _) (Nat.le_of_ble_eq_true rfl) rfl ?_
        refine g_goto (tgt := 64) C dX12_home_91 (by decide) ?_
        exact g_sub [1, 2, 3, 4, 5, 0] rfl (Kt _ (Option.some.inj h).symm)
      refine g_iload C dX12_home_64 5 rfl ?_
      refine g_bipush C dX12_home_66 bp_14 ?_
      refine g_icmp_ge C 94 dX12_home_68 (by decide) (fun c68 => ?_) (fun c68 => ?_)
      · have h := iteT c68 h
        exact g_sub [0, 1, 2, 3, 4] rfl (Ke _ (Option.some.inj h).symm)
      · have h := iteF c68 h
        refine g_aload_n C dX12_home_71 rfl 0 rfl ?_
        refine gM_get_exact C dX12_home_72 ?_
        refine g_iload C dX12_home_75 5 rfl ?_
        refine g_iload C dX12_home_77 5 rfl ?_
        refine g_if_ne C 86 dX12_home_79 (by decide) (fun c79 => ?_) (fun c79 => ?_)
        · have h := iteT c79 h
          refine g_lconst C dX12_home_82 lc_1 ?_
          refine g_goto (tgt := 87) C dX12_home_83 (by decide) ?_
          exact J87 x5 x5 (1 : Int64) x h
        · have h := iteF c79 h
          refine g_lconst C dX12_home_86 lc_0 ?_
          exact J87 x5 x5 (0 : Int64) x h
    · show GcM_home l D T ad Γ o xo x g 94 [(0, .ref (ad 0)), (1, .int x1), (2, .int x2), (3, .int x3), (4, .int x4)] []
      refine g_iconst C dX12_home_94 ic_0 ?_
      refine g_istore (lv' := [(5, .int (0 : Int32)), (0, .ref (ad 0)), (1, .int x1), (2, .int x2), (3, .int x3), (4, .int x4)]) C dX12_home_95 (Nat.le_of_ble_eq_true rfl) rfl ?_
      exact g_sub [1, 2, 3, 4, 5, 0] rfl (J97 x1 x2 x3 x4 (0 : Int32) g x h)
  have J51 : ∀ (x1 : Int32) (x2 : Int32) (x3 : Int32) (x4 : Int32) (s1 : Int32) (g : St) (x : Sl), fM_home_b51 x1 x2 x3 x4 s1 g x = some o → GcM_home l D T ad Γ o xo x g 51 [(0, .ref (ad 0)), (1, .int x1), (2, .int x2), (3, .int x3), (4, .int x4)] [.int s1, .ref (ad 0)] := by
    intro x1 x2 x3 x4 s1 g x h
    refine g_iconst C dX12_home_51 ic_1 ?_
    refine g_iconst C dX12_home_52 ic_1 ?_
    obtain ⟨⟨r53, g53⟩, hr53, h⟩ := bnd h
    refine g_cVz (k := 0) (As := [.int s1, .int (1 : Int32), .int (1 : Int32)]) (rest := []) (ro := r53) (go := g53) (xo := x) C (fun sz => cM_bad l D T ad x g s1 (1 : Int32) (1 : Int32) _ hr53 sz) kM_bad ⟨Nat.le_of_ble_eq_true rfl, Nat.le_of_ble_eq_true rfl⟩ ⟨rfl, rfl⟩ ⟨Nat.zero_le _, Nat.zero_le _⟩ (rfl : vwCl[11]? = some (RX12, TX12, 48)) kM0 rfl rfl (Nat.le_of_ble_eq_true rfl) dX12_home_53 (fun hz53 => ?_)
    refine g_if_eq C 61 dX12_home_56 (by decide) (fun c56 => ?_) (fun c56 => ?_)
    · have h := iteT c56 h
      refine g_iconst C dX12_home_61 ic_0 ?_
      refine g_istore (lv' := [(5, .int (0 : Int32)), (0, .ref (ad 0)), (1, .int x1), (2, .int x2), (3, .int x3), (4, .int x4)]) C dX12_home_62 (Nat.le_of_ble_eq_true rfl) rfl ?_
      exact g_sub [1, 2, 3, 4, 5, 0] rfl (J64 x1 x2 x3 x4 (0 : Int32) g53 x h)
    · have h := iteF c56 h
      refine g_lconst C dX12_home_59 lc_0 ?_
      obtain rfl := Option.some.inj h
      exact g_lret C rfl rfl rfl dX12_home_60
  have J46 : ∀ (x1 : Int32) (x2 : Int32) (x3 : Int32) (x4 : Int32) (g : St) (x : Sl), fM_home_b46 x1 x2 x3 x4 g x = some o → GcM_home l D T ad Γ o xo x g 46 [(0, .ref (ad 0)), (1, .int x1), (2, .int x2), (3, .int x3), (4, .int x4)] [.ref (ad 0)] := by
    intro x1 x2 x3 x4 g x h
    refine g_iconst C dX12_home_46 ic_1 ?_
    refine g_goto (tgt := 51) C dX12_home_47 (by decide) ?_
    exact J51 x1 x2 x3 x4 (1 : Int32) g x h
  refine g_aload_n C dX12_home_0 rfl 0 rfl ?_
  refine g_iconst C dX12_home_1 ic_0 ?_
  refine gM_put_thrown C dX12_home_2 ?_
  refine g_aload_n C dX12_home_5 rfl 0 rfl ?_
  refine g_iload_n C dX12_home_6 rfl 1 rfl ?_
  refine g_iconst C dX12_home_7 ic_0 ?_
  refine g_bipush C dX12_home_8 bp_12 ?_
  refine g_cSz (As := [.int x1, .int (0 : Int32), .int (12 : Int32)]) (rest := [.ref (ad 0)]) (ro := (fM_in x1 (0 : Int32) (12 : Int32))) (go := (st g 0 0 (0 : Int32))) (xo := xo) C (fun sz => cM_in l D T ad xo (st g 0 0 (0 : Int32)) x1 (0 : Int32) (12 : Int32) _ rfl sz) kM_in ⟨Nat.le_of_ble_eq_true rfl, Nat.le_of_ble_eq_true rfl⟩ ⟨rfl, rfl⟩ ⟨Nat.zero_le _, Nat.zero_le _⟩ rfl rfl (Nat.le_of_ble_eq_true rfl) dX12_home_10 (fun hz10 => ?_)
  refine g_if_eq C 46 dX12_home_13 (by decide) (fun c13 => ?_) (fun c13 => ?_)
  · have h := iteT c13 h
    exact J46 x1 x2 x3 x4 (st g 0 0 (0 : Int32)) xo h
  · have h := iteF c13 h
    refine g_iload_n C dX12_home_16 rfl 2 rfl ?_
    refine g_iconst C dX12_home_17 ic_0 ?_
    refine g_bipush C dX12_home_18 bp_13 ?_
    refine g_cSz (As := [.int x2, .int (0 : Int32), .int (13 : Int32)]) (rest := [.ref (ad 0)]) (ro := (fM_in x2 (0 : Int32) (13 : Int32))) (go := (st g 0 0 (0 : Int32))) (xo := xo) C (fun sz => cM_in l D T ad xo (st g 0 0 (0 : Int32)) x2 (0 : Int32) (13 : Int32) _ rfl sz) kM_in ⟨Nat.le_of_ble_eq_true rfl, Nat.le_of_ble_eq_true rfl⟩ ⟨rfl, rfl⟩ ⟨Nat.zero_le _, Nat.zero_le _⟩ rfl rfl (Nat.le_of_ble_eq_true rfl) dX12_home_20 (fun hz20 => ?_)
    refine g_if_eq C 46 dX12_home_23 (by decide) (fun c23 => ?_) (fun c23 => ?_)
    · have h := iteT c23 h
      exact J46 x1 x2 x3 x4 (st g 0 0 (0 : Int32)) xo h
    · have h := iteF c23 h
      refine g_iload_n C dX12_home_26 rfl 3 rfl ?_
      refine g_iconst C dX12_home_27 ic_0 ?_
      refine g_bipush C dX12_home_28 bp_16 ?_
      refine g_cSz (As := [.int x3, .int (0 : Int32), .int (16 : Int32)]) (rest := [.ref (ad 0)]) (ro := (fM_in x3 (0 : Int32) (16 : Int32))) (go := (st g 0 0 (0 : Int32))) (xo := xo) C (fun sz => cM_in l D T ad xo (st g 0 0 (0 : Int32)) x3 (0 : Int32) (16 : Int32) _ rfl sz) kM_in ⟨Nat.le_of_ble_eq_true rfl, Nat.le_of_ble_eq_true rfl⟩ ⟨rfl, rfl⟩ ⟨Nat.zero_le _, Nat.zero_le _⟩ rfl rfl (Nat.le_of_ble_eq_true rfl) dX12_home_30 (fun hz30 => ?_)
      refine g_if_eq C 46 dX12_home_33 (by decide) (fun c33 => ?_) (fun c33 => ?_)
      · have h := iteT c33 h
        exact J46 x1 x2 x3 x4 (st g 0 0 (0 : Int32)) xo h
      · have h := iteF c33 h
        refine g_iload C dX12_home_36 4 rfl ?_
        refine g_iconst C dX12_home_38 ic_0 ?_
        refine g_iconst C dX12_home_39 ic_1 ?_
        refine g_cSz (As := [.int x4, .int (0 : Int32), .int (1 : Int32)]) (rest := [.ref (ad 0)]) (ro := (fM_in x4 (0 : Int32) (1 : Int32))) (go := (st g 0 0 (0 : Int32))) (xo := xo) C (fun sz => cM_in l D T ad xo (st g 0 0 (0 : Int32)) x4 (0 : Int32) (1 : Int32) _ rfl sz) kM_in ⟨Nat.le_of_ble_eq_true rfl, Nat.le_of_ble_eq_true rfl⟩ ⟨rfl, rfl⟩ ⟨Nat.zero_le _, Nat.zero_le _⟩ rfl rfl (Nat.le_of_ble_eq_true rfl) dX12_home_40 (fun hz40 => ?_)
        refine g_if_ne C 50 dX12_home_43 (by decide) (fun c43 => ?_) (fun c43 => ?_)
        · have h := iteT c43 h
          exact J46 x1 x2 x3 x4 (st g 0 0 (0 : Int32)) xo h
        · have h := iteF c43 h
          refine g_iconst C dX12_home_50 ic_0 ?_
          exact J51 x1 x2 x3 x4 (0 : Int32) (st g 0 0 (0 : Int32)) xo h
def fM_givenBy_b44 (x1 : Int32) (x2 : Int32) (x4 : Int32) (s0 : Int32) (s1 : Int32) (g : St) : Option ((Int32 × Int32) ⊕ (Int32)) :=
  some (.inl ((s0 + s1), (x4 + (1 : Int32))))
def fM_givenBy_L5 (x1 : Int32) (x2 : Int32) (g : St) : (Int32 × Int32) → Option ((Int32 × Int32) ⊕ (Int32)) := fun ⟨x3, x4⟩ =>
  if (g 4 0) ≤ x4 then
    (some (.inr x3))
  else
    (if (fM_has x1 x4) = 0 then
    (fM_givenBy_b44 x1 x2 x4 x3 (0 : Int32) g)
  else
    ((fM_stones 16 x4 g).bind fun r34 => (fM_givenBy_b44 x1 x2 x4 x3 (fM_less x2 r34) g)))
def fM_givenBy_b5 (x1 : Int32) (x2 : Int32) (x3 : Int32) (x4 : Int32) (g : St) : Option (Int32) :=
  (lp (fM_givenBy_L5 x1 x2 g) fuel (x3, x4)).bind (fun x3 => some x3)
def fM_givenBy (x1 : Int32) (x2 : Int32) (g : St) : Option (Int32) :=
  fM_givenBy_b5 x1 x2 (0 : Int32) (0 : Int32) g
def rmM_givenBy : Room := { frames := 2, cells := 0, slots := 0, locals := 46 }
abbrev GcM_givenBy (l : Launch) (D : va_G) (T : cT) (ad : Nat → Nat) (Γ : Cxt) (o : Int32) (xo : Sl) (g0 : St) (x : Sl) (g : St) (pc : Nat) (lv : List (Nat × Value)) (stk : List Value) : Prop := Gj l shM D T ad 5 (rmM_givenBy) 0 0 Γ (MQ Γ.below (va_Qi (eqI o g0 xo) (wPost shM D T ad Γ.A) Γ.A) Γ.args Γ.s 0 0 Γ.A) x g pc lv stk
set_option maxRecDepth 100000 in
set_option maxHeartbeats 4000000 in
theorem cM_givenBy (l : Launch) (D : va_G) (T : cT) (ad : Nat → Nat) (xo : Sl) (g : St) (x1 : Int32) (x2 : Int32) (o : Int32) (h : fM_givenBy x1 x2 g = some o) (sz : Nat) : Met l yX12_givenBy wM_givenBy (rmM_givenBy) (va_Pc [.ref (ad 0), .int x1, .int x2] (wPre shM D T ad xo g sz)) (va_Qi (eqI o g xo) (wPost shM D T ad (aW shM T ad xo g sz)) (aW shM T ad xo g sz)) 0 0 (aW shM T ad xo g sz) := by
  refine g_start (Qc := fun A => va_Qi (eqI o g xo) (wPost shM D T ad A) A) (by decide +kernel) rfl rfl (Nat.le_of_ble_eq_true rfl) (lv := [(0, .ref (ad 0)), (1, .int x1), (2, .int x2)]) rfl (fun Γ C => ?_)
  show GcM_givenBy l D T ad Γ o xo g xo g 0 [(0, .ref (ad 0)), (1, .int x1), (2, .int x2)] []
  have J5 : ∀ (x1 : Int32) (x2 : Int32) (x3 : Int32) (x4 : Int32), fM_givenBy_b5 x1 x2 x3 x4 g = some o → GcM_givenBy l D T ad Γ o xo g xo g 5 [(0, .ref (ad 0)), (1, .int x1), (2, .int x2), (3, .int x3), (4, .int x4)] [] := by
    intro x1 x2 x3 x4 h
    obtain ⟨x3, ht, h⟩ := bnd h
    refine lp_run (P := fun t : Int32 × Int32 => match t with | (x3, x4) => GcM_givenBy l D T ad Γ o xo g xo g 5 [(0, .ref (ad 0)), (1, .int x1), (2, .int x2), (3, .int x3), (4, .int x4)] []) (E := fun x3 : Int32 => GcM_givenBy l D T ad Γ o xo g xo g 52 [(3, .int x3)] []) ?_ _ _ _ ht ?_
    · rintro ⟨x3, x4⟩ z h Kt Ke
      show GcM_givenBy l D T ad Γ o xo g xo g 5 [(0, .ref (ad 0)), (1, .int x1), (2, .int x2), (3, .int x3), (4, .int x4)] []
      have J44 : ∀ (x4 : Int32) (s0 : Int32) (s1 : Int32), fM_givenBy_b44 x1 x2 x4 s0 s1 g = some z → GcM_givenBy l D T ad Γ o xo g xo g 44 [(0, .ref (ad 0)), (1, .int x1), (2, .int x2), (4, .int x4)] [.int s1, .int s0] := by
        intro x4 s0 s1 h
        refine g_iadd C dX12_givenBy_44 ?_
        refine g_istore_n (lv' := [(3, .int (s0 + s1)), (0, .ref (ad 0)), (1, .int x1), (2, .int x2), (4, .int x4)]) C dX12_givenBy_45 rfl (Nat.le_of_ble_eq_true rfl) rfl ?_
        refine g_iinc (lv' := [(4, .int (x4 + (1 : Int32))), (3, .int (s0 + s1)), (0, .ref (ad 0)), (1, .int x1), (2, .int x2)]) C dX12_givenBy_46 4 rfl (ii_1 _) (Nat.le_of_ble_eq_true rfl) rfl ?_
        refine g_goto (tgt := 5) C dX12_givenBy_49 (by decide) ?_
        exact g_sub [2, 3, 4, 1, 0] rfl (Kt _ (Option.some.inj h).symm)
      refine g_iload C dX12_givenBy_5 4 rfl ?_
      refine g_aload_n C dX12_givenBy_7 rfl 0 rfl ?_
      refine gM_get_told C dX12_givenBy_8 ?_
      refine g_iconst C dX12_givenBy_11 ic_0 ?_
      refine g_iald (n := 2) (v := g 4 0) C ln_4 (by decide) rfl dX12_givenBy_12 ?_
      refine g_icmp_ge C 52 dX12_givenBy_13 (by decide) (fun c13 => ?_) (fun c13 => ?_)
      · have h := iteT c13 h
        exact g_sub [3] rfl (Ke _ (Option.some.inj h).symm)
      · have h := iteF c13 h
        refine g_iload_n C dX12_givenBy_16 rfl 3 rfl ?_
        refine g_iload_n C dX12_givenBy_17 rfl 1 rfl ?_
        refine g_iload C dX12_givenBy_18 4 rfl ?_
        refine g_cSz (As := [.int x1, .int x4]) (rest := [.int x3]) (ro := (fM_has x1 x4)) (go := g) (xo := xo) C (fun sz => cM_has l D T ad xo g x1 x4 _ rfl sz) kM_has ⟨Nat.le_of_ble_eq_true rfl, Nat.le_of_ble_eq_true rfl⟩ ⟨rfl, rfl⟩ ⟨Nat.zero_le _, Nat.zero_le _⟩ rfl rfl (Nat.le_of_ble_eq_true rfl) dX12_givenBy_20 (fun hz20 => ?_)
        refine g_if_eq C 43 dX12_givenBy_23 (by decide) (fun c23 => ?_) (fun c23 => ?_)
        · have h := iteT c23 h
          refine g_iconst C dX12_givenBy_43 ic_0 ?_
          exact g_sub [0, 1, 2, 4] rfl (J44 x4 x3 (0 : Int32) h)
        · have h := iteF c23 h
          refine g_iload_n C dX12_givenBy_26 rfl 2 rfl ?_
          refine g_aload_n C dX12_givenBy_27 rfl 0 rfl ?_
          refine g_aload_n C dX12_givenBy_28 rfl 0 rfl ?_
          refine gM_get_now C dX12_givenBy_29 ?_
          refine g_iload C dX12_givenBy_32 4 rfl ?_
          obtain ⟨r34, hr34, h⟩ := bnd h
          refine g_cVi (k := 0) (As := [.ref (ad 16), .int x4]) (rest := [.int x2, .int x3]) (ro := r34) (go := g) (xo := xo) C (fun sz => cM_stones l D T ad xo g 16 x4 _ hr34 sz) kM_stones ⟨Nat.le_of_ble_eq_true rfl, Nat.le_of_ble_eq_true rfl⟩ ⟨rfl, rfl⟩ ⟨Nat.zero_le _, Nat.zero_le _⟩ (rfl : vwCl[11]? = some (RX12, TX12, 48)) kM0 rfl rfl (Nat.le_of_ble_eq_true rfl) dX12_givenBy_34 ?_
          refine g_cSi (As := [.int x2, .int r34]) (rest := [.int x3]) (ro := (fM_less x2 r34)) (go := g) (xo := xo) C (fun sz => cM_less l D T ad xo g x2 r34 _ rfl sz) kM_less ⟨Nat.le_of_ble_eq_true rfl, Nat.le_of_ble_eq_true rfl⟩ ⟨rfl, rfl⟩ ⟨Nat.zero_le _, Nat.zero_le _⟩ rfl rfl (Nat.le_of_ble_eq_true rfl) dX12_givenBy_37 ?_
          refine g_goto (tgt := 44) C dX12_givenBy_40 (by decide) ?_
          exact g_sub [0, 1, 2, 4] rfl (J44 x4 x3 (fM_less x2 r34) h)
    · show GcM_givenBy l D T ad Γ o xo g xo g 52 [(3, .int x3)] []
      refine g_iload_n C dX12_givenBy_52 rfl 0 rfl ?_
      obtain rfl := Option.some.inj h
      exact g_iret C rfl rfl rfl dX12_givenBy_53
  refine g_iconst C dX12_givenBy_0 ic_0 ?_
  refine g_istore_n (lv' := [(3, .int (0 : Int32)), (0, .ref (ad 0)), (1, .int x1), (2, .int x2)]) C dX12_givenBy_1 rfl (Nat.le_of_ble_eq_true rfl) rfl ?_
  refine g_iconst C dX12_givenBy_2 ic_0 ?_
  refine g_istore (lv' := [(4, .int (0 : Int32)), (3, .int (0 : Int32)), (0, .ref (ad 0)), (1, .int x1), (2, .int x2)]) C dX12_givenBy_3 (Nat.le_of_ble_eq_true rfl) rfl ?_
  exact g_sub [2, 3, 4, 1, 0] rfl (J5 x1 x2 (0 : Int32) (0 : Int32) h)
def fM_flowers_L68 (x1 : Int32) (x2 : Int32) (x3 : Int32) (g : St) : Int32 → Option ((Int32) ⊕ (Int32)) := fun x4 =>
  if (8 : Int32) ≤ x4 then
    (some (.inr x4))
  else
    ((fM_givenBy x2 (x4 + (1 : Int32)) g).bind fun r81 => (if x3 < r81 then
    (some (.inr x4))
  else
    (some (.inl (x4 + (1 : Int32))))))
def fM_flowers_b68 (x1 : Int32) (x2 : Int32) (x3 : Int32) (x4 : Int32) (g : St) : Option (Int32 × St) :=
  (lp (fM_flowers_L68 x1 x2 x3 g) fuel x4).bind (fun x4 => if (fM_has x2 x1) = 0 then
    (some ((0 : Int32), g))
  else
    ((fM_stones 16 x1 g).bind fun r110 => (some ((fM_less x4 r110), g))))
def fM_flowers_b55 (x1 : Int32) (x2 : Int32) (x3 : Int32) (s1 : Int32) (g : St) : Option (Int32 × St) :=
  (fM_bad s1 (2 : Int32) (1 : Int32) g).bind fun ⟨r57, g57⟩ => (if r57 = 0 then
    (fM_flowers_b68 x1 x2 x3 (0 : Int32) g57)
  else
    (some ((0 : Int32), g57)))
def fM_flowers_b50 (x1 : Int32) (x2 : Int32) (x3 : Int32) (g : St) : Option (Int32 × St) :=
  fM_flowers_b55 x1 x2 x3 (1 : Int32) g
def fM_flowers_b19 (x1 : Int32) (x2 : Int32) (x3 : Int32) (s1 : Int32) (g : St) : Option (Int32 × St) :=
  (fM_bad s1 (1 : Int32) (0 : Int32) g).bind fun ⟨r21, g21⟩ => (if r21 = 0 then
    (if (fM_in x2 (0 : Int32) (fM_everybody g21)) = 0 then
    (fM_flowers_b50 x1 x2 x3 g21)
  else
    (if (fM_in x3 (0 : Int32) (99 : Int32)) = 0 then
    (fM_flowers_b50 x1 x2 x3 g21)
  else
    (fM_flowers_b55 x1 x2 x3 (0 : Int32) g21)))
  else
    (some ((0 : Int32), g21)))
def fM_flowers (x1 : Int32) (x2 : Int32) (x3 : Int32) (g : St) : Option (Int32 × St) :=
  if (fM_isPerson x1 (st g 0 0 (0 : Int32))) = 0 then
    (fM_flowers_b19 x1 x2 x3 (1 : Int32) (st g 0 0 (0 : Int32)))
  else
    (fM_flowers_b19 x1 x2 x3 (0 : Int32) (st g 0 0 (0 : Int32)))
def rmM_flowers : Room := { frames := 3, cells := 0, slots := 0, locals := 70 }
abbrev GcM_flowers (l : Launch) (D : va_G) (T : cT) (ad : Nat → Nat) (Γ : Cxt) (o : Int32 × St) (xo : Sl) (x : Sl) (g : St) (pc : Nat) (lv : List (Nat × Value)) (stk : List Value) : Prop := Gj l shM D T ad 5 (rmM_flowers) 0 0 Γ (MQ Γ.below (va_Qi (eqI o.1 o.2 xo) (wPost shM D T ad Γ.A) Γ.A) Γ.args Γ.s 0 0 Γ.A) x g pc lv stk
set_option maxRecDepth 100000 in
set_option maxHeartbeats 4000000 in
theorem cM_flowers (l : Launch) (D : va_G) (T : cT) (ad : Nat → Nat) (xo : Sl) (g : St) (x1 : Int32) (x2 : Int32) (x3 : Int32) (o : Int32 × St) (h : fM_flowers x1 x2 x3 g = some o) (sz : Nat) : Met l yX12_flowers wM_flowers (rmM_flowers) (va_Pc [.ref (ad 0), .int x1, .int x2, .int x3] (wPre shM D T ad xo g sz)) (va_Qi (eqI o.1 o.2 xo) (wPost shM D T ad (aW shM T ad xo g sz)) (aW shM T ad xo g sz)) 0 0 (aW shM T ad xo g sz) := by
  refine g_start (Qc := fun A => va_Qi (eqI o.1 o.2 xo) (wPost shM D T ad A) A) (by decide +kernel) rfl rfl (Nat.le_of_ble_eq_true rfl) (lv := [(0, .ref (ad 0)), (1, .int x1), (2, .int x2), (3, .int x3)]) rfl (fun Γ C => ?_)
  show GcM_flowers l D T ad Γ o xo xo g 0 [(0, .ref (ad 0)), (1, .int x1), (2, .int x2), (3, .int x3)] []
  have J68 : ∀ (x1 : Int32) (x2 : Int32) (x3 : Int32) (x4 : Int32) (g : St), fM_flowers_b68 x1 x2 x3 x4 g = some o → GcM_flowers l D T ad Γ o xo xo g 68 [(0, .ref (ad 0)), (1, .int x1), (2, .int x2), (3, .int x3), (4, .int x4)] [] := by
    intro x1 x2 x3 x4 g h
    obtain ⟨x4, ht, h⟩ := bnd h
    refine lp_run (P := fun x4 : Int32 => GcM_flowers l D T ad Γ o xo xo g 68 [(0, .ref (ad 0)), (1, .int x1), (2, .int x2), (3, .int x3), (4, .int x4)] []) (E := fun x4 : Int32 => GcM_flowers l D T ad Γ o xo xo g 94 [(0, .ref (ad 0)), (1, .int x1), (2, .int x2), (4, .int x4)] []) ?_ _ _ _ ht ?_
    · rintro x4 z h Kt Ke
      show GcM_flowers l D T ad Γ o xo xo g 68 [(0, .ref (ad 0)), (1, .int x1), (2, .int x2), (3, .int x3), (4, .int x4)] []
      refine g_iload C dX12_flowers_68 4 rfl ?_
      refine g_bipush C dX12_flowers_70 bp_8 ?_
      refine g_icmp_ge C 94 dX12_flowers_72 (by decide) (fun c72 => ?_) (fun c72 => ?_)
      · have h := iteT c72 h
        exact g_sub [0, 1, 2, 4] rfl (Ke _ (Option.some.inj h).symm)
      · have h := iteF c72 h
        refine g_aload_n C dX12_flowers_75 rfl 0 rfl ?_
        refine g_iload_n C dX12_flowers_76 rfl 2 rfl ?_
        refine g_iload C dX12_flowers_77 4 rfl ?_
        refine g_iconst C dX12_flowers_79 ic_1 ?_
        refine g_iadd C dX12_flowers_80 ?_
        obtain ⟨r81, hr81, h⟩ := bnd h
        refine g_cVi (k := 0) (As := [.int x2, .int (x4 + (1 : Int32))]) (rest := []) (ro := r81) (go := g) (xo := xo) C (fun sz => cM_givenBy l D T ad xo g x2 (x4 + (1 : Int32)) _ hr81 sz) kM_givenBy ⟨Nat.le_of_ble_eq_true rfl, Nat.le_of_ble_eq_true rfl⟩ ⟨rfl, rfl⟩ ⟨Nat.zero_le _, Nat.zero_le _⟩ (rfl : vwCl[11]? = some (RX12, TX12, 48)) kM0 rfl rfl (Nat.le_of_ble_eq_true rfl) dX12_flowers_81 ?_
        refine g_iload_n C dX12_flowers_84 rfl 3 rfl ?_
        refine g_icmp_gt C 94 dX12_flowers_85 (by decide) (fun c85 => ?_) (fun c85 => ?_)
        · have h := iteT c85 h
          exact g_sub [0, 1, 2, 4] rfl (Ke _ (Option.some.inj h).symm)
        · have h := iteF c85 h
          refine g_iinc (lv' := [(4, .int (x4 + (1 : Int32))), (0, .ref (ad 0)), (1, .int x1), (2, .int x2), (3, .int x3)]) C dX12_flowers_88 4 rfl (ii_1 _) (Nat.le_of_ble_eq_true rfl) rfl ?_
          refine g_goto (tgt := 68) C dX12_flowers_91 (by decide) ?_
          exact g_sub [1, 2, 3, 4, 0] rfl (Kt _ (Option.some.inj h).symm)
    · show GcM_flowers l D T ad Γ o xo xo g 94 [(0, .ref (ad 0)), (1, .int x1), (2, .int x2), (4, .int x4)] []
      refine g_iload_n C dX12_flowers_94 rfl 2 rfl ?_
      refine g_iload_n C dX12_flowers_95 rfl 1 rfl ?_
      refine g_cSz (As := [.int x2, .int x1]) (rest := []) (ro := (fM_has x2 x1)) (go := g) (xo := xo) C (fun sz => cM_has l D T ad xo g x2 x1 _ rfl sz) kM_has ⟨Nat.le_of_ble_eq_true rfl, Nat.le_of_ble_eq_true rfl⟩ ⟨rfl, rfl⟩ ⟨Nat.zero_le _, Nat.zero_le _⟩ rfl rfl (Nat.le_of_ble_eq_true rfl) dX12_flowers_96 (fun hz96 => ?_)
      refine g_if_eq C 119 dX12_flowers_99 (by decide) (fun c99 => ?_) (fun c99 => ?_)
      · have h := iteT c99 h
        refine g_iconst C dX12_flowers_119 ic_0 ?_
        obtain rfl := Option.some.inj h
        exact g_iret C rfl rfl rfl dX12_flowers_120
      · have h := iteF c99 h
        refine g_iload C dX12_flowers_102 3 rfl ?_
        refine g_aload_n C dX12_flowers_104 rfl 0 rfl ?_
        refine g_aload_n C dX12_flowers_105 rfl 0 rfl ?_
        refine gM_get_now C dX12_flowers_106 ?_
        refine g_iload_n C dX12_flowers_109 rfl 1 rfl ?_
        obtain ⟨r110, hr110, h⟩ := bnd h
        refine g_cVi (k := 0) (As := [.ref (ad 16), .int x1]) (rest := [.int x4]) (ro := r110) (go := g) (xo := xo) C (fun sz => cM_stones l D T ad xo g 16 x1 _ hr110 sz) kM_stones ⟨Nat.le_of_ble_eq_true rfl, Nat.le_of_ble_eq_true rfl⟩ ⟨rfl, rfl⟩ ⟨Nat.zero_le _, Nat.zero_le _⟩ (rfl : vwCl[11]? = some (RX12, TX12, 48)) kM0 rfl rfl (Nat.le_of_ble_eq_true rfl) dX12_flowers_110 ?_
        refine g_cSi (As := [.int x4, .int r110]) (rest := []) (ro := (fM_less x4 r110)) (go := g) (xo := xo) C (fun sz => cM_less l D T ad xo g x4 r110 _ rfl sz) kM_less ⟨Nat.le_of_ble_eq_true rfl, Nat.le_of_ble_eq_true rfl⟩ ⟨rfl, rfl⟩ ⟨Nat.zero_le _, Nat.zero_le _⟩ rfl rfl (Nat.le_of_ble_eq_true rfl) dX12_flowers_113 ?_
        refine g_goto (tgt := 120) C dX12_flowers_116 (by decide) ?_
        obtain rfl := Option.some.inj h
        exact g_iret C rfl rfl rfl dX12_flowers_120
  have J55 : ∀ (x1 : Int32) (x2 : Int32) (x3 : Int32) (s1 : Int32) (g : St), fM_flowers_b55 x1 x2 x3 s1 g = some o → GcM_flowers l D T ad Γ o xo xo g 55 [(0, .ref (ad 0)), (1, .int x1), (2, .int x2), (3, .int x3)] [.int s1, .ref (ad 0)] := by
    intro x1 x2 x3 s1 g h
    refine g_iconst C dX12_flowers_55 ic_2 ?_
    refine g_iconst C dX12_flowers_56 ic_1 ?_
    obtain ⟨⟨r57, g57⟩, hr57, h⟩ := bnd h
    refine g_cVz (k := 0) (As := [.int s1, .int (2 : Int32), .int (1 : Int32)]) (rest := []) (ro := r57) (go := g57) (xo := xo) C (fun sz => cM_bad l D T ad xo g s1 (2 : Int32) (1 : Int32) _ hr57 sz) kM_bad ⟨Nat.le_of_ble_eq_true rfl, Nat.le_of_ble_eq_true rfl⟩ ⟨rfl, rfl⟩ ⟨Nat.zero_le _, Nat.zero_le _⟩ (rfl : vwCl[11]? = some (RX12, TX12, 48)) kM0 rfl rfl (Nat.le_of_ble_eq_true rfl) dX12_flowers_57 (fun hz57 => ?_)
    refine g_if_eq C 65 dX12_flowers_60 (by decide) (fun c60 => ?_) (fun c60 => ?_)
    · have h := iteT c60 h
      refine g_iconst C dX12_flowers_65 ic_0 ?_
      refine g_istore (lv' := [(4, .int (0 : Int32)), (0, .ref (ad 0)), (1, .int x1), (2, .int x2), (3, .int x3)]) C dX12_flowers_66 (Nat.le_of_ble_eq_true rfl) rfl ?_
      exact g_sub [1, 2, 3, 4, 0] rfl (J68 x1 x2 x3 (0 : Int32) g57 h)
    · have h := iteF c60 h
      refine g_iconst C dX12_flowers_63 ic_0 ?_
      obtain rfl := Option.some.inj h
      exact g_iret C rfl rfl rfl dX12_flowers_64
  have J50 : ∀ (x1 : Int32) (x2 : Int32) (x3 : Int32) (g : St), fM_flowers_b50 x1 x2 x3 g = some o → GcM_flowers l D T ad Γ o xo xo g 50 [(0, .ref (ad 0)), (1, .int x1), (2, .int x2), (3, .int x3)] [.ref (ad 0)] := by
    intro x1 x2 x3 g h
    refine g_iconst C dX12_flowers_50 ic_1 ?_
    refine g_goto (tgt := 55) C dX12_flowers_51 (by decide) ?_
    exact J55 x1 x2 x3 (1 : Int32) g h
  have J19 : ∀ (x1 : Int32) (x2 : Int32) (x3 : Int32) (s1 : Int32) (g : St), fM_flowers_b19 x1 x2 x3 s1 g = some o → GcM_flowers l D T ad Γ o xo xo g 19 [(0, .ref (ad 0)), (1, .int x1), (2, .int x2), (3, .int x3)] [.int s1, .ref (ad 0)] := by
    intro x1 x2 x3 s1 g h
    refine g_iconst C dX12_flowers_19 ic_1 ?_
    refine g_iconst C dX12_flowers_20 ic_0 ?_
    obtain ⟨⟨r21, g21⟩, hr21, h⟩ := bnd h
    refine g_cVz (k := 0) (As := [.int s1, .int (1 : Int32), .int (0 : Int32)]) (rest := []) (ro := r21) (go := g21) (xo := xo) C (fun sz => cM_bad l D T ad xo g s1 (1 : Int32) (0 : Int32) _ hr21 sz) kM_bad ⟨Nat.le_of_ble_eq_true rfl, Nat.le_of_ble_eq_true rfl⟩ ⟨rfl, rfl⟩ ⟨Nat.zero_le _, Nat.zero_le _⟩ (rfl : vwCl[11]? = some (RX12, TX12, 48)) kM0 rfl rfl (Nat.le_of_ble_eq_true rfl) dX12_flowers_21 (fun hz21 => ?_)
    refine g_if_ne C 63 dX12_flowers_24 (by decide) (fun c24 => ?_) (fun c24 => ?_)
    · have h := iteT c24 h
      refine g_aload_n C dX12_flowers_27 rfl 0 rfl ?_
      refine g_iload_n C dX12_flowers_28 rfl 2 rfl ?_
      refine g_iconst C dX12_flowers_29 ic_0 ?_
      refine g_aload_n C dX12_flowers_30 rfl 0 rfl ?_
      refine g_cVi (k := 0) (As := []) (rest := [.int (0 : Int32), .int x2, .ref (ad 0)]) (ro := (fM_everybody g21)) (go := g21) (xo := xo) C (fun sz => cM_everybody l D T ad xo g21 _ rfl sz) kM_everybody ⟨Nat.le_of_ble_eq_true rfl, Nat.le_of_ble_eq_true rfl⟩ ⟨rfl, rfl⟩ ⟨Nat.zero_le _, Nat.zero_le _⟩ (rfl : vwCl[11]? = some (RX12, TX12, 48)) kM0 rfl rfl (Nat.le_of_ble_eq_true rfl) dX12_flowers_31 ?_
      refine g_cSz (As := [.int x2, .int (0 : Int32), .int (fM_everybody g21)]) (rest := [.ref (ad 0)]) (ro := (fM_in x2 (0 : Int32) (fM_everybody g21))) (go := g21) (xo := xo) C (fun sz => cM_in l D T ad xo g21 x2 (0 : Int32) (fM_everybody g21) _ rfl sz) kM_in ⟨Nat.le_of_ble_eq_true rfl, Nat.le_of_ble_eq_true rfl⟩ ⟨rfl, rfl⟩ ⟨Nat.zero_le _, Nat.zero_le _⟩ rfl rfl (Nat.le_of_ble_eq_true rfl) dX12_flowers_34 (fun hz34 => ?_)
      refine g_if_eq C 50 dX12_flowers_37 (by decide) (fun c37 => ?_) (fun c37 => ?_)
      · have h := iteT c37 h
        exact J50 x1 x2 x3 g21 h
      · have h := iteF c37 h
        refine g_iload_n C dX12_flowers_40 rfl 3 rfl ?_
        refine g_iconst C dX12_flowers_41 ic_0 ?_
        refine g_bipush C dX12_flowers_42 bp_99 ?_
        refine g_cSz (As := [.int x3, .int (0 : Int32), .int (99 : Int32)]) (rest := [.ref (ad 0)]) (ro := (fM_in x3 (0 : Int32) (99 : Int32))) (go := g21) (xo := xo) C (fun sz => cM_in l D T ad xo g21 x3 (0 : Int32) (99 : Int32) _ rfl sz) kM_in ⟨Nat.le_of_ble_eq_true rfl, Nat.le_of_ble_eq_true rfl⟩ ⟨rfl, rfl⟩ ⟨Nat.zero_le _, Nat.zero_le _⟩ rfl rfl (Nat.le_of_ble_eq_true rfl) dX12_flowers_44 (fun hz44 => ?_)
        refine g_if_ne C 54 dX12_flowers_47 (by decide) (fun c47 => ?_) (fun c47 => ?_)
        · have h := iteT c47 h
          exact J50 x1 x2 x3 g21 h
        · have h := iteF c47 h
          refine g_iconst C dX12_flowers_54 ic_0 ?_
          exact J55 x1 x2 x3 (0 : Int32) g21 h
    · have h := iteF c24 h
      refine g_iconst C dX12_flowers_63 ic_0 ?_
      obtain rfl := Option.some.inj h
      exact g_iret C rfl rfl rfl dX12_flowers_64
  refine g_aload_n C dX12_flowers_0 rfl 0 rfl ?_
  refine g_iconst C dX12_flowers_1 ic_0 ?_
  refine gM_put_thrown C dX12_flowers_2 ?_
  refine g_aload_n C dX12_flowers_5 rfl 0 rfl ?_
  refine g_aload_n C dX12_flowers_6 rfl 0 rfl ?_
  refine g_iload_n C dX12_flowers_7 rfl 1 rfl ?_
  refine g_cVz (k := 0) (As := [.int x1]) (rest := [.ref (ad 0)]) (ro := (fM_isPerson x1 (st g 0 0 (0 : Int32)))) (go := (st g 0 0 (0 : Int32))) (xo := xo) C (fun sz => cM_isPerson l D T ad xo (st g 0 0 (0 : Int32)) x1 _ rfl sz) kM_isPerson ⟨Nat.le_of_ble_eq_true rfl, Nat.le_of_ble_eq_true rfl⟩ ⟨rfl, rfl⟩ ⟨Nat.zero_le _, Nat.zero_le _⟩ (rfl : vwCl[11]? = some (RX12, TX12, 48)) kM0 rfl rfl (Nat.le_of_ble_eq_true rfl) dX12_flowers_8 (fun hz8 => ?_)
  refine g_if_ne C 18 dX12_flowers_11 (by decide) (fun c11 => ?_) (fun c11 => ?_)
  · have h := iteT c11 h
    refine g_iconst C dX12_flowers_14 ic_1 ?_
    refine g_goto (tgt := 19) C dX12_flowers_15 (by decide) ?_
    exact J19 x1 x2 x3 (1 : Int32) (st g 0 0 (0 : Int32)) h
  · have h := iteF c11 h
    refine g_iconst C dX12_flowers_18 ic_0 ?_
    exact J19 x1 x2 x3 (0 : Int32) (st g 0 0 (0 : Int32)) h
def fM_honoured_b79 (x1 : Int32) (x2 : Int32) (x3 : Int32) (x4 : Int32) (g : St) : Option ((Int32 × Int32 × Int32) ⊕ ((Int32 × Int32))) :=
  some (.inl (x2, x3, (x4 + (1 : Int32))))
def fM_honoured_L37 (x1 : Int32) (g : St) : (Int32 × Int32 × Int32) → Option ((Int32 × Int32 × Int32) ⊕ ((Int32 × Int32))) := fun ⟨x2, x3, x4⟩ =>
  if (g 4 0) ≤ x4 then
    (some (.inr (x2, x3)))
  else
    ((fM_stones 16 x4 g).bind fun r55 => (if x3 < r55 then
    ((fM_stones 16 x4 g).bind fun r75 => (fM_honoured_b79 x1 x4 r75 x4 g))
  else
    (fM_honoured_b79 x1 x2 x3 x4 g)))
def fM_honoured_b37 (x1 : Int32) (x2 : Int32) (x3 : Int32) (x4 : Int32) (g : St) : Option (Int32 × St) :=
  (lp (fM_honoured_L37 x1 g) fuel (x2, x3, x4)).bind (fun ⟨x2, x3⟩ => if x1 = 0 then
    (some (x2, g))
  else
    (if x2 = (-1 : Int32) then
    (some (x2, g))
  else
    (some (x3, g))))
def fM_honoured_b20 (x1 : Int32) (s1 : Int32) (g : St) : Option (Int32 × St) :=
  (fM_bad s1 (1 : Int32) (1 : Int32) g).bind fun ⟨r22, g22⟩ => (if r22 = 0 then
    (fM_honoured_b37 x1 (-1 : Int32) (0 : Int32) (0 : Int32) g22)
  else
    (some ((0 : Int32), g22)))
def fM_honoured (x1 : Int32) (g : St) : Option (Int32 × St) :=
  if (fM_in x1 (0 : Int32) (1 : Int32)) = 0 then
    (fM_honoured_b20 x1 (1 : Int32) (st g 0 0 (0 : Int32)))
  else
    (fM_honoured_b20 x1 (0 : Int32) (st g 0 0 (0 : Int32)))
def rmM_honoured : Room := { frames := 2, cells := 0, slots := 0, locals := 46 }
abbrev GcM_honoured (l : Launch) (D : va_G) (T : cT) (ad : Nat → Nat) (Γ : Cxt) (o : Int32 × St) (xo : Sl) (x : Sl) (g : St) (pc : Nat) (lv : List (Nat × Value)) (stk : List Value) : Prop := Gj l shM D T ad 5 (rmM_honoured) 0 0 Γ (MQ Γ.below (va_Qi (eqI o.1 o.2 xo) (wPost shM D T ad Γ.A) Γ.A) Γ.args Γ.s 0 0 Γ.A) x g pc lv stk
set_option maxRecDepth 100000 in
set_option maxHeartbeats 4000000 in
theorem cM_honoured (l : Launch) (D : va_G) (T : cT) (ad : Nat → Nat) (xo : Sl) (g : St) (x1 : Int32) (o : Int32 × St) (h : fM_honoured x1 g = some o) (sz : Nat) : Met l yX12_honoured wM_honoured (rmM_honoured) (va_Pc [.ref (ad 0), .int x1] (wPre shM D T ad xo g sz)) (va_Qi (eqI o.1 o.2 xo) (wPost shM D T ad (aW shM T ad xo g sz)) (aW shM T ad xo g sz)) 0 0 (aW shM T ad xo g sz) := by
  refine g_start (Qc := fun A => va_Qi (eqI o.1 o.2 xo) (wPost shM D T ad A) A) (by decide +kernel) rfl rfl (Nat.le_of_ble_eq_true rfl) (lv := [(0, .ref (ad 0)), (1, .int x1)]) rfl (fun Γ C => ?_)
  show GcM_honoured l D T ad Γ o xo xo g 0 [(0, .ref (ad 0)), (1, .int x1)] []
  have J37 : ∀ (x1 : Int32) (x2 : Int32) (x3 : Int32) (x4 : Int32) (g : St), fM_honoured_b37 x1 x2 x3 x4 g = some o → GcM_honoured l D T ad Γ o xo xo g 37 [(0, .ref (ad 0)), (1, .int x1), (2, .int x2), (3, .int x3), (4, .int x4)] [] := by
    intro x1 x2 x3 x4 g h
    obtain ⟨⟨x2, x3⟩, ht, h⟩ := bnd h
    refine lp_run (P := fun t : Int32 × Int32 × Int32 => match t with | (x2, x3, x4) => GcM_honoured l D T ad Γ o xo xo g 37 [(0, .ref (ad 0)), (1, .int x1), (2, .int x2), (3, .int x3), (4, .int x4)] []) (E := fun t : Int32 × Int32 => match t with | (x2, x3) => GcM_honoured l D T ad Γ o xo xo g 85 [(1, .int x1), (2, .int x2), (3, .int x3)] []) ?_ _ _ _ ht ?_
    · rintro ⟨x2, x3, x4⟩ z h Kt Ke
      show GcM_honoured l D T ad Γ o xo xo g 37 [(0, .ref (ad 0)), (1, .int x1), (2, .int x2), (3, .int x3), (4, .int x4)] []
      have J79 : ∀ (x2 : Int32) (x3 : Int32) (x4 : Int32), fM_honoured_b79 x1 x2 x3 x4 g = some z → GcM_honoured l D T ad Γ o xo xo g 79 [(0, .ref (ad 0)), (1, .int x1), (2, .int x2), (3, .int x3), (4, .int x4)] [] := by
        intro x2 x3 x4 h
        refine g_iinc (lv' := [(4, .int (x4 + (1 : Int32))), (0, .ref (ad 0)), (1, .int x1), (2, .int x2), (3, .int x3)]) C dX12_honoured_79 4 rfl (ii_1 _) (Nat.le_of_ble_eq_true rfl) rfl ?_
        refine g_goto (tgt := 37) C dX12_honoured_82 (by decide) ?_
        exact g_sub [1, 2, 3, 4, 0] rfl (Kt _ (Option.some.inj h).symm)
      refine g_iload C dX12_honoured_37 4 rfl ?_
      refine g_aload_n C dX12_honoured_39 rfl 0 rfl ?_
      refine gM_get_told C dX12_honoured_40 ?_
      refine g_iconst C dX12_honoured_43 ic_0 ?_
      refine g_iald (n := 2) (v := g 4 0) C ln_4 (by decide) rfl dX12_honoured_44 ?_
      refine g_icmp_ge C 85 dX12_honoured_45 (by decide) (fun c45 => ?_) (fun c45 => ?_)
      · have h := iteT c45 h
        exact g_sub [1, 2, 3] rfl (Ke _ (Option.some.inj h).symm)
      · have h := iteF c45 h
        refine g_aload_n C dX12_honoured_48 rfl 0 rfl ?_
        refine g_aload_n C dX12_honoured_49 rfl 0 rfl ?_
        refine gM_get_now C dX12_honoured_50 ?_
        refine g_iload C dX12_honoured_53 4 rfl ?_
        obtain ⟨r55, hr55, h⟩ := bnd h
        refine g_cVi (k := 0) (As := [.ref (ad 16), .int x4]) (rest := []) (ro := r55) (go := g) (xo := xo) C (fun sz => cM_stones l D T ad xo g 16 x4 _ hr55 sz) kM_stones ⟨Nat.le_of_ble_eq_true rfl, Nat.le_of_ble_eq_true rfl⟩ ⟨rfl, rfl⟩ ⟨Nat.zero_le _, Nat.zero_le _⟩ (rfl : vwCl[11]? = some (RX12, TX12, 48)) kM0 rfl rfl (Nat.le_of_ble_eq_true rfl) dX12_honoured_55 ?_
        refine g_iload_n C dX12_honoured_58 rfl 3 rfl ?_
        refine g_icmp_gt C 65 dX12_honoured_59 (by decide) (fun c59 => ?_) (fun c59 => ?_)
        · have h := iteT c59 h
          refine g_iload C dX12_honoured_65 4 rfl ?_
          refine g_istore_n (lv' := [(2, .int x4), (0, .ref (ad 0)), (1, .int x1), (3, .int x3), (4, .int x4)]) C dX12_honoured_67 rfl (Nat.le_of_ble_eq_true rfl) rfl ?_
          refine g_aload_n C dX12_honoured_68 rfl 1 rfl ?_
          refine g_aload_n C dX12_honoured_69 rfl 1 rfl ?_
          refine gM_get_now C dX12_honoured_70 ?_
          refine g_iload C dX12_honoured_73 4 rfl ?_
          obtain ⟨r75, hr75, h⟩ := bnd h
          refine g_cVi (k := 0) (As := [.ref (ad 16), .int x4]) (rest := []) (ro := r75) (go := g) (xo := xo) C (fun sz => cM_stones l D T ad xo g 16 x4 _ hr75 sz) kM_stones ⟨Nat.le_of_ble_eq_true rfl, Nat.le_of_ble_eq_true rfl⟩ ⟨rfl, rfl⟩ ⟨Nat.zero_le _, Nat.zero_le _⟩ (rfl : vwCl[11]? = some (RX12, TX12, 48)) kM0 rfl rfl (Nat.le_of_ble_eq_true rfl) dX12_honoured_75 ?_
          refine g_istore_n (lv' := [(3, .int r75), (2, .int x4), (0, .ref (ad 0)), (1, .int x1), (4, .int x4)]) C dX12_honoured_78 rfl (Nat.le_of_ble_eq_true rfl) rfl ?_
          exact g_sub [2, 3, 1, 0, 4] rfl (J79 x4 r75 x4 h)
        · have h := iteF c59 h
          refine g_goto (tgt := 79) C dX12_honoured_62 (by decide) ?_
          exact J79 x2 x3 x4 h
    · show GcM_honoured l D T ad Γ o xo xo g 85 [(1, .int x1), (2, .int x2), (3, .int x3)] []
      refine g_iload_n C dX12_honoured_85 rfl 0 rfl ?_
      refine g_if_eq C 94 dX12_honoured_86 (by decide) (fun c86 => ?_) (fun c86 => ?_)
      · have h := iteT c86 h
        refine g_iload_n C dX12_honoured_94 rfl 1 rfl ?_
        refine g_goto (tgt := 99) C dX12_honoured_95 (by decide) ?_
        obtain rfl := Option.some.inj h
        exact g_iret C rfl rfl rfl dX12_honoured_99
      · have h := iteF c86 h
        refine g_iload_n C dX12_honoured_89 rfl 1 rfl ?_
        refine g_iconst C dX12_honoured_90 ic_m1 ?_
        refine g_icmp_ne C 98 dX12_honoured_91 (by decide) (fun c91 => ?_) (fun c91 => ?_)
        · have h := iteT c91 h
          refine g_iload_n C dX12_honoured_94 rfl 1 rfl ?_
          refine g_goto (tgt := 99) C dX12_honoured_95 (by decide) ?_
          obtain rfl := Option.some.inj h
          exact g_iret C rfl rfl rfl dX12_honoured_99
        · have h := iteF c91 h
          refine g_iload_n C dX12_honoured_98 rfl 2 rfl ?_
          obtain rfl := Option.some.inj h
          exact g_iret C rfl rfl rfl dX12_honoured_99
  have J20 : ∀ (x1 : Int32) (s1 : Int32) (g : St), fM_honoured_b20 x1 s1 g = some o → GcM_honoured l D T ad Γ o xo xo g 20 [(0, .ref (ad 0)), (1, .int x1)] [.int s1, .ref (ad 0)] := by
    intro x1 s1 g h
    refine g_iconst C dX12_honoured_20 ic_1 ?_
    refine g_iconst C dX12_honoured_21 ic_1 ?_
    obtain ⟨⟨r22, g22⟩, hr22, h⟩ := bnd h
    refine g_cVz (k := 0) (As := [.int s1, .int (1 : Int32), .int (1 : Int32)]) (rest := []) (ro := r22) (go := g22) (xo := xo) C (fun sz => cM_bad l D T ad xo g s1 (1 : Int32) (1 : Int32) _ hr22 sz) kM_bad ⟨Nat.le_of_ble_eq_true rfl, Nat.le_of_ble_eq_true rfl⟩ ⟨rfl, rfl⟩ ⟨Nat.zero_le _, Nat.zero_le _⟩ (rfl : vwCl[11]? = some (RX12, TX12, 48)) kM0 rfl rfl (Nat.le_of_ble_eq_true rfl) dX12_honoured_22 (fun hz22 => ?_)
    refine g_if_eq C 30 dX12_honoured_25 (by decide) (fun c25 => ?_) (fun c25 => ?_)
    · have h := iteT c25 h
      refine g_iconst C dX12_honoured_30 ic_m1 ?_
      refine g_istore_n (lv' := [(2, .int (-1 : Int32)), (0, .ref (ad 0)), (1, .int x1)]) C dX12_honoured_31 rfl (Nat.le_of_ble_eq_true rfl) rfl ?_
      refine g_iconst C dX12_honoured_32 ic_0 ?_
      refine g_istore_n (lv' := [(3, .int (0 : Int32)), (2, .int (-1 : Int32)), (0, .ref (ad 0)), (1, .int x1)]) C dX12_honoured_33 rfl (Nat.le_of_ble_eq_true rfl) rfl ?_
      refine g_iconst C dX12_honoured_34 ic_0 ?_
      refine g_istore (lv' := [(4, .int (0 : Int32)), (3, .int (0 : Int32)), (2, .int (-1 : Int32)), (0, .ref (ad 0)), (1, .int x1)]) C dX12_honoured_35 (Nat.le_of_ble_eq_true rfl) rfl ?_
      exact g_sub [3, 4, 2, 1, 0] rfl (J37 x1 (-1 : Int32) (0 : Int32) (0 : Int32) g22 h)
    · have h := iteF c25 h
      refine g_iconst C dX12_honoured_28 ic_0 ?_
      obtain rfl := Option.some.inj h
      exact g_iret C rfl rfl rfl dX12_honoured_29
  refine g_aload_n C dX12_honoured_0 rfl 0 rfl ?_
  refine g_iconst C dX12_honoured_1 ic_0 ?_
  refine gM_put_thrown C dX12_honoured_2 ?_
  refine g_aload_n C dX12_honoured_5 rfl 0 rfl ?_
  refine g_iload_n C dX12_honoured_6 rfl 1 rfl ?_
  refine g_iconst C dX12_honoured_7 ic_0 ?_
  refine g_iconst C dX12_honoured_8 ic_1 ?_
  refine g_cSz (As := [.int x1, .int (0 : Int32), .int (1 : Int32)]) (rest := [.ref (ad 0)]) (ro := (fM_in x1 (0 : Int32) (1 : Int32))) (go := (st g 0 0 (0 : Int32))) (xo := xo) C (fun sz => cM_in l D T ad xo (st g 0 0 (0 : Int32)) x1 (0 : Int32) (1 : Int32) _ rfl sz) kM_in ⟨Nat.le_of_ble_eq_true rfl, Nat.le_of_ble_eq_true rfl⟩ ⟨rfl, rfl⟩ ⟨Nat.zero_le _, Nat.zero_le _⟩ rfl rfl (Nat.le_of_ble_eq_true rfl) dX12_honoured_9 (fun hz9 => ?_)
  refine g_if_ne C 19 dX12_honoured_12 (by decide) (fun c12 => ?_) (fun c12 => ?_)
  · have h := iteT c12 h
    refine g_iconst C dX12_honoured_15 ic_1 ?_
    refine g_goto (tgt := 20) C dX12_honoured_16 (by decide) ?_
    exact J20 x1 (1 : Int32) (st g 0 0 (0 : Int32)) h
  · have h := iteF c12 h
    refine g_iconst C dX12_honoured_19 ic_0 ?_
    exact J20 x1 (0 : Int32) (st g 0 0 (0 : Int32)) h
def fM_sued_b20 (x1 : Int32) (s1 : Int32) (g : St) : Option (Int32 × St) :=
  (fM_bad s1 (1 : Int32) (1 : Int32) g).bind fun ⟨r22, g22⟩ => (if r22 = 0 then
    ((fM_deepest 16 g22).bind fun r35 => (if r35 = (-1 : Int32) then
    (some ((-1 : Int32), g22))
  else
    (if ¬ (((0 : Int32) + r35) < 0 ∨ 26 ≤ ((0 : Int32) + r35).toNatClampNeg) then (if (g22 16 (((0 : Int32) + r35).toNatClampNeg)) = 0 then
    (some ((-1 : Int32), g22))
  else
    (if x1 = 0 then
    (some (r35, g22))
  else
    (some ((g22 16 (((0 : Int32) + r35).toNatClampNeg)), g22)))) else none)))
  else
    (some ((0 : Int32), g22)))
def fM_sued (x1 : Int32) (g : St) : Option (Int32 × St) :=
  if (fM_in x1 (0 : Int32) (1 : Int32)) = 0 then
    (fM_sued_b20 x1 (1 : Int32) (st g 0 0 (0 : Int32)))
  else
    (fM_sued_b20 x1 (0 : Int32) (st g 0 0 (0 : Int32)))
def rmM_sued : Room := { frames := 1, cells := 0, slots := 0, locals := 23 }
abbrev GcM_sued (l : Launch) (D : va_G) (T : cT) (ad : Nat → Nat) (Γ : Cxt) (o : Int32 × St) (xo : Sl) (x : Sl) (g : St) (pc : Nat) (lv : List (Nat × Value)) (stk : List Value) : Prop := Gj l shM D T ad 3 (rmM_sued) 0 0 Γ (MQ Γ.below (va_Qi (eqI o.1 o.2 xo) (wPost shM D T ad Γ.A) Γ.A) Γ.args Γ.s 0 0 Γ.A) x g pc lv stk
set_option maxRecDepth 100000 in
set_option maxHeartbeats 4000000 in
theorem cM_sued (l : Launch) (D : va_G) (T : cT) (ad : Nat → Nat) (xo : Sl) (g : St) (x1 : Int32) (o : Int32 × St) (h : fM_sued x1 g = some o) (sz : Nat) : Met l yX12_sued wM_sued (rmM_sued) (va_Pc [.ref (ad 0), .int x1] (wPre shM D T ad xo g sz)) (va_Qi (eqI o.1 o.2 xo) (wPost shM D T ad (aW shM T ad xo g sz)) (aW shM T ad xo g sz)) 0 0 (aW shM T ad xo g sz) := by
  refine g_start (Qc := fun A => va_Qi (eqI o.1 o.2 xo) (wPost shM D T ad A) A) (by decide +kernel) rfl rfl (Nat.le_of_ble_eq_true rfl) (lv := [(0, .ref (ad 0)), (1, .int x1)]) rfl (fun Γ C => ?_)
  show GcM_sued l D T ad Γ o xo xo g 0 [(0, .ref (ad 0)), (1, .int x1)] []
  have J20 : ∀ (x1 : Int32) (s1 : Int32) (g : St), fM_sued_b20 x1 s1 g = some o → GcM_sued l D T ad Γ o xo xo g 20 [(0, .ref (ad 0)), (1, .int x1)] [.int s1, .ref (ad 0)] := by
    intro x1 s1 g h
    refine g_iconst C dX12_sued_20 ic_1 ?_
    refine g_iconst C dX12_sued_21 ic_1 ?_
    obtain ⟨⟨r22, g22⟩, hr22, h⟩ := bnd h
    refine g_cVz (k := 0) (As := [.int s1, .int (1 : Int32), .int (1 : Int32)]) (rest := []) (ro := r22) (go := g22) (xo := xo) C (fun sz => cM_bad l D T ad xo g s1 (1 : Int32) (1 : Int32) _ hr22 sz) kM_bad ⟨Nat.le_of_ble_eq_true rfl, Nat.le_of_ble_eq_true rfl⟩ ⟨rfl, rfl⟩ ⟨Nat.zero_le _, Nat.zero_le _⟩ (rfl : vwCl[11]? = some (RX12, TX12, 48)) kM0 rfl rfl (Nat.le_of_ble_eq_true rfl) dX12_sued_22 (fun hz22 => ?_)
    refine g_if_eq C 30 dX12_sued_25 (by decide) (fun c25 => ?_) (fun c25 => ?_)
    · have h := iteT c25 h
      refine g_aload_n C dX12_sued_30 rfl 0 rfl ?_
      refine g_aload_n C dX12_sued_31 rfl 0 rfl ?_
      refine gM_get_now C dX12_sued_32 ?_
      obtain ⟨r35, hr35, h⟩ := bnd h
      refine g_cVi (k := 0) (As := [.ref (ad 16)]) (rest := []) (ro := r35) (go := g22) (xo := xo) C (fun sz => cM_deepest l D T ad xo g22 16 _ hr35 sz) kM_deepest ⟨Nat.le_of_ble_eq_true rfl, Nat.le_of_ble_eq_true rfl⟩ ⟨rfl, rfl⟩ ⟨Nat.zero_le _, Nat.zero_le _⟩ (rfl : vwCl[11]? = some (RX12, TX12, 48)) kM0 rfl rfl (Nat.le_of_ble_eq_true rfl) dX12_sued_35 ?_
      refine g_istore_n (lv' := [(2, .int r35), (0, .ref (ad 0)), (1, .int x1)]) C dX12_sued_38 rfl (Nat.le_of_ble_eq_true rfl) rfl ?_
      refine g_iload_n C dX12_sued_39 rfl 0 rfl ?_
      refine g_iconst C dX12_sued_40 ic_m1 ?_
      refine g_icmp_eq C 55 dX12_sued_41 (by decide) (fun c41 => ?_) (fun c41 => ?_)
      · have h := iteT c41 h
        refine g_iconst C dX12_sued_55 ic_m1 ?_
        obtain rfl := Option.some.inj h
        exact g_iret C rfl rfl rfl dX12_sued_56
      · have h := iteF c41 h
        refine g_aload_n C dX12_sued_44 rfl 1 rfl ?_
        refine gM_get_now C dX12_sued_45 ?_
        refine g_iconst C dX12_sued_48 ic_0 ?_
        refine g_iload_n C dX12_sued_49 rfl 0 rfl ?_
        refine g_iadd C dX12_sued_50 ?_
        obtain ⟨hi51, h⟩ := grd h
        refine g_iald (n := 26) (v := g22 16 (((0 : Int32) + r35).toNatClampNeg)) C ln_16 hi51 rfl dX12_sued_51 ?_
        refine g_if_ne C 57 dX12_sued_52 (by decide) (fun c52 => ?_) (fun c52 => ?_)
        · have h := iteT c52 h
          refine g_iconst C dX12_sued_55 ic_m1 ?_
          obtain rfl := Option.some.inj h
          exact g_iret C rfl rfl rfl dX12_sued_56
        · have h := iteF c52 h
          refine g_iload_n C dX12_sued_57 rfl 2 rfl ?_
          refine g_if_ne C 65 dX12_sued_58 (by decide) (fun c58 => ?_) (fun c58 => ?_)
          · have h := iteT c58 h
            refine g_iload_n C dX12_sued_61 rfl 0 rfl ?_
            refine g_goto (tgt := 73) C dX12_sued_62 (by decide) ?_
            obtain rfl := Option.some.inj h
            exact g_iret C rfl rfl rfl dX12_sued_73
          · have h := iteF c58 h
            refine g_aload_n C dX12_sued_65 rfl 1 rfl ?_
            refine gM_get_now C dX12_sued_66 ?_
            refine g_iconst C dX12_sued_69 ic_0 ?_
            refine g_iload_n C dX12_sued_70 rfl 0 rfl ?_
            refine g_iadd C dX12_sued_71 ?_
            refine g_iald (n := 26) (v := g22 16 (((0 : Int32) + r35).toNatClampNeg)) C ln_16 hi51 rfl dX12_sued_72 ?_
            obtain rfl := Option.some.inj h
            exact g_iret C rfl rfl rfl dX12_sued_73
    · have h := iteF c25 h
      refine g_iconst C dX12_sued_28 ic_0 ?_
      obtain rfl := Option.some.inj h
      exact g_iret C rfl rfl rfl dX12_sued_29
  refine g_aload_n C dX12_sued_0 rfl 0 rfl ?_
  refine g_iconst C dX12_sued_1 ic_0 ?_
  refine gM_put_thrown C dX12_sued_2 ?_
  refine g_aload_n C dX12_sued_5 rfl 0 rfl ?_
  refine g_iload_n C dX12_sued_6 rfl 1 rfl ?_
  refine g_iconst C dX12_sued_7 ic_0 ?_
  refine g_iconst C dX12_sued_8 ic_1 ?_
  refine g_cSz (As := [.int x1, .int (0 : Int32), .int (1 : Int32)]) (rest := [.ref (ad 0)]) (ro := (fM_in x1 (0 : Int32) (1 : Int32))) (go := (st g 0 0 (0 : Int32))) (xo := xo) C (fun sz => cM_in l D T ad xo (st g 0 0 (0 : Int32)) x1 (0 : Int32) (1 : Int32) _ rfl sz) kM_in ⟨Nat.le_of_ble_eq_true rfl, Nat.le_of_ble_eq_true rfl⟩ ⟨rfl, rfl⟩ ⟨Nat.zero_le _, Nat.zero_le _⟩ rfl rfl (Nat.le_of_ble_eq_true rfl) dX12_sued_9 (fun hz9 => ?_)
  refine g_if_ne C 19 dX12_sued_12 (by decide) (fun c12 => ?_) (fun c12 => ?_)
  · have h := iteT c12 h
    refine g_iconst C dX12_sued_15 ic_1 ?_
    refine g_goto (tgt := 20) C dX12_sued_16 (by decide) ?_
    exact J20 x1 (1 : Int32) (st g 0 0 (0 : Int32)) h
  · have h := iteF c12 h
    refine g_iconst C dX12_sued_19 ic_0 ?_
    exact J20 x1 (0 : Int32) (st g 0 0 (0 : Int32)) h
def fM_free_b90 (x1 : Int32) (x3 : Int32) (s0 : Int32) (s1 : Int32) (g : St) : Option ((Int32 × Int32) ⊕ (Int32)) :=
  some (.inl ((s0 ||| s1), (x3 + (1 : Int32))))
def fM_free_b89 (x1 : Int32) (x3 : Int32) (s0 : Int32) (g : St) : Option ((Int32 × Int32) ⊕ (Int32)) :=
  fM_free_b90 x1 x3 s0 (0 : Int32) g
def fM_free_L33 (x1 : Int32) (g : St) : (Int32 × Int32) → Option ((Int32 × Int32) ⊕ (Int32)) := fun ⟨x2, x3⟩ =>
  if (g 4 0) ≤ x3 then
    (some (.inr x2))
  else
    (if ¬ (x1 < 0 ∨ 8 ≤ x1.toNatClampNeg) then (if (fM_has ((g 8 x1.toNatClampNeg) &&& (g 16 24)) x3) = 0 then
    (fM_free_b89 x1 x3 x2 g)
  else
    ((fM_stones 16 x3 g).bind fun r71 => (if (g 4 1) ≤ r71 then
    (fM_free_b89 x1 x3 x2 g)
  else
    (fM_free_b90 x1 x3 x2 ((1 : Int32) <<< (x3 &&& 31)) g)))) else none)
def fM_free_b33 (x1 : Int32) (x2 : Int32) (x3 : Int32) (g : St) : Option (Int32 × St) :=
  (lp (fM_free_L33 x1 g) fuel (x2, x3)).bind (fun x2 => some (x2, g))
def fM_free_b19 (x1 : Int32) (s1 : Int32) (g : St) : Option (Int32 × St) :=
  (fM_bad s1 (1 : Int32) (0 : Int32) g).bind fun ⟨r21, g21⟩ => (if r21 = 0 then
    (fM_free_b33 x1 (0 : Int32) (0 : Int32) g21)
  else
    (some ((0 : Int32), g21)))
def fM_free (x1 : Int32) (g : St) : Option (Int32 × St) :=
  if (fM_isPerson x1 (st g 0 0 (0 : Int32))) = 0 then
    (fM_free_b19 x1 (1 : Int32) (st g 0 0 (0 : Int32)))
  else
    (fM_free_b19 x1 (0 : Int32) (st g 0 0 (0 : Int32)))
def rmM_free : Room := { frames := 2, cells := 0, slots := 0, locals := 46 }
abbrev GcM_free (l : Launch) (D : va_G) (T : cT) (ad : Nat → Nat) (Γ : Cxt) (o : Int32 × St) (xo : Sl) (x : Sl) (g : St) (pc : Nat) (lv : List (Nat × Value)) (stk : List Value) : Prop := Gj l shM D T ad 4 (rmM_free) 0 0 Γ (MQ Γ.below (va_Qi (eqI o.1 o.2 xo) (wPost shM D T ad Γ.A) Γ.A) Γ.args Γ.s 0 0 Γ.A) x g pc lv stk
set_option maxRecDepth 100000 in
set_option maxHeartbeats 4000000 in
theorem cM_free (l : Launch) (D : va_G) (T : cT) (ad : Nat → Nat) (xo : Sl) (g : St) (x1 : Int32) (o : Int32 × St) (h : fM_free x1 g = some o) (sz : Nat) : Met l yX12_free wM_free (rmM_free) (va_Pc [.ref (ad 0), .int x1] (wPre shM D T ad xo g sz)) (va_Qi (eqI o.1 o.2 xo) (wPost shM D T ad (aW shM T ad xo g sz)) (aW shM T ad xo g sz)) 0 0 (aW shM T ad xo g sz) := by
  refine g_start (Qc := fun A => va_Qi (eqI o.1 o.2 xo) (wPost shM D T ad A) A) (by decide +kernel) rfl rfl (Nat.le_of_ble_eq_true rfl) (lv := [(0, .ref (ad 0)), (1, .int x1)]) rfl (fun Γ C => ?_)
  show GcM_free l D T ad Γ o xo xo g 0 [(0, .ref (ad 0)), (1, .int x1)] []
  have J33 : ∀ (x1 : Int32) (x2 : Int32) (x3 : Int32) (g : St), fM_free_b33 x1 x2 x3 g = some o → GcM_free l D T ad Γ o xo xo g 33 [(0, .ref (ad 0)), (1, .int x1), (2, .int x2), (3, .int x3)] [] := by
    intro x1 x2 x3 g h
    obtain ⟨x2, ht, h⟩ := bnd h
    refine lp_run (P := fun t : Int32 × Int32 => match t with | (x2, x3) => GcM_free l D T ad Γ o xo xo g 33 [(0, .ref (ad 0)), (1, .int x1), (2, .int x2), (3, .int x3)] []) (E := fun x2 : Int32 => GcM_free l D T ad Γ o xo xo g 98 [(2, .int x2)] []) ?_ _ _ _ ht ?_
    · rintro ⟨x2, x3⟩ z h Kt Ke
      show GcM_free l D T ad Γ o xo xo g 33 [(0, .ref (ad 0)), (1, .int x1), (2, .int x2), (3, .int x3)] []
      have J90 : ∀ (x3 : Int32) (s0 : Int32) (s1 : Int32), fM_free_b90 x1 x3 s0 s1 g = some z → GcM_free l D T ad Γ o xo xo g 90 [(0, .ref (ad 0)), (1, .int x1), (3, .int x3)] [.int s1, .int s0] := by
        intro x3 s0 s1 h
        refine g_ior C dX12_free_90 ?_
        refine g_istore_n (lv' := [(2, .int (s0 ||| s1)), (0, .ref (ad 0)), (1, .int x1), (3, .int x3)]) C dX12_free_91 rfl (Nat.le_of_ble_eq_true rfl) rfl ?_
        refine g_iinc (lv' := [(3, .int (x3 + (1 : Int32))), (2, .int (s0 ||| s1)), (0, .ref (ad 0)), (1, .int x1)]) C dX12_free_92 3 rfl (ii_1 _) (Nat.le_of_ble_eq_true rfl) rfl ?_
        refine g_goto (tgt := 33) C dX12_free_95 (by decide) ?_
        exact g_sub [2, 3, 1, 0] rfl (Kt _ (Option.some.inj h).symm)
      have J89 : ∀ (x3 : Int32) (s0 : Int32), fM_free_b89 x1 x3 s0 g = some z → GcM_free l D T ad Γ o xo xo g 89 [(0, .ref (ad 0)), (1, .int x1), (3, .int x3)] [.int s0] := by
        intro x3 s0 h
        refine g_iconst C dX12_free_89 ic_0 ?_
        exact J90 x3 s0 (0 : Int32) h
      refine g_iload_n C dX12_free_33 rfl 3 rfl ?_
      refine g_aload_n C dX12_free_34 rfl 0 rfl ?_
      refine gM_get_told C dX12_free_35 ?_
      refine g_iconst C dX12_free_38 ic_0 ?_
      refine g_iald (n := 2) (v := g 4 0) C ln_4 (by decide) rfl dX12_free_39 ?_
      refine g_icmp_ge C 98 dX12_free_40 (by decide) (fun c40 => ?_) (fun c40 => ?_)
      · have h := iteT c40 h
        exact g_sub [2] rfl (Ke _ (Option.some.inj h).symm)
      · have h := iteF c40 h
        refine g_iload_n C dX12_free_43 rfl 2 rfl ?_
        refine g_aload_n C dX12_free_44 rfl 0 rfl ?_
        refine gM_get_friend C dX12_free_45 ?_
        refine g_iload_n C dX12_free_48 rfl 1 rfl ?_
        obtain ⟨hi49, h⟩ := grd h
        refine g_iald (n := 8) (v := g 8 x1.toNatClampNeg) C ln_8 hi49 rfl dX12_free_49 ?_
        refine g_aload_n C dX12_free_50 rfl 0 rfl ?_
        refine gM_get_now C dX12_free_51 ?_
        refine g_bipush C dX12_free_54 bp_24 ?_
        refine g_iald (n := 26) (v := g 16 24) C ln_16 (by decide) rfl dX12_free_56 ?_
        refine g_iand C dX12_free_57 ?_
        refine g_iload_n C dX12_free_58 rfl 3 rfl ?_
        refine g_cSz (As := [.int ((g 8 x1.toNatClampNeg) &&& (g 16 24)), .int x3]) (rest := [.int x2]) (ro := (fM_has ((g 8 x1.toNatClampNeg) &&& (g 16 24)) x3)) (go := g) (xo := xo) C (fun sz => cM_has l D T ad xo g ((g 8 x1.toNatClampNeg) &&& (g 16 24)) x3 _ rfl sz) kM_has ⟨Nat.le_of_ble_eq_true rfl, Nat.le_of_ble_eq_true rfl⟩ ⟨rfl, rfl⟩ ⟨Nat.zero_le _, Nat.zero_le _⟩ rfl rfl (Nat.le_of_ble_eq_true rfl) dX12_free_59 (fun hz59 => ?_)
        refine g_if_eq C 89 dX12_free_62 (by decide) (fun c62 => ?_) (fun c62 => ?_)
        · have h := iteT c62 h
          exact g_sub [0, 1, 3] rfl (J89 x3 x2 h)
        · have h := iteF c62 h
          refine g_aload_n C dX12_free_65 rfl 0 rfl ?_
          refine g_aload_n C dX12_free_66 rfl 0 rfl ?_
          refine gM_get_now C dX12_free_67 ?_
          refine g_iload_n C dX12_free_70 rfl 3 rfl ?_
          obtain ⟨r71, hr71, h⟩ := bnd h
          refine g_cVi (k := 0) (As := [.ref (ad 16), .int x3]) (rest := [.int x2]) (ro := r71) (go := g) (xo := xo) C (fun sz => cM_stones l D T ad xo g 16 x3 _ hr71 sz) kM_stones ⟨Nat.le_of_ble_eq_true rfl, Nat.le_of_ble_eq_true rfl⟩ ⟨rfl, rfl⟩ ⟨Nat.zero_le _, Nat.zero_le _⟩ (rfl : vwCl[11]? = some (RX12, TX12, 48)) kM0 rfl rfl (Nat.le_of_ble_eq_true rfl) dX12_free_71 ?_
          refine g_aload_n C dX12_free_74 rfl 0 rfl ?_
          refine gM_get_told C dX12_free_75 ?_
          refine g_iconst C dX12_free_78 ic_1 ?_
          refine g_iald (n := 2) (v := g 4 1) C ln_4 (by decide) rfl dX12_free_79 ?_
          refine g_icmp_ge C 89 dX12_free_80 (by decide) (fun c80 => ?_) (fun c80 => ?_)
          · have h := iteT c80 h
            exact g_sub [0, 1, 3] rfl (J89 x3 x2 h)
          · have h := iteF c80 h
            refine g_iconst C dX12_free_83 ic_1 ?_
            refine g_iload_n C dX12_free_84 rfl 3 rfl ?_
            refine g_ishl C dX12_free_85 ?_
            refine g_goto (tgt := 90) C dX12_free_86 (by decide) ?_
            exact g_sub [0, 1, 3] rfl (J90 x3 x2 ((1 : Int32) <<< (x3 &&& 31)) h)
    · show GcM_free l D T ad Γ o xo xo g 98 [(2, .int x2)] []
      refine g_iload_n C dX12_free_98 rfl 0 rfl ?_
      obtain rfl := Option.some.inj h
      exact g_iret C rfl rfl rfl dX12_free_99
  have J19 : ∀ (x1 : Int32) (s1 : Int32) (g : St), fM_free_b19 x1 s1 g = some o → GcM_free l D T ad Γ o xo xo g 19 [(0, .ref (ad 0)), (1, .int x1)] [.int s1, .ref (ad 0)] := by
    intro x1 s1 g h
    refine g_iconst C dX12_free_19 ic_1 ?_
    refine g_iconst C dX12_free_20 ic_0 ?_
    obtain ⟨⟨r21, g21⟩, hr21, h⟩ := bnd h
    refine g_cVz (k := 0) (As := [.int s1, .int (1 : Int32), .int (0 : Int32)]) (rest := []) (ro := r21) (go := g21) (xo := xo) C (fun sz => cM_bad l D T ad xo g s1 (1 : Int32) (0 : Int32) _ hr21 sz) kM_bad ⟨Nat.le_of_ble_eq_true rfl, Nat.le_of_ble_eq_true rfl⟩ ⟨rfl, rfl⟩ ⟨Nat.zero_le _, Nat.zero_le _⟩ (rfl : vwCl[11]? = some (RX12, TX12, 48)) kM0 rfl rfl (Nat.le_of_ble_eq_true rfl) dX12_free_21 (fun hz21 => ?_)
    refine g_if_eq C 29 dX12_free_24 (by decide) (fun c24 => ?_) (fun c24 => ?_)
    · have h := iteT c24 h
      refine g_iconst C dX12_free_29 ic_0 ?_
      refine g_istore_n (lv' := [(2, .int (0 : Int32)), (0, .ref (ad 0)), (1, .int x1)]) C dX12_free_30 rfl (Nat.le_of_ble_eq_true rfl) rfl ?_
      refine g_iconst C dX12_free_31 ic_0 ?_
      refine g_istore_n (lv' := [(3, .int (0 : Int32)), (2, .int (0 : Int32)), (0, .ref (ad 0)), (1, .int x1)]) C dX12_free_32 rfl (Nat.le_of_ble_eq_true rfl) rfl ?_
      exact g_sub [2, 3, 1, 0] rfl (J33 x1 (0 : Int32) (0 : Int32) g21 h)
    · have h := iteF c24 h
      refine g_iconst C dX12_free_27 ic_0 ?_
      obtain rfl := Option.some.inj h
      exact g_iret C rfl rfl rfl dX12_free_28
  refine g_aload_n C dX12_free_0 rfl 0 rfl ?_
  refine g_iconst C dX12_free_1 ic_0 ?_
  refine gM_put_thrown C dX12_free_2 ?_
  refine g_aload_n C dX12_free_5 rfl 0 rfl ?_
  refine g_aload_n C dX12_free_6 rfl 0 rfl ?_
  refine g_iload_n C dX12_free_7 rfl 1 rfl ?_
  refine g_cVz (k := 0) (As := [.int x1]) (rest := [.ref (ad 0)]) (ro := (fM_isPerson x1 (st g 0 0 (0 : Int32)))) (go := (st g 0 0 (0 : Int32))) (xo := xo) C (fun sz => cM_isPerson l D T ad xo (st g 0 0 (0 : Int32)) x1 _ rfl sz) kM_isPerson ⟨Nat.le_of_ble_eq_true rfl, Nat.le_of_ble_eq_true rfl⟩ ⟨rfl, rfl⟩ ⟨Nat.zero_le _, Nat.zero_le _⟩ (rfl : vwCl[11]? = some (RX12, TX12, 48)) kM0 rfl rfl (Nat.le_of_ble_eq_true rfl) dX12_free_8 (fun hz8 => ?_)
  refine g_if_ne C 18 dX12_free_11 (by decide) (fun c11 => ?_) (fun c11 => ?_)
  · have h := iteT c11 h
    refine g_iconst C dX12_free_14 ic_1 ?_
    refine g_goto (tgt := 19) C dX12_free_15 (by decide) ?_
    exact J19 x1 (1 : Int32) (st g 0 0 (0 : Int32)) h
  · have h := iteF c11 h
    refine g_iconst C dX12_free_18 ic_0 ?_
    exact J19 x1 (0 : Int32) (st g 0 0 (0 : Int32)) h
def fM_kin_b77 (x3 : Int32) (x4 : Int32) (s0 : Int32) (s1 : Int32) (g : St) : Option ((Int32 × Int32) ⊕ (Int32)) :=
  some (.inl ((s0 ||| s1), (x4 + (1 : Int32))))
def fM_kin_L45 (x3 : Int32) (g : St) : (Int32 × Int32) → Option ((Int32 × Int32) ⊕ (Int32)) := fun ⟨x2, x4⟩ =>
  if (g 4 0) ≤ x4 then
    (some (.inr x2))
  else
    (if (fM_has x3 x4) = 0 then
    (fM_kin_b77 x3 x4 x2 (0 : Int32) g)
  else
    (if ¬ (x4 < 0 ∨ 8 ≤ x4.toNatClampNeg) then (fM_kin_b77 x3 x4 x2 (g 8 x4.toNatClampNeg) g) else none))
def fM_kin_b45 (x2 : Int32) (x3 : Int32) (x4 : Int32) (g : St) : Option ((Int32 × Int32) ⊕ (Int32)) :=
  (lp (fM_kin_L45 x3 g) fuel (x2, x4)).bind (fun x2 => some (.inl (x2, x3)))
def fM_kin_L35 (g : St) : (Int32 × Int32) → Option ((Int32 × Int32) ⊕ (Int32)) := fun ⟨x2, x3⟩ =>
  if x2 = x3 then
    (some (.inr x2))
  else
    (fM_kin_b45 x2 x2 (0 : Int32) g)
def fM_kin_b35 (x2 : Int32) (x3 : Int32) (g : St) : Option (Int32 × St) :=
  (lp (fM_kin_L35 g) fuel (x2, x3)).bind (fun x2 => some (x2, g))
def fM_kin_b19 (x1 : Int32) (s1 : Int32) (g : St) : Option (Int32 × St) :=
  (fM_bad s1 (1 : Int32) (0 : Int32) g).bind fun ⟨r21, g21⟩ => (if r21 = 0 then
    (fM_kin_b35 ((1 : Int32) <<< (x1 &&& 31)) (0 : Int32) g21)
  else
    (some ((0 : Int32), g21)))
def fM_kin (x1 : Int32) (g : St) : Option (Int32 × St) :=
  if (fM_isPerson x1 (st g 0 0 (0 : Int32))) = 0 then
    (fM_kin_b19 x1 (1 : Int32) (st g 0 0 (0 : Int32)))
  else
    (fM_kin_b19 x1 (0 : Int32) (st g 0 0 (0 : Int32)))
def rmM_kin : Room := { frames := 2, cells := 0, slots := 0, locals := 43 }
abbrev GcM_kin (l : Launch) (D : va_G) (T : cT) (ad : Nat → Nat) (Γ : Cxt) (o : Int32 × St) (xo : Sl) (x : Sl) (g : St) (pc : Nat) (lv : List (Nat × Value)) (stk : List Value) : Prop := Gj l shM D T ad 5 (rmM_kin) 0 0 Γ (MQ Γ.below (va_Qi (eqI o.1 o.2 xo) (wPost shM D T ad Γ.A) Γ.A) Γ.args Γ.s 0 0 Γ.A) x g pc lv stk
set_option maxRecDepth 100000 in
set_option maxHeartbeats 4000000 in
theorem cM_kin (l : Launch) (D : va_G) (T : cT) (ad : Nat → Nat) (xo : Sl) (g : St) (x1 : Int32) (o : Int32 × St) (h : fM_kin x1 g = some o) (sz : Nat) : Met l yX12_kin wM_kin (rmM_kin) (va_Pc [.ref (ad 0), .int x1] (wPre shM D T ad xo g sz)) (va_Qi (eqI o.1 o.2 xo) (wPost shM D T ad (aW shM T ad xo g sz)) (aW shM T ad xo g sz)) 0 0 (aW shM T ad xo g sz) := by
  refine g_start (Qc := fun A => va_Qi (eqI o.1 o.2 xo) (wPost shM D T ad A) A) (by decide +kernel) rfl rfl (Nat.le_of_ble_eq_true rfl) (lv := [(0, .ref (ad 0)), (1, .int x1)]) rfl (fun Γ C => ?_)
  show GcM_kin l D T ad Γ o xo xo g 0 [(0, .ref (ad 0)), (1, .int x1)] []
  have J35 : ∀ (x2 : Int32) (x3 : Int32) (g : St), fM_kin_b35 x2 x3 g = some o → GcM_kin l D T ad Γ o xo xo g 35 [(0, .ref (ad 0)), (2, .int x2), (3, .int x3)] [] := by
    intro x2 x3 g h
    obtain ⟨x2, ht, h⟩ := bnd h
    refine lp_run (P := fun t : Int32 × Int32 => match t with | (x2, x3) => GcM_kin l D T ad Γ o xo xo g 35 [(0, .ref (ad 0)), (2, .int x2), (3, .int x3)] []) (E := fun x2 : Int32 => GcM_kin l D T ad Γ o xo xo g 88 [(2, .int x2)] []) ?_ _ _ _ ht ?_
    · rintro ⟨x2, x3⟩ z h Kt Ke
      show GcM_kin l D T ad Γ o xo xo g 35 [(0, .ref (ad 0)), (2, .int x2), (3, .int x3)] []
      have J45 : ∀ (x2 : Int32) (x3 : Int32) (x4 : Int32), fM_kin_b45 x2 x3 x4 g = some z → GcM_kin l D T ad Γ o xo xo g 45 [(0, .ref (ad 0)), (2, .int x2), (3, .int x3), (4, .int x4)] [] := by
        intro x2 x3 x4 h
        obtain ⟨x2, ht, h⟩ := bnd h
        refine lp_run (P := fun t : Int32 × Int32 => match t with | (x2, x4) => GcM_kin l D T ad Γ o xo xo g 45 [(0, .ref (ad 0)), (2, .int x2), (3, .int x3), (4, .int x4)] []) (E := fun x2 : Int32 => GcM_kin l D T ad Γ o xo xo g 85 [(0, .ref (ad 0)), (2, .int x2), (3, .int x3)] []) ?_ _ _ _ ht ?_
        · rintro ⟨x2, x4⟩ z h Kt Ke
          show GcM_kin l D T ad Γ o xo xo g 45 [(0, .ref (ad 0)), (2, .int x2), (3, .int x3), (4, .int x4)] []
          have J77 : ∀ (x4 : Int32) (s0 : Int32) (s1 : Int32), fM_kin_b77 x3 x4 s0 s1 g = some z → GcM_kin l D T ad Γ o xo xo g 77 [(0, .ref (ad 0)), (3, .int x3), (4, .int x4)] [.int s1, .int s0] := by
            intro x4 s0 s1 h
            refine g_ior C dX12_kin_77 ?_
            refine g_istore_n (lv' := [(2, .int (s0 ||| s1)), (0, .ref (ad 0)), (3, .int x3), (4, .int x4)]) C dX12_kin_78 rfl (Nat.le_of_ble_eq_true rfl) rfl ?_
            refine g_iinc (lv' := [(4, .int (x4 + (1 : Int32))), (2, .int (s0 ||| s1)), (0, .ref (ad 0)), (3, .int x3)]) C dX12_kin_79 3 rfl (ii_1 _) (Nat.le_of_ble_eq_true rfl) rfl ?_
            refine g_goto (tgt := 45) C dX12_kin_82 (by decide) ?_
            exact g_sub [2, 1, 3, 0] rfl (Kt _ (Option.some.inj h).symm)
          refine g_iload C dX12_kin_45 3 rfl ?_
          refine g_aload_n C dX12_kin_47 rfl 0 rfl ?_
          refine gM_get_told C dX12_kin_48 ?_
          refine g_iconst C dX12_kin_51 ic_0 ?_
          refine g_iald (n := 2) (v := g 4 0) C ln_4 (by decide) rfl dX12_kin_52 ?_
          refine g_icmp_ge C 85 dX12_kin_53 (by decide) (fun c53 => ?_) (fun c53 => ?_)
          · have h := iteT c53 h
            exact g_sub [0, 1, 2] rfl (Ke _ (Option.some.inj h).symm)
          · have h := iteF c53 h
            refine g_iload_n C dX12_kin_56 rfl 1 rfl ?_
            refine g_iload_n C dX12_kin_57 rfl 2 rfl ?_
            refine g_iload C dX12_kin_58 3 rfl ?_
            refine g_cSz (As := [.int x3, .int x4]) (rest := [.int x2]) (ro := (fM_has x3 x4)) (go := g) (xo := xo) C (fun sz => cM_has l D T ad xo g x3 x4 _ rfl sz) kM_has ⟨Nat.le_of_ble_eq_true rfl, Nat.le_of_ble_eq_true rfl⟩ ⟨rfl, rfl⟩ ⟨Nat.zero_le _, Nat.zero_le _⟩ rfl rfl (Nat.le_of_ble_eq_true rfl) dX12_kin_60 (fun hz60 => ?_)
            refine g_if_eq C 76 dX12_kin_63 (by decide) (fun c63 => ?_) (fun c63 => ?_)
            · have h := iteT c63 h
              refine g_iconst C dX12_kin_76 ic_0 ?_
              exact g_sub [0, 2, 3] rfl (J77 x4 x2 (0 : Int32) h)
            · have h := iteF c63 h
              refine g_aload_n C dX12_kin_66 rfl 0 rfl ?_
              refine gM_get_friend C dX12_kin_67 ?_
              refine g_iload C dX12_kin_70 3 rfl ?_
              obtain ⟨hi72, h⟩ := grd h
              refine g_iald (n := 8) (v := g 8 x4.toNatClampNeg) C ln_8 hi72 rfl dX12_kin_72 ?_
              refine g_goto (tgt := 77) C dX12_kin_73 (by decide) ?_
              exact g_sub [0, 2, 3] rfl (J77 x4 x2 (g 8 x4.toNatClampNeg) h)
        · show GcM_kin l D T ad Γ o xo xo g 85 [(0, .ref (ad 0)), (2, .int x2), (3, .int x3)] []
          refine g_goto (tgt := 35) C dX12_kin_85 (by decide) ?_
          exact g_sub [0, 1, 2] rfl (Kt _ (Option.some.inj h).symm)
      refine g_iload_n C dX12_kin_35 rfl 1 rfl ?_
      refine g_iload_n C dX12_kin_36 rfl 2 rfl ?_
      refine g_icmp_eq C 88 dX12_kin_37 (by decide) (fun c37 => ?_) (fun c37 => ?_)
      · have h := iteT c37 h
        exact g_sub [1] rfl (Ke _ (Option.some.inj h).symm)
      · have h := iteF c37 h
        refine g_iload_n C dX12_kin_40 rfl 1 rfl ?_
        refine g_istore_n (lv' := [(3, .int x2), (0, .ref (ad 0)), (2, .int x2)]) C dX12_kin_41 rfl (Nat.le_of_ble_eq_true rfl) rfl ?_
        refine g_iconst C dX12_kin_42 ic_0 ?_
        refine g_istore (lv' := [(4, .int (0 : Int32)), (3, .int x2), (0, .ref (ad 0)), (2, .int x2)]) C dX12_kin_43 (Nat.le_of_ble_eq_true rfl) rfl ?_
        exact g_sub [2, 3, 1, 0] rfl (J45 x2 x2 (0 : Int32) h)
    · show GcM_kin l D T ad Γ o xo xo g 88 [(2, .int x2)] []
      refine g_iload_n C dX12_kin_88 rfl 0 rfl ?_
      obtain rfl := Option.some.inj h
      exact g_iret C rfl rfl rfl dX12_kin_89
  have J19 : ∀ (x1 : Int32) (s1 : Int32) (g : St), fM_kin_b19 x1 s1 g = some o → GcM_kin l D T ad Γ o xo xo g 19 [(0, .ref (ad 0)), (1, .int x1)] [.int s1, .ref (ad 0)] := by
    intro x1 s1 g h
    refine g_iconst C dX12_kin_19 ic_1 ?_
    refine g_iconst C dX12_kin_20 ic_0 ?_
    obtain ⟨⟨r21, g21⟩, hr21, h⟩ := bnd h
    refine g_cVz (k := 0) (As := [.int s1, .int (1 : Int32), .int (0 : Int32)]) (rest := []) (ro := r21) (go := g21) (xo := xo) C (fun sz => cM_bad l D T ad xo g s1 (1 : Int32) (0 : Int32) _ hr21 sz) kM_bad ⟨Nat.le_of_ble_eq_true rfl, Nat.le_of_ble_eq_true rfl⟩ ⟨rfl, rfl⟩ ⟨Nat.zero_le _, Nat.zero_le _⟩ (rfl : vwCl[11]? = some (RX12, TX12, 48)) kM0 rfl rfl (Nat.le_of_ble_eq_true rfl) dX12_kin_21 (fun hz21 => ?_)
    refine g_if_eq C 29 dX12_kin_24 (by decide) (fun c24 => ?_) (fun c24 => ?_)
    · have h := iteT c24 h
      refine g_iconst C dX12_kin_29 ic_1 ?_
      refine g_iload_n C dX12_kin_30 rfl 1 rfl ?_
      refine g_ishl C dX12_kin_31 ?_
      refine g_istore_n (lv' := [(2, .int ((1 : Int32) <<< (x1 &&& 31))), (0, .ref (ad 0)), (1, .int x1)]) C dX12_kin_32 rfl (Nat.le_of_ble_eq_true rfl) rfl ?_
      refine g_iconst C dX12_kin_33 ic_0 ?_
      refine g_istore_n (lv' := [(3, .int (0 : Int32)), (2, .int ((1 : Int32) <<< (x1 &&& 31))), (0, .ref (ad 0)), (1, .int x1)]) C dX12_kin_34 rfl (Nat.le_of_ble_eq_true rfl) rfl ?_
      exact g_sub [2, 1, 0] rfl (J35 ((1 : Int32) <<< (x1 &&& 31)) (0 : Int32) g21 h)
    · have h := iteF c24 h
      refine g_iconst C dX12_kin_27 ic_0 ?_
      obtain rfl := Option.some.inj h
      exact g_iret C rfl rfl rfl dX12_kin_28
  refine g_aload_n C dX12_kin_0 rfl 0 rfl ?_
  refine g_iconst C dX12_kin_1 ic_0 ?_
  refine gM_put_thrown C dX12_kin_2 ?_
  refine g_aload_n C dX12_kin_5 rfl 0 rfl ?_
  refine g_aload_n C dX12_kin_6 rfl 0 rfl ?_
  refine g_iload_n C dX12_kin_7 rfl 1 rfl ?_
  refine g_cVz (k := 0) (As := [.int x1]) (rest := [.ref (ad 0)]) (ro := (fM_isPerson x1 (st g 0 0 (0 : Int32)))) (go := (st g 0 0 (0 : Int32))) (xo := xo) C (fun sz => cM_isPerson l D T ad xo (st g 0 0 (0 : Int32)) x1 _ rfl sz) kM_isPerson ⟨Nat.le_of_ble_eq_true rfl, Nat.le_of_ble_eq_true rfl⟩ ⟨rfl, rfl⟩ ⟨Nat.zero_le _, Nat.zero_le _⟩ (rfl : vwCl[11]? = some (RX12, TX12, 48)) kM0 rfl rfl (Nat.le_of_ble_eq_true rfl) dX12_kin_8 (fun hz8 => ?_)
  refine g_if_ne C 18 dX12_kin_11 (by decide) (fun c11 => ?_) (fun c11 => ?_)
  · have h := iteT c11 h
    refine g_iconst C dX12_kin_14 ic_1 ?_
    refine g_goto (tgt := 19) C dX12_kin_15 (by decide) ?_
    exact J19 x1 (1 : Int32) (st g 0 0 (0 : Int32)) h
  · have h := iteF c11 h
    refine g_iconst C dX12_kin_18 ic_0 ?_
    exact J19 x1 (0 : Int32) (st g 0 0 (0 : Int32)) h
def fM_willing_b64 (x1 : Int32) (x3 : Int32) (s0 : Int32) (s1 : Int32) (g : St) : Option ((Int32 × Int32 × St) ⊕ ((Int32 × St))) :=
  some (.inl ((s0 ||| s1), (x3 + (1 : Int32)), g))
def fM_willing_L33 (x1 : Int32) : (Int32 × Int32 × St) → Option ((Int32 × Int32 × St) ⊕ ((Int32 × St))) := fun ⟨x2, x3, g⟩ =>
  if (g 4 0) ≤ x3 then
    (some (.inr (x2, g)))
  else
    ((fM_isLent 16 x3 x1 g).bind fun ⟨r51, g51⟩ => (if r51 = 0 then
    (fM_willing_b64 x1 x3 x2 (0 : Int32) g51)
  else
    (fM_willing_b64 x1 x3 x2 ((1 : Int32) <<< (x3 &&& 31)) g51)))
def fM_willing_b33 (x1 : Int32) (x2 : Int32) (x3 : Int32) (g : St) : Option (Int32 × St) :=
  (lp (fM_willing_L33 x1) fuel (x2, x3, g)).bind (fun ⟨x2, g⟩ => some (x2, g))
def fM_willing_b19 (x1 : Int32) (s1 : Int32) (g : St) : Option (Int32 × St) :=
  (fM_bad s1 (1 : Int32) (0 : Int32) g).bind fun ⟨r21, g21⟩ => (if r21 = 0 then
    (fM_willing_b33 x1 (0 : Int32) (0 : Int32) g21)
  else
    (some ((0 : Int32), g21)))
def fM_willing (x1 : Int32) (g : St) : Option (Int32 × St) :=
  if (fM_isPerson x1 (st g 0 0 (0 : Int32))) = 0 then
    (fM_willing_b19 x1 (1 : Int32) (st g 0 0 (0 : Int32)))
  else
    (fM_willing_b19 x1 (0 : Int32) (st g 0 0 (0 : Int32)))
def rmM_willing : Room := { frames := 6, cells := 0, slots := 0, locals := 139 }
abbrev GcM_willing (l : Launch) (D : va_G) (T : cT) (ad : Nat → Nat) (Γ : Cxt) (o : Int32 × St) (xo : Sl) (x : Sl) (g : St) (pc : Nat) (lv : List (Nat × Value)) (stk : List Value) : Prop := Gj l shM D T ad 4 (rmM_willing) 0 0 Γ (MQ Γ.below (va_Qi (eqI o.1 o.2 xo) (wPost shM D T ad Γ.A) Γ.A) Γ.args Γ.s 0 0 Γ.A) x g pc lv stk
set_option maxRecDepth 100000 in
set_option maxHeartbeats 4000000 in
theorem cM_willing (l : Launch) (D : va_G) (T : cT) (ad : Nat → Nat) (xo : Sl) (g : St) (x1 : Int32) (o : Int32 × St) (h : fM_willing x1 g = some o) (sz : Nat) : Met l yX12_willing wM_willing (rmM_willing) (va_Pc [.ref (ad 0), .int x1] (wPre shM D T ad xo g sz)) (va_Qi (eqI o.1 o.2 xo) (wPost shM D T ad (aW shM T ad xo g sz)) (aW shM T ad xo g sz)) 0 0 (aW shM T ad xo g sz) := by
  refine g_start (Qc := fun A => va_Qi (eqI o.1 o.2 xo) (wPost shM D T ad A) A) (by decide +kernel) rfl rfl (Nat.le_of_ble_eq_true rfl) (lv := [(0, .ref (ad 0)), (1, .int x1)]) rfl (fun Γ C => ?_)
  show GcM_willing l D T ad Γ o xo xo g 0 [(0, .ref (ad 0)), (1, .int x1)] []
  have J33 : ∀ (x1 : Int32) (x2 : Int32) (x3 : Int32) (g : St), fM_willing_b33 x1 x2 x3 g = some o → GcM_willing l D T ad Γ o xo xo g 33 [(0, .ref (ad 0)), (1, .int x1), (2, .int x2), (3, .int x3)] [] := by
    intro x1 x2 x3 g h
    obtain ⟨⟨x2, g⟩, ht, h⟩ := bnd h
    refine lp_run (P := fun t : Int32 × Int32 × St => match t with | (x2, x3, g) => GcM_willing l D T ad Γ o xo xo g 33 [(0, .ref (ad 0)), (1, .int x1), (2, .int x2), (3, .int x3)] []) (E := fun t : Int32 × St => match t with | (x2, g) => GcM_willing l D T ad Γ o xo xo g 72 [(2, .int x2)] []) ?_ _ _ _ ht ?_
    · rintro ⟨x2, x3, g⟩ z h Kt Ke
      show GcM_willing l D T ad Γ o xo xo g 33 [(0, .ref (ad 0)), (1, .int x1), (2, .int x2), (3, .int x3)] []
      have J64 : ∀ (x3 : Int32) (s0 : Int32) (s1 : Int32) (g : St), fM_willing_b64 x1 x3 s0 s1 g = some z → GcM_willing l D T ad Γ o xo xo g 64 [(0, .ref (ad 0)), (1, .int x1), (3, .int x3)] [.int s1, .int s0] := by
        intro x3 s0 s1 g h
        refine g_ior C dX12_willing_64 ?_
        refine g_istore_n (lv' := [(2, .int (s0 ||| s1)), (0, .ref (ad 0)), (1, .int x1), (3, .int x3)]) C dX12_willing_65 rfl (Nat.le_of_ble_eq_true rfl) rfl ?_
        refine g_iinc (lv' := [(3, .int (x3 + (1 : Int32))), (2, .int (s0 ||| s1)), (0, .ref (ad 0)), (1, .int x1)]) C dX12_willing_66 3 rfl (ii_1 _) (Nat.le_of_ble_eq_true rfl) rfl ?_
        refine g_goto (tgt := 33) C dX12_willing_69 (by decide) ?_
        exact g_sub [2, 3, 1, 0] rfl (Kt _ (Option.some.inj h).symm)
      refine g_iload_n C dX12_willing_33 rfl 3 rfl ?_
      refine g_aload_n C dX12_willing_34 rfl 0 rfl ?_
      refine gM_get_told C dX12_willing_35 ?_
      refine g_iconst C dX12_willing_38 ic_0 ?_
      refine g_iald (n := 2) (v := g 4 0) C ln_4 (by decide) rfl dX12_willing_39 ?_
      refine g_icmp_ge C 72 dX12_willing_40 (by decide) (fun c40 => ?_) (fun c40 => ?_)
      · have h := iteT c40 h
        exact g_sub [2] rfl (Ke _ (Option.some.inj h).symm)
      · have h := iteF c40 h
        refine g_iload_n C dX12_willing_43 rfl 2 rfl ?_
        refine g_aload_n C dX12_willing_44 rfl 0 rfl ?_
        refine g_aload_n C dX12_willing_45 rfl 0 rfl ?_
        refine gM_get_now C dX12_willing_46 ?_
        refine g_iload_n C dX12_willing_49 rfl 3 rfl ?_
        refine g_iload_n C dX12_willing_50 rfl 1 rfl ?_
        obtain ⟨⟨r51, g51⟩, hr51, h⟩ := bnd h
        refine g_cVz (k := 0) (As := [.ref (ad 16), .int x3, .int x1]) (rest := [.int x2]) (ro := r51) (go := g51) (xo := xo) C (fun sz => cM_isLent l D T ad xo g 16 x3 x1 _ hr51 sz) kM_isLent ⟨Nat.le_of_ble_eq_true rfl, Nat.le_of_ble_eq_true rfl⟩ ⟨rfl, rfl⟩ ⟨Nat.zero_le _, Nat.zero_le _⟩ (rfl : vwCl[11]? = some (RX12, TX12, 48)) kM0 rfl rfl (Nat.le_of_ble_eq_true rfl) dX12_willing_51 (fun hz51 => ?_)
        refine g_if_eq C 63 dX12_willing_54 (by decide) (fun c54 => ?_) (fun c54 => ?_)
        · have h := iteT c54 h
          refine g_iconst C dX12_willing_63 ic_0 ?_
          exact g_sub [0, 1, 3] rfl (J64 x3 x2 (0 : Int32) g51 h)
        · have h := iteF c54 h
          refine g_iconst C dX12_willing_57 ic_1 ?_
          refine g_iload_n C dX12_willing_58 rfl 3 rfl ?_
          refine g_ishl C dX12_willing_59 ?_
          refine g_goto (tgt := 64) C dX12_willing_60 (by decide) ?_
          exact g_sub [0, 1, 3] rfl (J64 x3 x2 ((1 : Int32) <<< (x3 &&& 31)) g51 h)
    · show GcM_willing l D T ad Γ o xo xo g 72 [(2, .int x2)] []
      refine g_iload_n C dX12_willing_72 rfl 0 rfl ?_
      obtain rfl := Option.some.inj h
      exact g_iret C rfl rfl rfl dX12_willing_73
  have J19 : ∀ (x1 : Int32) (s1 : Int32) (g : St), fM_willing_b19 x1 s1 g = some o → GcM_willing l D T ad Γ o xo xo g 19 [(0, .ref (ad 0)), (1, .int x1)] [.int s1, .ref (ad 0)] := by
    intro x1 s1 g h
    refine g_iconst C dX12_willing_19 ic_1 ?_
    refine g_iconst C dX12_willing_20 ic_0 ?_
    obtain ⟨⟨r21, g21⟩, hr21, h⟩ := bnd h
    refine g_cVz (k := 0) (As := [.int s1, .int (1 : Int32), .int (0 : Int32)]) (rest := []) (ro := r21) (go := g21) (xo := xo) C (fun sz => cM_bad l D T ad xo g s1 (1 : Int32) (0 : Int32) _ hr21 sz) kM_bad ⟨Nat.le_of_ble_eq_true rfl, Nat.le_of_ble_eq_true rfl⟩ ⟨rfl, rfl⟩ ⟨Nat.zero_le _, Nat.zero_le _⟩ (rfl : vwCl[11]? = some (RX12, TX12, 48)) kM0 rfl rfl (Nat.le_of_ble_eq_true rfl) dX12_willing_21 (fun hz21 => ?_)
    refine g_if_eq C 29 dX12_willing_24 (by decide) (fun c24 => ?_) (fun c24 => ?_)
    · have h := iteT c24 h
      refine g_iconst C dX12_willing_29 ic_0 ?_
      refine g_istore_n (lv' := [(2, .int (0 : Int32)), (0, .ref (ad 0)), (1, .int x1)]) C dX12_willing_30 rfl (Nat.le_of_ble_eq_true rfl) rfl ?_
      refine g_iconst C dX12_willing_31 ic_0 ?_
      refine g_istore_n (lv' := [(3, .int (0 : Int32)), (2, .int (0 : Int32)), (0, .ref (ad 0)), (1, .int x1)]) C dX12_willing_32 rfl (Nat.le_of_ble_eq_true rfl) rfl ?_
      exact g_sub [2, 3, 1, 0] rfl (J33 x1 (0 : Int32) (0 : Int32) g21 h)
    · have h := iteF c24 h
      refine g_iconst C dX12_willing_27 ic_0 ?_
      obtain rfl := Option.some.inj h
      exact g_iret C rfl rfl rfl dX12_willing_28
  refine g_aload_n C dX12_willing_0 rfl 0 rfl ?_
  refine g_iconst C dX12_willing_1 ic_0 ?_
  refine gM_put_thrown C dX12_willing_2 ?_
  refine g_aload_n C dX12_willing_5 rfl 0 rfl ?_
  refine g_aload_n C dX12_willing_6 rfl 0 rfl ?_
  refine g_iload_n C dX12_willing_7 rfl 1 rfl ?_
  refine g_cVz (k := 0) (As := [.int x1]) (rest := [.ref (ad 0)]) (ro := (fM_isPerson x1 (st g 0 0 (0 : Int32)))) (go := (st g 0 0 (0 : Int32))) (xo := xo) C (fun sz => cM_isPerson l D T ad xo (st g 0 0 (0 : Int32)) x1 _ rfl sz) kM_isPerson ⟨Nat.le_of_ble_eq_true rfl, Nat.le_of_ble_eq_true rfl⟩ ⟨rfl, rfl⟩ ⟨Nat.zero_le _, Nat.zero_le _⟩ (rfl : vwCl[11]? = some (RX12, TX12, 48)) kM0 rfl rfl (Nat.le_of_ble_eq_true rfl) dX12_willing_8 (fun hz8 => ?_)
  refine g_if_ne C 18 dX12_willing_11 (by decide) (fun c11 => ?_) (fun c11 => ?_)
  · have h := iteT c11 h
    refine g_iconst C dX12_willing_14 ic_1 ?_
    refine g_goto (tgt := 19) C dX12_willing_15 (by decide) ?_
    exact J19 x1 (1 : Int32) (st g 0 0 (0 : Int32)) h
  · have h := iteF c11 h
    refine g_iconst C dX12_willing_18 ic_0 ?_
    exact J19 x1 (0 : Int32) (st g 0 0 (0 : Int32)) h
def fM_below_b86 (x3 : Int32) (x4 : Int32) (s0 : Int32) (s1 : Int32) (g : St) : Option ((Int32 × Int32) ⊕ (Int32)) :=
  some (.inl ((s0 ||| s1), (x4 + (1 : Int32))))
def fM_below_L51 (x3 : Int32) (g : St) : (Int32 × Int32) → Option ((Int32 × Int32) ⊕ (Int32)) := fun ⟨x2, x4⟩ =>
  if (g 4 0) ≤ x4 then
    (some (.inr x2))
  else
    (if (fM_has x3 x4) = 0 then
    (fM_below_b86 x3 x4 x2 (0 : Int32) g)
  else
    ((fM_stonesOf 16 x4 g).bind fun r79 => (fM_below_b86 x3 x4 x2 r79 g)))
def fM_below_b51 (x2 : Int32) (x3 : Int32) (x4 : Int32) (g : St) : Option ((Int32 × Int32) ⊕ (Int32)) :=
  (lp (fM_below_L51 x3 g) fuel (x2, x4)).bind (fun x2 => some (.inl (x2, x3)))
def fM_below_L41 (g : St) : (Int32 × Int32) → Option ((Int32 × Int32) ⊕ (Int32)) := fun ⟨x2, x3⟩ =>
  if x2 = x3 then
    (some (.inr x2))
  else
    (fM_below_b51 x2 x2 (0 : Int32) g)
def fM_below_b41 (x2 : Int32) (x3 : Int32) (g : St) : Option (Int32 × St) :=
  (lp (fM_below_L41 g) fuel (x2, x3)).bind (fun x2 => some (x2, g))
def fM_below_b19 (x1 : Int32) (s1 : Int32) (g : St) : Option (Int32 × St) :=
  (fM_bad s1 (1 : Int32) (0 : Int32) g).bind fun ⟨r21, g21⟩ => (if r21 = 0 then
    ((fM_stonesOf 16 x1 g21).bind fun r35 => (fM_below_b41 r35 (0 : Int32) g21))
  else
    (some ((0 : Int32), g21)))
def fM_below (x1 : Int32) (g : St) : Option (Int32 × St) :=
  if (fM_isPerson x1 (st g 0 0 (0 : Int32))) = 0 then
    (fM_below_b19 x1 (1 : Int32) (st g 0 0 (0 : Int32)))
  else
    (fM_below_b19 x1 (0 : Int32) (st g 0 0 (0 : Int32)))
def rmM_below : Room := { frames := 2, cells := 0, slots := 0, locals := 43 }
abbrev GcM_below (l : Launch) (D : va_G) (T : cT) (ad : Nat → Nat) (Γ : Cxt) (o : Int32 × St) (xo : Sl) (x : Sl) (g : St) (pc : Nat) (lv : List (Nat × Value)) (stk : List Value) : Prop := Gj l shM D T ad 5 (rmM_below) 0 0 Γ (MQ Γ.below (va_Qi (eqI o.1 o.2 xo) (wPost shM D T ad Γ.A) Γ.A) Γ.args Γ.s 0 0 Γ.A) x g pc lv stk
set_option maxRecDepth 100000 in
set_option maxHeartbeats 4000000 in
theorem cM_below (l : Launch) (D : va_G) (T : cT) (ad : Nat → Nat) (xo : Sl) (g : St) (x1 : Int32) (o : Int32 × St) (h : fM_below x1 g = some o) (sz : Nat) : Met l yX12_below wM_below (rmM_below) (va_Pc [.ref (ad 0), .int x1] (wPre shM D T ad xo g sz)) (va_Qi (eqI o.1 o.2 xo) (wPost shM D T ad (aW shM T ad xo g sz)) (aW shM T ad xo g sz)) 0 0 (aW shM T ad xo g sz) := by
  refine g_start (Qc := fun A => va_Qi (eqI o.1 o.2 xo) (wPost shM D T ad A) A) (by decide +kernel) rfl rfl (Nat.le_of_ble_eq_true rfl) (lv := [(0, .ref (ad 0)), (1, .int x1)]) rfl (fun Γ C => ?_)
  show GcM_below l D T ad Γ o xo xo g 0 [(0, .ref (ad 0)), (1, .int x1)] []
  have J41 : ∀ (x2 : Int32) (x3 : Int32) (g : St), fM_below_b41 x2 x3 g = some o → GcM_below l D T ad Γ o xo xo g 41 [(0, .ref (ad 0)), (2, .int x2), (3, .int x3)] [] := by
    intro x2 x3 g h
    obtain ⟨x2, ht, h⟩ := bnd h
    refine lp_run (P := fun t : Int32 × Int32 => match t with | (x2, x3) => GcM_below l D T ad Γ o xo xo g 41 [(0, .ref (ad 0)), (2, .int x2), (3, .int x3)] []) (E := fun x2 : Int32 => GcM_below l D T ad Γ o xo xo g 97 [(2, .int x2)] []) ?_ _ _ _ ht ?_
    · rintro ⟨x2, x3⟩ z h Kt Ke
      show GcM_below l D T ad Γ o xo xo g 41 [(0, .ref (ad 0)), (2, .int x2), (3, .int x3)] []
      have J51 : ∀ (x2 : Int32) (x3 : Int32) (x4 : Int32), fM_below_b51 x2 x3 x4 g = some z → GcM_below l D T ad Γ o xo xo g 51 [(0, .ref (ad 0)), (2, .int x2), (3, .int x3), (4, .int x4)] [] := by
        intro x2 x3 x4 h
        obtain ⟨x2, ht, h⟩ := bnd h
        refine lp_run (P := fun t : Int32 × Int32 => match t with | (x2, x4) => GcM_below l D T ad Γ o xo xo g 51 [(0, .ref (ad 0)), (2, .int x2), (3, .int x3), (4, .int x4)] []) (E := fun x2 : Int32 => GcM_below l D T ad Γ o xo xo g 94 [(0, .ref (ad 0)), (2, .int x2), (3, .int x3)] []) ?_ _ _ _ ht ?_
        · rintro ⟨x2, x4⟩ z h Kt Ke
          show GcM_below l D T ad Γ o xo xo g 51 [(0, .ref (ad 0)), (2, .int x2), (3, .int x3), (4, .int x4)] []
          have J86 : ∀ (x4 : Int32) (s0 : Int32) (s1 : Int32), fM_below_b86 x3 x4 s0 s1 g = some z → GcM_below l D T ad Γ o xo xo g 86 [(0, .ref (ad 0)), (3, .int x3), (4, .int x4)] [.int s1, .int s0] := by
            intro x4 s0 s1 h
            refine g_ior C dX12_below_86 ?_
            refine g_istore_n (lv' := [(2, .int (s0 ||| s1)), (0, .ref (ad 0)), (3, .int x3), (4, .int x4)]) C dX12_below_87 rfl (Nat.le_of_ble_eq_true rfl) rfl ?_
            refine g_iinc (lv' := [(4, .int (x4 + (1 : Int32))), (2, .int (s0 ||| s1)), (0, .ref (ad 0)), (3, .int x3)]) C dX12_below_88 3 rfl (ii_1 _) (Nat.le_of_ble_eq_true rfl) rfl ?_
            refine g_goto (tgt := 51) C dX12_below_91 (by decide) ?_
            exact g_sub [2, 1, 3, 0] rfl (Kt _ (Option.some.inj h).symm)
          refine g_iload C dX12_below_51 3 rfl ?_
          refine g_aload_n C dX12_below_53 rfl 0 rfl ?_
          refine gM_get_told C dX12_below_54 ?_
          refine g_iconst C dX12_below_57 ic_0 ?_
          refine g_iald (n := 2) (v := g 4 0) C ln_4 (by decide) rfl dX12_below_58 ?_
          refine g_icmp_ge C 94 dX12_below_59 (by decide) (fun c59 => ?_) (fun c59 => ?_)
          · have h := iteT c59 h
            exact g_sub [0, 1, 2] rfl (Ke _ (Option.some.inj h).symm)
          · have h := iteF c59 h
            refine g_iload_n C dX12_below_62 rfl 1 rfl ?_
            refine g_iload_n C dX12_below_63 rfl 2 rfl ?_
            refine g_iload C dX12_below_64 3 rfl ?_
            refine g_cSz (As := [.int x3, .int x4]) (rest := [.int x2]) (ro := (fM_has x3 x4)) (go := g) (xo := xo) C (fun sz => cM_has l D T ad xo g x3 x4 _ rfl sz) kM_has ⟨Nat.le_of_ble_eq_true rfl, Nat.le_of_ble_eq_true rfl⟩ ⟨rfl, rfl⟩ ⟨Nat.zero_le _, Nat.zero_le _⟩ rfl rfl (Nat.le_of_ble_eq_true rfl) dX12_below_66 (fun hz66 => ?_)
            refine g_if_eq C 85 dX12_below_69 (by decide) (fun c69 => ?_) (fun c69 => ?_)
            · have h := iteT c69 h
              refine g_iconst C dX12_below_85 ic_0 ?_
              exact g_sub [0, 2, 3] rfl (J86 x4 x2 (0 : Int32) h)
            · have h := iteF c69 h
              refine g_aload_n C dX12_below_72 rfl 0 rfl ?_
              refine g_aload_n C dX12_below_73 rfl 0 rfl ?_
              refine gM_get_now C dX12_below_74 ?_
              refine g_iload C dX12_below_77 3 rfl ?_
              obtain ⟨r79, hr79, h⟩ := bnd h
              refine g_cVi (k := 0) (As := [.ref (ad 16), .int x4]) (rest := [.int x2]) (ro := r79) (go := g) (xo := xo) C (fun sz => cM_stonesOf l D T ad xo g 16 x4 _ hr79 sz) kM_stonesOf ⟨Nat.le_of_ble_eq_true rfl, Nat.le_of_ble_eq_true rfl⟩ ⟨rfl, rfl⟩ ⟨Nat.zero_le _, Nat.zero_le _⟩ (rfl : vwCl[11]? = some (RX12, TX12, 48)) kM0 rfl rfl (Nat.le_of_ble_eq_true rfl) dX12_below_79 ?_
              refine g_goto (tgt := 86) C dX12_below_82 (by decide) ?_
              exact g_sub [0, 2, 3] rfl (J86 x4 x2 r79 h)
        · show GcM_below l D T ad Γ o xo xo g 94 [(0, .ref (ad 0)), (2, .int x2), (3, .int x3)] []
          refine g_goto (tgt := 41) C dX12_below_94 (by decide) ?_
          exact g_sub [0, 1, 2] rfl (Kt _ (Option.some.inj h).symm)
      refine g_iload_n C dX12_below_41 rfl 1 rfl ?_
      refine g_iload_n C dX12_below_42 rfl 2 rfl ?_
      refine g_icmp_eq C 97 dX12_below_43 (by decide) (fun c43 => ?_) (fun c43 => ?_)
      · have h := iteT c43 h
        exact g_sub [1] rfl (Ke _ (Option.some.inj h).symm)
      · have h := iteF c43 h
        refine g_iload_n C dX12_below_46 rfl 1 rfl ?_
        refine g_istore_n (lv' := [(3, .int x2), (0, .ref (ad 0)), (2, .int x2)]) C dX12_below_47 rfl (Nat.le_of_ble_eq_true rfl) rfl ?_
        refine g_iconst C dX12_below_48 ic_0 ?_
        refine g_istore (lv' := [(4, .int (0 : Int32)), (3, .int x2), (0, .ref (ad 0)), (2, .int x2)]) C dX12_below_49 (Nat.le_of_ble_eq_true rfl) rfl ?_
        exact g_sub [2, 3, 1, 0] rfl (J51 x2 x2 (0 : Int32) h)
    · show GcM_below l D T ad Γ o xo xo g 97 [(2, .int x2)] []
      refine g_iload_n C dX12_below_97 rfl 0 rfl ?_
      obtain rfl := Option.some.inj h
      exact g_iret C rfl rfl rfl dX12_below_98
  have J19 : ∀ (x1 : Int32) (s1 : Int32) (g : St), fM_below_b19 x1 s1 g = some o → GcM_below l D T ad Γ o xo xo g 19 [(0, .ref (ad 0)), (1, .int x1)] [.int s1, .ref (ad 0)] := by
    intro x1 s1 g h
    refine g_iconst C dX12_below_19 ic_1 ?_
    refine g_iconst C dX12_below_20 ic_0 ?_
    obtain ⟨⟨r21, g21⟩, hr21, h⟩ := bnd h
    refine g_cVz (k := 0) (As := [.int s1, .int (1 : Int32), .int (0 : Int32)]) (rest := []) (ro := r21) (go := g21) (xo := xo) C (fun sz => cM_bad l D T ad xo g s1 (1 : Int32) (0 : Int32) _ hr21 sz) kM_bad ⟨Nat.le_of_ble_eq_true rfl, Nat.le_of_ble_eq_true rfl⟩ ⟨rfl, rfl⟩ ⟨Nat.zero_le _, Nat.zero_le _⟩ (rfl : vwCl[11]? = some (RX12, TX12, 48)) kM0 rfl rfl (Nat.le_of_ble_eq_true rfl) dX12_below_21 (fun hz21 => ?_)
    refine g_if_eq C 29 dX12_below_24 (by decide) (fun c24 => ?_) (fun c24 => ?_)
    · have h := iteT c24 h
      refine g_aload_n C dX12_below_29 rfl 0 rfl ?_
      refine g_aload_n C dX12_below_30 rfl 0 rfl ?_
      refine gM_get_now C dX12_below_31 ?_
      refine g_iload_n C dX12_below_34 rfl 1 rfl ?_
      obtain ⟨r35, hr35, h⟩ := bnd h
      refine g_cVi (k := 0) (As := [.ref (ad 16), .int x1]) (rest := []) (ro := r35) (go := g21) (xo := xo) C (fun sz => cM_stonesOf l D T ad xo g21 16 x1 _ hr35 sz) kM_stonesOf ⟨Nat.le_of_ble_eq_true rfl, Nat.le_of_ble_eq_true rfl⟩ ⟨rfl, rfl⟩ ⟨Nat.zero_le _, Nat.zero_le _⟩ (rfl : vwCl[11]? = some (RX12, TX12, 48)) kM0 rfl rfl (Nat.le_of_ble_eq_true rfl) dX12_below_35 ?_
      refine g_istore_n (lv' := [(2, .int r35), (0, .ref (ad 0)), (1, .int x1)]) C dX12_below_38 rfl (Nat.le_of_ble_eq_true rfl) rfl ?_
      refine g_iconst C dX12_below_39 ic_0 ?_
      refine g_istore_n (lv' := [(3, .int (0 : Int32)), (2, .int r35), (0, .ref (ad 0)), (1, .int x1)]) C dX12_below_40 rfl (Nat.le_of_ble_eq_true rfl) rfl ?_
      exact g_sub [2, 1, 0] rfl (J41 r35 (0 : Int32) g21 h)
    · have h := iteF c24 h
      refine g_iconst C dX12_below_27 ic_0 ?_
      obtain rfl := Option.some.inj h
      exact g_iret C rfl rfl rfl dX12_below_28
  refine g_aload_n C dX12_below_0 rfl 0 rfl ?_
  refine g_iconst C dX12_below_1 ic_0 ?_
  refine gM_put_thrown C dX12_below_2 ?_
  refine g_aload_n C dX12_below_5 rfl 0 rfl ?_
  refine g_aload_n C dX12_below_6 rfl 0 rfl ?_
  refine g_iload_n C dX12_below_7 rfl 1 rfl ?_
  refine g_cVz (k := 0) (As := [.int x1]) (rest := [.ref (ad 0)]) (ro := (fM_isPerson x1 (st g 0 0 (0 : Int32)))) (go := (st g 0 0 (0 : Int32))) (xo := xo) C (fun sz => cM_isPerson l D T ad xo (st g 0 0 (0 : Int32)) x1 _ rfl sz) kM_isPerson ⟨Nat.le_of_ble_eq_true rfl, Nat.le_of_ble_eq_true rfl⟩ ⟨rfl, rfl⟩ ⟨Nat.zero_le _, Nat.zero_le _⟩ (rfl : vwCl[11]? = some (RX12, TX12, 48)) kM0 rfl rfl (Nat.le_of_ble_eq_true rfl) dX12_below_8 (fun hz8 => ?_)
  refine g_if_ne C 18 dX12_below_11 (by decide) (fun c11 => ?_) (fun c11 => ?_)
  · have h := iteT c11 h
    refine g_iconst C dX12_below_14 ic_1 ?_
    refine g_goto (tgt := 19) C dX12_below_15 (by decide) ?_
    exact J19 x1 (1 : Int32) (st g 0 0 (0 : Int32)) h
  · have h := iteF c11 h
    refine g_iconst C dX12_below_18 ic_0 ?_
    exact J19 x1 (0 : Int32) (st g 0 0 (0 : Int32)) h
def fM_debtless_b38 (x2 : Int32) (s0 : Int32) (s1 : Int32) (g : St) : Option ((Int32 × Int32) ⊕ (Int32)) :=
  some (.inl ((s0 ||| s1), (x2 + (1 : Int32))))
def fM_debtless_L9 (g : St) : (Int32 × Int32) → Option ((Int32 × Int32) ⊕ (Int32)) := fun ⟨x1, x2⟩ =>
  if (g 4 0) ≤ x2 then
    (some (.inr x1))
  else
    (if ¬ (((0 : Int32) + x2) < 0 ∨ 26 ≤ ((0 : Int32) + x2).toNatClampNeg) then (if (g 16 (((0 : Int32) + x2).toNatClampNeg)) = 0 then
    (fM_debtless_b38 x2 x1 ((1 : Int32) <<< (x2 &&& 31)) g)
  else
    (fM_debtless_b38 x2 x1 (0 : Int32) g)) else none)
def fM_debtless_b9 (x1 : Int32) (x2 : Int32) (g : St) : Option (Int32 × St) :=
  (lp (fM_debtless_L9 g) fuel (x1, x2)).bind (fun x1 => some (x1, g))
def fM_debtless (g : St) : Option (Int32 × St) :=
  fM_debtless_b9 (0 : Int32) (0 : Int32) (st g 0 0 (0 : Int32))
def rmM_debtless : Room := { frames := 0, cells := 0, slots := 0, locals := 0 }
abbrev GcM_debtless (l : Launch) (D : va_G) (T : cT) (ad : Nat → Nat) (Γ : Cxt) (o : Int32 × St) (xo : Sl) (x : Sl) (g : St) (pc : Nat) (lv : List (Nat × Value)) (stk : List Value) : Prop := Gj l shM D T ad 3 (rmM_debtless) 0 0 Γ (MQ Γ.below (va_Qi (eqI o.1 o.2 xo) (wPost shM D T ad Γ.A) Γ.A) Γ.args Γ.s 0 0 Γ.A) x g pc lv stk
set_option maxRecDepth 100000 in
set_option maxHeartbeats 4000000 in
theorem cM_debtless (l : Launch) (D : va_G) (T : cT) (ad : Nat → Nat) (xo : Sl) (g : St) (o : Int32 × St) (h : fM_debtless g = some o) (sz : Nat) : Met l yX12_debtless wM_debtless (rmM_debtless) (va_Pc [.ref (ad 0)] (wPre shM D T ad xo g sz)) (va_Qi (eqI o.1 o.2 xo) (wPost shM D T ad (aW shM T ad xo g sz)) (aW shM T ad xo g sz)) 0 0 (aW shM T ad xo g sz) := by
  refine g_start (Qc := fun A => va_Qi (eqI o.1 o.2 xo) (wPost shM D T ad A) A) (by decide +kernel) rfl rfl (Nat.le_of_ble_eq_true rfl) (lv := [(0, .ref (ad 0))]) rfl (fun Γ C => ?_)
  show GcM_debtless l D T ad Γ o xo xo g 0 [(0, .ref (ad 0))] []
  have J9 : ∀ (x1 : Int32) (x2 : Int32) (g : St), fM_debtless_b9 x1 x2 g = some o → GcM_debtless l D T ad Γ o xo xo g 9 [(0, .ref (ad 0)), (1, .int x1), (2, .int x2)] [] := by
    intro x1 x2 g h
    obtain ⟨x1, ht, h⟩ := bnd h
    refine lp_run (P := fun t : Int32 × Int32 => match t with | (x1, x2) => GcM_debtless l D T ad Γ o xo xo g 9 [(0, .ref (ad 0)), (1, .int x1), (2, .int x2)] []) (E := fun x1 : Int32 => GcM_debtless l D T ad Γ o xo xo g 46 [(1, .int x1)] []) ?_ _ _ _ ht ?_
    · rintro ⟨x1, x2⟩ z h Kt Ke
      show GcM_debtless l D T ad Γ o xo xo g 9 [(0, .ref (ad 0)), (1, .int x1), (2, .int x2)] []
      have J38 : ∀ (x2 : Int32) (s0 : Int32) (s1 : Int32), fM_debtless_b38 x2 s0 s1 g = some z → GcM_debtless l D T ad Γ o xo xo g 38 [(0, .ref (ad 0)), (2, .int x2)] [.int s1, .int s0] := by
        intro x2 s0 s1 h
        refine g_ior C dX12_debtless_38 ?_
        refine g_istore_n (lv' := [(1, .int (s0 ||| s1)), (0, .ref (ad 0)), (2, .int x2)]) C dX12_debtless_39 rfl (Nat.le_of_ble_eq_true rfl) rfl ?_
        refine g_iinc (lv' := [(2, .int (x2 + (1 : Int32))), (1, .int (s0 ||| s1)), (0, .ref (ad 0))]) C dX12_debtless_40 2 rfl (ii_1 _) (Nat.le_of_ble_eq_true rfl) rfl ?_
        refine g_goto (tgt := 9) C dX12_debtless_43 (by decide) ?_
        exact g_sub [2, 1, 0] rfl (Kt _ (Option.some.inj h).symm)
      refine g_iload_n C dX12_debtless_9 rfl 2 rfl ?_
      refine g_aload_n C dX12_debtless_10 rfl 0 rfl ?_
      refine gM_get_told C dX12_debtless_11 ?_
      refine g_iconst C dX12_debtless_14 ic_0 ?_
      refine g_iald (n := 2) (v := g 4 0) C ln_4 (by decide) rfl dX12_debtless_15 ?_
      refine g_icmp_ge C 46 dX12_debtless_16 (by decide) (fun c16 => ?_) (fun c16 => ?_)
      · have h := iteT c16 h
        exact g_sub [1] rfl (Ke _ (Option.some.inj h).symm)
      · have h := iteF c16 h
        refine g_iload_n C dX12_debtless_19 rfl 1 rfl ?_
        refine g_aload_n C dX12_debtless_20 rfl 0 rfl ?_
        refine gM_get_now C dX12_debtless_21 ?_
        refine g_iconst C dX12_debtless_24 ic_0 ?_
        refine g_iload_n C dX12_debtless_25 rfl 2 rfl ?_
        refine g_iadd C dX12_debtless_26 ?_
        obtain ⟨hi27, h⟩ := grd h
        refine g_iald (n := 26) (v := g 16 (((0 : Int32) + x2).toNatClampNeg)) C ln_16 hi27 rfl dX12_debtless_27 ?_
        refine g_if_ne C 37 dX12_debtless_28 (by decide) (fun c28 => ?_) (fun c28 => ?_)
        · have h := iteT c28 h
          refine g_iconst C dX12_debtless_31 ic_1 ?_
          refine g_iload_n C dX12_debtless_32 rfl 2 rfl ?_
          refine g_ishl C dX12_debtless_33 ?_
          refine g_goto (tgt := 38) C dX12_debtless_34 (by decide) ?_
          exact g_sub [0, 2] rfl (J38 x2 x1 ((1 : Int32) <<< (x2 &&& 31)) h)
        · have h := iteF c28 h
          refine g_iconst C dX12_debtless_37 ic_0 ?_
          exact g_sub [0, 2] rfl (J38 x2 x1 (0 : Int32) h)
    · show GcM_debtless l D T ad Γ o xo xo g 46 [(1, .int x1)] []
      refine g_iload_n C dX12_debtless_46 rfl 0 rfl ?_
      obtain rfl := Option.some.inj h
      exact g_iret C rfl rfl rfl dX12_debtless_47
  refine g_aload_n C dX12_debtless_0 rfl 0 rfl ?_
  refine g_iconst C dX12_debtless_1 ic_0 ?_
  refine gM_put_thrown C dX12_debtless_2 ?_
  refine g_iconst C dX12_debtless_5 ic_0 ?_
  refine g_istore_n (lv' := [(1, .int (0 : Int32)), (0, .ref (ad 0))]) C dX12_debtless_6 rfl (Nat.le_of_ble_eq_true rfl) rfl ?_
  refine g_iconst C dX12_debtless_7 ic_0 ?_
  refine g_istore_n (lv' := [(2, .int (0 : Int32)), (1, .int (0 : Int32)), (0, .ref (ad 0))]) C dX12_debtless_8 rfl (Nat.le_of_ble_eq_true rfl) rfl ?_
  exact g_sub [2, 1, 0] rfl (J9 (0 : Int32) (0 : Int32) (st g 0 0 (0 : Int32)) h)
