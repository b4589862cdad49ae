def fM_book_b166 (x2 : Int32) (x3 : Int32) (g : St) : Option ((Int32 × Int32 × St) ⊕ ((Int32 × St))) :=
  (fM_blanks g).bind fun g167 => (some (.inl (x2, x3, g167)))
def fM_book_b114 (x2 : Int32) (x3 : Int32) (x5 : Int32) (g : St) : Option ((Int32 × Int32 × St) ⊕ ((Int32 × St))) :=
  (fM_number (0 : Int32) (8 : Int32) g).bind fun ⟨r118, g118⟩ => ((fM_sign (59 : Int32) g118).bind fun g126 => (if (g126 0 5) = 0 then
    (if ¬ (x2 < 0 ∨ 8 ≤ x2.toNatClampNeg) then (fM_book_b166 (x2 + (1 : Int32)) (x3 ||| ((1 : Int32) <<< (x5 &&& 31))) (st (st g126 (370 + x2.toNatClampNeg) 0 x5) (370 + x2.toNatClampNeg) 1 r118)) else none)
  else
    (fM_book_b166 x2 x3 g126)))
def fM_book_L48 : (Int32 × Int32 × St) → Option ((Int32 × Int32 × St) ⊕ ((Int32 × St))) := fun ⟨x2, x3, g⟩ =>
  if (g 0 5) = 0 then
    (if (g 0 2) ≤ (g 0 4) then
    (some (.inr (x2, g)))
  else
    ((fM_blanks g).bind fun g67 => ((fM_number (0 : Int32) ((g67 4 0) - (1 : Int32)) g67).bind fun ⟨r86, g86⟩ => (if (g86 0 5) = 0 then
    (if (fM_has x3 r86) = 0 then
    (fM_book_b114 x2 x3 r86 g86)
  else
    (lt1 (fM_wrong (2 : Int32) (g67 0 4) g86) fun g111 => (fM_book_b114 x2 x3 r86 g111)))
  else
    (fM_book_b114 x2 x3 r86 g86)))))
  else
    (some (.inr (x2, g)))
def fM_book_b48 (x2 : Int32) (x3 : Int32) (g : St) : Option (Int32 × St) :=
  (lp (fM_book_L48) fuel (x2, x3, g)).bind (fun ⟨x2, g⟩ => if (g 0 5) = 0 then
    ((fM_lays 12 11 x2 (st (st g 0 3 (-1 : Int32)) 0 31 x2)).bind fun g204 => (some (x2, g204)))
  else
    (lt1 (fM_ends g) fun ⟨r181, g181⟩ => (some (r181, g181))))
def fM_book_b29 (x1 : Int32) (s1 : Int32) (g : St) : Option (Int32 × St) :=
  (fM_bad s1 (1 : Int32) (1 : Int32) g).bind fun ⟨r31, g31⟩ => (if r31 = 0 then
    ((fM_starts x1 g31).bind fun g41 => (fM_book_b48 (0 : Int32) (0 : Int32) g41))
  else
    (some ((0 : Int32), g31)))
def fM_book_b24 (x1 : Int32) (g : St) : Option (Int32 × St) :=
  fM_book_b29 x1 (1 : Int32) g
def fM_book (x1 : Int32) (g : St) : Option (Int32 × St) :=
  if (fM_in x1 (0 : Int32) (g 0 1)) = 0 then
    (fM_book_b24 x1 (st g 0 0 (0 : Int32)))
  else
    (if x1 ≤ (60 : Int32) then
    (fM_book_b29 x1 (0 : Int32) (st g 0 0 (0 : Int32)))
  else
    (fM_book_b24 x1 (st g 0 0 (0 : Int32))))
def rmM_book : Room := { frames := 3, cells := 0, slots := 0, locals := 65 }
abbrev GcM_book (l : Launch) (D : va_G) (T : cT) (ad : Nat → Nat) (Γ : Cxt) (o : Int32 × St) (xo : Sl) (x : Sl) (g : St) (pc : Nat) (lv : List (Nat × Value)) (stk : List Value) : Prop := Gj l shM D T ad 7 (rmM_book) 0 0 Γ (MQ Γ.below (va_Qi (eqI o.1 o.2 xo) (wPost shM D T ad Γ.A) Γ.A) Γ.args Γ.s 0 0 Γ.A) x g pc lv stk
set_option maxRecDepth 100000 in
set_option maxHeartbeats 4000000 in
theorem cM_book (l : Launch) (D : va_G) (T : cT) (ad : Nat → Nat) (xo : Sl) (g : St) (x1 : Int32) (o : Int32 × St) (h : fM_book x1 g = some o) (sz : Nat) : Met l yX12_book wM_book (rmM_book) (va_Pc [.ref (ad 0), .int x1] (wPre shM D T ad xo g sz)) (va_Qi (eqI o.1 o.2 xo) (wPost shM D T ad (aW shM T ad xo g sz)) (aW shM T ad xo g sz)) 0 0 (aW shM T ad xo g sz) := by
  refine g_start (Qc := fun A => va_Qi (eqI o.1 o.2 xo) (wPost shM D T ad A) A) (by decide +kernel) rfl rfl (Nat.le_of_ble_eq_true rfl) (lv := [(0, .ref (ad 0)), (1, .int x1)]) rfl (fun Γ C => ?_)
  show GcM_book l D T ad Γ o xo xo g 0 [(0, .ref (ad 0)), (1, .int x1)] []
  have J48 : ∀ (x2 : Int32) (x3 : Int32) (g : St), fM_book_b48 x2 x3 g = some o → GcM_book l D T ad Γ o xo xo g 48 [(0, .ref (ad 0)), (2, .int x2), (3, .int x3)] [] := by
    intro x2 x3 g h
    obtain ⟨⟨x2, g⟩, ht, h⟩ := bnd h
    refine lp_run (P := fun t : Int32 × Int32 × St => match t with | (x2, x3, g) => GcM_book l D T ad Γ o xo xo g 48 [(0, .ref (ad 0)), (2, .int x2), (3, .int x3)] []) (E := fun t : Int32 × St => match t with | (x2, g) => GcM_book l D T ad Γ o xo xo g 173 [(0, .ref (ad 0)), (2, .int x2)] []) ?_ _ _ _ ht ?_
    · rintro ⟨x2, x3, g⟩ z h Kt Ke
      show GcM_book l D T ad Γ o xo xo g 48 [(0, .ref (ad 0)), (2, .int x2), (3, .int x3)] []
      have J166 : ∀ (x2 : Int32) (x3 : Int32) (g : St), fM_book_b166 x2 x3 g = some z → GcM_book l D T ad Γ o xo xo g 166 [(0, .ref (ad 0)), (2, .int x2), (3, .int x3)] [] := by
        intro x2 x3 g h
        refine g_aload_n C dX12_book_166 rfl 0 rfl ?_
        obtain ⟨g167, hr167, h⟩ := bnd h
        refine g_cVv (k := 0) (As := []) (rest := []) (go := g167) (xo := xo) C (fun sz => cM_blanks l D T ad xo g _ hr167 sz) kM_blanks ⟨Nat.le_of_ble_eq_true rfl, Nat.le_of_ble_eq_true rfl⟩ ⟨rfl, rfl⟩ ⟨Nat.zero_le _, Nat.zero_le _⟩ (rfl : vwCl[11]? = some (RX12, TX12, 48)) kM0 rfl rfl (Nat.le_of_ble_eq_true rfl) dX12_book_167 ?_
        refine g_goto (tgt := 48) C dX12_book_170 (by decide) ?_
        exact g_sub [0, 1, 2] rfl (Kt _ (Option.some.inj h).symm)
      have J114 : ∀ (x2 : Int32) (x3 : Int32) (x5 : Int32) (g : St), fM_book_b114 x2 x3 x5 g = some z → GcM_book l D T ad Γ o xo xo g 114 [(0, .ref (ad 0)), (2, .int x2), (3, .int x3), (5, .int x5)] [] := by
        intro x2 x3 x5 g h
        refine g_aload_n C dX12_book_114 rfl 0 rfl ?_
        refine g_iconst C dX12_book_115 ic_0 ?_
        refine g_bipush C dX12_book_116 bp_8 ?_
        obtain ⟨⟨r118, g118⟩, hr118, h⟩ := bnd h
        refine g_cVi (k := 0) (As := [.int (0 : Int32), .int (8 : Int32)]) (rest := []) (ro := r118) (go := g118) (xo := xo) C (fun sz => cM_number l D T ad xo g (0 : Int32) (8 : Int32) _ hr118 sz) kM_number ⟨Nat.le_of_ble_eq_true rfl, Nat.le_of_ble_eq_true rfl⟩ ⟨rfl, rfl⟩ ⟨Nat.zero_le _, Nat.zero_le _⟩ (rfl : vwCl[11]? = some (RX12, TX12, 48)) kM0 rfl rfl (Nat.le_of_ble_eq_true rfl) dX12_book_118 ?_
        refine g_istore (lv' := [(6, .int r118), (0, .ref (ad 0)), (2, .int x2), (3, .int x3), (5, .int x5)]) C dX12_book_121 (Nat.le_of_ble_eq_true rfl) rfl ?_
        refine g_aload_n C dX12_book_123 rfl 1 rfl ?_
        refine g_bipush C dX12_book_124 bp_59 ?_
        obtain ⟨g126, hr126, h⟩ := bnd h
        refine g_cVv (k := 0) (As := [.int (59 : Int32)]) (rest := []) (go := g126) (xo := xo) C (fun sz => cM_sign l D T ad xo g118 (59 : Int32) _ hr126 sz) kM_sign ⟨Nat.le_of_ble_eq_true rfl, Nat.le_of_ble_eq_true rfl⟩ ⟨rfl, rfl⟩ ⟨Nat.zero_le _, Nat.zero_le _⟩ (rfl : vwCl[11]? = some (RX12, TX12, 48)) kM0 rfl rfl (Nat.le_of_ble_eq_true rfl) dX12_book_126 ?_
        refine g_aload_n C dX12_book_129 rfl 1 rfl ?_
        refine gM_get_fault (v := g126 0 5) C rfl dX12_book_130 ?_
        refine g_if_ne C 166 dX12_book_133 (by decide) (fun c133 => ?_) (fun c133 => ?_)
        · have h := iteT c133 h
          refine g_iload_n C dX12_book_136 rfl 3 rfl ?_
          refine g_iconst C dX12_book_137 ic_1 ?_
          refine g_iload C dX12_book_138 4 rfl ?_
          refine g_ishl C dX12_book_140 ?_
          refine g_ior C dX12_book_141 ?_
          refine g_istore_n (lv' := [(3, .int (x3 ||| ((1 : Int32) <<< (x5 &&& 31)))), (6, .int r118), (0, .ref (ad 0)), (2, .int x2), (5, .int x5)]) C dX12_book_142 rfl (Nat.le_of_ble_eq_true rfl) rfl ?_
          refine g_aload_n C dX12_book_143 rfl 2 rfl ?_
          refine gM_get_readLine C dX12_book_144 ?_
          refine g_iload_n C dX12_book_147 rfl 3 rfl ?_
          obtain ⟨hi148, h⟩ := grd h
          refine g_aald (n := 8) (q := (370 + x2.toNatClampNeg)) C lg_12 hi148 rfl dX12_book_148 ?_
          refine g_iconst C dX12_book_149 ic_0 ?_
          refine g_iload C dX12_book_150 4 rfl ?_
          refine g_iast (n := 2) (q := 0) C (lenM_readLine hi148) (by decide) cl_0 dX12_book_152 ?_
          refine g_aload_n C dX12_book_153 rfl 2 rfl ?_
          refine gM_get_readLine C dX12_book_154 ?_
          refine g_iload_n C dX12_book_157 rfl 3 rfl ?_
          refine g_aald (n := 8) (q := (370 + x2.toNatClampNeg)) C lg_12 hi148 rfl dX12_book_158 ?_
          refine g_iconst C dX12_book_159 ic_1 ?_
          refine g_iload C dX12_book_160 1 rfl ?_
          refine g_iast (n := 2) (q := 1) C (lenM_readLine hi148) (by decide) cl_1 dX12_book_162 ?_
          refine g_iinc (lv' := [(2, .int (x2 + (1 : Int32))), (3, .int (x3 ||| ((1 : Int32) <<< (x5 &&& 31)))), (6, .int r118), (0, .ref (ad 0)), (5, .int x5)]) C dX12_book_163 3 rfl (ii_1 _) (Nat.le_of_ble_eq_true rfl) rfl ?_
          exact g_sub [3, 0, 1] rfl (J166 (x2 + (1 : Int32)) (x3 ||| ((1 : Int32) <<< (x5 &&& 31))) (st (st g126 (370 + x2.toNatClampNeg) 0 x5) (370 + x2.toNatClampNeg) 1 r118) h)
        · have h := iteF c133 h
          exact g_sub [1, 2, 3] rfl (J166 x2 x3 g126 h)
      refine g_aload_n C dX12_book_48 rfl 0 rfl ?_
      refine gM_get_fault (v := g 0 5) C rfl dX12_book_49 ?_
      refine g_if_ne C 173 dX12_book_52 (by decide) (fun c52 => ?_) (fun c52 => ?_)
      · have h := iteT c52 h
        refine g_aload_n C dX12_book_55 rfl 0 rfl ?_
        refine gM_get_at (v := g 0 4) C rfl dX12_book_56 ?_
        refine g_aload_n C dX12_book_59 rfl 0 rfl ?_
        refine gM_get_size (v := g 0 2) C rfl dX12_book_60 ?_
        refine g_icmp_ge C 173 dX12_book_63 (by decide) (fun c63 => ?_) (fun c63 => ?_)
        · have h := iteT c63 h
          exact g_sub [0, 1] rfl (Ke _ (Option.some.inj h).symm)
        · have h := iteF c63 h
          refine g_aload_n C dX12_book_66 rfl 0 rfl ?_
          obtain ⟨g67, hr67, h⟩ := bnd h
          refine g_cVv (k := 0) (As := []) (rest := []) (go := g67) (xo := xo) C (fun sz => cM_blanks l D T ad xo g _ hr67 sz) kM_blanks ⟨Nat.le_of_ble_eq_true rfl, Nat.le_of_ble_eq_true rfl⟩ ⟨rfl, rfl⟩ ⟨Nat.zero_le _, Nat.zero_le _⟩ (rfl : vwCl[11]? = some (RX12, TX12, 48)) kM0 rfl rfl (Nat.le_of_ble_eq_true rfl) dX12_book_67 ?_
          refine g_aload_n C dX12_book_70 rfl 0 rfl ?_
          refine gM_get_at (v := g67 0 4) C rfl dX12_book_71 ?_
          refine g_istore (lv' := [(4, .int (g67 0 4)), (0, .ref (ad 0)), (2, .int x2), (3, .int x3)]) C dX12_book_74 (Nat.le_of_ble_eq_true rfl) rfl ?_
          refine g_aload_n C dX12_book_76 rfl 1 rfl ?_
          refine g_iconst C dX12_book_77 ic_0 ?_
          refine g_aload_n C dX12_book_78 rfl 1 rfl ?_
          refine gM_get_told C dX12_book_79 ?_
          refine g_iconst C dX12_book_82 ic_0 ?_
          refine g_iald (n := 2) (v := g67 4 0) C ln_4 (by decide) rfl dX12_book_83 ?_
          refine g_iconst C dX12_book_84 ic_1 ?_
          refine g_isub C dX12_book_85 ?_
          obtain ⟨⟨r86, g86⟩, hr86, h⟩ := bnd h
          refine g_cVi (k := 0) (As := [.int (0 : Int32), .int ((g67 4 0) - (1 : Int32))]) (rest := []) (ro := r86) (go := g86) (xo := xo) C (fun sz => cM_number l D T ad xo g67 (0 : Int32) ((g67 4 0) - (1 : Int32)) _ hr86 sz) kM_number ⟨Nat.le_of_ble_eq_true rfl, Nat.le_of_ble_eq_true rfl⟩ ⟨rfl, rfl⟩ ⟨Nat.zero_le _, Nat.zero_le _⟩ (rfl : vwCl[11]? = some (RX12, TX12, 48)) kM0 rfl rfl (Nat.le_of_ble_eq_true rfl) dX12_book_86 ?_
          refine g_istore (lv' := [(5, .int r86), (4, .int (g67 0 4)), (0, .ref (ad 0)), (2, .int x2), (3, .int x3)]) C dX12_book_89 (Nat.le_of_ble_eq_true rfl) rfl ?_
          refine g_aload_n C dX12_book_91 rfl 2 rfl ?_
          refine gM_get_fault (v := g86 0 5) C rfl dX12_book_92 ?_
          refine g_if_ne C 114 dX12_book_95 (by decide) (fun c95 => ?_) (fun c95 => ?_)
          · have h := iteT c95 h
            refine g_iload_n C dX12_book_98 rfl 4 rfl ?_
            refine g_iload C dX12_book_99 0 rfl ?_
            refine g_cSz (As := [.int x3, .int r86]) (rest := []) (ro := (fM_has x3 r86)) (go := g86) (xo := xo) C (fun sz => cM_has l D T ad xo g86 x3 r86 _ rfl sz) kM_has ⟨Nat.le_of_ble_eq_true rfl, Nat.le_of_ble_eq_true rfl⟩ ⟨rfl, rfl⟩ ⟨Nat.zero_le _, Nat.zero_le _⟩ rfl rfl (Nat.le_of_ble_eq_true rfl) dX12_book_101 (fun hz101 => ?_)
            refine g_if_eq C 114 dX12_book_104 (by decide) (fun c104 => ?_) (fun c104 => ?_)
            · have h := iteT c104 h
              exact g_sub [2, 3, 4, 0] rfl (J114 x2 x3 r86 g86 h)
            · have h := iteF c104 h
              refine g_aload_n C dX12_book_107 rfl 2 rfl ?_
              refine g_iconst C dX12_book_108 ic_2 ?_
              refine g_iload C dX12_book_109 1 rfl ?_
              obtain ⟨g111, hr111, h⟩ := ltb h
              refine g_cVv (k := 0) (As := [.int (2 : Int32), .int (g67 0 4)]) (rest := []) (go := g111) (xo := xo) C (fun sz => cM_wrong l D T ad xo g86 (2 : Int32) (g67 0 4) _ hr111 sz) kM_wrong ⟨Nat.le_of_ble_eq_true rfl, Nat.le_of_ble_eq_true rfl⟩ ⟨rfl, rfl⟩ ⟨Nat.zero_le _, Nat.zero_le _⟩ (rfl : vwCl[11]? = some (RX12, TX12, 48)) kM0 rfl rfl (Nat.le_of_ble_eq_true rfl) dX12_book_111 ?_
              exact g_sub [2, 3, 4, 0] rfl (J114 x2 x3 r86 g111 h)
          · have h := iteF c95 h
            exact g_sub [2, 3, 4, 0] rfl (J114 x2 x3 r86 g86 h)
      · have h := iteF c52 h
        exact g_sub [0, 1] rfl (Ke _ (Option.some.inj h).symm)
    · show GcM_book l D T ad Γ o xo xo g 173 [(0, .ref (ad 0)), (2, .int x2)] []
      refine g_aload_n C dX12_book_173 rfl 0 rfl ?_
      refine gM_get_fault (v := g 0 5) C rfl dX12_book_174 ?_
      refine g_if_eq C 185 dX12_book_177 (by decide) (fun c177 => ?_) (fun c177 => ?_)
      · have h := iteT c177 h
        refine g_aload_n C dX12_book_185 rfl 0 rfl ?_
        refine g_iconst C dX12_book_186 ic_m1 ?_
        refine gM_put_place C dX12_book_187 ?_
        refine g_aload_n C dX12_book_190 rfl 0 rfl ?_
        refine g_iload_n C dX12_book_191 rfl 1 rfl ?_
        refine gM_put_lines C dX12_book_192 ?_
        refine g_aload_n C dX12_book_195 rfl 0 rfl ?_
        refine gM_get_readLine C dX12_book_196 ?_
        refine g_aload_n C dX12_book_199 rfl 0 rfl ?_
        refine gM_get_line C dX12_book_200 ?_
        refine g_iload_n C dX12_book_203 rfl 1 rfl ?_
        obtain ⟨g204, hr204, h⟩ := bnd h
        refine g_cSv (As := [.ref (ad 12), .ref (ad 11), .int x2]) (rest := []) (go := g204) (xo := xo) C (fun sz => cM_lays l D T ad xo (st (st g 0 3 (-1 : Int32)) 0 31 x2) 12 11 x2 _ hr204 sz) kM_lays ⟨Nat.le_of_ble_eq_true rfl, Nat.le_of_ble_eq_true rfl⟩ ⟨rfl, rfl⟩ ⟨Nat.zero_le _, Nat.zero_le _⟩ rfl rfl (Nat.le_of_ble_eq_true rfl) dX12_book_204 ?_
        refine g_iload_n C dX12_book_207 rfl 1 rfl ?_
        obtain rfl := Option.some.inj h
        exact g_iret C rfl rfl rfl dX12_book_208
      · have h := iteF c177 h
        refine g_aload_n C dX12_book_180 rfl 0 rfl ?_
        obtain ⟨⟨r181, g181⟩, hr181, h⟩ := ltb h
        refine g_cVi (k := 0) (As := []) (rest := []) (ro := r181) (go := g181) (xo := xo) C (fun sz => cM_ends l D T ad xo g _ hr181 sz) kM_ends ⟨Nat.le_of_ble_eq_true rfl, Nat.le_of_ble_eq_true rfl⟩ ⟨rfl, rfl⟩ ⟨Nat.zero_le _, Nat.zero_le _⟩ (rfl : vwCl[11]? = some (RX12, TX12, 48)) kM0 rfl rfl (Nat.le_of_ble_eq_true rfl) dX12_book_181 ?_
        obtain rfl := Option.some.inj h
        exact g_iret C rfl rfl rfl dX12_book_184
  have J29 : ∀ (x1 : Int32) (s1 : Int32) (g : St), fM_book_b29 x1 s1 g = some o → GcM_book l D T ad Γ o xo xo g 29 [(0, .ref (ad 0)), (1, .int x1)] [.int s1, .ref (ad 0)] := by
    intro x1 s1 g h
    refine g_iconst C dX12_book_29 ic_1 ?_
    refine g_iconst C dX12_book_30 ic_1 ?_
    obtain ⟨⟨r31, g31⟩, hr31, h⟩ := bnd h
    refine g_cVz (k := 0) (As := [.int s1, .int (1 : Int32), .int (1 : Int32)]) (rest := []) (ro := r31) (go := g31) (xo := xo) C (fun sz => cM_bad l D T ad xo g s1 (1 : Int32) (1 : Int32) _ hr31 sz) kM_bad ⟨Nat.le_of_ble_eq_true rfl, Nat.le_of_ble_eq_true rfl⟩ ⟨rfl, rfl⟩ ⟨Nat.zero_le _, Nat.zero_le _⟩ (rfl : vwCl[11]? = some (RX12, TX12, 48)) kM0 rfl rfl (Nat.le_of_ble_eq_true rfl) dX12_book_31 (fun hz31 => ?_)
    refine g_if_eq C 39 dX12_book_34 (by decide) (fun c34 => ?_) (fun c34 => ?_)
    · have h := iteT c34 h
      refine g_aload_n C dX12_book_39 rfl 0 rfl ?_
      refine g_iload_n C dX12_book_40 rfl 1 rfl ?_
      obtain ⟨g41, hr41, h⟩ := bnd h
      refine g_cVv (k := 0) (As := [.int x1]) (rest := []) (go := g41) (xo := xo) C (fun sz => cM_starts l D T ad xo g31 x1 _ hr41 sz) kM_starts ⟨Nat.le_of_ble_eq_true rfl, Nat.le_of_ble_eq_true rfl⟩ ⟨rfl, rfl⟩ ⟨Nat.zero_le _, Nat.zero_le _⟩ (rfl : vwCl[11]? = some (RX12, TX12, 48)) kM0 rfl rfl (Nat.le_of_ble_eq_true rfl) dX12_book_41 ?_
      refine g_iconst C dX12_book_44 ic_0 ?_
      refine g_istore_n (lv' := [(2, .int (0 : Int32)), (0, .ref (ad 0)), (1, .int x1)]) C dX12_book_45 rfl (Nat.le_of_ble_eq_true rfl) rfl ?_
      refine g_iconst C dX12_book_46 ic_0 ?_
      refine g_istore_n (lv' := [(3, .int (0 : Int32)), (2, .int (0 : Int32)), (0, .ref (ad 0)), (1, .int x1)]) C dX12_book_47 rfl (Nat.le_of_ble_eq_true rfl) rfl ?_
      exact g_sub [2, 1, 0] rfl (J48 (0 : Int32) (0 : Int32) g41 h)
    · have h := iteF c34 h
      refine g_iconst C dX12_book_37 ic_0 ?_
      obtain rfl := Option.some.inj h
      exact g_iret C rfl rfl rfl dX12_book_38
  have J24 : ∀ (x1 : Int32) (g : St), fM_book_b24 x1 g = some o → GcM_book l D T ad Γ o xo xo g 24 [(0, .ref (ad 0)), (1, .int x1)] [.ref (ad 0)] := by
    intro x1 g h
    refine g_iconst C dX12_book_24 ic_1 ?_
    refine g_goto (tgt := 29) C dX12_book_25 (by decide) ?_
    exact J29 x1 (1 : Int32) g h
  refine g_aload_n C dX12_book_0 rfl 0 rfl ?_
  refine g_iconst C dX12_book_1 ic_0 ?_
  refine gM_put_thrown C dX12_book_2 ?_
  refine g_aload_n C dX12_book_5 rfl 0 rfl ?_
  refine g_iload_n C dX12_book_6 rfl 1 rfl ?_
  refine g_iconst C dX12_book_7 ic_0 ?_
  refine g_aload_n C dX12_book_8 rfl 0 rfl ?_
  refine gM_get_tape (v := g 0 1) C rfl dX12_book_9 ?_
  refine g_cSz (As := [.int x1, .int (0 : Int32), .int (g 0 1)]) (rest := [.ref (ad 0)]) (ro := (fM_in x1 (0 : Int32) (g 0 1))) (go := (st g 0 0 (0 : Int32))) (xo := xo) C (fun sz => cM_in l D T ad xo (st g 0 0 (0 : Int32)) x1 (0 : Int32) (g 0 1) _ rfl sz) kM_in ⟨Nat.le_of_ble_eq_true rfl, Nat.le_of_ble_eq_true rfl⟩ ⟨rfl, rfl⟩ ⟨Nat.zero_le _, Nat.zero_le _⟩ rfl rfl (Nat.le_of_ble_eq_true rfl) dX12_book_12 (fun hz12 => ?_)
  refine g_if_eq C 24 dX12_book_15 (by decide) (fun c15 => ?_) (fun c15 => ?_)
  · have h := iteT c15 h
    exact J24 x1 (st g 0 0 (0 : Int32)) h
  · have h := iteF c15 h
    refine g_iload_n C dX12_book_18 rfl 1 rfl ?_
    refine g_bipush C dX12_book_19 bp_60 ?_
    refine g_icmp_le C 28 dX12_book_21 (by decide) (fun c21 => ?_) (fun c21 => ?_)
    · have h := iteT c21 h
      refine g_iconst C dX12_book_28 ic_0 ?_
      exact J29 x1 (0 : Int32) (st g 0 0 (0 : Int32)) h
    · have h := iteF c21 h
      exact J24 x1 (st g 0 0 (0 : Int32)) h
def fM_fault (g : St) : Int32 × St :=
  ((g 0 3), (st g 0 0 (0 : Int32)))
def rmM_fault : Room := { frames := 0, cells := 0, slots := 0, locals := 0 }
abbrev GcM_fault (l : Launch) (D : va_G) (T : cT) (ad : Nat → Nat) (Γ : Cxt) (o : Int32 × St) (xo : Sl) (x : Sl) (g : St) (pc : Nat) (lv : List (Nat × Value)) (stk : List Value) : Prop := Gj l shM D T ad 1 (rmM_fault) 0 0 Γ (MQ Γ.below (va_Qi (eqI o.1 o.2 xo) (wPost shM D T ad Γ.A) Γ.A) Γ.args Γ.s 0 0 Γ.A) x g pc lv stk
set_option maxRecDepth 100000 in
set_option maxHeartbeats 4000000 in
theorem cM_fault (l : Launch) (D : va_G) (T : cT) (ad : Nat → Nat) (xo : Sl) (g : St) (o : Int32 × St) (h : fM_fault g = o) (sz : Nat) : Met l yX12_fault wM_fault (rmM_fault) (va_Pc [.ref (ad 0)] (wPre shM D T ad xo g sz)) (va_Qi (eqI o.1 o.2 xo) (wPost shM D T ad (aW shM T ad xo g sz)) (aW shM T ad xo g sz)) 0 0 (aW shM T ad xo g sz) := by
  refine g_start (Qc := fun A => va_Qi (eqI o.1 o.2 xo) (wPost shM D T ad A) A) (by decide +kernel) rfl rfl (Nat.le_of_ble_eq_true rfl) (lv := [(0, .ref (ad 0))]) rfl (fun Γ C => ?_)
  show GcM_fault l D T ad Γ o xo xo g 0 [(0, .ref (ad 0))] []
  refine g_aload_n C dX12_fault_0 rfl 0 rfl ?_
  refine g_iconst C dX12_fault_1 ic_0 ?_
  refine gM_put_thrown C dX12_fault_2 ?_
  refine g_aload_n C dX12_fault_5 rfl 0 rfl ?_
  refine gM_get_place (v := g 0 3) C rfl dX12_fault_6 ?_
  subst h
  exact g_iret C rfl rfl rfl dX12_fault_9
def fM_willBy (x1 : Int32) (x2 : Int32) (x3 : Int32) (x4 : Int32) (x5 : Int32) (x6 : Int32) (x7 : Int32) (x8 : Int32) (g : St) : Option (Int32 × St) :=
  (fM_byLaw (st (st (st (st (st (st (st (st g 14 0 x1) 14 1 x2) 14 2 x3) 14 3 x4) 14 4 x5) 14 5 x6) 14 6 x7) 14 7 x8)).bind fun ⟨r64, g64⟩ => (some (r64, g64))
def rmM_willBy : Room := { frames := 3, cells := 0, slots := 0, locals := 65 }
abbrev GcM_willBy (l : Launch) (D : va_G) (T : cT) (ad : Nat → Nat) (Γ : Cxt) (o : Int32 × St) (xo : Sl) (x : Sl) (g : St) (pc : Nat) (lv : List (Nat × Value)) (stk : List Value) : Prop := Gj l shM D T ad 9 (rmM_willBy) 0 0 Γ (MQ Γ.below (va_Qi (eqI o.1 o.2 xo) (wPost shM D T ad Γ.A) Γ.A) Γ.args Γ.s 0 0 Γ.A) x g pc lv stk
set_option maxRecDepth 100000 in
set_option maxHeartbeats 4000000 in
theorem cM_willBy (l : Launch) (D : va_G) (T : cT) (ad : Nat → Nat) (xo : Sl) (g : St) (x1 : Int32) (x2 : Int32) (x3 : Int32) (x4 : Int32) (x5 : Int32) (x6 : Int32) (x7 : Int32) (x8 : Int32) (o : Int32 × St) (h : fM_willBy x1 x2 x3 x4 x5 x6 x7 x8 g = some o) (sz : Nat) : Met l yX12_willBy wM_willBy (rmM_willBy) (va_Pc [.ref (ad 0), .int x1, .int x2, .int x3, .int x4, .int x5, .int x6, .int x7, .int x8] (wPre shM D T ad xo g sz)) (va_Qi (eqI o.1 o.2 xo) (wPost shM D T ad (aW shM T ad xo g sz)) (aW shM T ad xo g sz)) 0 0 (aW shM T ad xo g sz) := by
  refine g_start (Qc := fun A => va_Qi (eqI o.1 o.2 xo) (wPost shM D T ad A) A) (by decide +kernel) rfl rfl (Nat.le_of_ble_eq_true rfl) (lv := [(0, .ref (ad 0)), (1, .int x1), (2, .int x2), (3, .int x3), (4, .int x4), (5, .int x5), (6, .int x6), (7, .int x7), (8, .int x8)]) rfl (fun Γ C => ?_)
  show GcM_willBy l D T ad Γ o xo xo g 0 [(0, .ref (ad 0)), (1, .int x1), (2, .int x2), (3, .int x3), (4, .int x4), (5, .int x5), (6, .int x6), (7, .int x7), (8, .int x8)] []
  refine g_aload_n C dX12_willBy_0 rfl 0 rfl ?_
  refine gM_get_known C dX12_willBy_1 ?_
  refine g_iconst C dX12_willBy_4 ic_0 ?_
  refine g_iload_n C dX12_willBy_5 rfl 1 rfl ?_
  refine g_iast (n := 8) (q := 0) C ln_14 (by decide) cl_0 dX12_willBy_6 ?_
  refine g_aload_n C dX12_willBy_7 rfl 0 rfl ?_
  refine gM_get_known C dX12_willBy_8 ?_
  refine g_iconst C dX12_willBy_11 ic_1 ?_
  refine g_iload_n C dX12_willBy_12 rfl 2 rfl ?_
  refine g_iast (n := 8) (q := 1) C ln_14 (by decide) cl_1 dX12_willBy_13 ?_
  refine g_aload_n C dX12_willBy_14 rfl 0 rfl ?_
  refine gM_get_known C dX12_willBy_15 ?_
  refine g_iconst C dX12_willBy_18 ic_2 ?_
  refine g_iload_n C dX12_willBy_19 rfl 3 rfl ?_
  refine g_iast (n := 8) (q := 2) C ln_14 (by decide) cl_2 dX12_willBy_20 ?_
  refine g_aload_n C dX12_willBy_21 rfl 0 rfl ?_
  refine gM_get_known C dX12_willBy_22 ?_
  refine g_iconst C dX12_willBy_25 ic_3 ?_
  refine g_iload C dX12_willBy_26 4 rfl ?_
  refine g_iast (n := 8) (q := 3) C ln_14 (by decide) cl_3 dX12_willBy_28 ?_
  refine g_aload_n C dX12_willBy_29 rfl 0 rfl ?_
  refine gM_get_known C dX12_willBy_30 ?_
  refine g_iconst C dX12_willBy_33 ic_4 ?_
  refine g_iload C dX12_willBy_34 5 rfl ?_
  refine g_iast (n := 8) (q := 4) C ln_14 (by decide) cl_4 dX12_willBy_36 ?_
  refine g_aload_n C dX12_willBy_37 rfl 0 rfl ?_
  refine gM_get_known C dX12_willBy_38 ?_
  refine g_iconst C dX12_willBy_41 ic_5 ?_
  refine g_iload C dX12_willBy_42 6 rfl ?_
  refine g_iast (n := 8) (q := 5) C ln_14 (by decide) cl_5 dX12_willBy_44 ?_
  refine g_aload_n C dX12_willBy_45 rfl 0 rfl ?_
  refine gM_get_known C dX12_willBy_46 ?_
  refine g_bipush C dX12_willBy_49 bp_6 ?_
  refine g_iload C dX12_willBy_51 7 rfl ?_
  refine g_iast (n := 8) (q := 6) C ln_14 (by decide) cl_6 dX12_willBy_53 ?_
  refine g_aload_n C dX12_willBy_54 rfl 0 rfl ?_
  refine gM_get_known C dX12_willBy_55 ?_
  refine g_bipush C dX12_willBy_58 bp_7 ?_
  refine g_iload C dX12_willBy_60 8 rfl ?_
  refine g_iast (n := 8) (q := 7) C ln_14 (by decide) cl_7 dX12_willBy_62 ?_
  refine g_aload_n C dX12_willBy_63 rfl 0 rfl ?_
  obtain ⟨⟨r64, g64⟩, hr64, h⟩ := bnd h
  refine g_cVi (k := 0) (As := []) (rest := []) (ro := r64) (go := g64) (xo := xo) C (fun sz => cM_byLaw l D T ad xo (st (st (st (st (st (st (st (st g 14 0 x1) 14 1 x2) 14 2 x3) 14 3 x4) 14 4 x5) 14 5 x6) 14 6 x7) 14 7 x8) _ hr64 sz) kM_byLaw ⟨Nat.le_of_ble_eq_true rfl, Nat.le_of_ble_eq_true rfl⟩ ⟨rfl, rfl⟩ ⟨Nat.zero_le _, Nat.zero_le _⟩ (rfl : vwCl[11]? = some (RX12, TX12, 48)) kM0 rfl rfl (Nat.le_of_ble_eq_true rfl) dX12_willBy_64 ?_
  obtain rfl := Option.some.inj h
  exact g_iret C rfl rfl rfl dX12_willBy_67
def fM_ones_L4 (x0 : Int32) : (Int32 × Int32) → Option ((Int32 × Int32) ⊕ (Int32)) := fun ⟨x1, x2⟩ =>
  if (8 : Int32) ≤ x2 then
    (some (.inr x1))
  else
    (some (.inl ((x1 + ((x0 >>> (x2 &&& 31)) &&& (1 : Int32))), (x2 + (1 : Int32)))))
def fM_ones_b4 (x0 : Int32) (x1 : Int32) (x2 : Int32) : Option (Int32) :=
  (lp (fM_ones_L4 x0) fuel (x1, x2)).bind (fun x1 => some x1)
def fM_ones (x0 : Int32) : Option (Int32) :=
  fM_ones_b4 x0 (0 : Int32) (0 : Int32)
def rmM_ones : Room := { frames := 0, cells := 0, slots := 0, locals := 0 }
abbrev GcM_ones (l : Launch) (D : va_G) (T : cT) (ad : Nat → Nat) (Γ : Cxt) (o : Int32) (xo : Sl) (g0 : St) (x : Sl) (g : St) (pc : Nat) (lv : List (Nat × Value)) (stk : List Value) : Prop := Gj l shM D T ad 3 (rmM_ones) 0 0 Γ (MQ Γ.below (va_Qi (eqI o g0 xo) (wPost shM D T ad Γ.A) Γ.A) Γ.args Γ.s 0 0 Γ.A) x g pc lv stk
set_option maxRecDepth 100000 in
set_option maxHeartbeats 4000000 in
theorem cM_ones (l : Launch) (D : va_G) (T : cT) (ad : Nat → Nat) (xo : Sl) (g : St) (x0 : Int32) (o : Int32) (h : fM_ones x0 = some o) (sz : Nat) : Met l yX12_ones wM_ones (rmM_ones) (va_Pc [.int x0] (wPre shM D T ad xo g sz)) (va_Qi (eqI o g xo) (wPost shM D T ad (aW shM T ad xo g sz)) (aW shM T ad xo g sz)) 0 0 (aW shM T ad xo g sz) := by
  refine g_start (Qc := fun A => va_Qi (eqI o g xo) (wPost shM D T ad A) A) (by decide +kernel) rfl rfl (Nat.le_of_ble_eq_true rfl) (lv := [(0, .int x0)]) rfl (fun Γ C => ?_)
  show GcM_ones l D T ad Γ o xo g xo g 0 [(0, .int x0)] []
  have J4 : ∀ (x0 : Int32) (x1 : Int32) (x2 : Int32), fM_ones_b4 x0 x1 x2 = some o → GcM_ones l D T ad Γ o xo g xo g 4 [(0, .int x0), (1, .int x1), (2, .int x2)] [] := by
    intro x0 x1 x2 h
    obtain ⟨x1, ht, h⟩ := bnd h
    refine lp_run (P := fun t : Int32 × Int32 => match t with | (x1, x2) => GcM_ones l D T ad Γ o xo g xo g 4 [(0, .int x0), (1, .int x1), (2, .int x2)] []) (E := fun x1 : Int32 => GcM_ones l D T ad Γ o xo g xo g 24 [(1, .int x1)] []) ?_ _ _ _ ht ?_
    · rintro ⟨x1, x2⟩ z h Kt Ke
      show GcM_ones l D T ad Γ o xo g xo g 4 [(0, .int x0), (1, .int x1), (2, .int x2)] []
      refine g_iload_n C dX12_ones_4 rfl 2 rfl ?_
      refine g_bipush C dX12_ones_5 bp_8 ?_
      refine g_icmp_ge C 24 dX12_ones_7 (by decide) (fun c7 => ?_) (fun c7 => ?_)
      · have h := iteT c7 h
        exact g_sub [1] rfl (Ke _ (Option.some.inj h).symm)
      · have h := iteF c7 h
        refine g_iload_n C dX12_ones_10 rfl 1 rfl ?_
        refine g_iload_n C dX12_ones_11 rfl 0 rfl ?_
        refine g_iload_n C dX12_ones_12 rfl 2 rfl ?_
        refine g_ishr C dX12_ones_13 ?_
        refine g_iconst C dX12_ones_14 ic_1 ?_
        refine g_iand C dX12_ones_15 ?_
        refine g_iadd C dX12_ones_16 ?_
        refine g_istore_n (lv' := [(1, .int (x1 + ((x0 >>> (x2 &&& 31)) &&& (1 : Int32)))), (0, .int x0), (2, .int x2)]) C dX12_ones_17 rfl (Nat.le_of_ble_eq_true rfl) rfl ?_
        refine g_iinc (lv' := [(2, .int (x2 + (1 : Int32))), (1, .int (x1 + ((x0 >>> (x2 &&& 31)) &&& (1 : Int32)))), (0, .int x0)]) C dX12_ones_18 2 rfl (ii_1 _) (Nat.le_of_ble_eq_true rfl) rfl ?_
        refine g_goto (tgt := 4) C dX12_ones_21 (by decide) ?_
        exact g_sub [2, 1, 0] rfl (Kt _ (Option.some.inj h).symm)
    · show GcM_ones l D T ad Γ o xo g xo g 24 [(1, .int x1)] []
      refine g_iload_n C dX12_ones_24 rfl 0 rfl ?_
      obtain rfl := Option.some.inj h
      exact g_iret C rfl rfl rfl dX12_ones_25
  refine g_iconst C dX12_ones_0 ic_0 ?_
  refine g_istore_n (lv' := [(1, .int (0 : Int32)), (0, .int x0)]) C dX12_ones_1 rfl (Nat.le_of_ble_eq_true rfl) rfl ?_
  refine g_iconst C dX12_ones_2 ic_0 ?_
  refine g_istore_n (lv' := [(2, .int (0 : Int32)), (1, .int (0 : Int32)), (0, .int x0)]) C dX12_ones_3 rfl (Nat.le_of_ble_eq_true rfl) rfl ?_
  exact g_sub [2, 1, 0] rfl (J4 x0 (0 : Int32) (0 : Int32) h)
def fM_stonesOf_b36 (x1 : Nat) (x2 : Int32) (x4 : Int32) (s0 : Int32) (s1 : Int32) (g : St) : Option ((Int32 × Int32) ⊕ (Int32)) :=
  some (.inl ((s0 ||| s1), (x4 + (1 : Int32))))
def fM_stonesOf_L5 (x1 : Nat) (x2 : Int32) (g : St) : (Int32 × Int32) → Option ((Int32 × Int32) ⊕ (Int32)) := fun ⟨x3, x4⟩ =>
  if (g 4 0) ≤ x4 then
    (some (.inr x3))
  else
    (if ¬ (((8 : Int32) + x4) < 0 ∨ (lenW shM x1) ≤ ((8 : Int32) + x4).toNatClampNeg) then (if (g x1 (((8 : Int32) + x4).toNatClampNeg)) = x2 then
    (fM_stonesOf_b36 x1 x2 x4 x3 ((1 : Int32) <<< (x4 &&& 31)) g)
  else
    (fM_stonesOf_b36 x1 x2 x4 x3 (0 : Int32) g)) else none)
def fM_stonesOf_b5 (x1 : Nat) (x2 : Int32) (x3 : Int32) (x4 : Int32) (g : St) : Option (Int32) :=
  (lp (fM_stonesOf_L5 x1 x2 g) fuel (x3, x4)).bind (fun x3 => some x3)
def fM_stonesOf (x1 : Nat) (x2 : Int32) (g : St) : Option (Int32) :=
  fM_stonesOf_b5 x1 x2 (0 : Int32) (0 : Int32) g
def rmM_stonesOf : Room := { frames := 0, cells := 0, slots := 0, locals := 0 }
abbrev GcM_stonesOf (l : Launch) (D : va_G) (T : cT) (ad : Nat → Nat) (Γ : Cxt) (o : Int32) (xo : Sl) (g0 : St) (x : Sl) (g : St) (pc : Nat) (lv : List (Nat × Value)) (stk : List Value) : Prop := Gj l shM D T ad 5 (rmM_stonesOf) 0 0 Γ (MQ Γ.below (va_Qi (eqI o g0 xo) (wPost shM D T ad Γ.A) Γ.A) Γ.args Γ.s 0 0 Γ.A) x g pc lv stk
set_option maxRecDepth 100000 in
set_option maxHeartbeats 4000000 in
theorem cM_stonesOf (l : Launch) (D : va_G) (T : cT) (ad : Nat → Nat) (xo : Sl) (g : St) (x1 : Nat) (x2 : Int32) (o : Int32) (h : fM_stonesOf x1 x2 g = some o) (sz : Nat) : Met l yX12_stonesOf wM_stonesOf (rmM_stonesOf) (va_Pc [.ref (ad 0), .ref (ad x1), .int x2] (wPre shM D T ad xo g sz)) (va_Qi (eqI o g xo) (wPost shM D T ad (aW shM T ad xo g sz)) (aW shM T ad xo g sz)) 0 0 (aW shM T ad xo g sz) := by
  refine g_start (Qc := fun A => va_Qi (eqI o g xo) (wPost shM D T ad A) A) (by decide +kernel) rfl rfl (Nat.le_of_ble_eq_true rfl) (lv := [(0, .ref (ad 0)), (1, .ref (ad x1)), (2, .int x2)]) rfl (fun Γ C => ?_)
  show GcM_stonesOf l D T ad Γ o xo g xo g 0 [(0, .ref (ad 0)), (1, .ref (ad x1)), (2, .int x2)] []
  have J5 : ∀ (x1 : Nat) (x2 : Int32) (x3 : Int32) (x4 : Int32), fM_stonesOf_b5 x1 x2 x3 x4 g = some o → GcM_stonesOf l D T ad Γ o xo g xo g 5 [(0, .ref (ad 0)), (1, .ref (ad x1)), (2, .int x2), (3, .int x3), (4, .int x4)] [] := by
    intro x1 x2 x3 x4 h
    obtain ⟨x3, ht, h⟩ := bnd h
    refine lp_run (P := fun t : Int32 × Int32 => match t with | (x3, x4) => GcM_stonesOf l D T ad Γ o xo g xo g 5 [(0, .ref (ad 0)), (1, .ref (ad x1)), (2, .int x2), (3, .int x3), (4, .int x4)] []) (E := fun x3 : Int32 => GcM_stonesOf l D T ad Γ o xo g xo g 44 [(3, .int x3)] []) ?_ _ _ _ ht ?_
    · rintro ⟨x3, x4⟩ z h Kt Ke
      show GcM_stonesOf l D T ad Γ o xo g xo g 5 [(0, .ref (ad 0)), (1, .ref (ad x1)), (2, .int x2), (3, .int x3), (4, .int x4)] []
      have J36 : ∀ (x4 : Int32) (s0 : Int32) (s1 : Int32), fM_stonesOf_b36 x1 x2 x4 s0 s1 g = some z → GcM_stonesOf l D T ad Γ o xo g xo g 36 [(0, .ref (ad 0)), (1, .ref (ad x1)), (2, .int x2), (4, .int x4)] [.int s1, .int s0] := by
        intro x4 s0 s1 h
        refine g_ior C dX12_stonesOf_36 ?_
        refine g_istore_n (lv' := [(3, .int (s0 ||| s1)), (0, .ref (ad 0)), (1, .ref (ad x1)), (2, .int x2), (4, .int x4)]) C dX12_stonesOf_37 rfl (Nat.le_of_ble_eq_true rfl) rfl ?_
        refine g_iinc (lv' := [(4, .int (x4 + (1 : Int32))), (3, .int (s0 ||| s1)), (0, .ref (ad 0)), (1, .ref (ad x1)), (2, .int x2)]) C dX12_stonesOf_38 4 rfl (ii_1 _) (Nat.le_of_ble_eq_true rfl) rfl ?_
        refine g_goto (tgt := 5) C dX12_stonesOf_41 (by decide) ?_
        exact g_sub [2, 3, 4, 1, 0] rfl (Kt _ (Option.some.inj h).symm)
      refine g_iload C dX12_stonesOf_5 4 rfl ?_
      refine g_aload_n C dX12_stonesOf_7 rfl 0 rfl ?_
      refine gM_get_told C dX12_stonesOf_8 ?_
      refine g_iconst C dX12_stonesOf_11 ic_0 ?_
      refine g_iald (n := 2) (v := g 4 0) C ln_4 (by decide) rfl dX12_stonesOf_12 ?_
      refine g_icmp_ge C 44 dX12_stonesOf_13 (by decide) (fun c13 => ?_) (fun c13 => ?_)
      · have h := iteT c13 h
        exact g_sub [3] rfl (Ke _ (Option.some.inj h).symm)
      · have h := iteF c13 h
        refine g_iload_n C dX12_stonesOf_16 rfl 3 rfl ?_
        refine g_aload_n C dX12_stonesOf_17 rfl 1 rfl ?_
        refine g_bipush C dX12_stonesOf_18 bp_8 ?_
        refine g_iload C dX12_stonesOf_20 4 rfl ?_
        refine g_iadd C dX12_stonesOf_22 ?_
        obtain ⟨hi23, h⟩ := grd h
        refine g_iald (n := (lenW shM x1)) (v := g x1 (((8 : Int32) + x4).toNatClampNeg)) C rfl hi23 rfl dX12_stonesOf_23 ?_
        refine g_iload_n C dX12_stonesOf_24 rfl 2 rfl ?_
        refine g_icmp_ne C 35 dX12_stonesOf_25 (by decide) (fun c25 => ?_) (fun c25 => ?_)
        · have h := iteT c25 h
          refine g_iconst C dX12_stonesOf_28 ic_1 ?_
          refine g_iload C dX12_stonesOf_29 4 rfl ?_
          refine g_ishl C dX12_stonesOf_31 ?_
          refine g_goto (tgt := 36) C dX12_stonesOf_32 (by decide) ?_
          exact g_sub [0, 1, 2, 4] rfl (J36 x4 x3 ((1 : Int32) <<< (x4 &&& 31)) h)
        · have h := iteF c25 h
          refine g_iconst C dX12_stonesOf_35 ic_0 ?_
          exact g_sub [0, 1, 2, 4] rfl (J36 x4 x3 (0 : Int32) h)
    · show GcM_stonesOf l D T ad Γ o xo g xo g 44 [(3, .int x3)] []
      refine g_iload_n C dX12_stonesOf_44 rfl 0 rfl ?_
      obtain rfl := Option.some.inj h
      exact g_iret C rfl rfl rfl dX12_stonesOf_45
  refine g_iconst C dX12_stonesOf_0 ic_0 ?_
  refine g_istore_n (lv' := [(3, .int (0 : Int32)), (0, .ref (ad 0)), (1, .ref (ad x1)), (2, .int x2)]) C dX12_stonesOf_1 rfl (Nat.le_of_ble_eq_true rfl) rfl ?_
  refine g_iconst C dX12_stonesOf_2 ic_0 ?_
  refine g_istore (lv' := [(4, .int (0 : Int32)), (3, .int (0 : Int32)), (0, .ref (ad 0)), (1, .ref (ad x1)), (2, .int x2)]) C dX12_stonesOf_3 (Nat.le_of_ble_eq_true rfl) rfl ?_
  exact g_sub [2, 3, 4, 1, 0] rfl (J5 x1 x2 (0 : Int32) (0 : Int32) h)
def fM_stones (x1 : Nat) (x2 : Int32) (g : St) : Option (Int32) :=
  (fM_stonesOf x1 x2 g).bind fun r3 => ((fM_ones r3).bind fun r6 => (some r6))
def rmM_stones : Room := { frames := 1, cells := 0, slots := 0, locals := 24 }
abbrev GcM_stones (l : Launch) (D : va_G) (T : cT) (ad : Nat → Nat) (Γ : Cxt) (o : Int32) (xo : Sl) (g0 : St) (x : Sl) (g : St) (pc : Nat) (lv : List (Nat × Value)) (stk : List Value) : Prop := Gj l shM D T ad 3 (rmM_stones) 0 0 Γ (MQ Γ.below (va_Qi (eqI o g0 xo) (wPost shM D T ad Γ.A) Γ.A) Γ.args Γ.s 0 0 Γ.A) x g pc lv stk
set_option maxRecDepth 100000 in
set_option maxHeartbeats 4000000 in
theorem cM_stones (l : Launch) (D : va_G) (T : cT) (ad : Nat → Nat) (xo : Sl) (g : St) (x1 : Nat) (x2 : Int32) (o : Int32) (h : fM_stones x1 x2 g = some o) (sz : Nat) : Met l yX12_stones wM_stones (rmM_stones) (va_Pc [.ref (ad 0), .ref (ad x1), .int x2] (wPre shM D T ad xo g sz)) (va_Qi (eqI o g xo) (wPost shM D T ad (aW shM T ad xo g sz)) (aW shM T ad xo g sz)) 0 0 (aW shM T ad xo g sz) := by
  refine g_start (Qc := fun A => va_Qi (eqI o g xo) (wPost shM D T ad A) A) (by decide +kernel) rfl rfl (Nat.le_of_ble_eq_true rfl) (lv := [(0, .ref (ad 0)), (1, .ref (ad x1)), (2, .int x2)]) rfl (fun Γ C => ?_)
  show GcM_stones l D T ad Γ o xo g xo g 0 [(0, .ref (ad 0)), (1, .ref (ad x1)), (2, .int x2)] []
  refine g_aload_n C dX12_stones_0 rfl 0 rfl ?_
  refine g_aload_n C dX12_stones_1 rfl 1 rfl ?_
  refine g_iload_n C dX12_stones_2 rfl 2 rfl ?_
  obtain ⟨r3, hr3, h⟩ := bnd h
  refine g_cVi (k := 0) (As := [.ref (ad x1), .int x2]) (rest := []) (ro := r3) (go := g) (xo := xo) C (fun sz => cM_stonesOf l D T ad xo g x1 x2 _ hr3 sz) kM_stonesOf ⟨Nat.le_of_ble_eq_true rfl, Nat.le_of_ble_eq_true rfl⟩ ⟨rfl, rfl⟩ ⟨Nat.zero_le _, Nat.zero_le _⟩ (rfl : vwCl[11]? = some (RX12, TX12, 48)) kM0 rfl rfl (Nat.le_of_ble_eq_true rfl) dX12_stones_3 ?_
  obtain ⟨r6, hr6, h⟩ := bnd h
  refine g_cSi (As := [.int r3]) (rest := []) (ro := r6) (go := g) (xo := xo) C (fun sz => cM_ones l D T ad xo g r3 _ hr6 sz) kM_ones ⟨Nat.le_of_ble_eq_true rfl, Nat.le_of_ble_eq_true rfl⟩ ⟨rfl, rfl⟩ ⟨Nat.zero_le _, Nat.zero_le _⟩ rfl rfl (Nat.le_of_ble_eq_true rfl) dX12_stones_6 ?_
  obtain rfl := Option.some.inj h
  exact g_iret C rfl rfl rfl dX12_stones_9
def fM_everybody (g : St) : Int32 :=
  (((1 : Int32) <<< ((g 4 0) &&& 31)) - (1 : Int32))
def rmM_everybody : Room := { frames := 0, cells := 0, slots := 0, locals := 0 }
abbrev GcM_everybody (l : Launch) (D : va_G) (T : cT) (ad : Nat → Nat) (Γ : Cxt) (o : Int32) (xo : Sl) (g0 : St) (x : Sl) (g : St) (pc : Nat) (lv : List (Nat × Value)) (stk : List Value) : Prop := Gj l shM D T ad 1 (rmM_everybody) 0 0 Γ (MQ Γ.below (va_Qi (eqI o g0 xo) (wPost shM D T ad Γ.A) Γ.A) Γ.args Γ.s 0 0 Γ.A) x g pc lv stk
set_option maxRecDepth 100000 in
set_option maxHeartbeats 4000000 in
theorem cM_everybody (l : Launch) (D : va_G) (T : cT) (ad : Nat → Nat) (xo : Sl) (g : St) (o : Int32) (h : fM_everybody g = o) (sz : Nat) : Met l yX12_everybody wM_everybody (rmM_everybody) (va_Pc [.ref (ad 0)] (wPre shM D T ad xo g sz)) (va_Qi (eqI o g xo) (wPost shM D T ad (aW shM T ad xo g sz)) (aW shM T ad xo g sz)) 0 0 (aW shM T ad xo g sz) := by
  refine g_start (Qc := fun A => va_Qi (eqI o g xo) (wPost shM D T ad A) A) (by decide +kernel) rfl rfl (Nat.le_of_ble_eq_true rfl) (lv := [(0, .ref (ad 0))]) rfl (fun Γ C => ?_)
  show GcM_everybody l D T ad Γ o xo g xo g 0 [(0, .ref (ad 0))] []
  refine g_iconst C dX12_everybody_0 ic_1 ?_
  refine g_aload_n C dX12_everybody_1 rfl 0 rfl ?_
  refine gM_get_told C dX12_everybody_2 ?_
  refine g_iconst C dX12_everybody_5 ic_0 ?_
  refine g_iald (n := 2) (v := g 4 0) C ln_4 (by decide) rfl dX12_everybody_6 ?_
  refine g_ishl C dX12_everybody_7 ?_
  refine g_iconst C dX12_everybody_8 ic_1 ?_
  refine g_isub C dX12_everybody_9 ?_
  subst h
  exact g_iret C rfl rfl rfl dX12_everybody_10
def fM_willOf (x1 : Nat) (x2 : Int32) (x3 : Int32) (g : St) : Option (Int32 × St) :=
  if ¬ (x2 < 0 ∨ 8 ≤ x2.toNatClampNeg) then (if ¬ (((0 : Int32) + x2) < 0 ∨ (lenW shM x1) ≤ ((0 : Int32) + x2).toNatClampNeg) then ((fM_stones x1 x2 g).bind fun r17 => (if ¬ (((0 : Int32) + x3) < 0 ∨ (lenW shM x1) ≤ ((0 : Int32) + x3).toNatClampNeg) then (if ¬ ((24 : Int32) < 0 ∨ (lenW shM x1) ≤ (24 : Int32).toNatClampNeg) then ((fM_ones (g x1 24)).bind fun r45 => (if ¬ ((25 : Int32) < 0 ∨ (lenW shM x1) ≤ (25 : Int32).toNatClampNeg) then ((fM_willBy (g (34 + x2.toNatClampNeg) 0) (g x1 (((0 : Int32) + x2).toNatClampNeg)) r17 (((g 8 x2.toNatClampNeg) >>> (x3 &&& 31)) &&& (1 : Int32)) (g x1 (((0 : Int32) + x3).toNatClampNeg)) ((g 4 0) - r45) (g x1 25) x2 g).bind fun ⟨r54, g54⟩ => (some (r54, g54))) else none)) else none) else none)) else none) else none
def rmM_willOf : Room := { frames := 4, cells := 0, slots := 0, locals := 93 }
abbrev GcM_willOf (l : Launch) (D : va_G) (T : cT) (ad : Nat → Nat) (Γ : Cxt) (o : Int32 × St) (xo : Sl) (x : Sl) (g : St) (pc : Nat) (lv : List (Nat × Value)) (stk : List Value) : Prop := Gj l shM D T ad 4 (rmM_willOf) 0 0 Γ (MQ Γ.below (va_Qi (eqI o.1 o.2 xo) (wPost shM D T ad Γ.A) Γ.A) Γ.args Γ.s 0 0 Γ.A) x g pc lv stk
set_option maxRecDepth 100000 in
set_option maxHeartbeats 4000000 in
theorem cM_willOf (l : Launch) (D : va_G) (T : cT) (ad : Nat → Nat) (xo : Sl) (g : St) (x1 : Nat) (x2 : Int32) (x3 : Int32) (o : Int32 × St) (h : fM_willOf x1 x2 x3 g = some o) (sz : Nat) : Met l yX12_willOf wM_willOf (rmM_willOf) (va_Pc [.ref (ad 0), .ref (ad x1), .int x2, .int x3] (wPre shM D T ad xo g sz)) (va_Qi (eqI o.1 o.2 xo) (wPost shM D T ad (aW shM T ad xo g sz)) (aW shM T ad xo g sz)) 0 0 (aW shM T ad xo g sz) := by
  refine g_start (Qc := fun A => va_Qi (eqI o.1 o.2 xo) (wPost shM D T ad A) A) (by decide +kernel) rfl rfl (Nat.le_of_ble_eq_true rfl) (lv := [(0, .ref (ad 0)), (1, .ref (ad x1)), (2, .int x2), (3, .int x3)]) rfl (fun Γ C => ?_)
  show GcM_willOf l D T ad Γ o xo xo g 0 [(0, .ref (ad 0)), (1, .ref (ad x1)), (2, .int x2), (3, .int x3)] []
  refine g_aload_n C dX12_willOf_0 rfl 0 rfl ?_
  refine g_aload_n C dX12_willOf_1 rfl 0 rfl ?_
  refine gM_get_person C dX12_willOf_2 ?_
  refine g_iload_n C dX12_willOf_5 rfl 2 rfl ?_
  obtain ⟨hi6, h⟩ := grd h
  refine g_aald (n := 8) (q := (34 + x2.toNatClampNeg)) C lg_6 hi6 rfl dX12_willOf_6 ?_
  refine g_iconst C dX12_willOf_7 ic_0 ?_
  refine g_iald (n := 2) (v := g (34 + x2.toNatClampNeg) 0) C (lenM_person hi6) (by decide) rfl dX12_willOf_8 ?_
  refine g_aload_n C dX12_willOf_9 rfl 1 rfl ?_
  refine g_iconst C dX12_willOf_10 ic_0 ?_
  refine g_iload_n C dX12_willOf_11 rfl 2 rfl ?_
  refine g_iadd C dX12_willOf_12 ?_
  obtain ⟨hi13, h⟩ := grd h
  refine g_iald (n := (lenW shM x1)) (v := g x1 (((0 : Int32) + x2).toNatClampNeg)) C rfl hi13 rfl dX12_willOf_13 ?_
  refine g_aload_n C dX12_willOf_14 rfl 0 rfl ?_
  refine g_aload_n C dX12_willOf_15 rfl 1 rfl ?_
  refine g_iload_n C dX12_willOf_16 rfl 2 rfl ?_
  obtain ⟨r17, hr17, h⟩ := bnd h
  refine g_cVi (k := 0) (As := [.ref (ad x1), .int x2]) (rest := [.int (g x1 (((0 : Int32) + x2).toNatClampNeg)), .int (g (34 + x2.toNatClampNeg) 0), .ref (ad 0)]) (ro := r17) (go := g) (xo := xo) C (fun sz => cM_stones l D T ad xo g x1 x2 _ hr17 sz) kM_stones ⟨Nat.le_of_ble_eq_true rfl, Nat.le_of_ble_eq_true rfl⟩ ⟨rfl, rfl⟩ ⟨Nat.zero_le _, Nat.zero_le _⟩ (rfl : vwCl[11]? = some (RX12, TX12, 48)) kM0 rfl rfl (Nat.le_of_ble_eq_true rfl) dX12_willOf_17 ?_
  refine g_aload_n C dX12_willOf_20 rfl 0 rfl ?_
  refine gM_get_friend C dX12_willOf_21 ?_
  refine g_iload_n C dX12_willOf_24 rfl 2 rfl ?_
  refine g_iald (n := 8) (v := g 8 x2.toNatClampNeg) C ln_8 hi6 rfl dX12_willOf_25 ?_
  refine g_iload_n C dX12_willOf_26 rfl 3 rfl ?_
  refine g_ishr C dX12_willOf_27 ?_
  refine g_iconst C dX12_willOf_28 ic_1 ?_
  refine g_iand C dX12_willOf_29 ?_
  refine g_aload_n C dX12_willOf_30 rfl 1 rfl ?_
  refine g_iconst C dX12_willOf_31 ic_0 ?_
  refine g_iload_n C dX12_willOf_32 rfl 3 rfl ?_
  refine g_iadd C dX12_willOf_33 ?_
  obtain ⟨hi34, h⟩ := grd h
  refine g_iald (n := (lenW shM x1)) (v := g x1 (((0 : Int32) + x3).toNatClampNeg)) C rfl hi34 rfl dX12_willOf_34 ?_
  refine g_aload_n C dX12_willOf_35 rfl 0 rfl ?_
  refine gM_get_told C dX12_willOf_36 ?_
  refine g_iconst C dX12_willOf_39 ic_0 ?_
  refine g_iald (n := 2) (v := g 4 0) C ln_4 (by decide) rfl dX12_willOf_40 ?_
  refine g_aload_n C dX12_willOf_41 rfl 1 rfl ?_
  refine g_bipush C dX12_willOf_42 bp_24 ?_
  obtain ⟨hi44, h⟩ := grd h
  refine g_iald (n := (lenW shM x1)) (v := g x1 24) C rfl hi44 rfl dX12_willOf_44 ?_
  obtain ⟨r45, hr45, h⟩ := bnd h
  refine g_cSi (As := [.int (g x1 24)]) (rest := [.int (g 4 0), .int (g x1 (((0 : Int32) + x3).toNatClampNeg)), .int (((g 8 x2.toNatClampNeg) >>> (x3 &&& 31)) &&& (1 : Int32)), .int r17, .int (g x1 (((0 : Int32) + x2).toNatClampNeg)), .int (g (34 + x2.toNatClampNeg) 0), .ref (ad 0)]) (ro := r45) (go := g) (xo := xo) C (fun sz => cM_ones l D T ad xo g (g x1 24) _ hr45 sz) kM_ones ⟨Nat.le_of_ble_eq_true rfl, Nat.le_of_ble_eq_true rfl⟩ ⟨rfl, rfl⟩ ⟨Nat.zero_le _, Nat.zero_le _⟩ rfl rfl (Nat.le_of_ble_eq_true rfl) dX12_willOf_45 ?_
  refine g_isub C dX12_willOf_48 ?_
  refine g_aload_n C dX12_willOf_49 rfl 1 rfl ?_
  refine g_bipush C dX12_willOf_50 bp_25 ?_
  obtain ⟨hi52, h⟩ := grd h
  refine g_iald (n := (lenW shM x1)) (v := g x1 25) C rfl hi52 rfl dX12_willOf_52 ?_
  refine g_iload_n C dX12_willOf_53 rfl 2 rfl ?_
  obtain ⟨⟨r54, g54⟩, hr54, h⟩ := bnd h
  refine g_cVi (k := 0) (As := [.int (g (34 + x2.toNatClampNeg) 0), .int (g x1 (((0 : Int32) + x2).toNatClampNeg)), .int r17, .int (((g 8 x2.toNatClampNeg) >>> (x3 &&& 31)) &&& (1 : Int32)), .int (g x1 (((0 : Int32) + x3).toNatClampNeg)), .int ((g 4 0) - r45), .int (g x1 25), .int x2]) (rest := []) (ro := r54) (go := g54) (xo := xo) C (fun sz => cM_willBy l D T ad xo g (g (34 + x2.toNatClampNeg) 0) (g x1 (((0 : Int32) + x2).toNatClampNeg)) r17 (((g 8 x2.toNatClampNeg) >>> (x3 &&& 31)) &&& (1 : Int32)) (g x1 (((0 : Int32) + x3).toNatClampNeg)) ((g 4 0) - r45) (g x1 25) x2 _ hr54 sz) kM_willBy ⟨Nat.le_of_ble_eq_true rfl, Nat.le_of_ble_eq_true rfl⟩ ⟨rfl, rfl⟩ ⟨Nat.zero_le _, Nat.zero_le _⟩ (rfl : vwCl[11]? = some (RX12, TX12, 48)) kM0 rfl rfl (Nat.le_of_ble_eq_true rfl) dX12_willOf_54 ?_
  obtain rfl := Option.some.inj h
  exact g_iret C rfl rfl rfl dX12_willOf_57
def fM_isLent (x1 : Nat) (x2 : Int32) (x3 : Int32) (g : St) : Option (Int32 × St) :=
  if ¬ ((24 : Int32) < 0 ∨ (lenW shM x1) ≤ (24 : Int32).toNatClampNeg) then (if (fM_has (g x1 24) x2) = 0 then
    (some ((0 : Int32), g))
  else
    (if x2 = x3 then
    (some ((0 : Int32), g))
  else
    ((fM_stones x1 x2 g).bind fun r19 => (if (g 4 1) ≤ r19 then
    (some ((0 : Int32), g))
  else
    ((fM_willOf x1 x2 x3 g).bind fun ⟨r35, g35⟩ => (if r35 < (10 : Int32) then
    (some ((0 : Int32), g35))
  else
    (some ((1 : Int32), g35)))))))) else none
def rmM_isLent : Room := { frames := 5, cells := 0, slots := 0, locals := 116 }
abbrev GcM_isLent (l : Launch) (D : va_G) (T : cT) (ad : Nat → Nat) (Γ : Cxt) (o : Int32 × St) (xo : Sl) (x : Sl) (g : St) (pc : Nat) (lv : List (Nat × Value)) (stk : List Value) : Prop := Gj l shM D T ad 4 (rmM_isLent) 0 0 Γ (MQ Γ.below (va_Qi (eqZ o.1 o.2 xo) (wPost shM D T ad Γ.A) Γ.A) Γ.args Γ.s 0 0 Γ.A) x g pc lv stk
set_option maxRecDepth 100000 in
set_option maxHeartbeats 4000000 in
theorem cM_isLent (l : Launch) (D : va_G) (T : cT) (ad : Nat → Nat) (xo : Sl) (g : St) (x1 : Nat) (x2 : Int32) (x3 : Int32) (o : Int32 × St) (h : fM_isLent x1 x2 x3 g = some o) (sz : Nat) : Met l yX12_isLent wM_isLent (rmM_isLent) (va_Pc [.ref (ad 0), .ref (ad x1), .int x2, .int x3] (wPre shM D T ad xo g sz)) (va_Qi (eqZ o.1 o.2 xo) (wPost shM D T ad (aW shM T ad xo g sz)) (aW shM T ad xo g sz)) 0 0 (aW shM T ad xo g sz) := by
  refine g_start (Qc := fun A => va_Qi (eqZ o.1 o.2 xo) (wPost shM D T ad A) A) (by decide +kernel) rfl rfl (Nat.le_of_ble_eq_true rfl) (lv := [(0, .ref (ad 0)), (1, .ref (ad x1)), (2, .int x2), (3, .int x3)]) rfl (fun Γ C => ?_)
  show GcM_isLent l D T ad Γ o xo xo g 0 [(0, .ref (ad 0)), (1, .ref (ad x1)), (2, .int x2), (3, .int x3)] []
  refine g_aload_n C dX12_isLent_0 rfl 1 rfl ?_
  refine g_bipush C dX12_isLent_1 bp_24 ?_
  obtain ⟨hi3, h⟩ := grd h
  refine g_iald (n := (lenW shM x1)) (v := g x1 24) C rfl hi3 rfl dX12_isLent_3 ?_
  refine g_iload_n C dX12_isLent_4 rfl 2 rfl ?_
  refine g_cSz (As := [.int (g x1 24), .int x2]) (rest := []) (ro := (fM_has (g x1 24) x2)) (go := g) (xo := xo) C (fun sz => cM_has l D T ad xo g (g x1 24) x2 _ rfl sz) kM_has ⟨Nat.le_of_ble_eq_true rfl, Nat.le_of_ble_eq_true rfl⟩ ⟨rfl, rfl⟩ ⟨Nat.zero_le _, Nat.zero_le _⟩ rfl rfl (Nat.le_of_ble_eq_true rfl) dX12_isLent_5 (fun hz5 => ?_)
  refine g_if_eq C 47 dX12_isLent_8 (by decide) (fun c8 => ?_) (fun c8 => ?_)
  · have h := iteT c8 h
    refine g_iconst C dX12_isLent_47 ic_0 ?_
    obtain rfl := Option.some.inj h
    exact g_zret C rfl rfl rfl rfl dX12_isLent_48
  · have h := iteF c8 h
    refine g_iload_n C dX12_isLent_11 rfl 2 rfl ?_
    refine g_iload_n C dX12_isLent_12 rfl 3 rfl ?_
    refine g_icmp_eq C 47 dX12_isLent_13 (by decide) (fun c13 => ?_) (fun c13 => ?_)
    · have h := iteT c13 h
      refine g_iconst C dX12_isLent_47 ic_0 ?_
      obtain rfl := Option.some.inj h
      exact g_zret C rfl rfl rfl rfl dX12_isLent_48
    · have h := iteF c13 h
      refine g_aload_n C dX12_isLent_16 rfl 0 rfl ?_
      refine g_aload_n C dX12_isLent_17 rfl 1 rfl ?_
      refine g_iload_n C dX12_isLent_18 rfl 2 rfl ?_
      obtain ⟨r19, hr19, h⟩ := bnd h
      refine g_cVi (k := 0) (As := [.ref (ad x1), .int x2]) (rest := []) (ro := r19) (go := g) (xo := xo) C (fun sz => cM_stones l D T ad xo g x1 x2 _ hr19 sz) kM_stones ⟨Nat.le_of_ble_eq_true rfl, Nat.le_of_ble_eq_true rfl⟩ ⟨rfl, rfl⟩ ⟨Nat.zero_le _, Nat.zero_le _⟩ (rfl : vwCl[11]? = some (RX12, TX12, 48)) kM0 rfl rfl (Nat.le_of_ble_eq_true rfl) dX12_isLent_19 ?_
      refine g_aload_n C dX12_isLent_22 rfl 0 rfl ?_
      refine gM_get_told C dX12_isLent_23 ?_
      refine g_iconst C dX12_isLent_26 ic_1 ?_
      refine g_iald (n := 2) (v := g 4 1) C ln_4 (by decide) rfl dX12_isLent_27 ?_
      refine g_icmp_ge C 47 dX12_isLent_28 (by decide) (fun c28 => ?_) (fun c28 => ?_)
      · have h := iteT c28 h
        refine g_iconst C dX12_isLent_47 ic_0 ?_
        obtain rfl := Option.some.inj h
        exact g_zret C rfl rfl rfl rfl dX12_isLent_48
      · have h := iteF c28 h
        refine g_aload_n C dX12_isLent_31 rfl 0 rfl ?_
        refine g_aload_n C dX12_isLent_32 rfl 1 rfl ?_
        refine g_iload_n C dX12_isLent_33 rfl 2 rfl ?_
        refine g_iload_n C dX12_isLent_34 rfl 3 rfl ?_
        obtain ⟨⟨r35, g35⟩, hr35, h⟩ := bnd h
        refine g_cVi (k := 0) (As := [.ref (ad x1), .int x2, .int x3]) (rest := []) (ro := r35) (go := g35) (xo := xo) C (fun sz => cM_willOf l D T ad xo g x1 x2 x3 _ hr35 sz) kM_willOf ⟨Nat.le_of_ble_eq_true rfl, Nat.le_of_ble_eq_true rfl⟩ ⟨rfl, rfl⟩ ⟨Nat.zero_le _, Nat.zero_le _⟩ (rfl : vwCl[11]? = some (RX12, TX12, 48)) kM0 rfl rfl (Nat.le_of_ble_eq_true rfl) dX12_isLent_35 ?_
        refine g_bipush C dX12_isLent_38 bp_10 ?_
        refine g_icmp_lt C 47 dX12_isLent_40 (by decide) (fun c40 => ?_) (fun c40 => ?_)
        · have h := iteT c40 h
          refine g_iconst C dX12_isLent_47 ic_0 ?_
          obtain rfl := Option.some.inj h
          exact g_zret C rfl rfl rfl rfl dX12_isLent_48
        · have h := iteF c40 h
          refine g_iconst C dX12_isLent_43 ic_1 ?_
          refine g_goto (tgt := 48) C dX12_isLent_44 (by decide) ?_
          obtain rfl := Option.some.inj h
          exact g_zret C rfl rfl rfl rfl dX12_isLent_48
def fM_lenderOf_b59 (x1 : Nat) (x2 : Int32) (x3 : Int32) (x4 : Int32) (x5 : Int32) (g : St) : Option ((Int32 × Int32 × Int32 × St) ⊕ ((Int32 × St))) :=
  some (.inl (x3, x4, (x5 + (1 : Int32)), g))
def fM_lenderOf_L8 (x1 : Nat) (x2 : Int32) : (Int32 × Int32 × Int32 × St) → Option ((Int32 × Int32 × Int32 × St) ⊕ ((Int32 × St))) := fun ⟨x3, x4, x5, g⟩ =>
  if (g 4 0) ≤ x5 then
    (some (.inr (x3, g)))
  else
    ((fM_isLent x1 x5 x2 g).bind fun ⟨r24, g24⟩ => (if r24 = 0 then
    (fM_lenderOf_b59 x1 x2 x3 x4 x5 g24)
  else
    ((fM_willOf x1 x5 x2 g24).bind fun ⟨r35, g35⟩ => (if x4 < r35 then
    ((fM_willOf x1 x5 x2 g35).bind fun ⟨r54, g54⟩ => (fM_lenderOf_b59 x1 x2 x5 r54 x5 g54))
  else
    (fM_lenderOf_b59 x1 x2 x3 x4 x5 g35)))))
def fM_lenderOf_b8 (x1 : Nat) (x2 : Int32) (x3 : Int32) (x4 : Int32) (x5 : Int32) (g : St) : Option (Int32 × St) :=
  (lp (fM_lenderOf_L8 x1 x2) fuel (x3, x4, x5, g)).bind (fun ⟨x3, g⟩ => some (x3, g))
def fM_lenderOf (x1 : Nat) (x2 : Int32) (g : St) : Option (Int32 × St) :=
  fM_lenderOf_b8 x1 x2 (-1 : Int32) (-1 : Int32) (0 : Int32) g
def rmM_lenderOf : Room := { frames := 6, cells := 0, slots := 0, locals := 139 }
abbrev GcM_lenderOf (l : Launch) (D : va_G) (T : cT) (ad : Nat → Nat) (Γ : Cxt) (o : Int32 × St) (xo : Sl) (x : Sl) (g : St) (pc : Nat) (lv : List (Nat × Value)) (stk : List Value) : Prop := Gj l shM D T ad 6 (rmM_lenderOf) 0 0 Γ (MQ Γ.below (va_Qi (eqI o.1 o.2 xo) (wPost shM D T ad Γ.A) Γ.A) Γ.args Γ.s 0 0 Γ.A) x g pc lv stk
set_option maxRecDepth 100000 in
set_option maxHeartbeats 4000000 in
theorem cM_lenderOf (l : Launch) (D : va_G) (T : cT) (ad : Nat → Nat) (xo : Sl) (g : St) (x1 : Nat) (x2 : Int32) (o : Int32 × St) (h : fM_lenderOf x1 x2 g = some o) (sz : Nat) : Met l yX12_lenderOf wM_lenderOf (rmM_lenderOf) (va_Pc [.ref (ad 0), .ref (ad x1), .int x2] (wPre shM D T ad xo g sz)) (va_Qi (eqI o.1 o.2 xo) (wPost shM D T ad (aW shM T ad xo g sz)) (aW shM T ad xo g sz)) 0 0 (aW shM T ad xo g sz) := by
  refine g_start (Qc := fun A => va_Qi (eqI o.1 o.2 xo) (wPost shM D T ad A) A) (by decide +kernel) rfl rfl (Nat.le_of_ble_eq_true rfl) (lv := [(0, .ref (ad 0)), (1, .ref (ad x1)), (2, .int x2)]) rfl (fun Γ C => ?_)
  show GcM_lenderOf l D T ad Γ o xo xo g 0 [(0, .ref (ad 0)), (1, .ref (ad x1)), (2, .int x2)] []
  have J8 : ∀ (x1 : Nat) (x2 : Int32) (x3 : Int32) (x4 : Int32) (x5 : Int32) (g : St), fM_lenderOf_b8 x1 x2 x3 x4 x5 g = some o → GcM_lenderOf l D T ad Γ o xo xo g 8 [(0, .ref (ad 0)), (1, .ref (ad x1)), (2, .int x2), (3, .int x3), (4, .int x4), (5, .int x5)] [] := by
    intro x1 x2 x3 x4 x5 g h
    obtain ⟨⟨x3, g⟩, ht, h⟩ := bnd h
    refine lp_run (P := fun t : Int32 × Int32 × Int32 × St => match t with | (x3, x4, x5, g) => GcM_lenderOf l D T ad Γ o xo xo g 8 [(0, .ref (ad 0)), (1, .ref (ad x1)), (2, .int x2), (3, .int x3), (4, .int x4), (5, .int x5)] []) (E := fun t : Int32 × St => match t with | (x3, g) => GcM_lenderOf l D T ad Γ o xo xo g 65 [(3, .int x3)] []) ?_ _ _ _ ht ?_
    · rintro ⟨x3, x4, x5, g⟩ z h Kt Ke
      show GcM_lenderOf l D T ad Γ o xo xo g 8 [(0, .ref (ad 0)), (1, .ref (ad x1)), (2, .int x2), (3, .int x3), (4, .int x4), (5, .int x5)] []
      have J59 : ∀ (x3 : Int32) (x4 : Int32) (x5 : Int32) (g : St), fM_lenderOf_b59 x1 x2 x3 x4 x5 g = some z → GcM_lenderOf l D T ad Γ o xo xo g 59 [(0, .ref (ad 0)), (1, .ref (ad x1)), (2, .int x2), (3, .int x3), (4, .int x4), (5, .int x5)] [] := by
        intro x3 x4 x5 g h
        refine g_iinc (lv' := [(5, .int (x5 + (1 : Int32))), (0, .ref (ad 0)), (1, .ref (ad x1)), (2, .int x2), (3, .int x3), (4, .int x4)]) C dX12_lenderOf_59 5 rfl (ii_1 _) (Nat.le_of_ble_eq_true rfl) rfl ?_
        refine g_goto (tgt := 8) C dX12_lenderOf_62 (by decide) ?_
        exact g_sub [1, 2, 3, 4, 5, 0] rfl (Kt _ (Option.some.inj h).symm)
      refine g_iload C dX12_lenderOf_8 5 rfl ?_
      refine g_aload_n C dX12_lenderOf_10 rfl 0 rfl ?_
      refine gM_get_told C dX12_lenderOf_11 ?_
      refine g_iconst C dX12_lenderOf_14 ic_0 ?_
      refine g_iald (n := 2) (v := g 4 0) C ln_4 (by decide) rfl dX12_lenderOf_15 ?_
      refine g_icmp_ge C 65 dX12_lenderOf_16 (by decide) (fun c16 => ?_) (fun c16 => ?_)
      · have h := iteT c16 h
        exact g_sub [3] rfl (Ke _ (Option.some.inj h).symm)
      · have h := iteF c16 h
        refine g_aload_n C dX12_lenderOf_19 rfl 0 rfl ?_
        refine g_aload_n C dX12_lenderOf_20 rfl 1 rfl ?_
        refine g_iload C dX12_lenderOf_21 5 rfl ?_
        refine g_iload_n C dX12_lenderOf_23 rfl 2 rfl ?_
        obtain ⟨⟨r24, g24⟩, hr24, h⟩ := bnd h
        refine g_cVz (k := 0) (As := [.ref (ad x1), .int x5, .int x2]) (rest := []) (ro := r24) (go := g24) (xo := xo) C (fun sz => cM_isLent l D T ad xo g x1 x5 x2 _ hr24 sz) kM_isLent ⟨Nat.le_of_ble_eq_true rfl, Nat.le_of_ble_eq_true rfl⟩ ⟨rfl, rfl⟩ ⟨Nat.zero_le _, Nat.zero_le _⟩ (rfl : vwCl[11]? = some (RX12, TX12, 48)) kM0 rfl rfl (Nat.le_of_ble_eq_true rfl) dX12_lenderOf_24 (fun hz24 => ?_)
        refine g_if_eq C 59 dX12_lenderOf_27 (by decide) (fun c27 => ?_) (fun c27 => ?_)
        · have h := iteT c27 h
          exact J59 x3 x4 x5 g24 h
        · have h := iteF c27 h
          refine g_aload_n C dX12_lenderOf_30 rfl 0 rfl ?_
          refine g_aload_n C dX12_lenderOf_31 rfl 1 rfl ?_
          refine g_iload C dX12_lenderOf_32 5 rfl ?_
          refine g_iload_n C dX12_lenderOf_34 rfl 2 rfl ?_
          obtain ⟨⟨r35, g35⟩, hr35, h⟩ := bnd h
          refine g_cVi (k := 0) (As := [.ref (ad x1), .int x5, .int x2]) (rest := []) (ro := r35) (go := g35) (xo := xo) C (fun sz => cM_willOf l D T ad xo g24 x1 x5 x2 _ hr35 sz) kM_willOf ⟨Nat.le_of_ble_eq_true rfl, Nat.le_of_ble_eq_true rfl⟩ ⟨rfl, rfl⟩ ⟨Nat.zero_le _, Nat.zero_le _⟩ (rfl : vwCl[11]? = some (RX12, TX12, 48)) kM0 rfl rfl (Nat.le_of_ble_eq_true rfl) dX12_lenderOf_35 ?_
          refine g_iload C dX12_lenderOf_38 4 rfl ?_
          refine g_icmp_gt C 46 dX12_lenderOf_40 (by decide) (fun c40 => ?_) (fun c40 => ?_)
          · have h := iteT c40 h
            refine g_iload C dX12_lenderOf_46 5 rfl ?_
            refine g_istore_n (lv' := [(3, .int x5), (0, .ref (ad 0)), (1, .ref (ad x1)), (2, .int x2), (4, .int x4), (5, .int x5)]) C dX12_lenderOf_48 rfl (Nat.le_of_ble_eq_true rfl) rfl ?_
            refine g_aload_n C dX12_lenderOf_49 rfl 1 rfl ?_
            refine g_aload_n C dX12_lenderOf_50 rfl 2 rfl ?_
            refine g_iload C dX12_lenderOf_51 5 rfl ?_
            refine g_iload_n C dX12_lenderOf_53 rfl 3 rfl ?_
            obtain ⟨⟨r54, g54⟩, hr54, h⟩ := bnd h
            refine g_cVi (k := 0) (As := [.ref (ad x1), .int x5, .int x2]) (rest := []) (ro := r54) (go := g54) (xo := xo) C (fun sz => cM_willOf l D T ad xo g35 x1 x5 x2 _ hr54 sz) kM_willOf ⟨Nat.le_of_ble_eq_true rfl, Nat.le_of_ble_eq_true rfl⟩ ⟨rfl, rfl⟩ ⟨Nat.zero_le _, Nat.zero_le _⟩ (rfl : vwCl[11]? = some (RX12, TX12, 48)) kM0 rfl rfl (Nat.le_of_ble_eq_true rfl) dX12_lenderOf_54 ?_
            refine g_istore (lv' := [(4, .int r54), (3, .int x5), (0, .ref (ad 0)), (1, .ref (ad x1)), (2, .int x2), (5, .int x5)]) C dX12_lenderOf_57 (Nat.le_of_ble_eq_true rfl) rfl ?_
            exact g_sub [2, 3, 4, 1, 0, 5] rfl (J59 x5 r54 x5 g54 h)
          · have h := iteF c40 h
            refine g_goto (tgt := 59) C dX12_lenderOf_43 (by decide) ?_
            exact J59 x3 x4 x5 g35 h
    · show GcM_lenderOf l D T ad Γ o xo xo g 65 [(3, .int x3)] []
      refine g_iload_n C dX12_lenderOf_65 rfl 0 rfl ?_
      obtain rfl := Option.some.inj h
      exact g_iret C rfl rfl rfl dX12_lenderOf_66
  refine g_iconst C dX12_lenderOf_0 ic_m1 ?_
  refine g_istore_n (lv' := [(3, .int (-1 : Int32)), (0, .ref (ad 0)), (1, .ref (ad x1)), (2, .int x2)]) C dX12_lenderOf_1 rfl (Nat.le_of_ble_eq_true rfl) rfl ?_
  refine g_iconst C dX12_lenderOf_2 ic_m1 ?_
  refine g_istore (lv' := [(4, .int (-1 : Int32)), (3, .int (-1 : Int32)), (0, .ref (ad 0)), (1, .ref (ad x1)), (2, .int x2)]) C dX12_lenderOf_3 (Nat.le_of_ble_eq_true rfl) rfl ?_
  refine g_iconst C dX12_lenderOf_5 ic_0 ?_
  refine g_istore (lv' := [(5, .int (0 : Int32)), (4, .int (-1 : Int32)), (3, .int (-1 : Int32)), (0, .ref (ad 0)), (1, .ref (ad x1)), (2, .int x2)]) C dX12_lenderOf_6 (Nat.le_of_ble_eq_true rfl) rfl ?_
  exact g_sub [3, 4, 5, 2, 1, 0] rfl (J8 x1 x2 (-1 : Int32) (-1 : Int32) (0 : Int32) g h)
def fM_lies (x0 : Nat) (x1 : Int32) (x2 : Int32) (g : St) : Option (St) :=
  if ¬ (((8 : Int32) + x1) < 0 ∨ (lenW shM x0) ≤ ((8 : Int32) + x1).toNatClampNeg) then (if ¬ (((0 : Int32) + x2) < 0 ∨ (lenW shM x0) ≤ ((0 : Int32) + x2).toNatClampNeg) then (if ¬ (((0 : Int32) + x1) < 0 ∨ (lenW shM x0) ≤ ((0 : Int32) + x1).toNatClampNeg) then (some (st (st (st g x0 (((8 : Int32) + x1).toNatClampNeg) x2) x0 (((0 : Int32) + x2).toNatClampNeg) (fM_less (999 : Int32) (((st g x0 (((8 : Int32) + x1).toNatClampNeg) x2) x0 (((0 : Int32) + x2).toNatClampNeg)) + ((st g x0 (((8 : Int32) + x1).toNatClampNeg) x2) x0 (((0 : Int32) + x1).toNatClampNeg))))) x0 (((0 : Int32) + x1).toNatClampNeg) (0 : Int32))) else none) else none) else none
def rmM_lies : Room := { frames := 1, cells := 0, slots := 0, locals := 21 }
abbrev GcM_lies (l : Launch) (D : va_G) (T : cT) (ad : Nat → Nat) (Γ : Cxt) (o : St) (xo : Sl) (x : Sl) (g : St) (pc : Nat) (lv : List (Nat × Value)) (stk : List Value) : Prop := Gj l shM D T ad 3 (rmM_lies) 0 0 Γ (MQ Γ.below (va_Qv (eqV o xo) (wPost shM D T ad Γ.A) Γ.A) Γ.args Γ.s 0 0 Γ.A) x g pc lv stk
set_option maxRecDepth 100000 in
set_option maxHeartbeats 4000000 in
theorem cM_lies (l : Launch) (D : va_G) (T : cT) (ad : Nat → Nat) (xo : Sl) (g : St) (x0 : Nat) (x1 : Int32) (x2 : Int32) (o : St) (h : fM_lies x0 x1 x2 g = some o) (sz : Nat) : Met l yX12_lies wM_lies (rmM_lies) (va_Pc [.ref (ad x0), .int x1, .int x2] (wPre shM D T ad xo g sz)) (va_Qv (eqV o xo) (wPost shM D T ad (aW shM T ad xo g sz)) (aW shM T ad xo g sz)) 0 0 (aW shM T ad xo g sz) := by
  refine g_start (Qc := fun A => va_Qv (eqV o xo) (wPost shM D T ad A) A) (by decide +kernel) rfl rfl (Nat.le_of_ble_eq_true rfl) (lv := [(0, .ref (ad x0)), (1, .int x1), (2, .int x2)]) rfl (fun Γ C => ?_)
  show GcM_lies l D T ad Γ o xo xo g 0 [(0, .ref (ad x0)), (1, .int x1), (2, .int x2)] []
  refine g_aload_n C dX12_lies_0 rfl 0 rfl ?_
  refine g_bipush C dX12_lies_1 bp_8 ?_
  refine g_iload_n C dX12_lies_3 rfl 1 rfl ?_
  refine g_iadd C dX12_lies_4 ?_
  refine g_iload_n C dX12_lies_5 rfl 2 rfl ?_
  obtain ⟨hi6, h⟩ := grd h
  refine g_iast (n := (lenW shM x0)) (q := ((8 : Int32) + x1).toNatClampNeg) C rfl hi6 rfl dX12_lies_6 ?_
  refine g_aload_n C dX12_lies_7 rfl 0 rfl ?_
  refine g_iconst C dX12_lies_8 ic_0 ?_
  refine g_iload_n C dX12_lies_9 rfl 2 rfl ?_
  refine g_iadd C dX12_lies_10 ?_
  refine g_sipush C dX12_lies_11 sp_999 ?_
  refine g_aload_n C dX12_lies_14 rfl 0 rfl ?_
  refine g_iconst C dX12_lies_15 ic_0 ?_
  refine g_iload_n C dX12_lies_16 rfl 2 rfl ?_
  refine g_iadd C dX12_lies_17 ?_
  obtain ⟨hi18, h⟩ := grd h
  refine g_iald (n := (lenW shM x0)) (v := (st g x0 (((8 : Int32) + x1).toNatClampNeg) x2) x0 (((0 : Int32) + x2).toNatClampNeg)) C rfl hi18 rfl dX12_lies_18 ?_
  refine g_aload_n C dX12_lies_19 rfl 0 rfl ?_
  refine g_iconst C dX12_lies_20 ic_0 ?_
  refine g_iload_n C dX12_lies_21 rfl 1 rfl ?_
  refine g_iadd C dX12_lies_22 ?_
  obtain ⟨hi23, h⟩ := grd h
  refine g_iald (n := (lenW shM x0)) (v := (st g x0 (((8 : Int32) + x1).toNatClampNeg) x2) x0 (((0 : Int32) + x1).toNatClampNeg)) C rfl hi23 rfl dX12_lies_23 ?_
  refine g_iadd C dX12_lies_24 ?_
  refine g_cSi (As := [.int (999 : Int32), .int (((st g x0 (((8 : Int32) + x1).toNatClampNeg) x2) x0 (((0 : Int32) + x2).toNatClampNeg)) + ((st g x0 (((8 : Int32) + x1).toNatClampNeg) x2) x0 (((0 : Int32) + x1).toNatClampNeg)))]) (rest := [.int ((0 : Int32) + x2), .ref (ad x0)]) (ro := (fM_less (999 : Int32) (((st g x0 (((8 : Int32) + x1).toNatClampNeg) x2) x0 (((0 : Int32) + x2).toNatClampNeg)) + ((st g x0 (((8 : Int32) + x1).toNatClampNeg) x2) x0 (((0 : Int32) + x1).toNatClampNeg))))) (go := (st g x0 (((8 : Int32) + x1).toNatClampNeg) x2)) (xo := xo) C (fun sz => cM_less l D T ad xo (st g x0 (((8 : Int32) + x1).toNatClampNeg) x2) (999 : Int32) (((st g x0 (((8 : Int32) + x1).toNatClampNeg) x2) x0 (((0 : Int32) + x2).toNatClampNeg)) + ((st g x0 (((8 : Int32) + x1).toNatClampNeg) x2) x0 (((0 : Int32) + x1).toNatClampNeg))) _ rfl sz) kM_less ⟨Nat.le_of_ble_eq_true rfl, Nat.le_of_ble_eq_true rfl⟩ ⟨rfl, rfl⟩ ⟨Nat.zero_le _, Nat.zero_le _⟩ rfl rfl (Nat.le_of_ble_eq_true rfl) dX12_lies_25 ?_
  refine g_iast (n := (lenW shM x0)) (q := ((0 : Int32) + x2).toNatClampNeg) C rfl hi18 rfl dX12_lies_28 ?_
  refine g_aload_n C dX12_lies_29 rfl 0 rfl ?_
  refine g_iconst C dX12_lies_30 ic_0 ?_
  refine g_iload_n C dX12_lies_31 rfl 1 rfl ?_
  refine g_iadd C dX12_lies_32 ?_
  refine g_iconst C dX12_lies_33 ic_0 ?_
  refine g_iast (n := (lenW shM x0)) (q := ((0 : Int32) + x1).toNatClampNeg) C rfl hi23 rfl dX12_lies_34 ?_
  obtain rfl := Option.some.inj h
  exact g_vret C rfl rfl dX12_lies_35
def fM_dies (x1 : Nat) (x2 : Int32) (g : St) : Option (Int32 × St) :=
  if ¬ ((24 : Int32) < 0 ∨ (lenW shM x1) ≤ (24 : Int32).toNatClampNeg) then (if (fM_has (g x1 24) x2) = 0 then
    (some ((0 : Int32), g))
  else
    (if ¬ ((25 : Int32) < 0 ∨ (lenW shM x1) ≤ (25 : Int32).toNatClampNeg) then (if ¬ (((16 : Int32) + x2) < 0 ∨ (lenW shM x1) ≤ ((16 : Int32) + x2).toNatClampNeg) then ((fM_lenderOf x1 x2 (st (st g x1 24 ((g x1 24) &&& (((1 : Int32) <<< (x2 &&& 31)) ^^^ (-1 : Int32)))) x1 (((16 : Int32) + x2).toNatClampNeg) ((st g x1 24 ((g x1 24) &&& (((1 : Int32) <<< (x2 &&& 31)) ^^^ (-1 : Int32)))) x1 25))).bind fun ⟨r38, g38⟩ => (if r38 = (-1 : Int32) then
    (some ((1 : Int32), g38))
  else
    ((fM_lies x1 x2 r38 g38).bind fun g50 => (some ((1 : Int32), g50))))) else none) else none)) else none
def rmM_dies : Room := { frames := 7, cells := 0, slots := 0, locals := 164 }
abbrev GcM_dies (l : Launch) (D : va_G) (T : cT) (ad : Nat → Nat) (Γ : Cxt) (o : Int32 × St) (xo : Sl) (x : Sl) (g : St) (pc : Nat) (lv : List (Nat × Value)) (stk : List Value) : Prop := Gj l shM D T ad 4 (rmM_dies) 0 0 Γ (MQ Γ.below (va_Qi (eqZ o.1 o.2 xo) (wPost shM D T ad Γ.A) Γ.A) Γ.args Γ.s 0 0 Γ.A) x g pc lv stk
set_option maxRecDepth 100000 in
set_option maxHeartbeats 4000000 in
theorem cM_dies (l : Launch) (D : va_G) (T : cT) (ad : Nat → Nat) (xo : Sl) (g : St) (x1 : Nat) (x2 : Int32) (o : Int32 × St) (h : fM_dies x1 x2 g = some o) (sz : Nat) : Met l yX12_dies wM_dies (rmM_dies) (va_Pc [.ref (ad 0), .ref (ad x1), .int x2] (wPre shM D T ad xo g sz)) (va_Qi (eqZ o.1 o.2 xo) (wPost shM D T ad (aW shM T ad xo g sz)) (aW shM T ad xo g sz)) 0 0 (aW shM T ad xo g sz) := by
  refine g_start (Qc := fun A => va_Qi (eqZ o.1 o.2 xo) (wPost shM D T ad A) A) (by decide +kernel) rfl rfl (Nat.le_of_ble_eq_true rfl) (lv := [(0, .ref (ad 0)), (1, .ref (ad x1)), (2, .int x2)]) rfl (fun Γ C => ?_)
  show GcM_dies l D T ad Γ o xo xo g 0 [(0, .ref (ad 0)), (1, .ref (ad x1)), (2, .int x2)] []
  refine g_aload_n C dX12_dies_0 rfl 1 rfl ?_
  refine g_bipush C dX12_dies_1 bp_24 ?_
  obtain ⟨hi3, h⟩ := grd h
  refine g_iald (n := (lenW shM x1)) (v := g x1 24) C rfl hi3 rfl dX12_dies_3 ?_
  refine g_iload_n C dX12_dies_4 rfl 2 rfl ?_
  refine g_cSz (As := [.int (g x1 24), .int x2]) (rest := []) (ro := (fM_has (g x1 24) x2)) (go := g) (xo := xo) C (fun sz => cM_has l D T ad xo g (g x1 24) x2 _ rfl sz) kM_has ⟨Nat.le_of_ble_eq_true rfl, Nat.le_of_ble_eq_true rfl⟩ ⟨rfl, rfl⟩ ⟨Nat.zero_le _, Nat.zero_le _⟩ rfl rfl (Nat.le_of_ble_eq_true rfl) dX12_dies_5 (fun hz5 => ?_)
  refine g_if_ne C 13 dX12_dies_8 (by decide) (fun c8 => ?_) (fun c8 => ?_)
  · have h := iteT c8 h
    refine g_iconst C dX12_dies_11 ic_0 ?_
    obtain rfl := Option.some.inj h
    exact g_zret C rfl rfl rfl rfl dX12_dies_12
  · have h := iteF c8 h
    refine g_aload_n C dX12_dies_13 rfl 1 rfl ?_
    refine g_bipush C dX12_dies_14 bp_24 ?_
    refine g_dup2 C dX12_dies_16 rfl rfl ?_
    refine g_iald (n := (lenW shM x1)) (v := g x1 24) C rfl hi3 rfl dX12_dies_17 ?_
    refine g_iconst C dX12_dies_18 ic_1 ?_
    refine g_iload_n C dX12_dies_19 rfl 2 rfl ?_
    refine g_ishl C dX12_dies_20 ?_
    refine g_iconst C dX12_dies_21 ic_m1 ?_
    refine g_ixor C dX12_dies_22 ?_
    refine g_iand C dX12_dies_23 ?_
    refine g_iast (n := (lenW shM x1)) (q := 24) C rfl hi3 cl_24 dX12_dies_24 ?_
    refine g_aload_n C dX12_dies_25 rfl 1 rfl ?_
    refine g_bipush C dX12_dies_26 bp_16 ?_
    refine g_iload_n C dX12_dies_28 rfl 2 rfl ?_
    refine g_iadd C dX12_dies_29 ?_
    refine g_aload_n C dX12_dies_30 rfl 1 rfl ?_
    refine g_bipush C dX12_dies_31 bp_25 ?_
    obtain ⟨hi33, h⟩ := grd h
    refine g_iald (n := (lenW shM x1)) (v := (st g x1 24 ((g x1 24) &&& (((1 : Int32) <<< (x2 &&& 31)) ^^^ (-1 : Int32)))) x1 25) C rfl hi33 rfl dX12_dies_33 ?_
    obtain ⟨hi34, h⟩ := grd h
    refine g_iast (n := (lenW shM x1)) (q := ((16 : Int32) + x2).toNatClampNeg) C rfl hi34 rfl dX12_dies_34 ?_
    refine g_aload_n C dX12_dies_35 rfl 0 rfl ?_
    refine g_aload_n C dX12_dies_36 rfl 1 rfl ?_
    refine g_iload_n C dX12_dies_37 rfl 2 rfl ?_
    obtain ⟨⟨r38, g38⟩, hr38, h⟩ := bnd h
    refine g_cVi (k := 0) (As := [.ref (ad x1), .int x2]) (rest := []) (ro := r38) (go := g38) (xo := xo) C (fun sz => cM_lenderOf l D T ad xo (st (st g x1 24 ((g x1 24) &&& (((1 : Int32) <<< (x2 &&& 31)) ^^^ (-1 : Int32)))) x1 (((16 : Int32) + x2).toNatClampNeg) ((st g x1 24 ((g x1 24) &&& (((1 : Int32) <<< (x2 &&& 31)) ^^^ (-1 : Int32)))) x1 25)) x1 x2 _ hr38 sz) kM_lenderOf ⟨Nat.le_of_ble_eq_true rfl, Nat.le_of_ble_eq_true rfl⟩ ⟨rfl, rfl⟩ ⟨Nat.zero_le _, Nat.zero_le _⟩ (rfl : vwCl[11]? = some (RX12, TX12, 48)) kM0 rfl rfl (Nat.le_of_ble_eq_true rfl) dX12_dies_38 ?_
    refine g_istore_n (lv' := [(3, .int r38), (0, .ref (ad 0)), (1, .ref (ad x1)), (2, .int x2)]) C dX12_dies_41 rfl (Nat.le_of_ble_eq_true rfl) rfl ?_
    refine g_iload_n C dX12_dies_42 rfl 0 rfl ?_
    refine g_iconst C dX12_dies_43 ic_m1 ?_
    refine g_icmp_eq C 53 dX12_dies_44 (by decide) (fun c44 => ?_) (fun c44 => ?_)
    · have h := iteT c44 h
      refine g_iconst C dX12_dies_53 ic_1 ?_
      obtain rfl := Option.some.inj h
      exact g_zret C rfl rfl rfl rfl dX12_dies_54
    · have h := iteF c44 h
      refine g_aload_n C dX12_dies_47 rfl 2 rfl ?_
      refine g_iload_n C dX12_dies_48 rfl 3 rfl ?_
      refine g_iload_n C dX12_dies_49 rfl 0 rfl ?_
      obtain ⟨g50, hr50, h⟩ := bnd h
      refine g_cSv (As := [.ref (ad x1), .int x2, .int r38]) (rest := []) (go := g50) (xo := xo) C (fun sz => cM_lies l D T ad xo g38 x1 x2 r38 _ hr50 sz) kM_lies ⟨Nat.le_of_ble_eq_true rfl, Nat.le_of_ble_eq_true rfl⟩ ⟨rfl, rfl⟩ ⟨Nat.zero_le _, Nat.zero_le _⟩ rfl rfl (Nat.le_of_ble_eq_true rfl) dX12_dies_50 ?_
      refine g_iconst C dX12_dies_53 ic_1 ?_
      obtain rfl := Option.some.inj h
      exact g_zret C rfl rfl rfl rfl dX12_dies_54
def fM_lendsLate (x1 : Nat) (x2 : Int32) (x3 : Int32) (g : St) : Option (Int32 × St) :=
  if ¬ ((24 : Int32) < 0 ∨ (lenW shM x1) ≤ (24 : Int32).toNatClampNeg) then (if (fM_has (g x1 24) x3) = 0 then
    (if ¬ (((8 : Int32) + x3) < 0 ∨ (lenW shM x1) ≤ ((8 : Int32) + x3).toNatClampNeg) then (if (g x1 (((8 : Int32) + x3).toNatClampNeg)) = (-1 : Int32) then
    ((fM_isLent x1 x2 x3 g).bind fun ⟨r25, g25⟩ => (if r25 = 0 then
    (some ((0 : Int32), g25))
  else
    ((fM_lies x1 x3 x2 g25).bind fun g36 => (some ((1 : Int32), g36)))))
  else
    (some ((0 : Int32), g))) else none)
  else
    (some ((0 : Int32), g))) else none
def rmM_lendsLate : Room := { frames := 6, cells := 0, slots := 0, locals := 139 }
abbrev GcM_lendsLate (l : Launch) (D : va_G) (T : cT) (ad : Nat → Nat) (Γ : Cxt) (o : Int32 × St) (xo : Sl) (x : Sl) (g : St) (pc : Nat) (lv : List (Nat × Value)) (stk : List Value) : Prop := Gj l shM D T ad 4 (rmM_lendsLate) 0 0 Γ (MQ Γ.below (va_Qi (eqZ o.1 o.2 xo) (wPost shM D T ad Γ.A) Γ.A) Γ.args Γ.s 0 0 Γ.A) x g pc lv stk
set_option maxRecDepth 100000 in
set_option maxHeartbeats 4000000 in
theorem cM_lendsLate (l : Launch) (D : va_G) (T : cT) (ad : Nat → Nat) (xo : Sl) (g : St) (x1 : Nat) (x2 : Int32) (x3 : Int32) (o : Int32 × St) (h : fM_lendsLate x1 x2 x3 g = some o) (sz : Nat) : Met l yX12_lendsLate wM_lendsLate (rmM_lendsLate) (va_Pc [.ref (ad 0), .ref (ad x1), .int x2, .int x3] (wPre shM D T ad xo g sz)) (va_Qi (eqZ o.1 o.2 xo) (wPost shM D T ad (aW shM T ad xo g sz)) (aW shM T ad xo g sz)) 0 0 (aW shM T ad xo g sz) := by
  refine g_start (Qc := fun A => va_Qi (eqZ o.1 o.2 xo) (wPost shM D T ad A) A) (by decide +kernel) rfl rfl (Nat.le_of_ble_eq_true rfl) (lv := [(0, .ref (ad 0)), (1, .ref (ad x1)), (2, .int x2), (3, .int x3)]) rfl (fun Γ C => ?_)
  show GcM_lendsLate l D T ad Γ o xo xo g 0 [(0, .ref (ad 0)), (1, .ref (ad x1)), (2, .int x2), (3, .int x3)] []
  refine g_aload_n C dX12_lendsLate_0 rfl 1 rfl ?_
  refine g_bipush C dX12_lendsLate_1 bp_24 ?_
  obtain ⟨hi3, h⟩ := grd h
  refine g_iald (n := (lenW shM x1)) (v := g x1 24) C rfl hi3 rfl dX12_lendsLate_3 ?_
  refine g_iload_n C dX12_lendsLate_4 rfl 3 rfl ?_
  refine g_cSz (As := [.int (g x1 24), .int x3]) (rest := []) (ro := (fM_has (g x1 24) x3)) (go := g) (xo := xo) C (fun sz => cM_has l D T ad xo g (g x1 24) x3 _ rfl sz) kM_has ⟨Nat.le_of_ble_eq_true rfl, Nat.le_of_ble_eq_true rfl⟩ ⟨rfl, rfl⟩ ⟨Nat.zero_le _, Nat.zero_le _⟩ rfl rfl (Nat.le_of_ble_eq_true rfl) dX12_lendsLate_5 (fun hz5 => ?_)
  refine g_if_ne C 31 dX12_lendsLate_8 (by decide) (fun c8 => ?_) (fun c8 => ?_)
  · have h := iteT c8 h
    refine g_aload_n C dX12_lendsLate_11 rfl 1 rfl ?_
    refine g_bipush C dX12_lendsLate_12 bp_8 ?_
    refine g_iload_n C dX12_lendsLate_14 rfl 3 rfl ?_
    refine g_iadd C dX12_lendsLate_15 ?_
    obtain ⟨hi16, h⟩ := grd h
    refine g_iald (n := (lenW shM x1)) (v := g x1 (((8 : Int32) + x3).toNatClampNeg)) C rfl hi16 rfl dX12_lendsLate_16 ?_
    refine g_iconst C dX12_lendsLate_17 ic_m1 ?_
    refine g_icmp_ne C 31 dX12_lendsLate_18 (by decide) (fun c18 => ?_) (fun c18 => ?_)
    · have h := iteT c18 h
      refine g_aload_n C dX12_lendsLate_21 rfl 0 rfl ?_
      refine g_aload_n C dX12_lendsLate_22 rfl 1 rfl ?_
      refine g_iload_n C dX12_lendsLate_23 rfl 2 rfl ?_
      refine g_iload_n C dX12_lendsLate_24 rfl 3 rfl ?_
      obtain ⟨⟨r25, g25⟩, hr25, h⟩ := bnd h
      refine g_cVz (k := 0) (As := [.ref (ad x1), .int x2, .int x3]) (rest := []) (ro := r25) (go := g25) (xo := xo) C (fun sz => cM_isLent l D T ad xo g x1 x2 x3 _ hr25 sz) kM_isLent ⟨Nat.le_of_ble_eq_true rfl, Nat.le_of_ble_eq_true rfl⟩ ⟨rfl, rfl⟩ ⟨Nat.zero_le _, Nat.zero_le _⟩ (rfl : vwCl[11]? = some (RX12, TX12, 48)) kM0 rfl rfl (Nat.le_of_ble_eq_true rfl) dX12_lendsLate_25 (fun hz25 => ?_)
      refine g_if_ne C 33 dX12_lendsLate_28 (by decide) (fun c28 => ?_) (fun c28 => ?_)
      · have h := iteT c28 h
        refine g_iconst C dX12_lendsLate_31 ic_0 ?_
        obtain rfl := Option.some.inj h
        exact g_zret C rfl rfl rfl rfl dX12_lendsLate_32
      · have h := iteF c28 h
        refine g_aload_n C dX12_lendsLate_33 rfl 1 rfl ?_
        refine g_iload_n C dX12_lendsLate_34 rfl 3 rfl ?_
        refine g_iload_n C dX12_lendsLate_35 rfl 2 rfl ?_
        obtain ⟨g36, hr36, h⟩ := bnd h
        refine g_cSv (As := [.ref (ad x1), .int x3, .int x2]) (rest := []) (go := g36) (xo := xo) C (fun sz => cM_lies l D T ad xo g25 x1 x3 x2 _ hr36 sz) kM_lies ⟨Nat.le_of_ble_eq_true rfl, Nat.le_of_ble_eq_true rfl⟩ ⟨rfl, rfl⟩ ⟨Nat.zero_le _, Nat.zero_le _⟩ rfl rfl (Nat.le_of_ble_eq_true rfl) dX12_lendsLate_36 ?_
        refine g_iconst C dX12_lendsLate_39 ic_1 ?_
        obtain rfl := Option.some.inj h
        exact g_zret C rfl rfl rfl rfl dX12_lendsLate_40
    · have h := iteF c18 h
      refine g_iconst C dX12_lendsLate_31 ic_0 ?_
      obtain rfl := Option.some.inj h
      exact g_zret C rfl rfl rfl rfl dX12_lendsLate_32
  · have h := iteF c8 h
    refine g_iconst C dX12_lendsLate_31 ic_0 ?_
    obtain rfl := Option.some.inj h
    exact g_zret C rfl rfl rfl rfl dX12_lendsLate_32
def fM_becomes (x0 : Nat) (x1 : Int32) (x2 : Int32) (g : St) : Option (Int32 × St) :=
  if ¬ (x1 < 0 ∨ (lenW shM x0) ≤ x1.toNatClampNeg) then (if (g x0 x1.toNatClampNeg) = x2 then
    (some ((0 : Int32), g))
  else
    (some ((1 : Int32), (st g x0 x1.toNatClampNeg x2)))) else none
def rmM_becomes : Room := { frames := 0, cells := 0, slots := 0, locals := 0 }
abbrev GcM_becomes (l : Launch) (D : va_G) (T : cT) (ad : Nat → Nat) (Γ : Cxt) (o : Int32 × St) (xo : Sl) (x : Sl) (g : St) (pc : Nat) (lv : List (Nat × Value)) (stk : List Value) : Prop := Gj l shM D T ad 3 (rmM_becomes) 0 0 Γ (MQ Γ.below (va_Qi (eqZ o.1 o.2 xo) (wPost shM D T ad Γ.A) Γ.A) Γ.args Γ.s 0 0 Γ.A) x g pc lv stk
set_option maxRecDepth 100000 in
set_option maxHeartbeats 4000000 in
theorem cM_becomes (l : Launch) (D : va_G) (T : cT) (ad : Nat → Nat) (xo : Sl) (g : St) (x0 : Nat) (x1 : Int32) (x2 : Int32) (o : Int32 × St) (h : fM_becomes x0 x1 x2 g = some o) (sz : Nat) : Met l yX12_becomes wM_becomes (rmM_becomes) (va_Pc [.ref (ad x0), .int x1, .int x2] (wPre shM D T ad xo g sz)) (va_Qi (eqZ o.1 o.2 xo) (wPost shM D T ad (aW shM T ad xo g sz)) (aW shM T ad xo g sz)) 0 0 (aW shM T ad xo g sz) := by
  refine g_start (Qc := fun A => va_Qi (eqZ o.1 o.2 xo) (wPost shM D T ad A) A) (by decide +kernel) rfl rfl (Nat.le_of_ble_eq_true rfl) (lv := [(0, .ref (ad x0)), (1, .int x1), (2, .int x2)]) rfl (fun Γ C => ?_)
  show GcM_becomes l D T ad Γ o xo xo g 0 [(0, .ref (ad x0)), (1, .int x1), (2, .int x2)] []
  refine g_aload_n C dX12_becomes_0 rfl 0 rfl ?_
  refine g_iload_n C dX12_becomes_1 rfl 1 rfl ?_
  obtain ⟨hi2, h⟩ := grd h
  refine g_iald (n := (lenW shM x0)) (v := g x0 x1.toNatClampNeg) C rfl hi2 rfl dX12_becomes_2 ?_
  refine g_iload_n C dX12_becomes_3 rfl 2 rfl ?_
  refine g_icmp_ne C 9 dX12_becomes_4 (by decide) (fun c4 => ?_) (fun c4 => ?_)
  · have h := iteT c4 h
    refine g_iconst C dX12_becomes_7 ic_0 ?_
    obtain rfl := Option.some.inj h
    exact g_zret C rfl rfl rfl rfl dX12_becomes_8
  · have h := iteF c4 h
    refine g_aload_n C dX12_becomes_9 rfl 0 rfl ?_
    refine g_iload_n C dX12_becomes_10 rfl 1 rfl ?_
    refine g_iload_n C dX12_becomes_11 rfl 2 rfl ?_
    refine g_iast (n := (lenW shM x0)) (q := x1.toNatClampNeg) C rfl hi2 rfl dX12_becomes_12 ?_
    refine g_iconst C dX12_becomes_13 ic_1 ?_
    obtain rfl := Option.some.inj h
    exact g_zret C rfl rfl rfl rfl dX12_becomes_14
def fM_yearEnds_b51 (x1 : Nat) (x2 : Int32) (s0 : Nat) (s1 : Int32) (s2 : Int32) (s3 : Int32) (g : St) : Option ((Int32 × St) ⊕ (St)) :=
  if ¬ (s1 < 0 ∨ (lenW shM s0) ≤ s1.toNatClampNeg) then (some (.inl ((x2 + (1 : Int32)), (st g s0 s1.toNatClampNeg (s2 + s3))))) else none
def fM_yearEnds_L2 (x1 : Nat) : (Int32 × St) → Option ((Int32 × St) ⊕ (St)) := fun ⟨x2, g⟩ =>
  if (g 4 0) ≤ x2 then
    (some (.inr g))
  else
    (if ¬ (((0 : Int32) + x2) < 0 ∨ (lenW shM x1) ≤ ((0 : Int32) + x2).toNatClampNeg) then (if ¬ ((24 : Int32) < 0 ∨ (lenW shM x1) ≤ (24 : Int32).toNatClampNeg) then (if (fM_has (g x1 24) x2) = 0 then
    (fM_yearEnds_b51 x1 x2 x1 ((0 : Int32) + x2) (g x1 (((0 : Int32) + x2).toNatClampNeg)) (0 : Int32) g)
  else
    ((fM_stones x1 x2 g).bind fun r41 => (fM_yearEnds_b51 x1 x2 x1 ((0 : Int32) + x2) (g x1 (((0 : Int32) + x2).toNatClampNeg)) (fM_less ((999 : Int32) - (g x1 (((0 : Int32) + x2).toNatClampNeg))) r41) g))) else none) else none)
def fM_yearEnds_b2 (x1 : Nat) (x2 : Int32) (g : St) : Option (St) :=
  (lp (fM_yearEnds_L2 x1) fuel (x2, g)).bind (fun g => if ¬ ((25 : Int32) < 0 ∨ (lenW shM x1) ≤ (25 : Int32).toNatClampNeg) then (some (st g x1 25 ((g x1 25) + (1 : Int32)))) else none)
def fM_yearEnds (x1 : Nat) (g : St) : Option (St) :=
  fM_yearEnds_b2 x1 (0 : Int32) g
def rmM_yearEnds : Room := { frames := 2, cells := 0, slots := 0, locals := 46 }
abbrev GcM_yearEnds (l : Launch) (D : va_G) (T : cT) (ad : Nat → Nat) (Γ : Cxt) (o : St) (xo : Sl) (x : Sl) (g : St) (pc : Nat) (lv : List (Nat × Value)) (stk : List Value) : Prop := Gj l shM D T ad 3 (rmM_yearEnds) 0 0 Γ (MQ Γ.below (va_Qv (eqV o xo) (wPost shM D T ad Γ.A) Γ.A) Γ.args Γ.s 0 0 Γ.A) x g pc lv stk
set_option maxRecDepth 100000 in
set_option maxHeartbeats 4000000 in
theorem cM_yearEnds (l : Launch) (D : va_G) (T : cT) (ad : Nat → Nat) (xo : Sl) (g : St) (x1 : Nat) (o : St) (h : fM_yearEnds x1 g = some o) (sz : Nat) : Met l yX12_yearEnds wM_yearEnds (rmM_yearEnds) (va_Pc [.ref (ad 0), .ref (ad x1)] (wPre shM D T ad xo g sz)) (va_Qv (eqV o xo) (wPost shM D T ad (aW shM T ad xo g sz)) (aW shM T ad xo g sz)) 0 0 (aW shM T ad xo g sz) := by
  refine g_start (Qc := fun A => va_Qv (eqV o xo) (wPost shM D T ad A) A) (by decide +kernel) rfl rfl (Nat.le_of_ble_eq_true rfl) (lv := [(0, .ref (ad 0)), (1, .ref (ad x1))]) rfl (fun Γ C => ?_)
  show GcM_yearEnds l D T ad Γ o xo xo g 0 [(0, .ref (ad 0)), (1, .ref (ad x1))] []
  have J2 : ∀ (x1 : Nat) (x2 : Int32) (g : St), fM_yearEnds_b2 x1 x2 g = some o → GcM_yearEnds l D T ad Γ o xo xo g 2 [(0, .ref (ad 0)), (1, .ref (ad x1)), (2, .int x2)] [] := by
    intro x1 x2 g h
    obtain ⟨g, ht, h⟩ := bnd h
    refine lp_run (P := fun t : Int32 × St => match t with | (x2, g) => GcM_yearEnds l D T ad Γ o xo xo g 2 [(0, .ref (ad 0)), (1, .ref (ad x1)), (2, .int x2)] []) (E := fun g : St => GcM_yearEnds l D T ad Γ o xo xo g 59 [(1, .ref (ad x1))] []) ?_ _ _ _ ht ?_
    · rintro ⟨x2, g⟩ z h Kt Ke
      show GcM_yearEnds l D T ad Γ o xo xo g 2 [(0, .ref (ad 0)), (1, .ref (ad x1)), (2, .int x2)] []
      have J51 : ∀ (x2 : Int32) (s0 : Nat) (s1 : Int32) (s2 : Int32) (s3 : Int32) (g : St), fM_yearEnds_b51 x1 x2 s0 s1 s2 s3 g = some z → GcM_yearEnds l D T ad Γ o xo xo g 51 [(0, .ref (ad 0)), (1, .ref (ad x1)), (2, .int x2)] [.int s3, .int s2, .int s1, .ref (ad s0)] := by
        intro x2 s0 s1 s2 s3 g h
        refine g_iadd C dX12_yearEnds_51 ?_
        obtain ⟨hi52, h⟩ := grd h
        refine g_iast (n := (lenW shM s0)) (q := s1.toNatClampNeg) C rfl hi52 rfl dX12_yearEnds_52 ?_
        refine g_iinc (lv' := [(2, .int (x2 + (1 : Int32))), (0, .ref (ad 0)), (1, .ref (ad x1))]) C dX12_yearEnds_53 2 rfl (ii_1 _) (Nat.le_of_ble_eq_true rfl) rfl ?_
        refine g_goto (tgt := 2) C dX12_yearEnds_56 (by decide) ?_
        exact g_sub [1, 2, 0] rfl (Kt _ (Option.some.inj h).symm)
      refine g_iload_n C dX12_yearEnds_2 rfl 2 rfl ?_
      refine g_aload_n C dX12_yearEnds_3 rfl 0 rfl ?_
      refine gM_get_told C dX12_yearEnds_4 ?_
      refine g_iconst C dX12_yearEnds_7 ic_0 ?_
      refine g_iald (n := 2) (v := g 4 0) C ln_4 (by decide) rfl dX12_yearEnds_8 ?_
      refine g_icmp_ge C 59 dX12_yearEnds_9 (by decide) (fun c9 => ?_) (fun c9 => ?_)
      · have h := iteT c9 h
        exact g_sub [1] rfl (Ke _ (Option.some.inj h).symm)
      · have h := iteF c9 h
        refine g_aload_n C dX12_yearEnds_12 rfl 1 rfl ?_
        refine g_iconst C dX12_yearEnds_13 ic_0 ?_
        refine g_iload_n C dX12_yearEnds_14 rfl 2 rfl ?_
        refine g_iadd C dX12_yearEnds_15 ?_
        refine g_dup2 C dX12_yearEnds_16 rfl rfl ?_
        obtain ⟨hi17, h⟩ := grd h
        refine g_iald (n := (lenW shM x1)) (v := g x1 (((0 : Int32) + x2).toNatClampNeg)) C rfl hi17 rfl dX12_yearEnds_17 ?_
        refine g_aload_n C dX12_yearEnds_18 rfl 1 rfl ?_
        refine g_bipush C dX12_yearEnds_19 bp_24 ?_
        obtain ⟨hi21, h⟩ := grd h
        refine g_iald (n := (lenW shM x1)) (v := g x1 24) C rfl hi21 rfl dX12_yearEnds_21 ?_
        refine g_iload_n C dX12_yearEnds_22 rfl 2 rfl ?_
        refine g_cSz (As := [.int (g x1 24), .int x2]) (rest := [.int (g x1 (((0 : Int32) + x2).toNatClampNeg)), .int ((0 : Int32) + x2), .ref (ad x1)]) (ro := (fM_has (g x1 24) x2)) (go := g) (xo := xo) C (fun sz => cM_has l D T ad xo g (g x1 24) x2 _ rfl sz) kM_has ⟨Nat.le_of_ble_eq_true rfl, Nat.le_of_ble_eq_true rfl⟩ ⟨rfl, rfl⟩ ⟨Nat.zero_le _, Nat.zero_le _⟩ rfl rfl (Nat.le_of_ble_eq_true rfl) dX12_yearEnds_23 (fun hz23 => ?_)
        refine g_if_eq C 50 dX12_yearEnds_26 (by decide) (fun c26 => ?_) (fun c26 => ?_)
        · have h := iteT c26 h
          refine g_iconst C dX12_yearEnds_50 ic_0 ?_
          exact J51 x2 x1 ((0 : Int32) + x2) (g x1 (((0 : Int32) + x2).toNatClampNeg)) (0 : Int32) g h
        · have h := iteF c26 h
          refine g_sipush C dX12_yearEnds_29 sp_999 ?_
          refine g_aload_n C dX12_yearEnds_32 rfl 1 rfl ?_
          refine g_iconst C dX12_yearEnds_33 ic_0 ?_
          refine g_iload_n C dX12_yearEnds_34 rfl 2 rfl ?_
          refine g_iadd C dX12_yearEnds_35 ?_
          refine g_iald (n := (lenW shM x1)) (v := g x1 (((0 : Int32) + x2).toNatClampNeg)) C rfl hi17 rfl dX12_yearEnds_36 ?_
          refine g_isub C dX12_yearEnds_37 ?_
          refine g_aload_n C dX12_yearEnds_38 rfl 0 rfl ?_
          refine g_aload_n C dX12_yearEnds_39 rfl 1 rfl ?_
          refine g_iload_n C dX12_yearEnds_40 rfl 2 rfl ?_
          obtain ⟨r41, hr41, h⟩ := bnd h
          refine g_cVi (k := 0) (As := [.ref (ad x1), .int x2]) (rest := [.int ((999 : Int32) - (g x1 (((0 : Int32) + x2).toNatClampNeg))), .int (g x1 (((0 : Int32) + x2).toNatClampNeg)), .int ((0 : Int32) + x2), .ref (ad x1)]) (ro := r41) (go := g) (xo := xo) C (fun sz => cM_stones l D T ad xo g x1 x2 _ hr41 sz) kM_stones ⟨Nat.le_of_ble_eq_true rfl, Nat.le_of_ble_eq_true rfl⟩ ⟨rfl, rfl⟩ ⟨Nat.zero_le _, Nat.zero_le _⟩ (rfl : vwCl[11]? = some (RX12, TX12, 48)) kM0 rfl rfl (Nat.le_of_ble_eq_true rfl) dX12_yearEnds_41 ?_
          refine g_cSi (As := [.int ((999 : Int32) - (g x1 (((0 : Int32) + x2).toNatClampNeg))), .int r41]) (rest := [.int (g x1 (((0 : Int32) + x2).toNatClampNeg)), .int ((0 : Int32) + x2), .ref (ad x1)]) (ro := (fM_less ((999 : Int32) - (g x1 (((0 : Int32) + x2).toNatClampNeg))) r41)) (go := g) (xo := xo) C (fun sz => cM_less l D T ad xo g ((999 : Int32) - (g x1 (((0 : Int32) + x2).toNatClampNeg))) r41 _ rfl sz) kM_less ⟨Nat.le_of_ble_eq_true rfl, Nat.le_of_ble_eq_true rfl⟩ ⟨rfl, rfl⟩ ⟨Nat.zero_le _, Nat.zero_le _⟩ rfl rfl (Nat.le_of_ble_eq_true rfl) dX12_yearEnds_44 ?_
          refine g_goto (tgt := 51) C dX12_yearEnds_47 (by decide) ?_
          exact J51 x2 x1 ((0 : Int32) + x2) (g x1 (((0 : Int32) + x2).toNatClampNeg)) (fM_less ((999 : Int32) - (g x1 (((0 : Int32) + x2).toNatClampNeg))) r41) g h
    · show GcM_yearEnds l D T ad Γ o xo xo g 59 [(1, .ref (ad x1))] []
      refine g_aload_n C dX12_yearEnds_59 rfl 0 rfl ?_
      refine g_bipush C dX12_yearEnds_60 bp_25 ?_
      refine g_dup2 C dX12_yearEnds_62 rfl rfl ?_
      obtain ⟨hi63, h⟩ := grd h
      refine g_iald (n := (lenW shM x1)) (v := g x1 25) C rfl hi63 rfl dX12_yearEnds_63 ?_
      refine g_iconst C dX12_yearEnds_64 ic_1 ?_
      refine g_iadd C dX12_yearEnds_65 ?_
      refine g_iast (n := (lenW shM x1)) (q := 25) C rfl hi63 cl_25 dX12_yearEnds_66 ?_
      obtain rfl := Option.some.inj h
      exact g_vret C rfl rfl dX12_yearEnds_67
  refine g_iconst C dX12_yearEnds_0 ic_0 ?_
  refine g_istore_n (lv' := [(2, .int (0 : Int32)), (0, .ref (ad 0)), (1, .ref (ad x1))]) C dX12_yearEnds_1 rfl (Nat.le_of_ble_eq_true rfl) rfl ?_
  exact g_sub [1, 2, 0] rfl (J2 x1 (0 : Int32) g h)
def fM_does (x1 : Nat) (x2 : Nat) (g : St) : Option (Int32 × St) :=
  if ¬ ((1 : Int32) < 0 ∨ (lenW shM x2) ≤ (1 : Int32).toNatClampNeg) then (if ¬ ((0 : Int32) < 0 ∨ (lenW shM x2) ≤ (0 : Int32).toNatClampNeg) then (if (g x2 0) = 0 then
    ((fM_dies x1 (g x2 1) g).bind fun ⟨r39, g39⟩ => (some (r39, g39)))
  else
    (if (g x2 0) = 1 then
    (if ¬ ((2 : Int32) < 0 ∨ (lenW shM x2) ≤ (2 : Int32).toNatClampNeg) then ((fM_lendsLate x1 (g x2 1) (g x2 2) g).bind fun ⟨r49, g49⟩ => (some (r49, g49))) else none)
  else
    (if (g x2 0) = 2 then
    (if ¬ (((0 : Int32) + (g x2 1)) < 0 ∨ (lenW shM x1) ≤ ((0 : Int32) + (g x2 1)).toNatClampNeg) then (if ¬ ((2 : Int32) < 0 ∨ (lenW shM x2) ≤ (2 : Int32).toNatClampNeg) then ((fM_becomes x1 ((0 : Int32) + (g x2 1)) (fM_more (0 : Int32) ((g x1 (((0 : Int32) + (g x2 1)).toNatClampNeg)) - (g x2 2))) g).bind fun ⟨r70, g70⟩ => (some (r70, g70))) else none) else none)
  else
    (if (g x2 0) = 3 then
    (if ¬ ((24 : Int32) < 0 ∨ (lenW shM x1) ≤ (24 : Int32).toNatClampNeg) then (if (fM_has (g x1 24) (g x2 1)) = 0 then
    (some ((0 : Int32), g))
  else
    (if ¬ (((0 : Int32) + (g x2 1)) < 0 ∨ (lenW shM x1) ≤ ((0 : Int32) + (g x2 1)).toNatClampNeg) then (if ¬ ((2 : Int32) < 0 ∨ (lenW shM x2) ≤ (2 : Int32).toNatClampNeg) then ((fM_becomes x1 ((0 : Int32) + (g x2 1)) (fM_less (999 : Int32) ((g x1 (((0 : Int32) + (g x2 1)).toNatClampNeg)) + (g x2 2))) g).bind fun ⟨r104, g104⟩ => (if r104 = 0 then
    (some ((0 : Int32), g104))
  else
    (some ((1 : Int32), g104)))) else none) else none)) else none)
  else
    (if ¬ ((25 : Int32) < 0 ∨ (lenW shM x1) ≤ (25 : Int32).toNatClampNeg) then (if (g x1 25) < (900 : Int32) then
    ((fM_yearEnds x1 g).bind fun g130 => (some ((1 : Int32), g130)))
  else
    (some ((0 : Int32), g))) else none))))) else none) else none
def rmM_does : Room := { frames := 8, cells := 0, slots := 0, locals := 187 }
abbrev GcM_does (l : Launch) (D : va_G) (T : cT) (ad : Nat → Nat) (Γ : Cxt) (o : Int32 × St) (xo : Sl) (x : Sl) (g : St) (pc : Nat) (lv : List (Nat × Value)) (stk : List Value) : Prop := Gj l shM D T ad 4 (rmM_does) 0 0 Γ (MQ Γ.below (va_Qi (eqZ o.1 o.2 xo) (wPost shM D T ad Γ.A) Γ.A) Γ.args Γ.s 0 0 Γ.A) x g pc lv stk
set_option maxRecDepth 100000 in
set_option maxHeartbeats 4000000 in
theorem cM_does (l : Launch) (D : va_G) (T : cT) (ad : Nat → Nat) (xo : Sl) (g : St) (x1 : Nat) (x2 : Nat) (o : Int32 × St) (h : fM_does x1 x2 g = some o) (sz : Nat) : Met l yX12_does wM_does (rmM_does) (va_Pc [.ref (ad 0), .ref (ad x1), .ref (ad x2)] (wPre shM D T ad xo g sz)) (va_Qi (eqZ o.1 o.2 xo) (wPost shM D T ad (aW shM T ad xo g sz)) (aW shM T ad xo g sz)) 0 0 (aW shM T ad xo g sz) := by
  refine g_start (Qc := fun A => va_Qi (eqZ o.1 o.2 xo) (wPost shM D T ad A) A) (by decide +kernel) rfl rfl (Nat.le_of_ble_eq_true rfl) (lv := [(0, .ref (ad 0)), (1, .ref (ad x1)), (2, .ref (ad x2))]) rfl (fun Γ C => ?_)
  show GcM_does l D T ad Γ o xo xo g 0 [(0, .ref (ad 0)), (1, .ref (ad x1)), (2, .ref (ad x2))] []
  refine g_aload_n C dX12_does_0 rfl 2 rfl ?_
  refine g_iconst C dX12_does_1 ic_1 ?_
  obtain ⟨hi2, h⟩ := grd h
  refine g_iald (n := (lenW shM x2)) (v := g x2 1) C rfl hi2 rfl dX12_does_2 ?_
  refine g_istore_n (lv' := [(3, .int (g x2 1)), (0, .ref (ad 0)), (1, .ref (ad x1)), (2, .ref (ad x2))]) C dX12_does_3 rfl (Nat.le_of_ble_eq_true rfl) rfl ?_
  refine g_aload_n C dX12_does_4 rfl 3 rfl ?_
  refine g_iconst C dX12_does_5 ic_0 ?_
  obtain ⟨hi6, h⟩ := grd h
  refine g_iald (n := (lenW shM x2)) (v := g x2 0) C rfl hi6 rfl dX12_does_6 ?_
  by_cases c7_0 : (g x2 0) = 0
  · have h := iteT c7_0 h
    refine g_tabIn C 0 36 dX12_does_7 c7_0 (by decide) (by decide) rfl (by decide) ?_
    refine g_aload_n C dX12_does_36 rfl 1 rfl ?_
    refine g_aload_n C dX12_does_37 rfl 2 rfl ?_
    refine g_iload_n C dX12_does_38 rfl 0 rfl ?_
    obtain ⟨⟨r39, g39⟩, hr39, h⟩ := bnd h
    refine g_cVz (k := 0) (As := [.ref (ad x1), .int (g x2 1)]) (rest := []) (ro := r39) (go := g39) (xo := xo) C (fun sz => cM_dies l D T ad xo g x1 (g x2 1) _ hr39 sz) kM_dies ⟨Nat.le_of_ble_eq_true rfl, Nat.le_of_ble_eq_true rfl⟩ ⟨rfl, rfl⟩ ⟨Nat.zero_le _, Nat.zero_le _⟩ (rfl : vwCl[11]? = some (RX12, TX12, 48)) kM0 rfl rfl (Nat.le_of_ble_eq_true rfl) dX12_does_39 (fun hz39 => ?_)
    obtain rfl := Option.some.inj h
    exact g_zret C hz39 rfl rfl rfl dX12_does_42
  have h := iteF c7_0 h
  by_cases c7_1 : (g x2 0) = 1
  · have h := iteT c7_1 h
    refine g_tabIn C 1 43 dX12_does_7 c7_1 (by decide) (by decide) rfl (by decide) ?_
    refine g_aload_n C dX12_does_43 rfl 1 rfl ?_
    refine g_aload_n C dX12_does_44 rfl 2 rfl ?_
    refine g_iload_n C dX12_does_45 rfl 0 rfl ?_
    refine g_aload_n C dX12_does_46 rfl 3 rfl ?_
    refine g_iconst C dX12_does_47 ic_2 ?_
    obtain ⟨hi48, h⟩ := grd h
    refine g_iald (n := (lenW shM x2)) (v := g x2 2) C rfl hi48 rfl dX12_does_48 ?_
    obtain ⟨⟨r49, g49⟩, hr49, h⟩ := bnd h
    refine g_cVz (k := 0) (As := [.ref (ad x1), .int (g x2 1), .int (g x2 2)]) (rest := []) (ro := r49) (go := g49) (xo := xo) C (fun sz => cM_lendsLate l D T ad xo g x1 (g x2 1) (g x2 2) _ hr49 sz) kM_lendsLate ⟨Nat.le_of_ble_eq_true rfl, Nat.le_of_ble_eq_true rfl⟩ ⟨rfl, rfl⟩ ⟨Nat.zero_le _, Nat.zero_le _⟩ (rfl : vwCl[11]? = some (RX12, TX12, 48)) kM0 rfl rfl (Nat.le_of_ble_eq_true rfl) dX12_does_49 (fun hz49 => ?_)
    obtain rfl := Option.some.inj h
    exact g_zret C hz49 rfl rfl rfl dX12_does_52
  have h := iteF c7_1 h
  by_cases c7_2 : (g x2 0) = 2
  · have h := iteT c7_2 h
    refine g_tabIn C 2 53 dX12_does_7 c7_2 (by decide) (by decide) rfl (by decide) ?_
    refine g_aload_n C dX12_does_53 rfl 2 rfl ?_
    refine g_iconst C dX12_does_54 ic_0 ?_
    refine g_iload_n C dX12_does_55 rfl 0 rfl ?_
    refine g_iadd C dX12_does_56 ?_
    refine g_iconst C dX12_does_57 ic_0 ?_
    refine g_aload_n C dX12_does_58 rfl 2 rfl ?_
    refine g_iconst C dX12_does_59 ic_0 ?_
    refine g_iload_n C dX12_does_60 rfl 0 rfl ?_
    refine g_iadd C dX12_does_61 ?_
    obtain ⟨hi62, h⟩ := grd h
    refine g_iald (n := (lenW shM x1)) (v := g x1 (((0 : Int32) + (g x2 1)).toNatClampNeg)) C rfl hi62 rfl dX12_does_62 ?_
    refine g_aload_n C dX12_does_63 rfl 3 rfl ?_
    refine g_iconst C dX12_does_64 ic_2 ?_
    obtain ⟨hi65, h⟩ := grd h
    refine g_iald (n := (lenW shM x2)) (v := g x2 2) C rfl hi65 rfl dX12_does_65 ?_
    refine g_isub C dX12_does_66 ?_
    refine g_cSi (As := [.int (0 : Int32), .int ((g x1 (((0 : Int32) + (g x2 1)).toNatClampNeg)) - (g x2 2))]) (rest := [.int ((0 : Int32) + (g x2 1)), .ref (ad x1)]) (ro := (fM_more (0 : Int32) ((g x1 (((0 : Int32) + (g x2 1)).toNatClampNeg)) - (g x2 2)))) (go := g) (xo := xo) C (fun sz => cM_more l D T ad xo g (0 : Int32) ((g x1 (((0 : Int32) + (g x2 1)).toNatClampNeg)) - (g x2 2)) _ rfl sz) kM_more ⟨Nat.le_of_ble_eq_true rfl, Nat.le_of_ble_eq_true rfl⟩ ⟨rfl, rfl⟩ ⟨Nat.zero_le _, Nat.zero_le _⟩ rfl rfl (Nat.le_of_ble_eq_true rfl) dX12_does_67 ?_
    obtain ⟨⟨r70, g70⟩, hr70, h⟩ := bnd h
    refine g_cSz (As := [.ref (ad x1), .int ((0 : Int32) + (g x2 1)), .int (fM_more (0 : Int32) ((g x1 (((0 : Int32) + (g x2 1)).toNatClampNeg)) - (g x2 2)))]) (rest := []) (ro := r70) (go := g70) (xo := xo) C (fun sz => cM_becomes l D T ad xo g x1 ((0 : Int32) + (g x2 1)) (fM_more (0 : Int32) ((g x1 (((0 : Int32) + (g x2 1)).toNatClampNeg)) - (g x2 2))) _ hr70 sz) kM_becomes ⟨Nat.le_of_ble_eq_true rfl, Nat.le_of_ble_eq_true rfl⟩ ⟨rfl, rfl⟩ ⟨Nat.zero_le _, Nat.zero_le _⟩ rfl rfl (Nat.le_of_ble_eq_true rfl) dX12_does_70 (fun hz70 => ?_)
    obtain rfl := Option.some.inj h
    exact g_zret C hz70 rfl rfl rfl dX12_does_73
  have h := iteF c7_2 h
  by_cases c7_3 : (g x2 0) = 3
  · have h := iteT c7_3 h
    refine g_tabIn C 3 74 dX12_does_7 c7_3 (by decide) (by decide) rfl (by decide) ?_
    refine g_aload_n C dX12_does_74 rfl 2 rfl ?_
    refine g_bipush C dX12_does_75 bp_24 ?_
    obtain ⟨hi77, h⟩ := grd h
    refine g_iald (n := (lenW shM x1)) (v := g x1 24) C rfl hi77 rfl dX12_does_77 ?_
    refine g_iload_n C dX12_does_78 rfl 0 rfl ?_
    refine g_cSz (As := [.int (g x1 24), .int (g x2 1)]) (rest := []) (ro := (fM_has (g x1 24) (g x2 1))) (go := g) (xo := xo) C (fun sz => cM_has l D T ad xo g (g x1 24) (g x2 1) _ rfl sz) kM_has ⟨Nat.le_of_ble_eq_true rfl, Nat.le_of_ble_eq_true rfl⟩ ⟨rfl, rfl⟩ ⟨Nat.zero_le _, Nat.zero_le _⟩ rfl rfl (Nat.le_of_ble_eq_true rfl) dX12_does_79 (fun hz79 => ?_)
    refine g_if_eq C 114 dX12_does_82 (by decide) (fun c82 => ?_) (fun c82 => ?_)
    · have h := iteT c82 h
      refine g_iconst C dX12_does_114 ic_0 ?_
      obtain rfl := Option.some.inj h
      exact g_zret C rfl rfl rfl rfl dX12_does_115
    · have h := iteF c82 h
      refine g_aload_n C dX12_does_85 rfl 2 rfl ?_
      refine g_iconst C dX12_does_86 ic_0 ?_
      refine g_iload_n C dX12_does_87 rfl 0 rfl ?_
      refine g_iadd C dX12_does_88 ?_
      refine g_sipush C dX12_does_89 sp_999 ?_
      refine g_aload_n C dX12_does_92 rfl 2 rfl ?_
      refine g_iconst C dX12_does_93 ic_0 ?_
      refine g_iload_n C dX12_does_94 rfl 0 rfl ?_
      refine g_iadd C dX12_does_95 ?_
      obtain ⟨hi96, h⟩ := grd h
      refine g_iald (n := (lenW shM x1)) (v := g x1 (((0 : Int32) + (g x2 1)).toNatClampNeg)) C rfl hi96 rfl dX12_does_96 ?_
      refine g_aload_n C dX12_does_97 rfl 3 rfl ?_
      refine g_iconst C dX12_does_98 ic_2 ?_
      obtain ⟨hi99, h⟩ := grd h
      refine g_iald (n := (lenW shM x2)) (v := g x2 2) C rfl hi99 rfl dX12_does_99 ?_
      refine g_iadd C dX12_does_100 ?_
      refine g_cSi (As := [.int (999 : Int32), .int ((g x1 (((0 : Int32) + (g x2 1)).toNatClampNeg)) + (g x2 2))]) (rest := [.int ((0 : Int32) + (g x2 1)), .ref (ad x1)]) (ro := (fM_less (999 : Int32) ((g x1 (((0 : Int32) + (g x2 1)).toNatClampNeg)) + (g x2 2)))) (go := g) (xo := xo) C (fun sz => cM_less l D T ad xo g (999 : Int32) ((g x1 (((0 : Int32) + (g x2 1)).toNatClampNeg)) + (g x2 2)) _ rfl sz) kM_less ⟨Nat.le_of_ble_eq_true rfl, Nat.le_of_ble_eq_true rfl⟩ ⟨rfl, rfl⟩ ⟨Nat.zero_le _, Nat.zero_le _⟩ rfl rfl (Nat.le_of_ble_eq_true rfl) dX12_does_101 ?_
      obtain ⟨⟨r104, g104⟩, hr104, h⟩ := bnd h
      refine g_cSz (As := [.ref (ad x1), .int ((0 : Int32) + (g x2 1)), .int (fM_less (999 : Int32) ((g x1 (((0 : Int32) + (g x2 1)).toNatClampNeg)) + (g x2 2)))]) (rest := []) (ro := r104) (go := g104) (xo := xo) C (fun sz => cM_becomes l D T ad xo g x1 ((0 : Int32) + (g x2 1)) (fM_less (999 : Int32) ((g x1 (((0 : Int32) + (g x2 1)).toNatClampNeg)) + (g x2 2))) _ hr104 sz) kM_becomes ⟨Nat.le_of_ble_eq_true rfl, Nat.le_of_ble_eq_true rfl⟩ ⟨rfl, rfl⟩ ⟨Nat.zero_le _, Nat.zero_le _⟩ rfl rfl (Nat.le_of_ble_eq_true rfl) dX12_does_104 (fun hz104 => ?_)
      refine g_if_eq C 114 dX12_does_107 (by decide) (fun c107 => ?_) (fun c107 => ?_)
      · have h := iteT c107 h
        refine g_iconst C dX12_does_114 ic_0 ?_
        obtain rfl := Option.some.inj h
        exact g_zret C rfl rfl rfl rfl dX12_does_115
      · have h := iteF c107 h
        refine g_iconst C dX12_does_110 ic_1 ?_
        refine g_goto (tgt := 115) C dX12_does_111 (by decide) ?_
        obtain rfl := Option.some.inj h
        exact g_zret C rfl rfl rfl rfl dX12_does_115
  have h := iteF c7_3 h
  refine g_tabOut C 116 dX12_does_7 (tab_0_3 _ c7_0 c7_1 c7_2 c7_3) (by decide) ?_
  refine g_aload_n C dX12_does_116 rfl 2 rfl ?_
  refine g_bipush C dX12_does_117 bp_25 ?_
  obtain ⟨hi119, h⟩ := grd h
  refine g_iald (n := (lenW shM x1)) (v := g x1 25) C rfl hi119 rfl dX12_does_119 ?_
  refine g_sipush C dX12_does_120 sp_900 ?_
  refine g_icmp_lt C 128 dX12_does_123 (by decide) (fun c123 => ?_) (fun c123 => ?_)
  · have h := iteT c123 h
    refine g_aload_n C dX12_does_128 rfl 1 rfl ?_
    refine g_aload_n C dX12_does_129 rfl 2 rfl ?_
    obtain ⟨g130, hr130, h⟩ := bnd h
    refine g_cVv (k := 0) (As := [.ref (ad x1)]) (rest := []) (go := g130) (xo := xo) C (fun sz => cM_yearEnds l D T ad xo g x1 _ hr130 sz) kM_yearEnds ⟨Nat.le_of_ble_eq_true rfl, Nat.le_of_ble_eq_true rfl⟩ ⟨rfl, rfl⟩ ⟨Nat.zero_le _, Nat.zero_le _⟩ (rfl : vwCl[11]? = some (RX12, TX12, 48)) kM0 rfl rfl (Nat.le_of_ble_eq_true rfl) dX12_does_130 ?_
    refine g_iconst C dX12_does_133 ic_1 ?_
    obtain rfl := Option.some.inj h
    exact g_zret C rfl rfl rfl rfl dX12_does_134
  · have h := iteF c123 h
    refine g_iconst C dX12_does_126 ic_0 ?_
    obtain rfl := Option.some.inj h
    exact g_zret C rfl rfl rfl rfl dX12_does_127
def fM_goes_b143 (rec_goes : Int32 → Int32 → St → Option (St)) (x2 : Int32) (x3 : Int32) (g : St) : Option ((Int32 × St) ⊕ (St)) :=
  if ¬ (x3 < 0 ∨ 80 ≤ x3.toNatClampNeg) then (some (.inl ((g (378 + x3.toNatClampNeg) 3), g))) else none
def fM_goes_b139 (rec_goes : Int32 → Int32 → St → Option (St)) (x2 : Int32) (x3 : Int32) (s1 : Int32) (s2 : Int32) (g : St) : Option ((Int32 × St) ⊕ (St)) :=
  fM_goes_b143 rec_goes x2 x3 (st g 0 33 (s1 + s2))
def fM_goes_b120 (rec_goes : Int32 → Int32 → St → Option (St)) (x2 : Int32) (x3 : Int32) (x4 : Int32) (s1 : Int32) (s2 : Int32) (g : St) : Option ((Int32 × St) ⊕ (St)) :=
  if x4 = 0 then
    (fM_goes_b139 rec_goes x2 x3 (g 0 33) (1 : Int32) (st g 0 37 (s1 + s2)))
  else
    (fM_goes_b139 rec_goes x2 x3 (g 0 33) (0 : Int32) (st g 0 37 (s1 + s2)))
def fM_goes_L42 (rec_goes : Int32 → Int32 → St → Option (St)) (x2 : Int32) (x3 : Int32) : (Int32 × St) → Option ((Int32 × St) ⊕ (St)) := fun ⟨x4, g⟩ =>
  if ¬ (x3 < 0 ∨ 80 ≤ x3.toNatClampNeg) then (if (g (378 + x3.toNatClampNeg) 1) ≤ x4 then
    (some (.inr g))
  else
    (if (200 : Int32) ≤ (g 0 36) then
    (some (.inr g))
  else
    ((rec_goes (x3 + (1 : Int32)) (g (378 + x3.toNatClampNeg) 3) g).bind fun g77 => (some (.inl ((x4 + (1 : Int32)), g77)))))) else none
def fM_goes_b42 (rec_goes : Int32 → Int32 → St → Option (St)) (x2 : Int32) (x3 : Int32) (x4 : Int32) (g : St) : Option ((Int32 × St) ⊕ (St)) :=
  (lp (fM_goes_L42 rec_goes x2 x3) fuel (x4, g)).bind (fun g => fM_goes_b143 rec_goes x2 x3 g)
def fM_goes_L2 (rec_goes : Int32 → Int32 → St → Option (St)) (x2 : Int32) : (Int32 × St) → Option ((Int32 × St) ⊕ (St)) := fun ⟨x3, g⟩ =>
  if x2 ≤ x3 then
    (some (.inr g))
  else
    (if (200 : Int32) ≤ (g 0 36) then
    (some (.inr g))
  else
    (if ¬ (x3 < 0 ∨ 80 ≤ x3.toNatClampNeg) then (if ((st g 0 36 ((g 0 36) + (1 : Int32))) (378 + x3.toNatClampNeg) 0) = (5 : Int32) then
    (fM_goes_b42 rec_goes x2 x3 (0 : Int32) (st g 0 36 ((g 0 36) + (1 : Int32))))
  else
    ((fM_does 16 (378 + x3.toNatClampNeg) (st g 0 36 ((g 0 36) + (1 : Int32)))).bind fun ⟨r100, g100⟩ => (if r100 = 0 then
    (fM_goes_b120 rec_goes x2 x3 r100 (g100 0 37) (0 : Int32) g100)
  else
    (fM_goes_b120 rec_goes x2 x3 r100 (g100 0 37) (1 : Int32) g100)))) else none))
def fM_goes_b2 (rec_goes : Int32 → Int32 → St → Option (St)) (x2 : Int32) (x3 : Int32) (g : St) : Option (St) :=
  (lp (fM_goes_L2 rec_goes x2) fuel (x3, g)).bind (fun g => some g)
def fM_goes_o (rec_goes : Int32 → Int32 → St → Option (St)) (x1 : Int32) (x2 : Int32) (g : St) : Option (St) :=
  fM_goes_b2 rec_goes x2 x1 g
abbrev GcM_goes (l : Launch) (D : va_G) (T : cT) (ad : Nat → Nat) (Γ : Cxt) (o : St) (xo : Sl) (d : Nat) (x : Sl) (g : St) (pc : Nat) (lv : List (Nat × Value)) (stk : List Value) : Prop := Gj l shM D T ad 5 (rmR 9 210 24 (d + 1)) 0 0 Γ (MQ Γ.below (va_Qv (eqV o xo) (wPost shM D T ad Γ.A) Γ.A) Γ.args Γ.s 0 0 Γ.A) x g pc lv stk
set_option maxRecDepth 100000 in
set_option maxHeartbeats 4000000 in
theorem cM_goes_o (l : Launch) (D : va_G) (T : cT) (ad : Nat → Nat) (d : Nat) (rec_goes : Int32 → Int32 → St → Option (St)) (hrec_goes : ∀ (xo : Sl) (g : St) (x1 : Int32) (x2 : Int32) (o : St), rec_goes x1 x2 g = some o → ∀ sz : Nat, Met l yX12_goes wM_goes (rmR 9 210 24 d) (va_Pc [.ref (ad 0), .int x1, .int x2] (wPre shM D T ad xo g sz)) (va_Qv (eqV o xo) (wPost shM D T ad (aW shM T ad xo g sz)) (aW shM T ad xo g sz)) 0 0 (aW shM T ad xo g sz)) (xo : Sl) (g : St) (x1 : Int32) (x2 : Int32) (o : St) (h : fM_goes_o rec_goes x1 x2 g = some o) (sz : Nat) : Met l yX12_goes wM_goes (rmR 9 210 24 (d + 1)) (va_Pc [.ref (ad 0), .int x1, .int x2] (wPre shM D T ad xo g sz)) (va_Qv (eqV o xo) (wPost shM D T ad (aW shM T ad xo g sz)) (aW shM T ad xo g sz)) 0 0 (aW shM T ad xo g sz) := by
  refine g_start (Qc := fun A => va_Qv (eqV o xo) (wPost shM D T ad A) A) (by decide +kernel) rfl rfl (Nat.le_of_ble_eq_true rfl) (lv := [(0, .ref (ad 0)), (1, .int x1), (2, .int x2)]) rfl (fun Γ C => ?_)
  show GcM_goes l D T ad Γ o xo d xo g 0 [(0, .ref (ad 0)), (1, .int x1), (2, .int x2)] []
  have J2 : ∀ (x2 : Int32) (x3 : Int32) (g : St), fM_goes_b2 rec_goes x2 x3 g = some o → GcM_goes l D T ad Γ o xo d xo g 2 [(0, .ref (ad 0)), (2, .int x2), (3, .int x3)] [] := by
    intro x2 x3 g h
    obtain ⟨g, ht, h⟩ := bnd h
    refine lp_run (P := fun t : Int32 × St => match t with | (x3, g) => GcM_goes l D T ad Γ o xo d xo g 2 [(0, .ref (ad 0)), (2, .int x2), (3, .int x3)] []) (E := fun g : St => GcM_goes l D T ad Γ o xo d xo g 155 [] []) ?_ _ _ _ ht ?_
    · rintro ⟨x3, g⟩ z h Kt Ke
      show GcM_goes l D T ad Γ o xo d xo g 2 [(0, .ref (ad 0)), (2, .int x2), (3, .int x3)] []
      have J143 : ∀ (x3 : Int32) (g : St), fM_goes_b143 rec_goes x2 x3 g = some z → GcM_goes l D T ad Γ o xo d xo g 143 [(0, .ref (ad 0)), (2, .int x2), (3, .int x3)] [] := by
        intro x3 g h
        refine g_aload_n C dX12_goes_143 rfl 0 rfl ?_
        refine gM_get_step C dX12_goes_144 ?_
        refine g_iload_n C dX12_goes_147 rfl 2 rfl ?_
        obtain ⟨hi148, h⟩ := grd h
        refine g_aald (n := 80) (q := (378 + x3.toNatClampNeg)) C lg_15 hi148 rfl dX12_goes_148 ?_
        refine g_iconst C dX12_goes_149 ic_3 ?_
        refine g_iald (n := 4) (v := g (378 + x3.toNatClampNeg) 3) C (lenM_step hi148) (by decide) rfl dX12_goes_150 ?_
        refine g_istore_n (lv' := [(3, .int (g (378 + x3.toNatClampNeg) 3)), (0, .ref (ad 0)), (2, .int x2)]) C dX12_goes_151 rfl (Nat.le_of_ble_eq_true rfl) rfl ?_
        refine g_goto (tgt := 2) C dX12_goes_152 (by decide) ?_
        exact g_sub [1, 2, 0] rfl (Kt _ (Option.some.inj h).symm)
      have J139 : ∀ (x3 : Int32) (s1 : Int32) (s2 : Int32) (g : St), fM_goes_b139 rec_goes x2 x3 s1 s2 g = some z → GcM_goes l D T ad Γ o xo d xo g 139 [(0, .ref (ad 0)), (2, .int x2), (3, .int x3)] [.int s2, .int s1, .ref (ad 0)] := by
        intro x3 s1 s2 g h
        refine g_iadd C dX12_goes_139 ?_
        refine gM_put_refusedSteps C dX12_goes_140 ?_
        exact J143 x3 (st g 0 33 (s1 + s2)) h
      have J120 : ∀ (x3 : Int32) (x4 : Int32) (s1 : Int32) (s2 : Int32) (g : St), fM_goes_b120 rec_goes x2 x3 x4 s1 s2 g = some z → GcM_goes l D T ad Γ o xo d xo g 120 [(0, .ref (ad 0)), (2, .int x2), (3, .int x3), (4, .int x4)] [.int s2, .int s1, .ref (ad 0)] := by
        intro x3 x4 s1 s2 g h
        refine g_iadd C dX12_goes_120 ?_
        refine gM_put_doneSteps C dX12_goes_121 ?_
        refine g_aload_n C dX12_goes_124 rfl 0 rfl ?_
        refine g_dup C dX12_goes_125 rfl ?_
        refine gM_get_refusedSteps (v := g 0 33) C rfl dX12_goes_126 ?_
        refine g_iload C dX12_goes_129 3 rfl ?_
        refine g_if_eq C 138 dX12_goes_131 (by decide) (fun c131 => ?_) (fun c131 => ?_)
        · have h := iteT c131 h
          refine g_iconst C dX12_goes_138 ic_1 ?_
          exact g_sub [0, 1, 2] rfl (J139 x3 (g 0 33) (1 : Int32) (st g 0 37 (s1 + s2)) h)
        · have h := iteF c131 h
          refine g_iconst C dX12_goes_134 ic_0 ?_
          refine g_goto (tgt := 139) C dX12_goes_135 (by decide) ?_
          exact g_sub [0, 1, 2] rfl (J139 x3 (g 0 33) (0 : Int32) (st g 0 37 (s1 + s2)) h)
      have J42 : ∀ (x3 : Int32) (x4 : Int32) (g : St), fM_goes_b42 rec_goes x2 x3 x4 g = some z → GcM_goes l D T ad Γ o xo d xo g 42 [(0, .ref (ad 0)), (2, .int x2), (3, .int x3), (4, .int x4)] [] := by
        intro x3 x4 g h
        obtain ⟨g, ht, h⟩ := bnd h
        refine lp_run (P := fun t : Int32 × St => match t with | (x4, g) => GcM_goes l D T ad Γ o xo d xo g 42 [(0, .ref (ad 0)), (2, .int x2), (3, .int x3), (4, .int x4)] []) (E := fun g : St => GcM_goes l D T ad Γ o xo d xo g 86 [(0, .ref (ad 0)), (2, .int x2), (3, .int x3)] []) ?_ _ _ _ ht ?_
        · rintro ⟨x4, g⟩ z h Kt Ke
          show GcM_goes l D T ad Γ o xo d xo g 42 [(0, .ref (ad 0)), (2, .int x2), (3, .int x3), (4, .int x4)] []
          refine g_iload C dX12_goes_42 3 rfl ?_
          refine g_aload_n C dX12_goes_44 rfl 0 rfl ?_
          refine gM_get_step C dX12_goes_45 ?_
          refine g_iload_n C dX12_goes_48 rfl 2 rfl ?_
          obtain ⟨hi49, h⟩ := grd h
          refine g_aald (n := 80) (q := (378 + x3.toNatClampNeg)) C lg_15 hi49 rfl dX12_goes_49 ?_
          refine g_iconst C dX12_goes_50 ic_1 ?_
          refine g_iald (n := 4) (v := g (378 + x3.toNatClampNeg) 1) C (lenM_step hi49) (by decide) rfl dX12_goes_51 ?_
          refine g_icmp_ge C 86 dX12_goes_52 (by decide) (fun c52 => ?_) (fun c52 => ?_)
          · have h := iteT c52 h
            exact g_sub [0, 1, 2] rfl (Ke _ (Option.some.inj h).symm)
          · have h := iteF c52 h
            refine g_aload_n C dX12_goes_55 rfl 0 rfl ?_
            refine gM_get_begun (v := g 0 36) C rfl dX12_goes_56 ?_
            refine g_sipush C dX12_goes_59 sp_200 ?_
            refine g_icmp_ge C 86 dX12_goes_62 (by decide) (fun c62 => ?_) (fun c62 => ?_)
            · have h := iteT c62 h
              exact g_sub [0, 1, 2] rfl (Ke _ (Option.some.inj h).symm)
            · have h := iteF c62 h
              refine g_aload_n C dX12_goes_65 rfl 0 rfl ?_
              refine g_iload_n C dX12_goes_66 rfl 2 rfl ?_
              refine g_iconst C dX12_goes_67 ic_1 ?_
              refine g_iadd C dX12_goes_68 ?_
              refine g_aload_n C dX12_goes_69 rfl 0 rfl ?_
              refine gM_get_step C dX12_goes_70 ?_
              refine g_iload_n C dX12_goes_73 rfl 2 rfl ?_
              refine g_aald (n := 80) (q := (378 + x3.toNatClampNeg)) C lg_15 hi49 rfl dX12_goes_74 ?_
              refine g_iconst C dX12_goes_75 ic_3 ?_
              refine g_iald (n := 4) (v := g (378 + x3.toNatClampNeg) 3) C (lenM_step hi49) (by decide) rfl dX12_goes_76 ?_
              obtain ⟨g77, hr77, h⟩ := bnd h
              refine g_cVv (k := 0) (As := [.int (x3 + (1 : Int32)), .int (g (378 + x3.toNatClampNeg) 3)]) (rest := []) (go := g77) (xo := xo) C (fun sz => hrec_goes xo g (x3 + (1 : Int32)) (g (378 + x3.toNatClampNeg) 3) _ hr77 sz) kM_goes (by show 9 + d + 1 ≤ 9 + (d + 1) ∧ 8 + (5 + 11) + (210 + 24 * d) ≤ 210 + 24 * (d + 1); omega) ⟨rfl, rfl⟩ ⟨Nat.zero_le _, Nat.zero_le _⟩ (rfl : vwCl[11]? = some (RX12, TX12, 48)) kM0 rfl rfl (Nat.le_of_ble_eq_true rfl) dX12_goes_77 ?_
              refine g_iinc (lv' := [(4, .int (x4 + (1 : Int32))), (0, .ref (ad 0)), (2, .int x2), (3, .int x3)]) C dX12_goes_80 3 rfl (ii_1 _) (Nat.le_of_ble_eq_true rfl) rfl ?_
              refine g_goto (tgt := 42) C dX12_goes_83 (by decide) ?_
              exact g_sub [1, 2, 3, 0] rfl (Kt _ (Option.some.inj h).symm)
        · show GcM_goes l D T ad Γ o xo d xo g 86 [(0, .ref (ad 0)), (2, .int x2), (3, .int x3)] []
          refine g_goto (tgt := 143) C dX12_goes_86 (by decide) ?_
          exact J143 x3 g h
      refine g_iload_n C dX12_goes_2 rfl 2 rfl ?_
      refine g_iload_n C dX12_goes_3 rfl 1 rfl ?_
      refine g_icmp_ge C 155 dX12_goes_4 (by decide) (fun c4 => ?_) (fun c4 => ?_)
      · have h := iteT c4 h
        exact g_sub [] rfl (Ke _ (Option.some.inj h).symm)
      · have h := iteF c4 h
        refine g_aload_n C dX12_goes_7 rfl 0 rfl ?_
        refine gM_get_begun (v := g 0 36) C rfl dX12_goes_8 ?_
        refine g_sipush C dX12_goes_11 sp_200 ?_
        refine g_icmp_ge C 155 dX12_goes_14 (by decide) (fun c14 => ?_) (fun c14 => ?_)
        · have h := iteT c14 h
          exact g_sub [] rfl (Ke _ (Option.some.inj h).symm)
        · have h := iteF c14 h
          refine g_aload_n C dX12_goes_17 rfl 0 rfl ?_
          refine g_dup C dX12_goes_18 rfl ?_
          refine gM_get_begun (v := g 0 36) C rfl dX12_goes_19 ?_
          refine g_iconst C dX12_goes_22 ic_1 ?_
          refine g_iadd C dX12_goes_23 ?_
          refine gM_put_begun C dX12_goes_24 ?_
          refine g_aload_n C dX12_goes_27 rfl 0 rfl ?_
          refine gM_get_step C dX12_goes_28 ?_
          refine g_iload_n C dX12_goes_31 rfl 2 rfl ?_
          obtain ⟨hi32, h⟩ := grd h
          refine g_aald (n := 80) (q := (378 + x3.toNatClampNeg)) C lg_15 hi32 rfl dX12_goes_32 ?_
          refine g_iconst C dX12_goes_33 ic_0 ?_
          refine g_iald (n := 4) (v := (st g 0 36 ((g 0 36) + (1 : Int32))) (378 + x3.toNatClampNeg) 0) C (lenM_step hi32) (by decide) rfl dX12_goes_34 ?_
          refine g_iconst C dX12_goes_35 ic_5 ?_
          refine g_icmp_ne C 89 dX12_goes_36 (by decide) (fun c36 => ?_) (fun c36 => ?_)
          · have h := iteT c36 h
            refine g_iconst C dX12_goes_39 ic_0 ?_
            refine g_istore (lv' := [(4, .int (0 : Int32)), (0, .ref (ad 0)), (2, .int x2), (3, .int x3)]) C dX12_goes_40 (Nat.le_of_ble_eq_true rfl) rfl ?_
            exact g_sub [1, 2, 3, 0] rfl (J42 x3 (0 : Int32) (st g 0 36 ((g 0 36) + (1 : Int32))) h)
          · have h := iteF c36 h
            refine g_aload_n C dX12_goes_89 rfl 0 rfl ?_
            refine g_aload_n C dX12_goes_90 rfl 0 rfl ?_
            refine gM_get_now C dX12_goes_91 ?_
            refine g_aload_n C dX12_goes_94 rfl 0 rfl ?_
            refine gM_get_step C dX12_goes_95 ?_
            refine g_iload_n C dX12_goes_98 rfl 2 rfl ?_
            refine g_aald (n := 80) (q := (378 + x3.toNatClampNeg)) C lg_15 hi32 rfl dX12_goes_99 ?_
            obtain ⟨⟨r100, g100⟩, hr100, h⟩ := bnd h
            refine g_cVz (k := 0) (As := [.ref (ad 16), .ref (ad (378 + x3.toNatClampNeg))]) (rest := []) (ro := r100) (go := g100) (xo := xo) C (fun sz => cM_does l D T ad xo (st g 0 36 ((g 0 36) + (1 : Int32))) 16 (378 + x3.toNatClampNeg) _ hr100 sz) kM_does (by show 8 + 1 ≤ 9 + (d + 1) ∧ 8 + (4 + 11) + 187 ≤ 210 + 24 * (d + 1); omega) ⟨rfl, rfl⟩ ⟨Nat.zero_le _, Nat.zero_le _⟩ (rfl : vwCl[11]? = some (RX12, TX12, 48)) kM0 rfl rfl (Nat.le_of_ble_eq_true rfl) dX12_goes_100 (fun hz100 => ?_)
            refine g_istore (lv' := [(4, .int r100), (0, .ref (ad 0)), (2, .int x2), (3, .int x3)]) C dX12_goes_103 (Nat.le_of_ble_eq_true rfl) rfl ?_
            refine g_aload_n C dX12_goes_105 rfl 1 rfl ?_
            refine g_dup C dX12_goes_106 rfl ?_
            refine gM_get_doneSteps (v := g100 0 37) C rfl dX12_goes_107 ?_
            refine g_iload C dX12_goes_110 0 rfl ?_
            refine g_if_eq C 119 dX12_goes_112 (by decide) (fun c112 => ?_) (fun c112 => ?_)
            · have h := iteT c112 h
              refine g_iconst C dX12_goes_119 ic_0 ?_
              exact g_sub [1, 2, 3, 0] rfl (J120 x3 r100 (g100 0 37) (0 : Int32) g100 h)
            · have h := iteF c112 h
              refine g_iconst C dX12_goes_115 ic_1 ?_
              refine g_goto (tgt := 120) C dX12_goes_116 (by decide) ?_
              exact g_sub [1, 2, 3, 0] rfl (J120 x3 r100 (g100 0 37) (1 : Int32) g100 h)
    · show GcM_goes l D T ad Γ o xo d xo g 155 [] []
      obtain rfl := Option.some.inj h
      exact g_vret C rfl rfl dX12_goes_155
  refine g_iload_n C dX12_goes_0 rfl 1 rfl ?_
  refine g_istore_n (lv' := [(3, .int x1), (0, .ref (ad 0)), (1, .int x1), (2, .int x2)]) C dX12_goes_1 rfl (Nat.le_of_ble_eq_true rfl) rfl ?_
  exact g_sub [1, 3, 0] rfl (J2 x2 x1 g h)
def fM_grp_goes : Nat → Int32 → Int32 → St → Option (St)
  | 0 => fun _ _ _ => none
  | d + 1 => fM_goes_o (fM_grp_goes d)
def fM_goes (d : Nat) : Int32 → Int32 → St → Option (St) := (fM_grp_goes d)
theorem cM_grp_goes (l : Launch) (D : va_G) (T : cT) (ad : Nat → Nat) : ∀ d : Nat, (∀ (xo : Sl) (g : St) (x1 : Int32) (x2 : Int32) (o : St), fM_goes d x1 x2 g = some o → ∀ sz : Nat, Met l yX12_goes wM_goes (rmR 9 210 24 d) (va_Pc [.ref (ad 0), .int x1, .int x2] (wPre shM D T ad xo g sz)) (va_Qv (eqV o xo) (wPost shM D T ad (aW shM T ad xo g sz)) (aW shM T ad xo g sz)) 0 0 (aW shM T ad xo g sz)) := by
  intro d
  induction d with
  | zero =>
    exact (fun _ _ _ _ _ h => nomatch h)
  | succ d ih =>
    exact (fun xo g a0 a1 o h sz => cM_goes_o l D T ad d _ ih xo g a0 a1 o h sz)
def rmM_goes : Room := rmR 9 210 24 30
theorem cM_goes (l : Launch) (D : va_G) (T : cT) (ad : Nat → Nat) (xo : Sl) (g : St) (x1 : Int32) (x2 : Int32) (o : St) (h : fM_goes 30 x1 x2 g = some o) (sz : Nat) : Met l yX12_goes wM_goes rmM_goes (va_Pc [.ref (ad 0), .int x1, .int x2] (wPre shM D T ad xo g sz)) (va_Qv (eqV o xo) (wPost shM D T ad (aW shM T ad xo g sz)) (aW shM T ad xo g sz)) 0 0 (aW shM T ad xo g sz) := (cM_grp_goes l D T ad 30) xo g x1 x2 o h sz
def fM_work_L72 : St → Option ((St) ⊕ (St)) := fun g =>
  if (g 0 5) = 0 then
    (if (g 0 2) ≤ (g 0 4) then
    (some (.inr g))
  else
    ((fM_readsStep 30 g).bind fun g91 => ((fM_blanks g91).bind fun g95 => (some (.inl g95)))))
  else
    (some (.inr g))
def fM_work_b72 (g : St) : Option (Int32 × St) :=
  (lp (fM_work_L72) fuel g).bind (fun g => if (g 0 5) = 0 then
    (if ¬ ((g 0 32) < 0 ∨ 16 ≤ (g 0 32).toNatClampNeg) then ((fM_copies 16 (458 + (g 0 32).toNatClampNeg) (st g 0 3 (-1 : Int32))).bind fun g131 => ((fM_goes 30 (0 : Int32) (g131 0 26) (st (st (st (st g131 0 32 ((g131 0 32) + (1 : Int32))) 0 36 (0 : Int32)) 0 37 (0 : Int32)) 0 33 (0 : Int32))).bind fun g165 => (some ((g165 0 37), g165)))) else none)
  else
    (lt1 (fM_ends g) fun ⟨r109, g109⟩ => (some (r109, g109))))
def fM_work_b30 (x1 : Int32) (s1 : Int32) (g : St) : Option (Int32 × St) :=
  (fM_bad s1 (1 : Int32) (1 : Int32) g).bind fun ⟨r32, g32⟩ => (if r32 = 0 then
    (if (g32 0 32) = (16 : Int32) then
    (some ((-20 : Int32), (st (st g32 0 1 (0 : Int32)) 0 3 (-1 : Int32))))
  else
    ((fM_starts x1 g32).bind fun g64 => (fM_work_b72 (st g64 0 26 (0 : Int32)))))
  else
    (some ((0 : Int32), g32)))
def fM_work_b25 (x1 : Int32) (g : St) : Option (Int32 × St) :=
  fM_work_b30 x1 (1 : Int32) g
def fM_work (x1 : Int32) (g : St) : Option (Int32 × St) :=
  if (fM_in x1 (0 : Int32) (g 0 1)) = 0 then
    (fM_work_b25 x1 (st g 0 0 (0 : Int32)))
  else
    (if x1 ≤ (150 : Int32) then
    (fM_work_b30 x1 (0 : Int32) (st g 0 0 (0 : Int32)))
  else
    (fM_work_b25 x1 (st g 0 0 (0 : Int32))))
def rmM_work : Room := { frames := 40, cells := 0, slots := 0, locals := 954 }
abbrev GcM_work (l : Launch) (D : va_G) (T : cT) (ad : Nat → Nat) (Γ : Cxt) (o : Int32 × St) (xo : Sl) (x : Sl) (g : St) (pc : Nat) (lv : List (Nat × Value)) (stk : List Value) : Prop := Gj l shM D T ad 2 (rmM_work) 0 0 Γ (MQ Γ.below (va_Qi (eqI o.1 o.2 xo) (wPost shM D T ad Γ.A) Γ.A) Γ.args Γ.s 0 0 Γ.A) x g pc lv stk
set_option maxRecDepth 100000 in
set_option maxHeartbeats 4000000 in
theorem cM_work (l : Launch) (D : va_G) (T : cT) (ad : Nat → Nat) (xo : Sl) (g : St) (x1 : Int32) (o : Int32 × St) (h : fM_work x1 g = some o) (sz : Nat) : Met l yX12_work wM_work (rmM_work) (va_Pc [.ref (ad 0), .int x1] (wPre shM D T ad xo g sz)) (va_Qi (eqI o.1 o.2 xo) (wPost shM D T ad (aW shM T ad xo g sz)) (aW shM T ad xo g sz)) 0 0 (aW shM T ad xo g sz) := by
  refine g_start (Qc := fun A => va_Qi (eqI o.1 o.2 xo) (wPost shM D T ad A) A) (by decide +kernel) rfl rfl (Nat.le_of_ble_eq_true rfl) (lv := [(0, .ref (ad 0)), (1, .int x1)]) rfl (fun Γ C => ?_)
  show GcM_work l D T ad Γ o xo xo g 0 [(0, .ref (ad 0)), (1, .int x1)] []
  have J72 : ∀ (g : St), fM_work_b72 g = some o → GcM_work l D T ad Γ o xo xo g 72 [(0, .ref (ad 0))] [] := by
    intro g h
    obtain ⟨g, ht, h⟩ := bnd h
    refine lp_run (P := fun g : St => GcM_work l D T ad Γ o xo xo g 72 [(0, .ref (ad 0))] []) (E := fun g : St => GcM_work l D T ad Γ o xo xo g 101 [(0, .ref (ad 0))] []) ?_ _ _ _ ht ?_
    · rintro g z h Kt Ke
      show GcM_work l D T ad Γ o xo xo g 72 [(0, .ref (ad 0))] []
      refine g_aload_n C dX12_work_72 rfl 0 rfl ?_
      refine gM_get_fault (v := g 0 5) C rfl dX12_work_73 ?_
      refine g_if_ne C 101 dX12_work_76 (by decide) (fun c76 => ?_) (fun c76 => ?_)
      · have h := iteT c76 h
        refine g_aload_n C dX12_work_79 rfl 0 rfl ?_
        refine gM_get_at (v := g 0 4) C rfl dX12_work_80 ?_
        refine g_aload_n C dX12_work_83 rfl 0 rfl ?_
        refine gM_get_size (v := g 0 2) C rfl dX12_work_84 ?_
        refine g_icmp_ge C 101 dX12_work_87 (by decide) (fun c87 => ?_) (fun c87 => ?_)
        · have h := iteT c87 h
          exact g_sub [0] rfl (Ke _ (Option.some.inj h).symm)
        · have h := iteF c87 h
          refine g_aload_n C dX12_work_90 rfl 0 rfl ?_
          obtain ⟨g91, hr91, h⟩ := bnd h
          refine g_cVv (k := 0) (As := []) (rest := []) (go := g91) (xo := xo) C (fun sz => cM_readsStep l D T ad xo g _ hr91 sz) kM_readsStep ⟨Nat.le_of_ble_eq_true rfl, Nat.le_of_ble_eq_true rfl⟩ ⟨rfl, rfl⟩ ⟨Nat.zero_le _, Nat.zero_le _⟩ (rfl : vwCl[11]? = some (RX12, TX12, 48)) kM0 rfl rfl (Nat.le_of_ble_eq_true rfl) dX12_work_91 ?_
          refine g_aload_n C dX12_work_94 rfl 0 rfl ?_
          obtain ⟨g95, hr95, h⟩ := bnd h
          refine g_cVv (k := 0) (As := []) (rest := []) (go := g95) (xo := xo) C (fun sz => cM_blanks l D T ad xo g91 _ hr95 sz) kM_blanks ⟨Nat.le_of_ble_eq_true rfl, Nat.le_of_ble_eq_true rfl⟩ ⟨rfl, rfl⟩ ⟨Nat.zero_le _, Nat.zero_le _⟩ (rfl : vwCl[11]? = some (RX12, TX12, 48)) kM0 rfl rfl (Nat.le_of_ble_eq_true rfl) dX12_work_95 ?_
          refine g_goto (tgt := 72) C dX12_work_98 (by decide) ?_
          exact g_sub [0] rfl (Kt _ (Option.some.inj h).symm)
      · have h := iteF c76 h
        exact g_sub [0] rfl (Ke _ (Option.some.inj h).symm)
    · show GcM_work l D T ad Γ o xo xo g 101 [(0, .ref (ad 0))] []
      refine g_aload_n C dX12_work_101 rfl 0 rfl ?_
      refine gM_get_fault (v := g 0 5) C rfl dX12_work_102 ?_
      refine g_if_eq C 113 dX12_work_105 (by decide) (fun c105 => ?_) (fun c105 => ?_)
      · have h := iteT c105 h
        refine g_aload_n C dX12_work_113 rfl 0 rfl ?_
        refine g_iconst C dX12_work_114 ic_m1 ?_
        refine gM_put_place C dX12_work_115 ?_
        refine g_aload_n C dX12_work_118 rfl 0 rfl ?_
        refine gM_get_now C dX12_work_119 ?_
        refine g_aload_n C dX12_work_122 rfl 0 rfl ?_
        refine gM_get_before C dX12_work_123 ?_
        refine g_aload_n C dX12_work_126 rfl 0 rfl ?_
        refine gM_get_works (v := g 0 32) C rfl dX12_work_127 ?_
        obtain ⟨hi130, h⟩ := grd h
        refine g_aald (n := 16) (q := (458 + (g 0 32).toNatClampNeg)) C lg_18 hi130 rfl dX12_work_130 ?_
        obtain ⟨g131, hr131, h⟩ := bnd h
        refine g_cSv (As := [.ref (ad 16), .ref (ad (458 + (g 0 32).toNatClampNeg))]) (rest := []) (go := g131) (xo := xo) C (fun sz => cM_copies l D T ad xo (st g 0 3 (-1 : Int32)) 16 (458 + (g 0 32).toNatClampNeg) _ hr131 sz) kM_copies ⟨Nat.le_of_ble_eq_true rfl, Nat.le_of_ble_eq_true rfl⟩ ⟨rfl, rfl⟩ ⟨Nat.zero_le _, Nat.zero_le _⟩ rfl rfl (Nat.le_of_ble_eq_true rfl) dX12_work_131 ?_
        refine g_aload_n C dX12_work_134 rfl 0 rfl ?_
        refine g_dup C dX12_work_135 rfl ?_
        refine gM_get_works (v := g131 0 32) C rfl dX12_work_136 ?_
        refine g_iconst C dX12_work_139 ic_1 ?_
        refine g_iadd C dX12_work_140 ?_
        refine gM_put_works C dX12_work_141 ?_
        refine g_aload_n C dX12_work_144 rfl 0 rfl ?_
        refine g_iconst C dX12_work_145 ic_0 ?_
        refine gM_put_begun C dX12_work_146 ?_
        refine g_aload_n C dX12_work_149 rfl 0 rfl ?_
        refine g_iconst C dX12_work_150 ic_0 ?_
        refine gM_put_doneSteps C dX12_work_151 ?_
        refine g_aload_n C dX12_work_154 rfl 0 rfl ?_
        refine g_iconst C dX12_work_155 ic_0 ?_
        refine gM_put_refusedSteps C dX12_work_156 ?_
        refine g_aload_n C dX12_work_159 rfl 0 rfl ?_
        refine g_iconst C dX12_work_160 ic_0 ?_
        refine g_aload_n C dX12_work_161 rfl 0 rfl ?_
        refine gM_get_steps (v := g131 0 26) C rfl dX12_work_162 ?_
        obtain ⟨g165, hr165, h⟩ := bnd h
        refine g_cVv (k := 0) (As := [.int (0 : Int32), .int (g131 0 26)]) (rest := []) (go := g165) (xo := xo) C (fun sz => cM_goes l D T ad xo (st (st (st (st g131 0 32 ((g131 0 32) + (1 : Int32))) 0 36 (0 : Int32)) 0 37 (0 : Int32)) 0 33 (0 : Int32)) (0 : Int32) (g131 0 26) _ hr165 sz) kM_goes ⟨Nat.le_of_ble_eq_true rfl, Nat.le_of_ble_eq_true rfl⟩ ⟨rfl, rfl⟩ ⟨Nat.zero_le _, Nat.zero_le _⟩ (rfl : vwCl[11]? = some (RX12, TX12, 48)) kM0 rfl rfl (Nat.le_of_ble_eq_true rfl) dX12_work_165 ?_
        refine g_aload_n C dX12_work_168 rfl 0 rfl ?_
        refine gM_get_doneSteps (v := g165 0 37) C rfl dX12_work_169 ?_
        obtain rfl := Option.some.inj h
        exact g_iret C rfl rfl rfl dX12_work_172
      · have h := iteF c105 h
        refine g_aload_n C dX12_work_108 rfl 0 rfl ?_
        obtain ⟨⟨r109, g109⟩, hr109, h⟩ := ltb h
        refine g_cVi (k := 0) (As := []) (rest := []) (ro := r109) (go := g109) (xo := xo) C (fun sz => cM_ends l D T ad xo g _ hr109 sz) kM_ends ⟨Nat.le_of_ble_eq_true rfl, Nat.le_of_ble_eq_true rfl⟩ ⟨rfl, rfl⟩ ⟨Nat.zero_le _, Nat.zero_le _⟩ (rfl : vwCl[11]? = some (RX12, TX12, 48)) kM0 rfl rfl (Nat.le_of_ble_eq_true rfl) dX12_work_109 ?_
        obtain rfl := Option.some.inj h
        exact g_iret C rfl rfl rfl dX12_work_112
  have J30 : ∀ (x1 : Int32) (s1 : Int32) (g : St), fM_work_b30 x1 s1 g = some o → GcM_work l D T ad Γ o xo xo g 30 [(0, .ref (ad 0)), (1, .int x1)] [.int s1, .ref (ad 0)] := by
    intro x1 s1 g h
    refine g_iconst C dX12_work_30 ic_1 ?_
    refine g_iconst C dX12_work_31 ic_1 ?_
    obtain ⟨⟨r32, g32⟩, hr32, h⟩ := bnd h
    refine g_cVz (k := 0) (As := [.int s1, .int (1 : Int32), .int (1 : Int32)]) (rest := []) (ro := r32) (go := g32) (xo := xo) C (fun sz => cM_bad l D T ad xo g s1 (1 : Int32) (1 : Int32) _ hr32 sz) kM_bad ⟨Nat.le_of_ble_eq_true rfl, Nat.le_of_ble_eq_true rfl⟩ ⟨rfl, rfl⟩ ⟨Nat.zero_le _, Nat.zero_le _⟩ (rfl : vwCl[11]? = some (RX12, TX12, 48)) kM0 rfl rfl (Nat.le_of_ble_eq_true rfl) dX12_work_32 (fun hz32 => ?_)
    refine g_if_eq C 40 dX12_work_35 (by decide) (fun c35 => ?_) (fun c35 => ?_)
    · have h := iteT c35 h
      refine g_aload_n C dX12_work_40 rfl 0 rfl ?_
      refine gM_get_works (v := g32 0 32) C rfl dX12_work_41 ?_
      refine g_bipush C dX12_work_44 bp_16 ?_
      refine g_icmp_ne C 62 dX12_work_46 (by decide) (fun c46 => ?_) (fun c46 => ?_)
      · have h := iteT c46 h
        refine g_aload_n C dX12_work_49 rfl 0 rfl ?_
        refine g_iconst C dX12_work_50 ic_0 ?_
        refine gM_put_tape C dX12_work_51 ?_
        refine g_aload_n C dX12_work_54 rfl 0 rfl ?_
        refine g_iconst C dX12_work_55 ic_m1 ?_
        refine gM_put_place C dX12_work_56 ?_
        refine g_bipush C dX12_work_59 bp_m20 ?_
        obtain rfl := Option.some.inj h
        exact g_iret C rfl rfl rfl dX12_work_61
      · have h := iteF c46 h
        refine g_aload_n C dX12_work_62 rfl 0 rfl ?_
        refine g_iload_n C dX12_work_63 rfl 1 rfl ?_
        obtain ⟨g64, hr64, h⟩ := bnd h
        refine g_cVv (k := 0) (As := [.int x1]) (rest := []) (go := g64) (xo := xo) C (fun sz => cM_starts l D T ad xo g32 x1 _ hr64 sz) kM_starts ⟨Nat.le_of_ble_eq_true rfl, Nat.le_of_ble_eq_true rfl⟩ ⟨rfl, rfl⟩ ⟨Nat.zero_le _, Nat.zero_le _⟩ (rfl : vwCl[11]? = some (RX12, TX12, 48)) kM0 rfl rfl (Nat.le_of_ble_eq_true rfl) dX12_work_64 ?_
        refine g_aload_n C dX12_work_67 rfl 0 rfl ?_
        refine g_iconst C dX12_work_68 ic_0 ?_
        refine gM_put_steps C dX12_work_69 ?_
        exact g_sub [0] rfl (J72 (st g64 0 26 (0 : Int32)) h)
    · have h := iteF c35 h
      refine g_iconst C dX12_work_38 ic_0 ?_
      obtain rfl := Option.some.inj h
      exact g_iret C rfl rfl rfl dX12_work_39
  have J25 : ∀ (x1 : Int32) (g : St), fM_work_b25 x1 g = some o → GcM_work l D T ad Γ o xo xo g 25 [(0, .ref (ad 0)), (1, .int x1)] [.ref (ad 0)] := by
    intro x1 g h
    refine g_iconst C dX12_work_25 ic_1 ?_
    refine g_goto (tgt := 30) C dX12_work_26 (by decide) ?_
    exact J30 x1 (1 : Int32) g h
  refine g_aload_n C dX12_work_0 rfl 0 rfl ?_
  refine g_iconst C dX12_work_1 ic_0 ?_
  refine gM_put_thrown C dX12_work_2 ?_
  refine g_aload_n C dX12_work_5 rfl 0 rfl ?_
  refine g_iload_n C dX12_work_6 rfl 1 rfl ?_
  refine g_iconst C dX12_work_7 ic_0 ?_
  refine g_aload_n C dX12_work_8 rfl 0 rfl ?_
  refine gM_get_tape (v := g 0 1) C rfl dX12_work_9 ?_
  refine g_cSz (As := [.int x1, .int (0 : Int32), .int (g 0 1)]) (rest := [.ref (ad 0)]) (ro := (fM_in x1 (0 : Int32) (g 0 1))) (go := (st g 0 0 (0 : Int32))) (xo := xo) C (fun sz => cM_in l D T ad xo (st g 0 0 (0 : Int32)) x1 (0 : Int32) (g 0 1) _ rfl sz) kM_in ⟨Nat.le_of_ble_eq_true rfl, Nat.le_of_ble_eq_true rfl⟩ ⟨rfl, rfl⟩ ⟨Nat.zero_le _, Nat.zero_le _⟩ rfl rfl (Nat.le_of_ble_eq_true rfl) dX12_work_12 (fun hz12 => ?_)
  refine g_if_eq C 25 dX12_work_15 (by decide) (fun c15 => ?_) (fun c15 => ?_)
  · have h := iteT c15 h
    exact J25 x1 (st g 0 0 (0 : Int32)) h
  · have h := iteF c15 h
    refine g_iload_n C dX12_work_18 rfl 1 rfl ?_
    refine g_sipush C dX12_work_19 sp_150 ?_
    refine g_icmp_le C 29 dX12_work_22 (by decide) (fun c22 => ?_) (fun c22 => ?_)
    · have h := iteT c22 h
      refine g_iconst C dX12_work_29 ic_0 ?_
      exact J30 x1 (0 : Int32) (st g 0 0 (0 : Int32)) h
    · have h := iteF c22 h
      exact J25 x1 (st g 0 0 (0 : Int32)) h
def fM_undo (g : St) : Option (Int32 × St) :=
  if (g 0 32) = 0 then
    (some ((-1 : Int32), (st g 0 0 (0 : Int32))))
  else
    (if ¬ (((g 0 32) - (1 : Int32)) < 0 ∨ 16 ≤ ((g 0 32) - (1 : Int32)).toNatClampNeg) then ((fM_copies (458 + ((g 0 32) - (1 : Int32)).toNatClampNeg) 16 (st (st g 0 0 (0 : Int32)) 0 32 ((g 0 32) - (1 : Int32)))).bind fun g37 => (some ((g37 0 32), (st g37 0 33 (0 : Int32))))) else none)
def rmM_undo : Room := { frames := 1, cells := 0, slots := 0, locals := 22 }
abbrev GcM_undo (l : Launch) (D : va_G) (T : cT) (ad : Nat → Nat) (Γ : Cxt) (o : Int32 × St) (xo : Sl) (x : Sl) (g : St) (pc : Nat) (lv : List (Nat × Value)) (stk : List Value) : Prop := Gj l shM D T ad 1 (rmM_undo) 0 0 Γ (MQ Γ.below (va_Qi (eqI o.1 o.2 xo) (wPost shM D T ad Γ.A) Γ.A) Γ.args Γ.s 0 0 Γ.A) x g pc lv stk
set_option maxRecDepth 100000 in
set_option maxHeartbeats 4000000 in
theorem cM_undo (l : Launch) (D : va_G) (T : cT) (ad : Nat → Nat) (xo : Sl) (g : St) (o : Int32 × St) (h : fM_undo g = some o) (sz : Nat) : Met l yX12_undo wM_undo (rmM_undo) (va_Pc [.ref (ad 0)] (wPre shM D T ad xo g sz)) (va_Qi (eqI o.1 o.2 xo) (wPost shM D T ad (aW shM T ad xo g sz)) (aW shM T ad xo g sz)) 0 0 (aW shM T ad xo g sz) := by
  refine g_start (Qc := fun A => va_Qi (eqI o.1 o.2 xo) (wPost shM D T ad A) A) (by decide +kernel) rfl rfl (Nat.le_of_ble_eq_true rfl) (lv := [(0, .ref (ad 0))]) rfl (fun Γ C => ?_)
  show GcM_undo l D T ad Γ o xo xo g 0 [(0, .ref (ad 0))] []
  refine g_aload_n C dX12_undo_0 rfl 0 rfl ?_
  refine g_iconst C dX12_undo_1 ic_0 ?_
  refine gM_put_thrown C dX12_undo_2 ?_
  refine g_aload_n C dX12_undo_5 rfl 0 rfl ?_
  refine gM_get_works (v := g 0 32) C rfl dX12_undo_6 ?_
  refine g_if_ne C 14 dX12_undo_9 (by decide) (fun c9 => ?_) (fun c9 => ?_)
  · have h := iteT c9 h
    refine g_iconst C dX12_undo_12 ic_m1 ?_
    obtain rfl := Option.some.inj h
    exact g_iret C rfl rfl rfl dX12_undo_13
  · have h := iteF c9 h
    refine g_aload_n C dX12_undo_14 rfl 0 rfl ?_
    refine g_dup C dX12_undo_15 rfl ?_
    refine gM_get_works (v := g 0 32) C rfl dX12_undo_16 ?_
    refine g_iconst C dX12_undo_19 ic_1 ?_
    refine g_isub C dX12_undo_20 ?_
    refine gM_put_works C dX12_undo_21 ?_
    refine g_aload_n C dX12_undo_24 rfl 0 rfl ?_
    refine gM_get_before C dX12_undo_25 ?_
    refine g_aload_n C dX12_undo_28 rfl 0 rfl ?_
    refine gM_get_works (v := (g 0 32) - (1 : Int32)) C rfl dX12_undo_29 ?_
    obtain ⟨hi32, h⟩ := grd h
    refine g_aald (n := 16) (q := (458 + ((g 0 32) - (1 : Int32)).toNatClampNeg)) C lg_18 hi32 rfl dX12_undo_32 ?_
    refine g_aload_n C dX12_undo_33 rfl 0 rfl ?_
    refine gM_get_now C dX12_undo_34 ?_
    obtain ⟨g37, hr37, h⟩ := bnd h
    refine g_cSv (As := [.ref (ad (458 + ((g 0 32) - (1 : Int32)).toNatClampNeg)), .ref (ad 16)]) (rest := []) (go := g37) (xo := xo) C (fun sz => cM_copies l D T ad xo (st (st g 0 0 (0 : Int32)) 0 32 ((g 0 32) - (1 : Int32))) (458 + ((g 0 32) - (1 : Int32)).toNatClampNeg) 16 _ hr37 sz) kM_copies ⟨Nat.le_of_ble_eq_true rfl, Nat.le_of_ble_eq_true rfl⟩ ⟨rfl, rfl⟩ ⟨Nat.zero_le _, Nat.zero_le _⟩ rfl rfl (Nat.le_of_ble_eq_true rfl) dX12_undo_37 ?_
    refine g_aload_n C dX12_undo_40 rfl 0 rfl ?_
    refine g_iconst C dX12_undo_41 ic_0 ?_
    refine gM_put_refusedSteps C dX12_undo_42 ?_
    refine g_aload_n C dX12_undo_45 rfl 0 rfl ?_
    refine gM_get_works (v := g37 0 32) C rfl dX12_undo_46 ?_
    obtain rfl := Option.some.inj h
    exact g_iret C rfl rfl rfl dX12_undo_49
def fM_debts_b43 (x1 : Nat) (x2 : Int32) (x4 : Int32) (s0 : Int32) (s1 : Int32) (g : St) : Option ((Int32 × Int32) ⊕ (Int32)) :=
  some (.inl ((s0 + s1), (x4 + (1 : Int32))))
def fM_debts_b37 (x1 : Nat) (x2 : Int32) (x4 : Int32) (s0 : Int32) (g : St) : Option ((Int32 × Int32) ⊕ (Int32)) :=
  if ¬ (((0 : Int32) + x4) < 0 ∨ (lenW shM x1) ≤ ((0 : Int32) + x4).toNatClampNeg) then (fM_debts_b43 x1 x2 x4 s0 (g x1 (((0 : Int32) + x4).toNatClampNeg)) g) else none
def fM_debts_L5 (x1 : Nat) (x2 : Int32) (g : St) : (Int32 × Int32) → Option ((Int32 × Int32) ⊕ (Int32)) := fun ⟨x3, x4⟩ =>
  if (g 4 0) ≤ x4 then
    (some (.inr x3))
  else
    (if x2 = 0 then
    (fM_debts_b37 x1 x2 x4 x3 g)
  else
    (if ¬ ((24 : Int32) < 0 ∨ (lenW shM x1) ≤ (24 : Int32).toNatClampNeg) then (if (fM_has (g x1 24) x4) = 0 then
    (fM_debts_b37 x1 x2 x4 x3 g)
  else
    (fM_debts_b43 x1 x2 x4 x3 (0 : Int32) g)) else none))
def fM_debts_b5 (x1 : Nat) (x2 : Int32) (x3 : Int32) (x4 : Int32) (g : St) : Option (Int32) :=
  (lp (fM_debts_L5 x1 x2 g) fuel (x3, x4)).bind (fun x3 => some x3)
def fM_debts (x1 : Nat) (x2 : Int32) (g : St) : Option (Int32) :=
  fM_debts_b5 x1 x2 (0 : Int32) (0 : Int32) g
def rmM_debts : Room := { frames := 1, cells := 0, slots := 0, locals := 21 }
abbrev GcM_debts (l : Launch) (D : va_G) (T : cT) (ad : Nat → Nat) (Γ : Cxt) (o : Int32) (xo : Sl) (g0 : St) (x : Sl) (g : St) (pc : Nat) (lv : List (Nat × Value)) (stk : List Value) : Prop := Gj l shM D T ad 5 (rmM_debts) 0 0 Γ (MQ Γ.below (va_Qi (eqI o g0 xo) (wPost shM D T ad Γ.A) Γ.A) Γ.args Γ.s 0 0 Γ.A) x g pc lv stk
set_option maxRecDepth 100000 in
set_option maxHeartbeats 4000000 in
theorem cM_debts (l : Launch) (D : va_G) (T : cT) (ad : Nat → Nat) (xo : Sl) (g : St) (x1 : Nat) (x2 : Int32) (o : Int32) (h : fM_debts x1 x2 g = some o) (sz : Nat) : Met l yX12_debts wM_debts (rmM_debts) (va_Pc [.ref (ad 0), .ref (ad x1), .int x2] (wPre shM D T ad xo g sz)) (va_Qi (eqI o g xo) (wPost shM D T ad (aW shM T ad xo g sz)) (aW shM T ad xo g sz)) 0 0 (aW shM T ad xo g sz) := by
  refine g_start (Qc := fun A => va_Qi (eqI o g xo) (wPost shM D T ad A) A) (by decide +kernel) rfl rfl (Nat.le_of_ble_eq_true rfl) (lv := [(0, .ref (ad 0)), (1, .ref (ad x1)), (2, .int x2)]) rfl (fun Γ C => ?_)
  show GcM_debts l D T ad Γ o xo g xo g 0 [(0, .ref (ad 0)), (1, .ref (ad x1)), (2, .int x2)] []
  have J5 : ∀ (x1 : Nat) (x2 : Int32) (x3 : Int32) (x4 : Int32), fM_debts_b5 x1 x2 x3 x4 g = some o → GcM_debts l D T ad Γ o xo g xo g 5 [(0, .ref (ad 0)), (1, .ref (ad x1)), (2, .int x2), (3, .int x3), (4, .int x4)] [] := by
    intro x1 x2 x3 x4 h
    obtain ⟨x3, ht, h⟩ := bnd h
    refine lp_run (P := fun t : Int32 × Int32 => match t with | (x3, x4) => GcM_debts l D T ad Γ o xo g xo g 5 [(0, .ref (ad 0)), (1, .ref (ad x1)), (2, .int x2), (3, .int x3), (4, .int x4)] []) (E := fun x3 : Int32 => GcM_debts l D T ad Γ o xo g xo g 51 [(3, .int x3)] []) ?_ _ _ _ ht ?_
    · rintro ⟨x3, x4⟩ z h Kt Ke
      show GcM_debts l D T ad Γ o xo g xo g 5 [(0, .ref (ad 0)), (1, .ref (ad x1)), (2, .int x2), (3, .int x3), (4, .int x4)] []
      have J43 : ∀ (x4 : Int32) (s0 : Int32) (s1 : Int32), fM_debts_b43 x1 x2 x4 s0 s1 g = some z → GcM_debts l D T ad Γ o xo g xo g 43 [(0, .ref (ad 0)), (1, .ref (ad x1)), (2, .int x2), (4, .int x4)] [.int s1, .int s0] := by
        intro x4 s0 s1 h
        refine g_iadd C dX12_debts_43 ?_
        refine g_istore_n (lv' := [(3, .int (s0 + s1)), (0, .ref (ad 0)), (1, .ref (ad x1)), (2, .int x2), (4, .int x4)]) C dX12_debts_44 rfl (Nat.le_of_ble_eq_true rfl) rfl ?_
        refine g_iinc (lv' := [(4, .int (x4 + (1 : Int32))), (3, .int (s0 + s1)), (0, .ref (ad 0)), (1, .ref (ad x1)), (2, .int x2)]) C dX12_debts_45 4 rfl (ii_1 _) (Nat.le_of_ble_eq_true rfl) rfl ?_
        refine g_goto (tgt := 5) C dX12_debts_48 (by decide) ?_
        exact g_sub [2, 3, 4, 1, 0] rfl (Kt _ (Option.some.inj h).symm)
      have J37 : ∀ (x4 : Int32) (s0 : Int32), fM_debts_b37 x1 x2 x4 s0 g = some z → GcM_debts l D T ad Γ o xo g xo g 37 [(0, .ref (ad 0)), (1, .ref (ad x1)), (2, .int x2), (4, .int x4)] [.int s0] := by
        intro x4 s0 h
        refine g_aload_n C dX12_debts_37 rfl 1 rfl ?_
        refine g_iconst C dX12_debts_38 ic_0 ?_
        refine g_iload C dX12_debts_39 3 rfl ?_
        refine g_iadd C dX12_debts_41 ?_
        obtain ⟨hi42, h⟩ := grd h
        refine g_iald (n := (lenW shM x1)) (v := g x1 (((0 : Int32) + x4).toNatClampNeg)) C rfl hi42 rfl dX12_debts_42 ?_
        exact J43 x4 s0 (g x1 (((0 : Int32) + x4).toNatClampNeg)) h
      refine g_iload C dX12_debts_5 4 rfl ?_
      refine g_aload_n C dX12_debts_7 rfl 0 rfl ?_
      refine gM_get_told C dX12_debts_8 ?_
      refine g_iconst C dX12_debts_11 ic_0 ?_
      refine g_iald (n := 2) (v := g 4 0) C ln_4 (by decide) rfl dX12_debts_12 ?_
      refine g_icmp_ge C 51 dX12_debts_13 (by decide) (fun c13 => ?_) (fun c13 => ?_)
      · have h := iteT c13 h
        exact g_sub [3] rfl (Ke _ (Option.some.inj h).symm)
      · have h := iteF c13 h
        refine g_iload_n C dX12_debts_16 rfl 3 rfl ?_
        refine g_iload_n C dX12_debts_17 rfl 2 rfl ?_
        refine g_if_eq C 37 dX12_debts_18 (by decide) (fun c18 => ?_) (fun c18 => ?_)
        · have h := iteT c18 h
          exact g_sub [0, 1, 2, 4] rfl (J37 x4 x3 h)
        · have h := iteF c18 h
          refine g_aload_n C dX12_debts_21 rfl 1 rfl ?_
          refine g_bipush C dX12_debts_22 bp_24 ?_
          obtain ⟨hi24, h⟩ := grd h
          refine g_iald (n := (lenW shM x1)) (v := g x1 24) C rfl hi24 rfl dX12_debts_24 ?_
          refine g_iload C dX12_debts_25 4 rfl ?_
          refine g_cSz (As := [.int (g x1 24), .int x4]) (rest := [.int x3]) (ro := (fM_has (g x1 24) x4)) (go := g) (xo := xo) C (fun sz => cM_has l D T ad xo g (g x1 24) x4 _ rfl sz) kM_has ⟨Nat.le_of_ble_eq_true rfl, Nat.le_of_ble_eq_true rfl⟩ ⟨rfl, rfl⟩ ⟨Nat.zero_le _, Nat.zero_le _⟩ rfl rfl (Nat.le_of_ble_eq_true rfl) dX12_debts_27 (fun hz27 => ?_)
          refine g_if_eq C 37 dX12_debts_30 (by decide) (fun c30 => ?_) (fun c30 => ?_)
          · have h := iteT c30 h
            exact g_sub [0, 1, 2, 4] rfl (J37 x4 x3 h)
          · have h := iteF c30 h
            refine g_iconst C dX12_debts_33 ic_0 ?_
            refine g_goto (tgt := 43) C dX12_debts_34 (by decide) ?_
            exact g_sub [0, 1, 2, 4] rfl (J43 x4 x3 (0 : Int32) h)
    · show GcM_debts l D T ad Γ o xo g xo g 51 [(3, .int x3)] []
      refine g_iload_n C dX12_debts_51 rfl 0 rfl ?_
      obtain rfl := Option.some.inj h
      exact g_iret C rfl rfl rfl dX12_debts_52
  refine g_iconst C dX12_debts_0 ic_0 ?_
  refine g_istore_n (lv' := [(3, .int (0 : Int32)), (0, .ref (ad 0)), (1, .ref (ad x1)), (2, .int x2)]) C dX12_debts_1 rfl (Nat.le_of_ble_eq_true rfl) rfl ?_
  refine g_iconst C dX12_debts_2 ic_0 ?_
  refine g_istore (lv' := [(4, .int (0 : Int32)), (3, .int (0 : Int32)), (0, .ref (ad 0)), (1, .ref (ad x1)), (2, .int x2)]) C dX12_debts_3 (Nat.le_of_ble_eq_true rfl) rfl ?_
  exact g_sub [2, 3, 4, 1, 0] rfl (J5 x1 x2 (0 : Int32) (0 : Int32) h)
