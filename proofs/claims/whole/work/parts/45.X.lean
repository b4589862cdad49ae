def fX_person_b21 (x1 : Int32) (x2 : Int32) (s1 : Int32) (g : St) : Option ((Nat ⊕ Int32) × St) :=
  lt1 (fX_need s1 g) fun ⟨r21, g21⟩ => Sum.elim (fun k => some (.inl k, g21)) (fun _ => if x2 = 0 then
    ((fX_Rows_at 17 x1 g21).bind fun r76 => (some (.inr r76, g21)))
  else
    (if x2 = 1 then
    ((fX_Rows_at 37 x1 g21).bind fun r88 => (some (.inr r88, g21)))
  else
    (if x2 = 2 then
    ((fX_State_lives 10 x1 g21).bind fun r97 => (if r97 = 0 then
    (some (.inr (0 : Int32), g21))
  else
    (some (.inr (1 : Int32), g21))))
  else
    (if x2 = 3 then
    ((fX_Rows_at 38 x1 g21).bind fun r117 => (some (.inr r117, g21)))
  else
    (if x2 = 4 then
    ((fX_State_stonesOf 10 x1 g21).bind fun r126 => (some (.inr r126, g21)))
  else
    (if x2 = 5 then
    ((fX_State_directlyUnder 10 x1 g21).bind fun r135 => (some (.inr r135, g21)))
  else
    (if x2 = 6 then
    ((fX_Rows_at 19 x1 g21).bind fun r147 => (some (.inr r147, g21)))
  else
    ((fX_Rows_at 39 x1 g21).bind fun r159 => (some (.inr r159, g21)))))))))) r21
def fX_person_b20 (x1 : Int32) (x2 : Int32) (g : St) : Option ((Nat ⊕ Int32) × St) :=
  fX_person_b21 x1 x2 (0 : Int32) g
def fX_person (x1 : Int32) (x2 : Int32) (g : St) : Option ((Nat ⊕ Int32) × St) :=
  lt1 (fX_needPerson x1 g) fun ⟨r2, g2⟩ => Sum.elim (fun k => some (.inl k, g2)) (fun _ => if x2 < 0 then
    (fX_person_b20 x1 x2 g2)
  else
    (if (7 : Int32) < x2 then
    (fX_person_b20 x1 x2 g2)
  else
    (fX_person_b21 x1 x2 (1 : Int32) g2))) r2
def rmX_person : Room := { frames := 9, cells := 2, slots := 12, locals := 141 }
abbrev GcX_person (l : Launch) (D : va_G) (T : cT) (ad : Nat → Nat) (Γ : Cxt) (o : (Nat ⊕ Int32) × St) (xo : Sl) (kc : Nat) (x : Sl) (g : St) (pc : Nat) (lv : List (Nat × Value)) (stk : List Value) : Prop := Gj l shX D T ad 3 (rmX_person) kc (6 * kc) Γ (vx_MQ Γ.below (va_Qi (xoI o xo) (wPost shX D T ad Γ.A) Γ.A) (xoX shX D T ad o.1 (o.2, xo) Γ.A) Γ.args Γ.s 2 12 Γ.A) x g pc lv stk
set_option maxRecDepth 100000 in
set_option maxHeartbeats 4000000 in
theorem cX_person (l : Launch) (hl0 : l.stackTraces = false) (D : va_G) (T : cT) (ad : Nat → Nat) (sK sV : Nat → Nat) (xo : Sl) (g : St) (x1 : Int32) (x2 : Int32) (o : (Nat ⊕ Int32) × St) (h : fX_person x1 x2 g = some o) (sz : Nat) : vx_Met l yX11_person wX_person (rmX_person) (va_Pc [.ref (ad 0), .int x1, .int x2] (xPre shX D T ad sK sV xo g sz)) (va_Qi (xoI o xo) (wPost shX D T ad (aW shX T ad xo g sz)) (aW shX T ad xo g sz)) (xoX shX D T ad o.1 (o.2, xo) (aW shX T ad xo g sz)) 2 12 (aW shX T ad xo g sz) := by
  refine g_startt (Qc := fun A => va_Qi (xoI o xo) (wPost shX D T ad A) A) (XC := fun A => xoX shX D T ad o.1 (o.2, xo) A) hl0 (by decide +kernel) rfl rfl (Nat.le_of_ble_eq_true rfl) (lv := [(0, .ref (ad 0)), (1, .int x1), (2, .int x2)]) rfl (fun Γ Z => ?_)
  have Y := Z.1
  have C := Y.1
  show GcX_person l D T ad Γ o xo 0 xo g 0 [(0, .ref (ad 0)), (1, .int x1), (2, .int x2)] []
  have J21 : ∀ (x1 : Int32) (x2 : Int32) (s1 : Int32) (g : St), fX_person_b21 x1 x2 s1 g = some o → GcX_person l D T ad Γ o xo 1 xo g 21 [(0, .ref (ad 0)), (1, .int x1), (2, .int x2)] [.int s1, .ref (ad 0)] := by
    intro x1 x2 s1 g h
    obtain ⟨⟨r21, g21⟩, hr21, h⟩ := ltb h
    refine g_tVv (k := 0) (As := [.int s1]) (rest := []) (o := (r21, g21)) (xo := xo) Z (fun sz => cX_need l hl0 D T ad sK sV xo g s1 _ hr21 sz) kX_RX11_115_need ⟨Nat.le_of_ble_eq_true rfl, Nat.le_of_ble_eq_true rfl⟩ ⟨rfl, rfl⟩ ⟨Nat.le_of_ble_eq_true rfl, Nat.le_of_ble_eq_true rfl⟩ (rfl : vwCl[10]? = some (RX11, TX11, 19)) ob_0 rfl rfl (Nat.le_of_ble_eq_true rfl) dX11_person_21 ⟨Nat.le_of_ble_eq_true rfl, Nat.le_of_ble_eq_true rfl⟩ (fun k9 hk9 => ?_) (fun v9 hv9 => ?_)
    · subst hk9
      obtain rfl := Option.some.inj h
      exact ⟨rfl, rfl⟩
    · subst hv9
      have h := selR h
      refine g_iload_n C dX11_person_24 rfl 2 rfl ?_
      by_cases c25_0 : x2 = 0
      · have h := iteT c25_0 h
        refine g_tabIn C 0 68 dX11_person_25 c25_0 (by decide) (by decide) rfl (by decide) ?_
        refine g_aload_n C dX11_person_68 rfl 0 rfl ?_
        refine gX_get_X11_19 C ob_0 rfl dX11_person_69 ?_
        refine gX_get_X11_217 C ob_2 rfl dX11_person_72 ?_
        refine g_iload_n C dX11_person_75 rfl 1 rfl ?_
        obtain ⟨r76, hr76, h⟩ := bnd h
        refine g_xSi (As := [.ref (ad 17), .int x1]) (rest := []) (ro := r76) (go := g21) (xo := xo) Y (fun sz => cX_Rows_at l D T ad sK sV xo g21 17 x1 _ hr76 sz) kX_RX11_221_Rows_at ⟨Nat.le_of_ble_eq_true rfl, Nat.le_of_ble_eq_true rfl⟩ ⟨rfl, rfl⟩ ⟨Nat.le_of_ble_eq_true rfl, Nat.le_of_ble_eq_true rfl⟩ rfl rfl (Nat.le_of_ble_eq_true rfl) dX11_person_76 ?_
        obtain rfl := Option.some.inj h
        exact g_treti Z rfl rfl ⟨Nat.le_of_ble_eq_true rfl, Nat.le_of_ble_eq_true rfl⟩ dX11_person_79
      have h := iteF c25_0 h
      by_cases c25_1 : x2 = 1
      · have h := iteT c25_1 h
        refine g_tabIn C 1 80 dX11_person_25 c25_1 (by decide) (by decide) rfl (by decide) ?_
        refine g_aload_n C dX11_person_80 rfl 0 rfl ?_
        refine gX_get_X11_65 C ob_0 rfl dX11_person_81 ?_
        refine gX_get_X11_227 C ob_10 rfl dX11_person_84 ?_
        refine g_iload_n C dX11_person_87 rfl 1 rfl ?_
        obtain ⟨r88, hr88, h⟩ := bnd h
        refine g_xSi (As := [.ref (ad 37), .int x1]) (rest := []) (ro := r88) (go := g21) (xo := xo) Y (fun sz => cX_Rows_at l D T ad sK sV xo g21 37 x1 _ hr88 sz) kX_RX11_221_Rows_at ⟨Nat.le_of_ble_eq_true rfl, Nat.le_of_ble_eq_true rfl⟩ ⟨rfl, rfl⟩ ⟨Nat.le_of_ble_eq_true rfl, Nat.le_of_ble_eq_true rfl⟩ rfl rfl (Nat.le_of_ble_eq_true rfl) dX11_person_88 ?_
        obtain rfl := Option.some.inj h
        exact g_treti Z rfl rfl ⟨Nat.le_of_ble_eq_true rfl, Nat.le_of_ble_eq_true rfl⟩ dX11_person_91
      have h := iteF c25_1 h
      by_cases c25_2 : x2 = 2
      · have h := iteT c25_2 h
        refine g_tabIn C 2 92 dX11_person_25 c25_2 (by decide) (by decide) rfl (by decide) ?_
        refine g_aload_n C dX11_person_92 rfl 0 rfl ?_
        refine gX_get_X11_65 C ob_0 rfl dX11_person_93 ?_
        refine g_iload_n C dX11_person_96 rfl 1 rfl ?_
        obtain ⟨r97, hr97, h⟩ := bnd h
        refine g_xVz (k := 10) (As := [.int x1]) (rest := []) (ro := r97) (go := g21) (xo := xo) Y (fun sz => cX_State_lives l D T ad sK sV xo g21 10 x1 (Or.inl rfl) _ hr97 sz) kX_RX11_230_State_lives ⟨Nat.le_of_ble_eq_true rfl, Nat.le_of_ble_eq_true rfl⟩ ⟨rfl, rfl⟩ ⟨Nat.le_of_ble_eq_true rfl, Nat.le_of_ble_eq_true rfl⟩ (rfl : vwCl[6]? = some (RX7, TX7, 6)) ob_10 rfl rfl (Nat.le_of_ble_eq_true rfl) dX11_person_97 (fun hz97 => ?_)
        refine g_if_eq C 107 dX11_person_100 (by decide) (fun c100 => ?_) (fun c100 => ?_)
        · have h := iteT c100 h
          refine g_iconst C dX11_person_107 ic_0 ?_
          obtain rfl := Option.some.inj h
          exact g_treti Z rfl rfl ⟨Nat.le_of_ble_eq_true rfl, Nat.le_of_ble_eq_true rfl⟩ dX11_person_108
        · have h := iteF c100 h
          refine g_iconst C dX11_person_103 ic_1 ?_
          refine g_goto (tgt := 108) C dX11_person_104 (by decide) ?_
          obtain rfl := Option.some.inj h
          exact g_treti Z rfl rfl ⟨Nat.le_of_ble_eq_true rfl, Nat.le_of_ble_eq_true rfl⟩ dX11_person_108
      have h := iteF c25_2 h
      by_cases c25_3 : x2 = 3
      · have h := iteT c25_3 h
        refine g_tabIn C 3 109 dX11_person_25 c25_3 (by decide) (by decide) rfl (by decide) ?_
        refine g_aload_n C dX11_person_109 rfl 0 rfl ?_
        refine gX_get_X11_65 C ob_0 rfl dX11_person_110 ?_
        refine gX_get_X11_234 C ob_10 rfl dX11_person_113 ?_
        refine g_iload_n C dX11_person_116 rfl 1 rfl ?_
        obtain ⟨r117, hr117, h⟩ := bnd h
        refine g_xSi (As := [.ref (ad 38), .int x1]) (rest := []) (ro := r117) (go := g21) (xo := xo) Y (fun sz => cX_Rows_at l D T ad sK sV xo g21 38 x1 _ hr117 sz) kX_RX11_221_Rows_at ⟨Nat.le_of_ble_eq_true rfl, Nat.le_of_ble_eq_true rfl⟩ ⟨rfl, rfl⟩ ⟨Nat.le_of_ble_eq_true rfl, Nat.le_of_ble_eq_true rfl⟩ rfl rfl (Nat.le_of_ble_eq_true rfl) dX11_person_117 ?_
        obtain rfl := Option.some.inj h
        exact g_treti Z rfl rfl ⟨Nat.le_of_ble_eq_true rfl, Nat.le_of_ble_eq_true rfl⟩ dX11_person_120
      have h := iteF c25_3 h
      by_cases c25_4 : x2 = 4
      · have h := iteT c25_4 h
        refine g_tabIn C 4 121 dX11_person_25 c25_4 (by decide) (by decide) rfl (by decide) ?_
        refine g_aload_n C dX11_person_121 rfl 0 rfl ?_
        refine gX_get_X11_65 C ob_0 rfl dX11_person_122 ?_
        refine g_iload_n C dX11_person_125 rfl 1 rfl ?_
        obtain ⟨r126, hr126, h⟩ := bnd h
        refine g_xVi (k := 10) (As := [.int x1]) (rest := []) (ro := r126) (go := g21) (xo := xo) Y (fun sz => cX_State_stonesOf l D T ad sK sV xo g21 10 x1 (Or.inl rfl) _ hr126 sz) kX_RX11_237_State_stonesOf ⟨Nat.le_of_ble_eq_true rfl, Nat.le_of_ble_eq_true rfl⟩ ⟨rfl, rfl⟩ ⟨Nat.le_of_ble_eq_true rfl, Nat.le_of_ble_eq_true rfl⟩ (rfl : vwCl[6]? = some (RX7, TX7, 6)) ob_10 rfl rfl (Nat.le_of_ble_eq_true rfl) dX11_person_126 ?_
        obtain rfl := Option.some.inj h
        exact g_treti Z rfl rfl ⟨Nat.le_of_ble_eq_true rfl, Nat.le_of_ble_eq_true rfl⟩ dX11_person_129
      have h := iteF c25_4 h
      by_cases c25_5 : x2 = 5
      · have h := iteT c25_5 h
        refine g_tabIn C 5 130 dX11_person_25 c25_5 (by decide) (by decide) rfl (by decide) ?_
        refine g_aload_n C dX11_person_130 rfl 0 rfl ?_
        refine gX_get_X11_65 C ob_0 rfl dX11_person_131 ?_
        refine g_iload_n C dX11_person_134 rfl 1 rfl ?_
        obtain ⟨r135, hr135, h⟩ := bnd h
        refine g_xVi (k := 10) (As := [.int x1]) (rest := []) (ro := r135) (go := g21) (xo := xo) Y (fun sz => cX_State_directlyUnder l D T ad sK sV xo g21 10 x1 (Or.inl rfl) _ hr135 sz) kX_RX11_241_State_directlyUnder ⟨Nat.le_of_ble_eq_true rfl, Nat.le_of_ble_eq_true rfl⟩ ⟨rfl, rfl⟩ ⟨Nat.le_of_ble_eq_true rfl, Nat.le_of_ble_eq_true rfl⟩ (rfl : vwCl[6]? = some (RX7, TX7, 6)) ob_10 rfl rfl (Nat.le_of_ble_eq_true rfl) dX11_person_135 ?_
        obtain rfl := Option.some.inj h
        exact g_treti Z rfl rfl ⟨Nat.le_of_ble_eq_true rfl, Nat.le_of_ble_eq_true rfl⟩ dX11_person_138
      have h := iteF c25_5 h
      by_cases c25_6 : x2 = 6
      · have h := iteT c25_6 h
        refine g_tabIn C 6 139 dX11_person_25 c25_6 (by decide) (by decide) rfl (by decide) ?_
        refine g_aload_n C dX11_person_139 rfl 0 rfl ?_
        refine gX_get_X11_19 C ob_0 rfl dX11_person_140 ?_
        refine gX_get_X11_244 C ob_2 rfl dX11_person_143 ?_
        refine g_iload_n C dX11_person_146 rfl 1 rfl ?_
        obtain ⟨r147, hr147, h⟩ := bnd h
        refine g_xSi (As := [.ref (ad 19), .int x1]) (rest := []) (ro := r147) (go := g21) (xo := xo) Y (fun sz => cX_Rows_at l D T ad sK sV xo g21 19 x1 _ hr147 sz) kX_RX11_221_Rows_at ⟨Nat.le_of_ble_eq_true rfl, Nat.le_of_ble_eq_true rfl⟩ ⟨rfl, rfl⟩ ⟨Nat.le_of_ble_eq_true rfl, Nat.le_of_ble_eq_true rfl⟩ rfl rfl (Nat.le_of_ble_eq_true rfl) dX11_person_147 ?_
        obtain rfl := Option.some.inj h
        exact g_treti Z rfl rfl ⟨Nat.le_of_ble_eq_true rfl, Nat.le_of_ble_eq_true rfl⟩ dX11_person_150
      have h := iteF c25_6 h
      refine g_tabOut C 151 dX11_person_25 (tab_0_6 _ c25_0 c25_1 c25_2 c25_3 c25_4 c25_5 c25_6) (by decide) ?_
      refine g_aload_n C dX11_person_151 rfl 0 rfl ?_
      refine gX_get_X11_65 C ob_0 rfl dX11_person_152 ?_
      refine gX_get_X11_247 C ob_10 rfl dX11_person_155 ?_
      refine g_iload_n C dX11_person_158 rfl 1 rfl ?_
      obtain ⟨r159, hr159, h⟩ := bnd h
      refine g_xSi (As := [.ref (ad 39), .int x1]) (rest := []) (ro := r159) (go := g21) (xo := xo) Y (fun sz => cX_Rows_at l D T ad sK sV xo g21 39 x1 _ hr159 sz) kX_RX11_221_Rows_at ⟨Nat.le_of_ble_eq_true rfl, Nat.le_of_ble_eq_true rfl⟩ ⟨rfl, rfl⟩ ⟨Nat.le_of_ble_eq_true rfl, Nat.le_of_ble_eq_true rfl⟩ rfl rfl (Nat.le_of_ble_eq_true rfl) dX11_person_159 ?_
      obtain rfl := Option.some.inj h
      exact g_treti Z rfl rfl ⟨Nat.le_of_ble_eq_true rfl, Nat.le_of_ble_eq_true rfl⟩ dX11_person_162
  have J20 : ∀ (x1 : Int32) (x2 : Int32) (g : St), fX_person_b20 x1 x2 g = some o → GcX_person l D T ad Γ o xo 1 xo g 20 [(0, .ref (ad 0)), (1, .int x1), (2, .int x2)] [.ref (ad 0)] := by
    intro x1 x2 g h
    refine g_iconst C dX11_person_20 ic_0 ?_
    exact J21 x1 x2 (0 : Int32) g h
  refine g_aload_n C dX11_person_0 rfl 0 rfl ?_
  refine g_iload_n C dX11_person_1 rfl 1 rfl ?_
  obtain ⟨⟨r2, g2⟩, hr2, h⟩ := ltb h
  refine g_tVv (k := 0) (As := [.int x1]) (rest := []) (o := (r2, g2)) (xo := xo) Z (fun sz => cX_needPerson l hl0 D T ad sK sV xo g x1 _ hr2 sz) kX_RX11_214_needPerson ⟨Nat.le_of_ble_eq_true rfl, Nat.le_of_ble_eq_true rfl⟩ ⟨rfl, rfl⟩ ⟨Nat.le_of_ble_eq_true rfl, Nat.le_of_ble_eq_true rfl⟩ (rfl : vwCl[10]? = some (RX11, TX11, 19)) ob_0 rfl rfl (Nat.le_of_ble_eq_true rfl) dX11_person_2 ⟨Nat.le_of_ble_eq_true rfl, Nat.le_of_ble_eq_true rfl⟩ (fun k9 hk9 => ?_) (fun v9 hv9 => ?_)
  · subst hk9
    obtain rfl := Option.some.inj h
    exact ⟨rfl, rfl⟩
  · subst hv9
    have h := selR h
    refine g_aload_n C dX11_person_5 rfl 0 rfl ?_
    refine g_iload_n C dX11_person_6 rfl 2 rfl ?_
    refine g_if_lt C 20 dX11_person_7 (by decide) (fun c7 => ?_) (fun c7 => ?_)
    · have h := iteT c7 h
      exact J20 x1 x2 g2 h
    · have h := iteF c7 h
      refine g_iload_n C dX11_person_10 rfl 2 rfl ?_
      refine g_bipush C dX11_person_11 bp_7 ?_
      refine g_icmp_gt C 20 dX11_person_13 (by decide) (fun c13 => ?_) (fun c13 => ?_)
      · have h := iteT c13 h
        exact J20 x1 x2 g2 h
      · have h := iteF c13 h
        refine g_iconst C dX11_person_16 ic_1 ?_
        refine g_goto (tgt := 21) C dX11_person_17 (by decide) ?_
        exact J21 x1 x2 (1 : Int32) g2 h
def fX_will (x1 : Int32) (x2 : Int32) (g : St) : Option ((Nat ⊕ Int32) × St) :=
  lt1 (fX_needPerson x1 g) fun ⟨r2, g2⟩ => Sum.elim (fun k => some (.inl k, g2)) (fun _ => lt1 (fX_needPerson x2 g2) fun ⟨r7, g7⟩ => Sum.elim (fun k => some (.inl k, g7)) (fun _ => (fX_State_willOf 10 x1 x2 g7).bind fun ⟨r16, g16⟩ => (some (.inr r16, g16))) r7) r2
def rmX_will : Room := { frames := 9, cells := 2, slots := 12, locals := 141 }
abbrev GcX_will (l : Launch) (D : va_G) (T : cT) (ad : Nat → Nat) (Γ : Cxt) (o : (Nat ⊕ Int32) × St) (xo : Sl) (kc : Nat) (x : Sl) (g : St) (pc : Nat) (lv : List (Nat × Value)) (stk : List Value) : Prop := Gj l shX D T ad 3 (rmX_will) kc (6 * kc) Γ (vx_MQ Γ.below (va_Qi (xoI o xo) (wPost shX D T ad Γ.A) Γ.A) (xoX shX D T ad o.1 (o.2, xo) Γ.A) Γ.args Γ.s 2 12 Γ.A) x g pc lv stk
set_option maxRecDepth 100000 in
set_option maxHeartbeats 4000000 in
theorem cX_will (l : Launch) (hl0 : l.stackTraces = false) (D : va_G) (T : cT) (ad : Nat → Nat) (sK sV : Nat → Nat) (xo : Sl) (g : St) (x1 : Int32) (x2 : Int32) (o : (Nat ⊕ Int32) × St) (h : fX_will x1 x2 g = some o) (sz : Nat) : vx_Met l yX11_will wX_will (rmX_will) (va_Pc [.ref (ad 0), .int x1, .int x2] (xPre shX D T ad sK sV xo g sz)) (va_Qi (xoI o xo) (wPost shX D T ad (aW shX T ad xo g sz)) (aW shX T ad xo g sz)) (xoX shX D T ad o.1 (o.2, xo) (aW shX T ad xo g sz)) 2 12 (aW shX T ad xo g sz) := by
  refine g_startt (Qc := fun A => va_Qi (xoI o xo) (wPost shX D T ad A) A) (XC := fun A => xoX shX D T ad o.1 (o.2, xo) A) hl0 (by decide +kernel) rfl rfl (Nat.le_of_ble_eq_true rfl) (lv := [(0, .ref (ad 0)), (1, .int x1), (2, .int x2)]) rfl (fun Γ Z => ?_)
  have Y := Z.1
  have C := Y.1
  show GcX_will l D T ad Γ o xo 0 xo g 0 [(0, .ref (ad 0)), (1, .int x1), (2, .int x2)] []
  refine g_aload_n C dX11_will_0 rfl 0 rfl ?_
  refine g_iload_n C dX11_will_1 rfl 1 rfl ?_
  obtain ⟨⟨r2, g2⟩, hr2, h⟩ := ltb h
  refine g_tVv (k := 0) (As := [.int x1]) (rest := []) (o := (r2, g2)) (xo := xo) Z (fun sz => cX_needPerson l hl0 D T ad sK sV xo g x1 _ hr2 sz) kX_RX11_214_needPerson ⟨Nat.le_of_ble_eq_true rfl, Nat.le_of_ble_eq_true rfl⟩ ⟨rfl, rfl⟩ ⟨Nat.le_of_ble_eq_true rfl, Nat.le_of_ble_eq_true rfl⟩ (rfl : vwCl[10]? = some (RX11, TX11, 19)) ob_0 rfl rfl (Nat.le_of_ble_eq_true rfl) dX11_will_2 ⟨Nat.le_of_ble_eq_true rfl, Nat.le_of_ble_eq_true rfl⟩ (fun k9 hk9 => ?_) (fun v9 hv9 => ?_)
  · subst hk9
    obtain rfl := Option.some.inj h
    exact ⟨rfl, rfl⟩
  · subst hv9
    have h := selR h
    refine g_aload_n C dX11_will_5 rfl 0 rfl ?_
    refine g_iload_n C dX11_will_6 rfl 2 rfl ?_
    obtain ⟨⟨r7, g7⟩, hr7, h⟩ := ltb h
    refine g_tVv (k := 0) (As := [.int x2]) (rest := []) (o := (r7, g7)) (xo := xo) Z (fun sz => cX_needPerson l hl0 D T ad sK sV xo g2 x2 _ hr7 sz) kX_RX11_214_needPerson ⟨Nat.le_of_ble_eq_true rfl, Nat.le_of_ble_eq_true rfl⟩ ⟨rfl, rfl⟩ ⟨Nat.le_of_ble_eq_true rfl, Nat.le_of_ble_eq_true rfl⟩ (rfl : vwCl[10]? = some (RX11, TX11, 19)) ob_0 rfl rfl (Nat.le_of_ble_eq_true rfl) dX11_will_7 ⟨Nat.le_of_ble_eq_true rfl, Nat.le_of_ble_eq_true rfl⟩ (fun k9 hk9 => ?_) (fun v9 hv9 => ?_)
    · subst hk9
      obtain rfl := Option.some.inj h
      exact ⟨rfl, rfl⟩
    · subst hv9
      have h := selR h
      refine g_aload_n C dX11_will_10 rfl 0 rfl ?_
      refine gX_get_X11_65 C ob_0 rfl dX11_will_11 ?_
      refine g_iload_n C dX11_will_14 rfl 1 rfl ?_
      refine g_iload_n C dX11_will_15 rfl 2 rfl ?_
      obtain ⟨⟨r16, g16⟩, hr16, h⟩ := bnd h
      refine g_xVi (k := 10) (As := [.int x1, .int x2]) (rest := []) (ro := r16) (go := g16) (xo := xo) Y (fun sz => cX_State_willOf l D T ad sK sV xo g7 10 x1 x2 (Or.inl rfl) _ hr16 sz) kX_RX11_250_State_willOf ⟨Nat.le_of_ble_eq_true rfl, Nat.le_of_ble_eq_true rfl⟩ ⟨rfl, rfl⟩ ⟨Nat.le_of_ble_eq_true rfl, Nat.le_of_ble_eq_true rfl⟩ (rfl : vwCl[6]? = some (RX7, TX7, 6)) ob_10 rfl rfl (Nat.le_of_ble_eq_true rfl) dX11_will_16 ?_
      obtain rfl := Option.some.inj h
      exact g_treti Z rfl rfl ⟨Nat.le_of_ble_eq_true rfl, Nat.le_of_ble_eq_true rfl⟩ dX11_will_19
def fX_lends (x1 : Int32) (x2 : Int32) (g : St) : Option ((Nat ⊕ Int32) × St) :=
  lt1 (fX_needPerson x1 g) fun ⟨r2, g2⟩ => Sum.elim (fun k => some (.inl k, g2)) (fun _ => lt1 (fX_needPerson x2 g2) fun ⟨r7, g7⟩ => Sum.elim (fun k => some (.inl k, g7)) (fun _ => (fX_State_lendsTo 10 x1 x2 g7).bind fun ⟨r16, g16⟩ => (some (.inr r16, g16))) r7) r2
def rmX_lends : Room := { frames := 9, cells := 2, slots := 12, locals := 141 }
abbrev GcX_lends (l : Launch) (D : va_G) (T : cT) (ad : Nat → Nat) (Γ : Cxt) (o : (Nat ⊕ Int32) × St) (xo : Sl) (kc : Nat) (x : Sl) (g : St) (pc : Nat) (lv : List (Nat × Value)) (stk : List Value) : Prop := Gj l shX D T ad 3 (rmX_lends) kc (6 * kc) Γ (vx_MQ Γ.below (va_Qi (xoZ o xo) (wPost shX D T ad Γ.A) Γ.A) (xoX shX D T ad o.1 (o.2, xo) Γ.A) Γ.args Γ.s 2 12 Γ.A) x g pc lv stk
set_option maxRecDepth 100000 in
set_option maxHeartbeats 4000000 in
theorem cX_lends (l : Launch) (hl0 : l.stackTraces = false) (D : va_G) (T : cT) (ad : Nat → Nat) (sK sV : Nat → Nat) (xo : Sl) (g : St) (x1 : Int32) (x2 : Int32) (o : (Nat ⊕ Int32) × St) (h : fX_lends x1 x2 g = some o) (sz : Nat) : vx_Met l yX11_lends wX_lends (rmX_lends) (va_Pc [.ref (ad 0), .int x1, .int x2] (xPre shX D T ad sK sV xo g sz)) (va_Qi (xoZ o xo) (wPost shX D T ad (aW shX T ad xo g sz)) (aW shX T ad xo g sz)) (xoX shX D T ad o.1 (o.2, xo) (aW shX T ad xo g sz)) 2 12 (aW shX T ad xo g sz) := by
  refine g_startt (Qc := fun A => va_Qi (xoZ o xo) (wPost shX D T ad A) A) (XC := fun A => xoX shX D T ad o.1 (o.2, xo) A) hl0 (by decide +kernel) rfl rfl (Nat.le_of_ble_eq_true rfl) (lv := [(0, .ref (ad 0)), (1, .int x1), (2, .int x2)]) rfl (fun Γ Z => ?_)
  have Y := Z.1
  have C := Y.1
  show GcX_lends l D T ad Γ o xo 0 xo g 0 [(0, .ref (ad 0)), (1, .int x1), (2, .int x2)] []
  refine g_aload_n C dX11_lends_0 rfl 0 rfl ?_
  refine g_iload_n C dX11_lends_1 rfl 1 rfl ?_
  obtain ⟨⟨r2, g2⟩, hr2, h⟩ := ltb h
  refine g_tVv (k := 0) (As := [.int x1]) (rest := []) (o := (r2, g2)) (xo := xo) Z (fun sz => cX_needPerson l hl0 D T ad sK sV xo g x1 _ hr2 sz) kX_RX11_214_needPerson ⟨Nat.le_of_ble_eq_true rfl, Nat.le_of_ble_eq_true rfl⟩ ⟨rfl, rfl⟩ ⟨Nat.le_of_ble_eq_true rfl, Nat.le_of_ble_eq_true rfl⟩ (rfl : vwCl[10]? = some (RX11, TX11, 19)) ob_0 rfl rfl (Nat.le_of_ble_eq_true rfl) dX11_lends_2 ⟨Nat.le_of_ble_eq_true rfl, Nat.le_of_ble_eq_true rfl⟩ (fun k9 hk9 => ?_) (fun v9 hv9 => ?_)
  · subst hk9
    obtain rfl := Option.some.inj h
    exact ⟨rfl, rfl⟩
  · subst hv9
    have h := selR h
    refine g_aload_n C dX11_lends_5 rfl 0 rfl ?_
    refine g_iload_n C dX11_lends_6 rfl 2 rfl ?_
    obtain ⟨⟨r7, g7⟩, hr7, h⟩ := ltb h
    refine g_tVv (k := 0) (As := [.int x2]) (rest := []) (o := (r7, g7)) (xo := xo) Z (fun sz => cX_needPerson l hl0 D T ad sK sV xo g2 x2 _ hr7 sz) kX_RX11_214_needPerson ⟨Nat.le_of_ble_eq_true rfl, Nat.le_of_ble_eq_true rfl⟩ ⟨rfl, rfl⟩ ⟨Nat.le_of_ble_eq_true rfl, Nat.le_of_ble_eq_true rfl⟩ (rfl : vwCl[10]? = some (RX11, TX11, 19)) ob_0 rfl rfl (Nat.le_of_ble_eq_true rfl) dX11_lends_7 ⟨Nat.le_of_ble_eq_true rfl, Nat.le_of_ble_eq_true rfl⟩ (fun k9 hk9 => ?_) (fun v9 hv9 => ?_)
    · subst hk9
      obtain rfl := Option.some.inj h
      exact ⟨rfl, rfl⟩
    · subst hv9
      have h := selR h
      refine g_aload_n C dX11_lends_10 rfl 0 rfl ?_
      refine gX_get_X11_65 C ob_0 rfl dX11_lends_11 ?_
      refine g_iload_n C dX11_lends_14 rfl 1 rfl ?_
      refine g_iload_n C dX11_lends_15 rfl 2 rfl ?_
      obtain ⟨⟨r16, g16⟩, hr16, h⟩ := bnd h
      refine g_xVz (k := 10) (As := [.int x1, .int x2]) (rest := []) (ro := r16) (go := g16) (xo := xo) Y (fun sz => cX_State_lendsTo l D T ad sK sV xo g7 10 x1 x2 (Or.inl rfl) _ hr16 sz) kX_RX11_254_State_lendsTo ⟨Nat.le_of_ble_eq_true rfl, Nat.le_of_ble_eq_true rfl⟩ ⟨rfl, rfl⟩ ⟨Nat.le_of_ble_eq_true rfl, Nat.le_of_ble_eq_true rfl⟩ (rfl : vwCl[6]? = some (RX7, TX7, 6)) ob_10 rfl rfl (Nat.le_of_ble_eq_true rfl) dX11_lends_16 (fun hz16 => ?_)
      obtain rfl := Option.some.inj h
      exact g_tretz Z hz16 rfl rfl ⟨Nat.le_of_ble_eq_true rfl, Nat.le_of_ble_eq_true rfl⟩ dX11_lends_19
def fX_would_b125 (x1 : Int32) (x2 : Int32) (x3 : Int32) (x4 : Int32) (x5 : Int32) (x6 : Int32) (x7 : Int32) (x8 : Int32) (s1 : Int32) (g : St) : Option ((Nat ⊕ Int32) × St) :=
  lt1 (fX_need s1 g) fun ⟨r125, g125⟩ => Sum.elim (fun k => some (.inl k, g125)) (fun _ => (fX_Rows_put 25 (0 : Int32) x1 g125).bind fun g137 => ((fX_Rows_put 25 (1 : Int32) x2 g137).bind fun g149 => ((fX_Rows_put 25 (2 : Int32) x3 g149).bind fun g161 => ((fX_Rows_put 25 (3 : Int32) x4 g161).bind fun g174 => ((fX_Rows_put 25 (4 : Int32) x5 g174).bind fun g187 => ((fX_Rows_put 25 (5 : Int32) x6 g187).bind fun g200 => ((fX_Rows_put 25 (6 : Int32) x7 g200).bind fun g214 => ((fX_Rows_put 25 (7 : Int32) x8 g214).bind fun g228 => ((fX_Law_answer 4 g228).bind fun ⟨r235, g235⟩ => (some (.inr r235, g235))))))))))) r125
def fX_would_b124 (x1 : Int32) (x2 : Int32) (x3 : Int32) (x4 : Int32) (x5 : Int32) (x6 : Int32) (x7 : Int32) (x8 : Int32) (g : St) : Option ((Nat ⊕ Int32) × St) :=
  fX_would_b125 x1 x2 x3 x4 x5 x6 x7 x8 (0 : Int32) g
def fX_would_b91 (x1 : Int32) (x2 : Int32) (x3 : Int32) (x4 : Int32) (x5 : Int32) (x6 : Int32) (x7 : Int32) (x8 : Int32) (s1 : Int32) (g : St) : Option ((Nat ⊕ Int32) × St) :=
  lt1 (fX_need s1 g) fun ⟨r91, g91⟩ => Sum.elim (fun k => some (.inl k, g91)) (fun _ => if x7 < 0 then
    (fX_would_b124 x1 x2 x3 x4 x5 x6 x7 x8 g91)
  else
    (if (900 : Int32) < x7 then
    (fX_would_b124 x1 x2 x3 x4 x5 x6 x7 x8 g91)
  else
    (if x8 < 0 then
    (fX_would_b124 x1 x2 x3 x4 x5 x6 x7 x8 g91)
  else
    (if (8 : Int32) ≤ x8 then
    (fX_would_b124 x1 x2 x3 x4 x5 x6 x7 x8 g91)
  else
    (fX_would_b125 x1 x2 x3 x4 x5 x6 x7 x8 (1 : Int32) g91))))) r91
def fX_would_b90 (x1 : Int32) (x2 : Int32) (x3 : Int32) (x4 : Int32) (x5 : Int32) (x6 : Int32) (x7 : Int32) (x8 : Int32) (g : St) : Option ((Nat ⊕ Int32) × St) :=
  fX_would_b91 x1 x2 x3 x4 x5 x6 x7 x8 (0 : Int32) g
def fX_would_b57 (x1 : Int32) (x2 : Int32) (x3 : Int32) (x4 : Int32) (x5 : Int32) (x6 : Int32) (x7 : Int32) (x8 : Int32) (s1 : Int32) (g : St) : Option ((Nat ⊕ Int32) × St) :=
  lt1 (fX_need s1 g) fun ⟨r57, g57⟩ => Sum.elim (fun k => some (.inl k, g57)) (fun _ => if x5 < 0 then
    (fX_would_b90 x1 x2 x3 x4 x5 x6 x7 x8 g57)
  else
    (if (999 : Int32) < x5 then
    (fX_would_b90 x1 x2 x3 x4 x5 x6 x7 x8 g57)
  else
    (if x6 < 0 then
    (fX_would_b90 x1 x2 x3 x4 x5 x6 x7 x8 g57)
  else
    (if (8 : Int32) < x6 then
    (fX_would_b90 x1 x2 x3 x4 x5 x6 x7 x8 g57)
  else
    (fX_would_b91 x1 x2 x3 x4 x5 x6 x7 x8 (1 : Int32) g57))))) r57
def fX_would_b56 (x1 : Int32) (x2 : Int32) (x3 : Int32) (x4 : Int32) (x5 : Int32) (x6 : Int32) (x7 : Int32) (x8 : Int32) (g : St) : Option ((Nat ⊕ Int32) × St) :=
  fX_would_b57 x1 x2 x3 x4 x5 x6 x7 x8 (0 : Int32) g
def fX_would_b52 (x1 : Int32) (x2 : Int32) (x3 : Int32) (x4 : Int32) (x5 : Int32) (x6 : Int32) (x7 : Int32) (x8 : Int32) (g : St) : Option ((Nat ⊕ Int32) × St) :=
  fX_would_b57 x1 x2 x3 x4 x5 x6 x7 x8 (1 : Int32) g
def fX_would_b27 (x1 : Int32) (x2 : Int32) (x3 : Int32) (x4 : Int32) (x5 : Int32) (x6 : Int32) (x7 : Int32) (x8 : Int32) (s1 : Int32) (g : St) : Option ((Nat ⊕ Int32) × St) :=
  lt1 (fX_need s1 g) fun ⟨r27, g27⟩ => Sum.elim (fun k => some (.inl k, g27)) (fun _ => if x3 < 0 then
    (fX_would_b56 x1 x2 x3 x4 x5 x6 x7 x8 g27)
  else
    (if (8 : Int32) < x3 then
    (fX_would_b56 x1 x2 x3 x4 x5 x6 x7 x8 g27)
  else
    (if x4 = 0 then
    (fX_would_b52 x1 x2 x3 x4 x5 x6 x7 x8 g27)
  else
    (if x4 = (1 : Int32) then
    (fX_would_b52 x1 x2 x3 x4 x5 x6 x7 x8 g27)
  else
    (fX_would_b56 x1 x2 x3 x4 x5 x6 x7 x8 g27))))) r27
def fX_would_b26 (x1 : Int32) (x2 : Int32) (x3 : Int32) (x4 : Int32) (x5 : Int32) (x6 : Int32) (x7 : Int32) (x8 : Int32) (g : St) : Option ((Nat ⊕ Int32) × St) :=
  fX_would_b27 x1 x2 x3 x4 x5 x6 x7 x8 (0 : Int32) g
def fX_would (x1 : Int32) (x2 : Int32) (x3 : Int32) (x4 : Int32) (x5 : Int32) (x6 : Int32) (x7 : Int32) (x8 : Int32) (g : St) : Option ((Nat ⊕ Int32) × St) :=
  if x1 < 0 then
    (fX_would_b26 x1 x2 x3 x4 x5 x6 x7 x8 g)
  else
    (if (9 : Int32) < x1 then
    (fX_would_b26 x1 x2 x3 x4 x5 x6 x7 x8 g)
  else
    (if x2 < 0 then
    (fX_would_b26 x1 x2 x3 x4 x5 x6 x7 x8 g)
  else
    (if (999 : Int32) < x2 then
    (fX_would_b26 x1 x2 x3 x4 x5 x6 x7 x8 g)
  else
    (fX_would_b27 x1 x2 x3 x4 x5 x6 x7 x8 (1 : Int32) g))))
def rmX_would : Room := { frames := 9, cells := 4, slots := 24, locals := 141 }
abbrev GcX_would (l : Launch) (D : va_G) (T : cT) (ad : Nat → Nat) (Γ : Cxt) (o : (Nat ⊕ Int32) × St) (xo : Sl) (kc : Nat) (x : Sl) (g : St) (pc : Nat) (lv : List (Nat × Value)) (stk : List Value) : Prop := Gj l shX D T ad 9 (rmX_would) kc (6 * kc) Γ (vx_MQ Γ.below (va_Qi (xoI o xo) (wPost shX D T ad Γ.A) Γ.A) (xoX shX D T ad o.1 (o.2, xo) Γ.A) Γ.args Γ.s 4 24 Γ.A) x g pc lv stk
set_option maxRecDepth 100000 in
set_option maxHeartbeats 4000000 in
theorem cX_would (l : Launch) (hl0 : l.stackTraces = false) (D : va_G) (T : cT) (ad : Nat → Nat) (sK sV : Nat → Nat) (xo : Sl) (g : St) (x1 : Int32) (x2 : Int32) (x3 : Int32) (x4 : Int32) (x5 : Int32) (x6 : Int32) (x7 : Int32) (x8 : Int32) (o : (Nat ⊕ Int32) × St) (h : fX_would x1 x2 x3 x4 x5 x6 x7 x8 g = some o) (sz : Nat) : vx_Met l yX11_would wX_would (rmX_would) (va_Pc [.ref (ad 0), .int x1, .int x2, .int x3, .int x4, .int x5, .int x6, .int x7, .int x8] (xPre shX D T ad sK sV xo g sz)) (va_Qi (xoI o xo) (wPost shX D T ad (aW shX T ad xo g sz)) (aW shX T ad xo g sz)) (xoX shX D T ad o.1 (o.2, xo) (aW shX T ad xo g sz)) 4 24 (aW shX T ad xo g sz) := by
  refine g_startt (Qc := fun A => va_Qi (xoI o xo) (wPost shX D T ad A) A) (XC := fun A => xoX shX D T ad o.1 (o.2, xo) A) hl0 (by decide +kernel) rfl rfl (Nat.le_of_ble_eq_true rfl) (lv := [(0, .ref (ad 0)), (1, .int x1), (2, .int x2), (3, .int x3), (4, .int x4), (5, .int x5), (6, .int x6), (7, .int x7), (8, .int x8)]) rfl (fun Γ Z => ?_)
  have Y := Z.1
  have C := Y.1
  show GcX_would l D T ad Γ o xo 0 xo g 0 [(0, .ref (ad 0)), (1, .int x1), (2, .int x2), (3, .int x3), (4, .int x4), (5, .int x5), (6, .int x6), (7, .int x7), (8, .int x8)] []
  have J125 : ∀ (x1 : Int32) (x2 : Int32) (x3 : Int32) (x4 : Int32) (x5 : Int32) (x6 : Int32) (x7 : Int32) (x8 : Int32) (s1 : Int32) (g : St), fX_would_b125 x1 x2 x3 x4 x5 x6 x7 x8 s1 g = some o → GcX_would l D T ad Γ o xo 3 xo g 125 [(0, .ref (ad 0)), (1, .int x1), (2, .int x2), (3, .int x3), (4, .int x4), (5, .int x5), (6, .int x6), (7, .int x7), (8, .int x8)] [.int s1, .ref (ad 0)] := by
    intro x1 x2 x3 x4 x5 x6 x7 x8 s1 g h
    obtain ⟨⟨r125, g125⟩, hr125, h⟩ := ltb h
    refine g_tVv (k := 0) (As := [.int s1]) (rest := []) (o := (r125, g125)) (xo := xo) Z (fun sz => cX_need l hl0 D T ad sK sV xo g s1 _ hr125 sz) kX_RX11_115_need ⟨Nat.le_of_ble_eq_true rfl, Nat.le_of_ble_eq_true rfl⟩ ⟨rfl, rfl⟩ ⟨Nat.le_of_ble_eq_true rfl, Nat.le_of_ble_eq_true rfl⟩ (rfl : vwCl[10]? = some (RX11, TX11, 19)) ob_0 rfl rfl (Nat.le_of_ble_eq_true rfl) dX11_would_125 ⟨Nat.le_of_ble_eq_true rfl, Nat.le_of_ble_eq_true rfl⟩ (fun k9 hk9 => ?_) (fun v9 hv9 => ?_)
    · subst hk9
      obtain rfl := Option.some.inj h
      exact ⟨rfl, rfl⟩
    · subst hv9
      have h := selR h
      refine g_aload_n C dX11_would_128 rfl 0 rfl ?_
      refine gX_get_X11_29 C ob_0 rfl dX11_would_129 ?_
      refine gX_get_X11_258 C ob_4 rfl dX11_would_132 ?_
      refine g_iconst C dX11_would_135 ic_0 ?_
      refine g_iload_n C dX11_would_136 rfl 1 rfl ?_
      obtain ⟨g137, hr137, h⟩ := bnd h
      refine g_xSv (As := [.ref (ad 25), .int (0 : Int32), .int x1]) (rest := []) (go := g137) (xo := xo) Y (fun sz => cX_Rows_put l D T ad sK sV xo g125 25 (0 : Int32) x1 _ hr137 sz) kX_RX11_261_Rows_put ⟨Nat.le_of_ble_eq_true rfl, Nat.le_of_ble_eq_true rfl⟩ ⟨rfl, rfl⟩ ⟨Nat.le_of_ble_eq_true rfl, Nat.le_of_ble_eq_true rfl⟩ rfl rfl (Nat.le_of_ble_eq_true rfl) dX11_would_137 ?_
      refine g_aload_n C dX11_would_140 rfl 0 rfl ?_
      refine gX_get_X11_29 C ob_0 rfl dX11_would_141 ?_
      refine gX_get_X11_258 C ob_4 rfl dX11_would_144 ?_
      refine g_iconst C dX11_would_147 ic_1 ?_
      refine g_iload_n C dX11_would_148 rfl 2 rfl ?_
      obtain ⟨g149, hr149, h⟩ := bnd h
      refine g_xSv (As := [.ref (ad 25), .int (1 : Int32), .int x2]) (rest := []) (go := g149) (xo := xo) Y (fun sz => cX_Rows_put l D T ad sK sV xo g137 25 (1 : Int32) x2 _ hr149 sz) kX_RX11_261_Rows_put ⟨Nat.le_of_ble_eq_true rfl, Nat.le_of_ble_eq_true rfl⟩ ⟨rfl, rfl⟩ ⟨Nat.le_of_ble_eq_true rfl, Nat.le_of_ble_eq_true rfl⟩ rfl rfl (Nat.le_of_ble_eq_true rfl) dX11_would_149 ?_
      refine g_aload_n C dX11_would_152 rfl 0 rfl ?_
      refine gX_get_X11_29 C ob_0 rfl dX11_would_153 ?_
      refine gX_get_X11_258 C ob_4 rfl dX11_would_156 ?_
      refine g_iconst C dX11_would_159 ic_2 ?_
      refine g_iload_n C dX11_would_160 rfl 3 rfl ?_
      obtain ⟨g161, hr161, h⟩ := bnd h
      refine g_xSv (As := [.ref (ad 25), .int (2 : Int32), .int x3]) (rest := []) (go := g161) (xo := xo) Y (fun sz => cX_Rows_put l D T ad sK sV xo g149 25 (2 : Int32) x3 _ hr161 sz) kX_RX11_261_Rows_put ⟨Nat.le_of_ble_eq_true rfl, Nat.le_of_ble_eq_true rfl⟩ ⟨rfl, rfl⟩ ⟨Nat.le_of_ble_eq_true rfl, Nat.le_of_ble_eq_true rfl⟩ rfl rfl (Nat.le_of_ble_eq_true rfl) dX11_would_161 ?_
      refine g_aload_n C dX11_would_164 rfl 0 rfl ?_
      refine gX_get_X11_29 C ob_0 rfl dX11_would_165 ?_
      refine gX_get_X11_258 C ob_4 rfl dX11_would_168 ?_
      refine g_iconst C dX11_would_171 ic_3 ?_
      refine g_iload C dX11_would_172 4 rfl ?_
      obtain ⟨g174, hr174, h⟩ := bnd h
      refine g_xSv (As := [.ref (ad 25), .int (3 : Int32), .int x4]) (rest := []) (go := g174) (xo := xo) Y (fun sz => cX_Rows_put l D T ad sK sV xo g161 25 (3 : Int32) x4 _ hr174 sz) kX_RX11_261_Rows_put ⟨Nat.le_of_ble_eq_true rfl, Nat.le_of_ble_eq_true rfl⟩ ⟨rfl, rfl⟩ ⟨Nat.le_of_ble_eq_true rfl, Nat.le_of_ble_eq_true rfl⟩ rfl rfl (Nat.le_of_ble_eq_true rfl) dX11_would_174 ?_
      refine g_aload_n C dX11_would_177 rfl 0 rfl ?_
      refine gX_get_X11_29 C ob_0 rfl dX11_would_178 ?_
      refine gX_get_X11_258 C ob_4 rfl dX11_would_181 ?_
      refine g_iconst C dX11_would_184 ic_4 ?_
      refine g_iload C dX11_would_185 5 rfl ?_
      obtain ⟨g187, hr187, h⟩ := bnd h
      refine g_xSv (As := [.ref (ad 25), .int (4 : Int32), .int x5]) (rest := []) (go := g187) (xo := xo) Y (fun sz => cX_Rows_put l D T ad sK sV xo g174 25 (4 : Int32) x5 _ hr187 sz) kX_RX11_261_Rows_put ⟨Nat.le_of_ble_eq_true rfl, Nat.le_of_ble_eq_true rfl⟩ ⟨rfl, rfl⟩ ⟨Nat.le_of_ble_eq_true rfl, Nat.le_of_ble_eq_true rfl⟩ rfl rfl (Nat.le_of_ble_eq_true rfl) dX11_would_187 ?_
      refine g_aload_n C dX11_would_190 rfl 0 rfl ?_
      refine gX_get_X11_29 C ob_0 rfl dX11_would_191 ?_
      refine gX_get_X11_258 C ob_4 rfl dX11_would_194 ?_
      refine g_iconst C dX11_would_197 ic_5 ?_
      refine g_iload C dX11_would_198 6 rfl ?_
      obtain ⟨g200, hr200, h⟩ := bnd h
      refine g_xSv (As := [.ref (ad 25), .int (5 : Int32), .int x6]) (rest := []) (go := g200) (xo := xo) Y (fun sz => cX_Rows_put l D T ad sK sV xo g187 25 (5 : Int32) x6 _ hr200 sz) kX_RX11_261_Rows_put ⟨Nat.le_of_ble_eq_true rfl, Nat.le_of_ble_eq_true rfl⟩ ⟨rfl, rfl⟩ ⟨Nat.le_of_ble_eq_true rfl, Nat.le_of_ble_eq_true rfl⟩ rfl rfl (Nat.le_of_ble_eq_true rfl) dX11_would_200 ?_
      refine g_aload_n C dX11_would_203 rfl 0 rfl ?_
      refine gX_get_X11_29 C ob_0 rfl dX11_would_204 ?_
      refine gX_get_X11_258 C ob_4 rfl dX11_would_207 ?_
      refine g_bipush C dX11_would_210 bp_6 ?_
      refine g_iload C dX11_would_212 7 rfl ?_
      obtain ⟨g214, hr214, h⟩ := bnd h
      refine g_xSv (As := [.ref (ad 25), .int (6 : Int32), .int x7]) (rest := []) (go := g214) (xo := xo) Y (fun sz => cX_Rows_put l D T ad sK sV xo g200 25 (6 : Int32) x7 _ hr214 sz) kX_RX11_261_Rows_put ⟨Nat.le_of_ble_eq_true rfl, Nat.le_of_ble_eq_true rfl⟩ ⟨rfl, rfl⟩ ⟨Nat.le_of_ble_eq_true rfl, Nat.le_of_ble_eq_true rfl⟩ rfl rfl (Nat.le_of_ble_eq_true rfl) dX11_would_214 ?_
      refine g_aload_n C dX11_would_217 rfl 0 rfl ?_
      refine gX_get_X11_29 C ob_0 rfl dX11_would_218 ?_
      refine gX_get_X11_258 C ob_4 rfl dX11_would_221 ?_
      refine g_bipush C dX11_would_224 bp_7 ?_
      refine g_iload C dX11_would_226 8 rfl ?_
      obtain ⟨g228, hr228, h⟩ := bnd h
      refine g_xSv (As := [.ref (ad 25), .int (7 : Int32), .int x8]) (rest := []) (go := g228) (xo := xo) Y (fun sz => cX_Rows_put l D T ad sK sV xo g214 25 (7 : Int32) x8 _ hr228 sz) kX_RX11_261_Rows_put ⟨Nat.le_of_ble_eq_true rfl, Nat.le_of_ble_eq_true rfl⟩ ⟨rfl, rfl⟩ ⟨Nat.le_of_ble_eq_true rfl, Nat.le_of_ble_eq_true rfl⟩ rfl rfl (Nat.le_of_ble_eq_true rfl) dX11_would_228 ?_
      refine g_aload_n C dX11_would_231 rfl 0 rfl ?_
      refine gX_get_X11_29 C ob_0 rfl dX11_would_232 ?_
      obtain ⟨⟨r235, g235⟩, hr235, h⟩ := bnd h
      refine g_xVi (k := 4) (As := []) (rest := []) (ro := r235) (go := g235) (xo := xo) Y (fun sz => cX_Law_answer l D T ad sK sV xo g228 4 (Or.inl rfl) _ hr235 sz) kX_RX11_265_Law_answer ⟨Nat.le_of_ble_eq_true rfl, Nat.le_of_ble_eq_true rfl⟩ ⟨rfl, rfl⟩ ⟨Nat.le_of_ble_eq_true rfl, Nat.le_of_ble_eq_true rfl⟩ (rfl : vwCl[2]? = some (RX2, TX2, 4)) ob_4 rfl rfl (Nat.le_of_ble_eq_true rfl) dX11_would_235 ?_
      obtain rfl := Option.some.inj h
      exact g_treti Z rfl rfl ⟨Nat.le_of_ble_eq_true rfl, Nat.le_of_ble_eq_true rfl⟩ dX11_would_238
  have J124 : ∀ (x1 : Int32) (x2 : Int32) (x3 : Int32) (x4 : Int32) (x5 : Int32) (x6 : Int32) (x7 : Int32) (x8 : Int32) (g : St), fX_would_b124 x1 x2 x3 x4 x5 x6 x7 x8 g = some o → GcX_would l D T ad Γ o xo 3 xo g 124 [(0, .ref (ad 0)), (1, .int x1), (2, .int x2), (3, .int x3), (4, .int x4), (5, .int x5), (6, .int x6), (7, .int x7), (8, .int x8)] [.ref (ad 0)] := by
    intro x1 x2 x3 x4 x5 x6 x7 x8 g h
    refine g_iconst C dX11_would_124 ic_0 ?_
    exact J125 x1 x2 x3 x4 x5 x6 x7 x8 (0 : Int32) g h
  have J91 : ∀ (x1 : Int32) (x2 : Int32) (x3 : Int32) (x4 : Int32) (x5 : Int32) (x6 : Int32) (x7 : Int32) (x8 : Int32) (s1 : Int32) (g : St), fX_would_b91 x1 x2 x3 x4 x5 x6 x7 x8 s1 g = some o → GcX_would l D T ad Γ o xo 2 xo g 91 [(0, .ref (ad 0)), (1, .int x1), (2, .int x2), (3, .int x3), (4, .int x4), (5, .int x5), (6, .int x6), (7, .int x7), (8, .int x8)] [.int s1, .ref (ad 0)] := by
    intro x1 x2 x3 x4 x5 x6 x7 x8 s1 g h
    obtain ⟨⟨r91, g91⟩, hr91, h⟩ := ltb h
    refine g_tVv (k := 0) (As := [.int s1]) (rest := []) (o := (r91, g91)) (xo := xo) Z (fun sz => cX_need l hl0 D T ad sK sV xo g s1 _ hr91 sz) kX_RX11_115_need ⟨Nat.le_of_ble_eq_true rfl, Nat.le_of_ble_eq_true rfl⟩ ⟨rfl, rfl⟩ ⟨Nat.le_of_ble_eq_true rfl, Nat.le_of_ble_eq_true rfl⟩ (rfl : vwCl[10]? = some (RX11, TX11, 19)) ob_0 rfl rfl (Nat.le_of_ble_eq_true rfl) dX11_would_91 ⟨Nat.le_of_ble_eq_true rfl, Nat.le_of_ble_eq_true rfl⟩ (fun k9 hk9 => ?_) (fun v9 hv9 => ?_)
    · subst hk9
      obtain rfl := Option.some.inj h
      exact ⟨rfl, rfl⟩
    · subst hv9
      have h := selR h
      refine g_aload_n C dX11_would_94 rfl 0 rfl ?_
      refine g_iload C dX11_would_95 7 rfl ?_
      refine g_if_lt C 124 dX11_would_97 (by decide) (fun c97 => ?_) (fun c97 => ?_)
      · have h := iteT c97 h
        exact J124 x1 x2 x3 x4 x5 x6 x7 x8 g91 h
      · have h := iteF c97 h
        refine g_iload C dX11_would_100 7 rfl ?_
        refine g_sipush C dX11_would_102 sp_900 ?_
        refine g_icmp_gt C 124 dX11_would_105 (by decide) (fun c105 => ?_) (fun c105 => ?_)
        · have h := iteT c105 h
          exact J124 x1 x2 x3 x4 x5 x6 x7 x8 g91 h
        · have h := iteF c105 h
          refine g_iload C dX11_would_108 8 rfl ?_
          refine g_if_lt C 124 dX11_would_110 (by decide) (fun c110 => ?_) (fun c110 => ?_)
          · have h := iteT c110 h
            exact J124 x1 x2 x3 x4 x5 x6 x7 x8 g91 h
          · have h := iteF c110 h
            refine g_iload C dX11_would_113 8 rfl ?_
            refine g_bipush C dX11_would_115 bp_8 ?_
            refine g_icmp_ge C 124 dX11_would_117 (by decide) (fun c117 => ?_) (fun c117 => ?_)
            · have h := iteT c117 h
              exact J124 x1 x2 x3 x4 x5 x6 x7 x8 g91 h
            · have h := iteF c117 h
              refine g_iconst C dX11_would_120 ic_1 ?_
              refine g_goto (tgt := 125) C dX11_would_121 (by decide) ?_
              exact J125 x1 x2 x3 x4 x5 x6 x7 x8 (1 : Int32) g91 h
  have J90 : ∀ (x1 : Int32) (x2 : Int32) (x3 : Int32) (x4 : Int32) (x5 : Int32) (x6 : Int32) (x7 : Int32) (x8 : Int32) (g : St), fX_would_b90 x1 x2 x3 x4 x5 x6 x7 x8 g = some o → GcX_would l D T ad Γ o xo 2 xo g 90 [(0, .ref (ad 0)), (1, .int x1), (2, .int x2), (3, .int x3), (4, .int x4), (5, .int x5), (6, .int x6), (7, .int x7), (8, .int x8)] [.ref (ad 0)] := by
    intro x1 x2 x3 x4 x5 x6 x7 x8 g h
    refine g_iconst C dX11_would_90 ic_0 ?_
    exact J91 x1 x2 x3 x4 x5 x6 x7 x8 (0 : Int32) g h
  have J57 : ∀ (x1 : Int32) (x2 : Int32) (x3 : Int32) (x4 : Int32) (x5 : Int32) (x6 : Int32) (x7 : Int32) (x8 : Int32) (s1 : Int32) (g : St), fX_would_b57 x1 x2 x3 x4 x5 x6 x7 x8 s1 g = some o → GcX_would l D T ad Γ o xo 1 xo g 57 [(0, .ref (ad 0)), (1, .int x1), (2, .int x2), (3, .int x3), (4, .int x4), (5, .int x5), (6, .int x6), (7, .int x7), (8, .int x8)] [.int s1, .ref (ad 0)] := by
    intro x1 x2 x3 x4 x5 x6 x7 x8 s1 g h
    obtain ⟨⟨r57, g57⟩, hr57, h⟩ := ltb h
    refine g_tVv (k := 0) (As := [.int s1]) (rest := []) (o := (r57, g57)) (xo := xo) Z (fun sz => cX_need l hl0 D T ad sK sV xo g s1 _ hr57 sz) kX_RX11_115_need ⟨Nat.le_of_ble_eq_true rfl, Nat.le_of_ble_eq_true rfl⟩ ⟨rfl, rfl⟩ ⟨Nat.le_of_ble_eq_true rfl, Nat.le_of_ble_eq_true rfl⟩ (rfl : vwCl[10]? = some (RX11, TX11, 19)) ob_0 rfl rfl (Nat.le_of_ble_eq_true rfl) dX11_would_57 ⟨Nat.le_of_ble_eq_true rfl, Nat.le_of_ble_eq_true rfl⟩ (fun k9 hk9 => ?_) (fun v9 hv9 => ?_)
    · subst hk9
      obtain rfl := Option.some.inj h
      exact ⟨rfl, rfl⟩
    · subst hv9
      have h := selR h
      refine g_aload_n C dX11_would_60 rfl 0 rfl ?_
      refine g_iload C dX11_would_61 5 rfl ?_
      refine g_if_lt C 90 dX11_would_63 (by decide) (fun c63 => ?_) (fun c63 => ?_)
      · have h := iteT c63 h
        exact J90 x1 x2 x3 x4 x5 x6 x7 x8 g57 h
      · have h := iteF c63 h
        refine g_iload C dX11_would_66 5 rfl ?_
        refine g_sipush C dX11_would_68 sp_999 ?_
        refine g_icmp_gt C 90 dX11_would_71 (by decide) (fun c71 => ?_) (fun c71 => ?_)
        · have h := iteT c71 h
          exact J90 x1 x2 x3 x4 x5 x6 x7 x8 g57 h
        · have h := iteF c71 h
          refine g_iload C dX11_would_74 6 rfl ?_
          refine g_if_lt C 90 dX11_would_76 (by decide) (fun c76 => ?_) (fun c76 => ?_)
          · have h := iteT c76 h
            exact J90 x1 x2 x3 x4 x5 x6 x7 x8 g57 h
          · have h := iteF c76 h
            refine g_iload C dX11_would_79 6 rfl ?_
            refine g_bipush C dX11_would_81 bp_8 ?_
            refine g_icmp_gt C 90 dX11_would_83 (by decide) (fun c83 => ?_) (fun c83 => ?_)
            · have h := iteT c83 h
              exact J90 x1 x2 x3 x4 x5 x6 x7 x8 g57 h
            · have h := iteF c83 h
              refine g_iconst C dX11_would_86 ic_1 ?_
              refine g_goto (tgt := 91) C dX11_would_87 (by decide) ?_
              exact J91 x1 x2 x3 x4 x5 x6 x7 x8 (1 : Int32) g57 h
  have J56 : ∀ (x1 : Int32) (x2 : Int32) (x3 : Int32) (x4 : Int32) (x5 : Int32) (x6 : Int32) (x7 : Int32) (x8 : Int32) (g : St), fX_would_b56 x1 x2 x3 x4 x5 x6 x7 x8 g = some o → GcX_would l D T ad Γ o xo 1 xo g 56 [(0, .ref (ad 0)), (1, .int x1), (2, .int x2), (3, .int x3), (4, .int x4), (5, .int x5), (6, .int x6), (7, .int x7), (8, .int x8)] [.ref (ad 0)] := by
    intro x1 x2 x3 x4 x5 x6 x7 x8 g h
    refine g_iconst C dX11_would_56 ic_0 ?_
    exact J57 x1 x2 x3 x4 x5 x6 x7 x8 (0 : Int32) g h
  have J52 : ∀ (x1 : Int32) (x2 : Int32) (x3 : Int32) (x4 : Int32) (x5 : Int32) (x6 : Int32) (x7 : Int32) (x8 : Int32) (g : St), fX_would_b52 x1 x2 x3 x4 x5 x6 x7 x8 g = some o → GcX_would l D T ad Γ o xo 1 xo g 52 [(0, .ref (ad 0)), (1, .int x1), (2, .int x2), (3, .int x3), (4, .int x4), (5, .int x5), (6, .int x6), (7, .int x7), (8, .int x8)] [.ref (ad 0)] := by
    intro x1 x2 x3 x4 x5 x6 x7 x8 g h
    refine g_iconst C dX11_would_52 ic_1 ?_
    refine g_goto (tgt := 57) C dX11_would_53 (by decide) ?_
    exact J57 x1 x2 x3 x4 x5 x6 x7 x8 (1 : Int32) g h
  have J27 : ∀ (x1 : Int32) (x2 : Int32) (x3 : Int32) (x4 : Int32) (x5 : Int32) (x6 : Int32) (x7 : Int32) (x8 : Int32) (s1 : Int32) (g : St), fX_would_b27 x1 x2 x3 x4 x5 x6 x7 x8 s1 g = some o → GcX_would l D T ad Γ o xo 0 xo g 27 [(0, .ref (ad 0)), (1, .int x1), (2, .int x2), (3, .int x3), (4, .int x4), (5, .int x5), (6, .int x6), (7, .int x7), (8, .int x8)] [.int s1, .ref (ad 0)] := by
    intro x1 x2 x3 x4 x5 x6 x7 x8 s1 g h
    obtain ⟨⟨r27, g27⟩, hr27, h⟩ := ltb h
    refine g_tVv (k := 0) (As := [.int s1]) (rest := []) (o := (r27, g27)) (xo := xo) Z (fun sz => cX_need l hl0 D T ad sK sV xo g s1 _ hr27 sz) kX_RX11_115_need ⟨Nat.le_of_ble_eq_true rfl, Nat.le_of_ble_eq_true rfl⟩ ⟨rfl, rfl⟩ ⟨Nat.le_of_ble_eq_true rfl, Nat.le_of_ble_eq_true rfl⟩ (rfl : vwCl[10]? = some (RX11, TX11, 19)) ob_0 rfl rfl (Nat.le_of_ble_eq_true rfl) dX11_would_27 ⟨Nat.le_of_ble_eq_true rfl, Nat.le_of_ble_eq_true rfl⟩ (fun k9 hk9 => ?_) (fun v9 hv9 => ?_)
    · subst hk9
      obtain rfl := Option.some.inj h
      exact ⟨rfl, rfl⟩
    · subst hv9
      have h := selR h
      refine g_aload_n C dX11_would_30 rfl 0 rfl ?_
      refine g_iload_n C dX11_would_31 rfl 3 rfl ?_
      refine g_if_lt C 56 dX11_would_32 (by decide) (fun c32 => ?_) (fun c32 => ?_)
      · have h := iteT c32 h
        exact J56 x1 x2 x3 x4 x5 x6 x7 x8 g27 h
      · have h := iteF c32 h
        refine g_iload_n C dX11_would_35 rfl 3 rfl ?_
        refine g_bipush C dX11_would_36 bp_8 ?_
        refine g_icmp_gt C 56 dX11_would_38 (by decide) (fun c38 => ?_) (fun c38 => ?_)
        · have h := iteT c38 h
          exact J56 x1 x2 x3 x4 x5 x6 x7 x8 g27 h
        · have h := iteF c38 h
          refine g_iload C dX11_would_41 4 rfl ?_
          refine g_if_eq C 52 dX11_would_43 (by decide) (fun c43 => ?_) (fun c43 => ?_)
          · have h := iteT c43 h
            exact J52 x1 x2 x3 x4 x5 x6 x7 x8 g27 h
          · have h := iteF c43 h
            refine g_iload C dX11_would_46 4 rfl ?_
            refine g_iconst C dX11_would_48 ic_1 ?_
            refine g_icmp_ne C 56 dX11_would_49 (by decide) (fun c49 => ?_) (fun c49 => ?_)
            · have h := iteT c49 h
              exact J52 x1 x2 x3 x4 x5 x6 x7 x8 g27 h
            · have h := iteF c49 h
              exact J56 x1 x2 x3 x4 x5 x6 x7 x8 g27 h
  have J26 : ∀ (x1 : Int32) (x2 : Int32) (x3 : Int32) (x4 : Int32) (x5 : Int32) (x6 : Int32) (x7 : Int32) (x8 : Int32) (g : St), fX_would_b26 x1 x2 x3 x4 x5 x6 x7 x8 g = some o → GcX_would l D T ad Γ o xo 0 xo g 26 [(0, .ref (ad 0)), (1, .int x1), (2, .int x2), (3, .int x3), (4, .int x4), (5, .int x5), (6, .int x6), (7, .int x7), (8, .int x8)] [.ref (ad 0)] := by
    intro x1 x2 x3 x4 x5 x6 x7 x8 g h
    refine g_iconst C dX11_would_26 ic_0 ?_
    exact J27 x1 x2 x3 x4 x5 x6 x7 x8 (0 : Int32) g h
  refine g_aload_n C dX11_would_0 rfl 0 rfl ?_
  refine g_iload_n C dX11_would_1 rfl 1 rfl ?_
  refine g_if_lt C 26 dX11_would_2 (by decide) (fun c2 => ?_) (fun c2 => ?_)
  · have h := iteT c2 h
    exact J26 x1 x2 x3 x4 x5 x6 x7 x8 g h
  · have h := iteF c2 h
    refine g_iload_n C dX11_would_5 rfl 1 rfl ?_
    refine g_bipush C dX11_would_6 bp_9 ?_
    refine g_icmp_gt C 26 dX11_would_8 (by decide) (fun c8 => ?_) (fun c8 => ?_)
    · have h := iteT c8 h
      exact J26 x1 x2 x3 x4 x5 x6 x7 x8 g h
    · have h := iteF c8 h
      refine g_iload_n C dX11_would_11 rfl 2 rfl ?_
      refine g_if_lt C 26 dX11_would_12 (by decide) (fun c12 => ?_) (fun c12 => ?_)
      · have h := iteT c12 h
        exact J26 x1 x2 x3 x4 x5 x6 x7 x8 g h
      · have h := iteF c12 h
        refine g_iload_n C dX11_would_15 rfl 2 rfl ?_
        refine g_sipush C dX11_would_16 sp_999 ?_
        refine g_icmp_gt C 26 dX11_would_19 (by decide) (fun c19 => ?_) (fun c19 => ?_)
        · have h := iteT c19 h
          exact J26 x1 x2 x3 x4 x5 x6 x7 x8 g h
        · have h := iteF c19 h
          refine g_iconst C dX11_would_22 ic_1 ?_
          refine g_goto (tgt := 27) C dX11_would_23 (by decide) ?_
          exact J27 x1 x2 x3 x4 x5 x6 x7 x8 (1 : Int32) g h
def fX_lender (x1 : Int32) (g : St) : Option ((Nat ⊕ Int32) × St) :=
  lt1 (fX_needPerson x1 g) fun ⟨r2, g2⟩ => Sum.elim (fun k => some (.inl k, g2)) (fun _ => (fX_State_lives 10 x1 g2).bind fun r10 => (if r10 = 0 then
    (some (.inr (-1 : Int32), g2))
  else
    ((fX_State_heirOf 10 x1 g2).bind fun ⟨r21, g21⟩ => (some (.inr r21, g21))))) r2
def rmX_lender : Room := { frames := 9, cells := 1, slots := 6, locals := 141 }
abbrev GcX_lender (l : Launch) (D : va_G) (T : cT) (ad : Nat → Nat) (Γ : Cxt) (o : (Nat ⊕ Int32) × St) (xo : Sl) (kc : Nat) (x : Sl) (g : St) (pc : Nat) (lv : List (Nat × Value)) (stk : List Value) : Prop := Gj l shX D T ad 2 (rmX_lender) kc (6 * kc) Γ (vx_MQ Γ.below (va_Qi (xoI o xo) (wPost shX D T ad Γ.A) Γ.A) (xoX shX D T ad o.1 (o.2, xo) Γ.A) Γ.args Γ.s 1 6 Γ.A) x g pc lv stk
set_option maxRecDepth 100000 in
set_option maxHeartbeats 4000000 in
theorem cX_lender (l : Launch) (hl0 : l.stackTraces = false) (D : va_G) (T : cT) (ad : Nat → Nat) (sK sV : Nat → Nat) (xo : Sl) (g : St) (x1 : Int32) (o : (Nat ⊕ Int32) × St) (h : fX_lender x1 g = some o) (sz : Nat) : vx_Met l yX11_lender wX_lender (rmX_lender) (va_Pc [.ref (ad 0), .int x1] (xPre shX D T ad sK sV xo g sz)) (va_Qi (xoI o xo) (wPost shX D T ad (aW shX T ad xo g sz)) (aW shX T ad xo g sz)) (xoX shX D T ad o.1 (o.2, xo) (aW shX T ad xo g sz)) 1 6 (aW shX T ad xo g sz) := by
  refine g_startt (Qc := fun A => va_Qi (xoI o xo) (wPost shX D T ad A) A) (XC := fun A => xoX shX D T ad o.1 (o.2, xo) A) hl0 (by decide +kernel) rfl rfl (Nat.le_of_ble_eq_true rfl) (lv := [(0, .ref (ad 0)), (1, .int x1)]) rfl (fun Γ Z => ?_)
  have Y := Z.1
  have C := Y.1
  show GcX_lender l D T ad Γ o xo 0 xo g 0 [(0, .ref (ad 0)), (1, .int x1)] []
  refine g_aload_n C dX11_lender_0 rfl 0 rfl ?_
  refine g_iload_n C dX11_lender_1 rfl 1 rfl ?_
  obtain ⟨⟨r2, g2⟩, hr2, h⟩ := ltb h
  refine g_tVv (k := 0) (As := [.int x1]) (rest := []) (o := (r2, g2)) (xo := xo) Z (fun sz => cX_needPerson l hl0 D T ad sK sV xo g x1 _ hr2 sz) kX_RX11_214_needPerson ⟨Nat.le_of_ble_eq_true rfl, Nat.le_of_ble_eq_true rfl⟩ ⟨rfl, rfl⟩ ⟨Nat.le_of_ble_eq_true rfl, Nat.le_of_ble_eq_true rfl⟩ (rfl : vwCl[10]? = some (RX11, TX11, 19)) ob_0 rfl rfl (Nat.le_of_ble_eq_true rfl) dX11_lender_2 ⟨Nat.le_of_ble_eq_true rfl, Nat.le_of_ble_eq_true rfl⟩ (fun k9 hk9 => ?_) (fun v9 hv9 => ?_)
  · subst hk9
    obtain rfl := Option.some.inj h
    exact ⟨rfl, rfl⟩
  · subst hv9
    have h := selR h
    refine g_aload_n C dX11_lender_5 rfl 0 rfl ?_
    refine gX_get_X11_65 C ob_0 rfl dX11_lender_6 ?_
    refine g_iload_n C dX11_lender_9 rfl 1 rfl ?_
    obtain ⟨r10, hr10, h⟩ := bnd h
    refine g_xVz (k := 10) (As := [.int x1]) (rest := []) (ro := r10) (go := g2) (xo := xo) Y (fun sz => cX_State_lives l D T ad sK sV xo g2 10 x1 (Or.inl rfl) _ hr10 sz) kX_RX11_230_State_lives ⟨Nat.le_of_ble_eq_true rfl, Nat.le_of_ble_eq_true rfl⟩ ⟨rfl, rfl⟩ ⟨Nat.le_of_ble_eq_true rfl, Nat.le_of_ble_eq_true rfl⟩ (rfl : vwCl[6]? = some (RX7, TX7, 6)) ob_10 rfl rfl (Nat.le_of_ble_eq_true rfl) dX11_lender_10 (fun hz10 => ?_)
    refine g_if_eq C 27 dX11_lender_13 (by decide) (fun c13 => ?_) (fun c13 => ?_)
    · have h := iteT c13 h
      refine g_iconst C dX11_lender_27 ic_m1 ?_
      obtain rfl := Option.some.inj h
      exact g_treti Z rfl rfl ⟨Nat.le_of_ble_eq_true rfl, Nat.le_of_ble_eq_true rfl⟩ dX11_lender_28
    · have h := iteF c13 h
      refine g_aload_n C dX11_lender_16 rfl 0 rfl ?_
      refine gX_get_X11_65 C ob_0 rfl dX11_lender_17 ?_
      refine g_iload_n C dX11_lender_20 rfl 1 rfl ?_
      obtain ⟨⟨r21, g21⟩, hr21, h⟩ := bnd h
      refine g_xVi (k := 10) (As := [.int x1]) (rest := []) (ro := r21) (go := g21) (xo := xo) Y (fun sz => cX_State_heirOf l D T ad sK sV xo g2 10 x1 (Or.inl rfl) _ hr21 sz) kX_RX11_268_State_heirOf ⟨Nat.le_of_ble_eq_true rfl, Nat.le_of_ble_eq_true rfl⟩ ⟨rfl, rfl⟩ ⟨Nat.le_of_ble_eq_true rfl, Nat.le_of_ble_eq_true rfl⟩ (rfl : vwCl[6]? = some (RX7, TX7, 6)) ob_10 rfl rfl (Nat.le_of_ble_eq_true rfl) dX11_lender_21 ?_
      refine g_goto (tgt := 28) C dX11_lender_24 (by decide) ?_
      obtain rfl := Option.some.inj h
      exact g_treti Z rfl rfl ⟨Nat.le_of_ble_eq_true rfl, Nat.le_of_ble_eq_true rfl⟩ dX11_lender_28
def fX_ahead_L41 (x1 : Int32) (x2 : Int32) : (Int32 × St) → Option ((Int32 × St) ⊕ (St)) := fun ⟨x3, g⟩ =>
  if x1 ≤ x3 then
    (some (.inr g))
  else
    ((fX_State_passYear 11 g).bind fun g50 => (some (.inl ((x3 + (1 : Int32)), g50))))
def fX_ahead_b41 (x1 : Int32) (x2 : Int32) (x3 : Int32) (g : St) : Option ((Nat ⊕ Int32) × St) :=
  (lp (fX_ahead_L41 x1 x2) fuel (x3, g)).bind (fun g => if x2 = 0 then
    ((fX_State_allDebts 11 g).bind fun r92 => (some (.inr r92, g)))
  else
    (if x2 = 1 then
    ((fX_State_heired 11 g).bind fun ⟨r100, g100⟩ => (some (.inr r100, g100)))
  else
    ((fX_State_mostInDebt 11 g).bind fun r108 => (some (.inr r108, g)))))
def fX_ahead_b25 (x1 : Int32) (x2 : Int32) (s1 : Int32) (g : St) : Option ((Nat ⊕ Int32) × St) :=
  lt1 (fX_need s1 g) fun ⟨r25, g25⟩ => Sum.elim (fun k => some (.inl k, g25)) (fun _ => (fX_State_take 11 10 g25).bind fun g36 => (fX_ahead_b41 x1 x2 (0 : Int32) g36)) r25
def fX_ahead_b24 (x1 : Int32) (x2 : Int32) (g : St) : Option ((Nat ⊕ Int32) × St) :=
  fX_ahead_b25 x1 x2 (0 : Int32) g
def fX_ahead (x1 : Int32) (x2 : Int32) (g : St) : Option ((Nat ⊕ Int32) × St) :=
  if x1 < 0 then
    (fX_ahead_b24 x1 x2 g)
  else
    (if (99 : Int32) < x1 then
    (fX_ahead_b24 x1 x2 g)
  else
    (if x2 < 0 then
    (fX_ahead_b24 x1 x2 g)
  else
    (if (2 : Int32) < x2 then
    (fX_ahead_b24 x1 x2 g)
  else
    (fX_ahead_b25 x1 x2 (1 : Int32) g))))
def rmX_ahead : Room := { frames := 9, cells := 1, slots := 6, locals := 141 }
abbrev GcX_ahead (l : Launch) (D : va_G) (T : cT) (ad : Nat → Nat) (Γ : Cxt) (o : (Nat ⊕ Int32) × St) (xo : Sl) (kc : Nat) (x : Sl) (g : St) (pc : Nat) (lv : List (Nat × Value)) (stk : List Value) : Prop := Gj l shX D T ad 4 (rmX_ahead) kc (6 * kc) Γ (vx_MQ Γ.below (va_Qi (xoI o xo) (wPost shX D T ad Γ.A) Γ.A) (xoX shX D T ad o.1 (o.2, xo) Γ.A) Γ.args Γ.s 1 6 Γ.A) x g pc lv stk
set_option maxRecDepth 100000 in
set_option maxHeartbeats 4000000 in
theorem cX_ahead (l : Launch) (hl0 : l.stackTraces = false) (D : va_G) (T : cT) (ad : Nat → Nat) (sK sV : Nat → Nat) (xo : Sl) (g : St) (x1 : Int32) (x2 : Int32) (o : (Nat ⊕ Int32) × St) (h : fX_ahead x1 x2 g = some o) (sz : Nat) : vx_Met l yX11_ahead wX_ahead (rmX_ahead) (va_Pc [.ref (ad 0), .int x1, .int x2] (xPre shX D T ad sK sV xo g sz)) (va_Qi (xoI o xo) (wPost shX D T ad (aW shX T ad xo g sz)) (aW shX T ad xo g sz)) (xoX shX D T ad o.1 (o.2, xo) (aW shX T ad xo g sz)) 1 6 (aW shX T ad xo g sz) := by
  refine g_startt (Qc := fun A => va_Qi (xoI o xo) (wPost shX D T ad A) A) (XC := fun A => xoX shX D T ad o.1 (o.2, xo) A) hl0 (by decide +kernel) rfl rfl (Nat.le_of_ble_eq_true rfl) (lv := [(0, .ref (ad 0)), (1, .int x1), (2, .int x2)]) rfl (fun Γ Z => ?_)
  have Y := Z.1
  have C := Y.1
  show GcX_ahead l D T ad Γ o xo 0 xo g 0 [(0, .ref (ad 0)), (1, .int x1), (2, .int x2)] []
  have J41 : ∀ (x1 : Int32) (x2 : Int32) (x3 : Int32) (g : St), fX_ahead_b41 x1 x2 x3 g = some o → GcX_ahead l D T ad Γ o xo 1 xo g 41 [(0, .ref (ad 0)), (1, .int x1), (2, .int x2), (3, .int x3)] [] := by
    intro x1 x2 x3 g h
    obtain ⟨g, ht, h⟩ := bnd h
    refine lp_run (P := fun t : Int32 × St => match t with | (x3, g) => GcX_ahead l D T ad Γ o xo 1 xo g 41 [(0, .ref (ad 0)), (1, .int x1), (2, .int x2), (3, .int x3)] []) (E := fun g : St => GcX_ahead l D T ad Γ o xo 1 xo g 59 [(0, .ref (ad 0)), (2, .int x2)] []) ?_ _ _ _ ht ?_
    · rintro ⟨x3, g⟩ z h Kt Ke
      show GcX_ahead l D T ad Γ o xo 1 xo g 41 [(0, .ref (ad 0)), (1, .int x1), (2, .int x2), (3, .int x3)] []
      refine g_iload_n C dX11_ahead_41 rfl 3 rfl ?_
      refine g_iload_n C dX11_ahead_42 rfl 1 rfl ?_
      refine g_icmp_ge C 59 dX11_ahead_43 (by decide) (fun c43 => ?_) (fun c43 => ?_)
      · have h := iteT c43 h
        exact g_sub [0, 2] rfl (Ke _ (Option.some.inj h).symm)
      · have h := iteF c43 h
        refine g_aload_n C dX11_ahead_46 rfl 0 rfl ?_
        refine gX_get_X11_69 C ob_0 rfl dX11_ahead_47 ?_
        obtain ⟨g50, hr50, h⟩ := bnd h
        refine g_xVv (k := 11) (As := []) (rest := []) (go := g50) (xo := xo) Y (fun sz => cX_State_passYear l D T ad sK sV xo g 11 (Or.inr rfl) _ hr50 sz) kX_RX11_273_State_passYear ⟨Nat.le_of_ble_eq_true rfl, Nat.le_of_ble_eq_true rfl⟩ ⟨rfl, rfl⟩ ⟨Nat.le_of_ble_eq_true rfl, Nat.le_of_ble_eq_true rfl⟩ (rfl : vwCl[6]? = some (RX7, TX7, 6)) ob_11 rfl rfl (Nat.le_of_ble_eq_true rfl) dX11_ahead_50 ?_
        refine g_iinc (lv' := [(3, .int (x3 + (1 : Int32))), (0, .ref (ad 0)), (1, .int x1), (2, .int x2)]) C dX11_ahead_53 3 rfl (ii_1 _) (Nat.le_of_ble_eq_true rfl) rfl ?_
        refine g_goto (tgt := 41) C dX11_ahead_56 (by decide) ?_
        exact g_sub [1, 2, 3, 0] rfl (Kt _ (Option.some.inj h).symm)
    · show GcX_ahead l D T ad Γ o xo 1 xo g 59 [(0, .ref (ad 0)), (2, .int x2)] []
      refine g_iload_n C dX11_ahead_59 rfl 1 rfl ?_
      by_cases c60_0 : x2 = 0
      · have h := iteT c60_0 h
        refine g_lookup C 88 dX11_ahead_60 (by decide) (by rw [c60_0]) (by decide) ?_
        refine g_aload_n C dX11_ahead_88 rfl 0 rfl ?_
        refine gX_get_X11_69 C ob_0 rfl dX11_ahead_89 ?_
        obtain ⟨r92, hr92, h⟩ := bnd h
        refine g_xVi (k := 11) (As := []) (rest := []) (ro := r92) (go := g) (xo := xo) Y (fun sz => cX_State_allDebts l D T ad sK sV xo g 11 (Or.inr rfl) _ hr92 sz) kX_RX11_199_State_allDebts ⟨Nat.le_of_ble_eq_true rfl, Nat.le_of_ble_eq_true rfl⟩ ⟨rfl, rfl⟩ ⟨Nat.le_of_ble_eq_true rfl, Nat.le_of_ble_eq_true rfl⟩ (rfl : vwCl[6]? = some (RX7, TX7, 6)) ob_11 rfl rfl (Nat.le_of_ble_eq_true rfl) dX11_ahead_92 ?_
        obtain rfl := Option.some.inj h
        exact g_treti Z rfl rfl ⟨Nat.le_of_ble_eq_true rfl, Nat.le_of_ble_eq_true rfl⟩ dX11_ahead_95
      have h := iteF c60_0 h
      by_cases c60_1 : x2 = 1
      · have h := iteT c60_1 h
        refine g_lookup C 96 dX11_ahead_60 (by decide) (by rw [c60_1]) (by decide) ?_
        refine g_aload_n C dX11_ahead_96 rfl 0 rfl ?_
        refine gX_get_X11_69 C ob_0 rfl dX11_ahead_97 ?_
        obtain ⟨⟨r100, g100⟩, hr100, h⟩ := bnd h
        refine g_xVi (k := 11) (As := []) (rest := []) (ro := r100) (go := g100) (xo := xo) Y (fun sz => cX_State_heired l D T ad sK sV xo g 11 (Or.inr rfl) _ hr100 sz) kX_RX11_276_State_heired ⟨Nat.le_of_ble_eq_true rfl, Nat.le_of_ble_eq_true rfl⟩ ⟨rfl, rfl⟩ ⟨Nat.le_of_ble_eq_true rfl, Nat.le_of_ble_eq_true rfl⟩ (rfl : vwCl[6]? = some (RX7, TX7, 6)) ob_11 rfl rfl (Nat.le_of_ble_eq_true rfl) dX11_ahead_100 ?_
        obtain rfl := Option.some.inj h
        exact g_treti Z rfl rfl ⟨Nat.le_of_ble_eq_true rfl, Nat.le_of_ble_eq_true rfl⟩ dX11_ahead_103
      have h := iteF c60_1 h
      refine g_lookup C 104 dX11_ahead_60 (by decide) (lk_ahead_60 _ c60_0 c60_1) (by decide) ?_
      refine g_aload_n C dX11_ahead_104 rfl 0 rfl ?_
      refine gX_get_X11_69 C ob_0 rfl dX11_ahead_105 ?_
      obtain ⟨r108, hr108, h⟩ := bnd h
      refine g_xVi (k := 11) (As := []) (rest := []) (ro := r108) (go := g) (xo := xo) Y (fun sz => cX_State_mostInDebt l D T ad sK sV xo g 11 (Or.inr rfl) _ hr108 sz) kX_RX11_279_State_mostInDebt ⟨Nat.le_of_ble_eq_true rfl, Nat.le_of_ble_eq_true rfl⟩ ⟨rfl, rfl⟩ ⟨Nat.le_of_ble_eq_true rfl, Nat.le_of_ble_eq_true rfl⟩ (rfl : vwCl[6]? = some (RX7, TX7, 6)) ob_11 rfl rfl (Nat.le_of_ble_eq_true rfl) dX11_ahead_108 ?_
      obtain rfl := Option.some.inj h
      exact g_treti Z rfl rfl ⟨Nat.le_of_ble_eq_true rfl, Nat.le_of_ble_eq_true rfl⟩ dX11_ahead_111
  have J25 : ∀ (x1 : Int32) (x2 : Int32) (s1 : Int32) (g : St), fX_ahead_b25 x1 x2 s1 g = some o → GcX_ahead l D T ad Γ o xo 0 xo g 25 [(0, .ref (ad 0)), (1, .int x1), (2, .int x2)] [.int s1, .ref (ad 0)] := by
    intro x1 x2 s1 g h
    obtain ⟨⟨r25, g25⟩, hr25, h⟩ := ltb h
    refine g_tVv (k := 0) (As := [.int s1]) (rest := []) (o := (r25, g25)) (xo := xo) Z (fun sz => cX_need l hl0 D T ad sK sV xo g s1 _ hr25 sz) kX_RX11_115_need ⟨Nat.le_of_ble_eq_true rfl, Nat.le_of_ble_eq_true rfl⟩ ⟨rfl, rfl⟩ ⟨Nat.le_of_ble_eq_true rfl, Nat.le_of_ble_eq_true rfl⟩ (rfl : vwCl[10]? = some (RX11, TX11, 19)) ob_0 rfl rfl (Nat.le_of_ble_eq_true rfl) dX11_ahead_25 ⟨Nat.le_of_ble_eq_true rfl, Nat.le_of_ble_eq_true rfl⟩ (fun k9 hk9 => ?_) (fun v9 hv9 => ?_)
    · subst hk9
      obtain rfl := Option.some.inj h
      exact ⟨rfl, rfl⟩
    · subst hv9
      have h := selR h
      refine g_aload_n C dX11_ahead_28 rfl 0 rfl ?_
      refine gX_get_X11_69 C ob_0 rfl dX11_ahead_29 ?_
      refine g_aload_n C dX11_ahead_32 rfl 0 rfl ?_
      refine gX_get_X11_65 C ob_0 rfl dX11_ahead_33 ?_
      obtain ⟨g36, hr36, h⟩ := bnd h
      refine g_xVv (k := 11) (As := [.ref (ad 10)]) (rest := []) (go := g36) (xo := xo) Y (fun sz => cX_State_take l D T ad sK sV xo g25 11 10 (Or.inr rfl) (Or.inl rfl) _ hr36 sz) kX_RX11_271_State_take ⟨Nat.le_of_ble_eq_true rfl, Nat.le_of_ble_eq_true rfl⟩ ⟨rfl, rfl⟩ ⟨Nat.le_of_ble_eq_true rfl, Nat.le_of_ble_eq_true rfl⟩ (rfl : vwCl[6]? = some (RX7, TX7, 6)) ob_11 rfl rfl (Nat.le_of_ble_eq_true rfl) dX11_ahead_36 ?_
      refine g_iconst C dX11_ahead_39 ic_0 ?_
      refine g_istore_n (lv' := [(3, .int (0 : Int32)), (0, .ref (ad 0)), (1, .int x1), (2, .int x2)]) C dX11_ahead_40 rfl (Nat.le_of_ble_eq_true rfl) rfl ?_
      exact g_sub [1, 2, 3, 0] rfl (J41 x1 x2 (0 : Int32) g36 h)
  have J24 : ∀ (x1 : Int32) (x2 : Int32) (g : St), fX_ahead_b24 x1 x2 g = some o → GcX_ahead l D T ad Γ o xo 0 xo g 24 [(0, .ref (ad 0)), (1, .int x1), (2, .int x2)] [.ref (ad 0)] := by
    intro x1 x2 g h
    refine g_iconst C dX11_ahead_24 ic_0 ?_
    exact J25 x1 x2 (0 : Int32) g h
  refine g_aload_n C dX11_ahead_0 rfl 0 rfl ?_
  refine g_iload_n C dX11_ahead_1 rfl 1 rfl ?_
  refine g_if_lt C 24 dX11_ahead_2 (by decide) (fun c2 => ?_) (fun c2 => ?_)
  · have h := iteT c2 h
    exact J24 x1 x2 g h
  · have h := iteF c2 h
    refine g_iload_n C dX11_ahead_5 rfl 1 rfl ?_
    refine g_bipush C dX11_ahead_6 bp_99 ?_
    refine g_icmp_gt C 24 dX11_ahead_8 (by decide) (fun c8 => ?_) (fun c8 => ?_)
    · have h := iteT c8 h
      exact J24 x1 x2 g h
    · have h := iteF c8 h
      refine g_iload_n C dX11_ahead_11 rfl 2 rfl ?_
      refine g_if_lt C 24 dX11_ahead_12 (by decide) (fun c12 => ?_) (fun c12 => ?_)
      · have h := iteT c12 h
        exact J24 x1 x2 g h
      · have h := iteF c12 h
        refine g_iload_n C dX11_ahead_15 rfl 2 rfl ?_
        refine g_iconst C dX11_ahead_16 ic_2 ?_
        refine g_icmp_gt C 24 dX11_ahead_17 (by decide) (fun c17 => ?_) (fun c17 => ?_)
        · have h := iteT c17 h
          exact J24 x1 x2 g h
        · have h := iteF c17 h
          refine g_iconst C dX11_ahead_20 ic_1 ?_
          refine g_goto (tgt := 25) C dX11_ahead_21 (by decide) ?_
          exact J25 x1 x2 (1 : Int32) g h
def fX_truly (x1 : Int32) (g : St) : Option ((Nat ⊕ Int32) × St) :=
  lt1 (fX_needPerson x1 g) fun ⟨r2, g2⟩ => Sum.elim (fun k => some (.inl k, g2)) (fun _ => (fX_State_trueName 10 x1 g2).bind fun r10 => (some (.inr r10, g2))) r2
def rmX_truly : Room := { frames := 9, cells := 1, slots := 6, locals := 141 }
abbrev GcX_truly (l : Launch) (D : va_G) (T : cT) (ad : Nat → Nat) (Γ : Cxt) (o : (Nat ⊕ Int32) × St) (xo : Sl) (kc : Nat) (x : Sl) (g : St) (pc : Nat) (lv : List (Nat × Value)) (stk : List Value) : Prop := Gj l shX D T ad 2 (rmX_truly) kc (6 * kc) Γ (vx_MQ Γ.below (va_Qi (xoI o xo) (wPost shX D T ad Γ.A) Γ.A) (xoX shX D T ad o.1 (o.2, xo) Γ.A) Γ.args Γ.s 1 6 Γ.A) x g pc lv stk
set_option maxRecDepth 100000 in
set_option maxHeartbeats 4000000 in
theorem cX_truly (l : Launch) (hl0 : l.stackTraces = false) (D : va_G) (T : cT) (ad : Nat → Nat) (sK sV : Nat → Nat) (xo : Sl) (g : St) (x1 : Int32) (o : (Nat ⊕ Int32) × St) (h : fX_truly x1 g = some o) (sz : Nat) : vx_Met l yX11_truly wX_truly (rmX_truly) (va_Pc [.ref (ad 0), .int x1] (xPre shX D T ad sK sV xo g sz)) (va_Qi (xoI o xo) (wPost shX D T ad (aW shX T ad xo g sz)) (aW shX T ad xo g sz)) (xoX shX D T ad o.1 (o.2, xo) (aW shX T ad xo g sz)) 1 6 (aW shX T ad xo g sz) := by
  refine g_startt (Qc := fun A => va_Qi (xoI o xo) (wPost shX D T ad A) A) (XC := fun A => xoX shX D T ad o.1 (o.2, xo) A) hl0 (by decide +kernel) rfl rfl (Nat.le_of_ble_eq_true rfl) (lv := [(0, .ref (ad 0)), (1, .int x1)]) rfl (fun Γ Z => ?_)
  have Y := Z.1
  have C := Y.1
  show GcX_truly l D T ad Γ o xo 0 xo g 0 [(0, .ref (ad 0)), (1, .int x1)] []
  refine g_aload_n C dX11_truly_0 rfl 0 rfl ?_
  refine g_iload_n C dX11_truly_1 rfl 1 rfl ?_
  obtain ⟨⟨r2, g2⟩, hr2, h⟩ := ltb h
  refine g_tVv (k := 0) (As := [.int x1]) (rest := []) (o := (r2, g2)) (xo := xo) Z (fun sz => cX_needPerson l hl0 D T ad sK sV xo g x1 _ hr2 sz) kX_RX11_214_needPerson ⟨Nat.le_of_ble_eq_true rfl, Nat.le_of_ble_eq_true rfl⟩ ⟨rfl, rfl⟩ ⟨Nat.le_of_ble_eq_true rfl, Nat.le_of_ble_eq_true rfl⟩ (rfl : vwCl[10]? = some (RX11, TX11, 19)) ob_0 rfl rfl (Nat.le_of_ble_eq_true rfl) dX11_truly_2 ⟨Nat.le_of_ble_eq_true rfl, Nat.le_of_ble_eq_true rfl⟩ (fun k9 hk9 => ?_) (fun v9 hv9 => ?_)
  · subst hk9
    obtain rfl := Option.some.inj h
    exact ⟨rfl, rfl⟩
  · subst hv9
    have h := selR h
    refine g_aload_n C dX11_truly_5 rfl 0 rfl ?_
    refine gX_get_X11_65 C ob_0 rfl dX11_truly_6 ?_
    refine g_iload_n C dX11_truly_9 rfl 1 rfl ?_
    obtain ⟨r10, hr10, h⟩ := bnd h
    refine g_xVi (k := 10) (As := [.int x1]) (rest := []) (ro := r10) (go := g2) (xo := xo) Y (fun sz => cX_State_trueName l D T ad sK sV xo g2 10 x1 (Or.inl rfl) _ hr10 sz) kX_RX11_282_State_trueName ⟨Nat.le_of_ble_eq_true rfl, Nat.le_of_ble_eq_true rfl⟩ ⟨rfl, rfl⟩ ⟨Nat.le_of_ble_eq_true rfl, Nat.le_of_ble_eq_true rfl⟩ (rfl : vwCl[6]? = some (RX7, TX7, 6)) ob_10 rfl rfl (Nat.le_of_ble_eq_true rfl) dX11_truly_10 ?_
    obtain rfl := Option.some.inj h
    exact g_treti Z rfl rfl ⟨Nat.le_of_ble_eq_true rfl, Nat.le_of_ble_eq_true rfl⟩ dX11_truly_13
def fX_chain (x1 : Int32) (g : St) : Option ((Nat ⊕ Int32) × St) :=
  lt1 (fX_needPerson x1 g) fun ⟨r2, g2⟩ => Sum.elim (fun k => some (.inl k, g2)) (fun _ => (fX_State_chainLength 10 x1 g2).bind fun r10 => (some (.inr r10, g2))) r2
def rmX_chain : Room := { frames := 9, cells := 1, slots := 6, locals := 141 }
abbrev GcX_chain (l : Launch) (D : va_G) (T : cT) (ad : Nat → Nat) (Γ : Cxt) (o : (Nat ⊕ Int32) × St) (xo : Sl) (kc : Nat) (x : Sl) (g : St) (pc : Nat) (lv : List (Nat × Value)) (stk : List Value) : Prop := Gj l shX D T ad 2 (rmX_chain) kc (6 * kc) Γ (vx_MQ Γ.below (va_Qi (xoI o xo) (wPost shX D T ad Γ.A) Γ.A) (xoX shX D T ad o.1 (o.2, xo) Γ.A) Γ.args Γ.s 1 6 Γ.A) x g pc lv stk
set_option maxRecDepth 100000 in
set_option maxHeartbeats 4000000 in
theorem cX_chain (l : Launch) (hl0 : l.stackTraces = false) (D : va_G) (T : cT) (ad : Nat → Nat) (sK sV : Nat → Nat) (xo : Sl) (g : St) (x1 : Int32) (o : (Nat ⊕ Int32) × St) (h : fX_chain x1 g = some o) (sz : Nat) : vx_Met l yX11_chain wX_chain (rmX_chain) (va_Pc [.ref (ad 0), .int x1] (xPre shX D T ad sK sV xo g sz)) (va_Qi (xoI o xo) (wPost shX D T ad (aW shX T ad xo g sz)) (aW shX T ad xo g sz)) (xoX shX D T ad o.1 (o.2, xo) (aW shX T ad xo g sz)) 1 6 (aW shX T ad xo g sz) := by
  refine g_startt (Qc := fun A => va_Qi (xoI o xo) (wPost shX D T ad A) A) (XC := fun A => xoX shX D T ad o.1 (o.2, xo) A) hl0 (by decide +kernel) rfl rfl (Nat.le_of_ble_eq_true rfl) (lv := [(0, .ref (ad 0)), (1, .int x1)]) rfl (fun Γ Z => ?_)
  have Y := Z.1
  have C := Y.1
  show GcX_chain l D T ad Γ o xo 0 xo g 0 [(0, .ref (ad 0)), (1, .int x1)] []
  refine g_aload_n C dX11_chain_0 rfl 0 rfl ?_
  refine g_iload_n C dX11_chain_1 rfl 1 rfl ?_
  obtain ⟨⟨r2, g2⟩, hr2, h⟩ := ltb h
  refine g_tVv (k := 0) (As := [.int x1]) (rest := []) (o := (r2, g2)) (xo := xo) Z (fun sz => cX_needPerson l hl0 D T ad sK sV xo g x1 _ hr2 sz) kX_RX11_214_needPerson ⟨Nat.le_of_ble_eq_true rfl, Nat.le_of_ble_eq_true rfl⟩ ⟨rfl, rfl⟩ ⟨Nat.le_of_ble_eq_true rfl, Nat.le_of_ble_eq_true rfl⟩ (rfl : vwCl[10]? = some (RX11, TX11, 19)) ob_0 rfl rfl (Nat.le_of_ble_eq_true rfl) dX11_chain_2 ⟨Nat.le_of_ble_eq_true rfl, Nat.le_of_ble_eq_true rfl⟩ (fun k9 hk9 => ?_) (fun v9 hv9 => ?_)
  · subst hk9
    obtain rfl := Option.some.inj h
    exact ⟨rfl, rfl⟩
  · subst hv9
    have h := selR h
    refine g_aload_n C dX11_chain_5 rfl 0 rfl ?_
    refine gX_get_X11_65 C ob_0 rfl dX11_chain_6 ?_
    refine g_iload_n C dX11_chain_9 rfl 1 rfl ?_
    obtain ⟨r10, hr10, h⟩ := bnd h
    refine g_xVi (k := 10) (As := [.int x1]) (rest := []) (ro := r10) (go := g2) (xo := xo) Y (fun sz => cX_State_chainLength l D T ad sK sV xo g2 10 x1 (Or.inl rfl) _ hr10 sz) kX_RX11_285_State_chainLength ⟨Nat.le_of_ble_eq_true rfl, Nat.le_of_ble_eq_true rfl⟩ ⟨rfl, rfl⟩ ⟨Nat.le_of_ble_eq_true rfl, Nat.le_of_ble_eq_true rfl⟩ (rfl : vwCl[6]? = some (RX7, TX7, 6)) ob_10 rfl rfl (Nat.le_of_ble_eq_true rfl) dX11_chain_10 ?_
    obtain rfl := Option.some.inj h
    exact g_treti Z rfl rfl ⟨Nat.le_of_ble_eq_true rfl, Nat.le_of_ble_eq_true rfl⟩ dX11_chain_13
def fX_areTold (x1 : Int32) (g : St) : Int32 :=
  if x1 < 0 then
    ((0 : Int32))
  else
    (if ((1 : Int32) <<< ((g 2 0) &&& 31)) ≤ x1 then
    ((0 : Int32))
  else
    ((1 : Int32)))
def rmX_areTold : Room := { frames := 0, cells := 0, slots := 0, locals := 0 }
abbrev GcX_areTold (l : Launch) (D : va_G) (T : cT) (ad : Nat → Nat) (Γ : Cxt) (o : Int32) (xo : Sl) (g0 : St) (x : Sl) (g : St) (pc : Nat) (lv : List (Nat × Value)) (stk : List Value) : Prop := Gj l shX D T ad 2 (rmX_areTold) 0 0 Γ (MQ Γ.below (va_Qi (eqZ o g0 xo) (wPost shX D T ad Γ.A) Γ.A) Γ.args Γ.s 0 0 Γ.A) x g pc lv stk
set_option maxRecDepth 100000 in
set_option maxHeartbeats 4000000 in
theorem cX_areTold (l : Launch) (D : va_G) (T : cT) (ad : Nat → Nat) (sK sV : Nat → Nat) (xo : Sl) (g : St) (x1 : Int32) (o : Int32) (h : fX_areTold x1 g = o) (sz : Nat) : Met l yX11_areTold wX_areTold (rmX_areTold) (va_Pc [.ref (ad 0), .int x1] (xPre shX D T ad sK sV xo g sz)) (va_Qi (eqZ o g xo) (wPost shX D T ad (aW shX T ad xo g sz)) (aW shX T ad xo g sz)) 0 0 (aW shX T ad xo g sz) := by
  refine g_startx (Qc := fun A => va_Qi (eqZ o g xo) (wPost shX D T ad A) A) (by decide +kernel) rfl rfl (Nat.le_of_ble_eq_true rfl) (lv := [(0, .ref (ad 0)), (1, .int x1)]) rfl (fun Γ Y => ?_)
  have C := Y.1
  show GcX_areTold l D T ad Γ o xo g xo g 0 [(0, .ref (ad 0)), (1, .int x1)] []
  refine g_iload_n C dX11_areTold_0 rfl 1 rfl ?_
  refine g_if_lt C 21 dX11_areTold_1 (by decide) (fun c1 => ?_) (fun c1 => ?_)
  · have h := iteT c1 h
    refine g_iconst C dX11_areTold_21 ic_0 ?_
    subst h
    exact g_zret C rfl rfl rfl rfl dX11_areTold_22
  · have h := iteF c1 h
    refine g_iload_n C dX11_areTold_4 rfl 1 rfl ?_
    refine g_iconst C dX11_areTold_5 ic_1 ?_
    refine g_aload_n C dX11_areTold_6 rfl 0 rfl ?_
    refine gX_get_X11_19 C ob_0 rfl dX11_areTold_7 ?_
    refine gX_get_X11_143 (v := g 2 0) C ob_2 rfl rfl dX11_areTold_10 ?_
    refine g_ishl C dX11_areTold_13 ?_
    refine g_icmp_ge C 21 dX11_areTold_14 (by decide) (fun c14 => ?_) (fun c14 => ?_)
    · have h := iteT c14 h
      refine g_iconst C dX11_areTold_21 ic_0 ?_
      subst h
      exact g_zret C rfl rfl rfl rfl dX11_areTold_22
    · have h := iteF c14 h
      refine g_iconst C dX11_areTold_17 ic_1 ?_
      refine g_goto (tgt := 22) C dX11_areTold_18 (by decide) ?_
      subst h
      exact g_zret C rfl rfl rfl rfl dX11_areTold_22
def fX_served_b23 (x1 : Int32) (x2 : Int32) (s1 : Int32) (g : St) : Option ((Nat ⊕ Int32) × St) :=
  lt1 (fX_need s1 g) fun ⟨r23, g23⟩ => Sum.elim (fun k => some (.inl k, g23)) (fun _ => (fX_Ways_search 10 x1 g23).bind fun g35 => (if x2 = 0 then
    (some (.inr (g35 14 6), g35))
  else
    (some (.inr (g35 14 7), g35)))) r23
def fX_served_b22 (x1 : Int32) (x2 : Int32) (g : St) : Option ((Nat ⊕ Int32) × St) :=
  fX_served_b23 x1 x2 (0 : Int32) g
def fX_served_b18 (x1 : Int32) (x2 : Int32) (g : St) : Option ((Nat ⊕ Int32) × St) :=
  fX_served_b23 x1 x2 (1 : Int32) g
def fX_served (x1 : Int32) (x2 : Int32) (g : St) : Option ((Nat ⊕ Int32) × St) :=
  if (fX_areTold x1 g) = 0 then
    (fX_served_b22 x1 x2 g)
  else
    (if x2 = 0 then
    (fX_served_b18 x1 x2 g)
  else
    (if x2 = (1 : Int32) then
    (fX_served_b18 x1 x2 g)
  else
    (fX_served_b22 x1 x2 g)))
def rmX_served : Room := { frames := 17, cells := 1, slots := 6, locals := 430 }
abbrev GcX_served (l : Launch) (D : va_G) (T : cT) (ad : Nat → Nat) (Γ : Cxt) (o : (Nat ⊕ Int32) × St) (xo : Sl) (kc : Nat) (x : Sl) (g : St) (pc : Nat) (lv : List (Nat × Value)) (stk : List Value) : Prop := Gj l shX D T ad 3 (rmX_served) kc (6 * kc) Γ (vx_MQ Γ.below (va_Qi (xoI o xo) (wPost shX D T ad Γ.A) Γ.A) (xoX shX D T ad o.1 (o.2, xo) Γ.A) Γ.args Γ.s 1 6 Γ.A) x g pc lv stk
set_option maxRecDepth 100000 in
set_option maxHeartbeats 4000000 in
theorem cX_served (l : Launch) (hl0 : l.stackTraces = false) (D : va_G) (T : cT) (ad : Nat → Nat) (sK sV : Nat → Nat) (xo : Sl) (g : St) (x1 : Int32) (x2 : Int32) (o : (Nat ⊕ Int32) × St) (h : fX_served x1 x2 g = some o) (sz : Nat) : vx_Met l yX11_served wX_served (rmX_served) (va_Pc [.ref (ad 0), .int x1, .int x2] (xPre shX D T ad sK sV xo g sz)) (va_Qi (xoI o xo) (wPost shX D T ad (aW shX T ad xo g sz)) (aW shX T ad xo g sz)) (xoX shX D T ad o.1 (o.2, xo) (aW shX T ad xo g sz)) 1 6 (aW shX T ad xo g sz) := by
  refine g_startt (Qc := fun A => va_Qi (xoI o xo) (wPost shX D T ad A) A) (XC := fun A => xoX shX D T ad o.1 (o.2, xo) A) hl0 (by decide +kernel) rfl rfl (Nat.le_of_ble_eq_true rfl) (lv := [(0, .ref (ad 0)), (1, .int x1), (2, .int x2)]) rfl (fun Γ Z => ?_)
  have Y := Z.1
  have C := Y.1
  show GcX_served l D T ad Γ o xo 0 xo g 0 [(0, .ref (ad 0)), (1, .int x1), (2, .int x2)] []
  have J23 : ∀ (x1 : Int32) (x2 : Int32) (s1 : Int32) (g : St), fX_served_b23 x1 x2 s1 g = some o → GcX_served l D T ad Γ o xo 0 xo g 23 [(0, .ref (ad 0)), (1, .int x1), (2, .int x2)] [.int s1, .ref (ad 0)] := by
    intro x1 x2 s1 g h
    obtain ⟨⟨r23, g23⟩, hr23, h⟩ := ltb h
    refine g_tVv (k := 0) (As := [.int s1]) (rest := []) (o := (r23, g23)) (xo := xo) Z (fun sz => cX_need l hl0 D T ad sK sV xo g s1 _ hr23 sz) kX_RX11_115_need ⟨Nat.le_of_ble_eq_true rfl, Nat.le_of_ble_eq_true rfl⟩ ⟨rfl, rfl⟩ ⟨Nat.le_of_ble_eq_true rfl, Nat.le_of_ble_eq_true rfl⟩ (rfl : vwCl[10]? = some (RX11, TX11, 19)) ob_0 rfl rfl (Nat.le_of_ble_eq_true rfl) dX11_served_23 ⟨Nat.le_of_ble_eq_true rfl, Nat.le_of_ble_eq_true rfl⟩ (fun k9 hk9 => ?_) (fun v9 hv9 => ?_)
    · subst hk9
      obtain rfl := Option.some.inj h
      exact ⟨rfl, rfl⟩
    · subst hv9
      have h := selR h
      refine g_aload_n C dX11_served_26 rfl 0 rfl ?_
      refine gX_get_X11_89 C ob_0 rfl dX11_served_27 ?_
      refine g_aload_n C dX11_served_30 rfl 0 rfl ?_
      refine gX_get_X11_65 C ob_0 rfl dX11_served_31 ?_
      refine g_iload_n C dX11_served_34 rfl 1 rfl ?_
      obtain ⟨g35, hr35, h⟩ := bnd h
      refine g_xVv (k := 14) (As := [.ref (ad 10), .int x1]) (rest := []) (go := g35) (xo := xo) Y (fun sz => cX_Ways_search l D T ad sK sV xo g23 10 x1 (Or.inl rfl) _ hr35 sz) kX_RX11_291_Ways_search ⟨Nat.le_of_ble_eq_true rfl, Nat.le_of_ble_eq_true rfl⟩ ⟨rfl, rfl⟩ ⟨Nat.le_of_ble_eq_true rfl, Nat.le_of_ble_eq_true rfl⟩ (rfl : vwCl[9]? = some (RX10, TX10, 8)) ob_14 rfl rfl (Nat.le_of_ble_eq_true rfl) dX11_served_35 ?_
      refine g_iload_n C dX11_served_38 rfl 2 rfl ?_
      refine g_if_ne C 52 dX11_served_39 (by decide) (fun c39 => ?_) (fun c39 => ?_)
      · have h := iteT c39 h
        refine g_aload_n C dX11_served_42 rfl 0 rfl ?_
        refine gX_get_X11_89 C ob_0 rfl dX11_served_43 ?_
        refine gX_get_X11_295 (v := g35 14 6) C ob_14 rfl rfl dX11_served_46 ?_
        refine g_goto (tgt := 59) C dX11_served_49 (by decide) ?_
        obtain rfl := Option.some.inj h
        exact g_treti Z rfl rfl ⟨Nat.le_of_ble_eq_true rfl, Nat.le_of_ble_eq_true rfl⟩ dX11_served_59
      · have h := iteF c39 h
        refine g_aload_n C dX11_served_52 rfl 0 rfl ?_
        refine gX_get_X11_89 C ob_0 rfl dX11_served_53 ?_
        refine gX_get_X11_298 (v := g35 14 7) C ob_14 rfl rfl dX11_served_56 ?_
        obtain rfl := Option.some.inj h
        exact g_treti Z rfl rfl ⟨Nat.le_of_ble_eq_true rfl, Nat.le_of_ble_eq_true rfl⟩ dX11_served_59
  have J22 : ∀ (x1 : Int32) (x2 : Int32) (g : St), fX_served_b22 x1 x2 g = some o → GcX_served l D T ad Γ o xo 0 xo g 22 [(0, .ref (ad 0)), (1, .int x1), (2, .int x2)] [.ref (ad 0)] := by
    intro x1 x2 g h
    refine g_iconst C dX11_served_22 ic_0 ?_
    exact J23 x1 x2 (0 : Int32) g h
  have J18 : ∀ (x1 : Int32) (x2 : Int32) (g : St), fX_served_b18 x1 x2 g = some o → GcX_served l D T ad Γ o xo 0 xo g 18 [(0, .ref (ad 0)), (1, .int x1), (2, .int x2)] [.ref (ad 0)] := by
    intro x1 x2 g h
    refine g_iconst C dX11_served_18 ic_1 ?_
    refine g_goto (tgt := 23) C dX11_served_19 (by decide) ?_
    exact J23 x1 x2 (1 : Int32) g h
  refine g_aload_n C dX11_served_0 rfl 0 rfl ?_
  refine g_aload_n C dX11_served_1 rfl 0 rfl ?_
  refine g_iload_n C dX11_served_2 rfl 1 rfl ?_
  refine g_xVz (k := 0) (As := [.int x1]) (rest := [.ref (ad 0)]) (ro := (fX_areTold x1 g)) (go := g) (xo := xo) Y (fun sz => cX_areTold l D T ad sK sV xo g x1 _ rfl sz) kX_RX11_288_areTold ⟨Nat.le_of_ble_eq_true rfl, Nat.le_of_ble_eq_true rfl⟩ ⟨rfl, rfl⟩ ⟨Nat.le_of_ble_eq_true rfl, Nat.le_of_ble_eq_true rfl⟩ (rfl : vwCl[10]? = some (RX11, TX11, 19)) ob_0 rfl rfl (Nat.le_of_ble_eq_true rfl) dX11_served_3 (fun hz3 => ?_)
  refine g_if_eq C 22 dX11_served_6 (by decide) (fun c6 => ?_) (fun c6 => ?_)
  · have h := iteT c6 h
    exact J22 x1 x2 g h
  · have h := iteF c6 h
    refine g_iload_n C dX11_served_9 rfl 2 rfl ?_
    refine g_if_eq C 18 dX11_served_10 (by decide) (fun c10 => ?_) (fun c10 => ?_)
    · have h := iteT c10 h
      exact J18 x1 x2 g h
    · have h := iteF c10 h
      refine g_iload_n C dX11_served_13 rfl 2 rfl ?_
      refine g_iconst C dX11_served_14 ic_1 ?_
      refine g_icmp_ne C 22 dX11_served_15 (by decide) (fun c15 => ?_) (fun c15 => ?_)
      · have h := iteT c15 h
        exact J18 x1 x2 g h
      · have h := iteF c15 h
        exact J22 x1 x2 g h
def fX_giver (x1 : Int32) (x2 : Int32) (g : St) : Option ((Nat ⊕ Int32) × St) :=
  lt1 (fX_needPerson x1 g) fun ⟨r2, g2⟩ => Sum.elim (fun k => some (.inl k, g2)) (fun _ => lt1 (fX_need (fX_areTold x2 g2) g2) fun ⟨r11, g11⟩ => Sum.elim (fun k => some (.inl k, g11)) (fun _ => (fX_Ways_search 10 x2 g11).bind fun g23 => ((fX_Ways_lenderOf x1 g23).bind fun r31 => (some (.inr r31, g23)))) r11) r2
def rmX_giver : Room := { frames := 17, cells := 2, slots := 12, locals := 430 }
abbrev GcX_giver (l : Launch) (D : va_G) (T : cT) (ad : Nat → Nat) (Γ : Cxt) (o : (Nat ⊕ Int32) × St) (xo : Sl) (kc : Nat) (x : Sl) (g : St) (pc : Nat) (lv : List (Nat × Value)) (stk : List Value) : Prop := Gj l shX D T ad 3 (rmX_giver) kc (6 * kc) Γ (vx_MQ Γ.below (va_Qi (xoI o xo) (wPost shX D T ad Γ.A) Γ.A) (xoX shX D T ad o.1 (o.2, xo) Γ.A) Γ.args Γ.s 2 12 Γ.A) x g pc lv stk
set_option maxRecDepth 100000 in
set_option maxHeartbeats 4000000 in
theorem cX_giver (l : Launch) (hl0 : l.stackTraces = false) (D : va_G) (T : cT) (ad : Nat → Nat) (sK sV : Nat → Nat) (xo : Sl) (g : St) (x1 : Int32) (x2 : Int32) (o : (Nat ⊕ Int32) × St) (h : fX_giver x1 x2 g = some o) (sz : Nat) : vx_Met l yX11_giver wX_giver (rmX_giver) (va_Pc [.ref (ad 0), .int x1, .int x2] (xPre shX D T ad sK sV xo g sz)) (va_Qi (xoI o xo) (wPost shX D T ad (aW shX T ad xo g sz)) (aW shX T ad xo g sz)) (xoX shX D T ad o.1 (o.2, xo) (aW shX T ad xo g sz)) 2 12 (aW shX T ad xo g sz) := by
  refine g_startt (Qc := fun A => va_Qi (xoI o xo) (wPost shX D T ad A) A) (XC := fun A => xoX shX D T ad o.1 (o.2, xo) A) hl0 (by decide +kernel) rfl rfl (Nat.le_of_ble_eq_true rfl) (lv := [(0, .ref (ad 0)), (1, .int x1), (2, .int x2)]) rfl (fun Γ Z => ?_)
  have Y := Z.1
  have C := Y.1
  show GcX_giver l D T ad Γ o xo 0 xo g 0 [(0, .ref (ad 0)), (1, .int x1), (2, .int x2)] []
  refine g_aload_n C dX11_giver_0 rfl 0 rfl ?_
  refine g_iload_n C dX11_giver_1 rfl 1 rfl ?_
  obtain ⟨⟨r2, g2⟩, hr2, h⟩ := ltb h
  refine g_tVv (k := 0) (As := [.int x1]) (rest := []) (o := (r2, g2)) (xo := xo) Z (fun sz => cX_needPerson l hl0 D T ad sK sV xo g x1 _ hr2 sz) kX_RX11_214_needPerson ⟨Nat.le_of_ble_eq_true rfl, Nat.le_of_ble_eq_true rfl⟩ ⟨rfl, rfl⟩ ⟨Nat.le_of_ble_eq_true rfl, Nat.le_of_ble_eq_true rfl⟩ (rfl : vwCl[10]? = some (RX11, TX11, 19)) ob_0 rfl rfl (Nat.le_of_ble_eq_true rfl) dX11_giver_2 ⟨Nat.le_of_ble_eq_true rfl, Nat.le_of_ble_eq_true rfl⟩ (fun k9 hk9 => ?_) (fun v9 hv9 => ?_)
  · subst hk9
    obtain rfl := Option.some.inj h
    exact ⟨rfl, rfl⟩
  · subst hv9
    have h := selR h
    refine g_aload_n C dX11_giver_5 rfl 0 rfl ?_
    refine g_aload_n C dX11_giver_6 rfl 0 rfl ?_
    refine g_iload_n C dX11_giver_7 rfl 2 rfl ?_
    refine g_xVz (k := 0) (As := [.int x2]) (rest := [.ref (ad 0)]) (ro := (fX_areTold x2 g2)) (go := g2) (xo := xo) Y (fun sz => cX_areTold l D T ad sK sV xo g2 x2 _ rfl sz) kX_RX11_288_areTold ⟨Nat.le_of_ble_eq_true rfl, Nat.le_of_ble_eq_true rfl⟩ ⟨rfl, rfl⟩ ⟨Nat.le_of_ble_eq_true rfl, Nat.le_of_ble_eq_true rfl⟩ (rfl : vwCl[10]? = some (RX11, TX11, 19)) ob_0 rfl rfl (Nat.le_of_ble_eq_true rfl) dX11_giver_8 (fun hz8 => ?_)
    obtain ⟨⟨r11, g11⟩, hr11, h⟩ := ltb h
    refine g_tVv (k := 0) (As := [.int (fX_areTold x2 g2)]) (rest := []) (o := (r11, g11)) (xo := xo) Z (fun sz => cX_need l hl0 D T ad sK sV xo g2 (fX_areTold x2 g2) _ hr11 sz) kX_RX11_115_need ⟨Nat.le_of_ble_eq_true rfl, Nat.le_of_ble_eq_true rfl⟩ ⟨rfl, rfl⟩ ⟨Nat.le_of_ble_eq_true rfl, Nat.le_of_ble_eq_true rfl⟩ (rfl : vwCl[10]? = some (RX11, TX11, 19)) ob_0 rfl rfl (Nat.le_of_ble_eq_true rfl) dX11_giver_11 ⟨Nat.le_of_ble_eq_true rfl, Nat.le_of_ble_eq_true rfl⟩ (fun k9 hk9 => ?_) (fun v9 hv9 => ?_)
    · subst hk9
      obtain rfl := Option.some.inj h
      exact ⟨rfl, rfl⟩
    · subst hv9
      have h := selR h
      refine g_aload_n C dX11_giver_14 rfl 0 rfl ?_
      refine gX_get_X11_89 C ob_0 rfl dX11_giver_15 ?_
      refine g_aload_n C dX11_giver_18 rfl 0 rfl ?_
      refine gX_get_X11_65 C ob_0 rfl dX11_giver_19 ?_
      refine g_iload_n C dX11_giver_22 rfl 2 rfl ?_
      obtain ⟨g23, hr23, h⟩ := bnd h
      refine g_xVv (k := 14) (As := [.ref (ad 10), .int x2]) (rest := []) (go := g23) (xo := xo) Y (fun sz => cX_Ways_search l D T ad sK sV xo g11 10 x2 (Or.inl rfl) _ hr23 sz) kX_RX11_291_Ways_search ⟨Nat.le_of_ble_eq_true rfl, Nat.le_of_ble_eq_true rfl⟩ ⟨rfl, rfl⟩ ⟨Nat.le_of_ble_eq_true rfl, Nat.le_of_ble_eq_true rfl⟩ (rfl : vwCl[9]? = some (RX10, TX10, 8)) ob_14 rfl rfl (Nat.le_of_ble_eq_true rfl) dX11_giver_23 ?_
      refine g_aload_n C dX11_giver_26 rfl 0 rfl ?_
      refine gX_get_X11_89 C ob_0 rfl dX11_giver_27 ?_
      refine g_iload_n C dX11_giver_30 rfl 1 rfl ?_
      obtain ⟨r31, hr31, h⟩ := bnd h
      refine g_xVi (k := 14) (As := [.int x1]) (rest := []) (ro := r31) (go := g23) (xo := xo) Y (fun sz => cX_Ways_lenderOf l D T ad sK sV xo g23 x1 _ hr31 sz) kX_RX11_301_Ways_lenderOf ⟨Nat.le_of_ble_eq_true rfl, Nat.le_of_ble_eq_true rfl⟩ ⟨rfl, rfl⟩ ⟨Nat.le_of_ble_eq_true rfl, Nat.le_of_ble_eq_true rfl⟩ (rfl : vwCl[9]? = some (RX10, TX10, 8)) ob_14 rfl rfl (Nat.le_of_ble_eq_true rfl) dX11_giver_31 ?_
      obtain rfl := Option.some.inj h
      exact g_treti Z rfl rfl ⟨Nat.le_of_ble_eq_true rfl, Nat.le_of_ble_eq_true rfl⟩ dX11_giver_34
def fX_needOrders_b23 (x1 : Int32) (s1 : Int32) (g : St) : Option ((Nat ⊕ Unit) × St) :=
  lt1 (fX_need s1 g) fun ⟨r23, g23⟩ => Sum.elim (fun k => some (.inl k, g23)) (fun _ => (fX_Orders_gather 10 x1 g23).bind fun ⟨r36, g36⟩ => (lt1 (fX_need r36 g36) fun ⟨r39, g39⟩ => Sum.elim (fun k => some (.inl k, g39)) (fun _ => some (.inr (), g39)) r39)) r23
def fX_needOrders_b22 (x1 : Int32) (g : St) : Option ((Nat ⊕ Unit) × St) :=
  fX_needOrders_b23 x1 (0 : Int32) g
def fX_needOrders_b18 (x1 : Int32) (g : St) : Option ((Nat ⊕ Unit) × St) :=
  fX_needOrders_b23 x1 (1 : Int32) g
def fX_needOrders (x1 : Int32) (x2 : Int32) (g : St) : Option ((Nat ⊕ Unit) × St) :=
  if (fX_areTold x1 g) = 0 then
    (fX_needOrders_b22 x1 g)
  else
    (if x2 = 0 then
    (fX_needOrders_b18 x1 g)
  else
    (if x2 = (1 : Int32) then
    (fX_needOrders_b18 x1 g)
  else
    (fX_needOrders_b22 x1 g)))
def rmX_needOrders : Room := { frames := 9, cells := 2, slots := 12, locals := 141 }
abbrev GcX_needOrders (l : Launch) (D : va_G) (T : cT) (ad : Nat → Nat) (Γ : Cxt) (o : (Nat ⊕ Unit) × St) (xo : Sl) (kc : Nat) (x : Sl) (g : St) (pc : Nat) (lv : List (Nat × Value)) (stk : List Value) : Prop := Gj l shX D T ad 3 (rmX_needOrders) kc (6 * kc) Γ (vx_MQ Γ.below (va_Qv (xoV o xo) (wPost shX D T ad Γ.A) Γ.A) (xoX shX D T ad o.1 (o.2, xo) Γ.A) Γ.args Γ.s 2 12 Γ.A) x g pc lv stk
set_option maxRecDepth 100000 in
set_option maxHeartbeats 4000000 in
theorem cX_needOrders (l : Launch) (hl0 : l.stackTraces = false) (D : va_G) (T : cT) (ad : Nat → Nat) (sK sV : Nat → Nat) (xo : Sl) (g : St) (x1 : Int32) (x2 : Int32) (o : (Nat ⊕ Unit) × St) (h : fX_needOrders x1 x2 g = some o) (sz : Nat) : vx_Met l yX11_needOrders wX_needOrders (rmX_needOrders) (va_Pc [.ref (ad 0), .int x1, .int x2] (xPre shX D T ad sK sV xo g sz)) (va_Qv (xoV o xo) (wPost shX D T ad (aW shX T ad xo g sz)) (aW shX T ad xo g sz)) (xoX shX D T ad o.1 (o.2, xo) (aW shX T ad xo g sz)) 2 12 (aW shX T ad xo g sz) := by
  refine g_startt (Qc := fun A => va_Qv (xoV o xo) (wPost shX D T ad A) A) (XC := fun A => xoX shX D T ad o.1 (o.2, xo) A) hl0 (by decide +kernel) rfl rfl (Nat.le_of_ble_eq_true rfl) (lv := [(0, .ref (ad 0)), (1, .int x1), (2, .int x2)]) rfl (fun Γ Z => ?_)
  have Y := Z.1
  have C := Y.1
  show GcX_needOrders l D T ad Γ o xo 0 xo g 0 [(0, .ref (ad 0)), (1, .int x1), (2, .int x2)] []
  have J23 : ∀ (x1 : Int32) (s1 : Int32) (g : St), fX_needOrders_b23 x1 s1 g = some o → GcX_needOrders l D T ad Γ o xo 0 xo g 23 [(0, .ref (ad 0)), (1, .int x1)] [.int s1, .ref (ad 0)] := by
    intro x1 s1 g h
    obtain ⟨⟨r23, g23⟩, hr23, h⟩ := ltb h
    refine g_tVv (k := 0) (As := [.int s1]) (rest := []) (o := (r23, g23)) (xo := xo) Z (fun sz => cX_need l hl0 D T ad sK sV xo g s1 _ hr23 sz) kX_RX11_115_need ⟨Nat.le_of_ble_eq_true rfl, Nat.le_of_ble_eq_true rfl⟩ ⟨rfl, rfl⟩ ⟨Nat.le_of_ble_eq_true rfl, Nat.le_of_ble_eq_true rfl⟩ (rfl : vwCl[10]? = some (RX11, TX11, 19)) ob_0 rfl rfl (Nat.le_of_ble_eq_true rfl) dX11_needOrders_23 ⟨Nat.le_of_ble_eq_true rfl, Nat.le_of_ble_eq_true rfl⟩ (fun k9 hk9 => ?_) (fun v9 hv9 => ?_)
    · subst hk9
      obtain rfl := Option.some.inj h
      exact ⟨rfl, rfl⟩
    · subst hv9
      have h := selR h
      refine g_aload_n C dX11_needOrders_26 rfl 0 rfl ?_
      refine g_aload_n C dX11_needOrders_27 rfl 0 rfl ?_
      refine gX_get_X11_82 C ob_0 rfl dX11_needOrders_28 ?_
      refine g_aload_n C dX11_needOrders_31 rfl 0 rfl ?_
      refine gX_get_X11_65 C ob_0 rfl dX11_needOrders_32 ?_
      refine g_iload_n C dX11_needOrders_35 rfl 1 rfl ?_
      obtain ⟨⟨r36, g36⟩, hr36, h⟩ := bnd h
      refine g_xVz (k := 13) (As := [.ref (ad 10), .int x1]) (rest := [.ref (ad 0)]) (ro := r36) (go := g36) (xo := xo) Y (fun sz => cX_Orders_gather l D T ad sK sV xo g23 10 x1 (Or.inl rfl) _ hr36 sz) kX_RX11_383_Orders_gather ⟨Nat.le_of_ble_eq_true rfl, Nat.le_of_ble_eq_true rfl⟩ ⟨rfl, rfl⟩ ⟨Nat.le_of_ble_eq_true rfl, Nat.le_of_ble_eq_true rfl⟩ (rfl : vwCl[4]? = some (RX4, TX4, 7)) ob_13 rfl rfl (Nat.le_of_ble_eq_true rfl) dX11_needOrders_36 (fun hz36 => ?_)
      obtain ⟨⟨r39, g39⟩, hr39, h⟩ := ltb h
      refine g_tVv (k := 0) (As := [.int r36]) (rest := []) (o := (r39, g39)) (xo := xo) Z (fun sz => cX_need l hl0 D T ad sK sV xo g36 r36 _ hr39 sz) kX_RX11_115_need ⟨Nat.le_of_ble_eq_true rfl, Nat.le_of_ble_eq_true rfl⟩ ⟨rfl, rfl⟩ ⟨Nat.le_of_ble_eq_true rfl, Nat.le_of_ble_eq_true rfl⟩ (rfl : vwCl[10]? = some (RX11, TX11, 19)) ob_0 rfl rfl (Nat.le_of_ble_eq_true rfl) dX11_needOrders_39 ⟨Nat.le_of_ble_eq_true rfl, Nat.le_of_ble_eq_true rfl⟩ (fun k9 hk9 => ?_) (fun v9 hv9 => ?_)
      · subst hk9
        obtain rfl := Option.some.inj h
        exact ⟨rfl, rfl⟩
      · subst hv9
        have h := selR h
        obtain rfl := Option.some.inj h
        exact g_tretv Z rfl rfl ⟨Nat.le_of_ble_eq_true rfl, Nat.le_of_ble_eq_true rfl⟩ dX11_needOrders_42
  have J22 : ∀ (x1 : Int32) (g : St), fX_needOrders_b22 x1 g = some o → GcX_needOrders l D T ad Γ o xo 0 xo g 22 [(0, .ref (ad 0)), (1, .int x1)] [.ref (ad 0)] := by
    intro x1 g h
    refine g_iconst C dX11_needOrders_22 ic_0 ?_
    exact J23 x1 (0 : Int32) g h
  have J18 : ∀ (x1 : Int32) (g : St), fX_needOrders_b18 x1 g = some o → GcX_needOrders l D T ad Γ o xo 0 xo g 18 [(0, .ref (ad 0)), (1, .int x1)] [.ref (ad 0)] := by
    intro x1 g h
    refine g_iconst C dX11_needOrders_18 ic_1 ?_
    refine g_goto (tgt := 23) C dX11_needOrders_19 (by decide) ?_
    exact J23 x1 (1 : Int32) g h
  refine g_aload_n C dX11_needOrders_0 rfl 0 rfl ?_
  refine g_aload_n C dX11_needOrders_1 rfl 0 rfl ?_
  refine g_iload_n C dX11_needOrders_2 rfl 1 rfl ?_
  refine g_xVz (k := 0) (As := [.int x1]) (rest := [.ref (ad 0)]) (ro := (fX_areTold x1 g)) (go := g) (xo := xo) Y (fun sz => cX_areTold l D T ad sK sV xo g x1 _ rfl sz) kX_RX11_288_areTold ⟨Nat.le_of_ble_eq_true rfl, Nat.le_of_ble_eq_true rfl⟩ ⟨rfl, rfl⟩ ⟨Nat.le_of_ble_eq_true rfl, Nat.le_of_ble_eq_true rfl⟩ (rfl : vwCl[10]? = some (RX11, TX11, 19)) ob_0 rfl rfl (Nat.le_of_ble_eq_true rfl) dX11_needOrders_3 (fun hz3 => ?_)
  refine g_if_eq C 22 dX11_needOrders_6 (by decide) (fun c6 => ?_) (fun c6 => ?_)
  · have h := iteT c6 h
    exact g_sub [0, 1] rfl (J22 x1 g h)
  · have h := iteF c6 h
    refine g_iload_n C dX11_needOrders_9 rfl 2 rfl ?_
    refine g_if_eq C 18 dX11_needOrders_10 (by decide) (fun c10 => ?_) (fun c10 => ?_)
    · have h := iteT c10 h
      exact g_sub [0, 1] rfl (J18 x1 g h)
    · have h := iteF c10 h
      refine g_iload_n C dX11_needOrders_13 rfl 2 rfl ?_
      refine g_iconst C dX11_needOrders_14 ic_1 ?_
      refine g_icmp_ne C 22 dX11_needOrders_15 (by decide) (fun c15 => ?_) (fun c15 => ?_)
      · have h := iteT c15 h
        exact g_sub [0, 1] rfl (J18 x1 g h)
      · have h := iteF c15 h
        exact g_sub [0, 1] rfl (J22 x1 g h)
def fX_tryOrders_L34 (x2 : Int32) : (Int32 × St) → Option ((Int32 × St) ⊕ (St)) := fun ⟨x3, g⟩ =>
  if (g 13 2) ≤ x3 then
    (some (.inr g))
  else
    ((fX_Rows_at 45 x3 g).bind fun r58 => ((fX_State_does 11 (0 : Int32) r58 (0 : Int32) g).bind fun ⟨r62, g62⟩ => (some (.inl ((x3 + (1 : Int32)), g62)))))
def fX_tryOrders_b34 (x2 : Int32) (x3 : Int32) (g : St) : Option ((Int32 × Int32 × St) ⊕ (St)) :=
  (lp (fX_tryOrders_L34 x2) fuel (x3, g)).bind (fun g => (fX_Book_isRightFor 8 11 g).bind fun r88 => ((fX_Orders_note 11 r88 g).bind fun g91 => ((fX_Orders_step g91).bind fun ⟨r98, g98⟩ => (some (.inl (r98, (x2 + (1 : Int32)), g98))))))
def fX_tryOrders_L11 : (Int32 × Int32 × St) → Option ((Int32 × Int32 × St) ⊕ (St)) := fun ⟨x1, x2, g⟩ =>
  if (120 : Int32) ≤ x2 then
    (some (.inr g))
  else
    (if x1 = 0 then
    (some (.inr g))
  else
    ((fX_State_take 11 10 g).bind fun g29 => (fX_tryOrders_b34 x2 (0 : Int32) g29)))
def fX_tryOrders_b11 (x1 : Int32) (x2 : Int32) (g : St) : Option (St) :=
  (lp (fX_tryOrders_L11) fuel (x1, x2, g)).bind (fun g => some g)
def fX_tryOrders (g : St) : Option (St) :=
  (fX_Orders_forget g).bind fun g4 => (fX_tryOrders_b11 (1 : Int32) (0 : Int32) g4)
def rmX_tryOrders : Room := { frames := 5, cells := 0, slots := 0, locals := 119 }
abbrev GcX_tryOrders (l : Launch) (D : va_G) (T : cT) (ad : Nat → Nat) (Γ : Cxt) (o : St) (xo : Sl) (x : Sl) (g : St) (pc : Nat) (lv : List (Nat × Value)) (stk : List Value) : Prop := Gj l shX D T ad 4 (rmX_tryOrders) 0 0 Γ (MQ Γ.below (va_Qv (eqV o xo) (wPost shX D T ad Γ.A) Γ.A) Γ.args Γ.s 0 0 Γ.A) x g pc lv stk
set_option maxRecDepth 100000 in
set_option maxHeartbeats 4000000 in
theorem cX_tryOrders (l : Launch) (D : va_G) (T : cT) (ad : Nat → Nat) (sK sV : Nat → Nat) (xo : Sl) (g : St) (o : St) (h : fX_tryOrders g = some o) (sz : Nat) : Met l yX11_tryOrders wX_tryOrders (rmX_tryOrders) (va_Pc [.ref (ad 0)] (xPre shX D T ad sK sV xo g sz)) (va_Qv (eqV o xo) (wPost shX D T ad (aW shX T ad xo g sz)) (aW shX T ad xo g sz)) 0 0 (aW shX T ad xo g sz) := by
  refine g_startx (Qc := fun A => va_Qv (eqV o xo) (wPost shX D T ad A) A) (by decide +kernel) rfl rfl (Nat.le_of_ble_eq_true rfl) (lv := [(0, .ref (ad 0))]) rfl (fun Γ Y => ?_)
  have C := Y.1
  show GcX_tryOrders l D T ad Γ o xo xo g 0 [(0, .ref (ad 0))] []
  have J11 : ∀ (x1 : Int32) (x2 : Int32) (g : St), fX_tryOrders_b11 x1 x2 g = some o → GcX_tryOrders l D T ad Γ o xo xo g 11 [(0, .ref (ad 0)), (1, .int x1), (2, .int x2)] [] := by
    intro x1 x2 g h
    obtain ⟨g, ht, h⟩ := bnd h
    refine lp_run (P := fun t : Int32 × Int32 × St => match t with | (x1, x2, g) => GcX_tryOrders l D T ad Γ o xo xo g 11 [(0, .ref (ad 0)), (1, .int x1), (2, .int x2)] []) (E := fun g : St => GcX_tryOrders l D T ad Γ o xo xo g 108 [] []) ?_ _ _ _ ht ?_
    · rintro ⟨x1, x2, g⟩ z h Kt Ke
      show GcX_tryOrders l D T ad Γ o xo xo g 11 [(0, .ref (ad 0)), (1, .int x1), (2, .int x2)] []
      have J34 : ∀ (x2 : Int32) (x3 : Int32) (g : St), fX_tryOrders_b34 x2 x3 g = some z → GcX_tryOrders l D T ad Γ o xo xo g 34 [(0, .ref (ad 0)), (2, .int x2), (3, .int x3)] [] := by
        intro x2 x3 g h
        obtain ⟨g, ht, h⟩ := bnd h
        refine lp_run (P := fun t : Int32 × St => match t with | (x3, g) => GcX_tryOrders l D T ad Γ o xo xo g 34 [(0, .ref (ad 0)), (2, .int x2), (3, .int x3)] []) (E := fun g : St => GcX_tryOrders l D T ad Γ o xo xo g 72 [(0, .ref (ad 0)), (2, .int x2)] []) ?_ _ _ _ ht ?_
        · rintro ⟨x3, g⟩ z h Kt Ke
          show GcX_tryOrders l D T ad Γ o xo xo g 34 [(0, .ref (ad 0)), (2, .int x2), (3, .int x3)] []
          refine g_iload_n C dX11_tryOrders_34 rfl 2 rfl ?_
          refine g_aload_n C dX11_tryOrders_35 rfl 0 rfl ?_
          refine gX_get_X11_82 C ob_0 rfl dX11_tryOrders_36 ?_
          refine gX_get_X11_390 (v := g 13 2) C ob_13 rfl rfl dX11_tryOrders_39 ?_
          refine g_icmp_ge C 72 dX11_tryOrders_42 (by decide) (fun c42 => ?_) (fun c42 => ?_)
          · have h := iteT c42 h
            exact g_sub [0, 1] rfl (Ke _ (Option.some.inj h).symm)
          · have h := iteF c42 h
            refine g_aload_n C dX11_tryOrders_45 rfl 0 rfl ?_
            refine gX_get_X11_69 C ob_0 rfl dX11_tryOrders_46 ?_
            refine g_iconst C dX11_tryOrders_49 ic_0 ?_
            refine g_aload_n C dX11_tryOrders_50 rfl 0 rfl ?_
            refine gX_get_X11_82 C ob_0 rfl dX11_tryOrders_51 ?_
            refine gX_get_X11_393 C ob_13 rfl dX11_tryOrders_54 ?_
            refine g_iload_n C dX11_tryOrders_57 rfl 2 rfl ?_
            obtain ⟨r58, hr58, h⟩ := bnd h
            refine g_xSi (As := [.ref (ad 45), .int x3]) (rest := [.int (0 : Int32), .ref (ad 11)]) (ro := r58) (go := g) (xo := xo) Y (fun sz => cX_Rows_at l D T ad sK sV xo g 45 x3 _ hr58 sz) kX_RX11_221_Rows_at ⟨Nat.le_of_ble_eq_true rfl, Nat.le_of_ble_eq_true rfl⟩ ⟨rfl, rfl⟩ ⟨Nat.zero_le _, Nat.zero_le _⟩ rfl rfl (Nat.le_of_ble_eq_true rfl) dX11_tryOrders_58 ?_
            refine g_iconst C dX11_tryOrders_61 ic_0 ?_
            obtain ⟨⟨r62, g62⟩, hr62, h⟩ := bnd h
            refine g_xVz (k := 11) (As := [.int (0 : Int32), .int r58, .int (0 : Int32)]) (rest := []) (ro := r62) (go := g62) (xo := xo) Y (fun sz => cX_State_does l D T ad sK sV xo g 11 (0 : Int32) r58 (0 : Int32) (Or.inr rfl) _ hr62 sz) kX_RX11_396_State_does ⟨Nat.le_of_ble_eq_true rfl, Nat.le_of_ble_eq_true rfl⟩ ⟨rfl, rfl⟩ ⟨Nat.zero_le _, Nat.zero_le _⟩ (rfl : vwCl[6]? = some (RX7, TX7, 6)) ob_11 rfl rfl (Nat.le_of_ble_eq_true rfl) dX11_tryOrders_62 (fun hz62 => ?_)
            refine g_pop C dX11_tryOrders_65 rfl ?_
            refine g_iinc (lv' := [(3, .int (x3 + (1 : Int32))), (0, .ref (ad 0)), (2, .int x2)]) C dX11_tryOrders_66 2 rfl (ii_1 _) (Nat.le_of_ble_eq_true rfl) rfl ?_
            refine g_goto (tgt := 34) C dX11_tryOrders_69 (by decide) ?_
            exact g_sub [1, 2, 0] rfl (Kt _ (Option.some.inj h).symm)
        · show GcX_tryOrders l D T ad Γ o xo xo g 72 [(0, .ref (ad 0)), (2, .int x2)] []
          refine g_aload_n C dX11_tryOrders_72 rfl 0 rfl ?_
          refine gX_get_X11_82 C ob_0 rfl dX11_tryOrders_73 ?_
          refine g_aload_n C dX11_tryOrders_76 rfl 0 rfl ?_
          refine gX_get_X11_69 C ob_0 rfl dX11_tryOrders_77 ?_
          refine g_aload_n C dX11_tryOrders_80 rfl 0 rfl ?_
          refine gX_get_X11_53 C ob_0 rfl dX11_tryOrders_81 ?_
          refine g_aload_n C dX11_tryOrders_84 rfl 0 rfl ?_
          refine gX_get_X11_69 C ob_0 rfl dX11_tryOrders_85 ?_
          obtain ⟨r88, hr88, h⟩ := bnd h
          refine g_xVz (k := 8) (As := [.ref (ad 11)]) (rest := [.ref (ad 11), .ref (ad 13)]) (ro := r88) (go := g) (xo := xo) Y (fun sz => cX_Book_isRightFor l D T ad sK sV xo g 8 11 (Or.inl rfl) (Or.inr rfl) _ hr88 sz) kX_RX11_400_Book_isRightFor ⟨Nat.le_of_ble_eq_true rfl, Nat.le_of_ble_eq_true rfl⟩ ⟨rfl, rfl⟩ ⟨Nat.zero_le _, Nat.zero_le _⟩ (rfl : vwCl[0]? = some (RX0, TX0, 2)) ob_8 rfl rfl (Nat.le_of_ble_eq_true rfl) dX11_tryOrders_88 (fun hz88 => ?_)
          obtain ⟨g91, hr91, h⟩ := bnd h
          refine g_xVv (k := 13) (As := [.ref (ad 11), .int r88]) (rest := []) (go := g91) (xo := xo) Y (fun sz => cX_Orders_note l D T ad sK sV xo g 11 r88 (Or.inr rfl) _ hr91 sz) kX_RX11_404_Orders_note ⟨Nat.le_of_ble_eq_true rfl, Nat.le_of_ble_eq_true rfl⟩ ⟨rfl, rfl⟩ ⟨Nat.zero_le _, Nat.zero_le _⟩ (rfl : vwCl[4]? = some (RX4, TX4, 7)) ob_13 rfl rfl (Nat.le_of_ble_eq_true rfl) dX11_tryOrders_91 ?_
          refine g_aload_n C dX11_tryOrders_94 rfl 0 rfl ?_
          refine gX_get_X11_82 C ob_0 rfl dX11_tryOrders_95 ?_
          obtain ⟨⟨r98, g98⟩, hr98, h⟩ := bnd h
          refine g_xVz (k := 13) (As := []) (rest := []) (ro := r98) (go := g98) (xo := xo) Y (fun sz => cX_Orders_step l D T ad sK sV xo g91 _ hr98 sz) kX_RX11_408_Orders_step ⟨Nat.le_of_ble_eq_true rfl, Nat.le_of_ble_eq_true rfl⟩ ⟨rfl, rfl⟩ ⟨Nat.zero_le _, Nat.zero_le _⟩ (rfl : vwCl[4]? = some (RX4, TX4, 7)) ob_13 rfl rfl (Nat.le_of_ble_eq_true rfl) dX11_tryOrders_98 (fun hz98 => ?_)
          refine g_istore_n (lv' := [(1, .int r98), (0, .ref (ad 0)), (2, .int x2)]) C dX11_tryOrders_101 rfl (Nat.le_of_ble_eq_true rfl) rfl ?_
          refine g_iinc (lv' := [(2, .int (x2 + (1 : Int32))), (1, .int r98), (0, .ref (ad 0))]) C dX11_tryOrders_102 2 rfl (ii_1 _) (Nat.le_of_ble_eq_true rfl) rfl ?_
          refine g_goto (tgt := 11) C dX11_tryOrders_105 (by decide) ?_
          exact g_sub [2, 1, 0] rfl (Kt _ (Option.some.inj h).symm)
      refine g_iload_n C dX11_tryOrders_11 rfl 2 rfl ?_
      refine g_bipush C dX11_tryOrders_12 bp_120 ?_
      refine g_icmp_ge C 108 dX11_tryOrders_14 (by decide) (fun c14 => ?_) (fun c14 => ?_)
      · have h := iteT c14 h
        exact g_sub [] rfl (Ke _ (Option.some.inj h).symm)
      · have h := iteF c14 h
        refine g_iload_n C dX11_tryOrders_17 rfl 1 rfl ?_
        refine g_if_eq C 108 dX11_tryOrders_18 (by decide) (fun c18 => ?_) (fun c18 => ?_)
        · have h := iteT c18 h
          exact g_sub [] rfl (Ke _ (Option.some.inj h).symm)
        · have h := iteF c18 h
          refine g_aload_n C dX11_tryOrders_21 rfl 0 rfl ?_
          refine gX_get_X11_69 C ob_0 rfl dX11_tryOrders_22 ?_
          refine g_aload_n C dX11_tryOrders_25 rfl 0 rfl ?_
          refine gX_get_X11_65 C ob_0 rfl dX11_tryOrders_26 ?_
          obtain ⟨g29, hr29, h⟩ := bnd h
          refine g_xVv (k := 11) (As := [.ref (ad 10)]) (rest := []) (go := g29) (xo := xo) Y (fun sz => cX_State_take l D T ad sK sV xo g 11 10 (Or.inr rfl) (Or.inl rfl) _ hr29 sz) kX_RX11_271_State_take ⟨Nat.le_of_ble_eq_true rfl, Nat.le_of_ble_eq_true rfl⟩ ⟨rfl, rfl⟩ ⟨Nat.zero_le _, Nat.zero_le _⟩ (rfl : vwCl[6]? = some (RX7, TX7, 6)) ob_11 rfl rfl (Nat.le_of_ble_eq_true rfl) dX11_tryOrders_29 ?_
          refine g_iconst C dX11_tryOrders_32 ic_0 ?_
          refine g_istore_n (lv' := [(3, .int (0 : Int32)), (0, .ref (ad 0)), (1, .int x1), (2, .int x2)]) C dX11_tryOrders_33 rfl (Nat.le_of_ble_eq_true rfl) rfl ?_
          exact g_sub [1, 3, 0] rfl (J34 x2 (0 : Int32) g29 h)
    · show GcX_tryOrders l D T ad Γ o xo xo g 108 [] []
      obtain rfl := Option.some.inj h
      exact g_vret C rfl rfl dX11_tryOrders_108
  refine g_aload_n C dX11_tryOrders_0 rfl 0 rfl ?_
  refine gX_get_X11_82 C ob_0 rfl dX11_tryOrders_1 ?_
  obtain ⟨g4, hr4, h⟩ := bnd h
  refine g_xVv (k := 13) (As := []) (rest := []) (go := g4) (xo := xo) Y (fun sz => cX_Orders_forget l D T ad sK sV xo g _ hr4 sz) kX_RX11_387_Orders_forget ⟨Nat.le_of_ble_eq_true rfl, Nat.le_of_ble_eq_true rfl⟩ ⟨rfl, rfl⟩ ⟨Nat.zero_le _, Nat.zero_le _⟩ (rfl : vwCl[4]? = some (RX4, TX4, 7)) ob_13 rfl rfl (Nat.le_of_ble_eq_true rfl) dX11_tryOrders_4 ?_
  refine g_iconst C dX11_tryOrders_7 ic_1 ?_
  refine g_istore_n (lv' := [(1, .int (1 : Int32)), (0, .ref (ad 0))]) C dX11_tryOrders_8 rfl (Nat.le_of_ble_eq_true rfl) rfl ?_
  refine g_iconst C dX11_tryOrders_9 ic_0 ?_
  refine g_istore_n (lv' := [(2, .int (0 : Int32)), (1, .int (1 : Int32)), (0, .ref (ad 0))]) C dX11_tryOrders_10 rfl (Nat.le_of_ble_eq_true rfl) rfl ?_
  exact g_sub [2, 1, 0] rfl (J11 (1 : Int32) (0 : Int32) g4 h)
def fX_order (x1 : Int32) (x2 : Int32) (g : St) : Option ((Nat ⊕ Int32) × St) :=
  (fX_needOrders x1 x2 g).bind fun ⟨r3, g3⟩ => Sum.elim (fun k => some (.inl k, g3)) (fun _ => (fX_tryOrders g3).bind fun g7 => (if x2 = 0 then
    ((fX_State_nameless 10 g7).bind fun r25 => (some (.inr ((g7 13 3) - (fX_J_bitCount r25)), g7)))
  else
    (some (.inr (g7 13 4), g7)))) r3
def rmX_order : Room := { frames := 10, cells := 2, slots := 12, locals := 163 }
abbrev GcX_order (l : Launch) (D : va_G) (T : cT) (ad : Nat → Nat) (Γ : Cxt) (o : (Nat ⊕ Int32) × St) (xo : Sl) (kc : Nat) (x : Sl) (g : St) (pc : Nat) (lv : List (Nat × Value)) (stk : List Value) : Prop := Gj l shX D T ad 3 (rmX_order) kc (6 * kc) Γ (vx_MQ Γ.below (va_Qi (xoI o xo) (wPost shX D T ad Γ.A) Γ.A) (xoX shX D T ad o.1 (o.2, xo) Γ.A) Γ.args Γ.s 2 12 Γ.A) x g pc lv stk
set_option maxRecDepth 100000 in
set_option maxHeartbeats 4000000 in
theorem cX_order (l : Launch) (hl0 : l.stackTraces = false) (D : va_G) (T : cT) (ad : Nat → Nat) (sK sV : Nat → Nat) (xo : Sl) (g : St) (x1 : Int32) (x2 : Int32) (o : (Nat ⊕ Int32) × St) (h : fX_order x1 x2 g = some o) (sz : Nat) : vx_Met l yX11_order wX_order (rmX_order) (va_Pc [.ref (ad 0), .int x1, .int x2] (xPre shX D T ad sK sV xo g sz)) (va_Qi (xoI o xo) (wPost shX D T ad (aW shX T ad xo g sz)) (aW shX T ad xo g sz)) (xoX shX D T ad o.1 (o.2, xo) (aW shX T ad xo g sz)) 2 12 (aW shX T ad xo g sz) := by
  refine g_startt (Qc := fun A => va_Qi (xoI o xo) (wPost shX D T ad A) A) (XC := fun A => xoX shX D T ad o.1 (o.2, xo) A) hl0 (by decide +kernel) rfl rfl (Nat.le_of_ble_eq_true rfl) (lv := [(0, .ref (ad 0)), (1, .int x1), (2, .int x2)]) rfl (fun Γ Z => ?_)
  have Y := Z.1
  have C := Y.1
  show GcX_order l D T ad Γ o xo 0 xo g 0 [(0, .ref (ad 0)), (1, .int x1), (2, .int x2)] []
  refine g_aload_n C dX11_order_0 rfl 0 rfl ?_
  refine g_iload_n C dX11_order_1 rfl 1 rfl ?_
  refine g_iload_n C dX11_order_2 rfl 2 rfl ?_
  obtain ⟨⟨r3, g3⟩, hr3, h⟩ := bnd h
  refine g_tVv (k := 0) (As := [.int x1, .int x2]) (rest := []) (o := (r3, g3)) (xo := xo) Z (fun sz => cX_needOrders l hl0 D T ad sK sV xo g x1 x2 _ hr3 sz) kX_RX11_304_needOrders ⟨Nat.le_of_ble_eq_true rfl, Nat.le_of_ble_eq_true rfl⟩ ⟨rfl, rfl⟩ ⟨Nat.le_of_ble_eq_true rfl, Nat.le_of_ble_eq_true rfl⟩ (rfl : vwCl[10]? = some (RX11, TX11, 19)) ob_0 rfl rfl (Nat.le_of_ble_eq_true rfl) dX11_order_3 ⟨Nat.le_of_ble_eq_true rfl, Nat.le_of_ble_eq_true rfl⟩ (fun k9 hk9 => ?_) (fun v9 hv9 => ?_)
  · subst hk9
    obtain rfl := Option.some.inj h
    exact ⟨rfl, rfl⟩
  · subst hv9
    have h := selR h
    refine g_aload_n C dX11_order_6 rfl 0 rfl ?_
    obtain ⟨g7, hr7, h⟩ := bnd h
    refine g_xVv (k := 0) (As := []) (rest := []) (go := g7) (xo := xo) Y (fun sz => cX_tryOrders l D T ad sK sV xo g3 _ hr7 sz) kX_RX11_308_tryOrders ⟨Nat.le_of_ble_eq_true rfl, Nat.le_of_ble_eq_true rfl⟩ ⟨rfl, rfl⟩ ⟨Nat.le_of_ble_eq_true rfl, Nat.le_of_ble_eq_true rfl⟩ (rfl : vwCl[10]? = some (RX11, TX11, 19)) ob_0 rfl rfl (Nat.le_of_ble_eq_true rfl) dX11_order_7 ?_
    refine g_iload_n C dX11_order_10 rfl 2 rfl ?_
    refine g_if_ne C 35 dX11_order_11 (by decide) (fun c11 => ?_) (fun c11 => ?_)
    · have h := iteT c11 h
      refine g_aload_n C dX11_order_14 rfl 0 rfl ?_
      refine gX_get_X11_82 C ob_0 rfl dX11_order_15 ?_
      refine gX_get_X11_311 (v := g7 13 3) C ob_13 rfl rfl dX11_order_18 ?_
      refine g_aload_n C dX11_order_21 rfl 0 rfl ?_
      refine gX_get_X11_65 C ob_0 rfl dX11_order_22 ?_
      obtain ⟨r25, hr25, h⟩ := bnd h
      refine g_xVi (k := 10) (As := []) (rest := [.int (g7 13 3)]) (ro := r25) (go := g7) (xo := xo) Y (fun sz => cX_State_nameless l D T ad sK sV xo g7 10 (Or.inl rfl) _ hr25 sz) kX_RX11_190_State_nameless ⟨Nat.le_of_ble_eq_true rfl, Nat.le_of_ble_eq_true rfl⟩ ⟨rfl, rfl⟩ ⟨Nat.le_of_ble_eq_true rfl, Nat.le_of_ble_eq_true rfl⟩ (rfl : vwCl[6]? = some (RX7, TX7, 6)) ob_10 rfl rfl (Nat.le_of_ble_eq_true rfl) dX11_order_25 ?_
      refine g_xSi (As := [.int r25]) (rest := [.int (g7 13 3)]) (ro := (fX_J_bitCount r25)) (go := g7) (xo := xo) Y (fun sz => cX_J_bitCount l D T ad sK sV xo g7 r25 _ rfl sz) kX_RX11_314_J_bitCount ⟨Nat.le_of_ble_eq_true rfl, Nat.le_of_ble_eq_true rfl⟩ ⟨rfl, rfl⟩ ⟨Nat.le_of_ble_eq_true rfl, Nat.le_of_ble_eq_true rfl⟩ rfl rfl (Nat.le_of_ble_eq_true rfl) dX11_order_28 ?_
      refine g_isub C dX11_order_31 ?_
      refine g_goto (tgt := 42) C dX11_order_32 (by decide) ?_
      obtain rfl := Option.some.inj h
      exact g_treti Z rfl rfl ⟨Nat.le_of_ble_eq_true rfl, Nat.le_of_ble_eq_true rfl⟩ dX11_order_42
    · have h := iteF c11 h
      refine g_aload_n C dX11_order_35 rfl 0 rfl ?_
      refine gX_get_X11_82 C ob_0 rfl dX11_order_36 ?_
      refine gX_get_X11_319 (v := g7 13 4) C ob_13 rfl rfl dX11_order_39 ?_
      obtain rfl := Option.some.inj h
      exact g_treti Z rfl rfl ⟨Nat.le_of_ble_eq_true rfl, Nat.le_of_ble_eq_true rfl⟩ dX11_order_42
def fX_fits (x1 : Int32) (x2 : Int32) (g : St) : Option ((Nat ⊕ Int32) × St) :=
  (fX_needOrders x1 x2 g).bind fun ⟨r3, g3⟩ => Sum.elim (fun k => some (.inl k, g3)) (fun _ => (fX_tryOrders g3).bind fun g7 => (if x2 = 0 then
    (some (.inr (g7 13 5), g7))
  else
    (some (.inr (g7 13 6), g7)))) r3
def rmX_fits : Room := { frames := 10, cells := 2, slots := 12, locals := 163 }
abbrev GcX_fits (l : Launch) (D : va_G) (T : cT) (ad : Nat → Nat) (Γ : Cxt) (o : (Nat ⊕ Int32) × St) (xo : Sl) (kc : Nat) (x : Sl) (g : St) (pc : Nat) (lv : List (Nat × Value)) (stk : List Value) : Prop := Gj l shX D T ad 3 (rmX_fits) kc (6 * kc) Γ (vx_MQ Γ.below (va_Qi (xoI o xo) (wPost shX D T ad Γ.A) Γ.A) (xoX shX D T ad o.1 (o.2, xo) Γ.A) Γ.args Γ.s 2 12 Γ.A) x g pc lv stk
set_option maxRecDepth 100000 in
set_option maxHeartbeats 4000000 in
theorem cX_fits (l : Launch) (hl0 : l.stackTraces = false) (D : va_G) (T : cT) (ad : Nat → Nat) (sK sV : Nat → Nat) (xo : Sl) (g : St) (x1 : Int32) (x2 : Int32) (o : (Nat ⊕ Int32) × St) (h : fX_fits x1 x2 g = some o) (sz : Nat) : vx_Met l yX11_fits wX_fits (rmX_fits) (va_Pc [.ref (ad 0), .int x1, .int x2] (xPre shX D T ad sK sV xo g sz)) (va_Qi (xoI o xo) (wPost shX D T ad (aW shX T ad xo g sz)) (aW shX T ad xo g sz)) (xoX shX D T ad o.1 (o.2, xo) (aW shX T ad xo g sz)) 2 12 (aW shX T ad xo g sz) := by
  refine g_startt (Qc := fun A => va_Qi (xoI o xo) (wPost shX D T ad A) A) (XC := fun A => xoX shX D T ad o.1 (o.2, xo) A) hl0 (by decide +kernel) rfl rfl (Nat.le_of_ble_eq_true rfl) (lv := [(0, .ref (ad 0)), (1, .int x1), (2, .int x2)]) rfl (fun Γ Z => ?_)
  have Y := Z.1
  have C := Y.1
  show GcX_fits l D T ad Γ o xo 0 xo g 0 [(0, .ref (ad 0)), (1, .int x1), (2, .int x2)] []
  refine g_aload_n C dX11_fits_0 rfl 0 rfl ?_
  refine g_iload_n C dX11_fits_1 rfl 1 rfl ?_
  refine g_iload_n C dX11_fits_2 rfl 2 rfl ?_
  obtain ⟨⟨r3, g3⟩, hr3, h⟩ := bnd h
  refine g_tVv (k := 0) (As := [.int x1, .int x2]) (rest := []) (o := (r3, g3)) (xo := xo) Z (fun sz => cX_needOrders l hl0 D T ad sK sV xo g x1 x2 _ hr3 sz) kX_RX11_304_needOrders ⟨Nat.le_of_ble_eq_true rfl, Nat.le_of_ble_eq_true rfl⟩ ⟨rfl, rfl⟩ ⟨Nat.le_of_ble_eq_true rfl, Nat.le_of_ble_eq_true rfl⟩ (rfl : vwCl[10]? = some (RX11, TX11, 19)) ob_0 rfl rfl (Nat.le_of_ble_eq_true rfl) dX11_fits_3 ⟨Nat.le_of_ble_eq_true rfl, Nat.le_of_ble_eq_true rfl⟩ (fun k9 hk9 => ?_) (fun v9 hv9 => ?_)
  · subst hk9
    obtain rfl := Option.some.inj h
    exact ⟨rfl, rfl⟩
  · subst hv9
    have h := selR h
    refine g_aload_n C dX11_fits_6 rfl 0 rfl ?_
    obtain ⟨g7, hr7, h⟩ := bnd h
    refine g_xVv (k := 0) (As := []) (rest := []) (go := g7) (xo := xo) Y (fun sz => cX_tryOrders l D T ad sK sV xo g3 _ hr7 sz) kX_RX11_308_tryOrders ⟨Nat.le_of_ble_eq_true rfl, Nat.le_of_ble_eq_true rfl⟩ ⟨rfl, rfl⟩ ⟨Nat.le_of_ble_eq_true rfl, Nat.le_of_ble_eq_true rfl⟩ (rfl : vwCl[10]? = some (RX11, TX11, 19)) ob_0 rfl rfl (Nat.le_of_ble_eq_true rfl) dX11_fits_7 ?_
    refine g_iload_n C dX11_fits_10 rfl 2 rfl ?_
    refine g_if_ne C 24 dX11_fits_11 (by decide) (fun c11 => ?_) (fun c11 => ?_)
    · have h := iteT c11 h
      refine g_aload_n C dX11_fits_14 rfl 0 rfl ?_
      refine gX_get_X11_82 C ob_0 rfl dX11_fits_15 ?_
      refine gX_get_X11_322 (v := g7 13 5) C ob_13 rfl rfl dX11_fits_18 ?_
      refine g_goto (tgt := 31) C dX11_fits_21 (by decide) ?_
      obtain rfl := Option.some.inj h
      exact g_treti Z rfl rfl ⟨Nat.le_of_ble_eq_true rfl, Nat.le_of_ble_eq_true rfl⟩ dX11_fits_31
    · have h := iteF c11 h
      refine g_aload_n C dX11_fits_24 rfl 0 rfl ?_
      refine gX_get_X11_82 C ob_0 rfl dX11_fits_25 ?_
      refine gX_get_X11_325 (v := g7 13 6) C ob_13 rfl rfl dX11_fits_28 ?_
      obtain rfl := Option.some.inj h
      exact g_treti Z rfl rfl ⟨Nat.le_of_ble_eq_true rfl, Nat.le_of_ble_eq_true rfl⟩ dX11_fits_31
def fX_look_b72 (x2 : Int32) (x3 : Int32) (x4 : Int32) (x5 : Int32) (g : St) : Option ((Int32 × Int32 × Int32) ⊕ ((Int32 × Int32))) :=
  some (.inl (x3, x4, (x5 + (1 : Int32))))
def fX_look_b65 (x2 : Int32) (x5 : Int32) (x6 : Int32) (g : St) : Option ((Int32 × Int32 × Int32) ⊕ ((Int32 × Int32))) :=
  fX_look_b72 x2 x5 x6 x5 g
def fX_look_L18 (x2 : Int32) (g : St) : (Int32 × Int32 × Int32) → Option ((Int32 × Int32 × Int32) ⊕ ((Int32 × Int32))) := fun ⟨x3, x4, x5⟩ =>
  if (g 2 0) ≤ x5 then
    (some (.inr (x3, x4)))
  else
    ((fX_Book_tellsOf 8 x5 g).bind fun r36 => (if r36 = 0 then
    ((fX_Orders_mostAlike x5 g).bind fun r48 => (if x3 = (-1 : Int32) then
    (fX_look_b65 x2 x5 r48 g)
  else
    (if x4 ≤ r48 then
    (fX_look_b72 x2 x3 x4 x5 g)
  else
    (fX_look_b65 x2 x5 r48 g))))
  else
    (fX_look_b72 x2 x3 x4 x5 g)))
def fX_look_b18 (x2 : Int32) (x3 : Int32) (x4 : Int32) (x5 : Int32) (g : St) : Option ((Nat ⊕ Int32) × St) :=
  (lp (fX_look_L18 x2 g) fuel (x3, x4, x5)).bind (fun ⟨x3, x4⟩ => if x2 = 0 then
    (some (.inr x3, g))
  else
    (some (.inr x4, g)))
def fX_look (x1 : Int32) (x2 : Int32) (g : St) : Option ((Nat ⊕ Int32) × St) :=
  (fX_needOrders x1 x2 g).bind fun ⟨r3, g3⟩ => Sum.elim (fun k => some (.inl k, g3)) (fun _ => (fX_tryOrders g3).bind fun g7 => (fX_look_b18 x2 (-1 : Int32) (-1 : Int32) (0 : Int32) g7)) r3
def rmX_look : Room := { frames := 10, cells := 2, slots := 12, locals := 163 }
abbrev GcX_look (l : Launch) (D : va_G) (T : cT) (ad : Nat → Nat) (Γ : Cxt) (o : (Nat ⊕ Int32) × St) (xo : Sl) (kc : Nat) (x : Sl) (g : St) (pc : Nat) (lv : List (Nat × Value)) (stk : List Value) : Prop := Gj l shX D T ad 7 (rmX_look) kc (6 * kc) Γ (vx_MQ Γ.below (va_Qi (xoI o xo) (wPost shX D T ad Γ.A) Γ.A) (xoX shX D T ad o.1 (o.2, xo) Γ.A) Γ.args Γ.s 2 12 Γ.A) x g pc lv stk
set_option maxRecDepth 100000 in
set_option maxHeartbeats 4000000 in
theorem cX_look (l : Launch) (hl0 : l.stackTraces = false) (D : va_G) (T : cT) (ad : Nat → Nat) (sK sV : Nat → Nat) (xo : Sl) (g : St) (x1 : Int32) (x2 : Int32) (o : (Nat ⊕ Int32) × St) (h : fX_look x1 x2 g = some o) (sz : Nat) : vx_Met l yX11_look wX_look (rmX_look) (va_Pc [.ref (ad 0), .int x1, .int x2] (xPre shX D T ad sK sV xo g sz)) (va_Qi (xoI o xo) (wPost shX D T ad (aW shX T ad xo g sz)) (aW shX T ad xo g sz)) (xoX shX D T ad o.1 (o.2, xo) (aW shX T ad xo g sz)) 2 12 (aW shX T ad xo g sz) := by
  refine g_startt (Qc := fun A => va_Qi (xoI o xo) (wPost shX D T ad A) A) (XC := fun A => xoX shX D T ad o.1 (o.2, xo) A) hl0 (by decide +kernel) rfl rfl (Nat.le_of_ble_eq_true rfl) (lv := [(0, .ref (ad 0)), (1, .int x1), (2, .int x2)]) rfl (fun Γ Z => ?_)
  have Y := Z.1
  have C := Y.1
  show GcX_look l D T ad Γ o xo 0 xo g 0 [(0, .ref (ad 0)), (1, .int x1), (2, .int x2)] []
  have J18 : ∀ (x2 : Int32) (x3 : Int32) (x4 : Int32) (x5 : Int32) (g : St), fX_look_b18 x2 x3 x4 x5 g = some o → GcX_look l D T ad Γ o xo 2 xo g 18 [(0, .ref (ad 0)), (2, .int x2), (3, .int x3), (4, .int x4), (5, .int x5)] [] := by
    intro x2 x3 x4 x5 g h
    obtain ⟨⟨x3, x4⟩, ht, h⟩ := bnd h
    refine lp_run (P := fun t : Int32 × Int32 × Int32 => match t with | (x3, x4, x5) => GcX_look l D T ad Γ o xo 2 xo g 18 [(0, .ref (ad 0)), (2, .int x2), (3, .int x3), (4, .int x4), (5, .int x5)] []) (E := fun t : Int32 × Int32 => match t with | (x3, x4) => GcX_look l D T ad Γ o xo 2 xo g 78 [(2, .int x2), (3, .int x3), (4, .int x4)] []) ?_ _ _ _ ht ?_
    · rintro ⟨x3, x4, x5⟩ z h Kt Ke
      show GcX_look l D T ad Γ o xo 2 xo g 18 [(0, .ref (ad 0)), (2, .int x2), (3, .int x3), (4, .int x4), (5, .int x5)] []
      have J72 : ∀ (x3 : Int32) (x4 : Int32) (x5 : Int32), fX_look_b72 x2 x3 x4 x5 g = some z → GcX_look l D T ad Γ o xo 2 xo g 72 [(0, .ref (ad 0)), (2, .int x2), (3, .int x3), (4, .int x4), (5, .int x5)] [] := by
        intro x3 x4 x5 h
        refine g_iinc (lv' := [(5, .int (x5 + (1 : Int32))), (0, .ref (ad 0)), (2, .int x2), (3, .int x3), (4, .int x4)]) C dX11_look_72 4 rfl (ii_1 _) (Nat.le_of_ble_eq_true rfl) rfl ?_
        refine g_goto (tgt := 18) C dX11_look_75 (by decide) ?_
        exact g_sub [1, 2, 3, 4, 0] rfl (Kt _ (Option.some.inj h).symm)
      have J65 : ∀ (x5 : Int32) (x6 : Int32), fX_look_b65 x2 x5 x6 g = some z → GcX_look l D T ad Γ o xo 2 xo g 65 [(0, .ref (ad 0)), (2, .int x2), (5, .int x5), (6, .int x6)] [] := by
        intro x5 x6 h
        refine g_iload C dX11_look_65 2 rfl ?_
        refine g_istore_n (lv' := [(3, .int x5), (0, .ref (ad 0)), (2, .int x2), (5, .int x5), (6, .int x6)]) C dX11_look_67 rfl (Nat.le_of_ble_eq_true rfl) rfl ?_
        refine g_iload C dX11_look_68 4 rfl ?_
        refine g_istore (lv' := [(4, .int x6), (3, .int x5), (0, .ref (ad 0)), (2, .int x2), (5, .int x5), (6, .int x6)]) C dX11_look_70 (Nat.le_of_ble_eq_true rfl) rfl ?_
        exact g_sub [2, 3, 1, 0, 4] rfl (J72 x5 x6 x5 h)
      refine g_iload C dX11_look_18 4 rfl ?_
      refine g_aload_n C dX11_look_20 rfl 0 rfl ?_
      refine gX_get_X11_19 C ob_0 rfl dX11_look_21 ?_
      refine gX_get_X11_143 (v := g 2 0) C ob_2 rfl rfl dX11_look_24 ?_
      refine g_icmp_ge C 78 dX11_look_27 (by decide) (fun c27 => ?_) (fun c27 => ?_)
      · have h := iteT c27 h
        exact g_sub [1, 2, 3] rfl (Ke _ (Option.some.inj h).symm)
      · have h := iteF c27 h
        refine g_aload_n C dX11_look_30 rfl 0 rfl ?_
        refine gX_get_X11_53 C ob_0 rfl dX11_look_31 ?_
        refine g_iload C dX11_look_34 4 rfl ?_
        obtain ⟨r36, hr36, h⟩ := bnd h
        refine g_xVz (k := 8) (As := [.int x5]) (rest := []) (ro := r36) (go := g) (xo := xo) Y (fun sz => cX_Book_tellsOf l D T ad sK sV xo g 8 x5 (Or.inl rfl) _ hr36 sz) kX_RX11_328_Book_tellsOf ⟨Nat.le_of_ble_eq_true rfl, Nat.le_of_ble_eq_true rfl⟩ ⟨rfl, rfl⟩ ⟨Nat.le_of_ble_eq_true rfl, Nat.le_of_ble_eq_true rfl⟩ (rfl : vwCl[0]? = some (RX0, TX0, 2)) ob_8 rfl rfl (Nat.le_of_ble_eq_true rfl) dX11_look_36 (fun hz36 => ?_)
        refine g_if_ne C 72 dX11_look_39 (by decide) (fun c39 => ?_) (fun c39 => ?_)
        · have h := iteT c39 h
          refine g_aload_n C dX11_look_42 rfl 0 rfl ?_
          refine gX_get_X11_82 C ob_0 rfl dX11_look_43 ?_
          refine g_iload C dX11_look_46 4 rfl ?_
          obtain ⟨r48, hr48, h⟩ := bnd h
          refine g_xVi (k := 13) (As := [.int x5]) (rest := []) (ro := r48) (go := g) (xo := xo) Y (fun sz => cX_Orders_mostAlike l D T ad sK sV xo g x5 _ hr48 sz) kX_RX11_331_Orders_mostAlike ⟨Nat.le_of_ble_eq_true rfl, Nat.le_of_ble_eq_true rfl⟩ ⟨rfl, rfl⟩ ⟨Nat.le_of_ble_eq_true rfl, Nat.le_of_ble_eq_true rfl⟩ (rfl : vwCl[4]? = some (RX4, TX4, 7)) ob_13 rfl rfl (Nat.le_of_ble_eq_true rfl) dX11_look_48 ?_
          refine g_istore (lv' := [(6, .int r48), (0, .ref (ad 0)), (2, .int x2), (3, .int x3), (4, .int x4), (5, .int x5)]) C dX11_look_51 (Nat.le_of_ble_eq_true rfl) rfl ?_
          refine g_iload_n C dX11_look_53 rfl 3 rfl ?_
          refine g_iconst C dX11_look_54 ic_m1 ?_
          refine g_icmp_eq C 65 dX11_look_55 (by decide) (fun c55 => ?_) (fun c55 => ?_)
          · have h := iteT c55 h
            exact g_sub [1, 2, 5, 0] rfl (J65 x5 r48 h)
          · have h := iteF c55 h
            refine g_iload C dX11_look_58 0 rfl ?_
            refine g_iload C dX11_look_60 4 rfl ?_
            refine g_icmp_ge C 72 dX11_look_62 (by decide) (fun c62 => ?_) (fun c62 => ?_)
            · have h := iteT c62 h
              exact g_sub [1, 2, 3, 4, 5] rfl (J72 x3 x4 x5 h)
            · have h := iteF c62 h
              exact g_sub [1, 2, 5, 0] rfl (J65 x5 r48 h)
        · have h := iteF c39 h
          exact J72 x3 x4 x5 h
    · show GcX_look l D T ad Γ o xo 2 xo g 78 [(2, .int x2), (3, .int x3), (4, .int x4)] []
      refine g_iload_n C dX11_look_78 rfl 0 rfl ?_
      refine g_if_ne C 86 dX11_look_79 (by decide) (fun c79 => ?_) (fun c79 => ?_)
      · have h := iteT c79 h
        refine g_iload_n C dX11_look_82 rfl 1 rfl ?_
        refine g_goto (tgt := 88) C dX11_look_83 (by decide) ?_
        obtain rfl := Option.some.inj h
        exact g_treti Z rfl rfl ⟨Nat.le_of_ble_eq_true rfl, Nat.le_of_ble_eq_true rfl⟩ dX11_look_88
      · have h := iteF c79 h
        refine g_iload C dX11_look_86 2 rfl ?_
        obtain rfl := Option.some.inj h
        exact g_treti Z rfl rfl ⟨Nat.le_of_ble_eq_true rfl, Nat.le_of_ble_eq_true rfl⟩ dX11_look_88
  refine g_aload_n C dX11_look_0 rfl 0 rfl ?_
  refine g_iload_n C dX11_look_1 rfl 1 rfl ?_
  refine g_iload_n C dX11_look_2 rfl 2 rfl ?_
  obtain ⟨⟨r3, g3⟩, hr3, h⟩ := bnd h
  refine g_tVv (k := 0) (As := [.int x1, .int x2]) (rest := []) (o := (r3, g3)) (xo := xo) Z (fun sz => cX_needOrders l hl0 D T ad sK sV xo g x1 x2 _ hr3 sz) kX_RX11_304_needOrders ⟨Nat.le_of_ble_eq_true rfl, Nat.le_of_ble_eq_true rfl⟩ ⟨rfl, rfl⟩ ⟨Nat.le_of_ble_eq_true rfl, Nat.le_of_ble_eq_true rfl⟩ (rfl : vwCl[10]? = some (RX11, TX11, 19)) ob_0 rfl rfl (Nat.le_of_ble_eq_true rfl) dX11_look_3 ⟨Nat.le_of_ble_eq_true rfl, Nat.le_of_ble_eq_true rfl⟩ (fun k9 hk9 => ?_) (fun v9 hv9 => ?_)
  · subst hk9
    obtain rfl := Option.some.inj h
    exact ⟨rfl, rfl⟩
  · subst hv9
    have h := selR h
    refine g_aload_n C dX11_look_6 rfl 0 rfl ?_
    obtain ⟨g7, hr7, h⟩ := bnd h
    refine g_xVv (k := 0) (As := []) (rest := []) (go := g7) (xo := xo) Y (fun sz => cX_tryOrders l D T ad sK sV xo g3 _ hr7 sz) kX_RX11_308_tryOrders ⟨Nat.le_of_ble_eq_true rfl, Nat.le_of_ble_eq_true rfl⟩ ⟨rfl, rfl⟩ ⟨Nat.le_of_ble_eq_true rfl, Nat.le_of_ble_eq_true rfl⟩ (rfl : vwCl[10]? = some (RX11, TX11, 19)) ob_0 rfl rfl (Nat.le_of_ble_eq_true rfl) dX11_look_7 ?_
    refine g_iconst C dX11_look_10 ic_m1 ?_
    refine g_istore_n (lv' := [(3, .int (-1 : Int32)), (0, .ref (ad 0)), (1, .int x1), (2, .int x2)]) C dX11_look_11 rfl (Nat.le_of_ble_eq_true rfl) rfl ?_
    refine g_iconst C dX11_look_12 ic_m1 ?_
    refine g_istore (lv' := [(4, .int (-1 : Int32)), (3, .int (-1 : Int32)), (0, .ref (ad 0)), (1, .int x1), (2, .int x2)]) C dX11_look_13 (Nat.le_of_ble_eq_true rfl) rfl ?_
    refine g_iconst C dX11_look_15 ic_0 ?_
    refine g_istore (lv' := [(5, .int (0 : Int32)), (4, .int (-1 : Int32)), (3, .int (-1 : Int32)), (0, .ref (ad 0)), (1, .int x1), (2, .int x2)]) C dX11_look_16 (Nat.le_of_ble_eq_true rfl) rfl ?_
    exact g_sub [3, 5, 2, 1, 0] rfl (J18 x2 (-1 : Int32) (-1 : Int32) (0 : Int32) g7 h)
def fX_gain (x0 : Int32) (x1 : Int32) (x2 : Int32) (x3 : Int32) : Int32 :=
  if x1 = 0 then
    (x2)
  else
    (if x0 = 0 then
    (((0 : Int32) - x3))
  else
    ((0 : Int32)))
def rmX_gain : Room := { frames := 0, cells := 0, slots := 0, locals := 0 }
abbrev GcX_gain (l : Launch) (D : va_G) (T : cT) (ad : Nat → Nat) (Γ : Cxt) (o : Int32) (xo : Sl) (g0 : St) (x : Sl) (g : St) (pc : Nat) (lv : List (Nat × Value)) (stk : List Value) : Prop := Gj l shX D T ad 4 (rmX_gain) 0 0 Γ (MQ Γ.below (va_Qi (eqI o g0 xo) (wPost shX D T ad Γ.A) Γ.A) Γ.args Γ.s 0 0 Γ.A) x g pc lv stk
set_option maxRecDepth 100000 in
set_option maxHeartbeats 4000000 in
theorem cX_gain (l : Launch) (D : va_G) (T : cT) (ad : Nat → Nat) (sK sV : Nat → Nat) (xo : Sl) (g : St) (x0 : Int32) (x1 : Int32) (x2 : Int32) (x3 : Int32) (o : Int32) (h : fX_gain x0 x1 x2 x3 = o) (sz : Nat) : Met l yX11_gain wX_gain (rmX_gain) (va_Pc [.int x0, .int x1, .int x2, .int x3] (xPre shX D T ad sK sV xo g sz)) (va_Qi (eqI o g xo) (wPost shX D T ad (aW shX T ad xo g sz)) (aW shX T ad xo g sz)) 0 0 (aW shX T ad xo g sz) := by
  refine g_startx (Qc := fun A => va_Qi (eqI o g xo) (wPost shX D T ad A) A) (by decide +kernel) rfl rfl (Nat.le_of_ble_eq_true rfl) (lv := [(0, .int x0), (1, .int x1), (2, .int x2), (3, .int x3)]) rfl (fun Γ Y => ?_)
  have C := Y.1
  show GcX_gain l D T ad Γ o xo g xo g 0 [(0, .int x0), (1, .int x1), (2, .int x2), (3, .int x3)] []
  refine g_iload_n C dX11_gain_0 rfl 1 rfl ?_
  refine g_if_ne C 6 dX11_gain_1 (by decide) (fun c1 => ?_) (fun c1 => ?_)
  · have h := iteT c1 h
    refine g_iload_n C dX11_gain_4 rfl 2 rfl ?_
    subst h
    exact g_iret C rfl rfl rfl dX11_gain_5
  · have h := iteF c1 h
    refine g_iload_n C dX11_gain_6 rfl 0 rfl ?_
    refine g_if_ne C 16 dX11_gain_7 (by decide) (fun c7 => ?_) (fun c7 => ?_)
    · have h := iteT c7 h
      refine g_iconst C dX11_gain_10 ic_0 ?_
      refine g_iload_n C dX11_gain_11 rfl 3 rfl ?_
      refine g_isub C dX11_gain_12 ?_
      refine g_goto (tgt := 17) C dX11_gain_13 (by decide) ?_
      subst h
      exact g_iret C rfl rfl rfl dX11_gain_17
    · have h := iteF c7 h
      refine g_iconst C dX11_gain_16 ic_0 ?_
      subst h
      exact g_iret C rfl rfl rfl dX11_gain_17
