def fM_serves_b215 (rec_serves : Int32 → Int32 → Int32 → Int32 → St → Option (St)) (x1 : Int32) (x2 : Int32) (x3 : Int32) (x4 : Int32) (x5 : Int32) (g : St) : Option ((Int32 × St) ⊕ (St)) :=
  some (.inl ((x5 + (1 : Int32)), g))
def fM_serves_L88 (rec_serves : Int32 → Int32 → Int32 → Int32 → St → Option (St)) (x1 : Int32) (x2 : Int32) (x3 : Int32) (x4 : Int32) : (Int32 × St) → Option ((Int32 × St) ⊕ (St)) := fun ⟨x5, g⟩ =>
  if (g 4 0) ≤ x5 then
    (some (.inr g))
  else
    (if (fM_has x1 x2) = 0 then
    (some (.inr g))
  else
    (if (fM_has x1 x5) = 0 then
    ((fM_isLent 16 x5 x2 g).bind fun ⟨r124, g124⟩ => (if r124 = 0 then
    (fM_serves_b215 rec_serves x1 x2 x3 x4 x5 g124)
  else
    (if ¬ (x5 < 0 ∨ 8 ≤ x5.toNatClampNeg) then ((fM_stones 16 x5 g124).bind fun r144 => (if ((g124 22 x5.toNatClampNeg) + r144) < (g124 4 1) then
    (if ¬ (x2 < 0 ∨ 8 ≤ x2.toNatClampNeg) then ((fM_willOf 16 x5 x2 (st (st g124 20 x2.toNatClampNeg x5) 22 x5.toNatClampNeg ((g124 22 x5.toNatClampNeg) + (1 : Int32)))).bind fun ⟨r197, g197⟩ => ((rec_serves x1 (x2 + (1 : Int32)) (x3 + (1 : Int32)) (x4 + r197) g197).bind fun g201 => (fM_serves_b215 rec_serves x1 x2 x3 x4 x5 (st g201 22 x5.toNatClampNeg ((g201 22 x5.toNatClampNeg) - (1 : Int32)))))) else none)
  else
    (fM_serves_b215 rec_serves x1 x2 x3 x4 x5 g124))) else none)))
  else
    (fM_serves_b215 rec_serves x1 x2 x3 x4 x5 g)))
def fM_serves_b88 (rec_serves : Int32 → Int32 → Int32 → Int32 → St → Option (St)) (x1 : Int32) (x2 : Int32) (x3 : Int32) (x4 : Int32) (x5 : Int32) (g : St) : Option (St) :=
  (lp (fM_serves_L88 rec_serves x1 x2 x3 x4) fuel (x5, g)).bind (fun g => if ¬ (x2 < 0 ∨ 8 ≤ x2.toNatClampNeg) then ((rec_serves x1 (x2 + (1 : Int32)) x3 x4 (st g 20 x2.toNatClampNeg (-1 : Int32))).bind fun g236 => (some g236)) else none)
def fM_serves_L50 (rec_serves : Int32 → Int32 → Int32 → Int32 → St → Option (St)) : (Int32 × St) → Option ((Int32 × St) ⊕ (St)) := fun ⟨x5, g⟩ =>
  if (8 : Int32) ≤ x5 then
    (some (.inr g))
  else
    (if ¬ (x5 < 0 ∨ 8 ≤ x5.toNatClampNeg) then (some (.inl ((x5 + (1 : Int32)), (st g 21 x5.toNatClampNeg (g 20 x5.toNatClampNeg))))) else none)
def fM_serves_b50 (rec_serves : Int32 → Int32 → Int32 → Int32 → St → Option (St)) (x5 : Int32) (g : St) : Option (St) :=
  (lp (fM_serves_L50 rec_serves) fuel (x5, g)).bind (fun g => some g)
def fM_serves_b36 (rec_serves : Int32 → Int32 → Int32 → Int32 → St → Option (St)) (x3 : Int32) (x4 : Int32) (g : St) : Option (St) :=
  fM_serves_b50 rec_serves (0 : Int32) (st (st g 0 41 x3) 0 42 x4)
def fM_serves_o (rec_serves : Int32 → Int32 → Int32 → Int32 → St → Option (St)) (x1 : Int32) (x2 : Int32) (x3 : Int32) (x4 : Int32) (g : St) : Option (St) :=
  if x2 = (g 4 0) then
    (if x3 < (g 0 41) then
    (some g)
  else
    (if x3 = (g 0 41) then
    (if (g 0 42) < x4 then
    (fM_serves_b36 rec_serves x3 x4 g)
  else
    (some g))
  else
    (fM_serves_b36 rec_serves x3 x4 g)))
  else
    (if ¬ (x2 < 0 ∨ 8 ≤ x2.toNatClampNeg) then (fM_serves_b88 rec_serves x1 x2 x3 x4 (0 : Int32) (st g 20 x2.toNatClampNeg (-1 : Int32))) else none)
abbrev GcM_serves (l : Launch) (D : va_G) (T : cT) (ad : Nat → Nat) (Γ : Cxt) (o : St) (xo : Sl) (d : Nat) (x : Sl) (g : St) (pc : Nat) (lv : List (Nat × Value)) (stk : List Value) : Prop := Gj l shM D T ad 6 (rmR 6 139 25 (d + 1)) 0 0 Γ (MQ Γ.below (va_Qv (eqV o xo) (wPost shM D T ad Γ.A) Γ.A) Γ.args Γ.s 0 0 Γ.A) x g pc lv stk
set_option maxRecDepth 100000 in
set_option maxHeartbeats 4000000 in
theorem cM_serves_o (l : Launch) (D : va_G) (T : cT) (ad : Nat → Nat) (d : Nat) (rec_serves : Int32 → Int32 → Int32 → Int32 → St → Option (St)) (hrec_serves : ∀ (xo : Sl) (g : St) (x1 : Int32) (x2 : Int32) (x3 : Int32) (x4 : Int32) (o : St), rec_serves x1 x2 x3 x4 g = some o → ∀ sz : Nat, Met l yX12_serves wM_serves (rmR 6 139 25 d) (va_Pc [.ref (ad 0), .int x1, .int x2, .int x3, .int x4] (wPre shM D T ad xo g sz)) (va_Qv (eqV o xo) (wPost shM D T ad (aW shM T ad xo g sz)) (aW shM T ad xo g sz)) 0 0 (aW shM T ad xo g sz)) (xo : Sl) (g : St) (x1 : Int32) (x2 : Int32) (x3 : Int32) (x4 : Int32) (o : St) (h : fM_serves_o rec_serves x1 x2 x3 x4 g = some o) (sz : Nat) : Met l yX12_serves wM_serves (rmR 6 139 25 (d + 1)) (va_Pc [.ref (ad 0), .int x1, .int x2, .int x3, .int x4] (wPre shM D T ad xo g sz)) (va_Qv (eqV o xo) (wPost shM D T ad (aW shM T ad xo g sz)) (aW shM T ad xo g sz)) 0 0 (aW shM T ad xo g sz) := by
  refine g_start (Qc := fun A => va_Qv (eqV o xo) (wPost shM D T ad A) A) (by decide +kernel) rfl rfl (Nat.le_of_ble_eq_true rfl) (lv := [(0, .ref (ad 0)), (1, .int x1), (2, .int x2), (3, .int x3), (4, .int x4)]) rfl (fun Γ C => ?_)
  show GcM_serves l D T ad Γ o xo d xo g 0 [(0, .ref (ad 0)), (1, .int x1), (2, .int x2), (3, .int x3), (4, .int x4)] []
  have J88 : ∀ (x1 : Int32) (x2 : Int32) (x3 : Int32) (x4 : Int32) (x5 : Int32) (g : St), fM_serves_b88 rec_serves x1 x2 x3 x4 x5 g = some o → GcM_serves l D T ad Γ o xo d xo g 88 [(0, .ref (ad 0)), (1, .int x1), (2, .int x2), (3, .int x3), (4, .int x4), (5, .int x5)] [] := by
    intro x1 x2 x3 x4 x5 g h
    obtain ⟨g, ht, h⟩ := bnd h
    refine lp_run (P := fun t : Int32 × St => match t with | (x5, g) => GcM_serves l D T ad Γ o xo d xo g 88 [(0, .ref (ad 0)), (1, .int x1), (2, .int x2), (3, .int x3), (4, .int x4), (5, .int x5)] []) (E := fun g : St => GcM_serves l D T ad Γ o xo d xo g 221 [(0, .ref (ad 0)), (1, .int x1), (2, .int x2), (3, .int x3), (4, .int x4)] []) ?_ _ _ _ ht ?_
    · rintro ⟨x5, g⟩ z h Kt Ke
      show GcM_serves l D T ad Γ o xo d xo g 88 [(0, .ref (ad 0)), (1, .int x1), (2, .int x2), (3, .int x3), (4, .int x4), (5, .int x5)] []
      have J215 : ∀ (x5 : Int32) (g : St), fM_serves_b215 rec_serves x1 x2 x3 x4 x5 g = some z → GcM_serves l D T ad Γ o xo d xo g 215 [(0, .ref (ad 0)), (1, .int x1), (2, .int x2), (3, .int x3), (4, .int x4), (5, .int x5)] [] := by
        intro x5 g h
        refine g_iinc (lv' := [(5, .int (x5 + (1 : Int32))), (0, .ref (ad 0)), (1, .int x1), (2, .int x2), (3, .int x3), (4, .int x4)]) C dX12_serves_215 5 rfl (ii_1 _) (Nat.le_of_ble_eq_true rfl) rfl ?_
        refine g_goto (tgt := 88) C dX12_serves_218 (by decide) ?_
        exact g_sub [1, 2, 3, 4, 5, 0] rfl (Kt _ (Option.some.inj h).symm)
      refine g_iload C dX12_serves_88 5 rfl ?_
      refine g_aload_n C dX12_serves_90 rfl 0 rfl ?_
      refine gM_get_told C dX12_serves_91 ?_
      refine g_iconst C dX12_serves_94 ic_0 ?_
      refine g_iald (n := 2) (v := g 4 0) C ln_4 (by decide) rfl dX12_serves_95 ?_
      refine g_icmp_ge C 221 dX12_serves_96 (by decide) (fun c96 => ?_) (fun c96 => ?_)
      · have h := iteT c96 h
        exact g_sub [0, 1, 2, 3, 4] rfl (Ke _ (Option.some.inj h).symm)
      · have h := iteF c96 h
        refine g_iload_n C dX12_serves_99 rfl 1 rfl ?_
        refine g_iload_n C dX12_serves_100 rfl 2 rfl ?_
        refine g_cSz (As := [.int x1, .int x2]) (rest := []) (ro := (fM_has x1 x2)) (go := g) (xo := xo) C (fun sz => cM_has l D T ad xo g x1 x2 _ rfl sz) kM_has (by show 0 + 1 ≤ 6 + (d + 1) ∧ 8 + (2 + 11) + 0 ≤ 139 + 25 * (d + 1); omega) ⟨rfl, rfl⟩ ⟨Nat.zero_le _, Nat.zero_le _⟩ rfl rfl (Nat.le_of_ble_eq_true rfl) dX12_serves_101 (fun hz101 => ?_)
        refine g_if_eq C 221 dX12_serves_104 (by decide) (fun c104 => ?_) (fun c104 => ?_)
        · have h := iteT c104 h
          exact g_sub [0, 1, 2, 3, 4] rfl (Ke _ (Option.some.inj h).symm)
        · have h := iteF c104 h
          refine g_iload_n C dX12_serves_107 rfl 1 rfl ?_
          refine g_iload C dX12_serves_108 5 rfl ?_
          refine g_cSz (As := [.int x1, .int x5]) (rest := []) (ro := (fM_has x1 x5)) (go := g) (xo := xo) C (fun sz => cM_has l D T ad xo g x1 x5 _ rfl sz) kM_has (by show 0 + 1 ≤ 6 + (d + 1) ∧ 8 + (2 + 11) + 0 ≤ 139 + 25 * (d + 1); omega) ⟨rfl, rfl⟩ ⟨Nat.zero_le _, Nat.zero_le _⟩ rfl rfl (Nat.le_of_ble_eq_true rfl) dX12_serves_110 (fun hz110 => ?_)
          refine g_if_ne C 215 dX12_serves_113 (by decide) (fun c113 => ?_) (fun c113 => ?_)
          · have h := iteT c113 h
            refine g_aload_n C dX12_serves_116 rfl 0 rfl ?_
            refine g_aload_n C dX12_serves_117 rfl 0 rfl ?_
            refine gM_get_now C dX12_serves_118 ?_
            refine g_iload C dX12_serves_121 5 rfl ?_
            refine g_iload_n C dX12_serves_123 rfl 2 rfl ?_
            obtain ⟨⟨r124, g124⟩, hr124, h⟩ := bnd h
            refine g_cVz (k := 0) (As := [.ref (ad 16), .int x5, .int x2]) (rest := []) (ro := r124) (go := g124) (xo := xo) C (fun sz => cM_isLent l D T ad xo g 16 x5 x2 _ hr124 sz) kM_isLent (by show 5 + 1 ≤ 6 + (d + 1) ∧ 8 + (4 + 11) + 116 ≤ 139 + 25 * (d + 1); omega) ⟨rfl, rfl⟩ ⟨Nat.zero_le _, Nat.zero_le _⟩ (rfl : vwCl[11]? = some (RX12, TX12, 48)) kM0 rfl rfl (Nat.le_of_ble_eq_true rfl) dX12_serves_124 (fun hz124 => ?_)
            refine g_if_eq C 215 dX12_serves_127 (by decide) (fun c127 => ?_) (fun c127 => ?_)
            · have h := iteT c127 h
              exact J215 x5 g124 h
            · have h := iteF c127 h
              refine g_aload_n C dX12_serves_130 rfl 0 rfl ?_
              refine gM_get_times C dX12_serves_131 ?_
              refine g_iload C dX12_serves_134 5 rfl ?_
              obtain ⟨hi136, h⟩ := grd h
              refine g_iald (n := 8) (v := g124 22 x5.toNatClampNeg) C ln_22 hi136 rfl dX12_serves_136 ?_
              refine g_aload_n C dX12_serves_137 rfl 0 rfl ?_
              refine g_aload_n C dX12_serves_138 rfl 0 rfl ?_
              refine gM_get_now C dX12_serves_139 ?_
              refine g_iload C dX12_serves_142 5 rfl ?_
              obtain ⟨r144, hr144, h⟩ := bnd h
              refine g_cVi (k := 0) (As := [.ref (ad 16), .int x5]) (rest := [.int (g124 22 x5.toNatClampNeg)]) (ro := r144) (go := g124) (xo := xo) C (fun sz => cM_stones l D T ad xo g124 16 x5 _ hr144 sz) kM_stones (by show 1 + 1 ≤ 6 + (d + 1) ∧ 8 + (3 + 11) + 24 ≤ 139 + 25 * (d + 1); omega) ⟨rfl, rfl⟩ ⟨Nat.zero_le _, Nat.zero_le _⟩ (rfl : vwCl[11]? = some (RX12, TX12, 48)) kM0 rfl rfl (Nat.le_of_ble_eq_true rfl) dX12_serves_144 ?_
              refine g_iadd C dX12_serves_147 ?_
              refine g_aload_n C dX12_serves_148 rfl 0 rfl ?_
              refine gM_get_told C dX12_serves_149 ?_
              refine g_iconst C dX12_serves_152 ic_1 ?_
              refine g_iald (n := 2) (v := g124 4 1) C ln_4 (by decide) rfl dX12_serves_153 ?_
              refine g_icmp_lt C 160 dX12_serves_154 (by decide) (fun c154 => ?_) (fun c154 => ?_)
              · have h := iteT c154 h
                refine g_aload_n C dX12_serves_160 rfl 0 rfl ?_
                refine gM_get_gives C dX12_serves_161 ?_
                refine g_iload_n C dX12_serves_164 rfl 2 rfl ?_
                refine g_iload C dX12_serves_165 5 rfl ?_
                obtain ⟨hi167, h⟩ := grd h
                refine g_iast (n := 8) (q := x2.toNatClampNeg) C ln_20 hi167 rfl dX12_serves_167 ?_
                refine g_aload_n C dX12_serves_168 rfl 0 rfl ?_
                refine gM_get_times C dX12_serves_169 ?_
                refine g_iload C dX12_serves_172 5 rfl ?_
                refine g_dup2 C dX12_serves_174 rfl rfl ?_
                refine g_iald (n := 8) (v := g124 22 x5.toNatClampNeg) C ln_22 hi136 rfl dX12_serves_175 ?_
                refine g_iconst C dX12_serves_176 ic_1 ?_
                refine g_iadd C dX12_serves_177 ?_
                refine g_iast (n := 8) (q := x5.toNatClampNeg) C ln_22 hi136 rfl dX12_serves_178 ?_
                refine g_aload_n C dX12_serves_179 rfl 0 rfl ?_
                refine g_iload_n C dX12_serves_180 rfl 1 rfl ?_
                refine g_iload_n C dX12_serves_181 rfl 2 rfl ?_
                refine g_iconst C dX12_serves_182 ic_1 ?_
                refine g_iadd C dX12_serves_183 ?_
                refine g_iload_n C dX12_serves_184 rfl 3 rfl ?_
                refine g_iconst C dX12_serves_185 ic_1 ?_
                refine g_iadd C dX12_serves_186 ?_
                refine g_iload C dX12_serves_187 4 rfl ?_
                refine g_aload_n C dX12_serves_189 rfl 0 rfl ?_
                refine g_aload_n C dX12_serves_190 rfl 0 rfl ?_
                refine gM_get_now C dX12_serves_191 ?_
                refine g_iload C dX12_serves_194 5 rfl ?_
                refine g_iload_n C dX12_serves_196 rfl 2 rfl ?_
                obtain ⟨⟨r197, g197⟩, hr197, h⟩ := bnd h
                refine g_cVi (k := 0) (As := [.ref (ad 16), .int x5, .int x2]) (rest := [.int x4, .int (x3 + (1 : Int32)), .int (x2 + (1 : Int32)), .int x1, .ref (ad 0)]) (ro := r197) (go := g197) (xo := xo) C (fun sz => cM_willOf l D T ad xo (st (st g124 20 x2.toNatClampNeg x5) 22 x5.toNatClampNeg ((g124 22 x5.toNatClampNeg) + (1 : Int32))) 16 x5 x2 _ hr197 sz) kM_willOf (by show 4 + 1 ≤ 6 + (d + 1) ∧ 8 + (4 + 11) + 93 ≤ 139 + 25 * (d + 1); omega) ⟨rfl, rfl⟩ ⟨Nat.zero_le _, Nat.zero_le _⟩ (rfl : vwCl[11]? = some (RX12, TX12, 48)) kM0 rfl rfl (Nat.le_of_ble_eq_true rfl) dX12_serves_197 ?_
                refine g_iadd C dX12_serves_200 ?_
                obtain ⟨g201, hr201, h⟩ := bnd h
                refine g_cVv (k := 0) (As := [.int x1, .int (x2 + (1 : Int32)), .int (x3 + (1 : Int32)), .int (x4 + r197)]) (rest := []) (go := g201) (xo := xo) C (fun sz => hrec_serves xo g197 x1 (x2 + (1 : Int32)) (x3 + (1 : Int32)) (x4 + r197) _ hr201 sz) kM_serves (by show 6 + d + 1 ≤ 6 + (d + 1) ∧ 8 + (6 + 11) + (139 + 25 * d) ≤ 139 + 25 * (d + 1); omega) ⟨rfl, rfl⟩ ⟨Nat.zero_le _, Nat.zero_le _⟩ (rfl : vwCl[11]? = some (RX12, TX12, 48)) kM0 rfl rfl (Nat.le_of_ble_eq_true rfl) dX12_serves_201 ?_
                refine g_aload_n C dX12_serves_204 rfl 0 rfl ?_
                refine gM_get_times C dX12_serves_205 ?_
                refine g_iload C dX12_serves_208 5 rfl ?_
                refine g_dup2 C dX12_serves_210 rfl rfl ?_
                refine g_iald (n := 8) (v := g201 22 x5.toNatClampNeg) C ln_22 hi136 rfl dX12_serves_211 ?_
                refine g_iconst C dX12_serves_212 ic_1 ?_
                refine g_isub C dX12_serves_213 ?_
                refine g_iast (n := 8) (q := x5.toNatClampNeg) C ln_22 hi136 rfl dX12_serves_214 ?_
                exact J215 x5 (st g201 22 x5.toNatClampNeg ((g201 22 x5.toNatClampNeg) - (1 : Int32))) h
              · have h := iteF c154 h
                refine g_goto (tgt := 215) C dX12_serves_157 (by decide) ?_
                exact J215 x5 g124 h
          · have h := iteF c113 h
            exact J215 x5 g h
    · show GcM_serves l D T ad Γ o xo d xo g 221 [(0, .ref (ad 0)), (1, .int x1), (2, .int x2), (3, .int x3), (4, .int x4)] []
      refine g_aload_n C dX12_serves_221 rfl 0 rfl ?_
      refine gM_get_gives C dX12_serves_222 ?_
      refine g_iload_n C dX12_serves_225 rfl 2 rfl ?_
      refine g_iconst C dX12_serves_226 ic_m1 ?_
      obtain ⟨hi227, h⟩ := grd h
      refine g_iast (n := 8) (q := x2.toNatClampNeg) C ln_20 hi227 rfl dX12_serves_227 ?_
      refine g_aload_n C dX12_serves_228 rfl 0 rfl ?_
      refine g_iload_n C dX12_serves_229 rfl 1 rfl ?_
      refine g_iload_n C dX12_serves_230 rfl 2 rfl ?_
      refine g_iconst C dX12_serves_231 ic_1 ?_
      refine g_iadd C dX12_serves_232 ?_
      refine g_iload_n C dX12_serves_233 rfl 3 rfl ?_
      refine g_iload C dX12_serves_234 4 rfl ?_
      obtain ⟨g236, hr236, h⟩ := bnd h
      refine g_cVv (k := 0) (As := [.int x1, .int (x2 + (1 : Int32)), .int x3, .int x4]) (rest := []) (go := g236) (xo := xo) C (fun sz => hrec_serves xo (st g 20 x2.toNatClampNeg (-1 : Int32)) x1 (x2 + (1 : Int32)) x3 x4 _ hr236 sz) kM_serves (by show 6 + d + 1 ≤ 6 + (d + 1) ∧ 8 + (6 + 11) + (139 + 25 * d) ≤ 139 + 25 * (d + 1); omega) ⟨rfl, rfl⟩ ⟨Nat.zero_le _, Nat.zero_le _⟩ (rfl : vwCl[11]? = some (RX12, TX12, 48)) kM0 rfl rfl (Nat.le_of_ble_eq_true rfl) dX12_serves_236 ?_
      obtain rfl := Option.some.inj h
      exact g_vret C rfl rfl dX12_serves_239
  have J50 : ∀ (x5 : Int32) (g : St), fM_serves_b50 rec_serves x5 g = some o → GcM_serves l D T ad Γ o xo d xo g 50 [(0, .ref (ad 0)), (5, .int x5)] [] := by
    intro x5 g h
    obtain ⟨g, ht, h⟩ := bnd h
    refine lp_run (P := fun t : Int32 × St => match t with | (x5, g) => GcM_serves l D T ad Γ o xo d xo g 50 [(0, .ref (ad 0)), (5, .int x5)] []) (E := fun g : St => GcM_serves l D T ad Γ o xo d xo g 77 [] []) ?_ _ _ _ ht ?_
    · rintro ⟨x5, g⟩ z h Kt Ke
      show GcM_serves l D T ad Γ o xo d xo g 50 [(0, .ref (ad 0)), (5, .int x5)] []
      refine g_iload C dX12_serves_50 1 rfl ?_
      refine g_bipush C dX12_serves_52 bp_8 ?_
      refine g_icmp_ge C 77 dX12_serves_54 (by decide) (fun c54 => ?_) (fun c54 => ?_)
      · have h := iteT c54 h
        exact g_sub [] rfl (Ke _ (Option.some.inj h).symm)
      · have h := iteF c54 h
        refine g_aload_n C dX12_serves_57 rfl 0 rfl ?_
        refine gM_get_bestGives C dX12_serves_58 ?_
        refine g_iload C dX12_serves_61 1 rfl ?_
        refine g_aload_n C dX12_serves_63 rfl 0 rfl ?_
        refine gM_get_gives C dX12_serves_64 ?_
        refine g_iload C dX12_serves_67 1 rfl ?_
        obtain ⟨hi69, h⟩ := grd h
        refine g_iald (n := 8) (v := g 20 x5.toNatClampNeg) C ln_20 hi69 rfl dX12_serves_69 ?_
        refine g_iast (n := 8) (q := x5.toNatClampNeg) C ln_21 hi69 rfl dX12_serves_70 ?_
        refine g_iinc (lv' := [(5, .int (x5 + (1 : Int32))), (0, .ref (ad 0))]) C dX12_serves_71 1 rfl (ii_1 _) (Nat.le_of_ble_eq_true rfl) rfl ?_
        refine g_goto (tgt := 50) C dX12_serves_74 (by decide) ?_
        exact g_sub [1, 0] rfl (Kt _ (Option.some.inj h).symm)
    · show GcM_serves l D T ad Γ o xo d xo g 77 [] []
      obtain rfl := Option.some.inj h
      exact g_vret C rfl rfl dX12_serves_77
  have J36 : ∀ (x3 : Int32) (x4 : Int32) (g : St), fM_serves_b36 rec_serves x3 x4 g = some o → GcM_serves l D T ad Γ o xo d xo g 36 [(0, .ref (ad 0)), (3, .int x3), (4, .int x4)] [] := by
    intro x3 x4 g h
    refine g_aload_n C dX12_serves_36 rfl 0 rfl ?_
    refine g_iload_n C dX12_serves_37 rfl 1 rfl ?_
    refine gM_put_mostServed C dX12_serves_38 ?_
    refine g_aload_n C dX12_serves_41 rfl 0 rfl ?_
    refine g_iload C dX12_serves_42 2 rfl ?_
    refine gM_put_mostWill C dX12_serves_44 ?_
    refine g_iconst C dX12_serves_47 ic_0 ?_
    refine g_istore (lv' := [(5, .int (0 : Int32)), (0, .ref (ad 0)), (3, .int x3), (4, .int x4)]) C dX12_serves_48 (Nat.le_of_ble_eq_true rfl) rfl ?_
    exact g_sub [1, 0] rfl (J50 (0 : Int32) (st (st g 0 41 x3) 0 42 x4) h)
  refine g_iload_n C dX12_serves_0 rfl 2 rfl ?_
  refine g_aload_n C dX12_serves_1 rfl 0 rfl ?_
  refine gM_get_told C dX12_serves_2 ?_
  refine g_iconst C dX12_serves_5 ic_0 ?_
  refine g_iald (n := 2) (v := g 4 0) C ln_4 (by decide) rfl dX12_serves_6 ?_
  refine g_icmp_ne C 78 dX12_serves_7 (by decide) (fun c7 => ?_) (fun c7 => ?_)
  · have h := iteT c7 h
    refine g_iload_n C dX12_serves_10 rfl 3 rfl ?_
    refine g_aload_n C dX12_serves_11 rfl 0 rfl ?_
    refine gM_get_mostServed (v := g 0 41) C rfl dX12_serves_12 ?_
    refine g_icmp_lt C 35 dX12_serves_15 (by decide) (fun c15 => ?_) (fun c15 => ?_)
    · have h := iteT c15 h
      obtain rfl := Option.some.inj h
      exact g_vret C rfl rfl dX12_serves_35
    · have h := iteF c15 h
      refine g_iload_n C dX12_serves_18 rfl 3 rfl ?_
      refine g_aload_n C dX12_serves_19 rfl 0 rfl ?_
      refine gM_get_mostServed (v := g 0 41) C rfl dX12_serves_20 ?_
      refine g_icmp_ne C 36 dX12_serves_23 (by decide) (fun c23 => ?_) (fun c23 => ?_)
      · have h := iteT c23 h
        refine g_iload C dX12_serves_26 4 rfl ?_
        refine g_aload_n C dX12_serves_28 rfl 0 rfl ?_
        refine gM_get_mostWill (v := g 0 42) C rfl dX12_serves_29 ?_
        refine g_icmp_gt C 36 dX12_serves_32 (by decide) (fun c32 => ?_) (fun c32 => ?_)
        · have h := iteT c32 h
          exact g_sub [0, 3, 4] rfl (J36 x3 x4 g h)
        · have h := iteF c32 h
          obtain rfl := Option.some.inj h
          exact g_vret C rfl rfl dX12_serves_35
      · have h := iteF c23 h
        exact g_sub [0, 3, 4] rfl (J36 x3 x4 g h)
  · have h := iteF c7 h
    refine g_aload_n C dX12_serves_78 rfl 0 rfl ?_
    refine gM_get_gives C dX12_serves_79 ?_
    refine g_iload_n C dX12_serves_82 rfl 2 rfl ?_
    refine g_iconst C dX12_serves_83 ic_m1 ?_
    obtain ⟨hi84, h⟩ := grd h
    refine g_iast (n := 8) (q := x2.toNatClampNeg) C ln_20 hi84 rfl dX12_serves_84 ?_
    refine g_iconst C dX12_serves_85 ic_0 ?_
    refine g_istore (lv' := [(5, .int (0 : Int32)), (0, .ref (ad 0)), (1, .int x1), (2, .int x2), (3, .int x3), (4, .int x4)]) C dX12_serves_86 (Nat.le_of_ble_eq_true rfl) rfl ?_
    exact g_sub [1, 2, 3, 4, 5, 0] rfl (J88 x1 x2 x3 x4 (0 : Int32) (st g 20 x2.toNatClampNeg (-1 : Int32)) h)
def fM_grp_serves : Nat → Int32 → Int32 → Int32 → Int32 → St → Option (St)
  | 0 => fun _ _ _ _ _ => none
  | d + 1 => fM_serves_o (fM_grp_serves d)
def fM_serves (d : Nat) : Int32 → Int32 → Int32 → Int32 → St → Option (St) := (fM_grp_serves d)
theorem cM_grp_serves (l : Launch) (D : va_G) (T : cT) (ad : Nat → Nat) : ∀ d : Nat, (∀ (xo : Sl) (g : St) (x1 : Int32) (x2 : Int32) (x3 : Int32) (x4 : Int32) (o : St), fM_serves d x1 x2 x3 x4 g = some o → ∀ sz : Nat, Met l yX12_serves wM_serves (rmR 6 139 25 d) (va_Pc [.ref (ad 0), .int x1, .int x2, .int x3, .int x4] (wPre shM D T ad xo g sz)) (va_Qv (eqV o xo) (wPost shM D T ad (aW shM T ad xo g sz)) (aW shM T ad xo g sz)) 0 0 (aW shM T ad xo g sz)) := by
  intro d
  induction d with
  | zero =>
    exact (fun _ _ _ _ _ _ _ h => nomatch h)
  | succ d ih =>
    exact (fun xo g a0 a1 a2 a3 o h sz => cM_serves_o l D T ad d _ ih xo g a0 a1 a2 a3 o h sz)
def rmM_serves : Room := rmR 6 139 25 20
theorem cM_serves (l : Launch) (D : va_G) (T : cT) (ad : Nat → Nat) (xo : Sl) (g : St) (x1 : Int32) (x2 : Int32) (x3 : Int32) (x4 : Int32) (o : St) (h : fM_serves 20 x1 x2 x3 x4 g = some o) (sz : Nat) : Met l yX12_serves wM_serves rmM_serves (va_Pc [.ref (ad 0), .int x1, .int x2, .int x3, .int x4] (wPre shM D T ad xo g sz)) (va_Qv (eqV o xo) (wPost shM D T ad (aW shM T ad xo g sz)) (aW shM T ad xo g sz)) 0 0 (aW shM T ad xo g sz) := (cM_grp_serves l D T ad 20) xo g x1 x2 x3 x4 o h sz
def fM_laysGifts_L12 (x1 : Int32) : (Int32 × St) → Option ((Int32 × St) ⊕ (St)) := fun ⟨x2, g⟩ =>
  if (8 : Int32) ≤ x2 then
    (some (.inr g))
  else
    (if ¬ (x2 < 0 ∨ 8 ≤ x2.toNatClampNeg) then (some (.inl ((x2 + (1 : Int32)), (st g 22 x2.toNatClampNeg (0 : Int32))))) else none)
def fM_laysGifts_b12 (x1 : Int32) (x2 : Int32) (g : St) : Option (St) :=
  (lp (fM_laysGifts_L12 x1) fuel (x2, g)).bind (fun g => (fM_serves 20 (x1 &&& (g 16 24)) (0 : Int32) (0 : Int32) (0 : Int32) g).bind fun g44 => (some g44))
def fM_laysGifts (x1 : Int32) (g : St) : Option (St) :=
  fM_laysGifts_b12 x1 (0 : Int32) (st (st g 0 41 (-1 : Int32)) 0 42 (-1 : Int32))
def rmM_laysGifts : Room := { frames := 27, cells := 0, slots := 0, locals := 664 }
abbrev GcM_laysGifts (l : Launch) (D : va_G) (T : cT) (ad : Nat → Nat) (Γ : Cxt) (o : St) (xo : Sl) (x : Sl) (g : St) (pc : Nat) (lv : List (Nat × Value)) (stk : List Value) : Prop := Gj l shM D T ad 3 (rmM_laysGifts) 0 0 Γ (MQ Γ.below (va_Qv (eqV o xo) (wPost shM D T ad Γ.A) Γ.A) Γ.args Γ.s 0 0 Γ.A) x g pc lv stk
set_option maxRecDepth 100000 in
set_option maxHeartbeats 4000000 in
theorem cM_laysGifts (l : Launch) (D : va_G) (T : cT) (ad : Nat → Nat) (xo : Sl) (g : St) (x1 : Int32) (o : St) (h : fM_laysGifts x1 g = some o) (sz : Nat) : Met l yX12_laysGifts wM_laysGifts (rmM_laysGifts) (va_Pc [.ref (ad 0), .int x1] (wPre shM D T ad xo g sz)) (va_Qv (eqV o xo) (wPost shM D T ad (aW shM T ad xo g sz)) (aW shM T ad xo g sz)) 0 0 (aW shM T ad xo g sz) := by
  refine g_start (Qc := fun A => va_Qv (eqV o xo) (wPost shM D T ad A) A) (by decide +kernel) rfl rfl (Nat.le_of_ble_eq_true rfl) (lv := [(0, .ref (ad 0)), (1, .int x1)]) rfl (fun Γ C => ?_)
  show GcM_laysGifts l D T ad Γ o xo xo g 0 [(0, .ref (ad 0)), (1, .int x1)] []
  have J12 : ∀ (x1 : Int32) (x2 : Int32) (g : St), fM_laysGifts_b12 x1 x2 g = some o → GcM_laysGifts l D T ad Γ o xo xo g 12 [(0, .ref (ad 0)), (1, .int x1), (2, .int x2)] [] := by
    intro x1 x2 g h
    obtain ⟨g, ht, h⟩ := bnd h
    refine lp_run (P := fun t : Int32 × St => match t with | (x2, g) => GcM_laysGifts l D T ad Γ o xo xo g 12 [(0, .ref (ad 0)), (1, .int x1), (2, .int x2)] []) (E := fun g : St => GcM_laysGifts l D T ad Γ o xo xo g 31 [(0, .ref (ad 0)), (1, .int x1)] []) ?_ _ _ _ ht ?_
    · rintro ⟨x2, g⟩ z h Kt Ke
      show GcM_laysGifts l D T ad Γ o xo xo g 12 [(0, .ref (ad 0)), (1, .int x1), (2, .int x2)] []
      refine g_iload_n C dX12_laysGifts_12 rfl 2 rfl ?_
      refine g_bipush C dX12_laysGifts_13 bp_8 ?_
      refine g_icmp_ge C 31 dX12_laysGifts_15 (by decide) (fun c15 => ?_) (fun c15 => ?_)
      · have h := iteT c15 h
        exact g_sub [0, 1] rfl (Ke _ (Option.some.inj h).symm)
      · have h := iteF c15 h
        refine g_aload_n C dX12_laysGifts_18 rfl 0 rfl ?_
        refine gM_get_times C dX12_laysGifts_19 ?_
        refine g_iload_n C dX12_laysGifts_22 rfl 2 rfl ?_
        refine g_iconst C dX12_laysGifts_23 ic_0 ?_
        obtain ⟨hi24, h⟩ := grd h
        refine g_iast (n := 8) (q := x2.toNatClampNeg) C ln_22 hi24 rfl dX12_laysGifts_24 ?_
        refine g_iinc (lv' := [(2, .int (x2 + (1 : Int32))), (0, .ref (ad 0)), (1, .int x1)]) C dX12_laysGifts_25 2 rfl (ii_1 _) (Nat.le_of_ble_eq_true rfl) rfl ?_
        refine g_goto (tgt := 12) C dX12_laysGifts_28 (by decide) ?_
        exact g_sub [1, 2, 0] rfl (Kt _ (Option.some.inj h).symm)
    · show GcM_laysGifts l D T ad Γ o xo xo g 31 [(0, .ref (ad 0)), (1, .int x1)] []
      refine g_aload_n C dX12_laysGifts_31 rfl 0 rfl ?_
      refine g_iload_n C dX12_laysGifts_32 rfl 1 rfl ?_
      refine g_aload_n C dX12_laysGifts_33 rfl 0 rfl ?_
      refine gM_get_now C dX12_laysGifts_34 ?_
      refine g_bipush C dX12_laysGifts_37 bp_24 ?_
      refine g_iald (n := 26) (v := g 16 24) C ln_16 (by decide) rfl dX12_laysGifts_39 ?_
      refine g_iand C dX12_laysGifts_40 ?_
      refine g_iconst C dX12_laysGifts_41 ic_0 ?_
      refine g_iconst C dX12_laysGifts_42 ic_0 ?_
      refine g_iconst C dX12_laysGifts_43 ic_0 ?_
      obtain ⟨g44, hr44, h⟩ := bnd h
      refine g_cVv (k := 0) (As := [.int (x1 &&& (g 16 24)), .int (0 : Int32), .int (0 : Int32), .int (0 : Int32)]) (rest := []) (go := g44) (xo := xo) C (fun sz => cM_serves l D T ad xo g (x1 &&& (g 16 24)) (0 : Int32) (0 : Int32) (0 : Int32) _ hr44 sz) kM_serves ⟨Nat.le_of_ble_eq_true rfl, Nat.le_of_ble_eq_true rfl⟩ ⟨rfl, rfl⟩ ⟨Nat.zero_le _, Nat.zero_le _⟩ (rfl : vwCl[11]? = some (RX12, TX12, 48)) kM0 rfl rfl (Nat.le_of_ble_eq_true rfl) dX12_laysGifts_44 ?_
      obtain rfl := Option.some.inj h
      exact g_vret C rfl rfl dX12_laysGifts_47
  refine g_aload_n C dX12_laysGifts_0 rfl 0 rfl ?_
  refine g_iconst C dX12_laysGifts_1 ic_m1 ?_
  refine gM_put_mostServed C dX12_laysGifts_2 ?_
  refine g_aload_n C dX12_laysGifts_5 rfl 0 rfl ?_
  refine g_iconst C dX12_laysGifts_6 ic_m1 ?_
  refine gM_put_mostWill C dX12_laysGifts_7 ?_
  refine g_iconst C dX12_laysGifts_10 ic_0 ?_
  refine g_istore_n (lv' := [(2, .int (0 : Int32)), (0, .ref (ad 0)), (1, .int x1)]) C dX12_laysGifts_11 rfl (Nat.le_of_ble_eq_true rfl) rfl ?_
  exact g_sub [1, 2, 0] rfl (J12 x1 (0 : Int32) (st (st g 0 41 (-1 : Int32)) 0 42 (-1 : Int32)) h)
def fM_served_b32 (x1 : Int32) (x2 : Int32) (s1 : Int32) (g : St) : Option (Int32 × St) :=
  (fM_bad s1 (1 : Int32) (1 : Int32) g).bind fun ⟨r34, g34⟩ => (if r34 = 0 then
    ((fM_laysGifts x1 g34).bind fun g44 => (if x2 = 0 then
    (some ((g44 0 41), g44))
  else
    (some ((g44 0 42), g44))))
  else
    (some ((0 : Int32), g34)))
def fM_served_b27 (x1 : Int32) (x2 : Int32) (g : St) : Option (Int32 × St) :=
  fM_served_b32 x1 x2 (1 : Int32) g
def fM_served (x1 : Int32) (x2 : Int32) (g : St) : Option (Int32 × St) :=
  if (fM_in x1 (0 : Int32) (fM_everybody (st g 0 0 (0 : Int32)))) = 0 then
    (fM_served_b27 x1 x2 (st g 0 0 (0 : Int32)))
  else
    (if (fM_in x2 (0 : Int32) (1 : Int32)) = 0 then
    (fM_served_b27 x1 x2 (st g 0 0 (0 : Int32)))
  else
    (fM_served_b32 x1 x2 (0 : Int32) (st g 0 0 (0 : Int32))))
def rmM_served : Room := { frames := 28, cells := 0, slots := 0, locals := 686 }
abbrev GcM_served (l : Launch) (D : va_G) (T : cT) (ad : Nat → Nat) (Γ : Cxt) (o : Int32 × St) (xo : Sl) (x : Sl) (g : St) (pc : Nat) (lv : List (Nat × Value)) (stk : List Value) : Prop := Gj l shM D T ad 3 (rmM_served) 0 0 Γ (MQ Γ.below (va_Qi (eqI o.1 o.2 xo) (wPost shM D T ad Γ.A) Γ.A) Γ.args Γ.s 0 0 Γ.A) x g pc lv stk
set_option maxRecDepth 100000 in
set_option maxHeartbeats 4000000 in
theorem cM_served (l : Launch) (D : va_G) (T : cT) (ad : Nat → Nat) (xo : Sl) (g : St) (x1 : Int32) (x2 : Int32) (o : Int32 × St) (h : fM_served x1 x2 g = some o) (sz : Nat) : Met l yX12_served wM_served (rmM_served) (va_Pc [.ref (ad 0), .int x1, .int x2] (wPre shM D T ad xo g sz)) (va_Qi (eqI o.1 o.2 xo) (wPost shM D T ad (aW shM T ad xo g sz)) (aW shM T ad xo g sz)) 0 0 (aW shM T ad xo g sz) := by
  refine g_start (Qc := fun A => va_Qi (eqI o.1 o.2 xo) (wPost shM D T ad A) A) (by decide +kernel) rfl rfl (Nat.le_of_ble_eq_true rfl) (lv := [(0, .ref (ad 0)), (1, .int x1), (2, .int x2)]) rfl (fun Γ C => ?_)
  show GcM_served l D T ad Γ o xo xo g 0 [(0, .ref (ad 0)), (1, .int x1), (2, .int x2)] []
  have J32 : ∀ (x1 : Int32) (x2 : Int32) (s1 : Int32) (g : St), fM_served_b32 x1 x2 s1 g = some o → GcM_served l D T ad Γ o xo xo g 32 [(0, .ref (ad 0)), (1, .int x1), (2, .int x2)] [.int s1, .ref (ad 0)] := by
    intro x1 x2 s1 g h
    refine g_iconst C dX12_served_32 ic_1 ?_
    refine g_iconst C dX12_served_33 ic_1 ?_
    obtain ⟨⟨r34, g34⟩, hr34, h⟩ := bnd h
    refine g_cVz (k := 0) (As := [.int s1, .int (1 : Int32), .int (1 : Int32)]) (rest := []) (ro := r34) (go := g34) (xo := xo) C (fun sz => cM_bad l D T ad xo g s1 (1 : Int32) (1 : Int32) _ hr34 sz) kM_bad ⟨Nat.le_of_ble_eq_true rfl, Nat.le_of_ble_eq_true rfl⟩ ⟨rfl, rfl⟩ ⟨Nat.zero_le _, Nat.zero_le _⟩ (rfl : vwCl[11]? = some (RX12, TX12, 48)) kM0 rfl rfl (Nat.le_of_ble_eq_true rfl) dX12_served_34 (fun hz34 => ?_)
    refine g_if_eq C 42 dX12_served_37 (by decide) (fun c37 => ?_) (fun c37 => ?_)
    · have h := iteT c37 h
      refine g_aload_n C dX12_served_42 rfl 0 rfl ?_
      refine g_iload_n C dX12_served_43 rfl 1 rfl ?_
      obtain ⟨g44, hr44, h⟩ := bnd h
      refine g_cVv (k := 0) (As := [.int x1]) (rest := []) (go := g44) (xo := xo) C (fun sz => cM_laysGifts l D T ad xo g34 x1 _ hr44 sz) kM_laysGifts ⟨Nat.le_of_ble_eq_true rfl, Nat.le_of_ble_eq_true rfl⟩ ⟨rfl, rfl⟩ ⟨Nat.zero_le _, Nat.zero_le _⟩ (rfl : vwCl[11]? = some (RX12, TX12, 48)) kM0 rfl rfl (Nat.le_of_ble_eq_true rfl) dX12_served_44 ?_
      refine g_iload_n C dX12_served_47 rfl 2 rfl ?_
      refine g_if_ne C 58 dX12_served_48 (by decide) (fun c48 => ?_) (fun c48 => ?_)
      · have h := iteT c48 h
        refine g_aload_n C dX12_served_51 rfl 0 rfl ?_
        refine gM_get_mostServed (v := g44 0 41) C rfl dX12_served_52 ?_
        refine g_goto (tgt := 62) C dX12_served_55 (by decide) ?_
        obtain rfl := Option.some.inj h
        exact g_iret C rfl rfl rfl dX12_served_62
      · have h := iteF c48 h
        refine g_aload_n C dX12_served_58 rfl 0 rfl ?_
        refine gM_get_mostWill (v := g44 0 42) C rfl dX12_served_59 ?_
        obtain rfl := Option.some.inj h
        exact g_iret C rfl rfl rfl dX12_served_62
    · have h := iteF c37 h
      refine g_iconst C dX12_served_40 ic_0 ?_
      obtain rfl := Option.some.inj h
      exact g_iret C rfl rfl rfl dX12_served_41
  have J27 : ∀ (x1 : Int32) (x2 : Int32) (g : St), fM_served_b27 x1 x2 g = some o → GcM_served l D T ad Γ o xo xo g 27 [(0, .ref (ad 0)), (1, .int x1), (2, .int x2)] [.ref (ad 0)] := by
    intro x1 x2 g h
    refine g_iconst C dX12_served_27 ic_1 ?_
    refine g_goto (tgt := 32) C dX12_served_28 (by decide) ?_
    exact J32 x1 x2 (1 : Int32) g h
  refine g_aload_n C dX12_served_0 rfl 0 rfl ?_
  refine g_iconst C dX12_served_1 ic_0 ?_
  refine gM_put_thrown C dX12_served_2 ?_
  refine g_aload_n C dX12_served_5 rfl 0 rfl ?_
  refine g_iload_n C dX12_served_6 rfl 1 rfl ?_
  refine g_iconst C dX12_served_7 ic_0 ?_
  refine g_aload_n C dX12_served_8 rfl 0 rfl ?_
  refine g_cVi (k := 0) (As := []) (rest := [.int (0 : Int32), .int x1, .ref (ad 0)]) (ro := (fM_everybody (st g 0 0 (0 : Int32)))) (go := (st g 0 0 (0 : Int32))) (xo := xo) C (fun sz => cM_everybody l D T ad xo (st g 0 0 (0 : Int32)) _ rfl sz) kM_everybody ⟨Nat.le_of_ble_eq_true rfl, Nat.le_of_ble_eq_true rfl⟩ ⟨rfl, rfl⟩ ⟨Nat.zero_le _, Nat.zero_le _⟩ (rfl : vwCl[11]? = some (RX12, TX12, 48)) kM0 rfl rfl (Nat.le_of_ble_eq_true rfl) dX12_served_9 ?_
  refine g_cSz (As := [.int x1, .int (0 : Int32), .int (fM_everybody (st g 0 0 (0 : Int32)))]) (rest := [.ref (ad 0)]) (ro := (fM_in x1 (0 : Int32) (fM_everybody (st g 0 0 (0 : Int32))))) (go := (st g 0 0 (0 : Int32))) (xo := xo) C (fun sz => cM_in l D T ad xo (st g 0 0 (0 : Int32)) x1 (0 : Int32) (fM_everybody (st g 0 0 (0 : Int32))) _ rfl sz) kM_in ⟨Nat.le_of_ble_eq_true rfl, Nat.le_of_ble_eq_true rfl⟩ ⟨rfl, rfl⟩ ⟨Nat.zero_le _, Nat.zero_le _⟩ rfl rfl (Nat.le_of_ble_eq_true rfl) dX12_served_12 (fun hz12 => ?_)
  refine g_if_eq C 27 dX12_served_15 (by decide) (fun c15 => ?_) (fun c15 => ?_)
  · have h := iteT c15 h
    exact J27 x1 x2 (st g 0 0 (0 : Int32)) h
  · have h := iteF c15 h
    refine g_iload_n C dX12_served_18 rfl 2 rfl ?_
    refine g_iconst C dX12_served_19 ic_0 ?_
    refine g_iconst C dX12_served_20 ic_1 ?_
    refine g_cSz (As := [.int x2, .int (0 : Int32), .int (1 : Int32)]) (rest := [.ref (ad 0)]) (ro := (fM_in x2 (0 : Int32) (1 : Int32))) (go := (st g 0 0 (0 : Int32))) (xo := xo) C (fun sz => cM_in l D T ad xo (st g 0 0 (0 : Int32)) x2 (0 : Int32) (1 : Int32) _ rfl sz) kM_in ⟨Nat.le_of_ble_eq_true rfl, Nat.le_of_ble_eq_true rfl⟩ ⟨rfl, rfl⟩ ⟨Nat.zero_le _, Nat.zero_le _⟩ rfl rfl (Nat.le_of_ble_eq_true rfl) dX12_served_21 (fun hz21 => ?_)
    refine g_if_ne C 31 dX12_served_24 (by decide) (fun c24 => ?_) (fun c24 => ?_)
    · have h := iteT c24 h
      exact J27 x1 x2 (st g 0 0 (0 : Int32)) h
    · have h := iteF c24 h
      refine g_iconst C dX12_served_31 ic_0 ?_
      exact J32 x1 x2 (0 : Int32) (st g 0 0 (0 : Int32)) h
def fM_giver_b45 (x1 : Int32) (x2 : Int32) (s1 : Int32) (g : St) : Option (Int32 × St) :=
  (fM_bad s1 (2 : Int32) (1 : Int32) g).bind fun ⟨r47, g47⟩ => (if r47 = 0 then
    ((fM_laysGifts x2 g47).bind fun g57 => (if ¬ (x1 < 0 ∨ 8 ≤ x1.toNatClampNeg) then (some ((g57 21 x1.toNatClampNeg), g57)) else none))
  else
    (some ((0 : Int32), g47)))
def fM_giver_b19 (x1 : Int32) (x2 : Int32) (s1 : Int32) (g : St) : Option (Int32 × St) :=
  (fM_bad s1 (1 : Int32) (0 : Int32) g).bind fun ⟨r21, g21⟩ => (if r21 = 0 then
    (if (fM_in x2 (0 : Int32) (fM_everybody g21)) = 0 then
    (fM_giver_b45 x1 x2 (1 : Int32) g21)
  else
    (fM_giver_b45 x1 x2 (0 : Int32) g21))
  else
    (some ((0 : Int32), g21)))
def fM_giver (x1 : Int32) (x2 : Int32) (g : St) : Option (Int32 × St) :=
  if (fM_isPerson x1 (st g 0 0 (0 : Int32))) = 0 then
    (fM_giver_b19 x1 x2 (1 : Int32) (st g 0 0 (0 : Int32)))
  else
    (fM_giver_b19 x1 x2 (0 : Int32) (st g 0 0 (0 : Int32)))
def rmM_giver : Room := { frames := 28, cells := 0, slots := 0, locals := 686 }
abbrev GcM_giver (l : Launch) (D : va_G) (T : cT) (ad : Nat → Nat) (Γ : Cxt) (o : Int32 × St) (xo : Sl) (x : Sl) (g : St) (pc : Nat) (lv : List (Nat × Value)) (stk : List Value) : Prop := Gj l shM D T ad 3 (rmM_giver) 0 0 Γ (MQ Γ.below (va_Qi (eqI o.1 o.2 xo) (wPost shM D T ad Γ.A) Γ.A) Γ.args Γ.s 0 0 Γ.A) x g pc lv stk
set_option maxRecDepth 100000 in
set_option maxHeartbeats 4000000 in
theorem cM_giver (l : Launch) (D : va_G) (T : cT) (ad : Nat → Nat) (xo : Sl) (g : St) (x1 : Int32) (x2 : Int32) (o : Int32 × St) (h : fM_giver x1 x2 g = some o) (sz : Nat) : Met l yX12_giver wM_giver (rmM_giver) (va_Pc [.ref (ad 0), .int x1, .int x2] (wPre shM D T ad xo g sz)) (va_Qi (eqI o.1 o.2 xo) (wPost shM D T ad (aW shM T ad xo g sz)) (aW shM T ad xo g sz)) 0 0 (aW shM T ad xo g sz) := by
  refine g_start (Qc := fun A => va_Qi (eqI o.1 o.2 xo) (wPost shM D T ad A) A) (by decide +kernel) rfl rfl (Nat.le_of_ble_eq_true rfl) (lv := [(0, .ref (ad 0)), (1, .int x1), (2, .int x2)]) rfl (fun Γ C => ?_)
  show GcM_giver l D T ad Γ o xo xo g 0 [(0, .ref (ad 0)), (1, .int x1), (2, .int x2)] []
  have J45 : ∀ (x1 : Int32) (x2 : Int32) (s1 : Int32) (g : St), fM_giver_b45 x1 x2 s1 g = some o → GcM_giver l D T ad Γ o xo xo g 45 [(0, .ref (ad 0)), (1, .int x1), (2, .int x2)] [.int s1, .ref (ad 0)] := by
    intro x1 x2 s1 g h
    refine g_iconst C dX12_giver_45 ic_2 ?_
    refine g_iconst C dX12_giver_46 ic_1 ?_
    obtain ⟨⟨r47, g47⟩, hr47, h⟩ := bnd h
    refine g_cVz (k := 0) (As := [.int s1, .int (2 : Int32), .int (1 : Int32)]) (rest := []) (ro := r47) (go := g47) (xo := xo) C (fun sz => cM_bad l D T ad xo g s1 (2 : Int32) (1 : Int32) _ hr47 sz) kM_bad ⟨Nat.le_of_ble_eq_true rfl, Nat.le_of_ble_eq_true rfl⟩ ⟨rfl, rfl⟩ ⟨Nat.zero_le _, Nat.zero_le _⟩ (rfl : vwCl[11]? = some (RX12, TX12, 48)) kM0 rfl rfl (Nat.le_of_ble_eq_true rfl) dX12_giver_47 (fun hz47 => ?_)
    refine g_if_eq C 55 dX12_giver_50 (by decide) (fun c50 => ?_) (fun c50 => ?_)
    · have h := iteT c50 h
      refine g_aload_n C dX12_giver_55 rfl 0 rfl ?_
      refine g_iload_n C dX12_giver_56 rfl 2 rfl ?_
      obtain ⟨g57, hr57, h⟩ := bnd h
      refine g_cVv (k := 0) (As := [.int x2]) (rest := []) (go := g57) (xo := xo) C (fun sz => cM_laysGifts l D T ad xo g47 x2 _ hr57 sz) kM_laysGifts ⟨Nat.le_of_ble_eq_true rfl, Nat.le_of_ble_eq_true rfl⟩ ⟨rfl, rfl⟩ ⟨Nat.zero_le _, Nat.zero_le _⟩ (rfl : vwCl[11]? = some (RX12, TX12, 48)) kM0 rfl rfl (Nat.le_of_ble_eq_true rfl) dX12_giver_57 ?_
      refine g_aload_n C dX12_giver_60 rfl 0 rfl ?_
      refine gM_get_bestGives C dX12_giver_61 ?_
      refine g_iload_n C dX12_giver_64 rfl 1 rfl ?_
      obtain ⟨hi65, h⟩ := grd h
      refine g_iald (n := 8) (v := g57 21 x1.toNatClampNeg) C ln_21 hi65 rfl dX12_giver_65 ?_
      obtain rfl := Option.some.inj h
      exact g_iret C rfl rfl rfl dX12_giver_66
    · have h := iteF c50 h
      refine g_iconst C dX12_giver_53 ic_0 ?_
      obtain rfl := Option.some.inj h
      exact g_iret C rfl rfl rfl dX12_giver_54
  have J19 : ∀ (x1 : Int32) (x2 : Int32) (s1 : Int32) (g : St), fM_giver_b19 x1 x2 s1 g = some o → GcM_giver l D T ad Γ o xo xo g 19 [(0, .ref (ad 0)), (1, .int x1), (2, .int x2)] [.int s1, .ref (ad 0)] := by
    intro x1 x2 s1 g h
    refine g_iconst C dX12_giver_19 ic_1 ?_
    refine g_iconst C dX12_giver_20 ic_0 ?_
    obtain ⟨⟨r21, g21⟩, hr21, h⟩ := bnd h
    refine g_cVz (k := 0) (As := [.int s1, .int (1 : Int32), .int (0 : Int32)]) (rest := []) (ro := r21) (go := g21) (xo := xo) C (fun sz => cM_bad l D T ad xo g s1 (1 : Int32) (0 : Int32) _ hr21 sz) kM_bad ⟨Nat.le_of_ble_eq_true rfl, Nat.le_of_ble_eq_true rfl⟩ ⟨rfl, rfl⟩ ⟨Nat.zero_le _, Nat.zero_le _⟩ (rfl : vwCl[11]? = some (RX12, TX12, 48)) kM0 rfl rfl (Nat.le_of_ble_eq_true rfl) dX12_giver_21 (fun hz21 => ?_)
    refine g_if_ne C 53 dX12_giver_24 (by decide) (fun c24 => ?_) (fun c24 => ?_)
    · have h := iteT c24 h
      refine g_aload_n C dX12_giver_27 rfl 0 rfl ?_
      refine g_iload_n C dX12_giver_28 rfl 2 rfl ?_
      refine g_iconst C dX12_giver_29 ic_0 ?_
      refine g_aload_n C dX12_giver_30 rfl 0 rfl ?_
      refine g_cVi (k := 0) (As := []) (rest := [.int (0 : Int32), .int x2, .ref (ad 0)]) (ro := (fM_everybody g21)) (go := g21) (xo := xo) C (fun sz => cM_everybody l D T ad xo g21 _ rfl sz) kM_everybody ⟨Nat.le_of_ble_eq_true rfl, Nat.le_of_ble_eq_true rfl⟩ ⟨rfl, rfl⟩ ⟨Nat.zero_le _, Nat.zero_le _⟩ (rfl : vwCl[11]? = some (RX12, TX12, 48)) kM0 rfl rfl (Nat.le_of_ble_eq_true rfl) dX12_giver_31 ?_
      refine g_cSz (As := [.int x2, .int (0 : Int32), .int (fM_everybody g21)]) (rest := [.ref (ad 0)]) (ro := (fM_in x2 (0 : Int32) (fM_everybody g21))) (go := g21) (xo := xo) C (fun sz => cM_in l D T ad xo g21 x2 (0 : Int32) (fM_everybody g21) _ rfl sz) kM_in ⟨Nat.le_of_ble_eq_true rfl, Nat.le_of_ble_eq_true rfl⟩ ⟨rfl, rfl⟩ ⟨Nat.zero_le _, Nat.zero_le _⟩ rfl rfl (Nat.le_of_ble_eq_true rfl) dX12_giver_34 (fun hz34 => ?_)
      refine g_if_ne C 44 dX12_giver_37 (by decide) (fun c37 => ?_) (fun c37 => ?_)
      · have h := iteT c37 h
        refine g_iconst C dX12_giver_40 ic_1 ?_
        refine g_goto (tgt := 45) C dX12_giver_41 (by decide) ?_
        exact J45 x1 x2 (1 : Int32) g21 h
      · have h := iteF c37 h
        refine g_iconst C dX12_giver_44 ic_0 ?_
        exact J45 x1 x2 (0 : Int32) g21 h
    · have h := iteF c24 h
      refine g_iconst C dX12_giver_53 ic_0 ?_
      obtain rfl := Option.some.inj h
      exact g_iret C rfl rfl rfl dX12_giver_54
  refine g_aload_n C dX12_giver_0 rfl 0 rfl ?_
  refine g_iconst C dX12_giver_1 ic_0 ?_
  refine gM_put_thrown C dX12_giver_2 ?_
  refine g_aload_n C dX12_giver_5 rfl 0 rfl ?_
  refine g_aload_n C dX12_giver_6 rfl 0 rfl ?_
  refine g_iload_n C dX12_giver_7 rfl 1 rfl ?_
  refine g_cVz (k := 0) (As := [.int x1]) (rest := [.ref (ad 0)]) (ro := (fM_isPerson x1 (st g 0 0 (0 : Int32)))) (go := (st g 0 0 (0 : Int32))) (xo := xo) C (fun sz => cM_isPerson l D T ad xo (st g 0 0 (0 : Int32)) x1 _ rfl sz) kM_isPerson ⟨Nat.le_of_ble_eq_true rfl, Nat.le_of_ble_eq_true rfl⟩ ⟨rfl, rfl⟩ ⟨Nat.zero_le _, Nat.zero_le _⟩ (rfl : vwCl[11]? = some (RX12, TX12, 48)) kM0 rfl rfl (Nat.le_of_ble_eq_true rfl) dX12_giver_8 (fun hz8 => ?_)
  refine g_if_ne C 18 dX12_giver_11 (by decide) (fun c11 => ?_) (fun c11 => ?_)
  · have h := iteT c11 h
    refine g_iconst C dX12_giver_14 ic_1 ?_
    refine g_goto (tgt := 19) C dX12_giver_15 (by decide) ?_
    exact J19 x1 x2 (1 : Int32) (st g 0 0 (0 : Int32)) h
  · have h := iteF c11 h
    refine g_iconst C dX12_giver_18 ic_0 ?_
    exact J19 x1 x2 (0 : Int32) (st g 0 0 (0 : Int32)) h
def fM_isOrder (x1 : Int32) (g : St) : Option (Int32) :=
  if (fM_in x1 (0 : Int32) (fM_everybody g)) = 0 then
    (some (0 : Int32))
  else
    ((fM_ones (x1 &&& (g 16 24))).bind fun r21 => (if (5 : Int32) < r21 then
    (some (0 : Int32))
  else
    (some (1 : Int32))))
def rmM_isOrder : Room := { frames := 1, cells := 0, slots := 0, locals := 22 }
abbrev GcM_isOrder (l : Launch) (D : va_G) (T : cT) (ad : Nat → Nat) (Γ : Cxt) (o : Int32) (xo : Sl) (g0 : St) (x : Sl) (g : St) (pc : Nat) (lv : List (Nat × Value)) (stk : List Value) : Prop := Gj l shM D T ad 2 (rmM_isOrder) 0 0 Γ (MQ Γ.below (va_Qi (eqZ o g0 xo) (wPost shM D T ad Γ.A) Γ.A) Γ.args Γ.s 0 0 Γ.A) x g pc lv stk
set_option maxRecDepth 100000 in
set_option maxHeartbeats 4000000 in
theorem cM_isOrder (l : Launch) (D : va_G) (T : cT) (ad : Nat → Nat) (xo : Sl) (g : St) (x1 : Int32) (o : Int32) (h : fM_isOrder x1 g = some o) (sz : Nat) : Met l yX12_isOrder wM_isOrder (rmM_isOrder) (va_Pc [.ref (ad 0), .int x1] (wPre shM D T ad xo g sz)) (va_Qi (eqZ o g xo) (wPost shM D T ad (aW shM T ad xo g sz)) (aW shM T ad xo g sz)) 0 0 (aW shM T ad xo g sz) := by
  refine g_start (Qc := fun A => va_Qi (eqZ o g xo) (wPost shM D T ad A) A) (by decide +kernel) rfl rfl (Nat.le_of_ble_eq_true rfl) (lv := [(0, .ref (ad 0)), (1, .int x1)]) rfl (fun Γ C => ?_)
  show GcM_isOrder l D T ad Γ o xo g xo g 0 [(0, .ref (ad 0)), (1, .int x1)] []
  refine g_iload_n C dX12_isOrder_0 rfl 1 rfl ?_
  refine g_iconst C dX12_isOrder_1 ic_0 ?_
  refine g_aload_n C dX12_isOrder_2 rfl 0 rfl ?_
  refine g_cVi (k := 0) (As := []) (rest := [.int (0 : Int32), .int x1]) (ro := (fM_everybody g)) (go := g) (xo := xo) C (fun sz => cM_everybody l D T ad xo g _ rfl sz) kM_everybody ⟨Nat.le_of_ble_eq_true rfl, Nat.le_of_ble_eq_true rfl⟩ ⟨rfl, rfl⟩ ⟨Nat.zero_le _, Nat.zero_le _⟩ (rfl : vwCl[11]? = some (RX12, TX12, 48)) kM0 rfl rfl (Nat.le_of_ble_eq_true rfl) dX12_isOrder_3 ?_
  refine g_cSz (As := [.int x1, .int (0 : Int32), .int (fM_everybody g)]) (rest := []) (ro := (fM_in x1 (0 : Int32) (fM_everybody g))) (go := g) (xo := xo) C (fun sz => cM_in l D T ad xo g x1 (0 : Int32) (fM_everybody g) _ rfl sz) kM_in ⟨Nat.le_of_ble_eq_true rfl, Nat.le_of_ble_eq_true rfl⟩ ⟨rfl, rfl⟩ ⟨Nat.zero_le _, Nat.zero_le _⟩ rfl rfl (Nat.le_of_ble_eq_true rfl) dX12_isOrder_6 (fun hz6 => ?_)
  refine g_if_eq C 32 dX12_isOrder_9 (by decide) (fun c9 => ?_) (fun c9 => ?_)
  · have h := iteT c9 h
    refine g_iconst C dX12_isOrder_32 ic_0 ?_
    obtain rfl := Option.some.inj h
    exact g_zret C rfl rfl rfl rfl dX12_isOrder_33
  · have h := iteF c9 h
    refine g_iload_n C dX12_isOrder_12 rfl 1 rfl ?_
    refine g_aload_n C dX12_isOrder_13 rfl 0 rfl ?_
    refine gM_get_now C dX12_isOrder_14 ?_
    refine g_bipush C dX12_isOrder_17 bp_24 ?_
    refine g_iald (n := 26) (v := g 16 24) C ln_16 (by decide) rfl dX12_isOrder_19 ?_
    refine g_iand C dX12_isOrder_20 ?_
    obtain ⟨r21, hr21, h⟩ := bnd h
    refine g_cSi (As := [.int (x1 &&& (g 16 24))]) (rest := []) (ro := r21) (go := g) (xo := xo) C (fun sz => cM_ones l D T ad xo g (x1 &&& (g 16 24)) _ hr21 sz) kM_ones ⟨Nat.le_of_ble_eq_true rfl, Nat.le_of_ble_eq_true rfl⟩ ⟨rfl, rfl⟩ ⟨Nat.zero_le _, Nat.zero_le _⟩ rfl rfl (Nat.le_of_ble_eq_true rfl) dX12_isOrder_21 ?_
    refine g_iconst C dX12_isOrder_24 ic_5 ?_
    refine g_icmp_gt C 32 dX12_isOrder_25 (by decide) (fun c25 => ?_) (fun c25 => ?_)
    · have h := iteT c25 h
      refine g_iconst C dX12_isOrder_32 ic_0 ?_
      obtain rfl := Option.some.inj h
      exact g_zret C rfl rfl rfl rfl dX12_isOrder_33
    · have h := iteF c25 h
      refine g_iconst C dX12_isOrder_28 ic_1 ?_
      refine g_goto (tgt := 33) C dX12_isOrder_29 (by decide) ?_
      obtain rfl := Option.some.inj h
      exact g_zret C rfl rfl rfl rfl dX12_isOrder_33
def fM_firstOrder_b56 (x1 : Int32) (x2 : Int32) (g : St) : Option ((Int32 × St) ⊕ (St)) :=
  some (.inl ((x2 + (1 : Int32)), g))
def fM_firstOrder_L7 (x1 : Int32) : (Int32 × St) → Option ((Int32 × St) ⊕ (St)) := fun ⟨x2, g⟩ =>
  if (g 4 0) ≤ x2 then
    (some (.inr g))
  else
    (if (fM_has (x1 &&& (g 16 24)) x2) = 0 then
    (fM_firstOrder_b56 x1 x2 g)
  else
    (if ¬ ((g 0 45) < 0 ∨ 8 ≤ (g 0 45).toNatClampNeg) then (fM_firstOrder_b56 x1 x2 (st (st g 23 ((g 0 45).toNatClampNeg) x2) 0 45 ((g 0 45) + (1 : Int32)))) else none))
def fM_firstOrder_b7 (x1 : Int32) (x2 : Int32) (g : St) : Option (St) :=
  (lp (fM_firstOrder_L7 x1) fuel (x2, g)).bind (fun g => some g)
def fM_firstOrder (x1 : Int32) (g : St) : Option (St) :=
  fM_firstOrder_b7 x1 (0 : Int32) (st g 0 45 (0 : Int32))
def rmM_firstOrder : Room := { frames := 1, cells := 0, slots := 0, locals := 21 }
abbrev GcM_firstOrder (l : Launch) (D : va_G) (T : cT) (ad : Nat → Nat) (Γ : Cxt) (o : St) (xo : Sl) (x : Sl) (g : St) (pc : Nat) (lv : List (Nat × Value)) (stk : List Value) : Prop := Gj l shM D T ad 3 (rmM_firstOrder) 0 0 Γ (MQ Γ.below (va_Qv (eqV o xo) (wPost shM D T ad Γ.A) Γ.A) Γ.args Γ.s 0 0 Γ.A) x g pc lv stk
set_option maxRecDepth 100000 in
set_option maxHeartbeats 4000000 in
theorem cM_firstOrder (l : Launch) (D : va_G) (T : cT) (ad : Nat → Nat) (xo : Sl) (g : St) (x1 : Int32) (o : St) (h : fM_firstOrder x1 g = some o) (sz : Nat) : Met l yX12_firstOrder wM_firstOrder (rmM_firstOrder) (va_Pc [.ref (ad 0), .int x1] (wPre shM D T ad xo g sz)) (va_Qv (eqV o xo) (wPost shM D T ad (aW shM T ad xo g sz)) (aW shM T ad xo g sz)) 0 0 (aW shM T ad xo g sz) := by
  refine g_start (Qc := fun A => va_Qv (eqV o xo) (wPost shM D T ad A) A) (by decide +kernel) rfl rfl (Nat.le_of_ble_eq_true rfl) (lv := [(0, .ref (ad 0)), (1, .int x1)]) rfl (fun Γ C => ?_)
  show GcM_firstOrder l D T ad Γ o xo xo g 0 [(0, .ref (ad 0)), (1, .int x1)] []
  have J7 : ∀ (x1 : Int32) (x2 : Int32) (g : St), fM_firstOrder_b7 x1 x2 g = some o → GcM_firstOrder l D T ad Γ o xo xo g 7 [(0, .ref (ad 0)), (1, .int x1), (2, .int x2)] [] := by
    intro x1 x2 g h
    obtain ⟨g, ht, h⟩ := bnd h
    refine lp_run (P := fun t : Int32 × St => match t with | (x2, g) => GcM_firstOrder l D T ad Γ o xo xo g 7 [(0, .ref (ad 0)), (1, .int x1), (2, .int x2)] []) (E := fun g : St => GcM_firstOrder l D T ad Γ o xo xo g 62 [] []) ?_ _ _ _ ht ?_
    · rintro ⟨x2, g⟩ z h Kt Ke
      show GcM_firstOrder l D T ad Γ o xo xo g 7 [(0, .ref (ad 0)), (1, .int x1), (2, .int x2)] []
      have J56 : ∀ (x2 : Int32) (g : St), fM_firstOrder_b56 x1 x2 g = some z → GcM_firstOrder l D T ad Γ o xo xo g 56 [(0, .ref (ad 0)), (1, .int x1), (2, .int x2)] [] := by
        intro x2 g h
        refine g_iinc (lv' := [(2, .int (x2 + (1 : Int32))), (0, .ref (ad 0)), (1, .int x1)]) C dX12_firstOrder_56 2 rfl (ii_1 _) (Nat.le_of_ble_eq_true rfl) rfl ?_
        refine g_goto (tgt := 7) C dX12_firstOrder_59 (by decide) ?_
        exact g_sub [1, 2, 0] rfl (Kt _ (Option.some.inj h).symm)
      refine g_iload_n C dX12_firstOrder_7 rfl 2 rfl ?_
      refine g_aload_n C dX12_firstOrder_8 rfl 0 rfl ?_
      refine gM_get_told C dX12_firstOrder_9 ?_
      refine g_iconst C dX12_firstOrder_12 ic_0 ?_
      refine g_iald (n := 2) (v := g 4 0) C ln_4 (by decide) rfl dX12_firstOrder_13 ?_
      refine g_icmp_ge C 62 dX12_firstOrder_14 (by decide) (fun c14 => ?_) (fun c14 => ?_)
      · have h := iteT c14 h
        exact g_sub [] rfl (Ke _ (Option.some.inj h).symm)
      · have h := iteF c14 h
        refine g_iload_n C dX12_firstOrder_17 rfl 1 rfl ?_
        refine g_aload_n C dX12_firstOrder_18 rfl 0 rfl ?_
        refine gM_get_now C dX12_firstOrder_19 ?_
        refine g_bipush C dX12_firstOrder_22 bp_24 ?_
        refine g_iald (n := 26) (v := g 16 24) C ln_16 (by decide) rfl dX12_firstOrder_24 ?_
        refine g_iand C dX12_firstOrder_25 ?_
        refine g_iload_n C dX12_firstOrder_26 rfl 2 rfl ?_
        refine g_cSz (As := [.int (x1 &&& (g 16 24)), .int x2]) (rest := []) (ro := (fM_has (x1 &&& (g 16 24)) x2)) (go := g) (xo := xo) C (fun sz => cM_has l D T ad xo g (x1 &&& (g 16 24)) x2 _ rfl sz) kM_has ⟨Nat.le_of_ble_eq_true rfl, Nat.le_of_ble_eq_true rfl⟩ ⟨rfl, rfl⟩ ⟨Nat.zero_le _, Nat.zero_le _⟩ rfl rfl (Nat.le_of_ble_eq_true rfl) dX12_firstOrder_27 (fun hz27 => ?_)
        refine g_if_ne C 36 dX12_firstOrder_30 (by decide) (fun c30 => ?_) (fun c30 => ?_)
        · have h := iteT c30 h
          refine g_goto (tgt := 56) C dX12_firstOrder_33 (by decide) ?_
          exact J56 x2 g h
        · have h := iteF c30 h
          refine g_aload_n C dX12_firstOrder_36 rfl 0 rfl ?_
          refine gM_get_order C dX12_firstOrder_37 ?_
          refine g_aload_n C dX12_firstOrder_40 rfl 0 rfl ?_
          refine gM_get_dying (v := g 0 45) C rfl dX12_firstOrder_41 ?_
          refine g_iload_n C dX12_firstOrder_44 rfl 2 rfl ?_
          obtain ⟨hi45, h⟩ := grd h
          refine g_iast (n := 8) (q := (g 0 45).toNatClampNeg) C ln_23 hi45 rfl dX12_firstOrder_45 ?_
          refine g_aload_n C dX12_firstOrder_46 rfl 0 rfl ?_
          refine g_dup C dX12_firstOrder_47 rfl ?_
          refine gM_get_dying (v := g 0 45) C rfl dX12_firstOrder_48 ?_
          refine g_iconst C dX12_firstOrder_51 ic_1 ?_
          refine g_iadd C dX12_firstOrder_52 ?_
          refine gM_put_dying C dX12_firstOrder_53 ?_
          exact J56 x2 (st (st g 23 ((g 0 45).toNatClampNeg) x2) 0 45 ((g 0 45) + (1 : Int32))) h
    · show GcM_firstOrder l D T ad Γ o xo xo g 62 [] []
      obtain rfl := Option.some.inj h
      exact g_vret C rfl rfl dX12_firstOrder_62
  refine g_aload_n C dX12_firstOrder_0 rfl 0 rfl ?_
  refine g_iconst C dX12_firstOrder_1 ic_0 ?_
  refine gM_put_dying C dX12_firstOrder_2 ?_
  refine g_iconst C dX12_firstOrder_5 ic_0 ?_
  refine g_istore_n (lv' := [(2, .int (0 : Int32)), (0, .ref (ad 0)), (1, .int x1)]) C dX12_firstOrder_6 rfl (Nat.le_of_ble_eq_true rfl) rfl ?_
  exact g_sub [1, 2, 0] rfl (J7 x1 (0 : Int32) (st g 0 45 (0 : Int32)) h)
def fM_swaps (x1 : Int32) (x2 : Int32) (g : St) : Option (St) :=
  if ¬ (x1 < 0 ∨ 8 ≤ x1.toNatClampNeg) then (if ¬ (x2 < 0 ∨ 8 ≤ x2.toNatClampNeg) then (some (st (st g 23 x1.toNatClampNeg (g 23 x2.toNatClampNeg)) 23 x2.toNatClampNeg (g 23 x1.toNatClampNeg))) else none) else none
def rmM_swaps : Room := { frames := 0, cells := 0, slots := 0, locals := 0 }
abbrev GcM_swaps (l : Launch) (D : va_G) (T : cT) (ad : Nat → Nat) (Γ : Cxt) (o : St) (xo : Sl) (x : Sl) (g : St) (pc : Nat) (lv : List (Nat × Value)) (stk : List Value) : Prop := Gj l shM D T ad 4 (rmM_swaps) 0 0 Γ (MQ Γ.below (va_Qv (eqV o xo) (wPost shM D T ad Γ.A) Γ.A) Γ.args Γ.s 0 0 Γ.A) x g pc lv stk
set_option maxRecDepth 100000 in
set_option maxHeartbeats 4000000 in
theorem cM_swaps (l : Launch) (D : va_G) (T : cT) (ad : Nat → Nat) (xo : Sl) (g : St) (x1 : Int32) (x2 : Int32) (o : St) (h : fM_swaps x1 x2 g = some o) (sz : Nat) : Met l yX12_swaps wM_swaps (rmM_swaps) (va_Pc [.ref (ad 0), .int x1, .int x2] (wPre shM D T ad xo g sz)) (va_Qv (eqV o xo) (wPost shM D T ad (aW shM T ad xo g sz)) (aW shM T ad xo g sz)) 0 0 (aW shM T ad xo g sz) := by
  refine g_start (Qc := fun A => va_Qv (eqV o xo) (wPost shM D T ad A) A) (by decide +kernel) rfl rfl (Nat.le_of_ble_eq_true rfl) (lv := [(0, .ref (ad 0)), (1, .int x1), (2, .int x2)]) rfl (fun Γ C => ?_)
  show GcM_swaps l D T ad Γ o xo xo g 0 [(0, .ref (ad 0)), (1, .int x1), (2, .int x2)] []
  refine g_aload_n C dX12_swaps_0 rfl 0 rfl ?_
  refine gM_get_order C dX12_swaps_1 ?_
  refine g_iload_n C dX12_swaps_4 rfl 1 rfl ?_
  obtain ⟨hi5, h⟩ := grd h
  refine g_iald (n := 8) (v := g 23 x1.toNatClampNeg) C ln_23 hi5 rfl dX12_swaps_5 ?_
  refine g_istore_n (lv' := [(3, .int (g 23 x1.toNatClampNeg)), (0, .ref (ad 0)), (1, .int x1), (2, .int x2)]) C dX12_swaps_6 rfl (Nat.le_of_ble_eq_true rfl) rfl ?_
  refine g_aload_n C dX12_swaps_7 rfl 1 rfl ?_
  refine gM_get_order C dX12_swaps_8 ?_
  refine g_iload_n C dX12_swaps_11 rfl 2 rfl ?_
  refine g_aload_n C dX12_swaps_12 rfl 1 rfl ?_
  refine gM_get_order C dX12_swaps_13 ?_
  refine g_iload_n C dX12_swaps_16 rfl 3 rfl ?_
  obtain ⟨hi17, h⟩ := grd h
  refine g_iald (n := 8) (v := g 23 x2.toNatClampNeg) C ln_23 hi17 rfl dX12_swaps_17 ?_
  refine g_iast (n := 8) (q := x1.toNatClampNeg) C ln_23 hi5 rfl dX12_swaps_18 ?_
  refine g_aload_n C dX12_swaps_19 rfl 1 rfl ?_
  refine gM_get_order C dX12_swaps_20 ?_
  refine g_iload_n C dX12_swaps_23 rfl 3 rfl ?_
  refine g_iload_n C dX12_swaps_24 rfl 0 rfl ?_
  refine g_iast (n := 8) (q := x2.toNatClampNeg) C ln_23 hi17 rfl dX12_swaps_25 ?_
  obtain rfl := Option.some.inj h
  exact g_vret C rfl rfl dX12_swaps_26
def fM_nextOrder_L86 : (Int32 × Int32 × St) → Option ((Int32 × Int32 × St) ⊕ (St)) := fun ⟨x3, x4, g⟩ =>
  if x4 ≤ x3 then
    (some (.inr g))
  else
    ((fM_swaps x3 x4 g).bind fun g96 => (some (.inl ((x3 + (1 : Int32)), (x4 + (-1 : Int32)), g96))))
def fM_nextOrder_b86 (x3 : Int32) (x4 : Int32) (g : St) : Option (Int32 × St) :=
  (lp (fM_nextOrder_L86) fuel (x3, x4, g)).bind (fun g => some ((1 : Int32), g))
def fM_nextOrder_L47 (x1 : Int32) (g : St) : Int32 → Option ((Int32) ⊕ (Int32)) := fun x2 =>
  if ¬ (x2 < 0 ∨ 8 ≤ x2.toNatClampNeg) then (if ¬ (x1 < 0 ∨ 8 ≤ x1.toNatClampNeg) then (if (g 23 x1.toNatClampNeg) ≤ (g 23 x2.toNatClampNeg) then
    (some (.inr x2))
  else
    (some (.inl (x2 + (-1 : Int32))))) else none) else none
def fM_nextOrder_b47 (x1 : Int32) (x2 : Int32) (g : St) : Option (Int32 × St) :=
  (lp (fM_nextOrder_L47 x1 g) fuel x2).bind (fun x2 => (fM_swaps x1 x2 g).bind fun g71 => (fM_nextOrder_b86 (x1 + (1 : Int32)) ((g71 0 45) - (1 : Int32)) g71))
def fM_nextOrder_L7 (g : St) : Int32 → Option ((Int32) ⊕ (Int32)) := fun x1 =>
  if x1 < 0 then
    (some (.inr x1))
  else
    (if ¬ (x1 < 0 ∨ 8 ≤ x1.toNatClampNeg) then (if ¬ ((x1 + (1 : Int32)) < 0 ∨ 8 ≤ (x1 + (1 : Int32)).toNatClampNeg) then (if (g 23 x1.toNatClampNeg) ≤ (g 23 ((x1 + (1 : Int32)).toNatClampNeg)) then
    (some (.inr x1))
  else
    (some (.inl (x1 + (-1 : Int32))))) else none) else none)
def fM_nextOrder_b7 (x1 : Int32) (g : St) : Option (Int32 × St) :=
  (lp (fM_nextOrder_L7 g) fuel x1).bind (fun x1 => if 0 ≤ x1 then
    (fM_nextOrder_b47 x1 ((g 0 45) - (1 : Int32)) g)
  else
    (some ((0 : Int32), g)))
def fM_nextOrder (g : St) : Option (Int32 × St) :=
  fM_nextOrder_b7 ((g 0 45) - (2 : Int32)) g
def rmM_nextOrder : Room := { frames := 1, cells := 0, slots := 0, locals := 23 }
abbrev GcM_nextOrder (l : Launch) (D : va_G) (T : cT) (ad : Nat → Nat) (Γ : Cxt) (o : Int32 × St) (xo : Sl) (x : Sl) (g : St) (pc : Nat) (lv : List (Nat × Value)) (stk : List Value) : Prop := Gj l shM D T ad 5 (rmM_nextOrder) 0 0 Γ (MQ Γ.below (va_Qi (eqZ o.1 o.2 xo) (wPost shM D T ad Γ.A) Γ.A) Γ.args Γ.s 0 0 Γ.A) x g pc lv stk
set_option maxRecDepth 100000 in
set_option maxHeartbeats 4000000 in
theorem cM_nextOrder (l : Launch) (D : va_G) (T : cT) (ad : Nat → Nat) (xo : Sl) (g : St) (o : Int32 × St) (h : fM_nextOrder g = some o) (sz : Nat) : Met l yX12_nextOrder wM_nextOrder (rmM_nextOrder) (va_Pc [.ref (ad 0)] (wPre shM D T ad xo g sz)) (va_Qi (eqZ o.1 o.2 xo) (wPost shM D T ad (aW shM T ad xo g sz)) (aW shM T ad xo g sz)) 0 0 (aW shM T ad xo g sz) := by
  refine g_start (Qc := fun A => va_Qi (eqZ o.1 o.2 xo) (wPost shM D T ad A) A) (by decide +kernel) rfl rfl (Nat.le_of_ble_eq_true rfl) (lv := [(0, .ref (ad 0))]) rfl (fun Γ C => ?_)
  show GcM_nextOrder l D T ad Γ o xo xo g 0 [(0, .ref (ad 0))] []
  have J86 : ∀ (x3 : Int32) (x4 : Int32) (g : St), fM_nextOrder_b86 x3 x4 g = some o → GcM_nextOrder l D T ad Γ o xo xo g 86 [(0, .ref (ad 0)), (3, .int x3), (4, .int x4)] [] := by
    intro x3 x4 g h
    obtain ⟨g, ht, h⟩ := bnd h
    refine lp_run (P := fun t : Int32 × Int32 × St => match t with | (x3, x4, g) => GcM_nextOrder l D T ad Γ o xo xo g 86 [(0, .ref (ad 0)), (3, .int x3), (4, .int x4)] []) (E := fun g : St => GcM_nextOrder l D T ad Γ o xo xo g 108 [] []) ?_ _ _ _ ht ?_
    · rintro ⟨x3, x4, g⟩ z h Kt Ke
      show GcM_nextOrder l D T ad Γ o xo xo g 86 [(0, .ref (ad 0)), (3, .int x3), (4, .int x4)] []
      refine g_iload_n C dX12_nextOrder_86 rfl 1 rfl ?_
      refine g_iload C dX12_nextOrder_87 2 rfl ?_
      refine g_icmp_ge C 108 dX12_nextOrder_89 (by decide) (fun c89 => ?_) (fun c89 => ?_)
      · have h := iteT c89 h
        exact g_sub [] rfl (Ke _ (Option.some.inj h).symm)
      · have h := iteF c89 h
        refine g_aload_n C dX12_nextOrder_92 rfl 0 rfl ?_
        refine g_iload_n C dX12_nextOrder_93 rfl 1 rfl ?_
        refine g_iload C dX12_nextOrder_94 2 rfl ?_
        obtain ⟨g96, hr96, h⟩ := bnd h
        refine g_cVv (k := 0) (As := [.int x3, .int x4]) (rest := []) (go := g96) (xo := xo) C (fun sz => cM_swaps l D T ad xo g x3 x4 _ hr96 sz) kM_swaps ⟨Nat.le_of_ble_eq_true rfl, Nat.le_of_ble_eq_true rfl⟩ ⟨rfl, rfl⟩ ⟨Nat.zero_le _, Nat.zero_le _⟩ (rfl : vwCl[11]? = some (RX12, TX12, 48)) kM0 rfl rfl (Nat.le_of_ble_eq_true rfl) dX12_nextOrder_96 ?_
        refine g_iinc (lv' := [(3, .int (x3 + (1 : Int32))), (0, .ref (ad 0)), (4, .int x4)]) C dX12_nextOrder_99 1 rfl (ii_1 _) (Nat.le_of_ble_eq_true rfl) rfl ?_
        refine g_iinc (lv' := [(4, .int (x4 + (-1 : Int32))), (3, .int (x3 + (1 : Int32))), (0, .ref (ad 0))]) C dX12_nextOrder_102 2 rfl (ii_m1 _) (Nat.le_of_ble_eq_true rfl) rfl ?_
        refine g_goto (tgt := 86) C dX12_nextOrder_105 (by decide) ?_
        exact g_sub [2, 1, 0] rfl (Kt _ (Option.some.inj h).symm)
    · show GcM_nextOrder l D T ad Γ o xo xo g 108 [] []
      refine g_iconst C dX12_nextOrder_108 ic_1 ?_
      obtain rfl := Option.some.inj h
      exact g_zret C rfl rfl rfl rfl dX12_nextOrder_109
  have J47 : ∀ (x1 : Int32) (x2 : Int32) (g : St), fM_nextOrder_b47 x1 x2 g = some o → GcM_nextOrder l D T ad Γ o xo xo g 47 [(0, .ref (ad 0)), (1, .int x1), (2, .int x2)] [] := by
    intro x1 x2 g h
    obtain ⟨x2, ht, h⟩ := bnd h
    refine lp_run (P := fun x2 : Int32 => GcM_nextOrder l D T ad Γ o xo xo g 47 [(0, .ref (ad 0)), (1, .int x1), (2, .int x2)] []) (E := fun x2 : Int32 => GcM_nextOrder l D T ad Γ o xo xo g 68 [(0, .ref (ad 0)), (1, .int x1), (2, .int x2)] []) ?_ _ _ _ ht ?_
    · rintro x2 z h Kt Ke
      show GcM_nextOrder l D T ad Γ o xo xo g 47 [(0, .ref (ad 0)), (1, .int x1), (2, .int x2)] []
      refine g_aload_n C dX12_nextOrder_47 rfl 0 rfl ?_
      refine gM_get_order C dX12_nextOrder_48 ?_
      refine g_iload_n C dX12_nextOrder_51 rfl 2 rfl ?_
      obtain ⟨hi52, h⟩ := grd h
      refine g_iald (n := 8) (v := g 23 x2.toNatClampNeg) C ln_23 hi52 rfl dX12_nextOrder_52 ?_
      refine g_aload_n C dX12_nextOrder_53 rfl 0 rfl ?_
      refine gM_get_order C dX12_nextOrder_54 ?_
      refine g_iload_n C dX12_nextOrder_57 rfl 1 rfl ?_
      obtain ⟨hi58, h⟩ := grd h
      refine g_iald (n := 8) (v := g 23 x1.toNatClampNeg) C ln_23 hi58 rfl dX12_nextOrder_58 ?_
      refine g_icmp_ge C 68 dX12_nextOrder_59 (by decide) (fun c59 => ?_) (fun c59 => ?_)
      · have h := iteT c59 h
        exact g_sub [0, 1, 2] rfl (Ke _ (Option.some.inj h).symm)
      · have h := iteF c59 h
        refine g_iinc (lv' := [(2, .int (x2 + (-1 : Int32))), (0, .ref (ad 0)), (1, .int x1)]) C dX12_nextOrder_62 2 rfl (ii_m1 _) (Nat.le_of_ble_eq_true rfl) rfl ?_
        refine g_goto (tgt := 47) C dX12_nextOrder_65 (by decide) ?_
        exact g_sub [1, 2, 0] rfl (Kt _ (Option.some.inj h).symm)
    · show GcM_nextOrder l D T ad Γ o xo xo g 68 [(0, .ref (ad 0)), (1, .int x1), (2, .int x2)] []
      refine g_aload_n C dX12_nextOrder_68 rfl 0 rfl ?_
      refine g_iload_n C dX12_nextOrder_69 rfl 1 rfl ?_
      refine g_iload_n C dX12_nextOrder_70 rfl 2 rfl ?_
      obtain ⟨g71, hr71, h⟩ := bnd h
      refine g_cVv (k := 0) (As := [.int x1, .int x2]) (rest := []) (go := g71) (xo := xo) C (fun sz => cM_swaps l D T ad xo g x1 x2 _ hr71 sz) kM_swaps ⟨Nat.le_of_ble_eq_true rfl, Nat.le_of_ble_eq_true rfl⟩ ⟨rfl, rfl⟩ ⟨Nat.zero_le _, Nat.zero_le _⟩ (rfl : vwCl[11]? = some (RX12, TX12, 48)) kM0 rfl rfl (Nat.le_of_ble_eq_true rfl) dX12_nextOrder_71 ?_
      refine g_iload_n C dX12_nextOrder_74 rfl 1 rfl ?_
      refine g_iconst C dX12_nextOrder_75 ic_1 ?_
      refine g_iadd C dX12_nextOrder_76 ?_
      refine g_istore_n (lv' := [(3, .int (x1 + (1 : Int32))), (0, .ref (ad 0)), (1, .int x1), (2, .int x2)]) C dX12_nextOrder_77 rfl (Nat.le_of_ble_eq_true rfl) rfl ?_
      refine g_aload_n C dX12_nextOrder_78 rfl 1 rfl ?_
      refine gM_get_dying (v := g71 0 45) C rfl dX12_nextOrder_79 ?_
      refine g_iconst C dX12_nextOrder_82 ic_1 ?_
      refine g_isub C dX12_nextOrder_83 ?_
      refine g_istore (lv' := [(4, .int ((g71 0 45) - (1 : Int32))), (3, .int (x1 + (1 : Int32))), (0, .ref (ad 0)), (1, .int x1), (2, .int x2)]) C dX12_nextOrder_84 (Nat.le_of_ble_eq_true rfl) rfl ?_
      exact g_sub [2, 1, 0] rfl (J86 (x1 + (1 : Int32)) ((g71 0 45) - (1 : Int32)) g71 h)
  have J7 : ∀ (x1 : Int32) (g : St), fM_nextOrder_b7 x1 g = some o → GcM_nextOrder l D T ad Γ o xo xo g 7 [(0, .ref (ad 0)), (1, .int x1)] [] := by
    intro x1 g h
    obtain ⟨x1, ht, h⟩ := bnd h
    refine lp_run (P := fun x1 : Int32 => GcM_nextOrder l D T ad Γ o xo xo g 7 [(0, .ref (ad 0)), (1, .int x1)] []) (E := fun x1 : Int32 => GcM_nextOrder l D T ad Γ o xo xo g 34 [(0, .ref (ad 0)), (1, .int x1)] []) ?_ _ _ _ ht ?_
    · rintro x1 z h Kt Ke
      show GcM_nextOrder l D T ad Γ o xo xo g 7 [(0, .ref (ad 0)), (1, .int x1)] []
      refine g_iload_n C dX12_nextOrder_7 rfl 1 rfl ?_
      refine g_if_lt C 34 dX12_nextOrder_8 (by decide) (fun c8 => ?_) (fun c8 => ?_)
      · have h := iteT c8 h
        exact g_sub [0, 1] rfl (Ke _ (Option.some.inj h).symm)
      · have h := iteF c8 h
        refine g_aload_n C dX12_nextOrder_11 rfl 0 rfl ?_
        refine gM_get_order C dX12_nextOrder_12 ?_
        refine g_iload_n C dX12_nextOrder_15 rfl 1 rfl ?_
        obtain ⟨hi16, h⟩ := grd h
        refine g_iald (n := 8) (v := g 23 x1.toNatClampNeg) C ln_23 hi16 rfl dX12_nextOrder_16 ?_
        refine g_aload_n C dX12_nextOrder_17 rfl 0 rfl ?_
        refine gM_get_order C dX12_nextOrder_18 ?_
        refine g_iload_n C dX12_nextOrder_21 rfl 1 rfl ?_
        refine g_iconst C dX12_nextOrder_22 ic_1 ?_
        refine g_iadd C dX12_nextOrder_23 ?_
        obtain ⟨hi24, h⟩ := grd h
        refine g_iald (n := 8) (v := g 23 ((x1 + (1 : Int32)).toNatClampNeg)) C ln_23 hi24 rfl dX12_nextOrder_24 ?_
        refine g_icmp_le C 34 dX12_nextOrder_25 (by decide) (fun c25 => ?_) (fun c25 => ?_)
        · have h := iteT c25 h
          exact g_sub [0, 1] rfl (Ke _ (Option.some.inj h).symm)
        · have h := iteF c25 h
          refine g_iinc (lv' := [(1, .int (x1 + (-1 : Int32))), (0, .ref (ad 0))]) C dX12_nextOrder_28 1 rfl (ii_m1 _) (Nat.le_of_ble_eq_true rfl) rfl ?_
          refine g_goto (tgt := 7) C dX12_nextOrder_31 (by decide) ?_
          exact g_sub [1, 0] rfl (Kt _ (Option.some.inj h).symm)
    · show GcM_nextOrder l D T ad Γ o xo xo g 34 [(0, .ref (ad 0)), (1, .int x1)] []
      refine g_iload_n C dX12_nextOrder_34 rfl 1 rfl ?_
      refine g_if_ge C 40 dX12_nextOrder_35 (by decide) (fun c35 => ?_) (fun c35 => ?_)
      · have h := iteT c35 h
        refine g_aload_n C dX12_nextOrder_40 rfl 0 rfl ?_
        refine gM_get_dying (v := g 0 45) C rfl dX12_nextOrder_41 ?_
        refine g_iconst C dX12_nextOrder_44 ic_1 ?_
        refine g_isub C dX12_nextOrder_45 ?_
        refine g_istore_n (lv' := [(2, .int ((g 0 45) - (1 : Int32))), (0, .ref (ad 0)), (1, .int x1)]) C dX12_nextOrder_46 rfl (Nat.le_of_ble_eq_true rfl) rfl ?_
        exact g_sub [1, 2, 0] rfl (J47 x1 ((g 0 45) - (1 : Int32)) g h)
      · have h := iteF c35 h
        refine g_iconst C dX12_nextOrder_38 ic_0 ?_
        obtain rfl := Option.some.inj h
        exact g_zret C rfl rfl rfl rfl dX12_nextOrder_39
  refine g_aload_n C dX12_nextOrder_0 rfl 0 rfl ?_
  refine gM_get_dying (v := g 0 45) C rfl dX12_nextOrder_1 ?_
  refine g_iconst C dX12_nextOrder_4 ic_2 ?_
  refine g_isub C dX12_nextOrder_5 ?_
  refine g_istore_n (lv' := [(1, .int ((g 0 45) - (2 : Int32))), (0, .ref (ad 0))]) C dX12_nextOrder_6 rfl (Nat.le_of_ble_eq_true rfl) rfl ?_
  exact g_sub [1, 0] rfl (J7 ((g 0 45) - (2 : Int32)) g h)
def fM_dieSo_L13 : (Int32 × St) → Option ((Int32 × St) ⊕ (St)) := fun ⟨x1, g⟩ =>
  if (g 0 45) ≤ x1 then
    (some (.inr g))
  else
    (if ¬ (x1 < 0 ∨ 8 ≤ x1.toNatClampNeg) then ((fM_dies 17 (g 23 x1.toNatClampNeg) g).bind fun ⟨r32, g32⟩ => (some (.inl ((x1 + (1 : Int32)), g32)))) else none)
def fM_dieSo_b13 (x1 : Int32) (g : St) : Option (St) :=
  (lp (fM_dieSo_L13) fuel (x1, g)).bind (fun g => some g)
def fM_dieSo (g : St) : Option (St) :=
  (fM_copies 16 17 g).bind fun g8 => (fM_dieSo_b13 (0 : Int32) g8)
def rmM_dieSo : Room := { frames := 8, cells := 0, slots := 0, locals := 187 }
abbrev GcM_dieSo (l : Launch) (D : va_G) (T : cT) (ad : Nat → Nat) (Γ : Cxt) (o : St) (xo : Sl) (x : Sl) (g : St) (pc : Nat) (lv : List (Nat × Value)) (stk : List Value) : Prop := Gj l shM D T ad 2 (rmM_dieSo) 0 0 Γ (MQ Γ.below (va_Qv (eqV o xo) (wPost shM D T ad Γ.A) Γ.A) Γ.args Γ.s 0 0 Γ.A) x g pc lv stk
set_option maxRecDepth 100000 in
set_option maxHeartbeats 4000000 in
theorem cM_dieSo (l : Launch) (D : va_G) (T : cT) (ad : Nat → Nat) (xo : Sl) (g : St) (o : St) (h : fM_dieSo g = some o) (sz : Nat) : Met l yX12_dieSo wM_dieSo (rmM_dieSo) (va_Pc [.ref (ad 0)] (wPre shM D T ad xo g sz)) (va_Qv (eqV o xo) (wPost shM D T ad (aW shM T ad xo g sz)) (aW shM T ad xo g sz)) 0 0 (aW shM T ad xo g sz) := by
  refine g_start (Qc := fun A => va_Qv (eqV o xo) (wPost shM D T ad A) A) (by decide +kernel) rfl rfl (Nat.le_of_ble_eq_true rfl) (lv := [(0, .ref (ad 0))]) rfl (fun Γ C => ?_)
  show GcM_dieSo l D T ad Γ o xo xo g 0 [(0, .ref (ad 0))] []
  have J13 : ∀ (x1 : Int32) (g : St), fM_dieSo_b13 x1 g = some o → GcM_dieSo l D T ad Γ o xo xo g 13 [(0, .ref (ad 0)), (1, .int x1)] [] := by
    intro x1 g h
    obtain ⟨g, ht, h⟩ := bnd h
    refine lp_run (P := fun t : Int32 × St => match t with | (x1, g) => GcM_dieSo l D T ad Γ o xo xo g 13 [(0, .ref (ad 0)), (1, .int x1)] []) (E := fun g : St => GcM_dieSo l D T ad Γ o xo xo g 42 [] []) ?_ _ _ _ ht ?_
    · rintro ⟨x1, g⟩ z h Kt Ke
      show GcM_dieSo l D T ad Γ o xo xo g 13 [(0, .ref (ad 0)), (1, .int x1)] []
      refine g_iload_n C dX12_dieSo_13 rfl 1 rfl ?_
      refine g_aload_n C dX12_dieSo_14 rfl 0 rfl ?_
      refine gM_get_dying (v := g 0 45) C rfl dX12_dieSo_15 ?_
      refine g_icmp_ge C 42 dX12_dieSo_18 (by decide) (fun c18 => ?_) (fun c18 => ?_)
      · have h := iteT c18 h
        exact g_sub [] rfl (Ke _ (Option.some.inj h).symm)
      · have h := iteF c18 h
        refine g_aload_n C dX12_dieSo_21 rfl 0 rfl ?_
        refine g_aload_n C dX12_dieSo_22 rfl 0 rfl ?_
        refine gM_get_trial C dX12_dieSo_23 ?_
        refine g_aload_n C dX12_dieSo_26 rfl 0 rfl ?_
        refine gM_get_order C dX12_dieSo_27 ?_
        refine g_iload_n C dX12_dieSo_30 rfl 1 rfl ?_
        obtain ⟨hi31, h⟩ := grd h
        refine g_iald (n := 8) (v := g 23 x1.toNatClampNeg) C ln_23 hi31 rfl dX12_dieSo_31 ?_
        obtain ⟨⟨r32, g32⟩, hr32, h⟩ := bnd h
        refine g_cVz (k := 0) (As := [.ref (ad 17), .int (g 23 x1.toNatClampNeg)]) (rest := []) (ro := r32) (go := g32) (xo := xo) C (fun sz => cM_dies l D T ad xo g 17 (g 23 x1.toNatClampNeg) _ hr32 sz) kM_dies ⟨Nat.le_of_ble_eq_true rfl, Nat.le_of_ble_eq_true rfl⟩ ⟨rfl, rfl⟩ ⟨Nat.zero_le _, Nat.zero_le _⟩ (rfl : vwCl[11]? = some (RX12, TX12, 48)) kM0 rfl rfl (Nat.le_of_ble_eq_true rfl) dX12_dieSo_32 (fun hz32 => ?_)
        refine g_pop C dX12_dieSo_35 rfl ?_
        refine g_iinc (lv' := [(1, .int (x1 + (1 : Int32))), (0, .ref (ad 0))]) C dX12_dieSo_36 1 rfl (ii_1 _) (Nat.le_of_ble_eq_true rfl) rfl ?_
        refine g_goto (tgt := 13) C dX12_dieSo_39 (by decide) ?_
        exact g_sub [1, 0] rfl (Kt _ (Option.some.inj h).symm)
    · show GcM_dieSo l D T ad Γ o xo xo g 42 [] []
      obtain rfl := Option.some.inj h
      exact g_vret C rfl rfl dX12_dieSo_42
  refine g_aload_n C dX12_dieSo_0 rfl 0 rfl ?_
  refine gM_get_now C dX12_dieSo_1 ?_
  refine g_aload_n C dX12_dieSo_4 rfl 0 rfl ?_
  refine gM_get_trial C dX12_dieSo_5 ?_
  obtain ⟨g8, hr8, h⟩ := bnd h
  refine g_cSv (As := [.ref (ad 16), .ref (ad 17)]) (rest := []) (go := g8) (xo := xo) C (fun sz => cM_copies l D T ad xo g 16 17 _ hr8 sz) kM_copies ⟨Nat.le_of_ble_eq_true rfl, Nat.le_of_ble_eq_true rfl⟩ ⟨rfl, rfl⟩ ⟨Nat.zero_le _, Nat.zero_le _⟩ rfl rfl (Nat.le_of_ble_eq_true rfl) dX12_dieSo_8 ?_
  refine g_iconst C dX12_dieSo_11 ic_0 ?_
  refine g_istore_n (lv' := [(1, .int (0 : Int32)), (0, .ref (ad 0))]) C dX12_dieSo_12 rfl (Nat.le_of_ble_eq_true rfl) rfl ?_
  exact g_sub [1, 0] rfl (J13 (0 : Int32) g8 h)
def fM_digits_L9 (g : St) : (Int32 × Int32) → Option ((Int32 × Int32) ⊕ (Int32)) := fun ⟨x1, x2⟩ =>
  if x2 < 0 then
    (some (.inr x1))
  else
    (if ¬ (x2 < 0 ∨ 8 ≤ x2.toNatClampNeg) then (some (.inl ((((8 : Int32) * x1) + (g 23 x2.toNatClampNeg)), (x2 + (-1 : Int32))))) else none)
def fM_digits_b9 (x1 : Int32) (x2 : Int32) (g : St) : Option (Int32) :=
  (lp (fM_digits_L9 g) fuel (x1, x2)).bind (fun x1 => some x1)
def fM_digits (g : St) : Option (Int32) :=
  fM_digits_b9 (0 : Int32) ((g 0 45) - (1 : Int32)) g
def rmM_digits : Room := { frames := 0, cells := 0, slots := 0, locals := 0 }
abbrev GcM_digits (l : Launch) (D : va_G) (T : cT) (ad : Nat → Nat) (Γ : Cxt) (o : Int32) (xo : Sl) (g0 : St) (x : Sl) (g : St) (pc : Nat) (lv : List (Nat × Value)) (stk : List Value) : Prop := Gj l shM D T ad 3 (rmM_digits) 0 0 Γ (MQ Γ.below (va_Qi (eqI o g0 xo) (wPost shM D T ad Γ.A) Γ.A) Γ.args Γ.s 0 0 Γ.A) x g pc lv stk
set_option maxRecDepth 100000 in
set_option maxHeartbeats 4000000 in
theorem cM_digits (l : Launch) (D : va_G) (T : cT) (ad : Nat → Nat) (xo : Sl) (g : St) (o : Int32) (h : fM_digits g = some o) (sz : Nat) : Met l yX12_digits wM_digits (rmM_digits) (va_Pc [.ref (ad 0)] (wPre shM D T ad xo g sz)) (va_Qi (eqI o g xo) (wPost shM D T ad (aW shM T ad xo g sz)) (aW shM T ad xo g sz)) 0 0 (aW shM T ad xo g sz) := by
  refine g_start (Qc := fun A => va_Qi (eqI o g xo) (wPost shM D T ad A) A) (by decide +kernel) rfl rfl (Nat.le_of_ble_eq_true rfl) (lv := [(0, .ref (ad 0))]) rfl (fun Γ C => ?_)
  show GcM_digits l D T ad Γ o xo g xo g 0 [(0, .ref (ad 0))] []
  have J9 : ∀ (x1 : Int32) (x2 : Int32), fM_digits_b9 x1 x2 g = some o → GcM_digits l D T ad Γ o xo g xo g 9 [(0, .ref (ad 0)), (1, .int x1), (2, .int x2)] [] := by
    intro x1 x2 h
    obtain ⟨x1, ht, h⟩ := bnd h
    refine lp_run (P := fun t : Int32 × Int32 => match t with | (x1, x2) => GcM_digits l D T ad Γ o xo g xo g 9 [(0, .ref (ad 0)), (1, .int x1), (2, .int x2)] []) (E := fun x1 : Int32 => GcM_digits l D T ad Γ o xo g xo g 31 [(1, .int x1)] []) ?_ _ _ _ ht ?_
    · rintro ⟨x1, x2⟩ z h Kt Ke
      show GcM_digits l D T ad Γ o xo g xo g 9 [(0, .ref (ad 0)), (1, .int x1), (2, .int x2)] []
      refine g_iload_n C dX12_digits_9 rfl 2 rfl ?_
      refine g_if_lt C 31 dX12_digits_10 (by decide) (fun c10 => ?_) (fun c10 => ?_)
      · have h := iteT c10 h
        exact g_sub [1] rfl (Ke _ (Option.some.inj h).symm)
      · have h := iteF c10 h
        refine g_bipush C dX12_digits_13 bp_8 ?_
        refine g_iload_n C dX12_digits_15 rfl 1 rfl ?_
        refine g_imul C dX12_digits_16 ?_
        refine g_aload_n C dX12_digits_17 rfl 0 rfl ?_
        refine gM_get_order C dX12_digits_18 ?_
        refine g_iload_n C dX12_digits_21 rfl 2 rfl ?_
        obtain ⟨hi22, h⟩ := grd h
        refine g_iald (n := 8) (v := g 23 x2.toNatClampNeg) C ln_23 hi22 rfl dX12_digits_22 ?_
        refine g_iadd C dX12_digits_23 ?_
        refine g_istore_n (lv' := [(1, .int (((8 : Int32) * x1) + (g 23 x2.toNatClampNeg))), (0, .ref (ad 0)), (2, .int x2)]) C dX12_digits_24 rfl (Nat.le_of_ble_eq_true rfl) rfl ?_
        refine g_iinc (lv' := [(2, .int (x2 + (-1 : Int32))), (1, .int (((8 : Int32) * x1) + (g 23 x2.toNatClampNeg))), (0, .ref (ad 0))]) C dX12_digits_25 2 rfl (ii_m1 _) (Nat.le_of_ble_eq_true rfl) rfl ?_
        refine g_goto (tgt := 9) C dX12_digits_28 (by decide) ?_
        exact g_sub [2, 1, 0] rfl (Kt _ (Option.some.inj h).symm)
    · show GcM_digits l D T ad Γ o xo g xo g 31 [(1, .int x1)] []
      refine g_iload_n C dX12_digits_31 rfl 0 rfl ?_
      obtain rfl := Option.some.inj h
      exact g_iret C rfl rfl rfl dX12_digits_32
  refine g_iconst C dX12_digits_0 ic_0 ?_
  refine g_istore_n (lv' := [(1, .int (0 : Int32)), (0, .ref (ad 0))]) C dX12_digits_1 rfl (Nat.le_of_ble_eq_true rfl) rfl ?_
  refine g_aload_n C dX12_digits_2 rfl 1 rfl ?_
  refine gM_get_dying (v := g 0 45) C rfl dX12_digits_3 ?_
  refine g_iconst C dX12_digits_6 ic_1 ?_
  refine g_isub C dX12_digits_7 ?_
  refine g_istore_n (lv' := [(2, .int ((g 0 45) - (1 : Int32))), (1, .int (0 : Int32)), (0, .ref (ad 0))]) C dX12_digits_8 rfl (Nat.le_of_ble_eq_true rfl) rfl ?_
  exact g_sub [2, 1, 0] rfl (J9 (0 : Int32) ((g 0 45) - (1 : Int32)) h)
def fM_order_b113 (x1 : Int32) (x2 : Int32) (x4 : Int32) (s0 : Int32) (g : St) : Option ((Int32 × Int32 × St) ⊕ ((Int32 × Int32 × St))) :=
  (fM_nextOrder g).bind fun ⟨r115, g115⟩ => (if r115 = 0 then
    (some (.inr (s0, x4, g115)))
  else
    (some (.inl (s0, x4, g115))))
def fM_order_b95 (x1 : Int32) (x2 : Int32) (x3 : Int32) (x5 : Int32) (s0 : Int32) (g : St) : Option ((Int32 × Int32 × St) ⊕ ((Int32 × Int32 × St))) :=
  if x3 = (-1 : Int32) then
    (fM_order_b113 x1 x2 s0 x5 g)
  else
    (fM_order_b113 x1 x2 s0 (fM_less x5 x3) g)
def fM_order_b86 (x1 : Int32) (x2 : Int32) (x3 : Int32) (x5 : Int32) (g : St) : Option ((Int32 × Int32 × St) ⊕ ((Int32 × Int32 × St))) :=
  (fM_digits g).bind fun r87 => (fM_order_b95 x1 x2 x3 x5 r87 g)
def fM_order_L48 (x1 : Int32) (x2 : Int32) : (Int32 × Int32 × St) → Option ((Int32 × Int32 × St) ⊕ ((Int32 × Int32 × St))) := fun ⟨x3, x4, g⟩ =>
  (fM_dieSo g).bind fun g49 => ((fM_nameless 17 g49).bind fun r57 => ((fM_ones ((r57 &&& x1) &&& (g49 16 24))).bind fun r70 => (if x3 = (-1 : Int32) then
    (fM_order_b86 x1 x2 x3 r70 g49)
  else
    (if x3 ≤ r70 then
    (fM_order_b95 x1 x2 x3 r70 x4 g49)
  else
    (fM_order_b86 x1 x2 x3 r70 g49)))))
def fM_order_b48 (x1 : Int32) (x2 : Int32) (x3 : Int32) (x4 : Int32) (g : St) : Option (Int32 × St) :=
  (lp (fM_order_L48 x1 x2) fuel (x3, x4, g)).bind (fun ⟨x3, x4, g⟩ => if x2 = 0 then
    (some (x3, g))
  else
    (some (x4, g)))
def fM_order_b28 (x1 : Int32) (x2 : Int32) (s1 : Int32) (g : St) : Option (Int32 × St) :=
  (fM_bad s1 (1 : Int32) (1 : Int32) g).bind fun ⟨r30, g30⟩ => (if r30 = 0 then
    ((fM_firstOrder x1 g30).bind fun g45 => (fM_order_b48 x1 x2 (-1 : Int32) (0 : Int32) g45))
  else
    (some ((0 : Int32), g30)))
def fM_order_b23 (x1 : Int32) (x2 : Int32) (g : St) : Option (Int32 × St) :=
  fM_order_b28 x1 x2 (1 : Int32) g
def fM_order (x1 : Int32) (x2 : Int32) (g : St) : Option (Int32 × St) :=
  (fM_isOrder x1 (st g 0 0 (0 : Int32))).bind fun r8 => (if r8 = 0 then
    (fM_order_b23 x1 x2 (st g 0 0 (0 : Int32)))
  else
    (if (fM_in x2 (0 : Int32) (1 : Int32)) = 0 then
    (fM_order_b23 x1 x2 (st g 0 0 (0 : Int32)))
  else
    (fM_order_b28 x1 x2 (0 : Int32) (st g 0 0 (0 : Int32)))))
def rmM_order : Room := { frames := 9, cells := 0, slots := 0, locals := 208 }
abbrev GcM_order (l : Launch) (D : va_G) (T : cT) (ad : Nat → Nat) (Γ : Cxt) (o : Int32 × St) (xo : Sl) (x : Sl) (g : St) (pc : Nat) (lv : List (Nat × Value)) (stk : List Value) : Prop := Gj l shM D T ad 6 (rmM_order) 0 0 Γ (MQ Γ.below (va_Qi (eqI o.1 o.2 xo) (wPost shM D T ad Γ.A) Γ.A) Γ.args Γ.s 0 0 Γ.A) x g pc lv stk
set_option maxRecDepth 100000 in
set_option maxHeartbeats 4000000 in
theorem cM_order (l : Launch) (D : va_G) (T : cT) (ad : Nat → Nat) (xo : Sl) (g : St) (x1 : Int32) (x2 : Int32) (o : Int32 × St) (h : fM_order x1 x2 g = some o) (sz : Nat) : Met l yX12_order wM_order (rmM_order) (va_Pc [.ref (ad 0), .int x1, .int x2] (wPre shM D T ad xo g sz)) (va_Qi (eqI o.1 o.2 xo) (wPost shM D T ad (aW shM T ad xo g sz)) (aW shM T ad xo g sz)) 0 0 (aW shM T ad xo g sz) := by
  refine g_start (Qc := fun A => va_Qi (eqI o.1 o.2 xo) (wPost shM D T ad A) A) (by decide +kernel) rfl rfl (Nat.le_of_ble_eq_true rfl) (lv := [(0, .ref (ad 0)), (1, .int x1), (2, .int x2)]) rfl (fun Γ C => ?_)
  show GcM_order l D T ad Γ o xo xo g 0 [(0, .ref (ad 0)), (1, .int x1), (2, .int x2)] []
  have J48 : ∀ (x1 : Int32) (x2 : Int32) (x3 : Int32) (x4 : Int32) (g : St), fM_order_b48 x1 x2 x3 x4 g = some o → GcM_order l D T ad Γ o xo xo g 48 [(0, .ref (ad 0)), (1, .int x1), (2, .int x2), (3, .int x3), (4, .int x4)] [] := by
    intro x1 x2 x3 x4 g h
    obtain ⟨⟨x3, x4, g⟩, ht, h⟩ := bnd h
    refine lp_run (P := fun t : Int32 × Int32 × St => match t with | (x3, x4, g) => GcM_order l D T ad Γ o xo xo g 48 [(0, .ref (ad 0)), (1, .int x1), (2, .int x2), (3, .int x3), (4, .int x4)] []) (E := fun t : Int32 × Int32 × St => match t with | (x3, x4, g) => GcM_order l D T ad Γ o xo xo g 121 [(2, .int x2), (3, .int x3), (4, .int x4)] []) ?_ _ _ _ ht ?_
    · rintro ⟨x3, x4, g⟩ z h Kt Ke
      show GcM_order l D T ad Γ o xo xo g 48 [(0, .ref (ad 0)), (1, .int x1), (2, .int x2), (3, .int x3), (4, .int x4)] []
      have J113 : ∀ (x4 : Int32) (s0 : Int32) (g : St), fM_order_b113 x1 x2 x4 s0 g = some z → GcM_order l D T ad Γ o xo xo g 113 [(0, .ref (ad 0)), (1, .int x1), (2, .int x2), (4, .int x4)] [.int s0] := by
        intro x4 s0 g h
        refine g_istore_n (lv' := [(3, .int s0), (0, .ref (ad 0)), (1, .int x1), (2, .int x2), (4, .int x4)]) C dX12_order_113 rfl (Nat.le_of_ble_eq_true rfl) rfl ?_
        refine g_aload_n C dX12_order_114 rfl 1 rfl ?_
        obtain ⟨⟨r115, g115⟩, hr115, h⟩ := bnd h
        refine g_cVz (k := 0) (As := []) (rest := []) (ro := r115) (go := g115) (xo := xo) C (fun sz => cM_nextOrder l D T ad xo g _ hr115 sz) kM_nextOrder ⟨Nat.le_of_ble_eq_true rfl, Nat.le_of_ble_eq_true rfl⟩ ⟨rfl, rfl⟩ ⟨Nat.zero_le _, Nat.zero_le _⟩ (rfl : vwCl[11]? = some (RX12, TX12, 48)) kM0 rfl rfl (Nat.le_of_ble_eq_true rfl) dX12_order_115 (fun hz115 => ?_)
        refine g_if_ne C 48 dX12_order_118 (by decide) (fun c118 => ?_) (fun c118 => ?_)
        · have h := iteT c118 h
          exact g_sub [3, 0, 4] rfl (Ke _ (Option.some.inj h).symm)
        · have h := iteF c118 h
          exact g_sub [1, 2, 3, 0, 4] rfl (Kt _ (Option.some.inj h).symm)
      have J95 : ∀ (x3 : Int32) (x5 : Int32) (s0 : Int32) (g : St), fM_order_b95 x1 x2 x3 x5 s0 g = some z → GcM_order l D T ad Γ o xo xo g 95 [(0, .ref (ad 0)), (1, .int x1), (2, .int x2), (3, .int x3), (5, .int x5)] [.int s0] := by
        intro x3 x5 s0 g h
        refine g_istore (lv' := [(4, .int s0), (0, .ref (ad 0)), (1, .int x1), (2, .int x2), (3, .int x3), (5, .int x5)]) C dX12_order_95 (Nat.le_of_ble_eq_true rfl) rfl ?_
        refine g_iload_n C dX12_order_97 rfl 4 rfl ?_
        refine g_iconst C dX12_order_98 ic_m1 ?_
        refine g_icmp_ne C 107 dX12_order_99 (by decide) (fun c99 => ?_) (fun c99 => ?_)
        · have h := iteT c99 h
          refine g_iload C dX12_order_102 5 rfl ?_
          refine g_goto (tgt := 113) C dX12_order_104 (by decide) ?_
          exact g_sub [1, 2, 3, 0] rfl (J113 s0 x5 g h)
        · have h := iteF c99 h
          refine g_iload C dX12_order_107 5 rfl ?_
          refine g_iload_n C dX12_order_109 rfl 4 rfl ?_
          refine g_cSi (As := [.int x5, .int x3]) (rest := []) (ro := (fM_less x5 x3)) (go := g) (xo := xo) C (fun sz => cM_less l D T ad xo g x5 x3 _ rfl sz) kM_less ⟨Nat.le_of_ble_eq_true rfl, Nat.le_of_ble_eq_true rfl⟩ ⟨rfl, rfl⟩ ⟨Nat.zero_le _, Nat.zero_le _⟩ rfl rfl (Nat.le_of_ble_eq_true rfl) dX12_order_110 ?_
          exact g_sub [1, 2, 3, 0] rfl (J113 s0 (fM_less x5 x3) g h)
      have J86 : ∀ (x3 : Int32) (x5 : Int32) (g : St), fM_order_b86 x1 x2 x3 x5 g = some z → GcM_order l D T ad Γ o xo xo g 86 [(0, .ref (ad 0)), (1, .int x1), (2, .int x2), (3, .int x3), (5, .int x5)] [] := by
        intro x3 x5 g h
        refine g_aload_n C dX12_order_86 rfl 0 rfl ?_
        obtain ⟨r87, hr87, h⟩ := bnd h
        refine g_cVi (k := 0) (As := []) (rest := []) (ro := r87) (go := g) (xo := xo) C (fun sz => cM_digits l D T ad xo g _ hr87 sz) kM_digits ⟨Nat.le_of_ble_eq_true rfl, Nat.le_of_ble_eq_true rfl⟩ ⟨rfl, rfl⟩ ⟨Nat.zero_le _, Nat.zero_le _⟩ (rfl : vwCl[11]? = some (RX12, TX12, 48)) kM0 rfl rfl (Nat.le_of_ble_eq_true rfl) dX12_order_87 ?_
        refine g_goto (tgt := 95) C dX12_order_90 (by decide) ?_
        exact J95 x3 x5 r87 g h
      refine g_aload_n C dX12_order_48 rfl 0 rfl ?_
      obtain ⟨g49, hr49, h⟩ := bnd h
      refine g_cVv (k := 0) (As := []) (rest := []) (go := g49) (xo := xo) C (fun sz => cM_dieSo l D T ad xo g _ hr49 sz) kM_dieSo ⟨Nat.le_of_ble_eq_true rfl, Nat.le_of_ble_eq_true rfl⟩ ⟨rfl, rfl⟩ ⟨Nat.zero_le _, Nat.zero_le _⟩ (rfl : vwCl[11]? = some (RX12, TX12, 48)) kM0 rfl rfl (Nat.le_of_ble_eq_true rfl) dX12_order_49 ?_
      refine g_aload_n C dX12_order_52 rfl 0 rfl ?_
      refine g_aload_n C dX12_order_53 rfl 0 rfl ?_
      refine gM_get_trial C dX12_order_54 ?_
      obtain ⟨r57, hr57, h⟩ := bnd h
      refine g_cVi (k := 0) (As := [.ref (ad 17)]) (rest := []) (ro := r57) (go := g49) (xo := xo) C (fun sz => cM_nameless l D T ad xo g49 17 _ hr57 sz) kM_nameless ⟨Nat.le_of_ble_eq_true rfl, Nat.le_of_ble_eq_true rfl⟩ ⟨rfl, rfl⟩ ⟨Nat.zero_le _, Nat.zero_le _⟩ (rfl : vwCl[11]? = some (RX12, TX12, 48)) kM0 rfl rfl (Nat.le_of_ble_eq_true rfl) dX12_order_57 ?_
      refine g_iload_n C dX12_order_60 rfl 1 rfl ?_
      refine g_iand C dX12_order_61 ?_
      refine g_aload_n C dX12_order_62 rfl 0 rfl ?_
      refine gM_get_now C dX12_order_63 ?_
      refine g_bipush C dX12_order_66 bp_24 ?_
      refine g_iald (n := 26) (v := g49 16 24) C ln_16 (by decide) rfl dX12_order_68 ?_
      refine g_iand C dX12_order_69 ?_
      obtain ⟨r70, hr70, h⟩ := bnd h
      refine g_cSi (As := [.int ((r57 &&& x1) &&& (g49 16 24))]) (rest := []) (ro := r70) (go := g49) (xo := xo) C (fun sz => cM_ones l D T ad xo g49 ((r57 &&& x1) &&& (g49 16 24)) _ hr70 sz) kM_ones ⟨Nat.le_of_ble_eq_true rfl, Nat.le_of_ble_eq_true rfl⟩ ⟨rfl, rfl⟩ ⟨Nat.zero_le _, Nat.zero_le _⟩ rfl rfl (Nat.le_of_ble_eq_true rfl) dX12_order_70 ?_
      refine g_istore (lv' := [(5, .int r70), (0, .ref (ad 0)), (1, .int x1), (2, .int x2), (3, .int x3), (4, .int x4)]) C dX12_order_73 (Nat.le_of_ble_eq_true rfl) rfl ?_
      refine g_iload_n C dX12_order_75 rfl 4 rfl ?_
      refine g_iconst C dX12_order_76 ic_m1 ?_
      refine g_icmp_eq C 86 dX12_order_77 (by decide) (fun c77 => ?_) (fun c77 => ?_)
      · have h := iteT c77 h
        exact g_sub [1, 2, 3, 4, 0] rfl (J86 x3 r70 g49 h)
      · have h := iteF c77 h
        refine g_iload C dX12_order_80 0 rfl ?_
        refine g_iload_n C dX12_order_82 rfl 4 rfl ?_
        refine g_icmp_ge C 93 dX12_order_83 (by decide) (fun c83 => ?_) (fun c83 => ?_)
        · have h := iteT c83 h
          refine g_iload C dX12_order_93 5 rfl ?_
          exact g_sub [1, 2, 3, 4, 0] rfl (J95 x3 r70 x4 g49 h)
        · have h := iteF c83 h
          exact g_sub [1, 2, 3, 4, 0] rfl (J86 x3 r70 g49 h)
    · show GcM_order l D T ad Γ o xo xo g 121 [(2, .int x2), (3, .int x3), (4, .int x4)] []
      refine g_iload_n C dX12_order_121 rfl 0 rfl ?_
      refine g_if_ne C 129 dX12_order_122 (by decide) (fun c122 => ?_) (fun c122 => ?_)
      · have h := iteT c122 h
        refine g_iload_n C dX12_order_125 rfl 1 rfl ?_
        refine g_goto (tgt := 131) C dX12_order_126 (by decide) ?_
        obtain rfl := Option.some.inj h
        exact g_iret C rfl rfl rfl dX12_order_131
      · have h := iteF c122 h
        refine g_iload C dX12_order_129 2 rfl ?_
        obtain rfl := Option.some.inj h
        exact g_iret C rfl rfl rfl dX12_order_131
  have J28 : ∀ (x1 : Int32) (x2 : Int32) (s1 : Int32) (g : St), fM_order_b28 x1 x2 s1 g = some o → GcM_order l D T ad Γ o xo xo g 28 [(0, .ref (ad 0)), (1, .int x1), (2, .int x2)] [.int s1, .ref (ad 0)] := by
    intro x1 x2 s1 g h
    refine g_iconst C dX12_order_28 ic_1 ?_
    refine g_iconst C dX12_order_29 ic_1 ?_
    obtain ⟨⟨r30, g30⟩, hr30, h⟩ := bnd h
    refine g_cVz (k := 0) (As := [.int s1, .int (1 : Int32), .int (1 : Int32)]) (rest := []) (ro := r30) (go := g30) (xo := xo) C (fun sz => cM_bad l D T ad xo g s1 (1 : Int32) (1 : Int32) _ hr30 sz) kM_bad ⟨Nat.le_of_ble_eq_true rfl, Nat.le_of_ble_eq_true rfl⟩ ⟨rfl, rfl⟩ ⟨Nat.zero_le _, Nat.zero_le _⟩ (rfl : vwCl[11]? = some (RX12, TX12, 48)) kM0 rfl rfl (Nat.le_of_ble_eq_true rfl) dX12_order_30 (fun hz30 => ?_)
    refine g_if_eq C 38 dX12_order_33 (by decide) (fun c33 => ?_) (fun c33 => ?_)
    · have h := iteT c33 h
      refine g_iconst C dX12_order_38 ic_m1 ?_
      refine g_istore_n (lv' := [(3, .int (-1 : Int32)), (0, .ref (ad 0)), (1, .int x1), (2, .int x2)]) C dX12_order_39 rfl (Nat.le_of_ble_eq_true rfl) rfl ?_
      refine g_iconst C dX12_order_40 ic_0 ?_
      refine g_istore (lv' := [(4, .int (0 : Int32)), (3, .int (-1 : Int32)), (0, .ref (ad 0)), (1, .int x1), (2, .int x2)]) C dX12_order_41 (Nat.le_of_ble_eq_true rfl) rfl ?_
      refine g_aload_n C dX12_order_43 rfl 2 rfl ?_
      refine g_iload_n C dX12_order_44 rfl 3 rfl ?_
      obtain ⟨g45, hr45, h⟩ := bnd h
      refine g_cVv (k := 0) (As := [.int x1]) (rest := []) (go := g45) (xo := xo) C (fun sz => cM_firstOrder l D T ad xo g30 x1 _ hr45 sz) kM_firstOrder ⟨Nat.le_of_ble_eq_true rfl, Nat.le_of_ble_eq_true rfl⟩ ⟨rfl, rfl⟩ ⟨Nat.zero_le _, Nat.zero_le _⟩ (rfl : vwCl[11]? = some (RX12, TX12, 48)) kM0 rfl rfl (Nat.le_of_ble_eq_true rfl) dX12_order_45 ?_
      exact g_sub [2, 3, 4, 1, 0] rfl (J48 x1 x2 (-1 : Int32) (0 : Int32) g45 h)
    · have h := iteF c33 h
      refine g_iconst C dX12_order_36 ic_0 ?_
      obtain rfl := Option.some.inj h
      exact g_iret C rfl rfl rfl dX12_order_37
  have J23 : ∀ (x1 : Int32) (x2 : Int32) (g : St), fM_order_b23 x1 x2 g = some o → GcM_order l D T ad Γ o xo xo g 23 [(0, .ref (ad 0)), (1, .int x1), (2, .int x2)] [.ref (ad 0)] := by
    intro x1 x2 g h
    refine g_iconst C dX12_order_23 ic_1 ?_
    refine g_goto (tgt := 28) C dX12_order_24 (by decide) ?_
    exact J28 x1 x2 (1 : Int32) g h
  refine g_aload_n C dX12_order_0 rfl 0 rfl ?_
  refine g_iconst C dX12_order_1 ic_0 ?_
  refine gM_put_thrown C dX12_order_2 ?_
  refine g_aload_n C dX12_order_5 rfl 0 rfl ?_
  refine g_aload_n C dX12_order_6 rfl 0 rfl ?_
  refine g_iload_n C dX12_order_7 rfl 1 rfl ?_
  obtain ⟨r8, hr8, h⟩ := bnd h
  refine g_cVz (k := 0) (As := [.int x1]) (rest := [.ref (ad 0)]) (ro := r8) (go := (st g 0 0 (0 : Int32))) (xo := xo) C (fun sz => cM_isOrder l D T ad xo (st g 0 0 (0 : Int32)) x1 _ hr8 sz) kM_isOrder ⟨Nat.le_of_ble_eq_true rfl, Nat.le_of_ble_eq_true rfl⟩ ⟨rfl, rfl⟩ ⟨Nat.zero_le _, Nat.zero_le _⟩ (rfl : vwCl[11]? = some (RX12, TX12, 48)) kM0 rfl rfl (Nat.le_of_ble_eq_true rfl) dX12_order_8 (fun hz8 => ?_)
  refine g_if_eq C 23 dX12_order_11 (by decide) (fun c11 => ?_) (fun c11 => ?_)
  · have h := iteT c11 h
    exact J23 x1 x2 (st g 0 0 (0 : Int32)) h
  · have h := iteF c11 h
    refine g_iload_n C dX12_order_14 rfl 2 rfl ?_
    refine g_iconst C dX12_order_15 ic_0 ?_
    refine g_iconst C dX12_order_16 ic_1 ?_
    refine g_cSz (As := [.int x2, .int (0 : Int32), .int (1 : Int32)]) (rest := [.ref (ad 0)]) (ro := (fM_in x2 (0 : Int32) (1 : Int32))) (go := (st g 0 0 (0 : Int32))) (xo := xo) C (fun sz => cM_in l D T ad xo (st g 0 0 (0 : Int32)) x2 (0 : Int32) (1 : Int32) _ rfl sz) kM_in ⟨Nat.le_of_ble_eq_true rfl, Nat.le_of_ble_eq_true rfl⟩ ⟨rfl, rfl⟩ ⟨Nat.zero_le _, Nat.zero_le _⟩ rfl rfl (Nat.le_of_ble_eq_true rfl) dX12_order_17 (fun hz17 => ?_)
    refine g_if_ne C 27 dX12_order_20 (by decide) (fun c20 => ?_) (fun c20 => ?_)
    · have h := iteT c20 h
      exact J23 x1 x2 (st g 0 0 (0 : Int32)) h
    · have h := iteF c20 h
      refine g_iconst C dX12_order_27 ic_0 ?_
      exact J28 x1 x2 (0 : Int32) (st g 0 0 (0 : Int32)) h
def fM_isSo_L6 (g : St) : Int32 → Option ((Int32) ⊕ (Unit ⊕ Unit)) := fun x1 =>
  if (g 0 31) ≤ x1 then
    (some (.inr (.inr ())))
  else
    (if ¬ (x1 < 0 ∨ 8 ≤ x1.toNatClampNeg) then ((fM_stones 17 (g (362 + x1.toNatClampNeg) 0) g).bind fun r27 => (if r27 = (g (362 + x1.toNatClampNeg) 1) then
    (some (.inl (x1 + (1 : Int32))))
  else
    (some (.inr (.inl ()))))) else none)
def fM_isSo_b6 (x1 : Int32) (g : St) : Option (Int32 × St) :=
  (lp (fM_isSo_L6 g) fuel x1).bind (Sum.elim (fun _ => some ((0 : Int32), g)) (fun _ => some ((1 : Int32), g)))
def fM_isSo (g : St) : Option (Int32 × St) :=
  (fM_dieSo g).bind fun g1 => (fM_isSo_b6 (0 : Int32) g1)
def rmM_isSo : Room := { frames := 9, cells := 0, slots := 0, locals := 208 }
abbrev GcM_isSo (l : Launch) (D : va_G) (T : cT) (ad : Nat → Nat) (Γ : Cxt) (o : Int32 × St) (xo : Sl) (x : Sl) (g : St) (pc : Nat) (lv : List (Nat × Value)) (stk : List Value) : Prop := Gj l shM D T ad 2 (rmM_isSo) 0 0 Γ (MQ Γ.below (va_Qi (eqZ o.1 o.2 xo) (wPost shM D T ad Γ.A) Γ.A) Γ.args Γ.s 0 0 Γ.A) x g pc lv stk
set_option maxRecDepth 100000 in
set_option maxHeartbeats 4000000 in
theorem cM_isSo (l : Launch) (D : va_G) (T : cT) (ad : Nat → Nat) (xo : Sl) (g : St) (o : Int32 × St) (h : fM_isSo g = some o) (sz : Nat) : Met l yX12_isSo wM_isSo (rmM_isSo) (va_Pc [.ref (ad 0)] (wPre shM D T ad xo g sz)) (va_Qi (eqZ o.1 o.2 xo) (wPost shM D T ad (aW shM T ad xo g sz)) (aW shM T ad xo g sz)) 0 0 (aW shM T ad xo g sz) := by
  refine g_start (Qc := fun A => va_Qi (eqZ o.1 o.2 xo) (wPost shM D T ad A) A) (by decide +kernel) rfl rfl (Nat.le_of_ble_eq_true rfl) (lv := [(0, .ref (ad 0))]) rfl (fun Γ C => ?_)
  show GcM_isSo l D T ad Γ o xo xo g 0 [(0, .ref (ad 0))] []
  have J6 : ∀ (x1 : Int32) (g : St), fM_isSo_b6 x1 g = some o → GcM_isSo l D T ad Γ o xo xo g 6 [(0, .ref (ad 0)), (1, .int x1)] [] := by
    intro x1 g h
    obtain ⟨t, ht, h⟩ := bnd h
    refine lp_run (P := fun x1 : Int32 => GcM_isSo l D T ad Γ o xo xo g 6 [(0, .ref (ad 0)), (1, .int x1)] []) (E := Sum.elim (fun _ : Unit => GcM_isSo l D T ad Γ o xo xo g 41 [] []) (fun _ : Unit => GcM_isSo l D T ad Γ o xo xo g 49 [] [])) ?_ _ _ _ ht ?_
    · rintro x1 z h Kt Ke
      show GcM_isSo l D T ad Γ o xo xo g 6 [(0, .ref (ad 0)), (1, .int x1)] []
      refine g_iload_n C dX12_isSo_6 rfl 1 rfl ?_
      refine g_aload_n C dX12_isSo_7 rfl 0 rfl ?_
      refine gM_get_lines (v := g 0 31) C rfl dX12_isSo_8 ?_
      refine g_icmp_ge C 49 dX12_isSo_11 (by decide) (fun c11 => ?_) (fun c11 => ?_)
      · have h := iteT c11 h
        exact g_sub [] rfl (Ke _ (Option.some.inj h).symm)
      · have h := iteF c11 h
        refine g_aload_n C dX12_isSo_14 rfl 0 rfl ?_
        refine g_aload_n C dX12_isSo_15 rfl 0 rfl ?_
        refine gM_get_trial C dX12_isSo_16 ?_
        refine g_aload_n C dX12_isSo_19 rfl 0 rfl ?_
        refine gM_get_line C dX12_isSo_20 ?_
        refine g_iload_n C dX12_isSo_23 rfl 1 rfl ?_
        obtain ⟨hi24, h⟩ := grd h
        refine g_aald (n := 8) (q := (362 + x1.toNatClampNeg)) C lg_11 hi24 rfl dX12_isSo_24 ?_
        refine g_iconst C dX12_isSo_25 ic_0 ?_
        refine g_iald (n := 2) (v := g (362 + x1.toNatClampNeg) 0) C (lenM_line hi24) (by decide) rfl dX12_isSo_26 ?_
        obtain ⟨r27, hr27, h⟩ := bnd h
        refine g_cVi (k := 0) (As := [.ref (ad 17), .int (g (362 + x1.toNatClampNeg) 0)]) (rest := []) (ro := r27) (go := g) (xo := xo) C (fun sz => cM_stones l D T ad xo g 17 (g (362 + x1.toNatClampNeg) 0) _ hr27 sz) kM_stones ⟨Nat.le_of_ble_eq_true rfl, Nat.le_of_ble_eq_true rfl⟩ ⟨rfl, rfl⟩ ⟨Nat.zero_le _, Nat.zero_le _⟩ (rfl : vwCl[11]? = some (RX12, TX12, 48)) kM0 rfl rfl (Nat.le_of_ble_eq_true rfl) dX12_isSo_27 ?_
        refine g_aload_n C dX12_isSo_30 rfl 0 rfl ?_
        refine gM_get_line C dX12_isSo_31 ?_
        refine g_iload_n C dX12_isSo_34 rfl 1 rfl ?_
        refine g_aald (n := 8) (q := (362 + x1.toNatClampNeg)) C lg_11 hi24 rfl dX12_isSo_35 ?_
        refine g_iconst C dX12_isSo_36 ic_1 ?_
        refine g_iald (n := 2) (v := g (362 + x1.toNatClampNeg) 1) C (lenM_line hi24) (by decide) rfl dX12_isSo_37 ?_
        refine g_icmp_eq C 43 dX12_isSo_38 (by decide) (fun c38 => ?_) (fun c38 => ?_)
        · have h := iteT c38 h
          refine g_iinc (lv' := [(1, .int (x1 + (1 : Int32))), (0, .ref (ad 0))]) C dX12_isSo_43 1 rfl (ii_1 _) (Nat.le_of_ble_eq_true rfl) rfl ?_
          refine g_goto (tgt := 6) C dX12_isSo_46 (by decide) ?_
          exact g_sub [1, 0] rfl (Kt _ (Option.some.inj h).symm)
        · have h := iteF c38 h
          exact g_sub [] rfl (Ke _ (Option.some.inj h).symm)
    · rcases t with _ | _
      · show GcM_isSo l D T ad Γ o xo xo g 41 [] []
        refine g_iconst C dX12_isSo_41 ic_0 ?_
        obtain rfl := Option.some.inj h
        exact g_zret C rfl rfl rfl rfl dX12_isSo_42
      · show GcM_isSo l D T ad Γ o xo xo g 49 [] []
        refine g_iconst C dX12_isSo_49 ic_1 ?_
        obtain rfl := Option.some.inj h
        exact g_zret C rfl rfl rfl rfl dX12_isSo_50
  refine g_aload_n C dX12_isSo_0 rfl 0 rfl ?_
  obtain ⟨g1, hr1, h⟩ := bnd h
  refine g_cVv (k := 0) (As := []) (rest := []) (go := g1) (xo := xo) C (fun sz => cM_dieSo l D T ad xo g _ hr1 sz) kM_dieSo ⟨Nat.le_of_ble_eq_true rfl, Nat.le_of_ble_eq_true rfl⟩ ⟨rfl, rfl⟩ ⟨Nat.zero_le _, Nat.zero_le _⟩ (rfl : vwCl[11]? = some (RX12, TX12, 48)) kM0 rfl rfl (Nat.le_of_ble_eq_true rfl) dX12_isSo_1 ?_
  refine g_iconst C dX12_isSo_4 ic_0 ?_
  refine g_istore_n (lv' := [(1, .int (0 : Int32)), (0, .ref (ad 0))]) C dX12_isSo_5 rfl (Nat.le_of_ble_eq_true rfl) rfl ?_
  exact g_sub [1, 0] rfl (J6 (0 : Int32) g1 h)
def fM_fits_b76 (x2 : Int32) (x3 : Int32) (x4 : Int32) (g : St) : Option ((Int32 × Int32 × St) ⊕ ((Int32 × Int32 × St))) :=
  (fM_nextOrder g).bind fun ⟨r77, g77⟩ => (if r77 = 0 then
    (some (.inr (x3, x4, g77)))
  else
    (some (.inl (x3, x4, g77))))
def fM_fits_b71 (x2 : Int32) (x3 : Int32) (s0 : Int32) (g : St) : Option ((Int32 × Int32 × St) ⊕ ((Int32 × Int32 × St))) :=
  fM_fits_b76 x2 (x3 + (1 : Int32)) s0 g
def fM_fits_L48 (x2 : Int32) : (Int32 × Int32 × St) → Option ((Int32 × Int32 × St) ⊕ ((Int32 × Int32 × St))) := fun ⟨x3, x4, g⟩ =>
  (fM_isSo g).bind fun ⟨r49, g49⟩ => (if r49 = 0 then
    (fM_fits_b76 x2 x3 x4 g49)
  else
    (if x3 = 0 then
    ((fM_digits g49).bind fun r63 => (fM_fits_b71 x2 x3 r63 g49))
  else
    (fM_fits_b71 x2 x3 x4 g49)))
def fM_fits_b48 (x2 : Int32) (x3 : Int32) (x4 : Int32) (g : St) : Option (Int32 × St) :=
  (lp (fM_fits_L48 x2) fuel (x3, x4, g)).bind (fun ⟨x3, x4, g⟩ => if x2 = 0 then
    (some (x3, g))
  else
    (some (x4, g)))
def fM_fits_b28 (x1 : Int32) (x2 : Int32) (s1 : Int32) (g : St) : Option (Int32 × St) :=
  (fM_bad s1 (1 : Int32) (1 : Int32) g).bind fun ⟨r30, g30⟩ => (if r30 = 0 then
    ((fM_firstOrder x1 g30).bind fun g45 => (fM_fits_b48 x2 (0 : Int32) (-1 : Int32) g45))
  else
    (some ((0 : Int32), g30)))
def fM_fits_b23 (x1 : Int32) (x2 : Int32) (g : St) : Option (Int32 × St) :=
  fM_fits_b28 x1 x2 (1 : Int32) g
def fM_fits (x1 : Int32) (x2 : Int32) (g : St) : Option (Int32 × St) :=
  (fM_isOrder x1 (st g 0 0 (0 : Int32))).bind fun r8 => (if r8 = 0 then
    (fM_fits_b23 x1 x2 (st g 0 0 (0 : Int32)))
  else
    (if (fM_in x2 (0 : Int32) (1 : Int32)) = 0 then
    (fM_fits_b23 x1 x2 (st g 0 0 (0 : Int32)))
  else
    (fM_fits_b28 x1 x2 (0 : Int32) (st g 0 0 (0 : Int32)))))
def rmM_fits : Room := { frames := 10, cells := 0, slots := 0, locals := 229 }
abbrev GcM_fits (l : Launch) (D : va_G) (T : cT) (ad : Nat → Nat) (Γ : Cxt) (o : Int32 × St) (xo : Sl) (x : Sl) (g : St) (pc : Nat) (lv : List (Nat × Value)) (stk : List Value) : Prop := Gj l shM D T ad 5 (rmM_fits) 0 0 Γ (MQ Γ.below (va_Qi (eqI o.1 o.2 xo) (wPost shM D T ad Γ.A) Γ.A) Γ.args Γ.s 0 0 Γ.A) x g pc lv stk
set_option maxRecDepth 100000 in
set_option maxHeartbeats 4000000 in
theorem cM_fits (l : Launch) (D : va_G) (T : cT) (ad : Nat → Nat) (xo : Sl) (g : St) (x1 : Int32) (x2 : Int32) (o : Int32 × St) (h : fM_fits x1 x2 g = some o) (sz : Nat) : Met l yX12_fits wM_fits (rmM_fits) (va_Pc [.ref (ad 0), .int x1, .int x2] (wPre shM D T ad xo g sz)) (va_Qi (eqI o.1 o.2 xo) (wPost shM D T ad (aW shM T ad xo g sz)) (aW shM T ad xo g sz)) 0 0 (aW shM T ad xo g sz) := by
  refine g_start (Qc := fun A => va_Qi (eqI o.1 o.2 xo) (wPost shM D T ad A) A) (by decide +kernel) rfl rfl (Nat.le_of_ble_eq_true rfl) (lv := [(0, .ref (ad 0)), (1, .int x1), (2, .int x2)]) rfl (fun Γ C => ?_)
  show GcM_fits l D T ad Γ o xo xo g 0 [(0, .ref (ad 0)), (1, .int x1), (2, .int x2)] []
  have J48 : ∀ (x2 : Int32) (x3 : Int32) (x4 : Int32) (g : St), fM_fits_b48 x2 x3 x4 g = some o → GcM_fits l D T ad Γ o xo xo g 48 [(0, .ref (ad 0)), (2, .int x2), (3, .int x3), (4, .int x4)] [] := by
    intro x2 x3 x4 g h
    obtain ⟨⟨x3, x4, g⟩, ht, h⟩ := bnd h
    refine lp_run (P := fun t : Int32 × Int32 × St => match t with | (x3, x4, g) => GcM_fits l D T ad Γ o xo xo g 48 [(0, .ref (ad 0)), (2, .int x2), (3, .int x3), (4, .int x4)] []) (E := fun t : Int32 × Int32 × St => match t with | (x3, x4, g) => GcM_fits l D T ad Γ o xo xo g 83 [(2, .int x2), (3, .int x3), (4, .int x4)] []) ?_ _ _ _ ht ?_
    · rintro ⟨x3, x4, g⟩ z h Kt Ke
      show GcM_fits l D T ad Γ o xo xo g 48 [(0, .ref (ad 0)), (2, .int x2), (3, .int x3), (4, .int x4)] []
      have J76 : ∀ (x3 : Int32) (x4 : Int32) (g : St), fM_fits_b76 x2 x3 x4 g = some z → GcM_fits l D T ad Γ o xo xo g 76 [(0, .ref (ad 0)), (2, .int x2), (3, .int x3), (4, .int x4)] [] := by
        intro x3 x4 g h
        refine g_aload_n C dX12_fits_76 rfl 0 rfl ?_
        obtain ⟨⟨r77, g77⟩, hr77, h⟩ := bnd h
        refine g_cVz (k := 0) (As := []) (rest := []) (ro := r77) (go := g77) (xo := xo) C (fun sz => cM_nextOrder l D T ad xo g _ hr77 sz) kM_nextOrder ⟨Nat.le_of_ble_eq_true rfl, Nat.le_of_ble_eq_true rfl⟩ ⟨rfl, rfl⟩ ⟨Nat.zero_le _, Nat.zero_le _⟩ (rfl : vwCl[11]? = some (RX12, TX12, 48)) kM0 rfl rfl (Nat.le_of_ble_eq_true rfl) dX12_fits_77 (fun hz77 => ?_)
        refine g_if_ne C 48 dX12_fits_80 (by decide) (fun c80 => ?_) (fun c80 => ?_)
        · have h := iteT c80 h
          exact g_sub [1, 2, 3] rfl (Ke _ (Option.some.inj h).symm)
        · have h := iteF c80 h
          exact g_sub [0, 1, 2, 3] rfl (Kt _ (Option.some.inj h).symm)
      have J71 : ∀ (x3 : Int32) (s0 : Int32) (g : St), fM_fits_b71 x2 x3 s0 g = some z → GcM_fits l D T ad Γ o xo xo g 71 [(0, .ref (ad 0)), (2, .int x2), (3, .int x3)] [.int s0] := by
        intro x3 s0 g h
        refine g_istore (lv' := [(4, .int s0), (0, .ref (ad 0)), (2, .int x2), (3, .int x3)]) C dX12_fits_71 (Nat.le_of_ble_eq_true rfl) rfl ?_
        refine g_iinc (lv' := [(3, .int (x3 + (1 : Int32))), (4, .int s0), (0, .ref (ad 0)), (2, .int x2)]) C dX12_fits_73 3 rfl (ii_1 _) (Nat.le_of_ble_eq_true rfl) rfl ?_
        exact g_sub [2, 3, 0, 1] rfl (J76 (x3 + (1 : Int32)) s0 g h)
      refine g_aload_n C dX12_fits_48 rfl 0 rfl ?_
      obtain ⟨⟨r49, g49⟩, hr49, h⟩ := bnd h
      refine g_cVz (k := 0) (As := []) (rest := []) (ro := r49) (go := g49) (xo := xo) C (fun sz => cM_isSo l D T ad xo g _ hr49 sz) kM_isSo ⟨Nat.le_of_ble_eq_true rfl, Nat.le_of_ble_eq_true rfl⟩ ⟨rfl, rfl⟩ ⟨Nat.zero_le _, Nat.zero_le _⟩ (rfl : vwCl[11]? = some (RX12, TX12, 48)) kM0 rfl rfl (Nat.le_of_ble_eq_true rfl) dX12_fits_49 (fun hz49 => ?_)
      refine g_if_ne C 58 dX12_fits_52 (by decide) (fun c52 => ?_) (fun c52 => ?_)
      · have h := iteT c52 h
        refine g_goto (tgt := 76) C dX12_fits_55 (by decide) ?_
        exact J76 x3 x4 g49 h
      · have h := iteF c52 h
        refine g_iload_n C dX12_fits_58 rfl 2 rfl ?_
        refine g_if_ne C 69 dX12_fits_59 (by decide) (fun c59 => ?_) (fun c59 => ?_)
        · have h := iteT c59 h
          refine g_aload_n C dX12_fits_62 rfl 0 rfl ?_
          obtain ⟨r63, hr63, h⟩ := bnd h
          refine g_cVi (k := 0) (As := []) (rest := []) (ro := r63) (go := g49) (xo := xo) C (fun sz => cM_digits l D T ad xo g49 _ hr63 sz) kM_digits ⟨Nat.le_of_ble_eq_true rfl, Nat.le_of_ble_eq_true rfl⟩ ⟨rfl, rfl⟩ ⟨Nat.zero_le _, Nat.zero_le _⟩ (rfl : vwCl[11]? = some (RX12, TX12, 48)) kM0 rfl rfl (Nat.le_of_ble_eq_true rfl) dX12_fits_63 ?_
          refine g_goto (tgt := 71) C dX12_fits_66 (by decide) ?_
          exact g_sub [0, 1, 2] rfl (J71 x3 r63 g49 h)
        · have h := iteF c59 h
          refine g_iload C dX12_fits_69 3 rfl ?_
          exact g_sub [0, 1, 2] rfl (J71 x3 x4 g49 h)
    · show GcM_fits l D T ad Γ o xo xo g 83 [(2, .int x2), (3, .int x3), (4, .int x4)] []
      refine g_iload_n C dX12_fits_83 rfl 0 rfl ?_
      refine g_if_ne C 91 dX12_fits_84 (by decide) (fun c84 => ?_) (fun c84 => ?_)
      · have h := iteT c84 h
        refine g_iload_n C dX12_fits_87 rfl 1 rfl ?_
        refine g_goto (tgt := 93) C dX12_fits_88 (by decide) ?_
        obtain rfl := Option.some.inj h
        exact g_iret C rfl rfl rfl dX12_fits_93
      · have h := iteF c84 h
        refine g_iload C dX12_fits_91 2 rfl ?_
        obtain rfl := Option.some.inj h
        exact g_iret C rfl rfl rfl dX12_fits_93
  have J28 : ∀ (x1 : Int32) (x2 : Int32) (s1 : Int32) (g : St), fM_fits_b28 x1 x2 s1 g = some o → GcM_fits l D T ad Γ o xo xo g 28 [(0, .ref (ad 0)), (1, .int x1), (2, .int x2)] [.int s1, .ref (ad 0)] := by
    intro x1 x2 s1 g h
    refine g_iconst C dX12_fits_28 ic_1 ?_
    refine g_iconst C dX12_fits_29 ic_1 ?_
    obtain ⟨⟨r30, g30⟩, hr30, h⟩ := bnd h
    refine g_cVz (k := 0) (As := [.int s1, .int (1 : Int32), .int (1 : Int32)]) (rest := []) (ro := r30) (go := g30) (xo := xo) C (fun sz => cM_bad l D T ad xo g s1 (1 : Int32) (1 : Int32) _ hr30 sz) kM_bad ⟨Nat.le_of_ble_eq_true rfl, Nat.le_of_ble_eq_true rfl⟩ ⟨rfl, rfl⟩ ⟨Nat.zero_le _, Nat.zero_le _⟩ (rfl : vwCl[11]? = some (RX12, TX12, 48)) kM0 rfl rfl (Nat.le_of_ble_eq_true rfl) dX12_fits_30 (fun hz30 => ?_)
    refine g_if_eq C 38 dX12_fits_33 (by decide) (fun c33 => ?_) (fun c33 => ?_)
    · have h := iteT c33 h
      refine g_iconst C dX12_fits_38 ic_0 ?_
      refine g_istore_n (lv' := [(3, .int (0 : Int32)), (0, .ref (ad 0)), (1, .int x1), (2, .int x2)]) C dX12_fits_39 rfl (Nat.le_of_ble_eq_true rfl) rfl ?_
      refine g_iconst C dX12_fits_40 ic_m1 ?_
      refine g_istore (lv' := [(4, .int (-1 : Int32)), (3, .int (0 : Int32)), (0, .ref (ad 0)), (1, .int x1), (2, .int x2)]) C dX12_fits_41 (Nat.le_of_ble_eq_true rfl) rfl ?_
      refine g_aload_n C dX12_fits_43 rfl 2 rfl ?_
      refine g_iload_n C dX12_fits_44 rfl 3 rfl ?_
      obtain ⟨g45, hr45, h⟩ := bnd h
      refine g_cVv (k := 0) (As := [.int x1]) (rest := []) (go := g45) (xo := xo) C (fun sz => cM_firstOrder l D T ad xo g30 x1 _ hr45 sz) kM_firstOrder ⟨Nat.le_of_ble_eq_true rfl, Nat.le_of_ble_eq_true rfl⟩ ⟨rfl, rfl⟩ ⟨Nat.zero_le _, Nat.zero_le _⟩ (rfl : vwCl[11]? = some (RX12, TX12, 48)) kM0 rfl rfl (Nat.le_of_ble_eq_true rfl) dX12_fits_45 ?_
      exact g_sub [2, 4, 1, 0] rfl (J48 x2 (0 : Int32) (-1 : Int32) g45 h)
    · have h := iteF c33 h
      refine g_iconst C dX12_fits_36 ic_0 ?_
      obtain rfl := Option.some.inj h
      exact g_iret C rfl rfl rfl dX12_fits_37
  have J23 : ∀ (x1 : Int32) (x2 : Int32) (g : St), fM_fits_b23 x1 x2 g = some o → GcM_fits l D T ad Γ o xo xo g 23 [(0, .ref (ad 0)), (1, .int x1), (2, .int x2)] [.ref (ad 0)] := by
    intro x1 x2 g h
    refine g_iconst C dX12_fits_23 ic_1 ?_
    refine g_goto (tgt := 28) C dX12_fits_24 (by decide) ?_
    exact J28 x1 x2 (1 : Int32) g h
  refine g_aload_n C dX12_fits_0 rfl 0 rfl ?_
  refine g_iconst C dX12_fits_1 ic_0 ?_
  refine gM_put_thrown C dX12_fits_2 ?_
  refine g_aload_n C dX12_fits_5 rfl 0 rfl ?_
  refine g_aload_n C dX12_fits_6 rfl 0 rfl ?_
  refine g_iload_n C dX12_fits_7 rfl 1 rfl ?_
  obtain ⟨r8, hr8, h⟩ := bnd h
  refine g_cVz (k := 0) (As := [.int x1]) (rest := [.ref (ad 0)]) (ro := r8) (go := (st g 0 0 (0 : Int32))) (xo := xo) C (fun sz => cM_isOrder l D T ad xo (st g 0 0 (0 : Int32)) x1 _ hr8 sz) kM_isOrder ⟨Nat.le_of_ble_eq_true rfl, Nat.le_of_ble_eq_true rfl⟩ ⟨rfl, rfl⟩ ⟨Nat.zero_le _, Nat.zero_le _⟩ (rfl : vwCl[11]? = some (RX12, TX12, 48)) kM0 rfl rfl (Nat.le_of_ble_eq_true rfl) dX12_fits_8 (fun hz8 => ?_)
  refine g_if_eq C 23 dX12_fits_11 (by decide) (fun c11 => ?_) (fun c11 => ?_)
  · have h := iteT c11 h
    exact J23 x1 x2 (st g 0 0 (0 : Int32)) h
  · have h := iteF c11 h
    refine g_iload_n C dX12_fits_14 rfl 2 rfl ?_
    refine g_iconst C dX12_fits_15 ic_0 ?_
    refine g_iconst C dX12_fits_16 ic_1 ?_
    refine g_cSz (As := [.int x2, .int (0 : Int32), .int (1 : Int32)]) (rest := [.ref (ad 0)]) (ro := (fM_in x2 (0 : Int32) (1 : Int32))) (go := (st g 0 0 (0 : Int32))) (xo := xo) C (fun sz => cM_in l D T ad xo (st g 0 0 (0 : Int32)) x2 (0 : Int32) (1 : Int32) _ rfl sz) kM_in ⟨Nat.le_of_ble_eq_true rfl, Nat.le_of_ble_eq_true rfl⟩ ⟨rfl, rfl⟩ ⟨Nat.zero_le _, Nat.zero_le _⟩ rfl rfl (Nat.le_of_ble_eq_true rfl) dX12_fits_17 (fun hz17 => ?_)
    refine g_if_ne C 27 dX12_fits_20 (by decide) (fun c20 => ?_) (fun c20 => ?_)
    · have h := iteT c20 h
      exact J23 x1 x2 (st g 0 0 (0 : Int32)) h
    · have h := iteF c20 h
      refine g_iconst C dX12_fits_27 ic_0 ?_
      exact J28 x1 x2 (0 : Int32) (st g 0 0 (0 : Int32)) h
def fM_isTold_L2 (x1 : Int32) (g : St) : Int32 → Option ((Int32) ⊕ (Unit ⊕ Unit)) := fun x2 =>
  if (g 0 31) ≤ x2 then
    (some (.inr (.inr ())))
  else
    (if ¬ (x2 < 0 ∨ 8 ≤ x2.toNatClampNeg) then (if (g (362 + x2.toNatClampNeg) 0) = x1 then
    (some (.inr (.inl ())))
  else
    (some (.inl (x2 + (1 : Int32))))) else none)
def fM_isTold_b2 (x1 : Int32) (x2 : Int32) (g : St) : Option (Int32) :=
  (lp (fM_isTold_L2 x1 g) fuel x2).bind (Sum.elim (fun _ => some (1 : Int32)) (fun _ => some (0 : Int32)))
def fM_isTold (x1 : Int32) (g : St) : Option (Int32) :=
  fM_isTold_b2 x1 (0 : Int32) g
def rmM_isTold : Room := { frames := 0, cells := 0, slots := 0, locals := 0 }
abbrev GcM_isTold (l : Launch) (D : va_G) (T : cT) (ad : Nat → Nat) (Γ : Cxt) (o : Int32) (xo : Sl) (g0 : St) (x : Sl) (g : St) (pc : Nat) (lv : List (Nat × Value)) (stk : List Value) : Prop := Gj l shM D T ad 3 (rmM_isTold) 0 0 Γ (MQ Γ.below (va_Qi (eqZ o g0 xo) (wPost shM D T ad Γ.A) Γ.A) Γ.args Γ.s 0 0 Γ.A) x g pc lv stk
set_option maxRecDepth 100000 in
set_option maxHeartbeats 4000000 in
theorem cM_isTold (l : Launch) (D : va_G) (T : cT) (ad : Nat → Nat) (xo : Sl) (g : St) (x1 : Int32) (o : Int32) (h : fM_isTold x1 g = some o) (sz : Nat) : Met l yX12_isTold wM_isTold (rmM_isTold) (va_Pc [.ref (ad 0), .int x1] (wPre shM D T ad xo g sz)) (va_Qi (eqZ o g xo) (wPost shM D T ad (aW shM T ad xo g sz)) (aW shM T ad xo g sz)) 0 0 (aW shM T ad xo g sz) := by
  refine g_start (Qc := fun A => va_Qi (eqZ o g xo) (wPost shM D T ad A) A) (by decide +kernel) rfl rfl (Nat.le_of_ble_eq_true rfl) (lv := [(0, .ref (ad 0)), (1, .int x1)]) rfl (fun Γ C => ?_)
  show GcM_isTold l D T ad Γ o xo g xo g 0 [(0, .ref (ad 0)), (1, .int x1)] []
  have J2 : ∀ (x1 : Int32) (x2 : Int32), fM_isTold_b2 x1 x2 g = some o → GcM_isTold l D T ad Γ o xo g xo g 2 [(0, .ref (ad 0)), (1, .int x1), (2, .int x2)] [] := by
    intro x1 x2 h
    obtain ⟨t, ht, h⟩ := bnd h
    refine lp_run (P := fun x2 : Int32 => GcM_isTold l D T ad Γ o xo g xo g 2 [(0, .ref (ad 0)), (1, .int x1), (2, .int x2)] []) (E := Sum.elim (fun _ : Unit => GcM_isTold l D T ad Γ o xo g xo g 22 [] []) (fun _ : Unit => GcM_isTold l D T ad Γ o xo g xo g 30 [] [])) ?_ _ _ _ ht ?_
    · rintro x2 z h Kt Ke
      show GcM_isTold l D T ad Γ o xo g xo g 2 [(0, .ref (ad 0)), (1, .int x1), (2, .int x2)] []
      refine g_iload_n C dX12_isTold_2 rfl 2 rfl ?_
      refine g_aload_n C dX12_isTold_3 rfl 0 rfl ?_
      refine gM_get_lines (v := g 0 31) C rfl dX12_isTold_4 ?_
      refine g_icmp_ge C 30 dX12_isTold_7 (by decide) (fun c7 => ?_) (fun c7 => ?_)
      · have h := iteT c7 h
        exact g_sub [] rfl (Ke _ (Option.some.inj h).symm)
      · have h := iteF c7 h
        refine g_aload_n C dX12_isTold_10 rfl 0 rfl ?_
        refine gM_get_line C dX12_isTold_11 ?_
        refine g_iload_n C dX12_isTold_14 rfl 2 rfl ?_
        obtain ⟨hi15, h⟩ := grd h
        refine g_aald (n := 8) (q := (362 + x2.toNatClampNeg)) C lg_11 hi15 rfl dX12_isTold_15 ?_
        refine g_iconst C dX12_isTold_16 ic_0 ?_
        refine g_iald (n := 2) (v := g (362 + x2.toNatClampNeg) 0) C (lenM_line hi15) (by decide) rfl dX12_isTold_17 ?_
        refine g_iload_n C dX12_isTold_18 rfl 1 rfl ?_
        refine g_icmp_ne C 24 dX12_isTold_19 (by decide) (fun c19 => ?_) (fun c19 => ?_)
        · have h := iteT c19 h
          exact g_sub [] rfl (Ke _ (Option.some.inj h).symm)
        · have h := iteF c19 h
          refine g_iinc (lv' := [(2, .int (x2 + (1 : Int32))), (0, .ref (ad 0)), (1, .int x1)]) C dX12_isTold_24 2 rfl (ii_1 _) (Nat.le_of_ble_eq_true rfl) rfl ?_
          refine g_goto (tgt := 2) C dX12_isTold_27 (by decide) ?_
          exact g_sub [1, 2, 0] rfl (Kt _ (Option.some.inj h).symm)
    · rcases t with _ | _
      · show GcM_isTold l D T ad Γ o xo g xo g 22 [] []
        refine g_iconst C dX12_isTold_22 ic_1 ?_
        obtain rfl := Option.some.inj h
        exact g_zret C rfl rfl rfl rfl dX12_isTold_23
      · show GcM_isTold l D T ad Γ o xo g xo g 30 [] []
        refine g_iconst C dX12_isTold_30 ic_0 ?_
        obtain rfl := Option.some.inj h
        exact g_zret C rfl rfl rfl rfl dX12_isTold_31
  refine g_iconst C dX12_isTold_0 ic_0 ?_
  refine g_istore_n (lv' := [(2, .int (0 : Int32)), (0, .ref (ad 0)), (1, .int x1)]) C dX12_isTold_1 rfl (Nat.le_of_ble_eq_true rfl) rfl ?_
  exact g_sub [1, 2, 0] rfl (J2 x1 (0 : Int32) h)
def fM_worstAt_b75 (x2 : Int32) (x3 : Int32) (g : St) : Option ((Int32 × St) ⊕ ((Int32 × St))) :=
  (fM_nextOrder g).bind fun ⟨r76, g76⟩ => (if r76 = 0 then
    (some (.inr (x3, g76)))
  else
    (some (.inl (x3, g76))))
def fM_worstAt_L31 (x2 : Int32) : (Int32 × St) → Option ((Int32 × St) ⊕ ((Int32 × St))) := fun ⟨x3, g⟩ =>
  (fM_isSo g).bind fun ⟨r32, g32⟩ => (if r32 = 0 then
    (fM_worstAt_b75 x2 x3 g32)
  else
    ((fM_stones 17 x2 g32).bind fun r47 => (if ¬ (r47 < 0 ∨ 9 ≤ r47.toNatClampNeg) then (fM_worstAt_b75 x2 (fM_more x3 ((st g32 24 r47.toNatClampNeg ((g32 24 r47.toNatClampNeg) + (1 : Int32))) 24 r47.toNatClampNeg)) (st g32 24 r47.toNatClampNeg ((g32 24 r47.toNatClampNeg) + (1 : Int32)))) else none)))
def fM_worstAt_b31 (x2 : Int32) (x3 : Int32) (g : St) : Option (Int32 × St) :=
  (lp (fM_worstAt_L31 x2) fuel (x3, g)).bind (fun ⟨x3, g⟩ => some (x3, g))
def fM_worstAt_L5 (x1 : Int32) (x2 : Int32) (x3 : Int32) : (Int32 × St) → Option ((Int32 × St) ⊕ (St)) := fun ⟨x4, g⟩ =>
  if (8 : Int32) < x4 then
    (some (.inr g))
  else
    (if ¬ (x4 < 0 ∨ 9 ≤ x4.toNatClampNeg) then (some (.inl ((x4 + (1 : Int32)), (st g 24 x4.toNatClampNeg (0 : Int32))))) else none)
def fM_worstAt_b5 (x1 : Int32) (x2 : Int32) (x3 : Int32) (x4 : Int32) (g : St) : Option (Int32 × St) :=
  (lp (fM_worstAt_L5 x1 x2 x3) fuel (x4, g)).bind (fun g => (fM_firstOrder x1 g).bind fun g28 => (fM_worstAt_b31 x2 x3 g28))
def fM_worstAt (x1 : Int32) (x2 : Int32) (g : St) : Option (Int32 × St) :=
  fM_worstAt_b5 x1 x2 (0 : Int32) (0 : Int32) g
def rmM_worstAt : Room := { frames := 10, cells := 0, slots := 0, locals := 229 }
abbrev GcM_worstAt (l : Launch) (D : va_G) (T : cT) (ad : Nat → Nat) (Γ : Cxt) (o : Int32 × St) (xo : Sl) (x : Sl) (g : St) (pc : Nat) (lv : List (Nat × Value)) (stk : List Value) : Prop := Gj l shM D T ad 5 (rmM_worstAt) 0 0 Γ (MQ Γ.below (va_Qi (eqI o.1 o.2 xo) (wPost shM D T ad Γ.A) Γ.A) Γ.args Γ.s 0 0 Γ.A) x g pc lv stk
set_option maxRecDepth 100000 in
set_option maxHeartbeats 4000000 in
theorem cM_worstAt (l : Launch) (D : va_G) (T : cT) (ad : Nat → Nat) (xo : Sl) (g : St) (x1 : Int32) (x2 : Int32) (o : Int32 × St) (h : fM_worstAt x1 x2 g = some o) (sz : Nat) : Met l yX12_worstAt wM_worstAt (rmM_worstAt) (va_Pc [.ref (ad 0), .int x1, .int x2] (wPre shM D T ad xo g sz)) (va_Qi (eqI o.1 o.2 xo) (wPost shM D T ad (aW shM T ad xo g sz)) (aW shM T ad xo g sz)) 0 0 (aW shM T ad xo g sz) := by
  refine g_start (Qc := fun A => va_Qi (eqI o.1 o.2 xo) (wPost shM D T ad A) A) (by decide +kernel) rfl rfl (Nat.le_of_ble_eq_true rfl) (lv := [(0, .ref (ad 0)), (1, .int x1), (2, .int x2)]) rfl (fun Γ C => ?_)
  show GcM_worstAt l D T ad Γ o xo xo g 0 [(0, .ref (ad 0)), (1, .int x1), (2, .int x2)] []
  have J31 : ∀ (x2 : Int32) (x3 : Int32) (g : St), fM_worstAt_b31 x2 x3 g = some o → GcM_worstAt l D T ad Γ o xo xo g 31 [(0, .ref (ad 0)), (2, .int x2), (3, .int x3)] [] := by
    intro x2 x3 g h
    obtain ⟨⟨x3, g⟩, ht, h⟩ := bnd h
    refine lp_run (P := fun t : Int32 × St => match t with | (x3, g) => GcM_worstAt l D T ad Γ o xo xo g 31 [(0, .ref (ad 0)), (2, .int x2), (3, .int x3)] []) (E := fun t : Int32 × St => match t with | (x3, g) => GcM_worstAt l D T ad Γ o xo xo g 82 [(3, .int x3)] []) ?_ _ _ _ ht ?_
    · rintro ⟨x3, g⟩ z h Kt Ke
      show GcM_worstAt l D T ad Γ o xo xo g 31 [(0, .ref (ad 0)), (2, .int x2), (3, .int x3)] []
      have J75 : ∀ (x3 : Int32) (g : St), fM_worstAt_b75 x2 x3 g = some z → GcM_worstAt l D T ad Γ o xo xo g 75 [(0, .ref (ad 0)), (2, .int x2), (3, .int x3)] [] := by
        intro x3 g h
        refine g_aload_n C dX12_worstAt_75 rfl 0 rfl ?_
        obtain ⟨⟨r76, g76⟩, hr76, h⟩ := bnd h
        refine g_cVz (k := 0) (As := []) (rest := []) (ro := r76) (go := g76) (xo := xo) C (fun sz => cM_nextOrder l D T ad xo g _ hr76 sz) kM_nextOrder ⟨Nat.le_of_ble_eq_true rfl, Nat.le_of_ble_eq_true rfl⟩ ⟨rfl, rfl⟩ ⟨Nat.zero_le _, Nat.zero_le _⟩ (rfl : vwCl[11]? = some (RX12, TX12, 48)) kM0 rfl rfl (Nat.le_of_ble_eq_true rfl) dX12_worstAt_76 (fun hz76 => ?_)
        refine g_if_ne C 31 dX12_worstAt_79 (by decide) (fun c79 => ?_) (fun c79 => ?_)
        · have h := iteT c79 h
          exact g_sub [2] rfl (Ke _ (Option.some.inj h).symm)
        · have h := iteF c79 h
          exact g_sub [0, 1, 2] rfl (Kt _ (Option.some.inj h).symm)
      refine g_aload_n C dX12_worstAt_31 rfl 0 rfl ?_
      obtain ⟨⟨r32, g32⟩, hr32, h⟩ := bnd h
      refine g_cVz (k := 0) (As := []) (rest := []) (ro := r32) (go := g32) (xo := xo) C (fun sz => cM_isSo l D T ad xo g _ hr32 sz) kM_isSo ⟨Nat.le_of_ble_eq_true rfl, Nat.le_of_ble_eq_true rfl⟩ ⟨rfl, rfl⟩ ⟨Nat.zero_le _, Nat.zero_le _⟩ (rfl : vwCl[11]? = some (RX12, TX12, 48)) kM0 rfl rfl (Nat.le_of_ble_eq_true rfl) dX12_worstAt_32 (fun hz32 => ?_)
      refine g_if_ne C 41 dX12_worstAt_35 (by decide) (fun c35 => ?_) (fun c35 => ?_)
      · have h := iteT c35 h
        refine g_goto (tgt := 75) C dX12_worstAt_38 (by decide) ?_
        exact J75 x3 g32 h
      · have h := iteF c35 h
        refine g_aload_n C dX12_worstAt_41 rfl 0 rfl ?_
        refine g_aload_n C dX12_worstAt_42 rfl 0 rfl ?_
        refine gM_get_trial C dX12_worstAt_43 ?_
        refine g_iload_n C dX12_worstAt_46 rfl 1 rfl ?_
        obtain ⟨r47, hr47, h⟩ := bnd h
        refine g_cVi (k := 0) (As := [.ref (ad 17), .int x2]) (rest := []) (ro := r47) (go := g32) (xo := xo) C (fun sz => cM_stones l D T ad xo g32 17 x2 _ hr47 sz) kM_stones ⟨Nat.le_of_ble_eq_true rfl, Nat.le_of_ble_eq_true rfl⟩ ⟨rfl, rfl⟩ ⟨Nat.zero_le _, Nat.zero_le _⟩ (rfl : vwCl[11]? = some (RX12, TX12, 48)) kM0 rfl rfl (Nat.le_of_ble_eq_true rfl) dX12_worstAt_47 ?_
        refine g_istore (lv' := [(4, .int r47), (0, .ref (ad 0)), (2, .int x2), (3, .int x3)]) C dX12_worstAt_50 (Nat.le_of_ble_eq_true rfl) rfl ?_
        refine g_aload_n C dX12_worstAt_52 rfl 1 rfl ?_
        refine gM_get_seen C dX12_worstAt_53 ?_
        refine g_iload C dX12_worstAt_56 0 rfl ?_
        refine g_dup2 C dX12_worstAt_58 rfl rfl ?_
        obtain ⟨hi59, h⟩ := grd h
        refine g_iald (n := 9) (v := g32 24 r47.toNatClampNeg) C ln_24 hi59 rfl dX12_worstAt_59 ?_
        refine g_iconst C dX12_worstAt_60 ic_1 ?_
        refine g_iadd C dX12_worstAt_61 ?_
        refine g_iast (n := 9) (q := r47.toNatClampNeg) C ln_24 hi59 rfl dX12_worstAt_62 ?_
        refine g_iload_n C dX12_worstAt_63 rfl 3 rfl ?_
        refine g_aload_n C dX12_worstAt_64 rfl 1 rfl ?_
        refine gM_get_seen C dX12_worstAt_65 ?_
        refine g_iload C dX12_worstAt_68 0 rfl ?_
        refine g_iald (n := 9) (v := (st g32 24 r47.toNatClampNeg ((g32 24 r47.toNatClampNeg) + (1 : Int32))) 24 r47.toNatClampNeg) C ln_24 hi59 rfl dX12_worstAt_70 ?_
        refine g_cSi (As := [.int x3, .int ((st g32 24 r47.toNatClampNeg ((g32 24 r47.toNatClampNeg) + (1 : Int32))) 24 r47.toNatClampNeg)]) (rest := []) (ro := (fM_more x3 ((st g32 24 r47.toNatClampNeg ((g32 24 r47.toNatClampNeg) + (1 : Int32))) 24 r47.toNatClampNeg))) (go := (st g32 24 r47.toNatClampNeg ((g32 24 r47.toNatClampNeg) + (1 : Int32)))) (xo := xo) C (fun sz => cM_more l D T ad xo (st g32 24 r47.toNatClampNeg ((g32 24 r47.toNatClampNeg) + (1 : Int32))) x3 ((st g32 24 r47.toNatClampNeg ((g32 24 r47.toNatClampNeg) + (1 : Int32))) 24 r47.toNatClampNeg) _ rfl sz) kM_more ⟨Nat.le_of_ble_eq_true rfl, Nat.le_of_ble_eq_true rfl⟩ ⟨rfl, rfl⟩ ⟨Nat.zero_le _, Nat.zero_le _⟩ rfl rfl (Nat.le_of_ble_eq_true rfl) dX12_worstAt_71 ?_
        refine g_istore_n (lv' := [(3, .int (fM_more x3 ((st g32 24 r47.toNatClampNeg ((g32 24 r47.toNatClampNeg) + (1 : Int32))) 24 r47.toNatClampNeg))), (4, .int r47), (0, .ref (ad 0)), (2, .int x2)]) C dX12_worstAt_74 rfl (Nat.le_of_ble_eq_true rfl) rfl ?_
        exact g_sub [2, 3, 0] rfl (J75 (fM_more x3 ((st g32 24 r47.toNatClampNeg ((g32 24 r47.toNatClampNeg) + (1 : Int32))) 24 r47.toNatClampNeg)) (st g32 24 r47.toNatClampNeg ((g32 24 r47.toNatClampNeg) + (1 : Int32))) h)
    · show GcM_worstAt l D T ad Γ o xo xo g 82 [(3, .int x3)] []
      refine g_iload_n C dX12_worstAt_82 rfl 0 rfl ?_
      obtain rfl := Option.some.inj h
      exact g_iret C rfl rfl rfl dX12_worstAt_83
  have J5 : ∀ (x1 : Int32) (x2 : Int32) (x3 : Int32) (x4 : Int32) (g : St), fM_worstAt_b5 x1 x2 x3 x4 g = some o → GcM_worstAt l D T ad Γ o xo xo g 5 [(0, .ref (ad 0)), (1, .int x1), (2, .int x2), (3, .int x3), (4, .int x4)] [] := by
    intro x1 x2 x3 x4 g h
    obtain ⟨g, ht, h⟩ := bnd h
    refine lp_run (P := fun t : Int32 × St => match t with | (x4, g) => GcM_worstAt l D T ad Γ o xo xo g 5 [(0, .ref (ad 0)), (1, .int x1), (2, .int x2), (3, .int x3), (4, .int x4)] []) (E := fun g : St => GcM_worstAt l D T ad Γ o xo xo g 26 [(0, .ref (ad 0)), (1, .int x1), (2, .int x2), (3, .int x3)] []) ?_ _ _ _ ht ?_
    · rintro ⟨x4, g⟩ z h Kt Ke
      show GcM_worstAt l D T ad Γ o xo xo g 5 [(0, .ref (ad 0)), (1, .int x1), (2, .int x2), (3, .int x3), (4, .int x4)] []
      refine g_iload C dX12_worstAt_5 4 rfl ?_
      refine g_bipush C dX12_worstAt_7 bp_8 ?_
      refine g_icmp_gt C 26 dX12_worstAt_9 (by decide) (fun c9 => ?_) (fun c9 => ?_)
      · have h := iteT c9 h
        exact g_sub [0, 1, 2, 3] rfl (Ke _ (Option.some.inj h).symm)
      · have h := iteF c9 h
        refine g_aload_n C dX12_worstAt_12 rfl 0 rfl ?_
        refine gM_get_seen C dX12_worstAt_13 ?_
        refine g_iload C dX12_worstAt_16 4 rfl ?_
        refine g_iconst C dX12_worstAt_18 ic_0 ?_
        obtain ⟨hi19, h⟩ := grd h
        refine g_iast (n := 9) (q := x4.toNatClampNeg) C ln_24 hi19 rfl dX12_worstAt_19 ?_
        refine g_iinc (lv' := [(4, .int (x4 + (1 : Int32))), (0, .ref (ad 0)), (1, .int x1), (2, .int x2), (3, .int x3)]) C dX12_worstAt_20 4 rfl (ii_1 _) (Nat.le_of_ble_eq_true rfl) rfl ?_
        refine g_goto (tgt := 5) C dX12_worstAt_23 (by decide) ?_
        exact g_sub [1, 2, 3, 4, 0] rfl (Kt _ (Option.some.inj h).symm)
    · show GcM_worstAt l D T ad Γ o xo xo g 26 [(0, .ref (ad 0)), (1, .int x1), (2, .int x2), (3, .int x3)] []
      refine g_aload_n C dX12_worstAt_26 rfl 0 rfl ?_
      refine g_iload_n C dX12_worstAt_27 rfl 1 rfl ?_
      obtain ⟨g28, hr28, h⟩ := bnd h
      refine g_cVv (k := 0) (As := [.int x1]) (rest := []) (go := g28) (xo := xo) C (fun sz => cM_firstOrder l D T ad xo g x1 _ hr28 sz) kM_firstOrder ⟨Nat.le_of_ble_eq_true rfl, Nat.le_of_ble_eq_true rfl⟩ ⟨rfl, rfl⟩ ⟨Nat.zero_le _, Nat.zero_le _⟩ (rfl : vwCl[11]? = some (RX12, TX12, 48)) kM0 rfl rfl (Nat.le_of_ble_eq_true rfl) dX12_worstAt_28 ?_
      exact g_sub [0, 2, 3] rfl (J31 x2 x3 g28 h)
  refine g_iconst C dX12_worstAt_0 ic_0 ?_
  refine g_istore_n (lv' := [(3, .int (0 : Int32)), (0, .ref (ad 0)), (1, .int x1), (2, .int x2)]) C dX12_worstAt_1 rfl (Nat.le_of_ble_eq_true rfl) rfl ?_
  refine g_iconst C dX12_worstAt_2 ic_0 ?_
  refine g_istore (lv' := [(4, .int (0 : Int32)), (3, .int (0 : Int32)), (0, .ref (ad 0)), (1, .int x1), (2, .int x2)]) C dX12_worstAt_3 (Nat.le_of_ble_eq_true rfl) rfl ?_
  exact g_sub [2, 3, 4, 1, 0] rfl (J5 x1 x2 (0 : Int32) (0 : Int32) g h)
def fM_look_b100 (x1 : Int32) (x2 : Int32) (x3 : Int32) (x4 : Int32) (x5 : Int32) (g : St) : Option ((Int32 × Int32 × Int32 × St) ⊕ ((Int32 × Int32 × St))) :=
  some (.inl (x3, x4, (x5 + (1 : Int32)), g))
def fM_look_b93 (x1 : Int32) (x2 : Int32) (x5 : Int32) (x6 : Int32) (g : St) : Option ((Int32 × Int32 × Int32 × St) ⊕ ((Int32 × Int32 × St))) :=
  fM_look_b100 x1 x2 x5 x6 x5 g
def fM_look_L46 (x1 : Int32) (x2 : Int32) : (Int32 × Int32 × Int32 × St) → Option ((Int32 × Int32 × Int32 × St) ⊕ ((Int32 × Int32 × St))) := fun ⟨x3, x4, x5, g⟩ =>
  if (g 4 0) ≤ x5 then
    (some (.inr (x3, x4, g)))
  else
    ((fM_isTold x5 g).bind fun r60 => (if r60 = 0 then
    ((fM_worstAt x1 x5 g).bind fun ⟨r73, g73⟩ => (if x3 = (-1 : Int32) then
    (fM_look_b93 x1 x2 x5 r73 g73)
  else
    (if r73 < x4 then
    (fM_look_b93 x1 x2 x5 r73 g73)
  else
    (fM_look_b100 x1 x2 x3 x4 x5 g73))))
  else
    (fM_look_b100 x1 x2 x3 x4 x5 g)))
def fM_look_b46 (x1 : Int32) (x2 : Int32) (x3 : Int32) (x4 : Int32) (x5 : Int32) (g : St) : Option (Int32 × St) :=
  (lp (fM_look_L46 x1 x2) fuel (x3, x4, x5, g)).bind (fun ⟨x3, x4, g⟩ => if x2 = 0 then
    (some (x3, g))
  else
    (some (x4, g)))
def fM_look_b28 (x1 : Int32) (x2 : Int32) (s1 : Int32) (g : St) : Option (Int32 × St) :=
  (fM_bad s1 (1 : Int32) (1 : Int32) g).bind fun ⟨r30, g30⟩ => (if r30 = 0 then
    (fM_look_b46 x1 x2 (-1 : Int32) (-1 : Int32) (0 : Int32) g30)
  else
    (some ((0 : Int32), g30)))
def fM_look_b23 (x1 : Int32) (x2 : Int32) (g : St) : Option (Int32 × St) :=
  fM_look_b28 x1 x2 (1 : Int32) g
def fM_look (x1 : Int32) (x2 : Int32) (g : St) : Option (Int32 × St) :=
  (fM_isOrder x1 (st g 0 0 (0 : Int32))).bind fun r8 => (if r8 = 0 then
    (fM_look_b23 x1 x2 (st g 0 0 (0 : Int32)))
  else
    (if (fM_in x2 (0 : Int32) (1 : Int32)) = 0 then
    (fM_look_b23 x1 x2 (st g 0 0 (0 : Int32)))
  else
    (fM_look_b28 x1 x2 (0 : Int32) (st g 0 0 (0 : Int32)))))
def rmM_look : Room := { frames := 11, cells := 0, slots := 0, locals := 253 }
abbrev GcM_look (l : Launch) (D : va_G) (T : cT) (ad : Nat → Nat) (Γ : Cxt) (o : Int32 × St) (xo : Sl) (x : Sl) (g : St) (pc : Nat) (lv : List (Nat × Value)) (stk : List Value) : Prop := Gj l shM D T ad 7 (rmM_look) 0 0 Γ (MQ Γ.below (va_Qi (eqI o.1 o.2 xo) (wPost shM D T ad Γ.A) Γ.A) Γ.args Γ.s 0 0 Γ.A) x g pc lv stk
set_option maxRecDepth 100000 in
set_option maxHeartbeats 4000000 in
theorem cM_look (l : Launch) (D : va_G) (T : cT) (ad : Nat → Nat) (xo : Sl) (g : St) (x1 : Int32) (x2 : Int32) (o : Int32 × St) (h : fM_look x1 x2 g = some o) (sz : Nat) : Met l yX12_look wM_look (rmM_look) (va_Pc [.ref (ad 0), .int x1, .int x2] (wPre shM D T ad xo g sz)) (va_Qi (eqI o.1 o.2 xo) (wPost shM D T ad (aW shM T ad xo g sz)) (aW shM T ad xo g sz)) 0 0 (aW shM T ad xo g sz) := by
  refine g_start (Qc := fun A => va_Qi (eqI o.1 o.2 xo) (wPost shM D T ad A) A) (by decide +kernel) rfl rfl (Nat.le_of_ble_eq_true rfl) (lv := [(0, .ref (ad 0)), (1, .int x1), (2, .int x2)]) rfl (fun Γ C => ?_)
  show GcM_look l D T ad Γ o xo xo g 0 [(0, .ref (ad 0)), (1, .int x1), (2, .int x2)] []
  have J46 : ∀ (x1 : Int32) (x2 : Int32) (x3 : Int32) (x4 : Int32) (x5 : Int32) (g : St), fM_look_b46 x1 x2 x3 x4 x5 g = some o → GcM_look l D T ad Γ o xo xo g 46 [(0, .ref (ad 0)), (1, .int x1), (2, .int x2), (3, .int x3), (4, .int x4), (5, .int x5)] [] := by
    intro x1 x2 x3 x4 x5 g h
    obtain ⟨⟨x3, x4, g⟩, ht, h⟩ := bnd h
    refine lp_run (P := fun t : Int32 × Int32 × Int32 × St => match t with | (x3, x4, x5, g) => GcM_look l D T ad Γ o xo xo g 46 [(0, .ref (ad 0)), (1, .int x1), (2, .int x2), (3, .int x3), (4, .int x4), (5, .int x5)] []) (E := fun t : Int32 × Int32 × St => match t with | (x3, x4, g) => GcM_look l D T ad Γ o xo xo g 106 [(2, .int x2), (3, .int x3), (4, .int x4)] []) ?_ _ _ _ ht ?_
    · rintro ⟨x3, x4, x5, g⟩ z h Kt Ke
      show GcM_look l D T ad Γ o xo xo g 46 [(0, .ref (ad 0)), (1, .int x1), (2, .int x2), (3, .int x3), (4, .int x4), (5, .int x5)] []
      have J100 : ∀ (x3 : Int32) (x4 : Int32) (x5 : Int32) (g : St), fM_look_b100 x1 x2 x3 x4 x5 g = some z → GcM_look l D T ad Γ o xo xo g 100 [(0, .ref (ad 0)), (1, .int x1), (2, .int x2), (3, .int x3), (4, .int x4), (5, .int x5)] [] := by
        intro x3 x4 x5 g h
        refine g_iinc (lv' := [(5, .int (x5 + (1 : Int32))), (0, .ref (ad 0)), (1, .int x1), (2, .int x2), (3, .int x3), (4, .int x4)]) C dX12_look_100 5 rfl (ii_1 _) (Nat.le_of_ble_eq_true rfl) rfl ?_
        refine g_goto (tgt := 46) C dX12_look_103 (by decide) ?_
        exact g_sub [1, 2, 3, 4, 5, 0] rfl (Kt _ (Option.some.inj h).symm)
      have J93 : ∀ (x5 : Int32) (x6 : Int32) (g : St), fM_look_b93 x1 x2 x5 x6 g = some z → GcM_look l D T ad Γ o xo xo g 93 [(0, .ref (ad 0)), (1, .int x1), (2, .int x2), (5, .int x5), (6, .int x6)] [] := by
        intro x5 x6 g h
        refine g_iload C dX12_look_93 3 rfl ?_
        refine g_istore_n (lv' := [(3, .int x5), (0, .ref (ad 0)), (1, .int x1), (2, .int x2), (5, .int x5), (6, .int x6)]) C dX12_look_95 rfl (Nat.le_of_ble_eq_true rfl) rfl ?_
        refine g_iload C dX12_look_96 5 rfl ?_
        refine g_istore (lv' := [(4, .int x6), (3, .int x5), (0, .ref (ad 0)), (1, .int x1), (2, .int x2), (5, .int x5), (6, .int x6)]) C dX12_look_98 (Nat.le_of_ble_eq_true rfl) rfl ?_
        exact g_sub [2, 3, 4, 1, 0, 5] rfl (J100 x5 x6 x5 g h)
      refine g_iload C dX12_look_46 5 rfl ?_
      refine g_aload_n C dX12_look_48 rfl 0 rfl ?_
      refine gM_get_told C dX12_look_49 ?_
      refine g_iconst C dX12_look_52 ic_0 ?_
      refine g_iald (n := 2) (v := g 4 0) C ln_4 (by decide) rfl dX12_look_53 ?_
      refine g_icmp_ge C 106 dX12_look_54 (by decide) (fun c54 => ?_) (fun c54 => ?_)
      · have h := iteT c54 h
        exact g_sub [2, 3, 4] rfl (Ke _ (Option.some.inj h).symm)
      · have h := iteF c54 h
        refine g_aload_n C dX12_look_57 rfl 0 rfl ?_
        refine g_iload C dX12_look_58 5 rfl ?_
        obtain ⟨r60, hr60, h⟩ := bnd h
        refine g_cVz (k := 0) (As := [.int x5]) (rest := []) (ro := r60) (go := g) (xo := xo) C (fun sz => cM_isTold l D T ad xo g x5 _ hr60 sz) kM_isTold ⟨Nat.le_of_ble_eq_true rfl, Nat.le_of_ble_eq_true rfl⟩ ⟨rfl, rfl⟩ ⟨Nat.zero_le _, Nat.zero_le _⟩ (rfl : vwCl[11]? = some (RX12, TX12, 48)) kM0 rfl rfl (Nat.le_of_ble_eq_true rfl) dX12_look_60 (fun hz60 => ?_)
        refine g_if_eq C 69 dX12_look_63 (by decide) (fun c63 => ?_) (fun c63 => ?_)
        · have h := iteT c63 h
          refine g_aload_n C dX12_look_69 rfl 0 rfl ?_
          refine g_iload_n C dX12_look_70 rfl 1 rfl ?_
          refine g_iload C dX12_look_71 5 rfl ?_
          obtain ⟨⟨r73, g73⟩, hr73, h⟩ := bnd h
          refine g_cVi (k := 0) (As := [.int x1, .int x5]) (rest := []) (ro := r73) (go := g73) (xo := xo) C (fun sz => cM_worstAt l D T ad xo g x1 x5 _ hr73 sz) kM_worstAt ⟨Nat.le_of_ble_eq_true rfl, Nat.le_of_ble_eq_true rfl⟩ ⟨rfl, rfl⟩ ⟨Nat.zero_le _, Nat.zero_le _⟩ (rfl : vwCl[11]? = some (RX12, TX12, 48)) kM0 rfl rfl (Nat.le_of_ble_eq_true rfl) dX12_look_73 ?_
          refine g_istore (lv' := [(6, .int r73), (0, .ref (ad 0)), (1, .int x1), (2, .int x2), (3, .int x3), (4, .int x4), (5, .int x5)]) C dX12_look_76 (Nat.le_of_ble_eq_true rfl) rfl ?_
          refine g_iload_n C dX12_look_78 rfl 4 rfl ?_
          refine g_iconst C dX12_look_79 ic_m1 ?_
          refine g_icmp_eq C 93 dX12_look_80 (by decide) (fun c80 => ?_) (fun c80 => ?_)
          · have h := iteT c80 h
            exact g_sub [1, 2, 3, 6, 0] rfl (J93 x5 r73 g73 h)
          · have h := iteF c80 h
            refine g_iload C dX12_look_83 0 rfl ?_
            refine g_iload C dX12_look_85 5 rfl ?_
            refine g_icmp_lt C 93 dX12_look_87 (by decide) (fun c87 => ?_) (fun c87 => ?_)
            · have h := iteT c87 h
              exact g_sub [1, 2, 3, 6, 0] rfl (J93 x5 r73 g73 h)
            · have h := iteF c87 h
              refine g_goto (tgt := 100) C dX12_look_90 (by decide) ?_
              exact g_sub [1, 2, 3, 4, 5, 6] rfl (J100 x3 x4 x5 g73 h)
        · have h := iteF c63 h
          refine g_goto (tgt := 100) C dX12_look_66 (by decide) ?_
          exact J100 x3 x4 x5 g h
    · show GcM_look l D T ad Γ o xo xo g 106 [(2, .int x2), (3, .int x3), (4, .int x4)] []
      refine g_iload_n C dX12_look_106 rfl 0 rfl ?_
      refine g_if_ne C 114 dX12_look_107 (by decide) (fun c107 => ?_) (fun c107 => ?_)
      · have h := iteT c107 h
        refine g_iload_n C dX12_look_110 rfl 1 rfl ?_
        refine g_goto (tgt := 116) C dX12_look_111 (by decide) ?_
        obtain rfl := Option.some.inj h
        exact g_iret C rfl rfl rfl dX12_look_116
      · have h := iteF c107 h
        refine g_iload C dX12_look_114 2 rfl ?_
        obtain rfl := Option.some.inj h
        exact g_iret C rfl rfl rfl dX12_look_116
  have J28 : ∀ (x1 : Int32) (x2 : Int32) (s1 : Int32) (g : St), fM_look_b28 x1 x2 s1 g = some o → GcM_look l D T ad Γ o xo xo g 28 [(0, .ref (ad 0)), (1, .int x1), (2, .int x2)] [.int s1, .ref (ad 0)] := by
    intro x1 x2 s1 g h
    refine g_iconst C dX12_look_28 ic_1 ?_
    refine g_iconst C dX12_look_29 ic_1 ?_
    obtain ⟨⟨r30, g30⟩, hr30, h⟩ := bnd h
    refine g_cVz (k := 0) (As := [.int s1, .int (1 : Int32), .int (1 : Int32)]) (rest := []) (ro := r30) (go := g30) (xo := xo) C (fun sz => cM_bad l D T ad xo g s1 (1 : Int32) (1 : Int32) _ hr30 sz) kM_bad ⟨Nat.le_of_ble_eq_true rfl, Nat.le_of_ble_eq_true rfl⟩ ⟨rfl, rfl⟩ ⟨Nat.zero_le _, Nat.zero_le _⟩ (rfl : vwCl[11]? = some (RX12, TX12, 48)) kM0 rfl rfl (Nat.le_of_ble_eq_true rfl) dX12_look_30 (fun hz30 => ?_)
    refine g_if_eq C 38 dX12_look_33 (by decide) (fun c33 => ?_) (fun c33 => ?_)
    · have h := iteT c33 h
      refine g_iconst C dX12_look_38 ic_m1 ?_
      refine g_istore_n (lv' := [(3, .int (-1 : Int32)), (0, .ref (ad 0)), (1, .int x1), (2, .int x2)]) C dX12_look_39 rfl (Nat.le_of_ble_eq_true rfl) rfl ?_
      refine g_iconst C dX12_look_40 ic_m1 ?_
      refine g_istore (lv' := [(4, .int (-1 : Int32)), (3, .int (-1 : Int32)), (0, .ref (ad 0)), (1, .int x1), (2, .int x2)]) C dX12_look_41 (Nat.le_of_ble_eq_true rfl) rfl ?_
      refine g_iconst C dX12_look_43 ic_0 ?_
      refine g_istore (lv' := [(5, .int (0 : Int32)), (4, .int (-1 : Int32)), (3, .int (-1 : Int32)), (0, .ref (ad 0)), (1, .int x1), (2, .int x2)]) C dX12_look_44 (Nat.le_of_ble_eq_true rfl) rfl ?_
      exact g_sub [3, 4, 5, 2, 1, 0] rfl (J46 x1 x2 (-1 : Int32) (-1 : Int32) (0 : Int32) g30 h)
    · have h := iteF c33 h
      refine g_iconst C dX12_look_36 ic_0 ?_
      obtain rfl := Option.some.inj h
      exact g_iret C rfl rfl rfl dX12_look_37
  have J23 : ∀ (x1 : Int32) (x2 : Int32) (g : St), fM_look_b23 x1 x2 g = some o → GcM_look l D T ad Γ o xo xo g 23 [(0, .ref (ad 0)), (1, .int x1), (2, .int x2)] [.ref (ad 0)] := by
    intro x1 x2 g h
    refine g_iconst C dX12_look_23 ic_1 ?_
    refine g_goto (tgt := 28) C dX12_look_24 (by decide) ?_
    exact J28 x1 x2 (1 : Int32) g h
  refine g_aload_n C dX12_look_0 rfl 0 rfl ?_
  refine g_iconst C dX12_look_1 ic_0 ?_
  refine gM_put_thrown C dX12_look_2 ?_
  refine g_aload_n C dX12_look_5 rfl 0 rfl ?_
  refine g_aload_n C dX12_look_6 rfl 0 rfl ?_
  refine g_iload_n C dX12_look_7 rfl 1 rfl ?_
  obtain ⟨r8, hr8, h⟩ := bnd h
  refine g_cVz (k := 0) (As := [.int x1]) (rest := [.ref (ad 0)]) (ro := r8) (go := (st g 0 0 (0 : Int32))) (xo := xo) C (fun sz => cM_isOrder l D T ad xo (st g 0 0 (0 : Int32)) x1 _ hr8 sz) kM_isOrder ⟨Nat.le_of_ble_eq_true rfl, Nat.le_of_ble_eq_true rfl⟩ ⟨rfl, rfl⟩ ⟨Nat.zero_le _, Nat.zero_le _⟩ (rfl : vwCl[11]? = some (RX12, TX12, 48)) kM0 rfl rfl (Nat.le_of_ble_eq_true rfl) dX12_look_8 (fun hz8 => ?_)
  refine g_if_eq C 23 dX12_look_11 (by decide) (fun c11 => ?_) (fun c11 => ?_)
  · have h := iteT c11 h
    exact J23 x1 x2 (st g 0 0 (0 : Int32)) h
  · have h := iteF c11 h
    refine g_iload_n C dX12_look_14 rfl 2 rfl ?_
    refine g_iconst C dX12_look_15 ic_0 ?_
    refine g_iconst C dX12_look_16 ic_1 ?_
    refine g_cSz (As := [.int x2, .int (0 : Int32), .int (1 : Int32)]) (rest := [.ref (ad 0)]) (ro := (fM_in x2 (0 : Int32) (1 : Int32))) (go := (st g 0 0 (0 : Int32))) (xo := xo) C (fun sz => cM_in l D T ad xo (st g 0 0 (0 : Int32)) x2 (0 : Int32) (1 : Int32) _ rfl sz) kM_in ⟨Nat.le_of_ble_eq_true rfl, Nat.le_of_ble_eq_true rfl⟩ ⟨rfl, rfl⟩ ⟨Nat.zero_le _, Nat.zero_le _⟩ rfl rfl (Nat.le_of_ble_eq_true rfl) dX12_look_17 (fun hz17 => ?_)
    refine g_if_ne C 27 dX12_look_20 (by decide) (fun c20 => ?_) (fun c20 => ?_)
    · have h := iteT c20 h
      exact J23 x1 x2 (st g 0 0 (0 : Int32)) h
    · have h := iteF c20 h
      refine g_iconst C dX12_look_27 ic_0 ?_
      exact J28 x1 x2 (0 : Int32) (st g 0 0 (0 : Int32)) h
def fM_hasBy (x0 : Int32) (x1 : Int32) (x2 : Int32) (x3 : Int32) : Int32 :=
  if x1 = 0 then
    (x2)
  else
    (if x0 = 0 then
    ((-x3))
  else
    ((0 : Int32)))
def rmM_hasBy : Room := { frames := 0, cells := 0, slots := 0, locals := 0 }
abbrev GcM_hasBy (l : Launch) (D : va_G) (T : cT) (ad : Nat → Nat) (Γ : Cxt) (o : Int32) (xo : Sl) (g0 : St) (x : Sl) (g : St) (pc : Nat) (lv : List (Nat × Value)) (stk : List Value) : Prop := Gj l shM D T ad 4 (rmM_hasBy) 0 0 Γ (MQ Γ.below (va_Qi (eqI o g0 xo) (wPost shM D T ad Γ.A) Γ.A) Γ.args Γ.s 0 0 Γ.A) x g pc lv stk
set_option maxRecDepth 100000 in
set_option maxHeartbeats 4000000 in
theorem cM_hasBy (l : Launch) (D : va_G) (T : cT) (ad : Nat → Nat) (xo : Sl) (g : St) (x0 : Int32) (x1 : Int32) (x2 : Int32) (x3 : Int32) (o : Int32) (h : fM_hasBy x0 x1 x2 x3 = o) (sz : Nat) : Met l yX12_hasBy wM_hasBy (rmM_hasBy) (va_Pc [.int x0, .int x1, .int x2, .int x3] (wPre shM D T ad xo g sz)) (va_Qi (eqI o g xo) (wPost shM D T ad (aW shM T ad xo g sz)) (aW shM T ad xo g sz)) 0 0 (aW shM T ad xo g sz) := by
  refine g_start (Qc := fun A => va_Qi (eqI o g xo) (wPost shM D T ad A) A) (by decide +kernel) rfl rfl (Nat.le_of_ble_eq_true rfl) (lv := [(0, .int x0), (1, .int x1), (2, .int x2), (3, .int x3)]) rfl (fun Γ C => ?_)
  show GcM_hasBy l D T ad Γ o xo g xo g 0 [(0, .int x0), (1, .int x1), (2, .int x2), (3, .int x3)] []
  refine g_iload_n C dX12_hasBy_0 rfl 1 rfl ?_
  refine g_if_ne C 8 dX12_hasBy_1 (by decide) (fun c1 => ?_) (fun c1 => ?_)
  · have h := iteT c1 h
    refine g_iload_n C dX12_hasBy_4 rfl 2 rfl ?_
    refine g_goto (tgt := 18) C dX12_hasBy_5 (by decide) ?_
    subst h
    exact g_iret C rfl rfl rfl dX12_hasBy_18
  · have h := iteF c1 h
    refine g_iload_n C dX12_hasBy_8 rfl 0 rfl ?_
    refine g_if_ne C 17 dX12_hasBy_9 (by decide) (fun c9 => ?_) (fun c9 => ?_)
    · have h := iteT c9 h
      refine g_iload_n C dX12_hasBy_12 rfl 3 rfl ?_
      refine g_ineg C dX12_hasBy_13 ?_
      refine g_goto (tgt := 18) C dX12_hasBy_14 (by decide) ?_
      subst h
      exact g_iret C rfl rfl rfl dX12_hasBy_18
    · have h := iteF c9 h
      refine g_iconst C dX12_hasBy_17 ic_0 ?_
      subst h
      exact g_iret C rfl rfl rfl dX12_hasBy_18
def fM_isBest (x0 : Int32) (x1 : Int32) (x2 : Int32) (x3 : Int32) : Int32 :=
  if (fM_hasBy x0 x1 x2 x3) < (fM_hasBy ((1 : Int32) - x0) x1 x2 x3) then
    ((0 : Int32))
  else
    ((1 : Int32))
def rmM_isBest : Room := { frames := 1, cells := 0, slots := 0, locals := 23 }
abbrev GcM_isBest (l : Launch) (D : va_G) (T : cT) (ad : Nat → Nat) (Γ : Cxt) (o : Int32) (xo : Sl) (g0 : St) (x : Sl) (g : St) (pc : Nat) (lv : List (Nat × Value)) (stk : List Value) : Prop := Gj l shM D T ad 4 (rmM_isBest) 0 0 Γ (MQ Γ.below (va_Qi (eqZ o g0 xo) (wPost shM D T ad Γ.A) Γ.A) Γ.args Γ.s 0 0 Γ.A) x g pc lv stk
set_option maxRecDepth 100000 in
set_option maxHeartbeats 4000000 in
theorem cM_isBest (l : Launch) (D : va_G) (T : cT) (ad : Nat → Nat) (xo : Sl) (g : St) (x0 : Int32) (x1 : Int32) (x2 : Int32) (x3 : Int32) (o : Int32) (h : fM_isBest x0 x1 x2 x3 = o) (sz : Nat) : Met l yX12_isBest wM_isBest (rmM_isBest) (va_Pc [.int x0, .int x1, .int x2, .int x3] (wPre shM D T ad xo g sz)) (va_Qi (eqZ o g xo) (wPost shM D T ad (aW shM T ad xo g sz)) (aW shM T ad xo g sz)) 0 0 (aW shM T ad xo g sz) := by
  refine g_start (Qc := fun A => va_Qi (eqZ o g xo) (wPost shM D T ad A) A) (by decide +kernel) rfl rfl (Nat.le_of_ble_eq_true rfl) (lv := [(0, .int x0), (1, .int x1), (2, .int x2), (3, .int x3)]) rfl (fun Γ C => ?_)
  show GcM_isBest l D T ad Γ o xo g xo g 0 [(0, .int x0), (1, .int x1), (2, .int x2), (3, .int x3)] []
  refine g_iload_n C dX12_isBest_0 rfl 0 rfl ?_
  refine g_iload_n C dX12_isBest_1 rfl 1 rfl ?_
  refine g_iload_n C dX12_isBest_2 rfl 2 rfl ?_
  refine g_iload_n C dX12_isBest_3 rfl 3 rfl ?_
  refine g_cSi (As := [.int x0, .int x1, .int x2, .int x3]) (rest := []) (ro := (fM_hasBy x0 x1 x2 x3)) (go := g) (xo := xo) C (fun sz => cM_hasBy l D T ad xo g x0 x1 x2 x3 _ rfl sz) kM_hasBy ⟨Nat.le_of_ble_eq_true rfl, Nat.le_of_ble_eq_true rfl⟩ ⟨rfl, rfl⟩ ⟨Nat.zero_le _, Nat.zero_le _⟩ rfl rfl (Nat.le_of_ble_eq_true rfl) dX12_isBest_4 ?_
  refine g_iconst C dX12_isBest_7 ic_1 ?_
  refine g_iload_n C dX12_isBest_8 rfl 0 rfl ?_
  refine g_isub C dX12_isBest_9 ?_
  refine g_iload_n C dX12_isBest_10 rfl 1 rfl ?_
  refine g_iload_n C dX12_isBest_11 rfl 2 rfl ?_
  refine g_iload_n C dX12_isBest_12 rfl 3 rfl ?_
  refine g_cSi (As := [.int ((1 : Int32) - x0), .int x1, .int x2, .int x3]) (rest := [.int (fM_hasBy x0 x1 x2 x3)]) (ro := (fM_hasBy ((1 : Int32) - x0) x1 x2 x3)) (go := g) (xo := xo) C (fun sz => cM_hasBy l D T ad xo g ((1 : Int32) - x0) x1 x2 x3 _ rfl sz) kM_hasBy ⟨Nat.le_of_ble_eq_true rfl, Nat.le_of_ble_eq_true rfl⟩ ⟨rfl, rfl⟩ ⟨Nat.zero_le _, Nat.zero_le _⟩ rfl rfl (Nat.le_of_ble_eq_true rfl) dX12_isBest_13 ?_
  refine g_icmp_lt C 23 dX12_isBest_16 (by decide) (fun c16 => ?_) (fun c16 => ?_)
  · have h := iteT c16 h
    refine g_iconst C dX12_isBest_23 ic_0 ?_
    subst h
    exact g_zret C rfl rfl rfl rfl dX12_isBest_24
  · have h := iteF c16 h
    refine g_iconst C dX12_isBest_19 ic_1 ?_
    refine g_goto (tgt := 24) C dX12_isBest_20 (by decide) ?_
    subst h
    exact g_zret C rfl rfl rfl rfl dX12_isBest_24
