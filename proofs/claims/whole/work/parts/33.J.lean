def wX_J_coder : List Cond := .code yJ0_coder_7d493 cJ0_coder_7d493 1 (some .byte) :: BX
theorem kX_RJ0_335_J_coder {c0 : Cond} : kV (c0 :: BX) RJ0 RJ0 335 yJ0_coder_7d493 cJ0_coder_7d493 1 0 (some .byte) wX_J_coder := BX_kV bx_115 bx_116 bx_117 bx_112 bx_118 (by decide +kernel)
def wX_J_isLatin1 : List Cond := .code yJ0_isLatin1_aae02 cJ0_isLatin1_aae02 1 (some .boolean) :: BX
theorem kX_RJ0_492_J_isLatin1 {c0 : Cond} : kV (c0 :: BX) RJ0 RJ0 492 yJ0_isLatin1_aae02 cJ0_isLatin1_aae02 1 0 (some .boolean) wX_J_isLatin1 := BX_kV bx_125 bx_126 bx_127 bx_112 bx_128 (by decide +kernel)
def wX_J_checkIndex : List Cond := .code yJ0_checkIndex_df160 cJ0_checkIndex_df160 2 none :: BX
theorem kX_RJ1_9_J_checkIndex {c0 : Cond} : kS (c0 :: BX) RJ1 9 yJ0_checkIndex_df160 cJ0_checkIndex_df160 2 2 none wX_J_checkIndex := BX_kS bx_133 bx_134 bx_112 bx_135 (by decide +kernel)
theorem kX_RJ2_414_J_checkIndex {c0 : Cond} : kS (c0 :: BX) RJ2 414 yJ0_checkIndex_df160 cJ0_checkIndex_df160 2 2 none wX_J_checkIndex := BX_kS bx_151 bx_134 bx_112 bx_135 (by decide +kernel)
def wX_J_lcharAt : List Cond := .code yJ1_charAt_3b067 cJ1_charAt_3b067 2 (some .char) :: BX
theorem kX_RJ0_495_J_lcharAt {c0 : Cond} : kS (c0 :: BX) RJ0 495 yJ1_charAt_3b067 cJ1_charAt_3b067 2 2 (some .char) wX_J_lcharAt := BX_kS bx_129 bx_130 bx_131 bx_132 (by decide +kernel)
def wX_J_pcheck : List Cond := .code yJ3_checkIndex_8e157 cJ3_checkIndex_8e157 3 (some .int) :: BX
theorem kX_RJ0_1059_J_pcheck {c0 : Cond} : kS (c0 :: BX) RJ0 1059 yJ3_checkIndex_8e157 cJ3_checkIndex_8e157 3 3 (some .int) wX_J_pcheck := BX_kS bx_137 bx_138 bx_139 bx_140 (by decide +kernel)
section JR
variable {l : Launch} {h : Sh} {D : va_G} {T : cT} {ad : Nat → Nat} {sK sV : Nat → Nat} {nL : Nat} {R : Room} {kc ks : Nat} {Γ : Cxt} {Q : State → Prop} {x : Sl} {g : St} {pc : Nat} {lv lv' : List (Nat × Value)} {rest : List Value} {cc : ByteArray} {Ts : List Cond} {own : String} {ret : Option FieldType}
theorem g_gets (C : Cy D T sK sV cc nL Ts own ret Γ) {C0 n d : String} {v : Value} {index : Nat} (hZ : va_Z C0 n d v Γ.A Γ.s Γ.s.heap) (hl : Cond.fieldLink own index C0 n d ∈ Ts) (hdg : decode cc pc = .ok (.getstatic index, 3)) (K : Gj l h D T ad nL R kc ks Γ Q x g (pc + 3) lv (v :: rest)) : Gj l h D T ad nL R kc ks Γ Q x g pc lv (rest) := fun H locs ls hw hl' => va_gets C.1.1.1 C.1.1.2.1 hZ hw.2.2.1 C.1.1.2.2.2.1 (C.1.1.2.2.2.2 _ hl) (fun _ q => q) hdg (K H locs ls hw hl')
theorem g_sfld (C : Cy D T sK sV cc nL Ts own ret Γ) {o n d : String} {v : Value} {index q : Nat} (hE : va_OF o n d v q Γ.A Γ.s Γ.s.heap) (hl : Cond.fieldLink own index o n d ∈ Ts) (hdg : decode cc pc = .ok (.getfield index, 3)) (K : Gj l h D T ad nL R kc ks Γ Q x g (pc + 3) lv (v :: rest)) : Gj l h D T ad nL R kc ks Γ Q x g pc lv (.ref q :: rest) := fun H locs ls hw hl' => vk_getf C.1.1.1 C.1.1.2.1 hE hw.2.2.1 C.1.1.2.2.2.1 (C.1.1.2.2.2.2 _ hl) (fun _ q => q) hdg (K H locs ls hw hl')
theorem g_tlen (C : Cy D T sK sV cc nL Ts own ret Γ) {ty : FieldType} {t N : Nat} {f : Nat → Value} (hT : va_T ty t N f Γ.A Γ.s Γ.s.heap) {v : Int32} (hv : Int32.ofNat N = v) (hdg : decode cc pc = .ok (.arraylength, 1)) (K : Gj l h D T ad nL R kc ks Γ Q x g (pc + 1) lv (.int v :: rest)) : Gj l h D T ad nL R kc ks Γ Q x g pc lv (.ref t :: rest) := fun H locs ls hw hl' => va_tlen C.1.1.1 C.1.1.2.1 hT hw.2.2.1 hv hdg (K H locs ls hw hl')
theorem g_tb (C : Cy D T sK sV cc nL Ts own ret Γ) {t N : Nat} {f : Nat → Value} (hT : va_T .byte t N f Γ.A Γ.s Γ.s.heap) {i : Int32} (hin : vp_in i N) {v : Value} (hv : f i.toNatClampNeg = v) (hdg : decode cc pc = .ok (.baload, 1)) (K : Gj l h D T ad nL R kc ks Γ Q x g (pc + 1) lv (v :: rest)) : Gj l h D T ad nL R kc ks Γ Q x g pc lv (.int i :: .ref t :: rest) := fun H locs ls hw hl' => va_tb C.1.1.1 C.1.1.2.1 hT hw.2.2.1 hin hv hdg (K H locs ls hw hl')
theorem g_i2c (C : Cx D T cc nL Ts own ret Γ) {u : Int32} (hdg : decode cc pc = .ok (.i2c, 1)) (K : Gj l h D T ad nL R kc ks Γ Q x g (pc + 1) lv (.int (u.toUInt32 % 65536).toInt32 :: rest)) : Gj l h D T ad nL R kc ks Γ Q x g pc lv (.int u :: rest) := fun H locs ls hw hl => lv_i2c C.1.1 C.1.2.1 hdg rfl (K H locs ls hw hl)
theorem g_yret {ty : FieldType} (C : Cx D T cc nL Ts own (some ty) Γ) {v : Int32} {ro : Int32} {go : St} {xo : Sl} (hz : narrow ty (.int v) = .int v) (hv : v = ro) (hg : g = go) (hx : x = xo) (hdg : decode cc pc = .ok (.ireturn, 1)) : Gj l h D T ad nL R kc ks Γ (MQ Γ.below (va_Qi (eqI ro go xo) (wPost h D T ad Γ.A) Γ.A) Γ.args Γ.s kc ks Γ.A) x g pc lv [.int v] := fun H locs ls hw hl => by
  obtain ⟨hP, hD, hS, hA⟩ := hw
  exact W.zret C.1.1 C.1.2.1 C.2.2.1 hz (fun t ht hW => ⟨⟨v, (g, x), rfl, ⟨hv, by rw [hg, hx]⟩, by rw [ht]; exact hP, va_K.moved hW.alike C.2.1, hD⟩, hS.F ht⟩) hS.2.2 hdg C.2.2.2
/-- any value of one word -/
theorem g_vload (C : Cx D T cc nL Ts own ret Γ) {k : Fin 4} {i a : Nat} (hdg : decode cc pc = .ok (.aload_n k, 1)) (hi : (k : Nat) = i) (j : Nat) (hj : lv[j]? = some (i, .ref a)) (K : Gj l h D T ad nL R kc ks Γ Q x g (pc + 1) lv (.ref a :: rest)) : Gj l h D T ad nL R kc ks Γ Q x g pc lv (rest) := g_aload_n C hdg hi j hj K
end JR
theorem strB_lt {i : Nat} (hi : i < nStr) : (strB i).length < 16 := by
  have : ∀ i, i < nStr → (strB i).length < 16 := by decide
  exact this i hi
theorem strB_in {i : Nat} (hi : i < nStr) : ∀ k, k < (strB i).length → (((strB i).getD k 0 &&& 255).toUInt32 % 65536).toInt32 = (strB i).getD k 0 ∧ narrow .char (.int ((strB i).getD k 0)) = .int ((strB i).getD k 0) := by
  have : ∀ i, i < nStr → ∀ k, k < (strB i).length → (((strB i).getD k 0 &&& 255).toUInt32 % 65536).toInt32 = (strB i).getD k 0 ∧ narrow .char (.int ((strB i).getD k 0)) = .int ((strB i).getD k 0) := by decide +kernel
  exact this i hi
theorem ic255 : (Int16.ofInt 255).toInt32 = 255 := by decide
def rmX_J_coder : Room := { frames := 0, cells := 0, slots := 0, locals := 0 }
def rmX_J_isLatin1 : Room := { frames := 0, cells := 0, slots := 0, locals := 0 }
def rmX_J_pcheck : Room := { frames := 0, cells := 0, slots := 0, locals := 0 }
def rmX_J_checkIndex : Room := { frames := 1, cells := 0, slots := 0, locals := 60 }
def rmX_J_lcharAt : Room := { frames := 2, cells := 0, slots := 0, locals := 90 }
set_option maxRecDepth 100000 in
theorem cX_J_coder (l : Launch) (D : va_G) (T : cT) (ad : Nat → Nat) (sK sV : Nat → Nat) (xo : Sl) (g : St) (i : Nat) (hi : i < nStr) (sz : Nat) : Met l yJ0_coder_7d493 wX_J_coder rmX_J_coder (va_Pc [.ref (sK i)] (xPre shX D T ad sK sV xo g sz)) (va_Qi (eqI (0 : Int32) g xo) (wPost shX D T ad (aW shX T ad xo g sz)) (aW shX T ad xo g sz)) 0 0 (aW shX T ad xo g sz) := by
  refine g_startx (Qc := fun A => va_Qi (eqI (0 : Int32) g xo) (wPost shX D T ad A) A) (by decide +kernel) rfl rfl (Nat.le_of_ble_eq_true rfl) (lv := [(0, .ref (sK i))]) rfl (fun Γ Y => ?_)
  have C := Y.1
  refine g_gets Y Y.2.2.2.1 (List.mem_cons_of_mem _ bx_119) dJ0_coder_7d493_0 ?_
  refine g_if_eq C 13 dJ0_coder_7d493_3 (by decide) (fun c => absurd c (by decide)) (fun _ => ?_)
  refine g_aload_n C dJ0_coder_7d493_6 rfl 0 rfl ?_
  refine g_sfld Y (Y.2.2.2.2.1 i hi).2.1 (List.mem_cons_of_mem _ bx_120) dJ0_coder_7d493_7 ?_
  refine g_goto (tgt := 14) C dJ0_coder_7d493_10 (by decide) ?_
  exact g_yret C rfl rfl rfl rfl dJ0_coder_7d493_14
set_option maxRecDepth 100000 in
theorem cX_J_isLatin1 (l : Launch) (D : va_G) (T : cT) (ad : Nat → Nat) (sK sV : Nat → Nat) (xo : Sl) (g : St) (i : Nat) (hi : i < nStr) (sz : Nat) : Met l yJ0_isLatin1_aae02 wX_J_isLatin1 rmX_J_isLatin1 (va_Pc [.ref (sK i)] (xPre shX D T ad sK sV xo g sz)) (va_Qi (eqI (1 : Int32) g xo) (wPost shX D T ad (aW shX T ad xo g sz)) (aW shX T ad xo g sz)) 0 0 (aW shX T ad xo g sz) := by
  refine g_startx (Qc := fun A => va_Qi (eqI (1 : Int32) g xo) (wPost shX D T ad A) A) (by decide +kernel) rfl rfl (Nat.le_of_ble_eq_true rfl) (lv := [(0, .ref (sK i))]) rfl (fun Γ Y => ?_)
  have C := Y.1
  refine g_gets Y Y.2.2.2.1 (List.mem_cons_of_mem _ bx_119) dJ0_isLatin1_aae02_0 ?_
  refine g_if_eq C 17 dJ0_isLatin1_aae02_3 (by decide) (fun c => absurd c (by decide)) (fun _ => ?_)
  refine g_aload_n C dJ0_isLatin1_aae02_6 rfl 0 rfl ?_
  refine g_sfld Y (Y.2.2.2.2.1 i hi).2.1 (List.mem_cons_of_mem _ bx_120) dJ0_isLatin1_aae02_7 ?_
  refine g_if_ne C 17 dJ0_isLatin1_aae02_10 (by decide) (fun _ => ?_) (fun c => absurd rfl c)
  refine g_iconst C dJ0_isLatin1_aae02_13 ic_1 ?_
  refine g_goto (tgt := 18) C dJ0_isLatin1_aae02_14 (by decide) ?_
  exact g_yret C rfl rfl rfl rfl dJ0_isLatin1_aae02_18
theorem shr0 (x : Int32) : x >>> ((0 : Int32) &&& 31) = x := sb_shr0 x
set_option maxRecDepth 100000 in
theorem cX_J_length0 (l : Launch) (D : va_G) (T : cT) (ad : Nat → Nat) (sK sV : Nat → Nat) (xo : Sl) (g : St) (i : Nat) (hi : i < nStr) (sz : Nat) : Met l yJ0_length_8abf5 wX_J_length rmX_J_length (va_Pc [.ref (sK i)] (xPre shX D T ad sK sV xo g sz)) (va_Qi (eqI (fX_J_length i) g xo) (wPost shX D T ad (aW shX T ad xo g sz)) (aW shX T ad xo g sz)) 0 0 (aW shX T ad xo g sz) := by
  refine g_startx (Qc := fun A => va_Qi (eqI (fX_J_length i) g xo) (wPost shX D T ad A) A) (by decide +kernel) rfl rfl (Nat.le_of_ble_eq_true rfl) (lv := [(0, .ref (sK i))]) rfl (fun Γ Y => ?_)
  have C := Y.1
  refine g_aload_n C dJ0_length_8abf5_0 rfl 0 rfl ?_
  refine g_sfld Y (Y.2.2.2.2.1 i hi).2.2.1 (List.mem_cons_of_mem _ bx_114) dJ0_length_8abf5_1 ?_
  refine g_tlen Y (Y.2.2.2.2.1 i hi).2.2.2 rfl dJ0_length_8abf5_4 ?_
  refine g_aload_n C dJ0_length_8abf5_5 rfl 0 rfl ?_
  refine g_xTi (i := i) (As := []) (rest := [.int (Int32.ofNat (strB i).length)]) (ro := 0) (go := g) (xo := xo) Y (fun sz => cX_J_coder l D T ad sK sV xo g i hi sz) kX_RJ0_335_J_coder ⟨Nat.le_of_ble_eq_true rfl, Nat.le_of_ble_eq_true rfl⟩ ⟨rfl, rfl⟩ ⟨Nat.zero_le _, Nat.zero_le _⟩ hi rfl rfl (Nat.le_of_ble_eq_true rfl) dJ0_length_8abf5_6 ?_
  refine g_ishr C dJ0_length_8abf5_9 ?_
  exact g_iret C (by rw [shr0]; rfl) rfl rfl dJ0_length_8abf5_10
set_option maxRecDepth 100000 in
theorem cX_J_pcheck (l : Launch) (D : va_G) (T : cT) (ad : Nat → Nat) (sK sV : Nat → Nat) (xo : Sl) (g : St) (k n : Int32) (a : Nat) (h0 : ¬ k < 0) (h1 : k < n) (sz : Nat) : Met l yJ3_checkIndex_8e157 wX_J_pcheck rmX_J_pcheck (va_Pc [.int k, .int n, .ref a] (xPre shX D T ad sK sV xo g sz)) (va_Qi (eqI k g xo) (wPost shX D T ad (aW shX T ad xo g sz)) (aW shX T ad xo g sz)) 0 0 (aW shX T ad xo g sz) := by
  refine g_startx (Qc := fun A => va_Qi (eqI k g xo) (wPost shX D T ad A) A) (by decide +kernel) rfl rfl (Nat.le_of_ble_eq_true rfl) (lv := [(0, .int k), (1, .int n), (2, .ref a)]) rfl (fun Γ Y => ?_)
  have C := Y.1
  refine g_iload_n C dJ3_checkIndex_8e157_0 rfl 0 rfl ?_
  refine g_if_lt C 9 dJ3_checkIndex_8e157_1 (by decide) (fun c => absurd c h0) (fun _ => ?_)
  refine g_iload_n C dJ3_checkIndex_8e157_4 rfl 0 rfl ?_
  refine g_iload_n C dJ3_checkIndex_8e157_5 rfl 1 rfl ?_
  refine g_icmp_lt C 16 dJ3_checkIndex_8e157_6 (by decide) (fun _ => ?_) (fun c => absurd h1 c)
  refine g_iload_n C dJ3_checkIndex_8e157_16 rfl 0 rfl ?_
  exact g_iret C rfl rfl rfl dJ3_checkIndex_8e157_17
set_option maxRecDepth 100000 in
theorem cX_J_pcheckN (l : Launch) (D : va_G) (T : cT) (ad : Nat → Nat) (sK sV : Nat → Nat) (xo : Sl) (g : St) (k n : Int32) (h0 : ¬ k < 0) (h1 : k < n) (sz : Nat) : Met l yJ3_checkIndex_8e157 wX_J_pcheck rmX_J_pcheck (va_Pc [.int k, .int n, .null] (xPre shX D T ad sK sV xo g sz)) (va_Qi (eqI k g xo) (wPost shX D T ad (aW shX T ad xo g sz)) (aW shX T ad xo g sz)) 0 0 (aW shX T ad xo g sz) := by
  refine g_startx (Qc := fun A => va_Qi (eqI k g xo) (wPost shX D T ad A) A) (by decide +kernel) rfl rfl (Nat.le_of_ble_eq_true rfl) (lv := [(0, .int k), (1, .int n), (2, .null)]) rfl (fun Γ Y => ?_)
  have C := Y.1
  refine g_iload_n C dJ3_checkIndex_8e157_0 rfl 0 rfl ?_
  refine g_if_lt C 9 dJ3_checkIndex_8e157_1 (by decide) (fun c => absurd c h0) (fun _ => ?_)
  refine g_iload_n C dJ3_checkIndex_8e157_4 rfl 0 rfl ?_
  refine g_iload_n C dJ3_checkIndex_8e157_5 rfl 1 rfl ?_
  refine g_icmp_lt C 16 dJ3_checkIndex_8e157_6 (by decide) (fun _ => ?_) (fun c => absurd h1 c)
  refine g_iload_n C dJ3_checkIndex_8e157_16 rfl 0 rfl ?_
  exact g_iret C rfl rfl rfl dJ3_checkIndex_8e157_17
set_option maxRecDepth 100000 in
theorem cX_J_checkIndex (l : Launch) (D : va_G) (T : cT) (ad : Nat → Nat) (sK sV : Nat → Nat) (xo : Sl) (g : St) (k n : Int32) (h0 : ¬ k < 0) (h1 : k < n) (sz : Nat) : Met l yJ0_checkIndex_df160 wX_J_checkIndex rmX_J_checkIndex (va_Pc [.int k, .int n] (xPre shX D T ad sK sV xo g sz)) (va_Qv (eqV g xo) (wPost shX D T ad (aW shX T ad xo g sz)) (aW shX T ad xo g sz)) 0 0 (aW shX T ad xo g sz) := by
  refine g_startx (Qc := fun A => va_Qv (eqV g xo) (wPost shX D T ad A) A) (by decide +kernel) rfl rfl (Nat.le_of_ble_eq_true rfl) (lv := [(0, .int k), (1, .int n)]) rfl (fun Γ Y => ?_)
  have C := Y.1
  refine g_iload_n C dJ0_checkIndex_df160_0 rfl 0 rfl ?_
  refine g_iload_n C dJ0_checkIndex_df160_1 rfl 1 rfl ?_
  rcases Y.2.2.2.2.2.2.2.2.2.2.2 with hz | ⟨a, hz⟩
  · refine g_gets Y hz (List.mem_cons_of_mem _ bx_136) dJ0_checkIndex_df160_2 ?_
    refine g_xSi (As := [.int k, .int n, .null]) (rest := []) (ro := k) (go := g) (xo := xo) Y (fun sz => cX_J_pcheckN l D T ad sK sV xo g k n h0 h1 sz) kX_RJ0_1059_J_pcheck ⟨Nat.le_of_ble_eq_true rfl, Nat.le_of_ble_eq_true rfl⟩ ⟨rfl, rfl⟩ ⟨Nat.zero_le _, Nat.zero_le _⟩ rfl rfl (Nat.le_of_ble_eq_true rfl) dJ0_checkIndex_df160_5 ?_
    refine g_pop C dJ0_checkIndex_df160_8 rfl ?_
    exact g_vret C rfl rfl dJ0_checkIndex_df160_9
  · refine g_gets Y hz (List.mem_cons_of_mem _ bx_136) dJ0_checkIndex_df160_2 ?_
    refine g_xSi (As := [.int k, .int n, .ref a]) (rest := []) (ro := k) (go := g) (xo := xo) Y (fun sz => cX_J_pcheck l D T ad sK sV xo g k n a h0 h1 sz) kX_RJ0_1059_J_pcheck ⟨Nat.le_of_ble_eq_true rfl, Nat.le_of_ble_eq_true rfl⟩ ⟨rfl, rfl⟩ ⟨Nat.zero_le _, Nat.zero_le _⟩ rfl rfl (Nat.le_of_ble_eq_true rfl) dJ0_checkIndex_df160_5 ?_
    refine g_pop C dJ0_checkIndex_df160_8 rfl ?_
    exact g_vret C rfl rfl dJ0_checkIndex_df160_9
set_option maxRecDepth 100000 in
theorem cX_J_lcharAt (l : Launch) (D : va_G) (T : cT) (ad : Nat → Nat) (sK sV : Nat → Nat) (xo : Sl) (g : St) (i : Nat) (k : Int32) (hi : i < nStr) (hk : ¬ (k < 0 ∨ (strB i).length ≤ k.toNatClampNeg)) (sz : Nat) : Met l yJ1_charAt_3b067 wX_J_lcharAt rmX_J_lcharAt (va_Pc [.ref (sV i), .int k] (xPre shX D T ad sK sV xo g sz)) (va_Qi (eqI ((strB i).getD k.toNatClampNeg 0) g xo) (wPost shX D T ad (aW shX T ad xo g sz)) (aW shX T ad xo g sz)) 0 0 (aW shX T ad xo g sz) := by
  refine g_startx (Qc := fun A => va_Qi (eqI ((strB i).getD k.toNatClampNeg 0) g xo) (wPost shX D T ad A) A) (by decide +kernel) rfl rfl (Nat.le_of_ble_eq_true rfl) (lv := [(0, .ref (sV i)), (1, .int k)]) rfl (fun Γ Y => ?_)
  have C := Y.1
  have hlt : k.toNatClampNeg < (strB i).length := Nat.not_le.mp (fun q => hk (Or.inr q))
  have hkn : k < Int32.ofNat (strB i).length := by
    have h0 : ¬ k < 0 := fun q => hk (Or.inl q)
    obtain ⟨j, hj, rfl⟩ := nI_of h0
    rw [nI_clamp hj] at hlt
    exact nI_lt hlt (by have := strB_lt hi; omega)
  refine g_iload_n C dJ1_charAt_3b067_0 rfl 1 rfl ?_
  refine g_aload_n C dJ1_charAt_3b067_1 rfl 0 rfl ?_
  refine g_tlen Y (Y.2.2.2.2.1 i hi).2.2.2 rfl dJ1_charAt_3b067_2 ?_
  refine g_xSv (As := [.int k, .int (Int32.ofNat (strB i).length)]) (rest := []) (go := g) (xo := xo) Y (fun sz => cX_J_checkIndex l D T ad sK sV xo g k _ (fun q => hk (Or.inl q)) hkn sz) kX_RJ1_9_J_checkIndex ⟨Nat.le_of_ble_eq_true rfl, Nat.le_of_ble_eq_true rfl⟩ ⟨rfl, rfl⟩ ⟨Nat.zero_le _, Nat.zero_le _⟩ rfl rfl (Nat.le_of_ble_eq_true rfl) dJ1_charAt_3b067_3 ?_
  refine g_aload_n C dJ1_charAt_3b067_6 rfl 0 rfl ?_
  refine g_iload_n C dJ1_charAt_3b067_7 rfl 1 rfl ?_
  refine g_tb Y (Y.2.2.2.2.1 i hi).2.2.2 hk rfl dJ1_charAt_3b067_8 ?_
  refine g_sipush C dJ1_charAt_3b067_9 ic255 ?_
  refine g_iand C dJ1_charAt_3b067_12 ?_
  refine g_i2c C dJ1_charAt_3b067_13 ?_
  obtain ⟨e1, e2⟩ := strB_in hi k.toNatClampNeg hlt
  rw [e1]
  exact g_yret C e2 rfl rfl rfl dJ1_charAt_3b067_14
set_option maxRecDepth 100000 in
theorem cX_J_charAt0 (l : Launch) (D : va_G) (T : cT) (ad : Nat → Nat) (sK sV : Nat → Nat) (xo : Sl) (g : St) (i : Nat) (k : Int32) (hi : i < nStr) (hk : ¬ (k < 0 ∨ (strB i).length ≤ k.toNatClampNeg)) (sz : Nat) : Met l yJ0_charAt_5068e wX_J_charAt rmX_J_charAt (va_Pc [.ref (sK i), .int k] (xPre shX D T ad sK sV xo g sz)) (va_Qi (eqI ((strB i).getD k.toNatClampNeg 0) g xo) (wPost shX D T ad (aW shX T ad xo g sz)) (aW shX T ad xo g sz)) 0 0 (aW shX T ad xo g sz) := by
  refine g_startx (Qc := fun A => va_Qi (eqI ((strB i).getD k.toNatClampNeg 0) g xo) (wPost shX D T ad A) A) (by decide +kernel) rfl rfl (Nat.le_of_ble_eq_true rfl) (lv := [(0, .ref (sK i)), (1, .int k)]) rfl (fun Γ Y => ?_)
  have C := Y.1
  have hlt : k.toNatClampNeg < (strB i).length := Nat.not_le.mp (fun q => hk (Or.inr q))
  refine g_aload_n C dJ0_charAt_5068e_0 rfl 0 rfl ?_
  refine g_xTi (i := i) (As := []) (rest := []) (ro := 1) (go := g) (xo := xo) Y (fun sz => cX_J_isLatin1 l D T ad sK sV xo g i hi sz) kX_RJ0_492_J_isLatin1 ⟨Nat.le_of_ble_eq_true rfl, Nat.le_of_ble_eq_true rfl⟩ ⟨rfl, rfl⟩ ⟨Nat.zero_le _, Nat.zero_le _⟩ hi rfl rfl (Nat.le_of_ble_eq_true rfl) dJ0_charAt_5068e_1 ?_
  refine g_if_eq C 16 dJ0_charAt_5068e_4 (by decide) (fun c => absurd c (by decide)) (fun _ => ?_)
  refine g_aload_n C dJ0_charAt_5068e_7 rfl 0 rfl ?_
  refine g_sfld Y (Y.2.2.2.2.1 i hi).2.2.1 (List.mem_cons_of_mem _ bx_114) dJ0_charAt_5068e_8 ?_
  refine g_iload_n C dJ0_charAt_5068e_11 rfl 1 rfl ?_
  refine g_xSi (As := [.ref (sV i), .int k]) (rest := []) (ro := (strB i).getD k.toNatClampNeg 0) (go := g) (xo := xo) Y (fun sz => cX_J_lcharAt l D T ad sK sV xo g i k hi hk sz) kX_RJ0_495_J_lcharAt ⟨Nat.le_of_ble_eq_true rfl, Nat.le_of_ble_eq_true rfl⟩ ⟨rfl, rfl⟩ ⟨Nat.zero_le _, Nat.zero_le _⟩ rfl rfl (Nat.le_of_ble_eq_true rfl) dJ0_charAt_5068e_12 ?_
  exact g_yret C (strB_in hi k.toNatClampNeg hlt).2 rfl rfl rfl dJ0_charAt_5068e_15
theorem cX_J_length (l : Launch) (D : va_G) (T : cT) (ad : Nat → Nat) (sK sV : Nat → Nat) (xo : Sl) (g : St) (i : Nat) (hi : i < nStr) (o : Int32) (h : fX_J_length i = o) (sz : Nat) : Met l yJ0_length_8abf5 wX_J_length rmX_J_length (va_Pc [.ref (sK i)] (xPre shX D T ad sK sV xo g sz)) (va_Qi (eqI o g xo) (wPost shX D T ad (aW shX T ad xo g sz)) (aW shX T ad xo g sz)) 0 0 (aW shX T ad xo g sz) := by
  subst h
  exact cX_J_length0 l D T ad sK sV xo g i hi sz
theorem cX_J_charAt (l : Launch) (D : va_G) (T : cT) (ad : Nat → Nat) (sK sV : Nat → Nat) (xo : Sl) (g : St) (i : Nat) (k : Int32) (hi : i < nStr) (o : Int32) (h : fX_J_charAt i k = some o) (sz : Nat) : Met l yJ0_charAt_5068e wX_J_charAt rmX_J_charAt (va_Pc [.ref (sK i), .int k] (xPre shX D T ad sK sV xo g sz)) (va_Qi (eqI o g xo) (wPost shX D T ad (aW shX T ad xo g sz)) (aW shX T ad xo g sz)) 0 0 (aW shX T ad xo g sz) := by
  unfold fX_J_charAt at h
  obtain ⟨hk, h⟩ := grd h
  obtain rfl := Option.some.inj h
  exact cX_J_charAt0 l D T ad sK sV xo g i k hi hk sz
