/-! the law's wrappers: what is thrown is a number -/
/-- of a wrapper of a kind: the thrown class's number, what the wrapper answers -/
def kcd : Nat → Nat → Int32 → Prop
  | 0, k, t => k = 0 ∧ t = 1
  | 1, k, t => k = 1 ∧ t = 1
  | _, k, t => (k = 0 ∧ t = 1) ∨ (k = 1 ∧ t = 2)
def lwI (kd : Nat) (e : Nat ⊕ Int32) (r : Int32) (u : Nat → Int64) : Prop := (∃ w, e = .inr w ∧ r = 0 ∧ u 0 = w.toInt64) ∨ ∃ k, e = .inl k ∧ kcd kd k r
def lwZ (kd : Nat) (e : Nat ⊕ Int32) (r : Int32) (u : Nat → Int64) : Prop := (∃ w, e = .inr w ∧ r = 0 ∧ u 0 = if w = 0 then 0 else 1) ∨ ∃ k, e = .inl k ∧ kcd kd k r
def lwL (kd : Nat) (e : Nat ⊕ Int64) (r : Int32) (u : Nat → Int64) : Prop := (∃ w, e = .inr w ∧ r = 0 ∧ u 0 = w) ∨ ∃ k, e = .inl k ∧ kcd kd k r
theorem vpU (f : Nat → Int64) (v : Int64) : vp_updL f 0 v 0 = v := by unfold vp_updL; simp
theorem BL_kV {c0 : Cond} {own C0 : String} {idx maxL n : Nat} {y : MethodName} {cy : ByteArray} {ret : Option FieldType} (h1 : Cond.methodLink own idx y ∈ BL) (h2 : Cond.instanceMethod y ∈ BL) (h3 : Cond.selects C0 y y ∈ BL) (h4 : Cond.initialized C0 ∈ BL) (h5 : Cond.code y cy maxL ret ∈ BX) (hd : y.cls = C0 ∧ y.cls ≠ "java/lang/invoke/MethodHandle" ∧ y.cls ≠ "java/lang/invoke/VarHandle" ∧ (parseMethodDescriptor y.desc).map (fun d => d.parameters.length) = some n) : kV (c0 :: BL) own C0 idx y cy maxL n ret (.code y cy maxL ret :: BX) := by
  have hg : ∀ w ∈ BL, w ∈ c0 :: BL ∧ ((w.onTables && w.keeps) = true ∨ ∃ ty, w = .arrayClass ty) := fun w hw => ⟨List.mem_cons_of_mem _ hw, good_of_word (List.all_eq_true.mp BL_good w hw)⟩
  refine ⟨fun w hw => ?_, ⟨_, rfl⟩, hd⟩
  unfold wsV at hw
  rcases List.mem_append.mp hw with hw | hw
  · simp only [List.mem_cons, List.not_mem_nil, or_false] at hw
    rcases hw with rfl | rfl | rfl | rfl
    · exact hg _ h1
    · exact hg _ h2
    · exact hg _ h3
    · exact hg _ h4
  · rcases List.mem_cons.mp hw with rfl | hw
    · exact hg _ (List.mem_append_right _ h5)
    · exact hg _ (List.mem_append_right _ hw)
def wL_peninsula : List Cond := .codeWith yL_peninsula cL_peninsula 4 (some .int) [(0, 9, 12, 13)] :: BL
theorem kL_peninsula {c0 : Cond} : kV (c0 :: BL) RL RX11 7 yX11_peninsula cX11_peninsula 2 1 (some .int) wX_peninsula := BL_kV bl_1 bl_2 bl_3 (List.mem_append_right _ bx_573) bx_591 (by decide +kernel)
def rmL_peninsula : Room := { frames := 10 + 1, cells := 1, slots := 6, locals := 8 + (2 + 11) + 229 }
set_option maxRecDepth 100000 in
theorem cL_peninsula_w (l : Launch) (hl0 : l.stackTraces = false) (D : va_G) (T : cT) (ad : Nat → Nat) (sK sV : Nat → Nat) (xo : Sl) (g : St) (q : Nat) (f : Nat → Int64) (x1 : Int32) (o : (Nat ⊕ Int32) × St) (h : fX_peninsula x1 g = some o) (hk : ∀ k, o.1 = .inl k → ∃ t, kcd 1 k t) (sz : Nat) : Met l yL_peninsula wL_peninsula rmL_peninsula (va_Pc [.ref (ad 0), .int x1, .ref q] (kPre D T (EL sK sV) ([oL T q f] ++ wW shX T ad xo g) sz)) (va_Qi (lwI 1 o.1) (fun u => kPost D T (va_A ([oL T q f] ++ wW shX T ad xo g) sz) ([oL T q u] ++ wW shX T ad xo o.2)) (va_A ([oL T q f] ++ wW shX T ad xo g) sz)) 1 6 (va_A ([oL T q f] ++ wW shX T ad xo g) sz) := by
  refine q_startH (E := EL sK sV) (Qc := fun A => va_Qi (lwI 1 o.1) (fun u => kPost D T A ([oL T q u] ++ wW shX T ad xo o.2)) A) (y := yL_peninsula) (av := [.ref (ad 0), .int x1, .ref q]) (maxL := 4) (ws := wL_peninsula) (cc := cL_peninsula) (own := RL) (by decide +kernel) rfl rfl (Nat.le_of_ble_eq_true rfl) (lv := [(0, .ref (ad 0)), (1, .int x1), (2, .ref q)]) rfl (fun Γ C hA hE htab => ?_)
  generalize hQ : (MQ Γ.below (va_Qi (lwI 1 o.1) (fun u => kPost D T Γ.A ([oL T q u] ++ wW shX T ad xo o.2)) Γ.A) Γ.args Γ.s 1 6 Γ.A) = Q
  refine q_aload_n C dL_peninsula_0 rfl 2 rfl ?_
  refine q_iconst (v := (0 : Int32)) C dL_peninsula_1 (by decide) ?_
  refine q_aload_n C dL_peninsula_2 rfl 0 rfl ?_
  refine q_iload_n C dL_peninsula_3 rfl 1 rfl ?_
  refine q_xti (ad := ad) (kc' := 1) (ks' := 6) (rest := [.int 0, .ref q]) (As := [.int x1]) C hA hE.1 (cut_tail (a := [oL T q f])) (fun sz => cX_peninsula l hl0 D T ad sK sV xo g x1 o h sz) kL_peninsula ⟨Nat.le_of_ble_eq_true rfl, Nat.le_of_ble_eq_true rfl⟩ ⟨rfl, rfl⟩ ⟨Nat.le_of_ble_eq_true rfl, Nat.le_of_ble_eq_true rfl⟩ ⟨Nat.le_of_ble_eq_true rfl, Nat.le_of_ble_eq_true rfl⟩ rfl rfl (Nat.le_of_ble_eq_true rfl) dL_peninsula_4 (fun k hk1 => ?_) (fun r hr1 => ?_)
  · subst hQ
    obtain ⟨t9, e9, -⟩ : ∃ t, kcd 1 k t := hk k hk1
    subst e9
    refine q_catch (hpc0 := 12) (name := "java/lang/IllegalArgumentException") C [] _ [] htab (fun z hz => by cases hz) rfl (by decide) (List.mem_cons_of_mem _ bl_0) hE.1.2.2.2.2.2.1 rfl (fun q9 => ?_)
    refine q_astore_n (lv' := ((3, Value.ref q9) :: [(0, .ref (ad 0)), (1, .int x1), (2, .ref q)])) C dL_peninsula_12 rfl (Nat.le_of_ble_eq_true rfl) rfl ?_
    refine q_iconst (v := (1 : Int32)) C dL_peninsula_13 (by decide) ?_
    exact q_wret C f (Or.inr ⟨_, hk1, by exact ⟨rfl, rfl⟩⟩) rfl (Nat.le_of_ble_eq_true rfl) (Nat.le_of_ble_eq_true rfl) dL_peninsula_14
  · refine q_i2l C dL_peninsula_7 ?_
    refine q_last C rfl rfl dL_peninsula_8 ?_
    refine q_goto (tgt := 15) C dL_peninsula_9 (by decide) ?_
    refine q_iconst (v := (0 : Int32)) C dL_peninsula_15 (by decide) ?_
    subst hQ
    exact q_wret C (vp_updL f 0 r.toInt64) (Or.inl ⟨r, hr1, rfl, by rw [vpU]⟩) rfl (Nat.le_of_ble_eq_true rfl) (Nat.le_of_ble_eq_true rfl) dL_peninsula_16
def wL_law : List Cond := .codeWith yL_law cL_law 4 (some .int) [(0, 9, 12, 13)] :: BL
theorem kL_law {c0 : Cond} : kV (c0 :: BL) RL RX11 15 yX11_law cX11_law 2 1 (some .int) wX_law := BL_kV bl_4 bl_5 bl_6 (List.mem_append_right _ bx_573) bx_598 (by decide +kernel)
def rmL_law : Room := { frames := 11 + 1, cells := 1, slots := 6, locals := 8 + (2 + 11) + 251 }
set_option maxRecDepth 100000 in
theorem cL_law_w (l : Launch) (hl0 : l.stackTraces = false) (D : va_G) (T : cT) (ad : Nat → Nat) (sK sV : Nat → Nat) (xo : Sl) (g : St) (q : Nat) (f : Nat → Int64) (x1 : Int32) (o : (Nat ⊕ Int32) × St) (h : fX_law x1 g = some o) (hk : ∀ k, o.1 = .inl k → ∃ t, kcd 1 k t) (sz : Nat) : Met l yL_law wL_law rmL_law (va_Pc [.ref (ad 0), .int x1, .ref q] (kPre D T (EL sK sV) ([oL T q f] ++ wW shX T ad xo g) sz)) (va_Qi (lwI 1 o.1) (fun u => kPost D T (va_A ([oL T q f] ++ wW shX T ad xo g) sz) ([oL T q u] ++ wW shX T ad xo o.2)) (va_A ([oL T q f] ++ wW shX T ad xo g) sz)) 1 6 (va_A ([oL T q f] ++ wW shX T ad xo g) sz) := by
  refine q_startH (E := EL sK sV) (Qc := fun A => va_Qi (lwI 1 o.1) (fun u => kPost D T A ([oL T q u] ++ wW shX T ad xo o.2)) A) (y := yL_law) (av := [.ref (ad 0), .int x1, .ref q]) (maxL := 4) (ws := wL_law) (cc := cL_law) (own := RL) (by decide +kernel) rfl rfl (Nat.le_of_ble_eq_true rfl) (lv := [(0, .ref (ad 0)), (1, .int x1), (2, .ref q)]) rfl (fun Γ C hA hE htab => ?_)
  generalize hQ : (MQ Γ.below (va_Qi (lwI 1 o.1) (fun u => kPost D T Γ.A ([oL T q u] ++ wW shX T ad xo o.2)) Γ.A) Γ.args Γ.s 1 6 Γ.A) = Q
  refine q_aload_n C dL_law_0 rfl 2 rfl ?_
  refine q_iconst (v := (0 : Int32)) C dL_law_1 (by decide) ?_
  refine q_aload_n C dL_law_2 rfl 0 rfl ?_
  refine q_iload_n C dL_law_3 rfl 1 rfl ?_
  refine q_xti (ad := ad) (kc' := 1) (ks' := 6) (rest := [.int 0, .ref q]) (As := [.int x1]) C hA hE.1 (cut_tail (a := [oL T q f])) (fun sz => cX_law l hl0 D T ad sK sV xo g x1 o h sz) kL_law ⟨Nat.le_of_ble_eq_true rfl, Nat.le_of_ble_eq_true rfl⟩ ⟨rfl, rfl⟩ ⟨Nat.le_of_ble_eq_true rfl, Nat.le_of_ble_eq_true rfl⟩ ⟨Nat.le_of_ble_eq_true rfl, Nat.le_of_ble_eq_true rfl⟩ rfl rfl (Nat.le_of_ble_eq_true rfl) dL_law_4 (fun k hk1 => ?_) (fun r hr1 => ?_)
  · subst hQ
    obtain ⟨t9, e9, -⟩ : ∃ t, kcd 1 k t := hk k hk1
    subst e9
    refine q_catch (hpc0 := 12) (name := "java/lang/IllegalArgumentException") C [] _ [] htab (fun z hz => by cases hz) rfl (by decide) (List.mem_cons_of_mem _ bl_0) hE.1.2.2.2.2.2.1 rfl (fun q9 => ?_)
    refine q_astore_n (lv' := ((3, Value.ref q9) :: [(0, .ref (ad 0)), (1, .int x1), (2, .ref q)])) C dL_law_12 rfl (Nat.le_of_ble_eq_true rfl) rfl ?_
    refine q_iconst (v := (1 : Int32)) C dL_law_13 (by decide) ?_
    exact q_wret C f (Or.inr ⟨_, hk1, by exact ⟨rfl, rfl⟩⟩) rfl (Nat.le_of_ble_eq_true rfl) (Nat.le_of_ble_eq_true rfl) dL_law_14
  · refine q_i2l C dL_law_7 ?_
    refine q_last C rfl rfl dL_law_8 ?_
    refine q_goto (tgt := 15) C dL_law_9 (by decide) ?_
    refine q_iconst (v := (0 : Int32)) C dL_law_15 (by decide) ?_
    subst hQ
    exact q_wret C (vp_updL f 0 r.toInt64) (Or.inl ⟨r, hr1, rfl, by rw [vpU]⟩) rfl (Nat.le_of_ble_eq_true rfl) (Nat.le_of_ble_eq_true rfl) dL_law_16
def wL_work : List Cond := .codeWith yL_work cL_work 4 (some .int) [(0, 9, 12, 13)] :: BL
theorem kL_work {c0 : Cond} : kV (c0 :: BL) RL RX11 18 yX11_work cX11_work 2 1 (some .int) wX_work := BL_kV bl_7 bl_8 bl_9 (List.mem_append_right _ bx_573) bx_613 (by decide +kernel)
def rmL_work : Room := { frames := 10 + 1, cells := 1, slots := 6, locals := 8 + (2 + 11) + 229 }
set_option maxRecDepth 100000 in
theorem cL_work_w (l : Launch) (hl0 : l.stackTraces = false) (D : va_G) (T : cT) (ad : Nat → Nat) (sK sV : Nat → Nat) (xo : Sl) (g : St) (q : Nat) (f : Nat → Int64) (x1 : Int32) (o : (Nat ⊕ Int32) × St) (h : fX_work x1 g = some o) (hk : ∀ k, o.1 = .inl k → ∃ t, kcd 1 k t) (sz : Nat) : Met l yL_work wL_work rmL_work (va_Pc [.ref (ad 0), .int x1, .ref q] (kPre D T (EL sK sV) ([oL T q f] ++ wW shX T ad xo g) sz)) (va_Qi (lwI 1 o.1) (fun u => kPost D T (va_A ([oL T q f] ++ wW shX T ad xo g) sz) ([oL T q u] ++ wW shX T ad xo o.2)) (va_A ([oL T q f] ++ wW shX T ad xo g) sz)) 1 6 (va_A ([oL T q f] ++ wW shX T ad xo g) sz) := by
  refine q_startH (E := EL sK sV) (Qc := fun A => va_Qi (lwI 1 o.1) (fun u => kPost D T A ([oL T q u] ++ wW shX T ad xo o.2)) A) (y := yL_work) (av := [.ref (ad 0), .int x1, .ref q]) (maxL := 4) (ws := wL_work) (cc := cL_work) (own := RL) (by decide +kernel) rfl rfl (Nat.le_of_ble_eq_true rfl) (lv := [(0, .ref (ad 0)), (1, .int x1), (2, .ref q)]) rfl (fun Γ C hA hE htab => ?_)
  generalize hQ : (MQ Γ.below (va_Qi (lwI 1 o.1) (fun u => kPost D T Γ.A ([oL T q u] ++ wW shX T ad xo o.2)) Γ.A) Γ.args Γ.s 1 6 Γ.A) = Q
  refine q_aload_n C dL_work_0 rfl 2 rfl ?_
  refine q_iconst (v := (0 : Int32)) C dL_work_1 (by decide) ?_
  refine q_aload_n C dL_work_2 rfl 0 rfl ?_
  refine q_iload_n C dL_work_3 rfl 1 rfl ?_
  refine q_xti (ad := ad) (kc' := 1) (ks' := 6) (rest := [.int 0, .ref q]) (As := [.int x1]) C hA hE.1 (cut_tail (a := [oL T q f])) (fun sz => cX_work l hl0 D T ad sK sV xo g x1 o h sz) kL_work ⟨Nat.le_of_ble_eq_true rfl, Nat.le_of_ble_eq_true rfl⟩ ⟨rfl, rfl⟩ ⟨Nat.le_of_ble_eq_true rfl, Nat.le_of_ble_eq_true rfl⟩ ⟨Nat.le_of_ble_eq_true rfl, Nat.le_of_ble_eq_true rfl⟩ rfl rfl (Nat.le_of_ble_eq_true rfl) dL_work_4 (fun k hk1 => ?_) (fun r hr1 => ?_)
  · subst hQ
    obtain ⟨t9, e9, -⟩ : ∃ t, kcd 1 k t := hk k hk1
    subst e9
    refine q_catch (hpc0 := 12) (name := "java/lang/IllegalArgumentException") C [] _ [] htab (fun z hz => by cases hz) rfl (by decide) (List.mem_cons_of_mem _ bl_0) hE.1.2.2.2.2.2.1 rfl (fun q9 => ?_)
    refine q_astore_n (lv' := ((3, Value.ref q9) :: [(0, .ref (ad 0)), (1, .int x1), (2, .ref q)])) C dL_work_12 rfl (Nat.le_of_ble_eq_true rfl) rfl ?_
    refine q_iconst (v := (1 : Int32)) C dL_work_13 (by decide) ?_
    exact q_wret C f (Or.inr ⟨_, hk1, by exact ⟨rfl, rfl⟩⟩) rfl (Nat.le_of_ble_eq_true rfl) (Nat.le_of_ble_eq_true rfl) dL_work_14
  · refine q_i2l C dL_work_7 ?_
    refine q_last C rfl rfl dL_work_8 ?_
    refine q_goto (tgt := 15) C dL_work_9 (by decide) ?_
    refine q_iconst (v := (0 : Int32)) C dL_work_15 (by decide) ?_
    subst hQ
    exact q_wret C (vp_updL f 0 r.toInt64) (Or.inl ⟨r, hr1, rfl, by rw [vpU]⟩) rfl (Nat.le_of_ble_eq_true rfl) (Nat.le_of_ble_eq_true rfl) dL_work_16
def wL_book : List Cond := .codeWith yL_book cL_book 4 (some .int) [(0, 9, 12, 13)] :: BL
theorem kL_book {c0 : Cond} : kV (c0 :: BL) RL RX11 21 yX11_book cX11_book 2 1 (some .int) wX_book := BL_kV bl_10 bl_11 bl_12 (List.mem_append_right _ bx_573) bx_621 (by decide +kernel)
def rmL_book : Room := { frames := 9 + 1, cells := 1, slots := 6, locals := 8 + (2 + 11) + 141 }
set_option maxRecDepth 100000 in
theorem cL_book_w (l : Launch) (hl0 : l.stackTraces = false) (D : va_G) (T : cT) (ad : Nat → Nat) (sK sV : Nat → Nat) (xo : Sl) (g : St) (q : Nat) (f : Nat → Int64) (x1 : Int32) (o : (Nat ⊕ Int32) × St) (h : fX_book x1 g = some o) (hk : ∀ k, o.1 = .inl k → ∃ t, kcd 1 k t) (sz : Nat) : Met l yL_book wL_book rmL_book (va_Pc [.ref (ad 0), .int x1, .ref q] (kPre D T (EL sK sV) ([oL T q f] ++ wW shX T ad xo g) sz)) (va_Qi (lwI 1 o.1) (fun u => kPost D T (va_A ([oL T q f] ++ wW shX T ad xo g) sz) ([oL T q u] ++ wW shX T ad xo o.2)) (va_A ([oL T q f] ++ wW shX T ad xo g) sz)) 1 6 (va_A ([oL T q f] ++ wW shX T ad xo g) sz) := by
  refine q_startH (E := EL sK sV) (Qc := fun A => va_Qi (lwI 1 o.1) (fun u => kPost D T A ([oL T q u] ++ wW shX T ad xo o.2)) A) (y := yL_book) (av := [.ref (ad 0), .int x1, .ref q]) (maxL := 4) (ws := wL_book) (cc := cL_book) (own := RL) (by decide +kernel) rfl rfl (Nat.le_of_ble_eq_true rfl) (lv := [(0, .ref (ad 0)), (1, .int x1), (2, .ref q)]) rfl (fun Γ C hA hE htab => ?_)
  generalize hQ : (MQ Γ.below (va_Qi (lwI 1 o.1) (fun u => kPost D T Γ.A ([oL T q u] ++ wW shX T ad xo o.2)) Γ.A) Γ.args Γ.s 1 6 Γ.A) = Q
  refine q_aload_n C dL_book_0 rfl 2 rfl ?_
  refine q_iconst (v := (0 : Int32)) C dL_book_1 (by decide) ?_
  refine q_aload_n C dL_book_2 rfl 0 rfl ?_
  refine q_iload_n C dL_book_3 rfl 1 rfl ?_
  refine q_xti (ad := ad) (kc' := 1) (ks' := 6) (rest := [.int 0, .ref q]) (As := [.int x1]) C hA hE.1 (cut_tail (a := [oL T q f])) (fun sz => cX_book l hl0 D T ad sK sV xo g x1 o h sz) kL_book ⟨Nat.le_of_ble_eq_true rfl, Nat.le_of_ble_eq_true rfl⟩ ⟨rfl, rfl⟩ ⟨Nat.le_of_ble_eq_true rfl, Nat.le_of_ble_eq_true rfl⟩ ⟨Nat.le_of_ble_eq_true rfl, Nat.le_of_ble_eq_true rfl⟩ rfl rfl (Nat.le_of_ble_eq_true rfl) dL_book_4 (fun k hk1 => ?_) (fun r hr1 => ?_)
  · subst hQ
    obtain ⟨t9, e9, -⟩ : ∃ t, kcd 1 k t := hk k hk1
    subst e9
    refine q_catch (hpc0 := 12) (name := "java/lang/IllegalArgumentException") C [] _ [] htab (fun z hz => by cases hz) rfl (by decide) (List.mem_cons_of_mem _ bl_0) hE.1.2.2.2.2.2.1 rfl (fun q9 => ?_)
    refine q_astore_n (lv' := ((3, Value.ref q9) :: [(0, .ref (ad 0)), (1, .int x1), (2, .ref q)])) C dL_book_12 rfl (Nat.le_of_ble_eq_true rfl) rfl ?_
    refine q_iconst (v := (1 : Int32)) C dL_book_13 (by decide) ?_
    exact q_wret C f (Or.inr ⟨_, hk1, by exact ⟨rfl, rfl⟩⟩) rfl (Nat.le_of_ble_eq_true rfl) (Nat.le_of_ble_eq_true rfl) dL_book_14
  · refine q_i2l C dL_book_7 ?_
    refine q_last C rfl rfl dL_book_8 ?_
    refine q_goto (tgt := 15) C dL_book_9 (by decide) ?_
    refine q_iconst (v := (0 : Int32)) C dL_book_15 (by decide) ?_
    subst hQ
    exact q_wret C (vp_updL f 0 r.toInt64) (Or.inl ⟨r, hr1, rfl, by rw [vpU]⟩) rfl (Nat.le_of_ble_eq_true rfl) (Nat.le_of_ble_eq_true rfl) dL_book_16
def wL_told : List Cond := .codeWith yL_told cL_told 4 (some .int) [(0, 9, 12, 13)] :: BL
theorem kL_told {c0 : Cond} : kV (c0 :: BL) RL RX11 24 yX11_told cX11_told 2 1 (some .int) wX_told := BL_kV bl_13 bl_14 bl_15 (List.mem_append_right _ bx_573) bx_648 (by decide +kernel)
def rmL_told : Room := { frames := 9 + 1, cells := 1, slots := 6, locals := 8 + (2 + 11) + 141 }
set_option maxRecDepth 100000 in
theorem cL_told_w (l : Launch) (hl0 : l.stackTraces = false) (D : va_G) (T : cT) (ad : Nat → Nat) (sK sV : Nat → Nat) (xo : Sl) (g : St) (q : Nat) (f : Nat → Int64) (x1 : Int32) (o : (Nat ⊕ Int32) × St) (h : fX_told x1 g = some o) (hk : ∀ k, o.1 = .inl k → ∃ t, kcd 1 k t) (sz : Nat) : Met l yL_told wL_told rmL_told (va_Pc [.ref (ad 0), .int x1, .ref q] (kPre D T (EL sK sV) ([oL T q f] ++ wW shX T ad xo g) sz)) (va_Qi (lwI 1 o.1) (fun u => kPost D T (va_A ([oL T q f] ++ wW shX T ad xo g) sz) ([oL T q u] ++ wW shX T ad xo o.2)) (va_A ([oL T q f] ++ wW shX T ad xo g) sz)) 1 6 (va_A ([oL T q f] ++ wW shX T ad xo g) sz) := by
  refine q_startH (E := EL sK sV) (Qc := fun A => va_Qi (lwI 1 o.1) (fun u => kPost D T A ([oL T q u] ++ wW shX T ad xo o.2)) A) (y := yL_told) (av := [.ref (ad 0), .int x1, .ref q]) (maxL := 4) (ws := wL_told) (cc := cL_told) (own := RL) (by decide +kernel) rfl rfl (Nat.le_of_ble_eq_true rfl) (lv := [(0, .ref (ad 0)), (1, .int x1), (2, .ref q)]) rfl (fun Γ C hA hE htab => ?_)
  generalize hQ : (MQ Γ.below (va_Qi (lwI 1 o.1) (fun u => kPost D T Γ.A ([oL T q u] ++ wW shX T ad xo o.2)) Γ.A) Γ.args Γ.s 1 6 Γ.A) = Q
  refine q_aload_n C dL_told_0 rfl 2 rfl ?_
  refine q_iconst (v := (0 : Int32)) C dL_told_1 (by decide) ?_
  refine q_aload_n C dL_told_2 rfl 0 rfl ?_
  refine q_iload_n C dL_told_3 rfl 1 rfl ?_
  refine q_xti (ad := ad) (kc' := 1) (ks' := 6) (rest := [.int 0, .ref q]) (As := [.int x1]) C hA hE.1 (cut_tail (a := [oL T q f])) (fun sz => cX_told l hl0 D T ad sK sV xo g x1 o h sz) kL_told ⟨Nat.le_of_ble_eq_true rfl, Nat.le_of_ble_eq_true rfl⟩ ⟨rfl, rfl⟩ ⟨Nat.le_of_ble_eq_true rfl, Nat.le_of_ble_eq_true rfl⟩ ⟨Nat.le_of_ble_eq_true rfl, Nat.le_of_ble_eq_true rfl⟩ rfl rfl (Nat.le_of_ble_eq_true rfl) dL_told_4 (fun k hk1 => ?_) (fun r hr1 => ?_)
  · subst hQ
    obtain ⟨t9, e9, -⟩ : ∃ t, kcd 1 k t := hk k hk1
    subst e9
    refine q_catch (hpc0 := 12) (name := "java/lang/IllegalArgumentException") C [] _ [] htab (fun z hz => by cases hz) rfl (by decide) (List.mem_cons_of_mem _ bl_0) hE.1.2.2.2.2.2.1 rfl (fun q9 => ?_)
    refine q_astore_n (lv' := ((3, Value.ref q9) :: [(0, .ref (ad 0)), (1, .int x1), (2, .ref q)])) C dL_told_12 rfl (Nat.le_of_ble_eq_true rfl) rfl ?_
    refine q_iconst (v := (1 : Int32)) C dL_told_13 (by decide) ?_
    exact q_wret C f (Or.inr ⟨_, hk1, by exact ⟨rfl, rfl⟩⟩) rfl (Nat.le_of_ble_eq_true rfl) (Nat.le_of_ble_eq_true rfl) dL_told_14
  · refine q_i2l C dL_told_7 ?_
    refine q_last C rfl rfl dL_told_8 ?_
    refine q_goto (tgt := 15) C dL_told_9 (by decide) ?_
    refine q_iconst (v := (0 : Int32)) C dL_told_15 (by decide) ?_
    subst hQ
    exact q_wret C (vp_updL f 0 r.toInt64) (Or.inl ⟨r, hr1, rfl, by rw [vpU]⟩) rfl (Nat.le_of_ble_eq_true rfl) (Nat.le_of_ble_eq_true rfl) dL_told_16
def wL_person : List Cond := .codeWith yL_person cL_person 5 (some .int) [(0, 10, 13, 31), (0, 10, 17, 13)] :: BL
theorem kL_person {c0 : Cond} : kV (c0 :: BL) RL RX11 27 yX11_person cX11_person 3 2 (some .int) wX_person := BL_kV bl_17 bl_18 bl_19 (List.mem_append_right _ bx_573) bx_667 (by decide +kernel)
def rmL_person : Room := { frames := 9 + 1, cells := 2, slots := 12, locals := 8 + (3 + 11) + 141 }
set_option maxRecDepth 100000 in
theorem cL_person_w (l : Launch) (hl0 : l.stackTraces = false) (D : va_G) (T : cT) (ad : Nat → Nat) (sK sV : Nat → Nat) (xo : Sl) (g : St) (q : Nat) (f : Nat → Int64) (x1 : Int32) (x2 : Int32) (o : (Nat ⊕ Int32) × St) (h : fX_person x1 x2 g = some o) (hk : ∀ k, o.1 = .inl k → ∃ t, kcd 2 k t) (sz : Nat) : Met l yL_person wL_person rmL_person (va_Pc [.ref (ad 0), .int x1, .int x2, .ref q] (kPre D T (EL sK sV) ([oL T q f] ++ wW shX T ad xo g) sz)) (va_Qi (lwI 2 o.1) (fun u => kPost D T (va_A ([oL T q f] ++ wW shX T ad xo g) sz) ([oL T q u] ++ wW shX T ad xo o.2)) (va_A ([oL T q f] ++ wW shX T ad xo g) sz)) 2 12 (va_A ([oL T q f] ++ wW shX T ad xo g) sz) := by
  refine q_startH (E := EL sK sV) (Qc := fun A => va_Qi (lwI 2 o.1) (fun u => kPost D T A ([oL T q u] ++ wW shX T ad xo o.2)) A) (y := yL_person) (av := [.ref (ad 0), .int x1, .int x2, .ref q]) (maxL := 5) (ws := wL_person) (cc := cL_person) (own := RL) (by decide +kernel) rfl rfl (Nat.le_of_ble_eq_true rfl) (lv := [(0, .ref (ad 0)), (1, .int x1), (2, .int x2), (3, .ref q)]) rfl (fun Γ C hA hE htab => ?_)
  generalize hQ : (MQ Γ.below (va_Qi (lwI 2 o.1) (fun u => kPost D T Γ.A ([oL T q u] ++ wW shX T ad xo o.2)) Γ.A) Γ.args Γ.s 2 12 Γ.A) = Q
  refine q_aload_n C dL_person_0 rfl 3 rfl ?_
  refine q_iconst (v := (0 : Int32)) C dL_person_1 (by decide) ?_
  refine q_aload_n C dL_person_2 rfl 0 rfl ?_
  refine q_iload_n C dL_person_3 rfl 1 rfl ?_
  refine q_iload_n C dL_person_4 rfl 2 rfl ?_
  refine q_xti (ad := ad) (kc' := 2) (ks' := 12) (rest := [.int 0, .ref q]) (As := [.int x1, .int x2]) C hA hE.1 (cut_tail (a := [oL T q f])) (fun sz => cX_person l hl0 D T ad sK sV xo g x1 x2 o h sz) kL_person ⟨Nat.le_of_ble_eq_true rfl, Nat.le_of_ble_eq_true rfl⟩ ⟨rfl, rfl⟩ ⟨Nat.le_of_ble_eq_true rfl, Nat.le_of_ble_eq_true rfl⟩ ⟨Nat.le_of_ble_eq_true rfl, Nat.le_of_ble_eq_true rfl⟩ rfl rfl (Nat.le_of_ble_eq_true rfl) dL_person_5 (fun k hk1 => ?_) (fun r hr1 => ?_)
  · subst hQ
    rcases hk k hk1 with ⟨t9, ⟨e9, -⟩ | ⟨e9, -⟩⟩
    · subst e9
      refine q_catch (hpc0 := 13) (name := "java/util/NoSuchElementException") C [] _ [_] htab (fun z hz => by cases hz) rfl (by decide) (List.mem_cons_of_mem _ bl_16) hE.1.2.2.2.2.2.2.1 rfl (fun q9 => ?_)
      refine q_astore (lv' := ((4, Value.ref q9) :: [(0, .ref (ad 0)), (1, .int x1), (2, .int x2), (3, .ref q)])) C dL_person_13 (Nat.le_of_ble_eq_true rfl) rfl ?_
      refine q_iconst (v := (1 : Int32)) C dL_person_15 (by decide) ?_
      exact q_wret C f (Or.inr ⟨_, hk1, by exact Or.inl ⟨rfl, rfl⟩⟩) rfl (Nat.le_of_ble_eq_true rfl) (Nat.le_of_ble_eq_true rfl) dL_person_16
    · subst e9
      refine q_catch (hpc0 := 17) (name := "java/lang/IllegalArgumentException") C [_] _ [] htab (fun z hz => by obtain rfl := List.mem_singleton.mp hz; exact Or.inr ⟨by decide, "java/util/NoSuchElementException", (List.mem_cons_of_mem _ bl_16), hE.2⟩) rfl (by decide) (List.mem_cons_of_mem _ bl_0) hE.1.2.2.2.2.2.1 rfl (fun q9 => ?_)
      refine q_astore (lv' := ((4, Value.ref q9) :: [(0, .ref (ad 0)), (1, .int x1), (2, .int x2), (3, .ref q)])) C dL_person_17 (Nat.le_of_ble_eq_true rfl) rfl ?_
      refine q_iconst (v := (2 : Int32)) C dL_person_19 (by decide) ?_
      exact q_wret C f (Or.inr ⟨_, hk1, by exact Or.inr ⟨rfl, rfl⟩⟩) rfl (Nat.le_of_ble_eq_true rfl) (Nat.le_of_ble_eq_true rfl) dL_person_20
  · refine q_i2l C dL_person_8 ?_
    refine q_last C rfl rfl dL_person_9 ?_
    refine q_goto (tgt := 21) C dL_person_10 (by decide) ?_
    refine q_iconst (v := (0 : Int32)) C dL_person_21 (by decide) ?_
    subst hQ
    exact q_wret C (vp_updL f 0 r.toInt64) (Or.inl ⟨r, hr1, rfl, by rw [vpU]⟩) rfl (Nat.le_of_ble_eq_true rfl) (Nat.le_of_ble_eq_true rfl) dL_person_22
def wL_will : List Cond := .codeWith yL_will cL_will 5 (some .int) [(0, 10, 13, 31)] :: BL
theorem kL_will {c0 : Cond} : kV (c0 :: BL) RL RX11 33 yX11_will cX11_will 3 2 (some .int) wX_will := BL_kV bl_20 bl_21 bl_22 (List.mem_append_right _ bx_573) bx_669 (by decide +kernel)
def rmL_will : Room := { frames := 9 + 1, cells := 2, slots := 12, locals := 8 + (3 + 11) + 141 }
set_option maxRecDepth 100000 in
theorem cL_will_w (l : Launch) (hl0 : l.stackTraces = false) (D : va_G) (T : cT) (ad : Nat → Nat) (sK sV : Nat → Nat) (xo : Sl) (g : St) (q : Nat) (f : Nat → Int64) (x1 : Int32) (x2 : Int32) (o : (Nat ⊕ Int32) × St) (h : fX_will x1 x2 g = some o) (hk : ∀ k, o.1 = .inl k → ∃ t, kcd 0 k t) (sz : Nat) : Met l yL_will wL_will rmL_will (va_Pc [.ref (ad 0), .int x1, .int x2, .ref q] (kPre D T (EL sK sV) ([oL T q f] ++ wW shX T ad xo g) sz)) (va_Qi (lwI 0 o.1) (fun u => kPost D T (va_A ([oL T q f] ++ wW shX T ad xo g) sz) ([oL T q u] ++ wW shX T ad xo o.2)) (va_A ([oL T q f] ++ wW shX T ad xo g) sz)) 2 12 (va_A ([oL T q f] ++ wW shX T ad xo g) sz) := by
  refine q_startH (E := EL sK sV) (Qc := fun A => va_Qi (lwI 0 o.1) (fun u => kPost D T A ([oL T q u] ++ wW shX T ad xo o.2)) A) (y := yL_will) (av := [.ref (ad 0), .int x1, .int x2, .ref q]) (maxL := 5) (ws := wL_will) (cc := cL_will) (own := RL) (by decide +kernel) rfl rfl (Nat.le_of_ble_eq_true rfl) (lv := [(0, .ref (ad 0)), (1, .int x1), (2, .int x2), (3, .ref q)]) rfl (fun Γ C hA hE htab => ?_)
  generalize hQ : (MQ Γ.below (va_Qi (lwI 0 o.1) (fun u => kPost D T Γ.A ([oL T q u] ++ wW shX T ad xo o.2)) Γ.A) Γ.args Γ.s 2 12 Γ.A) = Q
  refine q_aload_n C dL_will_0 rfl 3 rfl ?_
  refine q_iconst (v := (0 : Int32)) C dL_will_1 (by decide) ?_
  refine q_aload_n C dL_will_2 rfl 0 rfl ?_
  refine q_iload_n C dL_will_3 rfl 1 rfl ?_
  refine q_iload_n C dL_will_4 rfl 2 rfl ?_
  refine q_xti (ad := ad) (kc' := 2) (ks' := 12) (rest := [.int 0, .ref q]) (As := [.int x1, .int x2]) C hA hE.1 (cut_tail (a := [oL T q f])) (fun sz => cX_will l hl0 D T ad sK sV xo g x1 x2 o h sz) kL_will ⟨Nat.le_of_ble_eq_true rfl, Nat.le_of_ble_eq_true rfl⟩ ⟨rfl, rfl⟩ ⟨Nat.le_of_ble_eq_true rfl, Nat.le_of_ble_eq_true rfl⟩ ⟨Nat.le_of_ble_eq_true rfl, Nat.le_of_ble_eq_true rfl⟩ rfl rfl (Nat.le_of_ble_eq_true rfl) dL_will_5 (fun k hk1 => ?_) (fun r hr1 => ?_)
  · subst hQ
    obtain ⟨t9, e9, -⟩ : ∃ t, kcd 0 k t := hk k hk1
    subst e9
    refine q_catch (hpc0 := 13) (name := "java/util/NoSuchElementException") C [] _ [] htab (fun z hz => by cases hz) rfl (by decide) (List.mem_cons_of_mem _ bl_16) hE.1.2.2.2.2.2.2.1 rfl (fun q9 => ?_)
    refine q_astore (lv' := ((4, Value.ref q9) :: [(0, .ref (ad 0)), (1, .int x1), (2, .int x2), (3, .ref q)])) C dL_will_13 (Nat.le_of_ble_eq_true rfl) rfl ?_
    refine q_iconst (v := (1 : Int32)) C dL_will_15 (by decide) ?_
    exact q_wret C f (Or.inr ⟨_, hk1, by exact ⟨rfl, rfl⟩⟩) rfl (Nat.le_of_ble_eq_true rfl) (Nat.le_of_ble_eq_true rfl) dL_will_16
  · refine q_i2l C dL_will_8 ?_
    refine q_last C rfl rfl dL_will_9 ?_
    refine q_goto (tgt := 17) C dL_will_10 (by decide) ?_
    refine q_iconst (v := (0 : Int32)) C dL_will_17 (by decide) ?_
    subst hQ
    exact q_wret C (vp_updL f 0 r.toInt64) (Or.inl ⟨r, hr1, rfl, by rw [vpU]⟩) rfl (Nat.le_of_ble_eq_true rfl) (Nat.le_of_ble_eq_true rfl) dL_will_18
def wL_lends : List Cond := .codeWith yL_lends cL_lends 5 (some .int) [(0, 17, 20, 31)] :: BL
theorem kL_lends {c0 : Cond} : kV (c0 :: BL) RL RX11 36 yX11_lends cX11_lends 3 2 (some .boolean) wX_lends := BL_kV bl_23 bl_24 bl_25 (List.mem_append_right _ bx_573) bx_671 (by decide +kernel)
def rmL_lends : Room := { frames := 9 + 1, cells := 2, slots := 12, locals := 8 + (3 + 11) + 141 }
set_option maxRecDepth 100000 in
theorem cL_lends_w (l : Launch) (hl0 : l.stackTraces = false) (D : va_G) (T : cT) (ad : Nat → Nat) (sK sV : Nat → Nat) (xo : Sl) (g : St) (q : Nat) (f : Nat → Int64) (x1 : Int32) (x2 : Int32) (o : (Nat ⊕ Int32) × St) (h : fX_lends x1 x2 g = some o) (hk : ∀ k, o.1 = .inl k → ∃ t, kcd 0 k t) (sz : Nat) : Met l yL_lends wL_lends rmL_lends (va_Pc [.ref (ad 0), .int x1, .int x2, .ref q] (kPre D T (EL sK sV) ([oL T q f] ++ wW shX T ad xo g) sz)) (va_Qi (lwZ 0 o.1) (fun u => kPost D T (va_A ([oL T q f] ++ wW shX T ad xo g) sz) ([oL T q u] ++ wW shX T ad xo o.2)) (va_A ([oL T q f] ++ wW shX T ad xo g) sz)) 2 12 (va_A ([oL T q f] ++ wW shX T ad xo g) sz) := by
  refine q_startH (E := EL sK sV) (Qc := fun A => va_Qi (lwZ 0 o.1) (fun u => kPost D T A ([oL T q u] ++ wW shX T ad xo o.2)) A) (y := yL_lends) (av := [.ref (ad 0), .int x1, .int x2, .ref q]) (maxL := 5) (ws := wL_lends) (cc := cL_lends) (own := RL) (by decide +kernel) rfl rfl (Nat.le_of_ble_eq_true rfl) (lv := [(0, .ref (ad 0)), (1, .int x1), (2, .int x2), (3, .ref q)]) rfl (fun Γ C hA hE htab => ?_)
  generalize hQ : (MQ Γ.below (va_Qi (lwZ 0 o.1) (fun u => kPost D T Γ.A ([oL T q u] ++ wW shX T ad xo o.2)) Γ.A) Γ.args Γ.s 2 12 Γ.A) = Q
  refine q_aload_n C dL_lends_0 rfl 3 rfl ?_
  refine q_iconst (v := (0 : Int32)) C dL_lends_1 (by decide) ?_
  refine q_aload_n C dL_lends_2 rfl 0 rfl ?_
  refine q_iload_n C dL_lends_3 rfl 1 rfl ?_
  refine q_iload_n C dL_lends_4 rfl 2 rfl ?_
  refine q_xtz (ad := ad) (kc' := 2) (ks' := 12) (rest := [.int 0, .ref q]) (As := [.int x1, .int x2]) C hA hE.1 (cut_tail (a := [oL T q f])) (fun sz => cX_lends l hl0 D T ad sK sV xo g x1 x2 o h sz) kL_lends ⟨Nat.le_of_ble_eq_true rfl, Nat.le_of_ble_eq_true rfl⟩ ⟨rfl, rfl⟩ ⟨Nat.le_of_ble_eq_true rfl, Nat.le_of_ble_eq_true rfl⟩ ⟨Nat.le_of_ble_eq_true rfl, Nat.le_of_ble_eq_true rfl⟩ rfl rfl (Nat.le_of_ble_eq_true rfl) dL_lends_5 (fun k hk1 => ?_) (fun r hr1 => ?_)
  · subst hQ
    obtain ⟨t9, e9, -⟩ : ∃ t, kcd 0 k t := hk k hk1
    subst e9
    refine q_catch (hpc0 := 20) (name := "java/util/NoSuchElementException") C [] _ [] htab (fun z hz => by cases hz) rfl (by decide) (List.mem_cons_of_mem _ bl_16) hE.1.2.2.2.2.2.2.1 rfl (fun q9 => ?_)
    refine q_astore (lv' := ((4, Value.ref q9) :: [(0, .ref (ad 0)), (1, .int x1), (2, .int x2), (3, .ref q)])) C dL_lends_20 (Nat.le_of_ble_eq_true rfl) rfl ?_
    refine q_iconst (v := (1 : Int32)) C dL_lends_22 (by decide) ?_
    exact q_wret C f (Or.inr ⟨_, hk1, by exact ⟨rfl, rfl⟩⟩) rfl (Nat.le_of_ble_eq_true rfl) (Nat.le_of_ble_eq_true rfl) dL_lends_23
  · refine q_if_eq C 15 dL_lends_8 (by decide) (fun c9 => ?_) (fun c9 => ?_)
    · refine q_lconst (v := (0 : Int64)) C dL_lends_15 (by decide) ?_
      refine q_last C rfl rfl dL_lends_16 ?_
      refine q_goto (tgt := 24) C dL_lends_17 (by decide) ?_
      refine q_iconst (v := (0 : Int32)) C dL_lends_24 (by decide) ?_
      subst hQ
      exact q_wret C (vp_updL f 0 0) (Or.inl ⟨r, hr1, rfl, by rw [vpU]; exact (if_pos c9).symm⟩) rfl (Nat.le_of_ble_eq_true rfl) (Nat.le_of_ble_eq_true rfl) dL_lends_25
    · refine q_lconst (v := (1 : Int64)) C dL_lends_11 (by decide) ?_
      refine q_goto (tgt := 16) C dL_lends_12 (by decide) ?_
      refine q_last C rfl rfl dL_lends_16 ?_
      refine q_goto (tgt := 24) C dL_lends_17 (by decide) ?_
      refine q_iconst (v := (0 : Int32)) C dL_lends_24 (by decide) ?_
      subst hQ
      exact q_wret C (vp_updL f 0 1) (Or.inl ⟨r, hr1, rfl, by rw [vpU]; exact (if_neg c9).symm⟩) rfl (Nat.le_of_ble_eq_true rfl) (Nat.le_of_ble_eq_true rfl) dL_lends_25
def wL_would : List Cond := .codeWith yL_would cL_would 11 (some .int) [(0, 22, 25, 13)] :: BL
theorem kL_would {c0 : Cond} : kV (c0 :: BL) RL RX11 40 yX11_would cX11_would 9 8 (some .int) wX_would := BL_kV bl_26 bl_27 bl_28 (List.mem_append_right _ bx_573) bx_675 (by decide +kernel)
def rmL_would : Room := { frames := 9 + 1, cells := 4, slots := 24, locals := 8 + (9 + 11) + 141 }
set_option maxRecDepth 100000 in
theorem cL_would_w (l : Launch) (hl0 : l.stackTraces = false) (D : va_G) (T : cT) (ad : Nat → Nat) (sK sV : Nat → Nat) (xo : Sl) (g : St) (q : Nat) (f : Nat → Int64) (x1 : Int32) (x2 : Int32) (x3 : Int32) (x4 : Int32) (x5 : Int32) (x6 : Int32) (x7 : Int32) (x8 : Int32) (o : (Nat ⊕ Int32) × St) (h : fX_would x1 x2 x3 x4 x5 x6 x7 x8 g = some o) (hk : ∀ k, o.1 = .inl k → ∃ t, kcd 1 k t) (sz : Nat) : Met l yL_would wL_would rmL_would (va_Pc [.ref (ad 0), .int x1, .int x2, .int x3, .int x4, .int x5, .int x6, .int x7, .int x8, .ref q] (kPre D T (EL sK sV) ([oL T q f] ++ wW shX T ad xo g) sz)) (va_Qi (lwI 1 o.1) (fun u => kPost D T (va_A ([oL T q f] ++ wW shX T ad xo g) sz) ([oL T q u] ++ wW shX T ad xo o.2)) (va_A ([oL T q f] ++ wW shX T ad xo g) sz)) 4 24 (va_A ([oL T q f] ++ wW shX T ad xo g) sz) := by
  refine q_startH (E := EL sK sV) (Qc := fun A => va_Qi (lwI 1 o.1) (fun u => kPost D T A ([oL T q u] ++ wW shX T ad xo o.2)) A) (y := yL_would) (av := [.ref (ad 0), .int x1, .int x2, .int x3, .int x4, .int x5, .int x6, .int x7, .int x8, .ref q]) (maxL := 11) (ws := wL_would) (cc := cL_would) (own := RL) (by decide +kernel) rfl rfl (Nat.le_of_ble_eq_true rfl) (lv := [(0, .ref (ad 0)), (1, .int x1), (2, .int x2), (3, .int x3), (4, .int x4), (5, .int x5), (6, .int x6), (7, .int x7), (8, .int x8), (9, .ref q)]) rfl (fun Γ C hA hE htab => ?_)
  generalize hQ : (MQ Γ.below (va_Qi (lwI 1 o.1) (fun u => kPost D T Γ.A ([oL T q u] ++ wW shX T ad xo o.2)) Γ.A) Γ.args Γ.s 4 24 Γ.A) = Q
  refine q_aload C dL_would_0 9 rfl ?_
  refine q_iconst (v := (0 : Int32)) C dL_would_2 (by decide) ?_
  refine q_aload_n C dL_would_3 rfl 0 rfl ?_
  refine q_iload_n C dL_would_4 rfl 1 rfl ?_
  refine q_iload_n C dL_would_5 rfl 2 rfl ?_
  refine q_iload_n C dL_would_6 rfl 3 rfl ?_
  refine q_iload C dL_would_7 4 rfl ?_
  refine q_iload C dL_would_9 5 rfl ?_
  refine q_iload C dL_would_11 6 rfl ?_
  refine q_iload C dL_would_13 7 rfl ?_
  refine q_iload C dL_would_15 8 rfl ?_
  refine q_xti (ad := ad) (kc' := 4) (ks' := 24) (rest := [.int 0, .ref q]) (As := [.int x1, .int x2, .int x3, .int x4, .int x5, .int x6, .int x7, .int x8]) C hA hE.1 (cut_tail (a := [oL T q f])) (fun sz => cX_would l hl0 D T ad sK sV xo g x1 x2 x3 x4 x5 x6 x7 x8 o h sz) kL_would ⟨Nat.le_of_ble_eq_true rfl, Nat.le_of_ble_eq_true rfl⟩ ⟨rfl, rfl⟩ ⟨Nat.le_of_ble_eq_true rfl, Nat.le_of_ble_eq_true rfl⟩ ⟨Nat.le_of_ble_eq_true rfl, Nat.le_of_ble_eq_true rfl⟩ rfl rfl (Nat.le_of_ble_eq_true rfl) dL_would_17 (fun k hk1 => ?_) (fun r hr1 => ?_)
  · subst hQ
    obtain ⟨t9, e9, -⟩ : ∃ t, kcd 1 k t := hk k hk1
    subst e9
    refine q_catch (hpc0 := 25) (name := "java/lang/IllegalArgumentException") C [] _ [] htab (fun z hz => by cases hz) rfl (by decide) (List.mem_cons_of_mem _ bl_0) hE.1.2.2.2.2.2.1 rfl (fun q9 => ?_)
    refine q_astore (lv' := ((10, Value.ref q9) :: [(0, .ref (ad 0)), (1, .int x1), (2, .int x2), (3, .int x3), (4, .int x4), (5, .int x5), (6, .int x6), (7, .int x7), (8, .int x8), (9, .ref q)])) C dL_would_25 (Nat.le_of_ble_eq_true rfl) rfl ?_
    refine q_iconst (v := (1 : Int32)) C dL_would_27 (by decide) ?_
    exact q_wret C f (Or.inr ⟨_, hk1, by exact ⟨rfl, rfl⟩⟩) rfl (Nat.le_of_ble_eq_true rfl) (Nat.le_of_ble_eq_true rfl) dL_would_28
  · refine q_i2l C dL_would_20 ?_
    refine q_last C rfl rfl dL_would_21 ?_
    refine q_goto (tgt := 29) C dL_would_22 (by decide) ?_
    refine q_iconst (v := (0 : Int32)) C dL_would_29 (by decide) ?_
    subst hQ
    exact q_wret C (vp_updL f 0 r.toInt64) (Or.inl ⟨r, hr1, rfl, by rw [vpU]⟩) rfl (Nat.le_of_ble_eq_true rfl) (Nat.le_of_ble_eq_true rfl) dL_would_30
def wL_lender : List Cond := .codeWith yL_lender cL_lender 4 (some .int) [(0, 9, 12, 31)] :: BL
theorem kL_lender {c0 : Cond} : kV (c0 :: BL) RL RX11 44 yX11_lender cX11_lender 2 1 (some .int) wX_lender := BL_kV bl_29 bl_30 bl_31 (List.mem_append_right _ bx_573) bx_677 (by decide +kernel)
def rmL_lender : Room := { frames := 9 + 1, cells := 1, slots := 6, locals := 8 + (2 + 11) + 141 }
set_option maxRecDepth 100000 in
theorem cL_lender_w (l : Launch) (hl0 : l.stackTraces = false) (D : va_G) (T : cT) (ad : Nat → Nat) (sK sV : Nat → Nat) (xo : Sl) (g : St) (q : Nat) (f : Nat → Int64) (x1 : Int32) (o : (Nat ⊕ Int32) × St) (h : fX_lender x1 g = some o) (hk : ∀ k, o.1 = .inl k → ∃ t, kcd 0 k t) (sz : Nat) : Met l yL_lender wL_lender rmL_lender (va_Pc [.ref (ad 0), .int x1, .ref q] (kPre D T (EL sK sV) ([oL T q f] ++ wW shX T ad xo g) sz)) (va_Qi (lwI 0 o.1) (fun u => kPost D T (va_A ([oL T q f] ++ wW shX T ad xo g) sz) ([oL T q u] ++ wW shX T ad xo o.2)) (va_A ([oL T q f] ++ wW shX T ad xo g) sz)) 1 6 (va_A ([oL T q f] ++ wW shX T ad xo g) sz) := by
  refine q_startH (E := EL sK sV) (Qc := fun A => va_Qi (lwI 0 o.1) (fun u => kPost D T A ([oL T q u] ++ wW shX T ad xo o.2)) A) (y := yL_lender) (av := [.ref (ad 0), .int x1, .ref q]) (maxL := 4) (ws := wL_lender) (cc := cL_lender) (own := RL) (by decide +kernel) rfl rfl (Nat.le_of_ble_eq_true rfl) (lv := [(0, .ref (ad 0)), (1, .int x1), (2, .ref q)]) rfl (fun Γ C hA hE htab => ?_)
  generalize hQ : (MQ Γ.below (va_Qi (lwI 0 o.1) (fun u => kPost D T Γ.A ([oL T q u] ++ wW shX T ad xo o.2)) Γ.A) Γ.args Γ.s 1 6 Γ.A) = Q
  refine q_aload_n C dL_lender_0 rfl 2 rfl ?_
  refine q_iconst (v := (0 : Int32)) C dL_lender_1 (by decide) ?_
  refine q_aload_n C dL_lender_2 rfl 0 rfl ?_
  refine q_iload_n C dL_lender_3 rfl 1 rfl ?_
  refine q_xti (ad := ad) (kc' := 1) (ks' := 6) (rest := [.int 0, .ref q]) (As := [.int x1]) C hA hE.1 (cut_tail (a := [oL T q f])) (fun sz => cX_lender l hl0 D T ad sK sV xo g x1 o h sz) kL_lender ⟨Nat.le_of_ble_eq_true rfl, Nat.le_of_ble_eq_true rfl⟩ ⟨rfl, rfl⟩ ⟨Nat.le_of_ble_eq_true rfl, Nat.le_of_ble_eq_true rfl⟩ ⟨Nat.le_of_ble_eq_true rfl, Nat.le_of_ble_eq_true rfl⟩ rfl rfl (Nat.le_of_ble_eq_true rfl) dL_lender_4 (fun k hk1 => ?_) (fun r hr1 => ?_)
  · subst hQ
    obtain ⟨t9, e9, -⟩ : ∃ t, kcd 0 k t := hk k hk1
    subst e9
    refine q_catch (hpc0 := 12) (name := "java/util/NoSuchElementException") C [] _ [] htab (fun z hz => by cases hz) rfl (by decide) (List.mem_cons_of_mem _ bl_16) hE.1.2.2.2.2.2.2.1 rfl (fun q9 => ?_)
    refine q_astore_n (lv' := ((3, Value.ref q9) :: [(0, .ref (ad 0)), (1, .int x1), (2, .ref q)])) C dL_lender_12 rfl (Nat.le_of_ble_eq_true rfl) rfl ?_
    refine q_iconst (v := (1 : Int32)) C dL_lender_13 (by decide) ?_
    exact q_wret C f (Or.inr ⟨_, hk1, by exact ⟨rfl, rfl⟩⟩) rfl (Nat.le_of_ble_eq_true rfl) (Nat.le_of_ble_eq_true rfl) dL_lender_14
  · refine q_i2l C dL_lender_7 ?_
    refine q_last C rfl rfl dL_lender_8 ?_
    refine q_goto (tgt := 15) C dL_lender_9 (by decide) ?_
    refine q_iconst (v := (0 : Int32)) C dL_lender_15 (by decide) ?_
    subst hQ
    exact q_wret C (vp_updL f 0 r.toInt64) (Or.inl ⟨r, hr1, rfl, by rw [vpU]⟩) rfl (Nat.le_of_ble_eq_true rfl) (Nat.le_of_ble_eq_true rfl) dL_lender_16
def wL_ahead : List Cond := .codeWith yL_ahead cL_ahead 5 (some .int) [(0, 10, 13, 13)] :: BL
theorem kL_ahead {c0 : Cond} : kV (c0 :: BL) RL RX11 47 yX11_ahead cX11_ahead 4 2 (some .int) wX_ahead := BL_kV bl_32 bl_33 bl_34 (List.mem_append_right _ bx_573) bx_688 (by decide +kernel)
def rmL_ahead : Room := { frames := 9 + 1, cells := 1, slots := 6, locals := 8 + (4 + 11) + 141 }
set_option maxRecDepth 100000 in
theorem cL_ahead_w (l : Launch) (hl0 : l.stackTraces = false) (D : va_G) (T : cT) (ad : Nat → Nat) (sK sV : Nat → Nat) (xo : Sl) (g : St) (q : Nat) (f : Nat → Int64) (x1 : Int32) (x2 : Int32) (o : (Nat ⊕ Int32) × St) (h : fX_ahead x1 x2 g = some o) (hk : ∀ k, o.1 = .inl k → ∃ t, kcd 1 k t) (sz : Nat) : Met l yL_ahead wL_ahead rmL_ahead (va_Pc [.ref (ad 0), .int x1, .int x2, .ref q] (kPre D T (EL sK sV) ([oL T q f] ++ wW shX T ad xo g) sz)) (va_Qi (lwI 1 o.1) (fun u => kPost D T (va_A ([oL T q f] ++ wW shX T ad xo g) sz) ([oL T q u] ++ wW shX T ad xo o.2)) (va_A ([oL T q f] ++ wW shX T ad xo g) sz)) 1 6 (va_A ([oL T q f] ++ wW shX T ad xo g) sz) := by
  refine q_startH (E := EL sK sV) (Qc := fun A => va_Qi (lwI 1 o.1) (fun u => kPost D T A ([oL T q u] ++ wW shX T ad xo o.2)) A) (y := yL_ahead) (av := [.ref (ad 0), .int x1, .int x2, .ref q]) (maxL := 5) (ws := wL_ahead) (cc := cL_ahead) (own := RL) (by decide +kernel) rfl rfl (Nat.le_of_ble_eq_true rfl) (lv := [(0, .ref (ad 0)), (1, .int x1), (2, .int x2), (3, .ref q)]) rfl (fun Γ C hA hE htab => ?_)
  generalize hQ : (MQ Γ.below (va_Qi (lwI 1 o.1) (fun u => kPost D T Γ.A ([oL T q u] ++ wW shX T ad xo o.2)) Γ.A) Γ.args Γ.s 1 6 Γ.A) = Q
  refine q_aload_n C dL_ahead_0 rfl 3 rfl ?_
  refine q_iconst (v := (0 : Int32)) C dL_ahead_1 (by decide) ?_
  refine q_aload_n C dL_ahead_2 rfl 0 rfl ?_
  refine q_iload_n C dL_ahead_3 rfl 1 rfl ?_
  refine q_iload_n C dL_ahead_4 rfl 2 rfl ?_
  refine q_xti (ad := ad) (kc' := 1) (ks' := 6) (rest := [.int 0, .ref q]) (As := [.int x1, .int x2]) C hA hE.1 (cut_tail (a := [oL T q f])) (fun sz => cX_ahead l hl0 D T ad sK sV xo g x1 x2 o h sz) kL_ahead ⟨Nat.le_of_ble_eq_true rfl, Nat.le_of_ble_eq_true rfl⟩ ⟨rfl, rfl⟩ ⟨Nat.le_of_ble_eq_true rfl, Nat.le_of_ble_eq_true rfl⟩ ⟨Nat.le_of_ble_eq_true rfl, Nat.le_of_ble_eq_true rfl⟩ rfl rfl (Nat.le_of_ble_eq_true rfl) dL_ahead_5 (fun k hk1 => ?_) (fun r hr1 => ?_)
  · subst hQ
    obtain ⟨t9, e9, -⟩ : ∃ t, kcd 1 k t := hk k hk1
    subst e9
    refine q_catch (hpc0 := 13) (name := "java/lang/IllegalArgumentException") C [] _ [] htab (fun z hz => by cases hz) rfl (by decide) (List.mem_cons_of_mem _ bl_0) hE.1.2.2.2.2.2.1 rfl (fun q9 => ?_)
    refine q_astore (lv' := ((4, Value.ref q9) :: [(0, .ref (ad 0)), (1, .int x1), (2, .int x2), (3, .ref q)])) C dL_ahead_13 (Nat.le_of_ble_eq_true rfl) rfl ?_
    refine q_iconst (v := (1 : Int32)) C dL_ahead_15 (by decide) ?_
    exact q_wret C f (Or.inr ⟨_, hk1, by exact ⟨rfl, rfl⟩⟩) rfl (Nat.le_of_ble_eq_true rfl) (Nat.le_of_ble_eq_true rfl) dL_ahead_16
  · refine q_i2l C dL_ahead_8 ?_
    refine q_last C rfl rfl dL_ahead_9 ?_
    refine q_goto (tgt := 17) C dL_ahead_10 (by decide) ?_
    refine q_iconst (v := (0 : Int32)) C dL_ahead_17 (by decide) ?_
    subst hQ
    exact q_wret C (vp_updL f 0 r.toInt64) (Or.inl ⟨r, hr1, rfl, by rw [vpU]⟩) rfl (Nat.le_of_ble_eq_true rfl) (Nat.le_of_ble_eq_true rfl) dL_ahead_18
def wL_truly : List Cond := .codeWith yL_truly cL_truly 4 (some .int) [(0, 9, 12, 31)] :: BL
theorem kL_truly {c0 : Cond} : kV (c0 :: BL) RL RX11 50 yX11_truly cX11_truly 2 1 (some .int) wX_truly := BL_kV bl_35 bl_36 bl_37 (List.mem_append_right _ bx_573) bx_692 (by decide +kernel)
def rmL_truly : Room := { frames := 9 + 1, cells := 1, slots := 6, locals := 8 + (2 + 11) + 141 }
set_option maxRecDepth 100000 in
theorem cL_truly_w (l : Launch) (hl0 : l.stackTraces = false) (D : va_G) (T : cT) (ad : Nat → Nat) (sK sV : Nat → Nat) (xo : Sl) (g : St) (q : Nat) (f : Nat → Int64) (x1 : Int32) (o : (Nat ⊕ Int32) × St) (h : fX_truly x1 g = some o) (hk : ∀ k, o.1 = .inl k → ∃ t, kcd 0 k t) (sz : Nat) : Met l yL_truly wL_truly rmL_truly (va_Pc [.ref (ad 0), .int x1, .ref q] (kPre D T (EL sK sV) ([oL T q f] ++ wW shX T ad xo g) sz)) (va_Qi (lwI 0 o.1) (fun u => kPost D T (va_A ([oL T q f] ++ wW shX T ad xo g) sz) ([oL T q u] ++ wW shX T ad xo o.2)) (va_A ([oL T q f] ++ wW shX T ad xo g) sz)) 1 6 (va_A ([oL T q f] ++ wW shX T ad xo g) sz) := by
  refine q_startH (E := EL sK sV) (Qc := fun A => va_Qi (lwI 0 o.1) (fun u => kPost D T A ([oL T q u] ++ wW shX T ad xo o.2)) A) (y := yL_truly) (av := [.ref (ad 0), .int x1, .ref q]) (maxL := 4) (ws := wL_truly) (cc := cL_truly) (own := RL) (by decide +kernel) rfl rfl (Nat.le_of_ble_eq_true rfl) (lv := [(0, .ref (ad 0)), (1, .int x1), (2, .ref q)]) rfl (fun Γ C hA hE htab => ?_)
  generalize hQ : (MQ Γ.below (va_Qi (lwI 0 o.1) (fun u => kPost D T Γ.A ([oL T q u] ++ wW shX T ad xo o.2)) Γ.A) Γ.args Γ.s 1 6 Γ.A) = Q
  refine q_aload_n C dL_truly_0 rfl 2 rfl ?_
  refine q_iconst (v := (0 : Int32)) C dL_truly_1 (by decide) ?_
  refine q_aload_n C dL_truly_2 rfl 0 rfl ?_
  refine q_iload_n C dL_truly_3 rfl 1 rfl ?_
  refine q_xti (ad := ad) (kc' := 1) (ks' := 6) (rest := [.int 0, .ref q]) (As := [.int x1]) C hA hE.1 (cut_tail (a := [oL T q f])) (fun sz => cX_truly l hl0 D T ad sK sV xo g x1 o h sz) kL_truly ⟨Nat.le_of_ble_eq_true rfl, Nat.le_of_ble_eq_true rfl⟩ ⟨rfl, rfl⟩ ⟨Nat.le_of_ble_eq_true rfl, Nat.le_of_ble_eq_true rfl⟩ ⟨Nat.le_of_ble_eq_true rfl, Nat.le_of_ble_eq_true rfl⟩ rfl rfl (Nat.le_of_ble_eq_true rfl) dL_truly_4 (fun k hk1 => ?_) (fun r hr1 => ?_)
  · subst hQ
    obtain ⟨t9, e9, -⟩ : ∃ t, kcd 0 k t := hk k hk1
    subst e9
    refine q_catch (hpc0 := 12) (name := "java/util/NoSuchElementException") C [] _ [] htab (fun z hz => by cases hz) rfl (by decide) (List.mem_cons_of_mem _ bl_16) hE.1.2.2.2.2.2.2.1 rfl (fun q9 => ?_)
    refine q_astore_n (lv' := ((3, Value.ref q9) :: [(0, .ref (ad 0)), (1, .int x1), (2, .ref q)])) C dL_truly_12 rfl (Nat.le_of_ble_eq_true rfl) rfl ?_
    refine q_iconst (v := (1 : Int32)) C dL_truly_13 (by decide) ?_
    exact q_wret C f (Or.inr ⟨_, hk1, by exact ⟨rfl, rfl⟩⟩) rfl (Nat.le_of_ble_eq_true rfl) (Nat.le_of_ble_eq_true rfl) dL_truly_14
  · refine q_i2l C dL_truly_7 ?_
    refine q_last C rfl rfl dL_truly_8 ?_
    refine q_goto (tgt := 15) C dL_truly_9 (by decide) ?_
    refine q_iconst (v := (0 : Int32)) C dL_truly_15 (by decide) ?_
    subst hQ
    exact q_wret C (vp_updL f 0 r.toInt64) (Or.inl ⟨r, hr1, rfl, by rw [vpU]⟩) rfl (Nat.le_of_ble_eq_true rfl) (Nat.le_of_ble_eq_true rfl) dL_truly_16
def wL_chain : List Cond := .codeWith yL_chain cL_chain 4 (some .int) [(0, 9, 12, 31)] :: BL
theorem kL_chain {c0 : Cond} : kV (c0 :: BL) RL RX11 53 yX11_chain cX11_chain 2 1 (some .int) wX_chain := BL_kV bl_38 bl_39 bl_40 (List.mem_append_right _ bx_573) bx_693 (by decide +kernel)
def rmL_chain : Room := { frames := 9 + 1, cells := 1, slots := 6, locals := 8 + (2 + 11) + 141 }
set_option maxRecDepth 100000 in
theorem cL_chain_w (l : Launch) (hl0 : l.stackTraces = false) (D : va_G) (T : cT) (ad : Nat → Nat) (sK sV : Nat → Nat) (xo : Sl) (g : St) (q : Nat) (f : Nat → Int64) (x1 : Int32) (o : (Nat ⊕ Int32) × St) (h : fX_chain x1 g = some o) (hk : ∀ k, o.1 = .inl k → ∃ t, kcd 0 k t) (sz : Nat) : Met l yL_chain wL_chain rmL_chain (va_Pc [.ref (ad 0), .int x1, .ref q] (kPre D T (EL sK sV) ([oL T q f] ++ wW shX T ad xo g) sz)) (va_Qi (lwI 0 o.1) (fun u => kPost D T (va_A ([oL T q f] ++ wW shX T ad xo g) sz) ([oL T q u] ++ wW shX T ad xo o.2)) (va_A ([oL T q f] ++ wW shX T ad xo g) sz)) 1 6 (va_A ([oL T q f] ++ wW shX T ad xo g) sz) := by
  refine q_startH (E := EL sK sV) (Qc := fun A => va_Qi (lwI 0 o.1) (fun u => kPost D T A ([oL T q u] ++ wW shX T ad xo o.2)) A) (y := yL_chain) (av := [.ref (ad 0), .int x1, .ref q]) (maxL := 4) (ws := wL_chain) (cc := cL_chain) (own := RL) (by decide +kernel) rfl rfl (Nat.le_of_ble_eq_true rfl) (lv := [(0, .ref (ad 0)), (1, .int x1), (2, .ref q)]) rfl (fun Γ C hA hE htab => ?_)
  generalize hQ : (MQ Γ.below (va_Qi (lwI 0 o.1) (fun u => kPost D T Γ.A ([oL T q u] ++ wW shX T ad xo o.2)) Γ.A) Γ.args Γ.s 1 6 Γ.A) = Q
  refine q_aload_n C dL_chain_0 rfl 2 rfl ?_
  refine q_iconst (v := (0 : Int32)) C dL_chain_1 (by decide) ?_
  refine q_aload_n C dL_chain_2 rfl 0 rfl ?_
  refine q_iload_n C dL_chain_3 rfl 1 rfl ?_
  refine q_xti (ad := ad) (kc' := 1) (ks' := 6) (rest := [.int 0, .ref q]) (As := [.int x1]) C hA hE.1 (cut_tail (a := [oL T q f])) (fun sz => cX_chain l hl0 D T ad sK sV xo g x1 o h sz) kL_chain ⟨Nat.le_of_ble_eq_true rfl, Nat.le_of_ble_eq_true rfl⟩ ⟨rfl, rfl⟩ ⟨Nat.le_of_ble_eq_true rfl, Nat.le_of_ble_eq_true rfl⟩ ⟨Nat.le_of_ble_eq_true rfl, Nat.le_of_ble_eq_true rfl⟩ rfl rfl (Nat.le_of_ble_eq_true rfl) dL_chain_4 (fun k hk1 => ?_) (fun r hr1 => ?_)
  · subst hQ
    obtain ⟨t9, e9, -⟩ : ∃ t, kcd 0 k t := hk k hk1
    subst e9
    refine q_catch (hpc0 := 12) (name := "java/util/NoSuchElementException") C [] _ [] htab (fun z hz => by cases hz) rfl (by decide) (List.mem_cons_of_mem _ bl_16) hE.1.2.2.2.2.2.2.1 rfl (fun q9 => ?_)
    refine q_astore_n (lv' := ((3, Value.ref q9) :: [(0, .ref (ad 0)), (1, .int x1), (2, .ref q)])) C dL_chain_12 rfl (Nat.le_of_ble_eq_true rfl) rfl ?_
    refine q_iconst (v := (1 : Int32)) C dL_chain_13 (by decide) ?_
    exact q_wret C f (Or.inr ⟨_, hk1, by exact ⟨rfl, rfl⟩⟩) rfl (Nat.le_of_ble_eq_true rfl) (Nat.le_of_ble_eq_true rfl) dL_chain_14
  · refine q_i2l C dL_chain_7 ?_
    refine q_last C rfl rfl dL_chain_8 ?_
    refine q_goto (tgt := 15) C dL_chain_9 (by decide) ?_
    refine q_iconst (v := (0 : Int32)) C dL_chain_15 (by decide) ?_
    subst hQ
    exact q_wret C (vp_updL f 0 r.toInt64) (Or.inl ⟨r, hr1, rfl, by rw [vpU]⟩) rfl (Nat.le_of_ble_eq_true rfl) (Nat.le_of_ble_eq_true rfl) dL_chain_16
def wL_served : List Cond := .codeWith yL_served cL_served 5 (some .int) [(0, 10, 13, 13)] :: BL
theorem kL_served {c0 : Cond} : kV (c0 :: BL) RL RX11 56 yX11_served cX11_served 3 2 (some .int) wX_served := BL_kV bl_41 bl_42 bl_43 (List.mem_append_right _ bx_573) bx_704 (by decide +kernel)
def rmL_served : Room := { frames := 17 + 1, cells := 1, slots := 6, locals := 8 + (3 + 11) + 430 }
set_option maxRecDepth 100000 in
theorem cL_served_w (l : Launch) (hl0 : l.stackTraces = false) (D : va_G) (T : cT) (ad : Nat → Nat) (sK sV : Nat → Nat) (xo : Sl) (g : St) (q : Nat) (f : Nat → Int64) (x1 : Int32) (x2 : Int32) (o : (Nat ⊕ Int32) × St) (h : fX_served x1 x2 g = some o) (hk : ∀ k, o.1 = .inl k → ∃ t, kcd 1 k t) (sz : Nat) : Met l yL_served wL_served rmL_served (va_Pc [.ref (ad 0), .int x1, .int x2, .ref q] (kPre D T (EL sK sV) ([oL T q f] ++ wW shX T ad xo g) sz)) (va_Qi (lwI 1 o.1) (fun u => kPost D T (va_A ([oL T q f] ++ wW shX T ad xo g) sz) ([oL T q u] ++ wW shX T ad xo o.2)) (va_A ([oL T q f] ++ wW shX T ad xo g) sz)) 1 6 (va_A ([oL T q f] ++ wW shX T ad xo g) sz) := by
  refine q_startH (E := EL sK sV) (Qc := fun A => va_Qi (lwI 1 o.1) (fun u => kPost D T A ([oL T q u] ++ wW shX T ad xo o.2)) A) (y := yL_served) (av := [.ref (ad 0), .int x1, .int x2, .ref q]) (maxL := 5) (ws := wL_served) (cc := cL_served) (own := RL) (by decide +kernel) rfl rfl (Nat.le_of_ble_eq_true rfl) (lv := [(0, .ref (ad 0)), (1, .int x1), (2, .int x2), (3, .ref q)]) rfl (fun Γ C hA hE htab => ?_)
  generalize hQ : (MQ Γ.below (va_Qi (lwI 1 o.1) (fun u => kPost D T Γ.A ([oL T q u] ++ wW shX T ad xo o.2)) Γ.A) Γ.args Γ.s 1 6 Γ.A) = Q
  refine q_aload_n C dL_served_0 rfl 3 rfl ?_
  refine q_iconst (v := (0 : Int32)) C dL_served_1 (by decide) ?_
  refine q_aload_n C dL_served_2 rfl 0 rfl ?_
  refine q_iload_n C dL_served_3 rfl 1 rfl ?_
  refine q_iload_n C dL_served_4 rfl 2 rfl ?_
  refine q_xti (ad := ad) (kc' := 1) (ks' := 6) (rest := [.int 0, .ref q]) (As := [.int x1, .int x2]) C hA hE.1 (cut_tail (a := [oL T q f])) (fun sz => cX_served l hl0 D T ad sK sV xo g x1 x2 o h sz) kL_served ⟨Nat.le_of_ble_eq_true rfl, Nat.le_of_ble_eq_true rfl⟩ ⟨rfl, rfl⟩ ⟨Nat.le_of_ble_eq_true rfl, Nat.le_of_ble_eq_true rfl⟩ ⟨Nat.le_of_ble_eq_true rfl, Nat.le_of_ble_eq_true rfl⟩ rfl rfl (Nat.le_of_ble_eq_true rfl) dL_served_5 (fun k hk1 => ?_) (fun r hr1 => ?_)
  · subst hQ
    obtain ⟨t9, e9, -⟩ : ∃ t, kcd 1 k t := hk k hk1
    subst e9
    refine q_catch (hpc0 := 13) (name := "java/lang/IllegalArgumentException") C [] _ [] htab (fun z hz => by cases hz) rfl (by decide) (List.mem_cons_of_mem _ bl_0) hE.1.2.2.2.2.2.1 rfl (fun q9 => ?_)
    refine q_astore (lv' := ((4, Value.ref q9) :: [(0, .ref (ad 0)), (1, .int x1), (2, .int x2), (3, .ref q)])) C dL_served_13 (Nat.le_of_ble_eq_true rfl) rfl ?_
    refine q_iconst (v := (1 : Int32)) C dL_served_15 (by decide) ?_
    exact q_wret C f (Or.inr ⟨_, hk1, by exact ⟨rfl, rfl⟩⟩) rfl (Nat.le_of_ble_eq_true rfl) (Nat.le_of_ble_eq_true rfl) dL_served_16
  · refine q_i2l C dL_served_8 ?_
    refine q_last C rfl rfl dL_served_9 ?_
    refine q_goto (tgt := 17) C dL_served_10 (by decide) ?_
    refine q_iconst (v := (0 : Int32)) C dL_served_17 (by decide) ?_
    subst hQ
    exact q_wret C (vp_updL f 0 r.toInt64) (Or.inl ⟨r, hr1, rfl, by rw [vpU]⟩) rfl (Nat.le_of_ble_eq_true rfl) (Nat.le_of_ble_eq_true rfl) dL_served_18
def wL_giver : List Cond := .codeWith yL_giver cL_giver 5 (some .int) [(0, 10, 13, 31), (0, 10, 17, 13)] :: BL
theorem kL_giver {c0 : Cond} : kV (c0 :: BL) RL RX11 59 yX11_giver cX11_giver 3 2 (some .int) wX_giver := BL_kV bl_44 bl_45 bl_46 (List.mem_append_right _ bx_573) bx_708 (by decide +kernel)
def rmL_giver : Room := { frames := 17 + 1, cells := 2, slots := 12, locals := 8 + (3 + 11) + 430 }
set_option maxRecDepth 100000 in
theorem cL_giver_w (l : Launch) (hl0 : l.stackTraces = false) (D : va_G) (T : cT) (ad : Nat → Nat) (sK sV : Nat → Nat) (xo : Sl) (g : St) (q : Nat) (f : Nat → Int64) (x1 : Int32) (x2 : Int32) (o : (Nat ⊕ Int32) × St) (h : fX_giver x1 x2 g = some o) (hk : ∀ k, o.1 = .inl k → ∃ t, kcd 2 k t) (sz : Nat) : Met l yL_giver wL_giver rmL_giver (va_Pc [.ref (ad 0), .int x1, .int x2, .ref q] (kPre D T (EL sK sV) ([oL T q f] ++ wW shX T ad xo g) sz)) (va_Qi (lwI 2 o.1) (fun u => kPost D T (va_A ([oL T q f] ++ wW shX T ad xo g) sz) ([oL T q u] ++ wW shX T ad xo o.2)) (va_A ([oL T q f] ++ wW shX T ad xo g) sz)) 2 12 (va_A ([oL T q f] ++ wW shX T ad xo g) sz) := by
  refine q_startH (E := EL sK sV) (Qc := fun A => va_Qi (lwI 2 o.1) (fun u => kPost D T A ([oL T q u] ++ wW shX T ad xo o.2)) A) (y := yL_giver) (av := [.ref (ad 0), .int x1, .int x2, .ref q]) (maxL := 5) (ws := wL_giver) (cc := cL_giver) (own := RL) (by decide +kernel) rfl rfl (Nat.le_of_ble_eq_true rfl) (lv := [(0, .ref (ad 0)), (1, .int x1), (2, .int x2), (3, .ref q)]) rfl (fun Γ C hA hE htab => ?_)
  generalize hQ : (MQ Γ.below (va_Qi (lwI 2 o.1) (fun u => kPost D T Γ.A ([oL T q u] ++ wW shX T ad xo o.2)) Γ.A) Γ.args Γ.s 2 12 Γ.A) = Q
  refine q_aload_n C dL_giver_0 rfl 3 rfl ?_
  refine q_iconst (v := (0 : Int32)) C dL_giver_1 (by decide) ?_
  refine q_aload_n C dL_giver_2 rfl 0 rfl ?_
  refine q_iload_n C dL_giver_3 rfl 1 rfl ?_
  refine q_iload_n C dL_giver_4 rfl 2 rfl ?_
  refine q_xti (ad := ad) (kc' := 2) (ks' := 12) (rest := [.int 0, .ref q]) (As := [.int x1, .int x2]) C hA hE.1 (cut_tail (a := [oL T q f])) (fun sz => cX_giver l hl0 D T ad sK sV xo g x1 x2 o h sz) kL_giver ⟨Nat.le_of_ble_eq_true rfl, Nat.le_of_ble_eq_true rfl⟩ ⟨rfl, rfl⟩ ⟨Nat.le_of_ble_eq_true rfl, Nat.le_of_ble_eq_true rfl⟩ ⟨Nat.le_of_ble_eq_true rfl, Nat.le_of_ble_eq_true rfl⟩ rfl rfl (Nat.le_of_ble_eq_true rfl) dL_giver_5 (fun k hk1 => ?_) (fun r hr1 => ?_)
  · subst hQ
    rcases hk k hk1 with ⟨t9, ⟨e9, -⟩ | ⟨e9, -⟩⟩
    · subst e9
      refine q_catch (hpc0 := 13) (name := "java/util/NoSuchElementException") C [] _ [_] htab (fun z hz => by cases hz) rfl (by decide) (List.mem_cons_of_mem _ bl_16) hE.1.2.2.2.2.2.2.1 rfl (fun q9 => ?_)
      refine q_astore (lv' := ((4, Value.ref q9) :: [(0, .ref (ad 0)), (1, .int x1), (2, .int x2), (3, .ref q)])) C dL_giver_13 (Nat.le_of_ble_eq_true rfl) rfl ?_
      refine q_iconst (v := (1 : Int32)) C dL_giver_15 (by decide) ?_
      exact q_wret C f (Or.inr ⟨_, hk1, by exact Or.inl ⟨rfl, rfl⟩⟩) rfl (Nat.le_of_ble_eq_true rfl) (Nat.le_of_ble_eq_true rfl) dL_giver_16
    · subst e9
      refine q_catch (hpc0 := 17) (name := "java/lang/IllegalArgumentException") C [_] _ [] htab (fun z hz => by obtain rfl := List.mem_singleton.mp hz; exact Or.inr ⟨by decide, "java/util/NoSuchElementException", (List.mem_cons_of_mem _ bl_16), hE.2⟩) rfl (by decide) (List.mem_cons_of_mem _ bl_0) hE.1.2.2.2.2.2.1 rfl (fun q9 => ?_)
      refine q_astore (lv' := ((4, Value.ref q9) :: [(0, .ref (ad 0)), (1, .int x1), (2, .int x2), (3, .ref q)])) C dL_giver_17 (Nat.le_of_ble_eq_true rfl) rfl ?_
      refine q_iconst (v := (2 : Int32)) C dL_giver_19 (by decide) ?_
      exact q_wret C f (Or.inr ⟨_, hk1, by exact Or.inr ⟨rfl, rfl⟩⟩) rfl (Nat.le_of_ble_eq_true rfl) (Nat.le_of_ble_eq_true rfl) dL_giver_20
  · refine q_i2l C dL_giver_8 ?_
    refine q_last C rfl rfl dL_giver_9 ?_
    refine q_goto (tgt := 21) C dL_giver_10 (by decide) ?_
    refine q_iconst (v := (0 : Int32)) C dL_giver_21 (by decide) ?_
    subst hQ
    exact q_wret C (vp_updL f 0 r.toInt64) (Or.inl ⟨r, hr1, rfl, by rw [vpU]⟩) rfl (Nat.le_of_ble_eq_true rfl) (Nat.le_of_ble_eq_true rfl) dL_giver_22
def wL_order : List Cond := .codeWith yL_order cL_order 5 (some .int) [(0, 10, 13, 13)] :: BL
theorem kL_order {c0 : Cond} : kV (c0 :: BL) RL RX11 62 yX11_order cX11_order 3 2 (some .int) wX_order := BL_kV bl_47 bl_48 bl_49 (List.mem_append_right _ bx_573) bx_738 (by decide +kernel)
def rmL_order : Room := { frames := 10 + 1, cells := 2, slots := 12, locals := 8 + (3 + 11) + 163 }
set_option maxRecDepth 100000 in
theorem cL_order_w (l : Launch) (hl0 : l.stackTraces = false) (D : va_G) (T : cT) (ad : Nat → Nat) (sK sV : Nat → Nat) (xo : Sl) (g : St) (q : Nat) (f : Nat → Int64) (x1 : Int32) (x2 : Int32) (o : (Nat ⊕ Int32) × St) (h : fX_order x1 x2 g = some o) (hk : ∀ k, o.1 = .inl k → ∃ t, kcd 1 k t) (sz : Nat) : Met l yL_order wL_order rmL_order (va_Pc [.ref (ad 0), .int x1, .int x2, .ref q] (kPre D T (EL sK sV) ([oL T q f] ++ wW shX T ad xo g) sz)) (va_Qi (lwI 1 o.1) (fun u => kPost D T (va_A ([oL T q f] ++ wW shX T ad xo g) sz) ([oL T q u] ++ wW shX T ad xo o.2)) (va_A ([oL T q f] ++ wW shX T ad xo g) sz)) 2 12 (va_A ([oL T q f] ++ wW shX T ad xo g) sz) := by
  refine q_startH (E := EL sK sV) (Qc := fun A => va_Qi (lwI 1 o.1) (fun u => kPost D T A ([oL T q u] ++ wW shX T ad xo o.2)) A) (y := yL_order) (av := [.ref (ad 0), .int x1, .int x2, .ref q]) (maxL := 5) (ws := wL_order) (cc := cL_order) (own := RL) (by decide +kernel) rfl rfl (Nat.le_of_ble_eq_true rfl) (lv := [(0, .ref (ad 0)), (1, .int x1), (2, .int x2), (3, .ref q)]) rfl (fun Γ C hA hE htab => ?_)
  generalize hQ : (MQ Γ.below (va_Qi (lwI 1 o.1) (fun u => kPost D T Γ.A ([oL T q u] ++ wW shX T ad xo o.2)) Γ.A) Γ.args Γ.s 2 12 Γ.A) = Q
  refine q_aload_n C dL_order_0 rfl 3 rfl ?_
  refine q_iconst (v := (0 : Int32)) C dL_order_1 (by decide) ?_
  refine q_aload_n C dL_order_2 rfl 0 rfl ?_
  refine q_iload_n C dL_order_3 rfl 1 rfl ?_
  refine q_iload_n C dL_order_4 rfl 2 rfl ?_
  refine q_xti (ad := ad) (kc' := 2) (ks' := 12) (rest := [.int 0, .ref q]) (As := [.int x1, .int x2]) C hA hE.1 (cut_tail (a := [oL T q f])) (fun sz => cX_order l hl0 D T ad sK sV xo g x1 x2 o h sz) kL_order ⟨Nat.le_of_ble_eq_true rfl, Nat.le_of_ble_eq_true rfl⟩ ⟨rfl, rfl⟩ ⟨Nat.le_of_ble_eq_true rfl, Nat.le_of_ble_eq_true rfl⟩ ⟨Nat.le_of_ble_eq_true rfl, Nat.le_of_ble_eq_true rfl⟩ rfl rfl (Nat.le_of_ble_eq_true rfl) dL_order_5 (fun k hk1 => ?_) (fun r hr1 => ?_)
  · subst hQ
    obtain ⟨t9, e9, -⟩ : ∃ t, kcd 1 k t := hk k hk1
    subst e9
    refine q_catch (hpc0 := 13) (name := "java/lang/IllegalArgumentException") C [] _ [] htab (fun z hz => by cases hz) rfl (by decide) (List.mem_cons_of_mem _ bl_0) hE.1.2.2.2.2.2.1 rfl (fun q9 => ?_)
    refine q_astore (lv' := ((4, Value.ref q9) :: [(0, .ref (ad 0)), (1, .int x1), (2, .int x2), (3, .ref q)])) C dL_order_13 (Nat.le_of_ble_eq_true rfl) rfl ?_
    refine q_iconst (v := (1 : Int32)) C dL_order_15 (by decide) ?_
    exact q_wret C f (Or.inr ⟨_, hk1, by exact ⟨rfl, rfl⟩⟩) rfl (Nat.le_of_ble_eq_true rfl) (Nat.le_of_ble_eq_true rfl) dL_order_16
  · refine q_i2l C dL_order_8 ?_
    refine q_last C rfl rfl dL_order_9 ?_
    refine q_goto (tgt := 17) C dL_order_10 (by decide) ?_
    refine q_iconst (v := (0 : Int32)) C dL_order_17 (by decide) ?_
    subst hQ
    exact q_wret C (vp_updL f 0 r.toInt64) (Or.inl ⟨r, hr1, rfl, by rw [vpU]⟩) rfl (Nat.le_of_ble_eq_true rfl) (Nat.le_of_ble_eq_true rfl) dL_order_18
def wL_fits : List Cond := .codeWith yL_fits cL_fits 5 (some .int) [(0, 10, 13, 13)] :: BL
theorem kL_fits {c0 : Cond} : kV (c0 :: BL) RL RX11 65 yX11_fits cX11_fits 3 2 (some .int) wX_fits := BL_kV bl_50 bl_51 bl_52 (List.mem_append_right _ bx_573) bx_741 (by decide +kernel)
def rmL_fits : Room := { frames := 10 + 1, cells := 2, slots := 12, locals := 8 + (3 + 11) + 163 }
set_option maxRecDepth 100000 in
theorem cL_fits_w (l : Launch) (hl0 : l.stackTraces = false) (D : va_G) (T : cT) (ad : Nat → Nat) (sK sV : Nat → Nat) (xo : Sl) (g : St) (q : Nat) (f : Nat → Int64) (x1 : Int32) (x2 : Int32) (o : (Nat ⊕ Int32) × St) (h : fX_fits x1 x2 g = some o) (hk : ∀ k, o.1 = .inl k → ∃ t, kcd 1 k t) (sz : Nat) : Met l yL_fits wL_fits rmL_fits (va_Pc [.ref (ad 0), .int x1, .int x2, .ref q] (kPre D T (EL sK sV) ([oL T q f] ++ wW shX T ad xo g) sz)) (va_Qi (lwI 1 o.1) (fun u => kPost D T (va_A ([oL T q f] ++ wW shX T ad xo g) sz) ([oL T q u] ++ wW shX T ad xo o.2)) (va_A ([oL T q f] ++ wW shX T ad xo g) sz)) 2 12 (va_A ([oL T q f] ++ wW shX T ad xo g) sz) := by
  refine q_startH (E := EL sK sV) (Qc := fun A => va_Qi (lwI 1 o.1) (fun u => kPost D T A ([oL T q u] ++ wW shX T ad xo o.2)) A) (y := yL_fits) (av := [.ref (ad 0), .int x1, .int x2, .ref q]) (maxL := 5) (ws := wL_fits) (cc := cL_fits) (own := RL) (by decide +kernel) rfl rfl (Nat.le_of_ble_eq_true rfl) (lv := [(0, .ref (ad 0)), (1, .int x1), (2, .int x2), (3, .ref q)]) rfl (fun Γ C hA hE htab => ?_)
  generalize hQ : (MQ Γ.below (va_Qi (lwI 1 o.1) (fun u => kPost D T Γ.A ([oL T q u] ++ wW shX T ad xo o.2)) Γ.A) Γ.args Γ.s 2 12 Γ.A) = Q
  refine q_aload_n C dL_fits_0 rfl 3 rfl ?_
  refine q_iconst (v := (0 : Int32)) C dL_fits_1 (by decide) ?_
  refine q_aload_n C dL_fits_2 rfl 0 rfl ?_
  refine q_iload_n C dL_fits_3 rfl 1 rfl ?_
  refine q_iload_n C dL_fits_4 rfl 2 rfl ?_
  refine q_xti (ad := ad) (kc' := 2) (ks' := 12) (rest := [.int 0, .ref q]) (As := [.int x1, .int x2]) C hA hE.1 (cut_tail (a := [oL T q f])) (fun sz => cX_fits l hl0 D T ad sK sV xo g x1 x2 o h sz) kL_fits ⟨Nat.le_of_ble_eq_true rfl, Nat.le_of_ble_eq_true rfl⟩ ⟨rfl, rfl⟩ ⟨Nat.le_of_ble_eq_true rfl, Nat.le_of_ble_eq_true rfl⟩ ⟨Nat.le_of_ble_eq_true rfl, Nat.le_of_ble_eq_true rfl⟩ rfl rfl (Nat.le_of_ble_eq_true rfl) dL_fits_5 (fun k hk1 => ?_) (fun r hr1 => ?_)
  · subst hQ
    obtain ⟨t9, e9, -⟩ : ∃ t, kcd 1 k t := hk k hk1
    subst e9
    refine q_catch (hpc0 := 13) (name := "java/lang/IllegalArgumentException") C [] _ [] htab (fun z hz => by cases hz) rfl (by decide) (List.mem_cons_of_mem _ bl_0) hE.1.2.2.2.2.2.1 rfl (fun q9 => ?_)
    refine q_astore (lv' := ((4, Value.ref q9) :: [(0, .ref (ad 0)), (1, .int x1), (2, .int x2), (3, .ref q)])) C dL_fits_13 (Nat.le_of_ble_eq_true rfl) rfl ?_
    refine q_iconst (v := (1 : Int32)) C dL_fits_15 (by decide) ?_
    exact q_wret C f (Or.inr ⟨_, hk1, by exact ⟨rfl, rfl⟩⟩) rfl (Nat.le_of_ble_eq_true rfl) (Nat.le_of_ble_eq_true rfl) dL_fits_16
  · refine q_i2l C dL_fits_8 ?_
    refine q_last C rfl rfl dL_fits_9 ?_
    refine q_goto (tgt := 17) C dL_fits_10 (by decide) ?_
    refine q_iconst (v := (0 : Int32)) C dL_fits_17 (by decide) ?_
    subst hQ
    exact q_wret C (vp_updL f 0 r.toInt64) (Or.inl ⟨r, hr1, rfl, by rw [vpU]⟩) rfl (Nat.le_of_ble_eq_true rfl) (Nat.le_of_ble_eq_true rfl) dL_fits_18
def wL_look : List Cond := .codeWith yL_look cL_look 5 (some .int) [(0, 10, 13, 13)] :: BL
theorem kL_look {c0 : Cond} : kV (c0 :: BL) RL RX11 68 yX11_look cX11_look 7 2 (some .int) wX_look := BL_kV bl_53 bl_54 bl_55 (List.mem_append_right _ bx_573) bx_746 (by decide +kernel)
def rmL_look : Room := { frames := 10 + 1, cells := 2, slots := 12, locals := 8 + (7 + 11) + 163 }
set_option maxRecDepth 100000 in
theorem cL_look_w (l : Launch) (hl0 : l.stackTraces = false) (D : va_G) (T : cT) (ad : Nat → Nat) (sK sV : Nat → Nat) (xo : Sl) (g : St) (q : Nat) (f : Nat → Int64) (x1 : Int32) (x2 : Int32) (o : (Nat ⊕ Int32) × St) (h : fX_look x1 x2 g = some o) (hk : ∀ k, o.1 = .inl k → ∃ t, kcd 1 k t) (sz : Nat) : Met l yL_look wL_look rmL_look (va_Pc [.ref (ad 0), .int x1, .int x2, .ref q] (kPre D T (EL sK sV) ([oL T q f] ++ wW shX T ad xo g) sz)) (va_Qi (lwI 1 o.1) (fun u => kPost D T (va_A ([oL T q f] ++ wW shX T ad xo g) sz) ([oL T q u] ++ wW shX T ad xo o.2)) (va_A ([oL T q f] ++ wW shX T ad xo g) sz)) 2 12 (va_A ([oL T q f] ++ wW shX T ad xo g) sz) := by
  refine q_startH (E := EL sK sV) (Qc := fun A => va_Qi (lwI 1 o.1) (fun u => kPost D T A ([oL T q u] ++ wW shX T ad xo o.2)) A) (y := yL_look) (av := [.ref (ad 0), .int x1, .int x2, .ref q]) (maxL := 5) (ws := wL_look) (cc := cL_look) (own := RL) (by decide +kernel) rfl rfl (Nat.le_of_ble_eq_true rfl) (lv := [(0, .ref (ad 0)), (1, .int x1), (2, .int x2), (3, .ref q)]) rfl (fun Γ C hA hE htab => ?_)
  generalize hQ : (MQ Γ.below (va_Qi (lwI 1 o.1) (fun u => kPost D T Γ.A ([oL T q u] ++ wW shX T ad xo o.2)) Γ.A) Γ.args Γ.s 2 12 Γ.A) = Q
  refine q_aload_n C dL_look_0 rfl 3 rfl ?_
  refine q_iconst (v := (0 : Int32)) C dL_look_1 (by decide) ?_
  refine q_aload_n C dL_look_2 rfl 0 rfl ?_
  refine q_iload_n C dL_look_3 rfl 1 rfl ?_
  refine q_iload_n C dL_look_4 rfl 2 rfl ?_
  refine q_xti (ad := ad) (kc' := 2) (ks' := 12) (rest := [.int 0, .ref q]) (As := [.int x1, .int x2]) C hA hE.1 (cut_tail (a := [oL T q f])) (fun sz => cX_look l hl0 D T ad sK sV xo g x1 x2 o h sz) kL_look ⟨Nat.le_of_ble_eq_true rfl, Nat.le_of_ble_eq_true rfl⟩ ⟨rfl, rfl⟩ ⟨Nat.le_of_ble_eq_true rfl, Nat.le_of_ble_eq_true rfl⟩ ⟨Nat.le_of_ble_eq_true rfl, Nat.le_of_ble_eq_true rfl⟩ rfl rfl (Nat.le_of_ble_eq_true rfl) dL_look_5 (fun k hk1 => ?_) (fun r hr1 => ?_)
  · subst hQ
    obtain ⟨t9, e9, -⟩ : ∃ t, kcd 1 k t := hk k hk1
    subst e9
    refine q_catch (hpc0 := 13) (name := "java/lang/IllegalArgumentException") C [] _ [] htab (fun z hz => by cases hz) rfl (by decide) (List.mem_cons_of_mem _ bl_0) hE.1.2.2.2.2.2.1 rfl (fun q9 => ?_)
    refine q_astore (lv' := ((4, Value.ref q9) :: [(0, .ref (ad 0)), (1, .int x1), (2, .int x2), (3, .ref q)])) C dL_look_13 (Nat.le_of_ble_eq_true rfl) rfl ?_
    refine q_iconst (v := (1 : Int32)) C dL_look_15 (by decide) ?_
    exact q_wret C f (Or.inr ⟨_, hk1, by exact ⟨rfl, rfl⟩⟩) rfl (Nat.le_of_ble_eq_true rfl) (Nat.le_of_ble_eq_true rfl) dL_look_16
  · refine q_i2l C dL_look_8 ?_
    refine q_last C rfl rfl dL_look_9 ?_
    refine q_goto (tgt := 17) C dL_look_10 (by decide) ?_
    refine q_iconst (v := (0 : Int32)) C dL_look_17 (by decide) ?_
    subst hQ
    exact q_wret C (vp_updL f 0 r.toInt64) (Or.inl ⟨r, hr1, rfl, by rw [vpU]⟩) rfl (Nat.le_of_ble_eq_true rfl) (Nat.le_of_ble_eq_true rfl) dL_look_18
def wL_neighbours : List Cond := .codeWith yL_neighbours cL_neighbours 6 (some .int) [(0, 12, 15, 13)] :: BL
theorem kL_neighbours {c0 : Cond} : kV (c0 :: BL) RL RX11 71 yX11_neighbours cX11_neighbours 12 3 (some .int) wX_neighbours := BL_kV bl_56 bl_57 bl_58 (List.mem_append_right _ bx_573) bx_748 (by decide +kernel)
def rmL_neighbours : Room := { frames := 9 + 1, cells := 1, slots := 6, locals := 8 + (12 + 11) + 141 }
set_option maxRecDepth 100000 in
theorem cL_neighbours_w (l : Launch) (hl0 : l.stackTraces = false) (D : va_G) (T : cT) (ad : Nat → Nat) (sK sV : Nat → Nat) (xo : Sl) (g : St) (q : Nat) (f : Nat → Int64) (x1 : Int32) (x2 : Int32) (x3 : Int32) (o : (Nat ⊕ Int32) × St) (h : fX_neighbours x1 x2 x3 g = some o) (hk : ∀ k, o.1 = .inl k → ∃ t, kcd 1 k t) (sz : Nat) : Met l yL_neighbours wL_neighbours rmL_neighbours (va_Pc [.ref (ad 0), .int x1, .int x2, .int x3, .ref q] (kPre D T (EL sK sV) ([oL T q f] ++ wW shX T ad xo g) sz)) (va_Qi (lwI 1 o.1) (fun u => kPost D T (va_A ([oL T q f] ++ wW shX T ad xo g) sz) ([oL T q u] ++ wW shX T ad xo o.2)) (va_A ([oL T q f] ++ wW shX T ad xo g) sz)) 1 6 (va_A ([oL T q f] ++ wW shX T ad xo g) sz) := by
  refine q_startH (E := EL sK sV) (Qc := fun A => va_Qi (lwI 1 o.1) (fun u => kPost D T A ([oL T q u] ++ wW shX T ad xo o.2)) A) (y := yL_neighbours) (av := [.ref (ad 0), .int x1, .int x2, .int x3, .ref q]) (maxL := 6) (ws := wL_neighbours) (cc := cL_neighbours) (own := RL) (by decide +kernel) rfl rfl (Nat.le_of_ble_eq_true rfl) (lv := [(0, .ref (ad 0)), (1, .int x1), (2, .int x2), (3, .int x3), (4, .ref q)]) rfl (fun Γ C hA hE htab => ?_)
  generalize hQ : (MQ Γ.below (va_Qi (lwI 1 o.1) (fun u => kPost D T Γ.A ([oL T q u] ++ wW shX T ad xo o.2)) Γ.A) Γ.args Γ.s 1 6 Γ.A) = Q
  refine q_aload C dL_neighbours_0 4 rfl ?_
  refine q_iconst (v := (0 : Int32)) C dL_neighbours_2 (by decide) ?_
  refine q_aload_n C dL_neighbours_3 rfl 0 rfl ?_
  refine q_iload_n C dL_neighbours_4 rfl 1 rfl ?_
  refine q_iload_n C dL_neighbours_5 rfl 2 rfl ?_
  refine q_iload_n C dL_neighbours_6 rfl 3 rfl ?_
  refine q_xti (ad := ad) (kc' := 1) (ks' := 6) (rest := [.int 0, .ref q]) (As := [.int x1, .int x2, .int x3]) C hA hE.1 (cut_tail (a := [oL T q f])) (fun sz => cX_neighbours l hl0 D T ad sK sV xo g x1 x2 x3 o h sz) kL_neighbours ⟨Nat.le_of_ble_eq_true rfl, Nat.le_of_ble_eq_true rfl⟩ ⟨rfl, rfl⟩ ⟨Nat.le_of_ble_eq_true rfl, Nat.le_of_ble_eq_true rfl⟩ ⟨Nat.le_of_ble_eq_true rfl, Nat.le_of_ble_eq_true rfl⟩ rfl rfl (Nat.le_of_ble_eq_true rfl) dL_neighbours_7 (fun k hk1 => ?_) (fun r hr1 => ?_)
  · subst hQ
    obtain ⟨t9, e9, -⟩ : ∃ t, kcd 1 k t := hk k hk1
    subst e9
    refine q_catch (hpc0 := 15) (name := "java/lang/IllegalArgumentException") C [] _ [] htab (fun z hz => by cases hz) rfl (by decide) (List.mem_cons_of_mem _ bl_0) hE.1.2.2.2.2.2.1 rfl (fun q9 => ?_)
    refine q_astore (lv' := ((5, Value.ref q9) :: [(0, .ref (ad 0)), (1, .int x1), (2, .int x2), (3, .int x3), (4, .ref q)])) C dL_neighbours_15 (Nat.le_of_ble_eq_true rfl) rfl ?_
    refine q_iconst (v := (1 : Int32)) C dL_neighbours_17 (by decide) ?_
    exact q_wret C f (Or.inr ⟨_, hk1, by exact ⟨rfl, rfl⟩⟩) rfl (Nat.le_of_ble_eq_true rfl) (Nat.le_of_ble_eq_true rfl) dL_neighbours_18
  · refine q_i2l C dL_neighbours_10 ?_
    refine q_last C rfl rfl dL_neighbours_11 ?_
    refine q_goto (tgt := 19) C dL_neighbours_12 (by decide) ?_
    refine q_iconst (v := (0 : Int32)) C dL_neighbours_19 (by decide) ?_
    subst hQ
    exact q_wret C (vp_updL f 0 r.toInt64) (Or.inl ⟨r, hr1, rfl, by rw [vpU]⟩) rfl (Nat.le_of_ble_eq_true rfl) (Nat.le_of_ble_eq_true rfl) dL_neighbours_20
def wL_home : List Cond := .codeWith yL_home cL_home 7 (some .int) [(0, 13, 16, 13)] :: BL
theorem kL_home {c0 : Cond} : kV (c0 :: BL) RL RX11 75 yX11_home cX11_home 10 4 (some .long) wX_home := BL_kV bl_59 bl_60 bl_61 (List.mem_append_right _ bx_573) bx_752 (by decide +kernel)
def rmL_home : Room := { frames := 9 + 1, cells := 2, slots := 12, locals := 8 + (10 + 11) + 141 }
set_option maxRecDepth 100000 in
theorem cL_home_w (l : Launch) (hl0 : l.stackTraces = false) (D : va_G) (T : cT) (ad : Nat → Nat) (sK sV : Nat → Nat) (xo : Sl) (g : St) (q : Nat) (f : Nat → Int64) (x1 : Int32) (x2 : Int32) (x3 : Int32) (x4 : Int32) (o : (Nat ⊕ Int64) × St × Sl) (h : fX_home x1 x2 x3 x4 g xo = some o) (hk : ∀ k, o.1 = .inl k → ∃ t, kcd 1 k t) (sz : Nat) : Met l yL_home wL_home rmL_home (va_Pc [.ref (ad 0), .int x1, .int x2, .int x3, .int x4, .ref q] (kPre D T (EL sK sV) ([oL T q f] ++ wW shX T ad xo g) sz)) (va_Qi (lwL 1 o.1) (fun u => kPost D T (va_A ([oL T q f] ++ wW shX T ad xo g) sz) ([oL T q u] ++ wW shX T ad o.2.2 o.2.1)) (va_A ([oL T q f] ++ wW shX T ad xo g) sz)) 2 12 (va_A ([oL T q f] ++ wW shX T ad xo g) sz) := by
  refine q_startH (E := EL sK sV) (Qc := fun A => va_Qi (lwL 1 o.1) (fun u => kPost D T A ([oL T q u] ++ wW shX T ad o.2.2 o.2.1)) A) (y := yL_home) (av := [.ref (ad 0), .int x1, .int x2, .int x3, .int x4, .ref q]) (maxL := 7) (ws := wL_home) (cc := cL_home) (own := RL) (by decide +kernel) rfl rfl (Nat.le_of_ble_eq_true rfl) (lv := [(0, .ref (ad 0)), (1, .int x1), (2, .int x2), (3, .int x3), (4, .int x4), (5, .ref q)]) rfl (fun Γ C hA hE htab => ?_)
  generalize hQ : (MQ Γ.below (va_Qi (lwL 1 o.1) (fun u => kPost D T Γ.A ([oL T q u] ++ wW shX T ad o.2.2 o.2.1)) Γ.A) Γ.args Γ.s 2 12 Γ.A) = Q
  refine q_aload C dL_home_0 5 rfl ?_
  refine q_iconst (v := (0 : Int32)) C dL_home_2 (by decide) ?_
  refine q_aload_n C dL_home_3 rfl 0 rfl ?_
  refine q_iload_n C dL_home_4 rfl 1 rfl ?_
  refine q_iload_n C dL_home_5 rfl 2 rfl ?_
  refine q_iload_n C dL_home_6 rfl 3 rfl ?_
  refine q_iload C dL_home_7 4 rfl ?_
  refine q_xtl (ad := ad) (kc' := 2) (ks' := 12) (rest := [.int 0, .ref q]) (As := [.int x1, .int x2, .int x3, .int x4]) C hA hE.1 (cut_tail (a := [oL T q f])) (fun sz => cX_home l hl0 D T ad sK sV xo g x1 x2 x3 x4 o h sz) kL_home ⟨Nat.le_of_ble_eq_true rfl, Nat.le_of_ble_eq_true rfl⟩ ⟨rfl, rfl⟩ ⟨Nat.le_of_ble_eq_true rfl, Nat.le_of_ble_eq_true rfl⟩ ⟨Nat.le_of_ble_eq_true rfl, Nat.le_of_ble_eq_true rfl⟩ rfl rfl (Nat.le_of_ble_eq_true rfl) dL_home_9 (fun k hk1 => ?_) (fun r hr1 => ?_)
  · subst hQ
    obtain ⟨t9, e9, -⟩ : ∃ t, kcd 1 k t := hk k hk1
    subst e9
    refine q_catch (hpc0 := 16) (name := "java/lang/IllegalArgumentException") C [] _ [] htab (fun z hz => by cases hz) rfl (by decide) (List.mem_cons_of_mem _ bl_0) hE.1.2.2.2.2.2.1 rfl (fun q9 => ?_)
    refine q_astore (lv' := ((6, Value.ref q9) :: [(0, .ref (ad 0)), (1, .int x1), (2, .int x2), (3, .int x3), (4, .int x4), (5, .ref q)])) C dL_home_16 (Nat.le_of_ble_eq_true rfl) rfl ?_
    refine q_iconst (v := (1 : Int32)) C dL_home_18 (by decide) ?_
    exact q_wret C f (Or.inr ⟨_, hk1, by exact ⟨rfl, rfl⟩⟩) rfl (Nat.le_of_ble_eq_true rfl) (Nat.le_of_ble_eq_true rfl) dL_home_19
  · refine q_last C rfl rfl dL_home_12 ?_
    refine q_goto (tgt := 20) C dL_home_13 (by decide) ?_
    refine q_iconst (v := (0 : Int32)) C dL_home_20 (by decide) ?_
    subst hQ
    exact q_wret C (vp_updL f 0 r) (Or.inl ⟨r, hr1, rfl, by rw [vpU]⟩) rfl (Nat.le_of_ble_eq_true rfl) (Nat.le_of_ble_eq_true rfl) dL_home_21
def wL_flowers : List Cond := .codeWith yL_flowers cL_flowers 6 (some .int) [(0, 12, 15, 31), (0, 12, 19, 13)] :: BL
theorem kL_flowers {c0 : Cond} : kV (c0 :: BL) RL RX11 79 yX11_flowers cX11_flowers 5 3 (some .int) wX_flowers := BL_kV bl_62 bl_63 bl_64 (List.mem_append_right _ bx_573) bx_760 (by decide +kernel)
def rmL_flowers : Room := { frames := 9 + 1, cells := 2, slots := 12, locals := 8 + (5 + 11) + 141 }
set_option maxRecDepth 100000 in
theorem cL_flowers_w (l : Launch) (hl0 : l.stackTraces = false) (D : va_G) (T : cT) (ad : Nat → Nat) (sK sV : Nat → Nat) (xo : Sl) (g : St) (q : Nat) (f : Nat → Int64) (x1 : Int32) (x2 : Int32) (x3 : Int32) (o : (Nat ⊕ Int32) × St) (h : fX_flowers x1 x2 x3 g = some o) (hk : ∀ k, o.1 = .inl k → ∃ t, kcd 2 k t) (sz : Nat) : Met l yL_flowers wL_flowers rmL_flowers (va_Pc [.ref (ad 0), .int x1, .int x2, .int x3, .ref q] (kPre D T (EL sK sV) ([oL T q f] ++ wW shX T ad xo g) sz)) (va_Qi (lwI 2 o.1) (fun u => kPost D T (va_A ([oL T q f] ++ wW shX T ad xo g) sz) ([oL T q u] ++ wW shX T ad xo o.2)) (va_A ([oL T q f] ++ wW shX T ad xo g) sz)) 2 12 (va_A ([oL T q f] ++ wW shX T ad xo g) sz) := by
  refine q_startH (E := EL sK sV) (Qc := fun A => va_Qi (lwI 2 o.1) (fun u => kPost D T A ([oL T q u] ++ wW shX T ad xo o.2)) A) (y := yL_flowers) (av := [.ref (ad 0), .int x1, .int x2, .int x3, .ref q]) (maxL := 6) (ws := wL_flowers) (cc := cL_flowers) (own := RL) (by decide +kernel) rfl rfl (Nat.le_of_ble_eq_true rfl) (lv := [(0, .ref (ad 0)), (1, .int x1), (2, .int x2), (3, .int x3), (4, .ref q)]) rfl (fun Γ C hA hE htab => ?_)
  generalize hQ : (MQ Γ.below (va_Qi (lwI 2 o.1) (fun u => kPost D T Γ.A ([oL T q u] ++ wW shX T ad xo o.2)) Γ.A) Γ.args Γ.s 2 12 Γ.A) = Q
  refine q_aload C dL_flowers_0 4 rfl ?_
  refine q_iconst (v := (0 : Int32)) C dL_flowers_2 (by decide) ?_
  refine q_aload_n C dL_flowers_3 rfl 0 rfl ?_
  refine q_iload_n C dL_flowers_4 rfl 1 rfl ?_
  refine q_iload_n C dL_flowers_5 rfl 2 rfl ?_
  refine q_iload_n C dL_flowers_6 rfl 3 rfl ?_
  refine q_xti (ad := ad) (kc' := 2) (ks' := 12) (rest := [.int 0, .ref q]) (As := [.int x1, .int x2, .int x3]) C hA hE.1 (cut_tail (a := [oL T q f])) (fun sz => cX_flowers l hl0 D T ad sK sV xo g x1 x2 x3 o h sz) kL_flowers ⟨Nat.le_of_ble_eq_true rfl, Nat.le_of_ble_eq_true rfl⟩ ⟨rfl, rfl⟩ ⟨Nat.le_of_ble_eq_true rfl, Nat.le_of_ble_eq_true rfl⟩ ⟨Nat.le_of_ble_eq_true rfl, Nat.le_of_ble_eq_true rfl⟩ rfl rfl (Nat.le_of_ble_eq_true rfl) dL_flowers_7 (fun k hk1 => ?_) (fun r hr1 => ?_)
  · subst hQ
    rcases hk k hk1 with ⟨t9, ⟨e9, -⟩ | ⟨e9, -⟩⟩
    · subst e9
      refine q_catch (hpc0 := 15) (name := "java/util/NoSuchElementException") C [] _ [_] htab (fun z hz => by cases hz) rfl (by decide) (List.mem_cons_of_mem _ bl_16) hE.1.2.2.2.2.2.2.1 rfl (fun q9 => ?_)
      refine q_astore (lv' := ((5, Value.ref q9) :: [(0, .ref (ad 0)), (1, .int x1), (2, .int x2), (3, .int x3), (4, .ref q)])) C dL_flowers_15 (Nat.le_of_ble_eq_true rfl) rfl ?_
      refine q_iconst (v := (1 : Int32)) C dL_flowers_17 (by decide) ?_
      exact q_wret C f (Or.inr ⟨_, hk1, by exact Or.inl ⟨rfl, rfl⟩⟩) rfl (Nat.le_of_ble_eq_true rfl) (Nat.le_of_ble_eq_true rfl) dL_flowers_18
    · subst e9
      refine q_catch (hpc0 := 19) (name := "java/lang/IllegalArgumentException") C [_] _ [] htab (fun z hz => by obtain rfl := List.mem_singleton.mp hz; exact Or.inr ⟨by decide, "java/util/NoSuchElementException", (List.mem_cons_of_mem _ bl_16), hE.2⟩) rfl (by decide) (List.mem_cons_of_mem _ bl_0) hE.1.2.2.2.2.2.1 rfl (fun q9 => ?_)
      refine q_astore (lv' := ((5, Value.ref q9) :: [(0, .ref (ad 0)), (1, .int x1), (2, .int x2), (3, .int x3), (4, .ref q)])) C dL_flowers_19 (Nat.le_of_ble_eq_true rfl) rfl ?_
      refine q_iconst (v := (2 : Int32)) C dL_flowers_21 (by decide) ?_
      exact q_wret C f (Or.inr ⟨_, hk1, by exact Or.inr ⟨rfl, rfl⟩⟩) rfl (Nat.le_of_ble_eq_true rfl) (Nat.le_of_ble_eq_true rfl) dL_flowers_22
  · refine q_i2l C dL_flowers_10 ?_
    refine q_last C rfl rfl dL_flowers_11 ?_
    refine q_goto (tgt := 23) C dL_flowers_12 (by decide) ?_
    refine q_iconst (v := (0 : Int32)) C dL_flowers_23 (by decide) ?_
    subst hQ
    exact q_wret C (vp_updL f 0 r.toInt64) (Or.inl ⟨r, hr1, rfl, by rw [vpU]⟩) rfl (Nat.le_of_ble_eq_true rfl) (Nat.le_of_ble_eq_true rfl) dL_flowers_24
def wL_honoured : List Cond := .codeWith yL_honoured cL_honoured 4 (some .int) [(0, 9, 12, 13)] :: BL
theorem kL_honoured {c0 : Cond} : kV (c0 :: BL) RL RX11 82 yX11_honoured cX11_honoured 6 1 (some .int) wX_honoured := BL_kV bl_65 bl_66 bl_67 (List.mem_append_right _ bx_573) bx_761 (by decide +kernel)
def rmL_honoured : Room := { frames := 9 + 1, cells := 1, slots := 6, locals := 8 + (6 + 11) + 141 }
set_option maxRecDepth 100000 in
theorem cL_honoured_w (l : Launch) (hl0 : l.stackTraces = false) (D : va_G) (T : cT) (ad : Nat → Nat) (sK sV : Nat → Nat) (xo : Sl) (g : St) (q : Nat) (f : Nat → Int64) (x1 : Int32) (o : (Nat ⊕ Int32) × St) (h : fX_honoured x1 g = some o) (hk : ∀ k, o.1 = .inl k → ∃ t, kcd 1 k t) (sz : Nat) : Met l yL_honoured wL_honoured rmL_honoured (va_Pc [.ref (ad 0), .int x1, .ref q] (kPre D T (EL sK sV) ([oL T q f] ++ wW shX T ad xo g) sz)) (va_Qi (lwI 1 o.1) (fun u => kPost D T (va_A ([oL T q f] ++ wW shX T ad xo g) sz) ([oL T q u] ++ wW shX T ad xo o.2)) (va_A ([oL T q f] ++ wW shX T ad xo g) sz)) 1 6 (va_A ([oL T q f] ++ wW shX T ad xo g) sz) := by
  refine q_startH (E := EL sK sV) (Qc := fun A => va_Qi (lwI 1 o.1) (fun u => kPost D T A ([oL T q u] ++ wW shX T ad xo o.2)) A) (y := yL_honoured) (av := [.ref (ad 0), .int x1, .ref q]) (maxL := 4) (ws := wL_honoured) (cc := cL_honoured) (own := RL) (by decide +kernel) rfl rfl (Nat.le_of_ble_eq_true rfl) (lv := [(0, .ref (ad 0)), (1, .int x1), (2, .ref q)]) rfl (fun Γ C hA hE htab => ?_)
  generalize hQ : (MQ Γ.below (va_Qi (lwI 1 o.1) (fun u => kPost D T Γ.A ([oL T q u] ++ wW shX T ad xo o.2)) Γ.A) Γ.args Γ.s 1 6 Γ.A) = Q
  refine q_aload_n C dL_honoured_0 rfl 2 rfl ?_
  refine q_iconst (v := (0 : Int32)) C dL_honoured_1 (by decide) ?_
  refine q_aload_n C dL_honoured_2 rfl 0 rfl ?_
  refine q_iload_n C dL_honoured_3 rfl 1 rfl ?_
  refine q_xti (ad := ad) (kc' := 1) (ks' := 6) (rest := [.int 0, .ref q]) (As := [.int x1]) C hA hE.1 (cut_tail (a := [oL T q f])) (fun sz => cX_honoured l hl0 D T ad sK sV xo g x1 o h sz) kL_honoured ⟨Nat.le_of_ble_eq_true rfl, Nat.le_of_ble_eq_true rfl⟩ ⟨rfl, rfl⟩ ⟨Nat.le_of_ble_eq_true rfl, Nat.le_of_ble_eq_true rfl⟩ ⟨Nat.le_of_ble_eq_true rfl, Nat.le_of_ble_eq_true rfl⟩ rfl rfl (Nat.le_of_ble_eq_true rfl) dL_honoured_4 (fun k hk1 => ?_) (fun r hr1 => ?_)
  · subst hQ
    obtain ⟨t9, e9, -⟩ : ∃ t, kcd 1 k t := hk k hk1
    subst e9
    refine q_catch (hpc0 := 12) (name := "java/lang/IllegalArgumentException") C [] _ [] htab (fun z hz => by cases hz) rfl (by decide) (List.mem_cons_of_mem _ bl_0) hE.1.2.2.2.2.2.1 rfl (fun q9 => ?_)
    refine q_astore_n (lv' := ((3, Value.ref q9) :: [(0, .ref (ad 0)), (1, .int x1), (2, .ref q)])) C dL_honoured_12 rfl (Nat.le_of_ble_eq_true rfl) rfl ?_
    refine q_iconst (v := (1 : Int32)) C dL_honoured_13 (by decide) ?_
    exact q_wret C f (Or.inr ⟨_, hk1, by exact ⟨rfl, rfl⟩⟩) rfl (Nat.le_of_ble_eq_true rfl) (Nat.le_of_ble_eq_true rfl) dL_honoured_14
  · refine q_i2l C dL_honoured_7 ?_
    refine q_last C rfl rfl dL_honoured_8 ?_
    refine q_goto (tgt := 15) C dL_honoured_9 (by decide) ?_
    refine q_iconst (v := (0 : Int32)) C dL_honoured_15 (by decide) ?_
    subst hQ
    exact q_wret C (vp_updL f 0 r.toInt64) (Or.inl ⟨r, hr1, rfl, by rw [vpU]⟩) rfl (Nat.le_of_ble_eq_true rfl) (Nat.le_of_ble_eq_true rfl) dL_honoured_16
def wL_sued : List Cond := .codeWith yL_sued cL_sued 4 (some .int) [(0, 9, 12, 13)] :: BL
theorem kL_sued {c0 : Cond} : kV (c0 :: BL) RL RX11 85 yX11_sued cX11_sued 4 1 (some .int) wX_sued := BL_kV bl_68 bl_69 bl_70 (List.mem_append_right _ bx_573) bx_762 (by decide +kernel)
def rmL_sued : Room := { frames := 9 + 1, cells := 1, slots := 6, locals := 8 + (4 + 11) + 141 }
set_option maxRecDepth 100000 in
theorem cL_sued_w (l : Launch) (hl0 : l.stackTraces = false) (D : va_G) (T : cT) (ad : Nat → Nat) (sK sV : Nat → Nat) (xo : Sl) (g : St) (q : Nat) (f : Nat → Int64) (x1 : Int32) (o : (Nat ⊕ Int32) × St) (h : fX_sued x1 g = some o) (hk : ∀ k, o.1 = .inl k → ∃ t, kcd 1 k t) (sz : Nat) : Met l yL_sued wL_sued rmL_sued (va_Pc [.ref (ad 0), .int x1, .ref q] (kPre D T (EL sK sV) ([oL T q f] ++ wW shX T ad xo g) sz)) (va_Qi (lwI 1 o.1) (fun u => kPost D T (va_A ([oL T q f] ++ wW shX T ad xo g) sz) ([oL T q u] ++ wW shX T ad xo o.2)) (va_A ([oL T q f] ++ wW shX T ad xo g) sz)) 1 6 (va_A ([oL T q f] ++ wW shX T ad xo g) sz) := by
  refine q_startH (E := EL sK sV) (Qc := fun A => va_Qi (lwI 1 o.1) (fun u => kPost D T A ([oL T q u] ++ wW shX T ad xo o.2)) A) (y := yL_sued) (av := [.ref (ad 0), .int x1, .ref q]) (maxL := 4) (ws := wL_sued) (cc := cL_sued) (own := RL) (by decide +kernel) rfl rfl (Nat.le_of_ble_eq_true rfl) (lv := [(0, .ref (ad 0)), (1, .int x1), (2, .ref q)]) rfl (fun Γ C hA hE htab => ?_)
  generalize hQ : (MQ Γ.below (va_Qi (lwI 1 o.1) (fun u => kPost D T Γ.A ([oL T q u] ++ wW shX T ad xo o.2)) Γ.A) Γ.args Γ.s 1 6 Γ.A) = Q
  refine q_aload_n C dL_sued_0 rfl 2 rfl ?_
  refine q_iconst (v := (0 : Int32)) C dL_sued_1 (by decide) ?_
  refine q_aload_n C dL_sued_2 rfl 0 rfl ?_
  refine q_iload_n C dL_sued_3 rfl 1 rfl ?_
  refine q_xti (ad := ad) (kc' := 1) (ks' := 6) (rest := [.int 0, .ref q]) (As := [.int x1]) C hA hE.1 (cut_tail (a := [oL T q f])) (fun sz => cX_sued l hl0 D T ad sK sV xo g x1 o h sz) kL_sued ⟨Nat.le_of_ble_eq_true rfl, Nat.le_of_ble_eq_true rfl⟩ ⟨rfl, rfl⟩ ⟨Nat.le_of_ble_eq_true rfl, Nat.le_of_ble_eq_true rfl⟩ ⟨Nat.le_of_ble_eq_true rfl, Nat.le_of_ble_eq_true rfl⟩ rfl rfl (Nat.le_of_ble_eq_true rfl) dL_sued_4 (fun k hk1 => ?_) (fun r hr1 => ?_)
  · subst hQ
    obtain ⟨t9, e9, -⟩ : ∃ t, kcd 1 k t := hk k hk1
    subst e9
    refine q_catch (hpc0 := 12) (name := "java/lang/IllegalArgumentException") C [] _ [] htab (fun z hz => by cases hz) rfl (by decide) (List.mem_cons_of_mem _ bl_0) hE.1.2.2.2.2.2.1 rfl (fun q9 => ?_)
    refine q_astore_n (lv' := ((3, Value.ref q9) :: [(0, .ref (ad 0)), (1, .int x1), (2, .ref q)])) C dL_sued_12 rfl (Nat.le_of_ble_eq_true rfl) rfl ?_
    refine q_iconst (v := (1 : Int32)) C dL_sued_13 (by decide) ?_
    exact q_wret C f (Or.inr ⟨_, hk1, by exact ⟨rfl, rfl⟩⟩) rfl (Nat.le_of_ble_eq_true rfl) (Nat.le_of_ble_eq_true rfl) dL_sued_14
  · refine q_i2l C dL_sued_7 ?_
    refine q_last C rfl rfl dL_sued_8 ?_
    refine q_goto (tgt := 15) C dL_sued_9 (by decide) ?_
    refine q_iconst (v := (0 : Int32)) C dL_sued_15 (by decide) ?_
    subst hQ
    exact q_wret C (vp_updL f 0 r.toInt64) (Or.inl ⟨r, hr1, rfl, by rw [vpU]⟩) rfl (Nat.le_of_ble_eq_true rfl) (Nat.le_of_ble_eq_true rfl) dL_sued_16
def wL_free : List Cond := .codeWith yL_free cL_free 4 (some .int) [(0, 9, 12, 31)] :: BL
theorem kL_free {c0 : Cond} : kV (c0 :: BL) RL RX11 88 yX11_free cX11_free 4 1 (some .int) wX_free := BL_kV bl_71 bl_72 bl_73 (List.mem_append_right _ bx_573) bx_765 (by decide +kernel)
def rmL_free : Room := { frames := 9 + 1, cells := 1, slots := 6, locals := 8 + (4 + 11) + 141 }
set_option maxRecDepth 100000 in
theorem cL_free_w (l : Launch) (hl0 : l.stackTraces = false) (D : va_G) (T : cT) (ad : Nat → Nat) (sK sV : Nat → Nat) (xo : Sl) (g : St) (q : Nat) (f : Nat → Int64) (x1 : Int32) (o : (Nat ⊕ Int32) × St) (h : fX_free x1 g = some o) (hk : ∀ k, o.1 = .inl k → ∃ t, kcd 0 k t) (sz : Nat) : Met l yL_free wL_free rmL_free (va_Pc [.ref (ad 0), .int x1, .ref q] (kPre D T (EL sK sV) ([oL T q f] ++ wW shX T ad xo g) sz)) (va_Qi (lwI 0 o.1) (fun u => kPost D T (va_A ([oL T q f] ++ wW shX T ad xo g) sz) ([oL T q u] ++ wW shX T ad xo o.2)) (va_A ([oL T q f] ++ wW shX T ad xo g) sz)) 1 6 (va_A ([oL T q f] ++ wW shX T ad xo g) sz) := by
  refine q_startH (E := EL sK sV) (Qc := fun A => va_Qi (lwI 0 o.1) (fun u => kPost D T A ([oL T q u] ++ wW shX T ad xo o.2)) A) (y := yL_free) (av := [.ref (ad 0), .int x1, .ref q]) (maxL := 4) (ws := wL_free) (cc := cL_free) (own := RL) (by decide +kernel) rfl rfl (Nat.le_of_ble_eq_true rfl) (lv := [(0, .ref (ad 0)), (1, .int x1), (2, .ref q)]) rfl (fun Γ C hA hE htab => ?_)
  generalize hQ : (MQ Γ.below (va_Qi (lwI 0 o.1) (fun u => kPost D T Γ.A ([oL T q u] ++ wW shX T ad xo o.2)) Γ.A) Γ.args Γ.s 1 6 Γ.A) = Q
  refine q_aload_n C dL_free_0 rfl 2 rfl ?_
  refine q_iconst (v := (0 : Int32)) C dL_free_1 (by decide) ?_
  refine q_aload_n C dL_free_2 rfl 0 rfl ?_
  refine q_iload_n C dL_free_3 rfl 1 rfl ?_
  refine q_xti (ad := ad) (kc' := 1) (ks' := 6) (rest := [.int 0, .ref q]) (As := [.int x1]) C hA hE.1 (cut_tail (a := [oL T q f])) (fun sz => cX_free l hl0 D T ad sK sV xo g x1 o h sz) kL_free ⟨Nat.le_of_ble_eq_true rfl, Nat.le_of_ble_eq_true rfl⟩ ⟨rfl, rfl⟩ ⟨Nat.le_of_ble_eq_true rfl, Nat.le_of_ble_eq_true rfl⟩ ⟨Nat.le_of_ble_eq_true rfl, Nat.le_of_ble_eq_true rfl⟩ rfl rfl (Nat.le_of_ble_eq_true rfl) dL_free_4 (fun k hk1 => ?_) (fun r hr1 => ?_)
  · subst hQ
    obtain ⟨t9, e9, -⟩ : ∃ t, kcd 0 k t := hk k hk1
    subst e9
    refine q_catch (hpc0 := 12) (name := "java/util/NoSuchElementException") C [] _ [] htab (fun z hz => by cases hz) rfl (by decide) (List.mem_cons_of_mem _ bl_16) hE.1.2.2.2.2.2.2.1 rfl (fun q9 => ?_)
    refine q_astore_n (lv' := ((3, Value.ref q9) :: [(0, .ref (ad 0)), (1, .int x1), (2, .ref q)])) C dL_free_12 rfl (Nat.le_of_ble_eq_true rfl) rfl ?_
    refine q_iconst (v := (1 : Int32)) C dL_free_13 (by decide) ?_
    exact q_wret C f (Or.inr ⟨_, hk1, by exact ⟨rfl, rfl⟩⟩) rfl (Nat.le_of_ble_eq_true rfl) (Nat.le_of_ble_eq_true rfl) dL_free_14
  · refine q_i2l C dL_free_7 ?_
    refine q_last C rfl rfl dL_free_8 ?_
    refine q_goto (tgt := 15) C dL_free_9 (by decide) ?_
    refine q_iconst (v := (0 : Int32)) C dL_free_15 (by decide) ?_
    subst hQ
    exact q_wret C (vp_updL f 0 r.toInt64) (Or.inl ⟨r, hr1, rfl, by rw [vpU]⟩) rfl (Nat.le_of_ble_eq_true rfl) (Nat.le_of_ble_eq_true rfl) dL_free_16
def wL_kin : List Cond := .codeWith yL_kin cL_kin 4 (some .int) [(0, 9, 12, 31)] :: BL
theorem kL_kin {c0 : Cond} : kV (c0 :: BL) RL RX11 91 yX11_kin cX11_kin 5 1 (some .int) wX_kin := BL_kV bl_74 bl_75 bl_76 (List.mem_append_right _ bx_573) bx_766 (by decide +kernel)
def rmL_kin : Room := { frames := 9 + 1, cells := 1, slots := 6, locals := 8 + (5 + 11) + 141 }
set_option maxRecDepth 100000 in
theorem cL_kin_w (l : Launch) (hl0 : l.stackTraces = false) (D : va_G) (T : cT) (ad : Nat → Nat) (sK sV : Nat → Nat) (xo : Sl) (g : St) (q : Nat) (f : Nat → Int64) (x1 : Int32) (o : (Nat ⊕ Int32) × St) (h : fX_kin x1 g = some o) (hk : ∀ k, o.1 = .inl k → ∃ t, kcd 0 k t) (sz : Nat) : Met l yL_kin wL_kin rmL_kin (va_Pc [.ref (ad 0), .int x1, .ref q] (kPre D T (EL sK sV) ([oL T q f] ++ wW shX T ad xo g) sz)) (va_Qi (lwI 0 o.1) (fun u => kPost D T (va_A ([oL T q f] ++ wW shX T ad xo g) sz) ([oL T q u] ++ wW shX T ad xo o.2)) (va_A ([oL T q f] ++ wW shX T ad xo g) sz)) 1 6 (va_A ([oL T q f] ++ wW shX T ad xo g) sz) := by
  refine q_startH (E := EL sK sV) (Qc := fun A => va_Qi (lwI 0 o.1) (fun u => kPost D T A ([oL T q u] ++ wW shX T ad xo o.2)) A) (y := yL_kin) (av := [.ref (ad 0), .int x1, .ref q]) (maxL := 4) (ws := wL_kin) (cc := cL_kin) (own := RL) (by decide +kernel) rfl rfl (Nat.le_of_ble_eq_true rfl) (lv := [(0, .ref (ad 0)), (1, .int x1), (2, .ref q)]) rfl (fun Γ C hA hE htab => ?_)
  generalize hQ : (MQ Γ.below (va_Qi (lwI 0 o.1) (fun u => kPost D T Γ.A ([oL T q u] ++ wW shX T ad xo o.2)) Γ.A) Γ.args Γ.s 1 6 Γ.A) = Q
  refine q_aload_n C dL_kin_0 rfl 2 rfl ?_
  refine q_iconst (v := (0 : Int32)) C dL_kin_1 (by decide) ?_
  refine q_aload_n C dL_kin_2 rfl 0 rfl ?_
  refine q_iload_n C dL_kin_3 rfl 1 rfl ?_
  refine q_xti (ad := ad) (kc' := 1) (ks' := 6) (rest := [.int 0, .ref q]) (As := [.int x1]) C hA hE.1 (cut_tail (a := [oL T q f])) (fun sz => cX_kin l hl0 D T ad sK sV xo g x1 o h sz) kL_kin ⟨Nat.le_of_ble_eq_true rfl, Nat.le_of_ble_eq_true rfl⟩ ⟨rfl, rfl⟩ ⟨Nat.le_of_ble_eq_true rfl, Nat.le_of_ble_eq_true rfl⟩ ⟨Nat.le_of_ble_eq_true rfl, Nat.le_of_ble_eq_true rfl⟩ rfl rfl (Nat.le_of_ble_eq_true rfl) dL_kin_4 (fun k hk1 => ?_) (fun r hr1 => ?_)
  · subst hQ
    obtain ⟨t9, e9, -⟩ : ∃ t, kcd 0 k t := hk k hk1
    subst e9
    refine q_catch (hpc0 := 12) (name := "java/util/NoSuchElementException") C [] _ [] htab (fun z hz => by cases hz) rfl (by decide) (List.mem_cons_of_mem _ bl_16) hE.1.2.2.2.2.2.2.1 rfl (fun q9 => ?_)
    refine q_astore_n (lv' := ((3, Value.ref q9) :: [(0, .ref (ad 0)), (1, .int x1), (2, .ref q)])) C dL_kin_12 rfl (Nat.le_of_ble_eq_true rfl) rfl ?_
    refine q_iconst (v := (1 : Int32)) C dL_kin_13 (by decide) ?_
    exact q_wret C f (Or.inr ⟨_, hk1, by exact ⟨rfl, rfl⟩⟩) rfl (Nat.le_of_ble_eq_true rfl) (Nat.le_of_ble_eq_true rfl) dL_kin_14
  · refine q_i2l C dL_kin_7 ?_
    refine q_last C rfl rfl dL_kin_8 ?_
    refine q_goto (tgt := 15) C dL_kin_9 (by decide) ?_
    refine q_iconst (v := (0 : Int32)) C dL_kin_15 (by decide) ?_
    subst hQ
    exact q_wret C (vp_updL f 0 r.toInt64) (Or.inl ⟨r, hr1, rfl, by rw [vpU]⟩) rfl (Nat.le_of_ble_eq_true rfl) (Nat.le_of_ble_eq_true rfl) dL_kin_16
def wL_willing : List Cond := .codeWith yL_willing cL_willing 4 (some .int) [(0, 9, 12, 31)] :: BL
theorem kL_willing {c0 : Cond} : kV (c0 :: BL) RL RX11 94 yX11_willing cX11_willing 4 1 (some .int) wX_willing := BL_kV bl_77 bl_78 bl_79 (List.mem_append_right _ bx_573) bx_767 (by decide +kernel)
def rmL_willing : Room := { frames := 9 + 1, cells := 1, slots := 6, locals := 8 + (4 + 11) + 141 }
set_option maxRecDepth 100000 in
theorem cL_willing_w (l : Launch) (hl0 : l.stackTraces = false) (D : va_G) (T : cT) (ad : Nat → Nat) (sK sV : Nat → Nat) (xo : Sl) (g : St) (q : Nat) (f : Nat → Int64) (x1 : Int32) (o : (Nat ⊕ Int32) × St) (h : fX_willing x1 g = some o) (hk : ∀ k, o.1 = .inl k → ∃ t, kcd 0 k t) (sz : Nat) : Met l yL_willing wL_willing rmL_willing (va_Pc [.ref (ad 0), .int x1, .ref q] (kPre D T (EL sK sV) ([oL T q f] ++ wW shX T ad xo g) sz)) (va_Qi (lwI 0 o.1) (fun u => kPost D T (va_A ([oL T q f] ++ wW shX T ad xo g) sz) ([oL T q u] ++ wW shX T ad xo o.2)) (va_A ([oL T q f] ++ wW shX T ad xo g) sz)) 1 6 (va_A ([oL T q f] ++ wW shX T ad xo g) sz) := by
  refine q_startH (E := EL sK sV) (Qc := fun A => va_Qi (lwI 0 o.1) (fun u => kPost D T A ([oL T q u] ++ wW shX T ad xo o.2)) A) (y := yL_willing) (av := [.ref (ad 0), .int x1, .ref q]) (maxL := 4) (ws := wL_willing) (cc := cL_willing) (own := RL) (by decide +kernel) rfl rfl (Nat.le_of_ble_eq_true rfl) (lv := [(0, .ref (ad 0)), (1, .int x1), (2, .ref q)]) rfl (fun Γ C hA hE htab => ?_)
  generalize hQ : (MQ Γ.below (va_Qi (lwI 0 o.1) (fun u => kPost D T Γ.A ([oL T q u] ++ wW shX T ad xo o.2)) Γ.A) Γ.args Γ.s 1 6 Γ.A) = Q
  refine q_aload_n C dL_willing_0 rfl 2 rfl ?_
  refine q_iconst (v := (0 : Int32)) C dL_willing_1 (by decide) ?_
  refine q_aload_n C dL_willing_2 rfl 0 rfl ?_
  refine q_iload_n C dL_willing_3 rfl 1 rfl ?_
  refine q_xti (ad := ad) (kc' := 1) (ks' := 6) (rest := [.int 0, .ref q]) (As := [.int x1]) C hA hE.1 (cut_tail (a := [oL T q f])) (fun sz => cX_willing l hl0 D T ad sK sV xo g x1 o h sz) kL_willing ⟨Nat.le_of_ble_eq_true rfl, Nat.le_of_ble_eq_true rfl⟩ ⟨rfl, rfl⟩ ⟨Nat.le_of_ble_eq_true rfl, Nat.le_of_ble_eq_true rfl⟩ ⟨Nat.le_of_ble_eq_true rfl, Nat.le_of_ble_eq_true rfl⟩ rfl rfl (Nat.le_of_ble_eq_true rfl) dL_willing_4 (fun k hk1 => ?_) (fun r hr1 => ?_)
  · subst hQ
    obtain ⟨t9, e9, -⟩ : ∃ t, kcd 0 k t := hk k hk1
    subst e9
    refine q_catch (hpc0 := 12) (name := "java/util/NoSuchElementException") C [] _ [] htab (fun z hz => by cases hz) rfl (by decide) (List.mem_cons_of_mem _ bl_16) hE.1.2.2.2.2.2.2.1 rfl (fun q9 => ?_)
    refine q_astore_n (lv' := ((3, Value.ref q9) :: [(0, .ref (ad 0)), (1, .int x1), (2, .ref q)])) C dL_willing_12 rfl (Nat.le_of_ble_eq_true rfl) rfl ?_
    refine q_iconst (v := (1 : Int32)) C dL_willing_13 (by decide) ?_
    exact q_wret C f (Or.inr ⟨_, hk1, by exact ⟨rfl, rfl⟩⟩) rfl (Nat.le_of_ble_eq_true rfl) (Nat.le_of_ble_eq_true rfl) dL_willing_14
  · refine q_i2l C dL_willing_7 ?_
    refine q_last C rfl rfl dL_willing_8 ?_
    refine q_goto (tgt := 15) C dL_willing_9 (by decide) ?_
    refine q_iconst (v := (0 : Int32)) C dL_willing_15 (by decide) ?_
    subst hQ
    exact q_wret C (vp_updL f 0 r.toInt64) (Or.inl ⟨r, hr1, rfl, by rw [vpU]⟩) rfl (Nat.le_of_ble_eq_true rfl) (Nat.le_of_ble_eq_true rfl) dL_willing_16
def wL_below : List Cond := .codeWith yL_below cL_below 4 (some .int) [(0, 9, 12, 31)] :: BL
theorem kL_below {c0 : Cond} : kV (c0 :: BL) RL RX11 97 yX11_below cX11_below 5 1 (some .int) wX_below := BL_kV bl_80 bl_81 bl_82 (List.mem_append_right _ bx_573) bx_768 (by decide +kernel)
def rmL_below : Room := { frames := 9 + 1, cells := 1, slots := 6, locals := 8 + (5 + 11) + 141 }
set_option maxRecDepth 100000 in
theorem cL_below_w (l : Launch) (hl0 : l.stackTraces = false) (D : va_G) (T : cT) (ad : Nat → Nat) (sK sV : Nat → Nat) (xo : Sl) (g : St) (q : Nat) (f : Nat → Int64) (x1 : Int32) (o : (Nat ⊕ Int32) × St) (h : fX_below x1 g = some o) (hk : ∀ k, o.1 = .inl k → ∃ t, kcd 0 k t) (sz : Nat) : Met l yL_below wL_below rmL_below (va_Pc [.ref (ad 0), .int x1, .ref q] (kPre D T (EL sK sV) ([oL T q f] ++ wW shX T ad xo g) sz)) (va_Qi (lwI 0 o.1) (fun u => kPost D T (va_A ([oL T q f] ++ wW shX T ad xo g) sz) ([oL T q u] ++ wW shX T ad xo o.2)) (va_A ([oL T q f] ++ wW shX T ad xo g) sz)) 1 6 (va_A ([oL T q f] ++ wW shX T ad xo g) sz) := by
  refine q_startH (E := EL sK sV) (Qc := fun A => va_Qi (lwI 0 o.1) (fun u => kPost D T A ([oL T q u] ++ wW shX T ad xo o.2)) A) (y := yL_below) (av := [.ref (ad 0), .int x1, .ref q]) (maxL := 4) (ws := wL_below) (cc := cL_below) (own := RL) (by decide +kernel) rfl rfl (Nat.le_of_ble_eq_true rfl) (lv := [(0, .ref (ad 0)), (1, .int x1), (2, .ref q)]) rfl (fun Γ C hA hE htab => ?_)
  generalize hQ : (MQ Γ.below (va_Qi (lwI 0 o.1) (fun u => kPost D T Γ.A ([oL T q u] ++ wW shX T ad xo o.2)) Γ.A) Γ.args Γ.s 1 6 Γ.A) = Q
  refine q_aload_n C dL_below_0 rfl 2 rfl ?_
  refine q_iconst (v := (0 : Int32)) C dL_below_1 (by decide) ?_
  refine q_aload_n C dL_below_2 rfl 0 rfl ?_
  refine q_iload_n C dL_below_3 rfl 1 rfl ?_
  refine q_xti (ad := ad) (kc' := 1) (ks' := 6) (rest := [.int 0, .ref q]) (As := [.int x1]) C hA hE.1 (cut_tail (a := [oL T q f])) (fun sz => cX_below l hl0 D T ad sK sV xo g x1 o h sz) kL_below ⟨Nat.le_of_ble_eq_true rfl, Nat.le_of_ble_eq_true rfl⟩ ⟨rfl, rfl⟩ ⟨Nat.le_of_ble_eq_true rfl, Nat.le_of_ble_eq_true rfl⟩ ⟨Nat.le_of_ble_eq_true rfl, Nat.le_of_ble_eq_true rfl⟩ rfl rfl (Nat.le_of_ble_eq_true rfl) dL_below_4 (fun k hk1 => ?_) (fun r hr1 => ?_)
  · subst hQ
    obtain ⟨t9, e9, -⟩ : ∃ t, kcd 0 k t := hk k hk1
    subst e9
    refine q_catch (hpc0 := 12) (name := "java/util/NoSuchElementException") C [] _ [] htab (fun z hz => by cases hz) rfl (by decide) (List.mem_cons_of_mem _ bl_16) hE.1.2.2.2.2.2.2.1 rfl (fun q9 => ?_)
    refine q_astore_n (lv' := ((3, Value.ref q9) :: [(0, .ref (ad 0)), (1, .int x1), (2, .ref q)])) C dL_below_12 rfl (Nat.le_of_ble_eq_true rfl) rfl ?_
    refine q_iconst (v := (1 : Int32)) C dL_below_13 (by decide) ?_
    exact q_wret C f (Or.inr ⟨_, hk1, by exact ⟨rfl, rfl⟩⟩) rfl (Nat.le_of_ble_eq_true rfl) (Nat.le_of_ble_eq_true rfl) dL_below_14
  · refine q_i2l C dL_below_7 ?_
    refine q_last C rfl rfl dL_below_8 ?_
    refine q_goto (tgt := 15) C dL_below_9 (by decide) ?_
    refine q_iconst (v := (0 : Int32)) C dL_below_15 (by decide) ?_
    subst hQ
    exact q_wret C (vp_updL f 0 r.toInt64) (Or.inl ⟨r, hr1, rfl, by rw [vpU]⟩) rfl (Nat.le_of_ble_eq_true rfl) (Nat.le_of_ble_eq_true rfl) dL_below_16
def wL_after : List Cond := .codeWith yL_after cL_after 5 (some .int) [(0, 10, 13, 31), (0, 10, 17, 13)] :: BL
theorem kL_after {c0 : Cond} : kV (c0 :: BL) RL RX11 100 yX11_after cX11_after 4 2 (some .int) wX_after := BL_kV bl_83 bl_84 bl_85 (List.mem_append_right _ bx_573) bx_770 (by decide +kernel)
def rmL_after : Room := { frames := 9 + 1, cells := 2, slots := 12, locals := 8 + (4 + 11) + 141 }
set_option maxRecDepth 100000 in
theorem cL_after_w (l : Launch) (hl0 : l.stackTraces = false) (D : va_G) (T : cT) (ad : Nat → Nat) (sK sV : Nat → Nat) (xo : Sl) (g : St) (q : Nat) (f : Nat → Int64) (x1 : Int32) (x2 : Int32) (o : (Nat ⊕ Int32) × St) (h : fX_after x1 x2 g = some o) (hk : ∀ k, o.1 = .inl k → ∃ t, kcd 2 k t) (sz : Nat) : Met l yL_after wL_after rmL_after (va_Pc [.ref (ad 0), .int x1, .int x2, .ref q] (kPre D T (EL sK sV) ([oL T q f] ++ wW shX T ad xo g) sz)) (va_Qi (lwI 2 o.1) (fun u => kPost D T (va_A ([oL T q f] ++ wW shX T ad xo g) sz) ([oL T q u] ++ wW shX T ad xo o.2)) (va_A ([oL T q f] ++ wW shX T ad xo g) sz)) 2 12 (va_A ([oL T q f] ++ wW shX T ad xo g) sz) := by
  refine q_startH (E := EL sK sV) (Qc := fun A => va_Qi (lwI 2 o.1) (fun u => kPost D T A ([oL T q u] ++ wW shX T ad xo o.2)) A) (y := yL_after) (av := [.ref (ad 0), .int x1, .int x2, .ref q]) (maxL := 5) (ws := wL_after) (cc := cL_after) (own := RL) (by decide +kernel) rfl rfl (Nat.le_of_ble_eq_true rfl) (lv := [(0, .ref (ad 0)), (1, .int x1), (2, .int x2), (3, .ref q)]) rfl (fun Γ C hA hE htab => ?_)
  generalize hQ : (MQ Γ.below (va_Qi (lwI 2 o.1) (fun u => kPost D T Γ.A ([oL T q u] ++ wW shX T ad xo o.2)) Γ.A) Γ.args Γ.s 2 12 Γ.A) = Q
  refine q_aload_n C dL_after_0 rfl 3 rfl ?_
  refine q_iconst (v := (0 : Int32)) C dL_after_1 (by decide) ?_
  refine q_aload_n C dL_after_2 rfl 0 rfl ?_
  refine q_iload_n C dL_after_3 rfl 1 rfl ?_
  refine q_iload_n C dL_after_4 rfl 2 rfl ?_
  refine q_xti (ad := ad) (kc' := 2) (ks' := 12) (rest := [.int 0, .ref q]) (As := [.int x1, .int x2]) C hA hE.1 (cut_tail (a := [oL T q f])) (fun sz => cX_after l hl0 D T ad sK sV xo g x1 x2 o h sz) kL_after ⟨Nat.le_of_ble_eq_true rfl, Nat.le_of_ble_eq_true rfl⟩ ⟨rfl, rfl⟩ ⟨Nat.le_of_ble_eq_true rfl, Nat.le_of_ble_eq_true rfl⟩ ⟨Nat.le_of_ble_eq_true rfl, Nat.le_of_ble_eq_true rfl⟩ rfl rfl (Nat.le_of_ble_eq_true rfl) dL_after_5 (fun k hk1 => ?_) (fun r hr1 => ?_)
  · subst hQ
    rcases hk k hk1 with ⟨t9, ⟨e9, -⟩ | ⟨e9, -⟩⟩
    · subst e9
      refine q_catch (hpc0 := 13) (name := "java/util/NoSuchElementException") C [] _ [_] htab (fun z hz => by cases hz) rfl (by decide) (List.mem_cons_of_mem _ bl_16) hE.1.2.2.2.2.2.2.1 rfl (fun q9 => ?_)
      refine q_astore (lv' := ((4, Value.ref q9) :: [(0, .ref (ad 0)), (1, .int x1), (2, .int x2), (3, .ref q)])) C dL_after_13 (Nat.le_of_ble_eq_true rfl) rfl ?_
      refine q_iconst (v := (1 : Int32)) C dL_after_15 (by decide) ?_
      exact q_wret C f (Or.inr ⟨_, hk1, by exact Or.inl ⟨rfl, rfl⟩⟩) rfl (Nat.le_of_ble_eq_true rfl) (Nat.le_of_ble_eq_true rfl) dL_after_16
    · subst e9
      refine q_catch (hpc0 := 17) (name := "java/lang/IllegalArgumentException") C [_] _ [] htab (fun z hz => by obtain rfl := List.mem_singleton.mp hz; exact Or.inr ⟨by decide, "java/util/NoSuchElementException", (List.mem_cons_of_mem _ bl_16), hE.2⟩) rfl (by decide) (List.mem_cons_of_mem _ bl_0) hE.1.2.2.2.2.2.1 rfl (fun q9 => ?_)
      refine q_astore (lv' := ((4, Value.ref q9) :: [(0, .ref (ad 0)), (1, .int x1), (2, .int x2), (3, .ref q)])) C dL_after_17 (Nat.le_of_ble_eq_true rfl) rfl ?_
      refine q_iconst (v := (2 : Int32)) C dL_after_19 (by decide) ?_
      exact q_wret C f (Or.inr ⟨_, hk1, by exact Or.inr ⟨rfl, rfl⟩⟩) rfl (Nat.le_of_ble_eq_true rfl) (Nat.le_of_ble_eq_true rfl) dL_after_20
  · refine q_i2l C dL_after_8 ?_
    refine q_last C rfl rfl dL_after_9 ?_
    refine q_goto (tgt := 21) C dL_after_10 (by decide) ?_
    refine q_iconst (v := (0 : Int32)) C dL_after_21 (by decide) ?_
    subst hQ
    exact q_wret C (vp_updL f 0 r.toInt64) (Or.inl ⟨r, hr1, rfl, by rw [vpU]⟩) rfl (Nat.le_of_ble_eq_true rfl) (Nat.le_of_ble_eq_true rfl) dL_after_22
def wL_latest : List Cond := .codeWith yL_latest cL_latest 4 (some .int) [(0, 9, 12, 13)] :: BL
theorem kL_latest {c0 : Cond} : kV (c0 :: BL) RL RX11 103 yX11_latest cX11_latest 5 1 (some .int) wX_latest := BL_kV bl_86 bl_87 bl_88 (List.mem_append_right _ bx_573) bx_771 (by decide +kernel)
def rmL_latest : Room := { frames := 9 + 1, cells := 1, slots := 6, locals := 8 + (5 + 11) + 141 }
set_option maxRecDepth 100000 in
theorem cL_latest_w (l : Launch) (hl0 : l.stackTraces = false) (D : va_G) (T : cT) (ad : Nat → Nat) (sK sV : Nat → Nat) (xo : Sl) (g : St) (q : Nat) (f : Nat → Int64) (x1 : Int32) (o : (Nat ⊕ Int32) × St) (h : fX_latest x1 g = some o) (hk : ∀ k, o.1 = .inl k → ∃ t, kcd 1 k t) (sz : Nat) : Met l yL_latest wL_latest rmL_latest (va_Pc [.ref (ad 0), .int x1, .ref q] (kPre D T (EL sK sV) ([oL T q f] ++ wW shX T ad xo g) sz)) (va_Qi (lwI 1 o.1) (fun u => kPost D T (va_A ([oL T q f] ++ wW shX T ad xo g) sz) ([oL T q u] ++ wW shX T ad xo o.2)) (va_A ([oL T q f] ++ wW shX T ad xo g) sz)) 1 6 (va_A ([oL T q f] ++ wW shX T ad xo g) sz) := by
  refine q_startH (E := EL sK sV) (Qc := fun A => va_Qi (lwI 1 o.1) (fun u => kPost D T A ([oL T q u] ++ wW shX T ad xo o.2)) A) (y := yL_latest) (av := [.ref (ad 0), .int x1, .ref q]) (maxL := 4) (ws := wL_latest) (cc := cL_latest) (own := RL) (by decide +kernel) rfl rfl (Nat.le_of_ble_eq_true rfl) (lv := [(0, .ref (ad 0)), (1, .int x1), (2, .ref q)]) rfl (fun Γ C hA hE htab => ?_)
  generalize hQ : (MQ Γ.below (va_Qi (lwI 1 o.1) (fun u => kPost D T Γ.A ([oL T q u] ++ wW shX T ad xo o.2)) Γ.A) Γ.args Γ.s 1 6 Γ.A) = Q
  refine q_aload_n C dL_latest_0 rfl 2 rfl ?_
  refine q_iconst (v := (0 : Int32)) C dL_latest_1 (by decide) ?_
  refine q_aload_n C dL_latest_2 rfl 0 rfl ?_
  refine q_iload_n C dL_latest_3 rfl 1 rfl ?_
  refine q_xti (ad := ad) (kc' := 1) (ks' := 6) (rest := [.int 0, .ref q]) (As := [.int x1]) C hA hE.1 (cut_tail (a := [oL T q f])) (fun sz => cX_latest l hl0 D T ad sK sV xo g x1 o h sz) kL_latest ⟨Nat.le_of_ble_eq_true rfl, Nat.le_of_ble_eq_true rfl⟩ ⟨rfl, rfl⟩ ⟨Nat.le_of_ble_eq_true rfl, Nat.le_of_ble_eq_true rfl⟩ ⟨Nat.le_of_ble_eq_true rfl, Nat.le_of_ble_eq_true rfl⟩ rfl rfl (Nat.le_of_ble_eq_true rfl) dL_latest_4 (fun k hk1 => ?_) (fun r hr1 => ?_)
  · subst hQ
    obtain ⟨t9, e9, -⟩ : ∃ t, kcd 1 k t := hk k hk1
    subst e9
    refine q_catch (hpc0 := 12) (name := "java/lang/IllegalArgumentException") C [] _ [] htab (fun z hz => by cases hz) rfl (by decide) (List.mem_cons_of_mem _ bl_0) hE.1.2.2.2.2.2.1 rfl (fun q9 => ?_)
    refine q_astore_n (lv' := ((3, Value.ref q9) :: [(0, .ref (ad 0)), (1, .int x1), (2, .ref q)])) C dL_latest_12 rfl (Nat.le_of_ble_eq_true rfl) rfl ?_
    refine q_iconst (v := (1 : Int32)) C dL_latest_13 (by decide) ?_
    exact q_wret C f (Or.inr ⟨_, hk1, by exact ⟨rfl, rfl⟩⟩) rfl (Nat.le_of_ble_eq_true rfl) (Nat.le_of_ble_eq_true rfl) dL_latest_14
  · refine q_i2l C dL_latest_7 ?_
    refine q_last C rfl rfl dL_latest_8 ?_
    refine q_goto (tgt := 15) C dL_latest_9 (by decide) ?_
    refine q_iconst (v := (0 : Int32)) C dL_latest_15 (by decide) ?_
    subst hQ
    exact q_wret C (vp_updL f 0 r.toInt64) (Or.inl ⟨r, hr1, rfl, by rw [vpU]⟩) rfl (Nat.le_of_ble_eq_true rfl) (Nat.le_of_ble_eq_true rfl) dL_latest_16
def wL_century : List Cond := .codeWith yL_century cL_century 7 (some .int) [(0, 14, 17, 13)] :: BL
theorem kL_century {c0 : Cond} : kV (c0 :: BL) RL RX11 106 yX11_century cX11_century 5 4 (some .int) wX_century := BL_kV bl_89 bl_90 bl_91 (List.mem_append_right _ bx_573) bx_782 (by decide +kernel)
def rmL_century : Room := { frames := 9 + 1, cells := 1, slots := 6, locals := 8 + (5 + 11) + 145 }
set_option maxRecDepth 100000 in
theorem cL_century_w (l : Launch) (hl0 : l.stackTraces = false) (D : va_G) (T : cT) (ad : Nat → Nat) (sK sV : Nat → Nat) (xo : Sl) (g : St) (q : Nat) (f : Nat → Int64) (x1 : Int32) (x2 : Int32) (x3 : Int32) (x4 : Int32) (o : (Nat ⊕ Int32) × St) (h : fX_century x1 x2 x3 x4 g = some o) (hk : ∀ k, o.1 = .inl k → ∃ t, kcd 1 k t) (sz : Nat) : Met l yL_century wL_century rmL_century (va_Pc [.ref (ad 0), .int x1, .int x2, .int x3, .int x4, .ref q] (kPre D T (EL sK sV) ([oL T q f] ++ wW shX T ad xo g) sz)) (va_Qi (lwI 1 o.1) (fun u => kPost D T (va_A ([oL T q f] ++ wW shX T ad xo g) sz) ([oL T q u] ++ wW shX T ad xo o.2)) (va_A ([oL T q f] ++ wW shX T ad xo g) sz)) 1 6 (va_A ([oL T q f] ++ wW shX T ad xo g) sz) := by
  refine q_startH (E := EL sK sV) (Qc := fun A => va_Qi (lwI 1 o.1) (fun u => kPost D T A ([oL T q u] ++ wW shX T ad xo o.2)) A) (y := yL_century) (av := [.ref (ad 0), .int x1, .int x2, .int x3, .int x4, .ref q]) (maxL := 7) (ws := wL_century) (cc := cL_century) (own := RL) (by decide +kernel) rfl rfl (Nat.le_of_ble_eq_true rfl) (lv := [(0, .ref (ad 0)), (1, .int x1), (2, .int x2), (3, .int x3), (4, .int x4), (5, .ref q)]) rfl (fun Γ C hA hE htab => ?_)
  generalize hQ : (MQ Γ.below (va_Qi (lwI 1 o.1) (fun u => kPost D T Γ.A ([oL T q u] ++ wW shX T ad xo o.2)) Γ.A) Γ.args Γ.s 1 6 Γ.A) = Q
  refine q_aload C dL_century_0 5 rfl ?_
  refine q_iconst (v := (0 : Int32)) C dL_century_2 (by decide) ?_
  refine q_aload_n C dL_century_3 rfl 0 rfl ?_
  refine q_iload_n C dL_century_4 rfl 1 rfl ?_
  refine q_iload_n C dL_century_5 rfl 2 rfl ?_
  refine q_iload_n C dL_century_6 rfl 3 rfl ?_
  refine q_iload C dL_century_7 4 rfl ?_
  refine q_xti (ad := ad) (kc' := 1) (ks' := 6) (rest := [.int 0, .ref q]) (As := [.int x1, .int x2, .int x3, .int x4]) C hA hE.1 (cut_tail (a := [oL T q f])) (fun sz => cX_century l hl0 D T ad sK sV xo g x1 x2 x3 x4 o h sz) kL_century ⟨Nat.le_of_ble_eq_true rfl, Nat.le_of_ble_eq_true rfl⟩ ⟨rfl, rfl⟩ ⟨Nat.le_of_ble_eq_true rfl, Nat.le_of_ble_eq_true rfl⟩ ⟨Nat.le_of_ble_eq_true rfl, Nat.le_of_ble_eq_true rfl⟩ rfl rfl (Nat.le_of_ble_eq_true rfl) dL_century_9 (fun k hk1 => ?_) (fun r hr1 => ?_)
  · subst hQ
    obtain ⟨t9, e9, -⟩ : ∃ t, kcd 1 k t := hk k hk1
    subst e9
    refine q_catch (hpc0 := 17) (name := "java/lang/IllegalArgumentException") C [] _ [] htab (fun z hz => by cases hz) rfl (by decide) (List.mem_cons_of_mem _ bl_0) hE.1.2.2.2.2.2.1 rfl (fun q9 => ?_)
    refine q_astore (lv' := ((6, Value.ref q9) :: [(0, .ref (ad 0)), (1, .int x1), (2, .int x2), (3, .int x3), (4, .int x4), (5, .ref q)])) C dL_century_17 (Nat.le_of_ble_eq_true rfl) rfl ?_
    refine q_iconst (v := (1 : Int32)) C dL_century_19 (by decide) ?_
    exact q_wret C f (Or.inr ⟨_, hk1, by exact ⟨rfl, rfl⟩⟩) rfl (Nat.le_of_ble_eq_true rfl) (Nat.le_of_ble_eq_true rfl) dL_century_20
  · refine q_i2l C dL_century_12 ?_
    refine q_last C rfl rfl dL_century_13 ?_
    refine q_goto (tgt := 21) C dL_century_14 (by decide) ?_
    refine q_iconst (v := (0 : Int32)) C dL_century_21 (by decide) ?_
    subst hQ
    exact q_wret C (vp_updL f 0 r.toInt64) (Or.inl ⟨r, hr1, rfl, by rw [vpU]⟩) rfl (Nat.le_of_ble_eq_true rfl) (Nat.le_of_ble_eq_true rfl) dL_century_22
def wL_span : List Cond := .codeWith yL_span cL_span 9 (some .int) [(0, 18, 21, 13)] :: BL
theorem kL_span {c0 : Cond} : kV (c0 :: BL) RL RX11 110 yX11_span cX11_span 12 6 (some .int) wX_span := BL_kV bl_92 bl_93 bl_94 (List.mem_append_right _ bx_573) bx_784 (by decide +kernel)
def rmL_span : Room := { frames := 9 + 1, cells := 2, slots := 12, locals := 8 + (12 + 11) + 145 }
set_option maxRecDepth 100000 in
theorem cL_span_w (l : Launch) (hl0 : l.stackTraces = false) (D : va_G) (T : cT) (ad : Nat → Nat) (sK sV : Nat → Nat) (xo : Sl) (g : St) (q : Nat) (f : Nat → Int64) (x1 : Int32) (x2 : Int32) (x3 : Int32) (x4 : Int32) (x5 : Int32) (x6 : Int32) (o : (Nat ⊕ Int32) × St) (h : fX_span x1 x2 x3 x4 x5 x6 g = some o) (hk : ∀ k, o.1 = .inl k → ∃ t, kcd 1 k t) (sz : Nat) : Met l yL_span wL_span rmL_span (va_Pc [.ref (ad 0), .int x1, .int x2, .int x3, .int x4, .int x5, .int x6, .ref q] (kPre D T (EL sK sV) ([oL T q f] ++ wW shX T ad xo g) sz)) (va_Qi (lwI 1 o.1) (fun u => kPost D T (va_A ([oL T q f] ++ wW shX T ad xo g) sz) ([oL T q u] ++ wW shX T ad xo o.2)) (va_A ([oL T q f] ++ wW shX T ad xo g) sz)) 2 12 (va_A ([oL T q f] ++ wW shX T ad xo g) sz) := by
  refine q_startH (E := EL sK sV) (Qc := fun A => va_Qi (lwI 1 o.1) (fun u => kPost D T A ([oL T q u] ++ wW shX T ad xo o.2)) A) (y := yL_span) (av := [.ref (ad 0), .int x1, .int x2, .int x3, .int x4, .int x5, .int x6, .ref q]) (maxL := 9) (ws := wL_span) (cc := cL_span) (own := RL) (by decide +kernel) rfl rfl (Nat.le_of_ble_eq_true rfl) (lv := [(0, .ref (ad 0)), (1, .int x1), (2, .int x2), (3, .int x3), (4, .int x4), (5, .int x5), (6, .int x6), (7, .ref q)]) rfl (fun Γ C hA hE htab => ?_)
  generalize hQ : (MQ Γ.below (va_Qi (lwI 1 o.1) (fun u => kPost D T Γ.A ([oL T q u] ++ wW shX T ad xo o.2)) Γ.A) Γ.args Γ.s 2 12 Γ.A) = Q
  refine q_aload C dL_span_0 7 rfl ?_
  refine q_iconst (v := (0 : Int32)) C dL_span_2 (by decide) ?_
  refine q_aload_n C dL_span_3 rfl 0 rfl ?_
  refine q_iload_n C dL_span_4 rfl 1 rfl ?_
  refine q_iload_n C dL_span_5 rfl 2 rfl ?_
  refine q_iload_n C dL_span_6 rfl 3 rfl ?_
  refine q_iload C dL_span_7 4 rfl ?_
  refine q_iload C dL_span_9 5 rfl ?_
  refine q_iload C dL_span_11 6 rfl ?_
  refine q_xti (ad := ad) (kc' := 2) (ks' := 12) (rest := [.int 0, .ref q]) (As := [.int x1, .int x2, .int x3, .int x4, .int x5, .int x6]) C hA hE.1 (cut_tail (a := [oL T q f])) (fun sz => cX_span l hl0 D T ad sK sV xo g x1 x2 x3 x4 x5 x6 o h sz) kL_span ⟨Nat.le_of_ble_eq_true rfl, Nat.le_of_ble_eq_true rfl⟩ ⟨rfl, rfl⟩ ⟨Nat.le_of_ble_eq_true rfl, Nat.le_of_ble_eq_true rfl⟩ ⟨Nat.le_of_ble_eq_true rfl, Nat.le_of_ble_eq_true rfl⟩ rfl rfl (Nat.le_of_ble_eq_true rfl) dL_span_13 (fun k hk1 => ?_) (fun r hr1 => ?_)
  · subst hQ
    obtain ⟨t9, e9, -⟩ : ∃ t, kcd 1 k t := hk k hk1
    subst e9
    refine q_catch (hpc0 := 21) (name := "java/lang/IllegalArgumentException") C [] _ [] htab (fun z hz => by cases hz) rfl (by decide) (List.mem_cons_of_mem _ bl_0) hE.1.2.2.2.2.2.1 rfl (fun q9 => ?_)
    refine q_astore (lv' := ((8, Value.ref q9) :: [(0, .ref (ad 0)), (1, .int x1), (2, .int x2), (3, .int x3), (4, .int x4), (5, .int x5), (6, .int x6), (7, .ref q)])) C dL_span_21 (Nat.le_of_ble_eq_true rfl) rfl ?_
    refine q_iconst (v := (1 : Int32)) C dL_span_23 (by decide) ?_
    exact q_wret C f (Or.inr ⟨_, hk1, by exact ⟨rfl, rfl⟩⟩) rfl (Nat.le_of_ble_eq_true rfl) (Nat.le_of_ble_eq_true rfl) dL_span_24
  · refine q_i2l C dL_span_16 ?_
    refine q_last C rfl rfl dL_span_17 ?_
    refine q_goto (tgt := 25) C dL_span_18 (by decide) ?_
    refine q_iconst (v := (0 : Int32)) C dL_span_25 (by decide) ?_
    subst hQ
    exact q_wret C (vp_updL f 0 r.toInt64) (Or.inl ⟨r, hr1, rfl, by rw [vpU]⟩) rfl (Nat.le_of_ble_eq_true rfl) (Nat.le_of_ble_eq_true rfl) dL_span_26
