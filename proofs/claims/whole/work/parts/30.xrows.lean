/-! the class's side: its string constants, the statics that a throw reads -/
def strT : List (String × Nat × String × List Int32) := [("BorrowedStones$Land", 51, "person", [112, 101, 114, 115, 111, 110]), ("BorrowedStones$Land", 57, "friend", [102, 114, 105, 101, 110, 100]), ("BorrowedStones$Land", 59, "most", [109, 111, 115, 116]), ("BorrowedStones$LawReader", 81, "least", [108, 101, 97, 115, 116]), ("BorrowedStones$LawReader", 90, "most", [109, 111, 115, 116]), ("BorrowedStones$LawReader", 105, "kind", [107, 105, 110, 100]), ("BorrowedStones$LawReader", 107, "debts", [100, 101, 98, 116, 115]), ("BorrowedStones$LawReader", 109, "stones", [115, 116, 111, 110, 101, 115]), ("BorrowedStones$LawReader", 111, "friend", [102, 114, 105, 101, 110, 100]), ("BorrowedStones$LawReader", 113, "owed", [111, 119, 101, 100]), ("BorrowedStones$LawReader", 115, "dead", [100, 101, 97, 100]), ("BorrowedStones$LawReader", 117, "year", [121, 101, 97, 114]), ("BorrowedStones$LawReader", 119, "person", [112, 101, 114, 115, 111, 110]), ("BorrowedStones$Steps", 68, "again", [97, 103, 97, 105, 110]), ("BorrowedStones$Steps", 78, "die", [100, 105, 101]), ("BorrowedStones$Steps", 88, "lend", [108, 101, 110, 100]), ("BorrowedStones$Steps", 90, "pay", [112, 97, 121]), ("BorrowedStones$Steps", 92, "owe", [111, 119, 101]), ("BorrowedStones$Steps", 94, "year", [121, 101, 97, 114])]
def nStr : Nat := 19
def strB (i : Nat) : List Int32 := match strT[i]? with
  | some q => q.2.2.2
  | none => []
/-- the strings' cells (by their places in strT), and what the throws want of Throwable's statics; none of it is the method's own -/
def evX (sK sV : Nat → Nat) (A : Nat → Prop) (U : State) (H : Heap) : Prop :=
  vx_Zq Bundle.tN "UNASSIGNED_STACK" Bundle.steD A U H ∧ vx_Zq Bundle.tN "SUPPRESSED_SENTINEL" Bundle.listD A U H ∧ va_Z "java/lang/String" "COMPACT_STRINGS" "Z" (.int 1) A U H ∧
  (∀ i : Nat, i < nStr → va_O "java/lang/String" (sK i) A U H ∧ va_OF "java/lang/String" "coder" "B" (.int 0) (sK i) A U H ∧ va_OF "java/lang/String" "value" "[B" (.ref (sV i)) (sK i) A U H ∧ va_T .byte (sV i) (strB i).length (fun j => .int ((strB i).getD j 0)) A U H) ∧
  (∀ (i : Nat) (q : String × Nat × String × List Int32), strT[i]? = some q → vk_R q.1 q.2.1 q.2.2.1 (sK i) U) ∧
  va_Nw (.castable "java/lang/IllegalArgumentException" "java/lang/IllegalArgumentException") U ∧ va_Nw (.castable "java/util/NoSuchElementException" "java/util/NoSuchElementException") U ∧
  va_Nw (.declares (Bundle.init0 "java/lang/RuntimeException")) U ∧ va_Nw (.declares (Bundle.init0 "java/lang/Exception")) U ∧ va_Nw (.declares (Bundle.init0 Bundle.tN)) U ∧ va_Zq "jdk/internal/util/Preconditions" "SIOOBE_FORMATTER" "Ljava/util/function/BiFunction;" A U H
theorem vk_R.alike {own tx : String} {k a : Nat} {u U : State} (hW : u.WarmedH U.vm) (h : vk_R own k tx a u) : vk_R own k tx a U := vk_R.warm hW h
theorem evX.kept {sK sV : Nat → Nat} {A : Nat → Prop} {U : State} {H H1 : Heap} (h : evX sK sV A U H) (hq : ∀ a : Nat, a < H.size → ¬ A a → H1[a]? = H[a]?) : evX sK sV A U H1 :=
  ⟨h.1.kept hq, h.2.1.kept hq, h.2.2.1.kept hq, fun i hi => ⟨(h.2.2.2.1 i hi).1.kept hq, (h.2.2.2.1 i hi).2.1.kept hq, (h.2.2.2.1 i hi).2.2.1.kept hq, (h.2.2.2.1 i hi).2.2.2.kept hq⟩, h.2.2.2.2.1, h.2.2.2.2.2.1, h.2.2.2.2.2.2.1, h.2.2.2.2.2.2.2.1, h.2.2.2.2.2.2.2.2.1, h.2.2.2.2.2.2.2.2.2.1, va_Zq.kept h.2.2.2.2.2.2.2.2.2.2 hq⟩
theorem evX.narrow {sK sV : Nat → Nat} {A B : Nat → Prop} {U : State} {H : Heap} (h : evX sK sV A U H) (hAB : ∀ q, B q → A q) : evX sK sV B U H :=
  ⟨h.1.narrow hAB, h.2.1.narrow hAB, h.2.2.1.narrow hAB, fun i hi => ⟨(h.2.2.2.1 i hi).1.narrow hAB, (h.2.2.2.1 i hi).2.1.narrow hAB, (h.2.2.2.1 i hi).2.2.1.narrow hAB, (h.2.2.2.1 i hi).2.2.2.narrow hAB⟩, h.2.2.2.2.1, h.2.2.2.2.2.1, h.2.2.2.2.2.2.1, h.2.2.2.2.2.2.2.1, h.2.2.2.2.2.2.2.2.1, h.2.2.2.2.2.2.2.2.2.1, va_Zq.narrow h.2.2.2.2.2.2.2.2.2.2 hAB⟩
theorem evX.moved {sK sV : Nat → Nat} {A : Nat → Prop} {u U : State} {H : Heap} (hW : u.WarmedH U.vm) (h : evX sK sV A u H) : evX sK sV A U H :=
  ⟨h.1.moved hW.alike, h.2.1.moved hW.alike, h.2.2.1.moved hW.alike, fun i hi => ⟨va_O.moved hW.alike (h.2.2.2.1 i hi).1, va_OF.moved hW.alike (h.2.2.2.1 i hi).2.1, va_OF.moved hW.alike (h.2.2.2.1 i hi).2.2.1, va_T.moved hW.alike (h.2.2.2.1 i hi).2.2.2⟩, fun i q hq => vk_R.warm hW (h.2.2.2.2.1 i q hq), va_Nw.warmC hW h.2.2.2.2.2.1, va_Nw.warmC hW h.2.2.2.2.2.2.1, va_Nw.warmD hW h.2.2.2.2.2.2.2.1, va_Nw.warmD hW h.2.2.2.2.2.2.2.2.1, va_Nw.warmD hW h.2.2.2.2.2.2.2.2.2.1, va_Zq.moved hW.alike h.2.2.2.2.2.2.2.2.2.2⟩
theorem evX.same {sK sV : Nat → Nat} {A : Nat → Prop} {u U : State} {H : Heap} (hv : U.vm = u.vm) (h : evX sK sV A u H) : evX sK sV A U H :=
  ⟨h.1.moved (by rw [hv]; exact Vm.Alike.refl _), h.2.1.moved (by rw [hv]; exact Vm.Alike.refl _), h.2.2.1.moved (by rw [hv]; exact Vm.Alike.refl _), fun i hi => ⟨va_O.moved (by rw [hv]; exact Vm.Alike.refl _) (h.2.2.2.1 i hi).1, va_OF.moved (by rw [hv]; exact Vm.Alike.refl _) (h.2.2.2.1 i hi).2.1, va_OF.moved (by rw [hv]; exact Vm.Alike.refl _) (h.2.2.2.1 i hi).2.2.1, va_T.moved (by rw [hv]; exact Vm.Alike.refl _) (h.2.2.2.1 i hi).2.2.2⟩, fun i q hq => vk_R.same hv (h.2.2.2.2.1 i q hq), va_Nw.same rfl hv.symm h.2.2.2.2.2.1, va_Nw.same rfl hv.symm h.2.2.2.2.2.2.1, va_Nw.same rfl hv.symm h.2.2.2.2.2.2.2.1, va_Nw.same rfl hv.symm h.2.2.2.2.2.2.2.2.1, va_Nw.same rfl hv.symm h.2.2.2.2.2.2.2.2.2.1, va_Zq.moved (by rw [hv]; exact Vm.Alike.refl _) h.2.2.2.2.2.2.2.2.2.2⟩
def xPre (h : Sh) (D : va_G) (T : cT) (ad : Nat → Nat) (sK sV : Nat → Nat) (x : Sl) (g : St) (sz : Nat) : State → Prop := fun U => wPre h D T ad x g sz U ∧ evX sK sV (aW h T ad x g sz) U U.heap
theorem xPre_blind {h : Sh} {D : va_G} {T : cT} {ad : Nat → Nat} {sK sV : Nat → Nat} {x : Sl} {g : St} {sz : Nat} {av : List Value} : FrameBlind (va_Pc av (xPre h D T ad sK sV x g sz)) := fun a U f mk q => by
  obtain ⟨q0, ⟨q1, qP, qK, qD⟩, qE⟩ := q
  exact ⟨q0, ⟨q1, qP, va_K.moved (u := U) (U := U.calling f mk a) (Vm.Alike.refl U.vm) qK, qD⟩, evX.same (u := U) (U := U.calling f mk a) rfl qE⟩
/-- what a walk of the class's side stands on -/
def Cy (D : va_G) (T : cT) (sK sV : Nat → Nat) (cc : ByteArray) (nL : Nat) (Ts : List Cond) (own : String) (ret : Option FieldType) (Γ : Cxt) : Prop :=
  Cx D T cc nL Ts own ret Γ ∧ evX sK sV Γ.A Γ.s Γ.s.heap
/-- and of a method that throws -/
def Ct (l : Launch) (D : va_G) (T : cT) (sK sV : Nat → Nat) (cc : ByteArray) (nL : Nat) (Ts : List Cond) (own : String) (ret : Option FieldType) (Γ : Cxt) : Prop :=
  Cy D T sK sV cc nL Ts own ret Γ ∧ (∀ z ∈ Γ.c.exceptionTable.toList, False) ∧ l.stackTraces = false
section XROWS
variable {l : Launch} {h : Sh} {D : va_G} {T : cT} {ad : Nat → Nat} {sK sV : Nat → Nat} {nL : Nat} {R : Room} {kc ks : Nat} {Γ : Cxt} {Q : State → Prop} {x : Sl} {g : St} {pc : Nat} {lv lv' : List (Nat × Value)} {rest : List Value} {cc : ByteArray} {Ts : List Cond} {own : String} {ret : Option FieldType}
theorem g_mmin (C : Cx D T cc nL Ts own ret Γ) {index : Nat} {u v : Int32} (h1 : Cond.methodLink own index Lib.Math.min.name ∈ Ts) (h2 : Cond.static Lib.Math.min.name ∈ Ts) (h3 : Cond.initialized "java/lang/Math" ∈ Ts) (h4 : Cond.code Lib.Math.min.name Lib.Math.min.code 2 (some .int) ∈ Ts) (hf : 1 ≤ R.frames) (hlo : (rest.map fun v => v.category).sum + 13 ≤ R.locals) (hcs : kc ≤ R.cells ∧ ks ≤ R.slots) (hdg : decode cc pc = .ok (.invokestatic index, 3)) (K : Gj l h D T ad nL R kc ks Γ Q x g (pc + 3) lv (.int (if v < u then v else u) :: rest)) : Gj l h D T ad nL R kc ks Γ Q x g pc lv (.int v :: .int u :: rest) := fun H locs ls hw hl => va_mmin C.1.1 C.1.2.1 (by rw [hl.1]; exact C.1.2.2.1) C.1.2.2.2.1 (C.1.2.2.2.2 _ h1) (C.1.2.2.2.2 _ h2) (C.1.2.2.2.2 _ h3) (C.1.2.2.2.2 _ h4) hf hlo hcs.1 hcs.2 hdg (K H locs ls hw hl)
theorem g_mmax (C : Cx D T cc nL Ts own ret Γ) {index : Nat} {u v : Int32} (h1 : Cond.methodLink own index Lib.Math.max.name ∈ Ts) (h2 : Cond.static Lib.Math.max.name ∈ Ts) (h3 : Cond.initialized "java/lang/Math" ∈ Ts) (h4 : Cond.code Lib.Math.max.name Lib.Math.max.code 2 (some .int) ∈ Ts) (hf : 1 ≤ R.frames) (hlo : (rest.map fun v => v.category).sum + 13 ≤ R.locals) (hcs : kc ≤ R.cells ∧ ks ≤ R.slots) (hdg : decode cc pc = .ok (.invokestatic index, 3)) (K : Gj l h D T ad nL R kc ks Γ Q x g (pc + 3) lv (.int (if u < v then v else u) :: rest)) : Gj l h D T ad nL R kc ks Γ Q x g pc lv (.int v :: .int u :: rest) := fun H locs ls hw hl => va_mmax C.1.1 C.1.2.1 (by rw [hl.1]; exact C.1.2.2.1) C.1.2.2.2.1 (C.1.2.2.2.2 _ h1) (C.1.2.2.2.2 _ h2) (C.1.2.2.2.2 _ h3) (C.1.2.2.2.2 _ h4) hf hlo hcs.1 hcs.2 hdg (K H locs ls hw hl)
theorem g_ldcS (C : Cy D T sK sV cc nL Ts own ret Γ) {index : Nat} {q : String × Nat × String × List Int32} (i : Nat) (hq : strT[i]? = some q) (ho : q.1 = own) (hi : q.2.1 = index) (hdg : decode cc pc = .ok (.ldc index, 2)) (K : Gj l h D T ad nL R kc ks Γ Q x g (pc + 2) lv (.ref (sK i) :: rest)) : Gj l h D T ad nL R kc ks Γ Q x g pc lv (rest) := fun H locs ls hw hl => by subst ho; subst hi; exact va_ldcS C.1.1.1 C.1.1.2.1 C.1.1.2.2.2.1 (C.2.2.2.2.2.1 i q hq) hdg (K H locs ls hw hl)
theorem g_land64 (C : Cx D T cc nL Ts own ret Γ) {u v : Int64} (hdg : decode cc pc = .ok (.land, 1)) (K : Gj l h D T ad nL R kc ks Γ Q x g (pc + 1) lv (.long (u &&& v) :: rest)) : Gj l h D T ad nL R kc ks Γ Q x g pc lv (.long v :: .long u :: rest) := g_land C hdg K
theorem mW.ev (hE : evX sK sV Γ.A Γ.s Γ.s.heap) {H : Heap} {locs : List Loc} (hw : mW h D T ad Γ.A Γ.s x g H locs) {U : State} (hU : U.heap = H) (hW : Γ.s.WarmedH U.vm) : evX sK sV (aW h T ad x g H.size) U U.heap := by
  rw [hU]
  refine evX.moved hW ((hE.kept hw.2.2.1.2.1).narrow (fun q hq => ?_))
  rcases hq with ⟨k9, e9, h9⟩ | hq
  · exact hw.2.1.2 k9 _ h9
  · exact hw.2.2.2 q (Nat.le_trans hw.2.2.1.1 hq)
theorem g_xVi (C : Cy D T sK sV cc nL Ts own ret Γ) {y : MethodName} {ws : List Cond} {rm : Room} {cy : ByteArray} {maxL n idx : Nat} {ret0 : Option FieldType} {As : List Value} {ro : Int32} {go : St} {xo : Sl} {k ci N0 : Nat} {C0 : String} {T0 : u_T} 
    (hM : ∀ sz : Nat, Met l y ws rm (va_Pc (.ref (ad k) :: As) (xPre h D T ad sK sV x g sz)) (va_Qi (eqI ro go xo) (wPost h D T ad (aW h T ad x g sz)) (aW h T ad x g sz)) 0 0 (aW h T ad x g sz))
    (hk0 : kV Ts own C0 idx y cy maxL n ret0 ws) (hR : rm.frames + 1 ≤ R.frames ∧ 8 + (maxL + 11) + rm.locals ≤ R.locals) (hrm : rm.cells = 0 ∧ rm.slots = 0) (hcs : kc ≤ R.cells ∧ ks ≤ R.slots) (hc : vwCl[ci]? = some (C0, T0, N0)) (hk : k < h.1 ∧ h.2.1 k = 3 ∧ h.2.2.1 k = ci) (hn : As.length = n) {stk : List Value} (hstk : stk = As.reverse ++ .ref (ad k) :: rest) (hcat : (rest.map fun v => v.category).sum ≤ 8) (hdg : decode cc pc = .ok (.invokevirtual idx, 3))
    (K : Gj l h D T ad nL R kc ks Γ Q xo go (pc + 3) lv (.int ro :: rest)) : Gj l h D T ad nL R kc ks Γ Q x g pc lv (stk) := by
  obtain ⟨hG, ⟨ws', hws⟩, hd⟩ := hk0
  subst hstk
  intro H locs ls hw hl
  obtain ⟨hP, hD, hS, hA⟩ := id hw
  have hFc : ∀ q, aW h T ad x g H.size q → Γ.A q := fun q hq => by
    rcases hq with ⟨k9, e9, h9⟩ | hq
    · exact hD.2 k9 _ h9
    · exact hA q (Nat.le_trans hS.1 hq)
  have hpc : ∀ U : State, U.heap = H → Γ.s.WarmedH U.vm → va_Pc (.ref (ad k) :: As) (xPre h D T ad sK sV x g H.size) (Value.ref (ad k) :: As).toArray U := fun U hU hW => ⟨rfl, ⟨by rw [hU], by rw [hU]; exact hP, va_K.moved hW.alike C.1.2.1, hD.weaken (fun _ _ _ _ => trivial)⟩, mW.ev C.2 hw hU hW⟩
  refine va_calli (va_runV (nL := nL) (Ts := Ts) (own := own) (mc := 0) (ms := 0) (As := As) (rest := rest) C.1.1 (hM H.size) (cwV n C.1.1.2.2.2.2 hG hws hrm.1 hrm.2 hd hR) ⟨xPre_blind, va_recv C.1.2.1 hw.1 hc (celW_obj hk), hpc⟩ rfl hn hl.1 rfl (lv_room hcat) hdg hcs) hS (fun q _ hq => hFc q hq) hFc (fun r u t H1 locs1 ht hvm hp hB hz1 hk1 hS1 => ?_)
  obtain ⟨hP1, hK1, hD1⟩ := hB
  rw [ht] at hP1
  obtain ⟨rfl, rfl⟩ := hp
  exact K H1 locs1 ls ⟨hP1, hD1.weaken (fun _ _ _ hq => hFc _ hq), hS1, hA⟩ hl
theorem g_xSi (C : Cy D T sK sV cc nL Ts own ret Γ) {y : MethodName} {ws : List Cond} {rm : Room} {cy : ByteArray} {maxL n idx : Nat} {ret0 : Option FieldType} {As : List Value} {ro : Int32} {go : St} {xo : Sl} 
    (hM : ∀ sz : Nat, Met l y ws rm (va_Pc As (xPre h D T ad sK sV x g sz)) (va_Qi (eqI ro go xo) (wPost h D T ad (aW h T ad x g sz)) (aW h T ad x g sz)) 0 0 (aW h T ad x g sz))
    (hk0 : kS Ts own idx y cy maxL n ret0 ws) (hR : rm.frames + 1 ≤ R.frames ∧ 8 + (maxL + 11) + rm.locals ≤ R.locals) (hrm : rm.cells = 0 ∧ rm.slots = 0) (hcs : kc ≤ R.cells ∧ ks ≤ R.slots) (hn : As.length = n) {stk : List Value} (hstk : stk = As.reverse ++ rest) (hcat : (rest.map fun v => v.category).sum ≤ 8) (hdg : decode cc pc = .ok (.invokestatic idx, 3))
    (K : Gj l h D T ad nL R kc ks Γ Q xo go (pc + 3) lv (.int ro :: rest)) : Gj l h D T ad nL R kc ks Γ Q x g pc lv (stk) := by
  obtain ⟨hG, ⟨ws', hws⟩, hd⟩ := hk0
  subst hstk
  intro H locs ls hw hl
  obtain ⟨hP, hD, hS, hA⟩ := id hw
  have hFc : ∀ q, aW h T ad x g H.size q → Γ.A q := fun q hq => by
    rcases hq with ⟨k9, e9, h9⟩ | hq
    · exact hD.2 k9 _ h9
    · exact hA q (Nat.le_trans hS.1 hq)
  have hpc : ∀ U : State, U.heap = H → Γ.s.WarmedH U.vm → va_Pc As (xPre h D T ad sK sV x g H.size) As.toArray U := fun U hU hW => ⟨rfl, ⟨by rw [hU], by rw [hU]; exact hP, va_K.moved hW.alike C.1.2.1, hD.weaken (fun _ _ _ _ => trivial)⟩, mW.ev C.2 hw hU hW⟩
  refine va_calli (va_runS (nL := nL) (Ts := Ts) (own := own) (mc := 0) (ms := 0) (As := As) (rest := rest) C.1.1 (hM H.size) (va_cwS n C.1.1.2.2.2.2 hG hws hrm.1 hrm.2 hd hR) ⟨xPre_blind, hpc⟩ rfl hn hl.1 rfl (lv_room hcat) hdg hcs) hS (fun q _ hq => hFc q hq) hFc (fun r u t H1 locs1 ht hvm hp hB hz1 hk1 hS1 => ?_)
  obtain ⟨hP1, hK1, hD1⟩ := hB
  rw [ht] at hP1
  obtain ⟨rfl, rfl⟩ := hp
  exact K H1 locs1 ls ⟨hP1, hD1.weaken (fun _ _ _ hq => hFc _ hq), hS1, hA⟩ hl
theorem g_xVz (C : Cy D T sK sV cc nL Ts own ret Γ) {y : MethodName} {ws : List Cond} {rm : Room} {cy : ByteArray} {maxL n idx : Nat} {ret0 : Option FieldType} {As : List Value} {ro : Int32} {go : St} {xo : Sl} {k ci N0 : Nat} {C0 : String} {T0 : u_T} 
    (hM : ∀ sz : Nat, Met l y ws rm (va_Pc (.ref (ad k) :: As) (xPre h D T ad sK sV x g sz)) (va_Qi (eqZ ro go xo) (wPost h D T ad (aW h T ad x g sz)) (aW h T ad x g sz)) 0 0 (aW h T ad x g sz))
    (hk0 : kV Ts own C0 idx y cy maxL n ret0 ws) (hR : rm.frames + 1 ≤ R.frames ∧ 8 + (maxL + 11) + rm.locals ≤ R.locals) (hrm : rm.cells = 0 ∧ rm.slots = 0) (hcs : kc ≤ R.cells ∧ ks ≤ R.slots) (hc : vwCl[ci]? = some (C0, T0, N0)) (hk : k < h.1 ∧ h.2.1 k = 3 ∧ h.2.2.1 k = ci) (hn : As.length = n) {stk : List Value} (hstk : stk = As.reverse ++ .ref (ad k) :: rest) (hcat : (rest.map fun v => v.category).sum ≤ 8) (hdg : decode cc pc = .ok (.invokevirtual idx, 3))
    (K : narrow .boolean (.int ro) = .int ro → Gj l h D T ad nL R kc ks Γ Q xo go (pc + 3) lv (.int ro :: rest)) : Gj l h D T ad nL R kc ks Γ Q x g pc lv (stk) := by
  obtain ⟨hG, ⟨ws', hws⟩, hd⟩ := hk0
  subst hstk
  intro H locs ls hw hl
  obtain ⟨hP, hD, hS, hA⟩ := id hw
  have hFc : ∀ q, aW h T ad x g H.size q → Γ.A q := fun q hq => by
    rcases hq with ⟨k9, e9, h9⟩ | hq
    · exact hD.2 k9 _ h9
    · exact hA q (Nat.le_trans hS.1 hq)
  have hpc : ∀ U : State, U.heap = H → Γ.s.WarmedH U.vm → va_Pc (.ref (ad k) :: As) (xPre h D T ad sK sV x g H.size) (Value.ref (ad k) :: As).toArray U := fun U hU hW => ⟨rfl, ⟨by rw [hU], by rw [hU]; exact hP, va_K.moved hW.alike C.1.2.1, hD.weaken (fun _ _ _ _ => trivial)⟩, mW.ev C.2 hw hU hW⟩
  refine va_calli (va_runV (nL := nL) (Ts := Ts) (own := own) (mc := 0) (ms := 0) (As := As) (rest := rest) C.1.1 (hM H.size) (cwV n C.1.1.2.2.2.2 hG hws hrm.1 hrm.2 hd hR) ⟨xPre_blind, va_recv C.1.2.1 hw.1 hc (celW_obj hk), hpc⟩ rfl hn hl.1 rfl (lv_room hcat) hdg hcs) hS (fun q _ hq => hFc q hq) hFc (fun r u t H1 locs1 ht hvm hp hB hz1 hk1 hS1 => ?_)
  obtain ⟨hP1, hK1, hD1⟩ := hB
  rw [ht] at hP1
  obtain ⟨⟨rfl, rfl⟩, hz⟩ := hp
  exact K hz H1 locs1 ls ⟨hP1, hD1.weaken (fun _ _ _ hq => hFc _ hq), hS1, hA⟩ hl
theorem g_xSz (C : Cy D T sK sV cc nL Ts own ret Γ) {y : MethodName} {ws : List Cond} {rm : Room} {cy : ByteArray} {maxL n idx : Nat} {ret0 : Option FieldType} {As : List Value} {ro : Int32} {go : St} {xo : Sl} 
    (hM : ∀ sz : Nat, Met l y ws rm (va_Pc As (xPre h D T ad sK sV x g sz)) (va_Qi (eqZ ro go xo) (wPost h D T ad (aW h T ad x g sz)) (aW h T ad x g sz)) 0 0 (aW h T ad x g sz))
    (hk0 : kS Ts own idx y cy maxL n ret0 ws) (hR : rm.frames + 1 ≤ R.frames ∧ 8 + (maxL + 11) + rm.locals ≤ R.locals) (hrm : rm.cells = 0 ∧ rm.slots = 0) (hcs : kc ≤ R.cells ∧ ks ≤ R.slots) (hn : As.length = n) {stk : List Value} (hstk : stk = As.reverse ++ rest) (hcat : (rest.map fun v => v.category).sum ≤ 8) (hdg : decode cc pc = .ok (.invokestatic idx, 3))
    (K : narrow .boolean (.int ro) = .int ro → Gj l h D T ad nL R kc ks Γ Q xo go (pc + 3) lv (.int ro :: rest)) : Gj l h D T ad nL R kc ks Γ Q x g pc lv (stk) := by
  obtain ⟨hG, ⟨ws', hws⟩, hd⟩ := hk0
  subst hstk
  intro H locs ls hw hl
  obtain ⟨hP, hD, hS, hA⟩ := id hw
  have hFc : ∀ q, aW h T ad x g H.size q → Γ.A q := fun q hq => by
    rcases hq with ⟨k9, e9, h9⟩ | hq
    · exact hD.2 k9 _ h9
    · exact hA q (Nat.le_trans hS.1 hq)
  have hpc : ∀ U : State, U.heap = H → Γ.s.WarmedH U.vm → va_Pc As (xPre h D T ad sK sV x g H.size) As.toArray U := fun U hU hW => ⟨rfl, ⟨by rw [hU], by rw [hU]; exact hP, va_K.moved hW.alike C.1.2.1, hD.weaken (fun _ _ _ _ => trivial)⟩, mW.ev C.2 hw hU hW⟩
  refine va_calli (va_runS (nL := nL) (Ts := Ts) (own := own) (mc := 0) (ms := 0) (As := As) (rest := rest) C.1.1 (hM H.size) (va_cwS n C.1.1.2.2.2.2 hG hws hrm.1 hrm.2 hd hR) ⟨xPre_blind, hpc⟩ rfl hn hl.1 rfl (lv_room hcat) hdg hcs) hS (fun q _ hq => hFc q hq) hFc (fun r u t H1 locs1 ht hvm hp hB hz1 hk1 hS1 => ?_)
  obtain ⟨hP1, hK1, hD1⟩ := hB
  rw [ht] at hP1
  obtain ⟨⟨rfl, rfl⟩, hz⟩ := hp
  exact K hz H1 locs1 ls ⟨hP1, hD1.weaken (fun _ _ _ hq => hFc _ hq), hS1, hA⟩ hl
theorem g_xVl (C : Cy D T sK sV cc nL Ts own ret Γ) {y : MethodName} {ws : List Cond} {rm : Room} {cy : ByteArray} {maxL n idx : Nat} {ret0 : Option FieldType} {As : List Value} {ro : Int64} {go : St} {xo : Sl} {k ci N0 : Nat} {C0 : String} {T0 : u_T} 
    (hM : ∀ sz : Nat, Met l y ws rm (va_Pc (.ref (ad k) :: As) (xPre h D T ad sK sV x g sz)) (va_Ql (eqL ro go xo) (wPost h D T ad (aW h T ad x g sz)) (aW h T ad x g sz)) 0 0 (aW h T ad x g sz))
    (hk0 : kV Ts own C0 idx y cy maxL n ret0 ws) (hR : rm.frames + 1 ≤ R.frames ∧ 8 + (maxL + 11) + rm.locals ≤ R.locals) (hrm : rm.cells = 0 ∧ rm.slots = 0) (hcs : kc ≤ R.cells ∧ ks ≤ R.slots) (hc : vwCl[ci]? = some (C0, T0, N0)) (hk : k < h.1 ∧ h.2.1 k = 3 ∧ h.2.2.1 k = ci) (hn : As.length = n) {stk : List Value} (hstk : stk = As.reverse ++ .ref (ad k) :: rest) (hcat : (rest.map fun v => v.category).sum ≤ 8) (hdg : decode cc pc = .ok (.invokevirtual idx, 3))
    (K : Gj l h D T ad nL R kc ks Γ Q xo go (pc + 3) lv (.long ro :: rest)) : Gj l h D T ad nL R kc ks Γ Q x g pc lv (stk) := by
  obtain ⟨hG, ⟨ws', hws⟩, hd⟩ := hk0
  subst hstk
  intro H locs ls hw hl
  obtain ⟨hP, hD, hS, hA⟩ := id hw
  have hFc : ∀ q, aW h T ad x g H.size q → Γ.A q := fun q hq => by
    rcases hq with ⟨k9, e9, h9⟩ | hq
    · exact hD.2 k9 _ h9
    · exact hA q (Nat.le_trans hS.1 hq)
  have hpc : ∀ U : State, U.heap = H → Γ.s.WarmedH U.vm → va_Pc (.ref (ad k) :: As) (xPre h D T ad sK sV x g H.size) (Value.ref (ad k) :: As).toArray U := fun U hU hW => ⟨rfl, ⟨by rw [hU], by rw [hU]; exact hP, va_K.moved hW.alike C.1.2.1, hD.weaken (fun _ _ _ _ => trivial)⟩, mW.ev C.2 hw hU hW⟩
  refine va_calll (va_runV (nL := nL) (Ts := Ts) (own := own) (mc := 0) (ms := 0) (As := As) (rest := rest) C.1.1 (hM H.size) (cwV n C.1.1.2.2.2.2 hG hws hrm.1 hrm.2 hd hR) ⟨xPre_blind, va_recv C.1.2.1 hw.1 hc (celW_obj hk), hpc⟩ rfl hn hl.1 rfl (lv_room hcat) hdg hcs) hS (fun q _ hq => hFc q hq) hFc (fun r u t H1 locs1 ht hvm hp hB hz1 hk1 hS1 => ?_)
  obtain ⟨hP1, hK1, hD1⟩ := hB
  rw [ht] at hP1
  obtain ⟨rfl, rfl⟩ := hp
  exact K H1 locs1 ls ⟨hP1, hD1.weaken (fun _ _ _ hq => hFc _ hq), hS1, hA⟩ hl
theorem g_xSl (C : Cy D T sK sV cc nL Ts own ret Γ) {y : MethodName} {ws : List Cond} {rm : Room} {cy : ByteArray} {maxL n idx : Nat} {ret0 : Option FieldType} {As : List Value} {ro : Int64} {go : St} {xo : Sl} 
    (hM : ∀ sz : Nat, Met l y ws rm (va_Pc As (xPre h D T ad sK sV x g sz)) (va_Ql (eqL ro go xo) (wPost h D T ad (aW h T ad x g sz)) (aW h T ad x g sz)) 0 0 (aW h T ad x g sz))
    (hk0 : kS Ts own idx y cy maxL n ret0 ws) (hR : rm.frames + 1 ≤ R.frames ∧ 8 + (maxL + 11) + rm.locals ≤ R.locals) (hrm : rm.cells = 0 ∧ rm.slots = 0) (hcs : kc ≤ R.cells ∧ ks ≤ R.slots) (hn : As.length = n) {stk : List Value} (hstk : stk = As.reverse ++ rest) (hcat : (rest.map fun v => v.category).sum ≤ 8) (hdg : decode cc pc = .ok (.invokestatic idx, 3))
    (K : Gj l h D T ad nL R kc ks Γ Q xo go (pc + 3) lv (.long ro :: rest)) : Gj l h D T ad nL R kc ks Γ Q x g pc lv (stk) := by
  obtain ⟨hG, ⟨ws', hws⟩, hd⟩ := hk0
  subst hstk
  intro H locs ls hw hl
  obtain ⟨hP, hD, hS, hA⟩ := id hw
  have hFc : ∀ q, aW h T ad x g H.size q → Γ.A q := fun q hq => by
    rcases hq with ⟨k9, e9, h9⟩ | hq
    · exact hD.2 k9 _ h9
    · exact hA q (Nat.le_trans hS.1 hq)
  have hpc : ∀ U : State, U.heap = H → Γ.s.WarmedH U.vm → va_Pc As (xPre h D T ad sK sV x g H.size) As.toArray U := fun U hU hW => ⟨rfl, ⟨by rw [hU], by rw [hU]; exact hP, va_K.moved hW.alike C.1.2.1, hD.weaken (fun _ _ _ _ => trivial)⟩, mW.ev C.2 hw hU hW⟩
  refine va_calll (va_runS (nL := nL) (Ts := Ts) (own := own) (mc := 0) (ms := 0) (As := As) (rest := rest) C.1.1 (hM H.size) (va_cwS n C.1.1.2.2.2.2 hG hws hrm.1 hrm.2 hd hR) ⟨xPre_blind, hpc⟩ rfl hn hl.1 rfl (lv_room hcat) hdg hcs) hS (fun q _ hq => hFc q hq) hFc (fun r u t H1 locs1 ht hvm hp hB hz1 hk1 hS1 => ?_)
  obtain ⟨hP1, hK1, hD1⟩ := hB
  rw [ht] at hP1
  obtain ⟨rfl, rfl⟩ := hp
  exact K H1 locs1 ls ⟨hP1, hD1.weaken (fun _ _ _ hq => hFc _ hq), hS1, hA⟩ hl
theorem g_xVv (C : Cy D T sK sV cc nL Ts own ret Γ) {y : MethodName} {ws : List Cond} {rm : Room} {cy : ByteArray} {maxL n idx : Nat} {ret0 : Option FieldType} {As : List Value} {go : St} {xo : Sl} {k ci N0 : Nat} {C0 : String} {T0 : u_T} 
    (hM : ∀ sz : Nat, Met l y ws rm (va_Pc (.ref (ad k) :: As) (xPre h D T ad sK sV x g sz)) (va_Qv (eqV go xo) (wPost h D T ad (aW h T ad x g sz)) (aW h T ad x g sz)) 0 0 (aW h T ad x g sz))
    (hk0 : kV Ts own C0 idx y cy maxL n ret0 ws) (hR : rm.frames + 1 ≤ R.frames ∧ 8 + (maxL + 11) + rm.locals ≤ R.locals) (hrm : rm.cells = 0 ∧ rm.slots = 0) (hcs : kc ≤ R.cells ∧ ks ≤ R.slots) (hc : vwCl[ci]? = some (C0, T0, N0)) (hk : k < h.1 ∧ h.2.1 k = 3 ∧ h.2.2.1 k = ci) (hn : As.length = n) {stk : List Value} (hstk : stk = As.reverse ++ .ref (ad k) :: rest) (hcat : (rest.map fun v => v.category).sum ≤ 8) (hdg : decode cc pc = .ok (.invokevirtual idx, 3))
    (K : Gj l h D T ad nL R kc ks Γ Q xo go (pc + 3) lv (rest)) : Gj l h D T ad nL R kc ks Γ Q x g pc lv (stk) := by
  obtain ⟨hG, ⟨ws', hws⟩, hd⟩ := hk0
  subst hstk
  intro H locs ls hw hl
  obtain ⟨hP, hD, hS, hA⟩ := id hw
  have hFc : ∀ q, aW h T ad x g H.size q → Γ.A q := fun q hq => by
    rcases hq with ⟨k9, e9, h9⟩ | hq
    · exact hD.2 k9 _ h9
    · exact hA q (Nat.le_trans hS.1 hq)
  have hpc : ∀ U : State, U.heap = H → Γ.s.WarmedH U.vm → va_Pc (.ref (ad k) :: As) (xPre h D T ad sK sV x g H.size) (Value.ref (ad k) :: As).toArray U := fun U hU hW => ⟨rfl, ⟨by rw [hU], by rw [hU]; exact hP, va_K.moved hW.alike C.1.2.1, hD.weaken (fun _ _ _ _ => trivial)⟩, mW.ev C.2 hw hU hW⟩
  refine va_callv (va_runV (nL := nL) (Ts := Ts) (own := own) (mc := 0) (ms := 0) (As := As) (rest := rest) C.1.1 (hM H.size) (cwV n C.1.1.2.2.2.2 hG hws hrm.1 hrm.2 hd hR) ⟨xPre_blind, va_recv C.1.2.1 hw.1 hc (celW_obj hk), hpc⟩ rfl hn hl.1 rfl (lv_room hcat) hdg hcs) hS (fun q _ hq => hFc q hq) hFc (fun u t H1 locs1 ht hvm hp hB hz1 hk1 hS1 => ?_)
  obtain ⟨hP1, hK1, hD1⟩ := hB
  rw [ht] at hP1
  cases hp
  exact K H1 locs1 ls ⟨hP1, hD1.weaken (fun _ _ _ hq => hFc _ hq), hS1, hA⟩ hl
theorem g_xSv (C : Cy D T sK sV cc nL Ts own ret Γ) {y : MethodName} {ws : List Cond} {rm : Room} {cy : ByteArray} {maxL n idx : Nat} {ret0 : Option FieldType} {As : List Value} {go : St} {xo : Sl} 
    (hM : ∀ sz : Nat, Met l y ws rm (va_Pc As (xPre h D T ad sK sV x g sz)) (va_Qv (eqV go xo) (wPost h D T ad (aW h T ad x g sz)) (aW h T ad x g sz)) 0 0 (aW h T ad x g sz))
    (hk0 : kS Ts own idx y cy maxL n ret0 ws) (hR : rm.frames + 1 ≤ R.frames ∧ 8 + (maxL + 11) + rm.locals ≤ R.locals) (hrm : rm.cells = 0 ∧ rm.slots = 0) (hcs : kc ≤ R.cells ∧ ks ≤ R.slots) (hn : As.length = n) {stk : List Value} (hstk : stk = As.reverse ++ rest) (hcat : (rest.map fun v => v.category).sum ≤ 8) (hdg : decode cc pc = .ok (.invokestatic idx, 3))
    (K : Gj l h D T ad nL R kc ks Γ Q xo go (pc + 3) lv (rest)) : Gj l h D T ad nL R kc ks Γ Q x g pc lv (stk) := by
  obtain ⟨hG, ⟨ws', hws⟩, hd⟩ := hk0
  subst hstk
  intro H locs ls hw hl
  obtain ⟨hP, hD, hS, hA⟩ := id hw
  have hFc : ∀ q, aW h T ad x g H.size q → Γ.A q := fun q hq => by
    rcases hq with ⟨k9, e9, h9⟩ | hq
    · exact hD.2 k9 _ h9
    · exact hA q (Nat.le_trans hS.1 hq)
  have hpc : ∀ U : State, U.heap = H → Γ.s.WarmedH U.vm → va_Pc As (xPre h D T ad sK sV x g H.size) As.toArray U := fun U hU hW => ⟨rfl, ⟨by rw [hU], by rw [hU]; exact hP, va_K.moved hW.alike C.1.2.1, hD.weaken (fun _ _ _ _ => trivial)⟩, mW.ev C.2 hw hU hW⟩
  refine va_callv (va_runS (nL := nL) (Ts := Ts) (own := own) (mc := 0) (ms := 0) (As := As) (rest := rest) C.1.1 (hM H.size) (va_cwS n C.1.1.2.2.2.2 hG hws hrm.1 hrm.2 hd hR) ⟨xPre_blind, hpc⟩ rfl hn hl.1 rfl (lv_room hcat) hdg hcs) hS (fun q _ hq => hFc q hq) hFc (fun u t H1 locs1 ht hvm hp hB hz1 hk1 hS1 => ?_)
  obtain ⟨hP1, hK1, hD1⟩ := hB
  rw [ht] at hP1
  cases hp
  exact K H1 locs1 ls ⟨hP1, hD1.weaken (fun _ _ _ hq => hFc _ hq), hS1, hA⟩ hl
theorem g_xTi (C : Cy D T sK sV cc nL Ts own ret Γ) {y : MethodName} {ws : List Cond} {rm : Room} {cy : ByteArray} {maxL n idx i : Nat} {ret0 : Option FieldType} {As : List Value} {ro : Int32} {go : St} {xo : Sl}
    (hM : ∀ sz : Nat, Met l y ws rm (va_Pc (.ref (sK i) :: As) (xPre h D T ad sK sV x g sz)) (va_Qi (eqI ro go xo) (wPost h D T ad (aW h T ad x g sz)) (aW h T ad x g sz)) 0 0 (aW h T ad x g sz))
    (hk0 : kV Ts own "java/lang/String" idx y cy maxL n ret0 ws) (hR : rm.frames + 1 ≤ R.frames ∧ 8 + (maxL + 11) + rm.locals ≤ R.locals) (hrm : rm.cells = 0 ∧ rm.slots = 0) (hcs : kc ≤ R.cells ∧ ks ≤ R.slots) (hi : i < nStr) (hn : As.length = n) {stk : List Value} (hstk : stk = As.reverse ++ .ref (sK i) :: rest) (hcat : (rest.map fun v => v.category).sum ≤ 8) (hdg : decode cc pc = .ok (.invokevirtual idx, 3))
    (K : Gj l h D T ad nL R kc ks Γ Q xo go (pc + 3) lv (.int ro :: rest)) : Gj l h D T ad nL R kc ks Γ Q x g pc lv (stk) := by
  obtain ⟨hG, ⟨ws', hws⟩, hd⟩ := hk0
  subst hstk
  intro H locs ls hw hl
  obtain ⟨hP, hD, hS, hA⟩ := id hw
  have hFc : ∀ q, aW h T ad x g H.size q → Γ.A q := fun q hq => by
    rcases hq with ⟨k9, e9, h9⟩ | hq
    · exact hD.2 k9 _ h9
    · exact hA q (Nat.le_trans hS.1 hq)
  have hpc : ∀ U : State, U.heap = H → Γ.s.WarmedH U.vm → va_Pc (.ref (sK i) :: As) (xPre h D T ad sK sV x g H.size) (Value.ref (sK i) :: As).toArray U := fun U hU hW => ⟨rfl, ⟨by rw [hU], by rw [hU]; exact hP, va_K.moved hW.alike C.1.2.1, hD.weaken (fun _ _ _ _ => trivial)⟩, mW.ev C.2 hw hU hW⟩
  have hrecv : ∃ cellB : Cell, H[sK i]? = some cellB ∧ cellB.vm.isStatics = false ∧ Γ.s.vm.findClass "java/lang/String" = some cellB.cls := by
    obtain ⟨cell, h1, h2, h3, -⟩ := (C.2.2.2.2.1 i hi).1.kept hS.2.1
    exact ⟨cell, h1, h2, h3⟩
  refine va_calli (va_runV (nL := nL) (Ts := Ts) (own := own) (mc := 0) (ms := 0) (As := As) (rest := rest) C.1.1 (hM H.size) (cwV n C.1.1.2.2.2.2 hG hws hrm.1 hrm.2 hd hR) ⟨xPre_blind, hrecv, hpc⟩ rfl hn hl.1 rfl (lv_room hcat) hdg hcs) hS (fun q _ hq => hFc q hq) hFc (fun r u t H1 locs1 ht hvm hp hB hz1 hk1 hS1 => ?_)
  obtain ⟨hP1, hK1, hD1⟩ := hB
  rw [ht] at hP1
  obtain ⟨rfl, rfl⟩ := hp
  exact K H1 locs1 ls ⟨hP1, hD1.weaken (fun _ _ _ hq => hFc _ hq), hS1, hA⟩ hl
/-- the names of what is thrown: 0, 1 -/
def exN : Nat → String
  | 0 => "java/util/NoSuchElementException"
  | _ => "java/lang/IllegalArgumentException"
abbrev xoI (o : (Nat ⊕ Int32) × St) (xo : Sl) : Int32 → St × Sl → Prop := fun r u => o.1 = .inr r ∧ u = (o.2, xo)
abbrev xoZ (o : (Nat ⊕ Int32) × St) (xo : Sl) : Int32 → St × Sl → Prop := fun r u => (o.1 = .inr r ∧ u = (o.2, xo)) ∧ narrow .boolean (.int r) = .int r
abbrev xoL (o : (Nat ⊕ Int64) × St × Sl) : Int64 → St × Sl → Prop := fun r u => o.1 = .inr r ∧ u = o.2
abbrev xoV (o : (Nat ⊕ Unit) × St) (xo : Sl) : St × Sl → Prop := fun u => o.1 = .inr () ∧ u = (o.2, xo)
abbrev xoX {α : Type} (h : Sh) (D : va_G) (T : cT) (ad : Nat → Nat) (o : Nat ⊕ α) (u0 : St × Sl) (A : Nat → Prop) : String → State → State → Prop := vx_X (fun u => u = u0) (fun E u t => (∃ k, o = .inl k ∧ E = exN k) ∧ wPost h D T ad A u t) A
theorem g_tVi (C : Ct l D T sK sV cc nL Ts own ret Γ) {y : MethodName} {ws : List Cond} {rm : Room} {cy : ByteArray} {maxL n idx mc ms : Nat} {ret0 : Option FieldType} {As : List Value} {o : (Nat ⊕ Int32) × St} {xo : Sl} {k ci N0 : Nat} {C0 : String} {T0 : u_T} {Qc : Array Value → State → Outcome → State → Prop} {α : Type} {ou : Nat ⊕ α} {u0 : St × Sl} {mk mn : Nat}
    (hM : ∀ sz : Nat, vx_Met l y ws rm (va_Pc (.ref (ad k) :: As) (xPre h D T ad sK sV x g sz)) (va_Qi (xoI o xo) (wPost h D T ad (aW h T ad x g sz)) (aW h T ad x g sz)) (xoX h D T ad o.1 (o.2, xo) (aW h T ad x g sz)) mc ms (aW h T ad x g sz))
    (hk0 : kV Ts own C0 idx y cy maxL n ret0 ws) (hR : rm.frames + 1 ≤ R.frames ∧ 8 + (maxL + 11) + rm.locals ≤ R.locals) (hrm : rm.cells = mc ∧ rm.slots = ms) (hcs : kc + mc ≤ R.cells ∧ ks + ms ≤ R.slots) (hc : vwCl[ci]? = some (C0, T0, N0)) (hk : k < h.1 ∧ h.2.1 k = 3 ∧ h.2.2.1 k = ci) (hn : As.length = n) {stk : List Value} (hstk : stk = As.reverse ++ .ref (ad k) :: rest) (hcat : (rest.map fun v => v.category).sum ≤ 8) (hdg : decode cc pc = .ok (.invokevirtual idx, 3))
    (hmk : kc + mc ≤ mk ∧ ks + ms ≤ mn) (KX : ∀ k, o.1 = .inl k → ou = .inl k ∧ u0 = (o.2, xo))
    (K : ∀ r : Int32, o.1 = .inr r → Gj l h D T ad nL R (kc + mc) (ks + ms) Γ (vx_MQ Γ.below Qc (xoX h D T ad ou u0 Γ.A) Γ.args Γ.s mk mn Γ.A) xo o.2 (pc + 3) lv (.int r :: rest)) : Gj l h D T ad nL R kc ks Γ (vx_MQ Γ.below Qc (xoX h D T ad ou u0 Γ.A) Γ.args Γ.s mk mn Γ.A) x g pc lv stk := by
  obtain ⟨hG, ⟨ws', hws⟩, hd⟩ := hk0
  subst hstk
  intro H locs ls hw hl
  obtain ⟨hP, hD, hS, hA⟩ := id hw
  have hFc : ∀ q, aW h T ad x g H.size q → Γ.A q := fun q hq => by
    rcases hq with ⟨k9, e9, h9⟩ | hq
    · exact hD.2 k9 _ h9
    · exact hA q (Nat.le_trans hS.1 hq)
  have hpc : ∀ U : State, U.heap = H → Γ.s.WarmedH U.vm → va_Pc (.ref (ad k) :: As) (xPre h D T ad sK sV x g H.size) (Value.ref (ad k) :: As).toArray U := fun U hU hW => ⟨rfl, ⟨by rw [hU], by rw [hU]; exact hP, va_K.moved hW.alike C.1.1.2.1, hD.weaken (fun _ _ _ _ => trivial)⟩, mW.ev C.1.2 hw hU hW⟩
  refine vx_calli (vx_runV (nL := nL) (Ts := Ts) (own := own) (mc := mc) (ms := ms) (As := As) (rest := rest) C.1.1.1 (hM H.size) (cwV n C.1.1.1.2.2.2.2 hG hws hrm.1 hrm.2 hd hR) ⟨xPre_blind, va_recv C.1.1.2.1 hw.1 hc (celW_obj hk), hpc⟩ rfl hn hl.1 rfl (lv_room hcat) hdg hcs) hS (fun q _ hq => hFc q hq) hFc (fun q _ hq => hFc q hq) ?_ ?_
  · rintro E ce q9 u t H1 locs1 ht hvm hp ⟨⟨k9, hk9, hE9⟩, hB⟩ hz1 hk1 hS1 hce hcv hcl
    obtain ⟨hP1, hK1, hD1⟩ := hB
    obtain ⟨e1, e2⟩ := KX k9 hk9
    subst hp
    rw [ht] at hP1
    exact vx_out (fun z hz => absurd (C.2.1 z hz) id) C.1.1.2.2.2 hce hcv hcl (fun t9 ht9 hvm9 => ⟨u0, rfl, ⟨⟨k9, e1, hE9⟩, by rw [e2, ht9]; exact hP1, va_K.moved hvm9 C.1.1.2.1, by rw [e2]; exact hD1.weaken (fun _ _ _ hq => hFc _ hq)⟩, hS1.F ht9⟩) hS1.2.2 hmk.1 hmk.2
  · rintro r u t H1 locs1 ht hvm ⟨hp1, hp2⟩ hB hz1 hk1 hS1
    obtain ⟨hP1, hK1, hD1⟩ := hB
    rw [ht] at hP1
    subst hp2
    exact K r hp1 H1 locs1 ls ⟨hP1, hD1.weaken (fun _ _ _ hq => hFc _ hq), hS1, hA⟩ hl
theorem g_tVv (C : Ct l D T sK sV cc nL Ts own ret Γ) {y : MethodName} {ws : List Cond} {rm : Room} {cy : ByteArray} {maxL n idx mc ms : Nat} {ret0 : Option FieldType} {As : List Value} {o : (Nat ⊕ Unit) × St} {xo : Sl} {k ci N0 : Nat} {C0 : String} {T0 : u_T} {Qc : Array Value → State → Outcome → State → Prop} {α : Type} {ou : Nat ⊕ α} {u0 : St × Sl} {mk mn : Nat}
    (hM : ∀ sz : Nat, vx_Met l y ws rm (va_Pc (.ref (ad k) :: As) (xPre h D T ad sK sV x g sz)) (va_Qv (xoV o xo) (wPost h D T ad (aW h T ad x g sz)) (aW h T ad x g sz)) (xoX h D T ad o.1 (o.2, xo) (aW h T ad x g sz)) mc ms (aW h T ad x g sz))
    (hk0 : kV Ts own C0 idx y cy maxL n ret0 ws) (hR : rm.frames + 1 ≤ R.frames ∧ 8 + (maxL + 11) + rm.locals ≤ R.locals) (hrm : rm.cells = mc ∧ rm.slots = ms) (hcs : kc + mc ≤ R.cells ∧ ks + ms ≤ R.slots) (hc : vwCl[ci]? = some (C0, T0, N0)) (hk : k < h.1 ∧ h.2.1 k = 3 ∧ h.2.2.1 k = ci) (hn : As.length = n) {stk : List Value} (hstk : stk = As.reverse ++ .ref (ad k) :: rest) (hcat : (rest.map fun v => v.category).sum ≤ 8) (hdg : decode cc pc = .ok (.invokevirtual idx, 3))
    (hmk : kc + mc ≤ mk ∧ ks + ms ≤ mn) (KX : ∀ k, o.1 = .inl k → ou = .inl k ∧ u0 = (o.2, xo))
    (K : ∀ r : Unit, o.1 = .inr r → Gj l h D T ad nL R (kc + mc) (ks + ms) Γ (vx_MQ Γ.below Qc (xoX h D T ad ou u0 Γ.A) Γ.args Γ.s mk mn Γ.A) xo o.2 (pc + 3) lv (rest)) : Gj l h D T ad nL R kc ks Γ (vx_MQ Γ.below Qc (xoX h D T ad ou u0 Γ.A) Γ.args Γ.s mk mn Γ.A) x g pc lv stk := by
  obtain ⟨hG, ⟨ws', hws⟩, hd⟩ := hk0
  subst hstk
  intro H locs ls hw hl
  obtain ⟨hP, hD, hS, hA⟩ := id hw
  have hFc : ∀ q, aW h T ad x g H.size q → Γ.A q := fun q hq => by
    rcases hq with ⟨k9, e9, h9⟩ | hq
    · exact hD.2 k9 _ h9
    · exact hA q (Nat.le_trans hS.1 hq)
  have hpc : ∀ U : State, U.heap = H → Γ.s.WarmedH U.vm → va_Pc (.ref (ad k) :: As) (xPre h D T ad sK sV x g H.size) (Value.ref (ad k) :: As).toArray U := fun U hU hW => ⟨rfl, ⟨by rw [hU], by rw [hU]; exact hP, va_K.moved hW.alike C.1.1.2.1, hD.weaken (fun _ _ _ _ => trivial)⟩, mW.ev C.1.2 hw hU hW⟩
  refine vx_callv (vx_runV (nL := nL) (Ts := Ts) (own := own) (mc := mc) (ms := ms) (As := As) (rest := rest) C.1.1.1 (hM H.size) (cwV n C.1.1.1.2.2.2.2 hG hws hrm.1 hrm.2 hd hR) ⟨xPre_blind, va_recv C.1.1.2.1 hw.1 hc (celW_obj hk), hpc⟩ rfl hn hl.1 rfl (lv_room hcat) hdg hcs) hS (fun q _ hq => hFc q hq) hFc (fun q _ hq => hFc q hq) ?_ ?_
  · rintro E ce q9 u t H1 locs1 ht hvm hp ⟨⟨k9, hk9, hE9⟩, hB⟩ hz1 hk1 hS1 hce hcv hcl
    obtain ⟨hP1, hK1, hD1⟩ := hB
    obtain ⟨e1, e2⟩ := KX k9 hk9
    subst hp
    rw [ht] at hP1
    exact vx_out (fun z hz => absurd (C.2.1 z hz) id) C.1.1.2.2.2 hce hcv hcl (fun t9 ht9 hvm9 => ⟨u0, rfl, ⟨⟨k9, e1, hE9⟩, by rw [e2, ht9]; exact hP1, va_K.moved hvm9 C.1.1.2.1, by rw [e2]; exact hD1.weaken (fun _ _ _ hq => hFc _ hq)⟩, hS1.F ht9⟩) hS1.2.2 hmk.1 hmk.2
  · rintro u t H1 locs1 ht hvm ⟨hp1, hp2⟩ hB hz1 hk1 hS1
    obtain ⟨hP1, hK1, hD1⟩ := hB
    rw [ht] at hP1
    subst hp2
    exact K () hp1 H1 locs1 ls ⟨hP1, hD1.weaken (fun _ _ _ hq => hFc _ hq), hS1, hA⟩ hl
theorem g_treti (C : Ct l D T sK sV cc nL Ts own (some .int) Γ) {v : Int32} {o : (Nat ⊕ Int32) × St} {xo : Sl} (ho : o = (.inr v, g)) (hx : x = xo) {mk mn : Nat} (hmk : kc ≤ mk ∧ ks ≤ mn) {XC : String → State → State → Prop} (hdg : decode cc pc = .ok (.ireturn, 1)) : Gj l h D T ad nL R kc ks Γ (vx_MQ Γ.below (va_Qi (xoI o xo) (wPost h D T ad Γ.A) Γ.A) XC Γ.args Γ.s mk mn Γ.A) x g pc lv [.int v] := fun H locs ls hw hl => W.widen hmk.1 hmk.2 (vx_ret (w_iret C.1.1.1 C.1.1.2.2.1 C.1.1.2.2.2 C.1.1.2.1 hw ⟨by rw [ho], by rw [ho, hx]⟩ hdg))
theorem g_tretz (C : Ct l D T sK sV cc nL Ts own (some .boolean) Γ) {v : Int32} {o : (Nat ⊕ Int32) × St} {xo : Sl} (hz : narrow .boolean (.int v) = .int v) (ho : o = (.inr v, g)) (hx : x = xo) {mk mn : Nat} (hmk : kc ≤ mk ∧ ks ≤ mn) {XC : String → State → State → Prop} (hdg : decode cc pc = .ok (.ireturn, 1)) : Gj l h D T ad nL R kc ks Γ (vx_MQ Γ.below (va_Qi (xoZ o xo) (wPost h D T ad Γ.A) Γ.A) XC Γ.args Γ.s mk mn Γ.A) x g pc lv [.int v] := fun H locs ls hw hl => W.widen hmk.1 hmk.2 (vx_ret (w_zret C.1.1.1 C.1.1.2.2.1 C.1.1.2.2.2 C.1.1.2.1 hw hz ⟨⟨by rw [ho], by rw [ho, hx]⟩, hz⟩ hdg))
theorem g_tretl (C : Ct l D T sK sV cc nL Ts own (some .long) Γ) {v : Int64} {o : (Nat ⊕ Int64) × St × Sl} (ho : o = (.inr v, g, x)) {mk mn : Nat} (hmk : kc ≤ mk ∧ ks ≤ mn) {XC : String → State → State → Prop} (hdg : decode cc pc = .ok (.lreturn, 1)) : Gj l h D T ad nL R kc ks Γ (vx_MQ Γ.below (va_Ql (xoL o) (wPost h D T ad Γ.A) Γ.A) XC Γ.args Γ.s mk mn Γ.A) x g pc lv [.long v] := fun H locs ls hw hl => W.widen hmk.1 hmk.2 (vx_ret (w_lret C.1.1.1 C.1.1.2.2.1 C.1.1.2.2.2 C.1.1.2.1 hw ⟨by rw [ho], by rw [ho]⟩ hdg))
theorem g_tretv (C : Ct l D T sK sV cc nL Ts own none Γ) {o : (Nat ⊕ Unit) × St} {xo : Sl} (ho : o = (.inr (), g)) (hx : x = xo) {mk mn : Nat} (hmk : kc ≤ mk ∧ ks ≤ mn) {XC : String → State → State → Prop} (hdg : decode cc pc = .ok (.return_, 1)) : Gj l h D T ad nL R kc ks Γ (vx_MQ Γ.below (va_Qv (xoV o xo) (wPost h D T ad Γ.A) Γ.A) XC Γ.args Γ.s mk mn Γ.A) x g pc lv [] := fun H locs ls hw hl => W.widen hmk.1 hmk.2 (vx_ret (w_vret C.1.1.1 C.1.1.2.2.1 C.1.1.2.2.2 C.1.1.2.1 hw ⟨by rw [ho], by rw [ho, hx]⟩ hdg))
/-- new E(); athrow -/
theorem g_throw (C : Ct l D T sK sV cc nL Ts own ret Γ) {cls : String} (names : List String) {ik ic : Nat} (k : Nat) (hcl : cls = exN k) (hcls : Bundle.fit cls = true) (hnames : ∀ n ∈ names, Bundle.fit n = true) (hk : Cond.classLink own ik cls ∈ Ts) (hini : Cond.initialized cls ∈ Ts) (hat : ∀ w ∈ vx_at0 own ic cls names, w.before Γ.args Γ.s = true) (hgood : ∀ w ∈ Cond.classLink own ik cls :: Cond.initialized cls :: vx_at0 own ic cls names, vx_ot w = true)
    (d0 : decode cc pc = .ok (.new ik, 3)) (d3 : decode cc (pc + 3) = .ok (.dup, 1)) (d4 : decode cc (pc + 4) = .ok (.invokespecial ic, 3)) (d7 : decode cc (pc + 7) = .ok (.athrow, 1)) (hRf : names.length + 3 < R.frames) (hRl : (rest.map fun v => v.category).sum + (13 * (names.length + 1) + 42) ≤ R.locals) (hRc : kc + 1 ≤ R.cells) (hRs : ks + 6 ≤ R.slots) {Qc : Array Value → State → Outcome → State → Prop} {α : Type} {ou : Nat ⊕ α} {u0 : St × Sl} (ho : ou = .inl k) (hu : u0 = (g, x)) {mk mn : Nat} (hmk : kc + 1 ≤ mk ∧ ks + 6 ≤ mn) :
    Gj l h D T ad nL R kc ks Γ (vx_MQ Γ.below Qc (xoX h D T ad ou u0 Γ.A) Γ.args Γ.s mk mn Γ.A) x g pc lv rest := by
  intro H locs ls hw hl
  obtain ⟨hP, hD, hS, hA⟩ := id hw
  refine vx_throw0 (A := Γ.A) C.1.1.1.1 C.1.1.1.2.1 C.2.2 C.1.1.1.2.2.2.1 hcls hnames (C.1.1.1.2.2.2.2 _ hk) (C.1.1.1.2.2.2.2 _ hini) hat hgood C.1.2.1 C.1.2.2.1 hS (by rw [hl.1]; exact C.1.1.1.2.2.1.symm) d0 d3 d4 d7 (fun z hz => absurd (C.2.1 z hz) id) hRf hRl hRc hRs C.1.1.2.2.2 (fun t hvm hz1 hk1 => ?_) hS.2.2 hmk.1 hmk.2
  have hP1 : va_P D vwCl (wW h T ad x g) t.heap := hP.kept (fun k9 q9 hq9 => hk1 q9.1 ((hP k9 q9 hq9).lt))
  subst hu
  exact ⟨(g, x), rfl, ⟨⟨k, ho, hcl⟩, hP1, va_K.moved hvm C.1.1.2.1, hD⟩, Nat.le_trans hS.1 hz1, fun q h1 h2 => by rw [hk1 q (Nat.lt_of_lt_of_le h1 hS.1)]; exact hS.2.1 q h1 h2⟩
end XROWS
theorem g_startx {l : Launch} {h : Sh} {D : va_G} {T : cT} {ad sK sV : Nat → Nat} {x : Sl} {g : St} {sz : Nat} {y : MethodName} {ws ws' : List Cond} {rm : Room} {cc : ByteArray} {maxL : Nat} {ret : Option FieldType} {own : String} {av : List Value} {Qc : (Nat → Prop) → Array Value → State → Outcome → State → Prop} (hy : plainName y.cls = true) (hws : ws = .code y cc maxL ret :: ws') (hcl : y.cls = own) (hav : (lg_sl av).length ≤ maxL) {lv : List (Nat × Value)} (hlv : lv_args 0 av = lv)
    (body : ∀ Γ : Cxt, Cy D T sK sV cc maxL ws own ret Γ → Gj l h D T ad maxL rm 0 0 Γ (MQ Γ.below (Qc Γ.A) Γ.args Γ.s 0 0 Γ.A) x g 0 lv []) :
    Met l y ws rm (va_Pc av (xPre h D T ad sK sV x g sz)) (Qc (aW h T ad x g sz)) 0 0 (aW h T ad x g sz) := by
  refine Met.ofW (cc := cc) (maxL := maxL) (ret := ret) hy hws ?_
  intro p e s m args below meth c s₁ B hml hv
  obtain ⟨rfl, ⟨hsz, hP, hK, hD0⟩, hE⟩ := hv
  subst hsz
  subst hlv
  have hts := atoms_spec (ws := ws) B.pre
  have hown : s.vm.findClass own = some m.cls := by rw [← hcl]; exact findClass_of_methodNamed B.named
  have hD := hD0.self (sz := s.heap.size)
  have hl := lv_entry av (n := maxL) hav
  rw [lg_entry_eq]
  exact body (p, e, s, m, _, below, meth, c, _) ⟨⟨⟨B.exec, B.bytes, hml, hown, hts⟩, hK, B.returns, B.notSynchronized⟩, hE⟩ _ _ _ ⟨hP, hD, va_S.rf, fun q hq => Or.inr hq⟩ hl
theorem g_startt {l : Launch} {h : Sh} {D : va_G} {T : cT} {ad sK sV : Nat → Nat} {x : Sl} {g : St} {sz : Nat} {y : MethodName} {ws ws' : List Cond} {rm : Room} {cc : ByteArray} {maxL mc ms : Nat} {ret : Option FieldType} {own : String} {av : List Value} {Qc : (Nat → Prop) → Array Value → State → Outcome → State → Prop} {XC : (Nat → Prop) → String → State → State → Prop} (hl0 : l.stackTraces = false) (hy : plainName y.cls = true) (hws : ws = .code y cc maxL ret :: ws') (hcl : y.cls = own) (hav : (lg_sl av).length ≤ maxL) {lv : List (Nat × Value)} (hlv : lv_args 0 av = lv)
    (body : ∀ Γ : Cxt, Ct l D T sK sV cc maxL ws own ret Γ → Gj l h D T ad maxL rm 0 0 Γ (vx_MQ Γ.below (Qc Γ.A) (XC Γ.A) Γ.args Γ.s mc ms Γ.A) x g 0 lv []) :
    vx_Met l y ws rm (va_Pc av (xPre h D T ad sK sV x g sz)) (Qc (aW h T ad x g sz)) (XC (aW h T ad x g sz)) mc ms (aW h T ad x g sz) := by
  refine vx_ofW (cc := cc) (maxL := maxL) (ret := ret) hy hws ?_
  intro p e s m args below meth c s₁ B hml hno hv
  obtain ⟨rfl, ⟨hsz, hP, hK, hD0⟩, hE⟩ := hv
  subst hsz
  subst hlv
  have hts := atoms_spec (ws := ws) B.pre
  have hown : s.vm.findClass own = some m.cls := by rw [← hcl]; exact findClass_of_methodNamed B.named
  have hD := hD0.self (sz := s.heap.size)
  have hl := lv_entry av (n := maxL) hav
  rw [lg_entry_eq]
  exact body (p, e, s, m, _, below, meth, c, _) ⟨⟨⟨⟨B.exec, B.bytes, hml, hown, hts⟩, hK, B.returns, B.notSynchronized⟩, hE⟩, hno, hl0⟩ _ _ _ ⟨hP, hD, va_S.rf, fun q hq => Or.inr hq⟩ hl
