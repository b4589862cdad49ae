/-! THE BASE: one world for a side, of a shape that never changes; its data: g (ints by place and slot), x (longs) -/
abbrev St : Type := Nat → Nat → Int32
abbrev Sl : Type := Nat → Nat → Int64
def st (g : St) (p i : Nat) (v : Int32) : St := fun a => if a = p then upd (g a) i v else g a
def sl (x : Sl) (p i : Nat) (v : Int64) : Sl := fun a => if a = p then vp_updL (x a) i v else x a
theorem st_at (g : St) (p i : Nat) (v : Int32) (a b : Nat) : st g p i v a b = if a = p ∧ b = i then v else g a b := by
  unfold st upd
  by_cases h1 : a = p
  · by_cases h2 : b = i
    · simp [h1, h2]
    · simp [h1, h2]
  · simp [h1]
theorem st_eq (g : St) (p i : Nat) (v : Int32) : st g p i v p i = v := by rw [st_at, if_pos ⟨rfl, rfl⟩]
theorem sl_at (g : Sl) (p i : Nat) (v : Int64) (a b : Nat) : sl g p i v a b = if a = p ∧ b = i then v else g a b := by
  unfold sl vp_updL
  by_cases h1 : a = p
  · by_cases h2 : b = i
    · simp [h1, h2]
    · simp [h1, h2]
  · simp [h1]
/-- a loop: the body goes on, or is done -/
def lp {σ ρ : Type} (f : σ → Option (σ ⊕ ρ)) : Nat → σ → Option ρ
  | 0, _ => none
  | n + 1, s => (f s).bind fun z => match z with
    | .inl t => lp f n t
    | .inr r => some r
theorem lp_run {σ ρ : Type} {f : σ → Option (σ ⊕ ρ)} {P : σ → Prop} {E : ρ → Prop} (h : ∀ s z, f s = some z → (∀ t, z = .inl t → P t) → (∀ r, z = .inr r → E r) → P s) : ∀ (n : Nat) (s : σ) (r : ρ), lp f n s = some r → E r → P s := by
  intro n
  induction n with
  | zero => intro s r h0; cases h0
  | succ n ih =>
    intro s r h0 hE
    unfold lp at h0
    obtain ⟨z, hz, h1⟩ := Option.bind_eq_some_iff.mp h0
    refine h s z hz (fun t ht => ?_) (fun r' hr => ?_)
    · subst ht
      exact ih t r h1 hE
    · subst hr
      cases h1
      exact hE
theorem iteT {α : Type} {p : Prop} [Decidable p] {a b r : α} (c : p) (h : (if p then a else b) = r) : a = r := by rwa [if_pos c] at h
theorem iteF {α : Type} {p : Prop} [Decidable p] {a b r : α} (c : ¬ p) (h : (if p then a else b) = r) : b = r := by rwa [if_neg c] at h
theorem grd {α : Type} {p : Prop} [Decidable p] {a : Option α} {o : α} (h : (if p then a else none) = some o) : p ∧ a = some o := by
  by_cases c : p
  · exact ⟨c, by rwa [if_pos c] at h⟩
  · rw [if_neg c] at h; cases h
theorem bnd {α β : Type} {a : Option α} {f : α → Option β} {o : β} (h : a.bind f = some o) : ∃ r, a = some r ∧ f r = some o := Option.bind_eq_some_iff.mp h
/-- a shape: how many places; of a place: its kind (0 ints, 1 longs, 2 a row of rows, 3 an object), its length or its class, an object's fields (0 an int, else the place, and 1, that it points to), a grid's first row -/
abbrev Sh : Type := Nat × (Nat → Nat) × (Nat → Nat) × (Nat → Nat → Nat) × (Nat → Nat)
abbrev cT : Type := ClassId × ClassId × ClassId
def tysW (T : cT) : List (ClassId × FieldType) := [(T.1, .int), (T.2.1, .long), (T.2.2, .array .int)]
/-- how many fields an object of a class has -/
def nfW (c : Nat) : Nat := match vwCl[c]? with
  | some q => q.2.2
  | none => 0
def fldW (h : Sh) (ad : Nat → Nat) (g : St) (k : Nat) : List Value := (List.range (nfW (h.2.2.1 k))).map (fun j => match h.2.2.2.1 k j with
  | 0 => .int (g k j)
  | q + 1 => .ref (ad q))
def celW (h : Sh) (T : cT) (ad : Nat → Nat) (x : Sl) (g : St) (k : Nat) : va_E := match h.2.1 k with
  | 0 => .inl (T.1, h.2.2.1 k, .inl (g k))
  | 1 => .inl (T.2.1, h.2.2.1 k, .inr (.inl (x k)))
  | 2 => .inl (T.2.2, h.2.2.1 k, .inr (.inr (.inr (.inr (fun i => if i < h.2.2.1 k then some (ad (h.2.2.2.2 k + i)) else none)))))
  | _ => .inr (h.2.2.1 k, fldW h ad g k)
def wW (h : Sh) (T : cT) (ad : Nat → Nat) (x : Sl) (g : St) : va_W := (List.range h.1).map (fun k => (ad k, celW h T ad x g k))
theorem celW_0 {h : Sh} {T : cT} {ad : Nat → Nat} {x : Sl} {g : St} {k : Nat} (hk : h.2.1 k = 0) : celW h T ad x g k = .inl (T.1, h.2.2.1 k, .inl (g k)) := by simp only [celW, hk]
theorem celW_1 {h : Sh} {T : cT} {ad : Nat → Nat} {x : Sl} {g : St} {k : Nat} (hk : h.2.1 k = 1) : celW h T ad x g k = .inl (T.2.1, h.2.2.1 k, .inr (.inl (x k))) := by simp only [celW, hk]
theorem celW_2 {h : Sh} {T : cT} {ad : Nat → Nat} {x : Sl} {g : St} {k : Nat} (hk : h.2.1 k = 2) : celW h T ad x g k = .inl (T.2.2, h.2.2.1 k, .inr (.inr (.inr (.inr (fun i => if i < h.2.2.1 k then some (ad (h.2.2.2.2 k + i)) else none))))) := by simp only [celW, hk]
theorem celW_3 {h : Sh} {T : cT} {ad : Nat → Nat} {x : Sl} {g : St} {k : Nat} (hk : h.2.1 k = 3) : celW h T ad x g k = .inr (h.2.2.1 k, fldW h ad g k) := by simp only [celW, hk]
/-- an int array's length (0: the place is none) -/
def lenW (h : Sh) (k : Nat) : Nat := if k < h.1 ∧ h.2.1 k = 0 then h.2.2.1 k else 0
def lnlW (h : Sh) (k : Nat) : Nat := if k < h.1 ∧ h.2.1 k = 1 then h.2.2.1 k else 0
def lngW (h : Sh) (k : Nat) : Nat := if k < h.1 ∧ h.2.1 k = 2 then h.2.2.1 k else 0
theorem wW_at {h : Sh} {T : cT} {ad : Nat → Nat} {x : Sl} {g : St} {k : Nat} (hk : k < h.1) : (wW h T ad x g)[k]? = some (ad k, celW h T ad x g k) := by
  unfold wW
  rw [List.getElem?_map, List.getElem?_range hk]
  rfl
theorem wW_len {h : Sh} {T : cT} {ad : Nat → Nat} {x : Sl} {g : St} : (wW h T ad x g).length = h.1 := by
  unfold wW
  rw [List.length_map, List.length_range]
theorem wW_ext {h : Sh} {T : cT} {ad : Nat → Nat} {x x' : Sl} {g g' : St} {p : Nat} {e : va_E} (hp : p < h.1) (he : e = celW h T ad x' g' p) (ho : ∀ k, k ≠ p → celW h T ad x g k = celW h T ad x' g' k) : (wW h T ad x g).set p (ad p, e) = wW h T ad x' g' := by
  apply List.ext_getElem?
  intro k
  by_cases hk : k < h.1
  · rw [wW_at hk]
    by_cases e0 : p = k
    · subst e0
      rw [List.getElem?_set_self (by rw [wW_len]; exact hp), he]
    · rw [List.getElem?_set_ne e0, wW_at hk, ho k (fun q => e0 q.symm)]
  · rw [List.getElem?_eq_none (by rw [List.length_set, wW_len]; omega), List.getElem?_eq_none (by rw [wW_len]; omega)]
theorem celW_st {h : Sh} {T : cT} {ad : Nat → Nat} {x : Sl} {g : St} {p i : Nat} {v : Int32} {k : Nat} (hk : k ≠ p) : celW h T ad x g k = celW h T ad x (st g p i v) k := by
  have e : st g p i v k = g k := by unfold st; rw [if_neg hk]
  unfold celW fldW
  rw [e]
theorem celW_sl {h : Sh} {T : cT} {ad : Nat → Nat} {x : Sl} {g : St} {p i : Nat} {v : Int64} {k : Nat} (hk : k ≠ p) : celW h T ad x g k = celW h T ad (sl x p i v) g k := by
  have e : sl x p i v k = x k := by unfold sl; rw [if_neg hk]
  unfold celW
  rw [e]
theorem wW_A {h : Sh} {T : cT} {ad : Nat → Nat} {x x' : Sl} {g g' : St} {sz : Nat} {q : Nat} (hq : va_A (wW h T ad x g) sz q) : va_A (wW h T ad x' g') sz q := by
  rcases hq with ⟨k, e, hk⟩ | hq
  · have hl := (List.getElem?_eq_some_iff.mp hk).1
    rw [wW_len] at hl
    rw [wW_at hl] at hk
    cases hk
    exact Or.inl ⟨k, _, wW_at hl⟩
  · exact Or.inr hq
/-- the world of a side at a heap: its cells; they are apart, and the method's own; what was written since its start -/
def mW (h : Sh) (D : va_G) (T : cT) (ad : Nat → Nat) (A : Nat → Prop) (s : State) (x : Sl) (g : St) (H : Heap) (locs : List Loc) : Prop :=
  va_P D vwCl (wW h T ad x g) H ∧ va_D A (wW h T ad x g) ∧ va_S A s.heap H locs ∧ ∀ q : Nat, s.heap.size ≤ q → A q
def wPre (h : Sh) (D : va_G) (T : cT) (ad : Nat → Nat) (x : Sl) (g : St) (sz : Nat) : State → Prop := fun U => U.heap.size = sz ∧ va_P D vwCl (wW h T ad x g) U.heap ∧ va_K D vwCl (tysW T) U ∧ va_D (fun _ => True) (wW h T ad x g)
def wPost (h : Sh) (D : va_G) (T : cT) (ad : Nat → Nat) (A : Nat → Prop) : St × Sl → State → Prop := fun u t => va_P D vwCl (wW h T ad u.2 u.1) t.heap ∧ va_K D vwCl (tysW T) t ∧ va_D A (wW h T ad u.2 u.1)
abbrev aW (h : Sh) (T : cT) (ad : Nat → Nat) (x : Sl) (g : St) (sz : Nat) : Nat → Prop := va_A (wW h T ad x g) sz
theorem wPre_blind {h : Sh} {D : va_G} {T : cT} {ad : Nat → Nat} {x : Sl} {g : St} {sz : Nat} {av : List Value} : FrameBlind (va_Pc av (wPre h D T ad x g sz)) := fun a U f mk q => by
  obtain ⟨q0, q1, qP, qK, qD⟩ := q
  exact ⟨q0, q1, qP, va_K.moved (u := U) (U := U.calling f mk a) (Vm.Alike.refl U.vm) qK, qD⟩
section BASE
variable {p : Program} {l : Launch} {e : Env} {R : Room} {s : State} {m : MethodId} {args : Array Value} {below : List Frame} {meth : Method} {c : Code} {H : Heap} {locs : List Loc} {cells slots : Nat} {Q : State → Prop}
variable {h : Sh} {D : va_G} {T : cT} {ad : Nat → Nat} {A : Nat → Prop} {x : Sl} {g : St} {cc : ByteArray} {nL : Nat} {Ts : List Cond} {own : String} {pc : Nat} {ls : Array Slot} {rest : List Value}
theorem mW.lt (hw : mW h D T ad A s x g H locs) {k : Nat} (hk : k < h.1) : ad k < H.size := (hw.1 k _ (wW_at hk)).lt
theorem w_ald (C : CallFix p m c cc nL s args Ts own) (hK : va_K D vwCl (tysW T) s) (hw : mW h D T ad A s x g H locs) {k : Nat} {i : Int32} (hi : ¬ (i < 0 ∨ lenW h k ≤ i.toNatClampNeg)) {v : Int32} (hv : g k i.toNatClampNeg = v) (hdg : decode cc pc = .ok (.iaload, 1))
    (kk : W p l e R s m args below meth c H locs cells slots Q (F0 m (pc + 1) ls (.int v :: rest))) : W p l e R s m args below meth c H locs cells slots Q (F0 m pc ls (.int i :: .ref (ad k) :: rest)) := by
  subst hv
  by_cases hk : k < h.1 ∧ h.2.1 k = 0
  · have hl : lenW h k = h.2.2.1 k := by unfold lenW; rw [if_pos hk]
    rw [hl] at hi
    refine va_iald (f := g k) C.1 C.2.1 hK hw.1 k 0 (cA := T.1) (n := h.2.2.1 k) ?_ rfl hi hdg kk
    rw [wW_at hk.1, celW_0 hk.2]
  · have hl : lenW h k = 0 := by unfold lenW; rw [if_neg hk]
    exact absurd (Or.inr (by rw [hl]; exact Nat.zero_le _)) hi
theorem w_ast (C : CallFix p m c cc nL s args Ts own) (hK : va_K D vwCl (tysW T) s) (hw : mW h D T ad A s x g H locs) {k : Nat} {i v : Int32} (hi : ¬ (i < 0 ∨ lenW h k ≤ i.toNatClampNeg)) (hdg : decode cc pc = .ok (.iastore, 1))
    (kk : ∀ (H1 : Heap) (locs1 : List Loc), mW h D T ad A s x (st g k i.toNatClampNeg v) H1 locs1 → W p l e R s m args below meth c H1 locs1 cells slots Q (F0 m (pc + 1) ls rest)) : W p l e R s m args below meth c H locs cells slots Q (F0 m pc ls (.int v :: .int i :: .ref (ad k) :: rest)) := by
  by_cases hk : k < h.1 ∧ h.2.1 k = 0
  · have hl : lenW h k = h.2.2.1 k := by unfold lenW; rw [if_pos hk]
    rw [hl] at hi
    obtain ⟨hP, hD, hS, hA⟩ := hw
    have hc : ∀ (xx : Sl) (gg : St), celW h T ad xx gg k = .inl (T.1, h.2.2.1 k, .inl (gg k)) := fun xx gg => celW_0 hk.2
    refine va_iast (f := g k) C.1 C.2.1 hK hP hD hS k 0 (cA := T.1) (n := h.2.2.1 k) (by rw [wW_at hk.1, hc]) rfl hi hdg (fun H1 locs1 hP1 hD1 hS1 => ?_)
    have he : (wW h T ad x g).set k (ad k, .inl (T.1, h.2.2.1 k, .inl (upd (g k) i.toNatClampNeg v))) = wW h T ad x (st g k i.toNatClampNeg v) :=
      wW_ext hk.1 (by rw [hc]; unfold st; rw [if_pos rfl]) (fun j hj => celW_st hj)
    rw [he] at hP1 hD1
    exact kk H1 locs1 ⟨hP1, hD1, hS1, hA⟩
  · have hl : lenW h k = 0 := by unfold lenW; rw [if_neg hk]
    exact absurd (Or.inr (by rw [hl]; exact Nat.zero_le _)) hi
theorem w_lald (C : CallFix p m c cc nL s args Ts own) (hK : va_K D vwCl (tysW T) s) (hw : mW h D T ad A s x g H locs) {k : Nat} {i : Int32} (hi : ¬ (i < 0 ∨ lnlW h k ≤ i.toNatClampNeg)) {v : Int64} (hv : x k i.toNatClampNeg = v) (hdg : decode cc pc = .ok (.laload, 1))
    (kk : W p l e R s m args below meth c H locs cells slots Q (F0 m (pc + 1) ls (.long v :: rest))) : W p l e R s m args below meth c H locs cells slots Q (F0 m pc ls (.int i :: .ref (ad k) :: rest)) := by
  subst hv
  by_cases hk : k < h.1 ∧ h.2.1 k = 1
  · have hl : lnlW h k = h.2.2.1 k := by unfold lnlW; rw [if_pos hk]
    rw [hl] at hi
    refine va_lald (f := x k) C.1 C.2.1 hK hw.1 k 1 (cA := T.2.1) (n := h.2.2.1 k) ?_ rfl hi hdg kk
    rw [wW_at hk.1, celW_1 hk.2]
  · have hl : lnlW h k = 0 := by unfold lnlW; rw [if_neg hk]
    exact absurd (Or.inr (by rw [hl]; exact Nat.zero_le _)) hi
theorem w_last (C : CallFix p m c cc nL s args Ts own) (hK : va_K D vwCl (tysW T) s) (hw : mW h D T ad A s x g H locs) {k : Nat} {i : Int32} {v : Int64} (hi : ¬ (i < 0 ∨ lnlW h k ≤ i.toNatClampNeg)) (hdg : decode cc pc = .ok (.lastore, 1))
    (kk : ∀ (H1 : Heap) (locs1 : List Loc), mW h D T ad A s (sl x k i.toNatClampNeg v) g H1 locs1 → W p l e R s m args below meth c H1 locs1 cells slots Q (F0 m (pc + 1) ls rest)) : W p l e R s m args below meth c H locs cells slots Q (F0 m pc ls (.long v :: .int i :: .ref (ad k) :: rest)) := by
  by_cases hk : k < h.1 ∧ h.2.1 k = 1
  · have hl : lnlW h k = h.2.2.1 k := by unfold lnlW; rw [if_pos hk]
    rw [hl] at hi
    obtain ⟨hP, hD, hS, hA⟩ := hw
    have hc : ∀ (xx : Sl) (gg : St), celW h T ad xx gg k = .inl (T.2.1, h.2.2.1 k, .inr (.inl (xx k))) := fun xx gg => celW_1 hk.2
    refine va_last (f := x k) C.1 C.2.1 hK hP hD hS k 1 (cA := T.2.1) (n := h.2.2.1 k) (by rw [wW_at hk.1, hc]) rfl hi hdg (fun H1 locs1 hP1 hD1 hS1 => ?_)
    have he : (wW h T ad x g).set k (ad k, .inl (T.2.1, h.2.2.1 k, .inr (.inl (vp_updL (x k) i.toNatClampNeg v)))) = wW h T ad (sl x k i.toNatClampNeg v) g :=
      wW_ext hk.1 (by rw [hc]; unfold sl; rw [if_pos rfl]) (fun j hj => celW_sl hj)
    rw [he] at hP1 hD1
    exact kk H1 locs1 ⟨hP1, hD1, hS1, hA⟩
  · have hl : lnlW h k = 0 := by unfold lnlW; rw [if_neg hk]
    exact absurd (Or.inr (by rw [hl]; exact Nat.zero_le _)) hi
theorem w_aald (C : CallFix p m c cc nL s args Ts own) (hK : va_K D vwCl (tysW T) s) (hw : mW h D T ad A s x g H locs) {k : Nat} {i : Int32} (hi : ¬ (i < 0 ∨ lngW h k ≤ i.toNatClampNeg)) (hdg : decode cc pc = .ok (.aaload, 1))
    (kk : W p l e R s m args below meth c H locs cells slots Q (F0 m (pc + 1) ls (.ref (ad (h.2.2.2.2 k + i.toNatClampNeg)) :: rest))) : W p l e R s m args below meth c H locs cells slots Q (F0 m pc ls (.int i :: .ref (ad k) :: rest)) := by
  by_cases hk : k < h.1 ∧ h.2.1 k = 2
  · have hl : lngW h k = h.2.2.1 k := by unfold lngW; rw [if_pos hk]
    rw [hl] at hi
    have hlt : i.toNatClampNeg < h.2.2.1 k := Nat.not_le.mp fun q => hi (Or.inr q)
    have hc : celW h T ad x g k = .inl (T.2.2, h.2.2.1 k, .inr (.inr (.inr (.inr (fun i => if i < h.2.2.1 k then some (ad (h.2.2.2.2 k + i)) else none))))) := celW_2 hk.2
    have hat : H[ad k]? = some (vp_cell T.2.2 (h.2.2.1 k, .inr (.inr (.inr (.inr (fun i => if i < h.2.2.1 k then some (ad (h.2.2.2.2 k + i)) else none)))))) := hw.1 k (ad k, .inl (T.2.2, h.2.2.1 k, .inr (.inr (.inr (.inr (fun i => if i < h.2.2.1 k then some (ad (h.2.2.2.2 k + i)) else none)))))) (by rw [wW_at hk.1, hc])
    refine W.aald (v := .ref (ad (h.2.2.2.2 k + i.toNatClampNeg))) (ty := .array .int) C.1 C.2.1 hat ((hK.2 2 _ rfl).1 (h.2.2.1 k) (fun j => va_rf (if j < h.2.2.1 k then some (ad (h.2.2.2.2 k + j)) else none))) rfl (fun q => by cases q) (by show ¬ (i < 0 ∨ (arrV _ _ _).slots.size ≤ _); rw [arrV_size]; exact hi) (by show (arrV _ _ _).slots[_]? = _; rw [arrV_read _ _ hlt]; simp only [if_pos hlt, va_rf]) rfl rfl hdg kk
  · have hl : lngW h k = 0 := by unfold lngW; rw [if_neg hk]
    exact absurd (Or.inr (by rw [hl]; exact Nat.zero_le _)) hi
theorem w_alen (C : CallFix p m c cc nL s args Ts own) (hK : va_K D vwCl (tysW T) s) (hw : mW h D T ad A s x g H locs) {k : Nat} (hi : 0 < lenW h k) (hdg : decode cc pc = .ok (.arraylength, 1))
    (kk : W p l e R s m args below meth c H locs cells slots Q (F0 m (pc + 1) ls (.int (Int32.ofNat (lenW h k)) :: rest))) : W p l e R s m args below meth c H locs cells slots Q (F0 m pc ls (.ref (ad k) :: rest)) := by
  by_cases hk : k < h.1 ∧ h.2.1 k = 0
  · have hl : lenW h k = h.2.2.1 k := by unfold lenW; rw [if_pos hk]
    refine va_alen C.1 C.2.1 hK hw.1 k 0 (cA := T.1) (x := (h.2.2.1 k, .inl (g k))) ?_ (ty := .int) rfl (by rw [hl]) hdg kk
    rw [wW_at hk.1, celW_0 hk.2]
  · rw [show lenW h k = 0 by unfold lenW; rw [if_neg hk]] at hi
    exact absurd hi (Nat.lt_irrefl 0)
theorem w_alenl (C : CallFix p m c cc nL s args Ts own) (hK : va_K D vwCl (tysW T) s) (hw : mW h D T ad A s x g H locs) {k : Nat} (hi : 0 < lnlW h k) (hdg : decode cc pc = .ok (.arraylength, 1))
    (kk : W p l e R s m args below meth c H locs cells slots Q (F0 m (pc + 1) ls (.int (Int32.ofNat (lnlW h k)) :: rest))) : W p l e R s m args below meth c H locs cells slots Q (F0 m pc ls (.ref (ad k) :: rest)) := by
  by_cases hk : k < h.1 ∧ h.2.1 k = 1
  · have hl : lnlW h k = h.2.2.1 k := by unfold lnlW; rw [if_pos hk]
    refine va_alen C.1 C.2.1 hK hw.1 k 1 (cA := T.2.1) (x := (h.2.2.1 k, .inr (.inl (x k)))) ?_ (ty := .long) rfl (by rw [hl]) hdg kk
    rw [wW_at hk.1, celW_1 hk.2]
  · rw [show lnlW h k = 0 by unfold lnlW; rw [if_neg hk]] at hi
    exact absurd hi (Nat.lt_irrefl 0)

theorem fldW_int {k j : Nat} (hj : j < nfW (h.2.2.1 k)) (hr : h.2.2.2.1 k j = 0) : (fldW h ad g k)[j]? = some (.int (g k j)) := by
  unfold fldW
  rw [List.getElem?_map, List.getElem?_range hj]
  simp only [Option.map_some, hr]
theorem fldW_ref {k j q : Nat} (hj : j < nfW (h.2.2.1 k)) (hr : h.2.2.2.1 k j = q + 1) : (fldW h ad g k)[j]? = some (.ref (ad q)) := by
  unfold fldW
  rw [List.getElem?_map, List.getElem?_range hj]
  simp only [Option.map_some, hr]
theorem fldW_set {k j : Nat} {v : Int32} (hj : j < nfW (h.2.2.1 k)) (hr : h.2.2.2.1 k j = 0) : (fldW h ad g k).set j (.int v) = fldW h ad (st g k j v) k := by
  apply List.ext_getElem?
  intro i
  by_cases hi : i < nfW (h.2.2.1 k)
  · by_cases e : j = i
    · subst e
      rw [List.getElem?_set_self (by unfold fldW; rw [List.length_map, List.length_range]; exact hj), fldW_int hj hr, st_eq]
    · rw [List.getElem?_set_ne e]
      unfold fldW
      rw [List.getElem?_map, List.getElem?_map, List.getElem?_range hi]
      have e2 : st g k j v k i = g k i := by rw [st_at, if_neg (fun q => e q.2.symm)]
      simp only [Option.map_some, e2]
  · rw [List.getElem?_eq_none (by rw [List.length_set]; unfold fldW; rw [List.length_map, List.length_range]; omega), List.getElem?_eq_none (by unfold fldW; rw [List.length_map, List.length_range]; omega)]
theorem celW_obj {k ci : Nat} (hk : k < h.1 ∧ h.2.1 k = 3 ∧ h.2.2.1 k = ci) : (wW h T ad x g)[k]? = some (ad k, .inr (ci, fldW h ad g k)) := by
  rw [wW_at hk.1, celW_3 hk.2.1, hk.2.2]
theorem w_get (C : CallFix p m c cc nL s args Ts own) (hK : va_K D vwCl (tysW T) s) (hw : mW h D T ad A s x g H locs) {k ci j N0 index : Nat} {C0 : String} {T0 : u_T} (hc : vwCl[ci]? = some (C0, T0, N0)) (hk : k < h.1 ∧ h.2.1 k = 3 ∧ h.2.2.1 k = ci) (hin : ∀ w ∈ u_ws C0 T0 N0, w ∈ Ts) (hj : j < N0) (hr : h.2.2.2.1 k j = 0) (hl : Cond.fieldLink own index (T0 j).1 (T0 j).2.1 (T0 j).2.2.1 ∈ Ts) {v : Int32} (hv : g k j = v) (hdg : decode cc pc = .ok (.getfield index, 3))
    (kk : W p l e R s m args below meth c H locs cells slots Q (F0 m (pc + 3) ls (.int v :: rest))) : W p l e R s m args below meth c H locs cells slots Q (F0 m pc ls (.ref (ad k) :: rest)) := by
  subst hv
  have hn : nfW (h.2.2.1 k) = N0 := by unfold nfW; rw [hk.2.2, hc]
  exact va_get (ref := (T0 j).1) C.1 C.2.1 C.2.2.2.2 hin C.2.2.2.1 hK hw.1 k (celW_obj hk) hc j hj (C.2.2.2.2 _ hl) (fun _ q => q) (fldW_int (by rw [hn]; exact hj) hr) hdg kk
theorem w_getr (C : CallFix p m c cc nL s args Ts own) (hK : va_K D vwCl (tysW T) s) (hw : mW h D T ad A s x g H locs) {k ci j q N0 index : Nat} {C0 : String} {T0 : u_T} (hc : vwCl[ci]? = some (C0, T0, N0)) (hk : k < h.1 ∧ h.2.1 k = 3 ∧ h.2.2.1 k = ci) (hin : ∀ w ∈ u_ws C0 T0 N0, w ∈ Ts) (hj : j < N0) (hr : h.2.2.2.1 k j = q + 1) (hl : Cond.fieldLink own index (T0 j).1 (T0 j).2.1 (T0 j).2.2.1 ∈ Ts) (hdg : decode cc pc = .ok (.getfield index, 3))
    (kk : W p l e R s m args below meth c H locs cells slots Q (F0 m (pc + 3) ls (.ref (ad q) :: rest))) : W p l e R s m args below meth c H locs cells slots Q (F0 m pc ls (.ref (ad k) :: rest)) := by
  have hn : nfW (h.2.2.1 k) = N0 := by unfold nfW; rw [hk.2.2, hc]
  exact va_get (ref := (T0 j).1) C.1 C.2.1 C.2.2.2.2 hin C.2.2.2.1 hK hw.1 k (celW_obj hk) hc j hj (C.2.2.2.2 _ hl) (fun _ q => q) (fldW_ref (by rw [hn]; exact hj) hr) hdg kk
theorem celW_put {k j ci : Nat} {v : Int32} (hk : k < h.1 ∧ h.2.1 k = 3 ∧ h.2.2.1 k = ci) (hj : j < nfW ci) (hr : h.2.2.2.1 k j = 0) : (wW h T ad x g).set k (ad k, .inr (ci, (fldW h ad g k).set j (.int v))) = wW h T ad x (st g k j v) := by
  refine wW_ext hk.1 ?_ (fun i hi => celW_st hi)
  rw [celW_3 hk.2.1, fldW_set (by rw [hk.2.2]; exact hj) hr, hk.2.2]
theorem w_put (C : CallFix p m c cc nL s args Ts own) (hK : va_K D vwCl (tysW T) s) (hw : mW h D T ad A s x g H locs) {k ci j N0 index : Nat} {C0 : String} {T0 : u_T} (hc : vwCl[ci]? = some (C0, T0, N0)) (hk : k < h.1 ∧ h.2.1 k = 3 ∧ h.2.2.1 k = ci) (hin : ∀ w ∈ u_ws C0 T0 N0, w ∈ Ts) (ty0 : Nat → FieldType) (hty : ∀ k, k < N0 → parseFieldDescriptor (T0 k).2.2.1 = some (ty0 k)) (hnm : ∀ a, a < N0 → ∀ b, b < N0 → a ≠ b → (T0 a).2.1 ≠ (T0 b).2.1) (hj : j < N0) (hr : h.2.2.2.1 k j = 0) (hl : Cond.fieldLink own index (T0 j).1 (T0 j).2.1 (T0 j).2.2.1 ∈ Ts) (hfin : (T0 j).2.2.2 = false) (hd : parseFieldDescriptor (T0 j).2.2.1 = some .int) {v : Int32} (hdg : decode cc pc = .ok (.putfield index, 3))
    (kk : ∀ (H1 : Heap) (locs1 : List Loc), mW h D T ad A s x (st g k j v) H1 locs1 → W p l e R s m args below meth c H1 locs1 cells slots Q (F0 m (pc + 3) ls rest)) : W p l e R s m args below meth c H locs cells slots Q (F0 m pc ls (.int v :: .ref (ad k) :: rest)) := by
  have hn : nfW ci = N0 := by unfold nfW; rw [hc]
  obtain ⟨hP, hD, hS, hA⟩ := hw
  refine va_put (ref := (T0 j).1) C.1 C.2.1 C.2.2.2.2 hin ty0 hty hnm C.2.2.2.1 hK hP hD hS k (celW_obj hk) hc j hj (C.2.2.2.2 _ hl) (fun _ q => q) hfin hd rfl rfl ?_ hdg (fun H1 locs1 hP1 hD1 hS1 => ?_)
  · unfold fldW
    rw [List.length_map, List.length_range, hk.2.2, hn]
    exact hj
  · rw [celW_put hk (by rw [hn]; exact hj) hr] at hP1 hD1
    exact kk H1 locs1 ⟨hP1, hD1, hS1, hA⟩

theorem w_cVi (C : CallFix p m c cc nL s args Ts own) (hK : va_K D vwCl (tysW T) s) (hw : mW h D T ad A s x g H locs) {y : MethodName} {ws ws' : List Cond} {rm : Room} {cy : ByteArray} {maxL n idx k ci N0 : Nat} {ret : Option FieldType} {As : List Value} {post : Int32 → St × Sl → Prop} {C0 : String} {T0 : u_T}
    (hM : Met l y ws rm (va_Pc (.ref (ad k) :: As) (wPre h D T ad x g H.size)) (va_Qi post (wPost h D T ad (aW h T ad x g H.size)) (aW h T ad x g H.size)) 0 0 (aW h T ad x g H.size))
    (hG : GoodIn Ts (wsV own idx C0 y ws)) (hws : ws = .code y cy maxL ret :: ws') (hd : y.cls = C0 ∧ y.cls ≠ "java/lang/invoke/MethodHandle" ∧ y.cls ≠ "java/lang/invoke/VarHandle" ∧ (parseMethodDescriptor y.desc).map (fun d => d.parameters.length) = some n) (hR : rm.frames + 1 ≤ R.frames ∧ 8 + (maxL + 11) + rm.locals ≤ R.locals) (hrm : rm.cells = 0 ∧ rm.slots = 0) (hcs : cells ≤ R.cells ∧ slots ≤ R.slots) (hc : vwCl[ci]? = some (C0, T0, N0)) (hk : k < h.1 ∧ h.2.1 k = 3 ∧ h.2.2.1 k = ci) (hn : As.length = n) {stk : List Value} (hstk : stk = As.reverse ++ .ref (ad k) :: rest) (hsz : ls.size = nL) (hcat : (rest.map fun v => v.category).sum ≤ 8) (hdg : decode cc pc = .ok (.invokevirtual idx, 3))
    (kk : ∀ (r : Int32) (u : St × Sl) (H1 : Heap) (locs1 : List Loc), post r u → mW h D T ad A s u.2 u.1 H1 locs1 → W p l e R s m args below meth c H1 locs1 cells slots Q (F0 m (pc + 3) ls (.int r :: rest))) : W p l e R s m args below meth c H locs cells slots Q (F0 m pc ls stk) := by
  subst hstk
  obtain ⟨hP, hD, hS, hA⟩ := id hw
  have hFc : ∀ q, aW h T ad x g H.size q → A q := fun q hq => by
    rcases hq with ⟨k9, e9, h9⟩ | hq
    · exact hD.2 k9 _ h9
    · exact hA q (Nat.le_trans hS.1 hq)
  have hpc : ∀ U : State, U.heap = H → s.WarmedH U.vm → va_Pc (.ref (ad k) :: As) (wPre h D T ad x g H.size) (Value.ref (ad k) :: As).toArray U := fun U hU hW => ⟨rfl, by rw [hU], by rw [hU]; exact hP, va_K.moved hW.alike hK, hD.weaken (fun _ _ _ _ => trivial)⟩
  refine va_calli (va_runV (nL := nL) (Ts := Ts) (own := own) (mc := 0) (ms := 0) (As := As) (rest := rest) C hM (cwV n C.2.2.2.2 hG hws hrm.1 hrm.2 hd hR) ⟨wPre_blind, va_recv hK hw.1 hc (celW_obj hk), hpc⟩ rfl hn hsz rfl (lv_room hcat) hdg hcs) hS (fun q _ hq => hFc q hq) hFc (fun r u t H1 locs1 ht hvm hp hB hz1 hk1 hS1 => ?_)
  obtain ⟨hP1, hK1, hD1⟩ := hB
  rw [ht] at hP1
  exact kk r u H1 locs1 hp ⟨hP1, hD1.weaken (fun _ _ _ hq => hFc _ hq), hS1, hA⟩
theorem w_cSi (C : CallFix p m c cc nL s args Ts own) (hK : va_K D vwCl (tysW T) s) (hw : mW h D T ad A s x g H locs) {y : MethodName} {ws ws' : List Cond} {rm : Room} {cy : ByteArray} {maxL n idx : Nat} {ret : Option FieldType} {As : List Value} {post : Int32 → St × Sl → Prop}
    (hM : Met l y ws rm (va_Pc As (wPre h D T ad x g H.size)) (va_Qi post (wPost h D T ad (aW h T ad x g H.size)) (aW h T ad x g H.size)) 0 0 (aW h T ad x g H.size))
    (hG : GoodIn Ts (va_wsS own idx y ws)) (hws : ws = .code y cy maxL ret :: ws') (hd : y.cls ≠ "java/lang/invoke/MethodHandle" ∧ y.cls ≠ "java/lang/invoke/VarHandle" ∧ (parseMethodDescriptor y.desc).map (fun d => d.parameters.length) = some n) (hR : rm.frames + 1 ≤ R.frames ∧ 8 + (maxL + 11) + rm.locals ≤ R.locals) (hrm : rm.cells = 0 ∧ rm.slots = 0) (hcs : cells ≤ R.cells ∧ slots ≤ R.slots) (hn : As.length = n) {stk : List Value} (hstk : stk = As.reverse ++ rest) (hsz : ls.size = nL) (hcat : (rest.map fun v => v.category).sum ≤ 8) (hdg : decode cc pc = .ok (.invokestatic idx, 3))
    (kk : ∀ (r : Int32) (u : St × Sl) (H1 : Heap) (locs1 : List Loc), post r u → mW h D T ad A s u.2 u.1 H1 locs1 → W p l e R s m args below meth c H1 locs1 cells slots Q (F0 m (pc + 3) ls (.int r :: rest))) : W p l e R s m args below meth c H locs cells slots Q (F0 m pc ls stk) := by
  subst hstk
  obtain ⟨hP, hD, hS, hA⟩ := id hw
  have hFc : ∀ q, aW h T ad x g H.size q → A q := fun q hq => by
    rcases hq with ⟨k9, e9, h9⟩ | hq
    · exact hD.2 k9 _ h9
    · exact hA q (Nat.le_trans hS.1 hq)
  have hpc : ∀ U : State, U.heap = H → s.WarmedH U.vm → va_Pc As (wPre h D T ad x g H.size) As.toArray U := fun U hU hW => ⟨rfl, by rw [hU], by rw [hU]; exact hP, va_K.moved hW.alike hK, hD.weaken (fun _ _ _ _ => trivial)⟩
  refine va_calli (va_runS (nL := nL) (Ts := Ts) (own := own) (mc := 0) (ms := 0) (As := As) (rest := rest) C hM (va_cwS n C.2.2.2.2 hG hws hrm.1 hrm.2 hd hR) ⟨wPre_blind, hpc⟩ rfl hn hsz rfl (lv_room hcat) hdg hcs) hS (fun q _ hq => hFc q hq) hFc (fun r u t H1 locs1 ht hvm hp hB hz1 hk1 hS1 => ?_)
  obtain ⟨hP1, hK1, hD1⟩ := hB
  rw [ht] at hP1
  exact kk r u H1 locs1 hp ⟨hP1, hD1.weaken (fun _ _ _ hq => hFc _ hq), hS1, hA⟩
theorem w_cVl (C : CallFix p m c cc nL s args Ts own) (hK : va_K D vwCl (tysW T) s) (hw : mW h D T ad A s x g H locs) {y : MethodName} {ws ws' : List Cond} {rm : Room} {cy : ByteArray} {maxL n idx k ci N0 : Nat} {ret : Option FieldType} {As : List Value} {post : Int64 → St × Sl → Prop} {C0 : String} {T0 : u_T}
    (hM : Met l y ws rm (va_Pc (.ref (ad k) :: As) (wPre h D T ad x g H.size)) (va_Ql post (wPost h D T ad (aW h T ad x g H.size)) (aW h T ad x g H.size)) 0 0 (aW h T ad x g H.size))
    (hG : GoodIn Ts (wsV own idx C0 y ws)) (hws : ws = .code y cy maxL ret :: ws') (hd : y.cls = C0 ∧ y.cls ≠ "java/lang/invoke/MethodHandle" ∧ y.cls ≠ "java/lang/invoke/VarHandle" ∧ (parseMethodDescriptor y.desc).map (fun d => d.parameters.length) = some n) (hR : rm.frames + 1 ≤ R.frames ∧ 8 + (maxL + 11) + rm.locals ≤ R.locals) (hrm : rm.cells = 0 ∧ rm.slots = 0) (hcs : cells ≤ R.cells ∧ slots ≤ R.slots) (hc : vwCl[ci]? = some (C0, T0, N0)) (hk : k < h.1 ∧ h.2.1 k = 3 ∧ h.2.2.1 k = ci) (hn : As.length = n) {stk : List Value} (hstk : stk = As.reverse ++ .ref (ad k) :: rest) (hsz : ls.size = nL) (hcat : (rest.map fun v => v.category).sum ≤ 8) (hdg : decode cc pc = .ok (.invokevirtual idx, 3))
    (kk : ∀ (r : Int64) (u : St × Sl) (H1 : Heap) (locs1 : List Loc), post r u → mW h D T ad A s u.2 u.1 H1 locs1 → W p l e R s m args below meth c H1 locs1 cells slots Q (F0 m (pc + 3) ls (.long r :: rest))) : W p l e R s m args below meth c H locs cells slots Q (F0 m pc ls stk) := by
  subst hstk
  obtain ⟨hP, hD, hS, hA⟩ := id hw
  have hFc : ∀ q, aW h T ad x g H.size q → A q := fun q hq => by
    rcases hq with ⟨k9, e9, h9⟩ | hq
    · exact hD.2 k9 _ h9
    · exact hA q (Nat.le_trans hS.1 hq)
  have hpc : ∀ U : State, U.heap = H → s.WarmedH U.vm → va_Pc (.ref (ad k) :: As) (wPre h D T ad x g H.size) (Value.ref (ad k) :: As).toArray U := fun U hU hW => ⟨rfl, by rw [hU], by rw [hU]; exact hP, va_K.moved hW.alike hK, hD.weaken (fun _ _ _ _ => trivial)⟩
  refine va_calll (va_runV (nL := nL) (Ts := Ts) (own := own) (mc := 0) (ms := 0) (As := As) (rest := rest) C hM (cwV n C.2.2.2.2 hG hws hrm.1 hrm.2 hd hR) ⟨wPre_blind, va_recv hK hw.1 hc (celW_obj hk), hpc⟩ rfl hn hsz rfl (lv_room hcat) hdg hcs) hS (fun q _ hq => hFc q hq) hFc (fun r u t H1 locs1 ht hvm hp hB hz1 hk1 hS1 => ?_)
  obtain ⟨hP1, hK1, hD1⟩ := hB
  rw [ht] at hP1
  exact kk r u H1 locs1 hp ⟨hP1, hD1.weaken (fun _ _ _ hq => hFc _ hq), hS1, hA⟩
theorem w_cSl (C : CallFix p m c cc nL s args Ts own) (hK : va_K D vwCl (tysW T) s) (hw : mW h D T ad A s x g H locs) {y : MethodName} {ws ws' : List Cond} {rm : Room} {cy : ByteArray} {maxL n idx : Nat} {ret : Option FieldType} {As : List Value} {post : Int64 → St × Sl → Prop}
    (hM : Met l y ws rm (va_Pc As (wPre h D T ad x g H.size)) (va_Ql post (wPost h D T ad (aW h T ad x g H.size)) (aW h T ad x g H.size)) 0 0 (aW h T ad x g H.size))
    (hG : GoodIn Ts (va_wsS own idx y ws)) (hws : ws = .code y cy maxL ret :: ws') (hd : y.cls ≠ "java/lang/invoke/MethodHandle" ∧ y.cls ≠ "java/lang/invoke/VarHandle" ∧ (parseMethodDescriptor y.desc).map (fun d => d.parameters.length) = some n) (hR : rm.frames + 1 ≤ R.frames ∧ 8 + (maxL + 11) + rm.locals ≤ R.locals) (hrm : rm.cells = 0 ∧ rm.slots = 0) (hcs : cells ≤ R.cells ∧ slots ≤ R.slots) (hn : As.length = n) {stk : List Value} (hstk : stk = As.reverse ++ rest) (hsz : ls.size = nL) (hcat : (rest.map fun v => v.category).sum ≤ 8) (hdg : decode cc pc = .ok (.invokestatic idx, 3))
    (kk : ∀ (r : Int64) (u : St × Sl) (H1 : Heap) (locs1 : List Loc), post r u → mW h D T ad A s u.2 u.1 H1 locs1 → W p l e R s m args below meth c H1 locs1 cells slots Q (F0 m (pc + 3) ls (.long r :: rest))) : W p l e R s m args below meth c H locs cells slots Q (F0 m pc ls stk) := by
  subst hstk
  obtain ⟨hP, hD, hS, hA⟩ := id hw
  have hFc : ∀ q, aW h T ad x g H.size q → A q := fun q hq => by
    rcases hq with ⟨k9, e9, h9⟩ | hq
    · exact hD.2 k9 _ h9
    · exact hA q (Nat.le_trans hS.1 hq)
  have hpc : ∀ U : State, U.heap = H → s.WarmedH U.vm → va_Pc As (wPre h D T ad x g H.size) As.toArray U := fun U hU hW => ⟨rfl, by rw [hU], by rw [hU]; exact hP, va_K.moved hW.alike hK, hD.weaken (fun _ _ _ _ => trivial)⟩
  refine va_calll (va_runS (nL := nL) (Ts := Ts) (own := own) (mc := 0) (ms := 0) (As := As) (rest := rest) C hM (va_cwS n C.2.2.2.2 hG hws hrm.1 hrm.2 hd hR) ⟨wPre_blind, hpc⟩ rfl hn hsz rfl (lv_room hcat) hdg hcs) hS (fun q _ hq => hFc q hq) hFc (fun r u t H1 locs1 ht hvm hp hB hz1 hk1 hS1 => ?_)
  obtain ⟨hP1, hK1, hD1⟩ := hB
  rw [ht] at hP1
  exact kk r u H1 locs1 hp ⟨hP1, hD1.weaken (fun _ _ _ hq => hFc _ hq), hS1, hA⟩
theorem w_cVv (C : CallFix p m c cc nL s args Ts own) (hK : va_K D vwCl (tysW T) s) (hw : mW h D T ad A s x g H locs) {y : MethodName} {ws ws' : List Cond} {rm : Room} {cy : ByteArray} {maxL n idx k ci N0 : Nat} {ret : Option FieldType} {As : List Value} {post : St × Sl → Prop} {C0 : String} {T0 : u_T}
    (hM : Met l y ws rm (va_Pc (.ref (ad k) :: As) (wPre h D T ad x g H.size)) (va_Qv post (wPost h D T ad (aW h T ad x g H.size)) (aW h T ad x g H.size)) 0 0 (aW h T ad x g H.size))
    (hG : GoodIn Ts (wsV own idx C0 y ws)) (hws : ws = .code y cy maxL ret :: ws') (hd : y.cls = C0 ∧ y.cls ≠ "java/lang/invoke/MethodHandle" ∧ y.cls ≠ "java/lang/invoke/VarHandle" ∧ (parseMethodDescriptor y.desc).map (fun d => d.parameters.length) = some n) (hR : rm.frames + 1 ≤ R.frames ∧ 8 + (maxL + 11) + rm.locals ≤ R.locals) (hrm : rm.cells = 0 ∧ rm.slots = 0) (hcs : cells ≤ R.cells ∧ slots ≤ R.slots) (hc : vwCl[ci]? = some (C0, T0, N0)) (hk : k < h.1 ∧ h.2.1 k = 3 ∧ h.2.2.1 k = ci) (hn : As.length = n) {stk : List Value} (hstk : stk = As.reverse ++ .ref (ad k) :: rest) (hsz : ls.size = nL) (hcat : (rest.map fun v => v.category).sum ≤ 8) (hdg : decode cc pc = .ok (.invokevirtual idx, 3))
    (kk : ∀ (u : St × Sl) (H1 : Heap) (locs1 : List Loc), post u → mW h D T ad A s u.2 u.1 H1 locs1 → W p l e R s m args below meth c H1 locs1 cells slots Q (F0 m (pc + 3) ls rest)) : W p l e R s m args below meth c H locs cells slots Q (F0 m pc ls stk) := by
  subst hstk
  obtain ⟨hP, hD, hS, hA⟩ := id hw
  have hFc : ∀ q, aW h T ad x g H.size q → A q := fun q hq => by
    rcases hq with ⟨k9, e9, h9⟩ | hq
    · exact hD.2 k9 _ h9
    · exact hA q (Nat.le_trans hS.1 hq)
  have hpc : ∀ U : State, U.heap = H → s.WarmedH U.vm → va_Pc (.ref (ad k) :: As) (wPre h D T ad x g H.size) (Value.ref (ad k) :: As).toArray U := fun U hU hW => ⟨rfl, by rw [hU], by rw [hU]; exact hP, va_K.moved hW.alike hK, hD.weaken (fun _ _ _ _ => trivial)⟩
  refine va_callv (va_runV (nL := nL) (Ts := Ts) (own := own) (mc := 0) (ms := 0) (As := As) (rest := rest) C hM (cwV n C.2.2.2.2 hG hws hrm.1 hrm.2 hd hR) ⟨wPre_blind, va_recv hK hw.1 hc (celW_obj hk), hpc⟩ rfl hn hsz rfl (lv_room hcat) hdg hcs) hS (fun q _ hq => hFc q hq) hFc (fun u t H1 locs1 ht hvm hp hB hz1 hk1 hS1 => ?_)
  obtain ⟨hP1, hK1, hD1⟩ := hB
  rw [ht] at hP1
  exact kk u H1 locs1 hp ⟨hP1, hD1.weaken (fun _ _ _ hq => hFc _ hq), hS1, hA⟩
theorem w_cSv (C : CallFix p m c cc nL s args Ts own) (hK : va_K D vwCl (tysW T) s) (hw : mW h D T ad A s x g H locs) {y : MethodName} {ws ws' : List Cond} {rm : Room} {cy : ByteArray} {maxL n idx : Nat} {ret : Option FieldType} {As : List Value} {post : St × Sl → Prop}
    (hM : Met l y ws rm (va_Pc As (wPre h D T ad x g H.size)) (va_Qv post (wPost h D T ad (aW h T ad x g H.size)) (aW h T ad x g H.size)) 0 0 (aW h T ad x g H.size))
    (hG : GoodIn Ts (va_wsS own idx y ws)) (hws : ws = .code y cy maxL ret :: ws') (hd : y.cls ≠ "java/lang/invoke/MethodHandle" ∧ y.cls ≠ "java/lang/invoke/VarHandle" ∧ (parseMethodDescriptor y.desc).map (fun d => d.parameters.length) = some n) (hR : rm.frames + 1 ≤ R.frames ∧ 8 + (maxL + 11) + rm.locals ≤ R.locals) (hrm : rm.cells = 0 ∧ rm.slots = 0) (hcs : cells ≤ R.cells ∧ slots ≤ R.slots) (hn : As.length = n) {stk : List Value} (hstk : stk = As.reverse ++ rest) (hsz : ls.size = nL) (hcat : (rest.map fun v => v.category).sum ≤ 8) (hdg : decode cc pc = .ok (.invokestatic idx, 3))
    (kk : ∀ (u : St × Sl) (H1 : Heap) (locs1 : List Loc), post u → mW h D T ad A s u.2 u.1 H1 locs1 → W p l e R s m args below meth c H1 locs1 cells slots Q (F0 m (pc + 3) ls rest)) : W p l e R s m args below meth c H locs cells slots Q (F0 m pc ls stk) := by
  subst hstk
  obtain ⟨hP, hD, hS, hA⟩ := id hw
  have hFc : ∀ q, aW h T ad x g H.size q → A q := fun q hq => by
    rcases hq with ⟨k9, e9, h9⟩ | hq
    · exact hD.2 k9 _ h9
    · exact hA q (Nat.le_trans hS.1 hq)
  have hpc : ∀ U : State, U.heap = H → s.WarmedH U.vm → va_Pc As (wPre h D T ad x g H.size) As.toArray U := fun U hU hW => ⟨rfl, by rw [hU], by rw [hU]; exact hP, va_K.moved hW.alike hK, hD.weaken (fun _ _ _ _ => trivial)⟩
  refine va_callv (va_runS (nL := nL) (Ts := Ts) (own := own) (mc := 0) (ms := 0) (As := As) (rest := rest) C hM (va_cwS n C.2.2.2.2 hG hws hrm.1 hrm.2 hd hR) ⟨wPre_blind, hpc⟩ rfl hn hsz rfl (lv_room hcat) hdg hcs) hS (fun q _ hq => hFc q hq) hFc (fun u t H1 locs1 ht hvm hp hB hz1 hk1 hS1 => ?_)
  obtain ⟨hP1, hK1, hD1⟩ := hB
  rw [ht] at hP1
  exact kk u H1 locs1 hp ⟨hP1, hD1.weaken (fun _ _ _ hq => hFc _ hq), hS1, hA⟩
theorem w_iret (C : CallFix p m c cc nL s args Ts own) (hr : meth.sig.returnType = some .int) (hlk : meth.locks = false) (hK : va_K D vwCl (tysW T) s) (hw : mW h D T ad A s x g H locs) {v : Int32} {post : Int32 → St × Sl → Prop} (hp : post v (g, x)) (hdg : decode cc pc = .ok (.ireturn, 1)) : W p l e R s m args below meth c H locs cells slots (MQ below (va_Qi post (wPost h D T ad A) A) args s cells slots A) (F0 m pc ls [.int v]) := by
  obtain ⟨hP, hD, hS, hA⟩ := hw
  exact W.iret C.1 C.2.1 hr (fun t ht hW => ⟨⟨v, (g, x), rfl, hp, by rw [ht]; exact hP, va_K.moved hW.alike hK, hD⟩, hS.F ht⟩) hS.2.2 hdg hlk
theorem w_zret (C : CallFix p m c cc nL s args Ts own) (hr : meth.sig.returnType = some .boolean) (hlk : meth.locks = false) (hK : va_K D vwCl (tysW T) s) (hw : mW h D T ad A s x g H locs) {v : Int32} {post : Int32 → St × Sl → Prop} (hz : narrow .boolean (.int v) = .int v) (hp : post v (g, x)) (hdg : decode cc pc = .ok (.ireturn, 1)) : W p l e R s m args below meth c H locs cells slots (MQ below (va_Qi post (wPost h D T ad A) A) args s cells slots A) (F0 m pc ls [.int v]) := by
  obtain ⟨hP, hD, hS, hA⟩ := hw
  exact W.zret C.1 C.2.1 hr hz (fun t ht hW => ⟨⟨v, (g, x), rfl, hp, by rw [ht]; exact hP, va_K.moved hW.alike hK, hD⟩, hS.F ht⟩) hS.2.2 hdg hlk
theorem w_lret (C : CallFix p m c cc nL s args Ts own) (hr : meth.sig.returnType = some .long) (hlk : meth.locks = false) (hK : va_K D vwCl (tysW T) s) (hw : mW h D T ad A s x g H locs) {v : Int64} {post : Int64 → St × Sl → Prop} (hp : post v (g, x)) (hdg : decode cc pc = .ok (.lreturn, 1)) : W p l e R s m args below meth c H locs cells slots (MQ below (va_Ql post (wPost h D T ad A) A) args s cells slots A) (F0 m pc ls [.long v]) := by
  obtain ⟨hP, hD, hS, hA⟩ := hw
  exact W.lret C.1 C.2.1 hr (fun t ht hW => ⟨⟨v, (g, x), rfl, hp, by rw [ht]; exact hP, va_K.moved hW.alike hK, hD⟩, hS.F ht⟩) hS.2.2 hdg hlk
theorem w_vret (C : CallFix p m c cc nL s args Ts own) (hr : meth.sig.returnType = none) (hlk : meth.locks = false) (hK : va_K D vwCl (tysW T) s) (hw : mW h D T ad A s x g H locs) {post : St × Sl → Prop} (hp : post (g, x)) (hdg : decode cc pc = .ok (.return_, 1)) : W p l e R s m args below meth c H locs cells slots (MQ below (va_Qv post (wPost h D T ad A) A) args s cells slots A) (F0 m pc ls []) := by
  obtain ⟨hP, hD, hS, hA⟩ := hw
  exact W.vret C.1 C.2.1 hr (fun t ht hW => ⟨⟨(g, x), rfl, hp, by rw [ht]; exact hP, va_K.moved hW.alike hK, hD⟩, hS.F ht⟩) hS.2.2 hdg hlk
end BASE
/-- a method's start -/
theorem w_start {l : Launch} {h : Sh} {D : va_G} {T : cT} {ad : Nat → Nat} {x : Sl} {g : St} {sz : Nat} {y : MethodName} {ws ws' : List Cond} {rm : Room} {cc : ByteArray} {maxL : Nat} {ret : Option FieldType} {own : String} {av : List Value} {Qc : (Nat → Prop) → Array Value → State → Outcome → State → Prop} (hy : plainName y.cls = true) (hws : ws = .code y cc maxL ret :: ws') (hcl : y.cls = own) (hav : (lg_sl av).length ≤ maxL)
    (body : ∀ (p : Program) (e : Env) (s : State) (m : MethodId) (args : Array Value) (below : List Frame) (meth : Method) (c : Code) (A : Nat → Prop) (ls : Array Slot), CallFix p m c cc maxL s args ws own → meth.sig.returnType = ret → meth.locks = false → va_K D vwCl (tysW T) s → mW h D T ad A s x g s.heap [] → lv_has ls maxL (lv_args 0 av) → W p l e rm s m args below meth c s.heap [] 0 0 (MQ below (Qc A) args s 0 0 A) (F0 m 0 ls [])) :
    Met l y ws rm (va_Pc av (wPre h D T ad x g sz)) (Qc (aW h T ad x g sz)) 0 0 (aW h T ad x g sz) := by
  refine Met.ofW (cc := cc) (maxL := maxL) (ret := ret) hy hws ?_
  intro p e s m args below meth c s₁ B hml hv
  obtain ⟨rfl, hsz, hP, hK, hD0⟩ := hv
  subst hsz
  have hts := atoms_spec (ws := ws) B.pre
  have hown : s.vm.findClass own = some m.cls := by rw [← hcl]; exact findClass_of_methodNamed B.named
  have hD := hD0.self (sz := s.heap.size)
  have hl := lv_entry av (n := maxL) hav
  rw [lg_entry_eq]
  exact body p e s m _ below meth c _ _ ⟨B.exec, B.bytes, hml, hown, hts⟩ B.returns B.notSynchronized hK ⟨hP, hD, va_S.rf, fun q hq => Or.inr hq⟩ hl
