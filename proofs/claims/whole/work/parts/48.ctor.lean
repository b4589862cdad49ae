/-! MAKING: the walks of constructors; a walk's world is a list of cells that grows -/
abbrev iA (T : cT) (q n : Nat) : Nat × va_E := (q, .inl (T.1, n, .inl (fun _ => 0)))
abbrev lA (T : cT) (q n : Nat) : Nat × va_E := (q, .inl (T.2.1, n, .inr (.inl (fun _ => 0))))
abbrev gA (T : cT) (q n : Nat) (r : Nat → Nat) : Nat × va_E := (q, .inl (T.2.2, n, .inr (.inr (.inr (.inr (fun i => if i < n then some (r i) else none))))))
abbrev oA (q ci : Nat) (fs : List Value) : Nat × va_E := (q, .inr (ci, fs))
def rwA (T : cT) (r : Nat → Nat) (n k : Nat) : va_W := (List.range n).map (fun i => iA T (r i) k)
def kPre (D : va_G) (T : cT) (E : (Nat → Prop) → State → Prop) (ws : va_W) (sz : Nat) : State → Prop := fun U => U.heap.size = sz ∧ va_P D vwCl ws U.heap ∧ va_K D vwCl (tysW T) U ∧ va_D (fun _ => True) ws ∧ E (va_A ws sz) U
def kPost (D : va_G) (T : cT) (A : Nat → Prop) (ws : va_W) : State → Prop := fun t => va_P D vwCl ws t.heap ∧ va_K D vwCl (tysW T) t ∧ va_D A ws
/-- a fact of the tables alone -/
def tabE (E : (Nat → Prop) → State → Prop) : Prop := ∀ (A : Nat → Prop) (u U : State), U.vm = u.vm → U.heap = u.heap → E A u → E A U
theorem kPre_blind {D : va_G} {T : cT} {E : (Nat → Prop) → State → Prop} {ws : va_W} {sz : Nat} {av : List Value} (hE : tabE E) : FrameBlind (va_Pc av (kPre D T E ws sz)) := fun a U f mk q => by
  obtain ⟨q0, q1, qP, qK, qD, qE⟩ := q
  exact ⟨q0, q1, qP, va_K.moved (u := U) (U := U.calling f mk a) (Vm.Alike.refl U.vm) qK, qD, hE _ U (U.calling f mk a) rfl rfl qE⟩
def Kj (l : Launch) (D : va_G) (nL : Nat) (R : Room) (kc ks : Nat) (Γ : Cxt) (Q : State → Prop) (ws : va_W) (pc : Nat) (lv : List (Nat × Value)) (stk : List Value) : Prop :=
  ∀ (H : Heap) (locs : List Loc) (ls : Array Slot), va_P D vwCl ws H → va_D Γ.A ws → va_S Γ.A Γ.s.heap H locs → lv_has ls nL lv → W Γ.p l Γ.e R Γ.s Γ.m Γ.args Γ.below Γ.meth Γ.c H locs kc ks Q (F0 Γ.m pc ls stk)
def Ck (D : va_G) (T : cT) (E : (Nat → Prop) → State → Prop) (cc : ByteArray) (nL : Nat) (Ts : List Cond) (own : String) (Γ : Cxt) : Prop := Cx D T cc nL Ts own none Γ ∧ Γ.meth.name = "<init>" ∧ (∀ q : Nat, Γ.s.heap.size ≤ q → Γ.A q) ∧ E Γ.A Γ.s
theorem k_start {l : Launch} {D : va_G} {T : cT} {E : (Nat → Prop) → State → Prop} {w0 : va_W} {sz mc ms : Nat} {y : MethodName} {ws ws' : List Cond} {rm : Room} {cc : ByteArray} {maxL : Nat} {own : String} {av : List Value} {Qc : (Nat → Prop) → Array Value → State → Outcome → State → Prop} (hy : plainName y.cls = true) (hnm : y.name = "<init>") (hws : ws = .code y cc maxL none :: ws') (hcl : y.cls = own) (hav : (lg_sl av).length ≤ maxL) {lv : List (Nat × Value)} (hlv : lv_args 0 av = lv)
    (body : ∀ Γ : Cxt, Ck D T E cc maxL ws own Γ → Kj l D maxL rm 0 0 Γ (MQ Γ.below (Qc Γ.A) Γ.args Γ.s mc ms Γ.A) w0 0 lv []) :
    Met l y ws rm (va_Pc av (kPre D T E w0 sz)) (Qc (va_A w0 sz)) mc ms (va_A w0 sz) := by
  refine Met.ofW (cc := cc) (maxL := maxL) (ret := none) hy hws ?_
  intro p e s m args below meth c s₁ B hml hv
  obtain ⟨rfl, hsz, hP, hK, hD0, hE⟩ := hv
  subst hsz
  have hts := atoms_spec (ws := ws) B.pre
  have hown : s.vm.findClass own = some m.cls := by rw [← hcl]; exact findClass_of_methodNamed B.named
  have hin : meth.name = "<init>" := by rw [← hnm]; exact (name_of_methodNamed B.named B.method).1
  have hD := hD0.self (sz := s.heap.size)
  have hl := lv_entry av (n := maxL) hav
  rw [lg_entry_eq]
  subst hlv
  exact body (p, e, s, m, _, below, meth, c, _) ⟨⟨⟨B.exec, B.bytes, hml, hown, hts⟩, hK, B.returns, B.notSynchronized⟩, hin, fun q hq => Or.inr hq, hE⟩ s.heap [] _ hP hD va_S.rf hl
section KR
variable {l : Launch} {D : va_G} {T : cT} {E : (Nat → Prop) → State → Prop} {nL : Nat} {R : Room} {kc ks : Nat} {Γ : Cxt} {Q : State → Prop} {ws : va_W} {pc : Nat} {lv : List (Nat × Value)} {rest : List Value} {cc : ByteArray} {Ts : List Cond} {own : String}
theorem k_aload (C : Ck D T E cc nL Ts own Γ) {k : Fin 4} {i v : Nat} (hdg : decode cc pc = .ok (.aload_n k, 1)) (hi : (k : Nat) = i) (j : Nat) (hj : lv[j]? = some (i, .ref v)) (K : Kj l D nL R kc ks Γ Q ws (pc + 1) lv (.ref v :: rest)) : Kj l D nL R kc ks Γ Q ws pc lv rest := fun H locs ls hP hD hS hl => lv_aload_n C.1.1.1 C.1.1.2.1 hdg hi (lv_at hl j hj) (K H locs ls hP hD hS hl)
theorem k_iconst (C : Ck D T E cc nL Ts own Γ) {n : Int} {v : Int32} (hdg : decode cc pc = .ok (.iconst n, 1)) (hv : Int32.ofInt n = v) (K : Kj l D nL R kc ks Γ Q ws (pc + 1) lv (.int v :: rest)) : Kj l D nL R kc ks Γ Q ws pc lv rest := fun H locs ls hP hD hS hl => lv_iconst C.1.1.1 C.1.1.2.1 hdg hv (K H locs ls hP hD hS hl)
theorem k_bipush (C : Ck D T E cc nL Ts own Γ) {n : Int} {v : Int32} (hdg : decode cc pc = .ok (.bipush n, 2)) (hv : (Int8.ofInt n).toInt32 = v) (K : Kj l D nL R kc ks Γ Q ws (pc + 2) lv (.int v :: rest)) : Kj l D nL R kc ks Γ Q ws pc lv rest := fun H locs ls hP hD hS hl => lv_bipush C.1.1.1 C.1.1.2.1 hdg hv (K H locs ls hP hD hS hl)
theorem k_sipush (C : Ck D T E cc nL Ts own Γ) {n : Int} {v : Int32} (hdg : decode cc pc = .ok (.sipush n, 3)) (hv : (Int16.ofInt n).toInt32 = v) (K : Kj l D nL R kc ks Γ Q ws (pc + 3) lv (.int v :: rest)) : Kj l D nL R kc ks Γ Q ws pc lv rest := fun H locs ls hP hD hS hl => lv_sipush C.1.1.1 C.1.1.2.1 hdg hv (K H locs ls hP hD hS hl)
theorem k_dup (C : Ck D T E cc nL Ts own Γ) {u : Value} (hdg : decode cc pc = .ok (.dup, 1)) (hu : u.category = 1) (K : Kj l D nL R kc ks Γ Q ws (pc + 1) lv (u :: u :: rest)) : Kj l D nL R kc ks Γ Q ws pc lv (u :: rest) := fun H locs ls hP hD hS hl => lv_dup C.1.1.1 C.1.1.2.1 hdg hu (K H locs ls hP hD hS hl)
theorem k_sub {ws' : va_W} (hp : ∀ H : Heap, va_P D vwCl ws H → va_P D vwCl ws' H) (hd : va_D Γ.A ws → va_D Γ.A ws') {stk : List Value} (K : Kj l D nL R kc ks Γ Q ws' pc lv stk) : Kj l D nL R kc ks Γ Q ws pc lv stk := fun H locs ls hP hD hS hl => K H locs ls (hp H hP) (hd hD) hS hl
theorem k_obj (C : Ck D T E cc nL Ts own Γ) {idx a : Nat} (h1 : Cond.methodLink own idx objectInit ∈ Ts) (h2 : Cond.instanceMethod objectInit ∈ Ts) (h3 : Cond.code objectInit ⟨#[0xb1]⟩ 1 none ∈ Ts) (hdg : decode cc pc = .ok (.invokespecial idx, 3)) (hf : 1 ≤ R.frames) (hlo : 12 ≤ R.locals) (K : Kj l D nL R kc ks Γ Q ws (pc + 3) lv []) : Kj l D nL R kc ks Γ Q ws pc lv [.ref a] := fun H locs ls hP hD hS hl => by
  have hts := C.1.1.2.2.2.2
  refine W.objInit C.1.1.1 C.1.1.2.1 C.1.1.2.2.2.1 (hts _ h1) (hts _ h2) (hts _ h3) rfl (by rw [C.1.1.2.2.1]; exact hl.1) rfl hdg hf hlo ?_
  exact W.eq (g2 := F0 Γ.m (pc + 3) ls []) rfl (K H locs ls hP hD hS hl)
theorem k_newi (C : Ck D T E cc nL Ts own Γ) {n : Int32} {N' kc' ks' : Nat} (harr : Cond.arrayClass .int ∈ Ts) (hn : ¬ n < 0) (hN : n.toNatClampNeg = N') (hby : N' * 4 ≤ 536870912) (hc : kc + 1 ≤ kc') (hs : ks + N' ≤ ks') (hcR : kc' ≤ R.cells) (hsR : ks' ≤ R.slots) (hdg : decode cc pc = .ok (.newarray .int, 2)) (K : ∀ q : Nat, Kj l D nL R kc' ks' Γ Q (ws ++ [iA T q N']) (pc + 2) lv (.ref q :: rest)) : Kj l D nL R kc ks Γ Q ws pc lv (.int n :: rest) := fun H locs ls hP hD hS hl => by
  refine va_newa (atype := .int) C.1.1.1 C.1.1.2.1 (C.1.1.2.2.2.2 _ harr) rfl C.1.2.1 hP hD hS C.2.2.1 (a0 := (N', .inl (fun _ => 0))) (fun cA => rfl) hn hN hby (by omega) (by omega) hdg (fun q cA H1 hK1 hP1 hD1 hS1 => ?_)
  have e : cA = T.1 := Option.some.inj ((hK1.2 3 (cA, .int) rfl).2.symm.trans (C.1.2.1.2 0 (T.1, .int) rfl).2)
  subst e
  exact W.widen hc hs (K q H1 locs ls hP1 hD1 hS1 hl)
theorem k_newl (C : Ck D T E cc nL Ts own Γ) {n : Int32} {N' kc' ks' : Nat} (harr : Cond.arrayClass .long ∈ Ts) (hn : ¬ n < 0) (hN : n.toNatClampNeg = N') (hby : N' * 8 ≤ 536870912) (hc : kc + 1 ≤ kc') (hs : ks + N' ≤ ks') (hcR : kc' ≤ R.cells) (hsR : ks' ≤ R.slots) (hdg : decode cc pc = .ok (.newarray .long, 2)) (K : ∀ q : Nat, Kj l D nL R kc' ks' Γ Q (ws ++ [lA T q N']) (pc + 2) lv (.ref q :: rest)) : Kj l D nL R kc ks Γ Q ws pc lv (.int n :: rest) := fun H locs ls hP hD hS hl => by
  refine va_newa (atype := .long) C.1.1.1 C.1.1.2.1 (C.1.1.2.2.2.2 _ harr) rfl C.1.2.1 hP hD hS C.2.2.1 (a0 := (N', .inr (.inl (fun _ => 0)))) (fun cA => rfl) hn hN hby (by omega) (by omega) hdg (fun q cA H1 hK1 hP1 hD1 hS1 => ?_)
  have e : cA = T.2.1 := Option.some.inj ((hK1.2 3 (cA, .long) rfl).2.symm.trans (C.1.2.1.2 1 (T.2.1, .long) rfl).2)
  subst e
  exact W.widen hc hs (K q H1 locs ls hP1 hD1 hS1 hl)
theorem k_mna (C : Ck D T E cc nL Ts own Γ) {n k : Int32} {N' K' kc' ks' index : Nat} (hcl : Cond.classLink own index "[[I" ∈ Ts) (harr : Cond.arrayClass .int ∈ Ts) (hov : va_AOA .int Γ.s) (hn : ¬ n < 0) (hk : ¬ k < 0) (hN : n.toNatClampNeg = N') (hM : k.toNatClampNeg = K') (hb1 : N' * 4 ≤ 536870912) (hb2 : K' * 4 ≤ 536870912) (hb3 : K' ≤ 536870912) (hc : kc + (1 + N') ≤ kc') (hs : ks + (N' + N' * K') ≤ ks') (hcR : kc' ≤ R.cells) (hsR : ks' ≤ R.slots) (hdg : decode cc pc = .ok (.multianewarray index 2, 4)) (K : ∀ (q : Nat) (r : Nat → Nat), Kj l D nL R kc' ks' Γ Q ((ws ++ [gA T q N' r]) ++ rwA T r N' K') (pc + 4) lv (.ref q :: rest)) : Kj l D nL R kc ks Γ Q ws pc lv (.int k :: .int n :: rest) := fun H locs ls hP hD hS hl => by
  have hts := C.1.1.2.2.2.2
  have hP0 : va_P D vwCl (ws ++ va_pl [] (fun _ => iA T 0 0 |>.2)) H := by rw [show va_pl [] (fun _ => iA T 0 0 |>.2) = [] from rfl, List.append_nil]; exact hP
  have hD0 : va_D Γ.A (ws ++ va_pl [] (fun _ => iA T 0 0 |>.2)) := by rw [show va_pl [] (fun _ => iA T 0 0 |>.2) = [] from rfl, List.append_nil]; exact hD
  refine va_mna (z := (K', .inl (fun _ => 0))) (cy := T.1) (ty := .int) C.1.1.1 C.1.1.2.1 C.1.1.2.2.2.1 (hts _ hcl) hov (hts _ harr) (C.1.2.1.2 0 (T.1, .int) rfl).2 C.1.2.1 hP0 hD0 hS C.2.2.1 hn hk hN hM hb1 hb2 hb3 rfl rfl (by omega) (by omega) (fun c => ?_) hdg (fun q r cA H1 hr1 hr2 hK1 hP1 hD1 hS1 => ?_)
  · show ({ cls := c, slots := Array.replicate K' (.int 0), vm := .none } : Cell) = _
    rw [arrV_new]
    rfl
  · have e : cA = T.2.2 := Option.some.inj ((hK1.2 3 (cA, .array .int) rfl).2.symm.trans (C.1.2.1.2 2 (T.2.2, .array .int) rfl).2)
    subst e
    have e2 : va_pl ([] ++ (List.range N').map r) (vr_up (fun _ => (iA T 0 0).2) ((List.range N').map r) (.inl (T.1, K', .inl (fun _ => 0)))) = rwA T r N' K' := by
      unfold va_pl rwA
      rw [List.nil_append, List.map_map]
      apply List.map_congr_left
      intro a ha
      show (r a, _) = _
      rw [vr_up_in (List.mem_map_of_mem ha)]
    rw [e2] at hP1 hD1
    exact W.widen (by omega) (by omega) (K q r H1 locs ls hP1 hD1 hS1 hl)
theorem k_putF (C : Ck D T E cc nL Ts own Γ) {a ci k index N0 : Nat} {C0 : String} {T0 : u_T} {fs fs' : List Value} {ws' : va_W} (hc : vwCl[ci]? = some (C0, T0, N0)) (hin : ∀ w ∈ u_ws C0 T0 N0, w ∈ Ts) (ty0 : Nat → FieldType) (hty : ∀ k, k < N0 → parseFieldDescriptor (T0 k).2.2.1 = some (ty0 k)) (hnm : ∀ a, a < N0 → ∀ b, b < N0 → a ≠ b → (T0 a).2.1 ≠ (T0 b).2.1) (hk : k < N0) (hl : Cond.fieldLink own index (T0 k).1 (T0 k).2.1 (T0 k).2.2.1 ∈ Ts) (hfin : (T0 k).2.2.2 = true) (hdecl : (T0 k).1 = own) {v : Value} (hn : narrow (ty0 k) v = v) (hfit : fits (ty0 k) v = true) (he : ws[0]? = some (oA a ci fs)) (hlen : k < fs.length) (hfs : fs.set k v = fs') (hw : ws.set 0 (oA a ci fs') = ws') (hdg : decode cc pc = .ok (.putfield index, 3)) (K : Kj l D nL R kc ks Γ Q ws' (pc + 3) lv rest) : Kj l D nL R kc ks Γ Q ws pc lv (v :: .ref a :: rest) := fun H locs ls hP hD hS hl' => by
  subst hfs hw
  exact va_putF C.1.1.1 C.1.1.2.1 C.1.1.2.2.2.2 hin ty0 hty hnm C.1.1.2.2.2.1 C.1.2.1 hP hD hS 0 he hc k hk (C.1.1.2.2.2.2 _ hl) (fun _ q => q) hfin C.2.1 hdecl (hty k hk) hn hfit hlen hdg (fun H1 locs1 hP1 hD1 hS1 => K H1 locs1 ls hP1 hD1 hS1 hl')
theorem k_put (C : Ck D T E cc nL Ts own Γ) {a ci k index N0 : Nat} {C0 : String} {T0 : u_T} {fs fs' : List Value} {ws' : va_W} (hc : vwCl[ci]? = some (C0, T0, N0)) (hin : ∀ w ∈ u_ws C0 T0 N0, w ∈ Ts) (ty0 : Nat → FieldType) (hty : ∀ k, k < N0 → parseFieldDescriptor (T0 k).2.2.1 = some (ty0 k)) (hnm : ∀ a, a < N0 → ∀ b, b < N0 → a ≠ b → (T0 a).2.1 ≠ (T0 b).2.1) (hk : k < N0) (hl : Cond.fieldLink own index (T0 k).1 (T0 k).2.1 (T0 k).2.2.1 ∈ Ts) (hfin : (T0 k).2.2.2 = false) {v : Value} (hn : narrow (ty0 k) v = v) (hfit : fits (ty0 k) v = true) (he : ws[0]? = some (oA a ci fs)) (hlen : k < fs.length) (hfs : fs.set k v = fs') (hw : ws.set 0 (oA a ci fs') = ws') (hdg : decode cc pc = .ok (.putfield index, 3)) (K : Kj l D nL R kc ks Γ Q ws' (pc + 3) lv rest) : Kj l D nL R kc ks Γ Q ws pc lv (v :: .ref a :: rest) := fun H locs ls hP hD hS hl' => by
  subst hfs hw
  exact va_put C.1.1.1 C.1.1.2.1 C.1.1.2.2.2.2 hin ty0 hty hnm C.1.1.2.2.2.1 C.1.2.1 hP hD hS 0 he hc k hk (C.1.1.2.2.2.2 _ hl) (fun _ q => q) hfin (hty k hk) hn hfit hlen hdg (fun H1 locs1 hP1 hD1 hS1 => K H1 locs1 ls hP1 hD1 hS1 hl')
theorem k_get (C : Ck D T E cc nL Ts own Γ) {a ci k index N0 : Nat} {C0 : String} {T0 : u_T} {fs : List Value} (hc : vwCl[ci]? = some (C0, T0, N0)) (hin : ∀ w ∈ u_ws C0 T0 N0, w ∈ Ts) (hk : k < N0) (hl : Cond.fieldLink own index (T0 k).1 (T0 k).2.1 (T0 k).2.2.1 ∈ Ts) {v : Value} (he : ws[0]? = some (oA a ci fs)) (hv : fs[k]? = some v) (hdg : decode cc pc = .ok (.getfield index, 3)) (K : Kj l D nL R kc ks Γ Q ws (pc + 3) lv (v :: rest)) : Kj l D nL R kc ks Γ Q ws pc lv (.ref a :: rest) := fun H locs ls hP hD hS hl' =>
  va_get C.1.1.1 C.1.1.2.1 C.1.1.2.2.2.2 hin C.1.1.2.2.2.1 C.1.2.1 hP 0 he hc k hk (C.1.1.2.2.2.2 _ hl) (fun _ q => q) hv hdg (K H locs ls hP hD hS hl')
theorem k_new (C : Ck D T E cc nL Ts own Γ) {ci index N0 kc' ks' : Nat} {C0 : String} {T0 : u_T} {fs : List Value} (hc : vwCl[ci]? = some (C0, T0, N0)) (hin : ∀ w ∈ u_ws C0 T0 N0, w ∈ Ts) (ty0 : Nat → FieldType) (hty : ∀ k, k < N0 → parseFieldDescriptor (T0 k).2.2.1 = some (ty0 k)) (h1 : Cond.classLink own index C0 ∈ Ts) (h2 : Cond.instantiable C0 N0 ∈ Ts) (h3 : Cond.initialized C0 ∈ Ts) (hfs : ∀ j, j < N0 → defaultValue (ty0 j) = vp_V fs j) (hkc : kc + 1 ≤ kc') (hks : ks + N0 ≤ ks') (hcR : kc' ≤ R.cells) (hsR : ks' ≤ R.slots) (hdg : decode cc pc = .ok (.new index, 3)) (K : ∀ q : Nat, Kj l D nL R kc' ks' Γ Q (ws ++ [oA q ci fs]) (pc + 3) lv (.ref q :: rest)) : Kj l D nL R kc ks Γ Q ws pc lv rest := fun H locs ls hP hD hS hl => by
  have hts := C.1.1.2.2.2.2
  exact va_new C.1.1.1 C.1.1.2.1 hts hin ty0 hty C.1.1.2.2.2.1 (hts _ h1) (hts _ h2) (hts _ h3) C.1.2.1 hP hD hS C.2.2.1 hc hfs (by omega) (by omega) hdg (fun q H1 hP1 hD1 hS1 => W.widen hkc hks (K q H1 locs ls hP1 hD1 hS1 hl))
theorem k_cI (C : Ck D T E cc nL Ts own Γ) {y : MethodName} {wsy wsy' : List Cond} {rm : Room} {cy : ByteArray} {maxL n idx b mc ms kc' ks' : Nat} {As : List Value} {wc wr : va_W} {w1 : (Nat → Nat) → va_W} {host : String}
    (hM : ∀ sz : Nat, Met l y wsy rm (va_Pc (.ref b :: As) (kPre D T (fun _ _ => True) wc sz)) (va_Qv (fun _ : Nat → Nat => True) (fun u => kPost D T (va_A wc sz) (w1 u)) (va_A wc sz)) mc ms (va_A wc sz))
    (hG : GoodIn Ts wsy) (hws : wsy = .code y cy maxL none :: wsy') (hN : va_Nw (.methodLinkNest own idx y host) Γ.s) (hini : Cond.initialized y.cls ∈ Ts) (hins : Cond.instanceMethod y ∈ Ts) (hnm : y.name = "<init>") (hd : y.cls ≠ "java/lang/invoke/MethodHandle" ∧ y.cls ≠ "java/lang/invoke/VarHandle" ∧ (parseMethodDescriptor y.desc).map (fun d => d.parameters.length) = some n) (hR : rm.frames + 1 ≤ R.frames ∧ 8 + (maxL + 11) + rm.locals ≤ R.locals) (hrm : rm.cells = mc ∧ rm.slots = ms) (hcs : kc + mc ≤ R.cells ∧ ks + ms ≤ R.slots) (hkc : kc + mc ≤ kc') (hks : ks + ms ≤ ks')
    (isC isR : List Nat) (hC : isC.map (fun i => ws[i]?) = wc.map some) (hRr : isR.map (fun i => ws[i]?) = wr.map some) (hnC : va_nd isC = true) (hnR : va_nd isR = true) (hdis : ∀ i ∈ isR, i ∉ isC) (hn : As.length = n) {stk : List Value} (hstk : stk = As.reverse ++ .ref b :: rest) (hcat : (rest.map fun v => v.category).sum ≤ 8) (hdg : decode cc pc = .ok (.invokespecial idx, 3))
    (K : ∀ u : Nat → Nat, Kj l D nL R kc' ks' Γ Q (wr ++ w1 u) (pc + 3) lv rest) : Kj l D nL R kc ks Γ Q ws pc lv stk := fun H locs ls hP hD hS hl => by
  subst hstk
  have hts := C.1.1.2.2.2.2
  have hPc : va_P D vwCl wc H := hP.sub isC (by
    have h2 := congrArg (List.filterMap id) hC
    rw [List.filterMap_map, List.filterMap_map] at h2
    simpa using h2)
  have hDc := hD.sub (ws' := wc) isC hnC hC
  have hFc := va_free (wc := wc) hD hS C.2.2.1 isC hC
  refine va_callv (va_runIN (host := host) (nL := nL) (Ts := Ts) (own := own) (mc := mc) (ms := ms) (As := As) (rest := rest) C.1.1 (hM H.size) ⟨va_cnB n hts hG hws hrm.1 hrm.2 hN (hts _ hini) hd hR, hnm, hts _ hins⟩ ⟨kPre_blind (fun _ _ _ _ _ q => q), fun U hU hW => ⟨rfl, by rw [hU], by rw [hU]; exact hPc, va_K.moved hW.alike C.1.2.1, hDc.weaken (fun _ _ _ _ => trivial), trivial⟩⟩ rfl hn hl.1 rfl (lv_room hcat) hdg hcs) hS (fun q _ h => hFc q h) hFc (fun u t H1 locs1 ht hvm hp hB hz1 hk1 hS1 => ?_)
  obtain ⟨hP1, hK1, hD1⟩ := hB
  rw [ht] at hP1
  obtain ⟨hP', hD'⟩ := va_join hP hD isC isR hC hRr hnR hdis hk1 hFc hP1 hD1
  exact W.widen hkc hks (K u H1 locs1 ls hP' hD' hS1 hl)
theorem k_cIl (C : Ck D T E cc nL Ts own Γ) {y : MethodName} {wsy wsy' : List Cond} {rm : Room} {cy : ByteArray} {maxL n idx b mc ms kc' ks' : Nat} {As : List Value} {wc wr : va_W} {w1 : (Nat → Nat) → va_W}
    (hM : ∀ sz : Nat, Met l y wsy rm (va_Pc (.ref b :: As) (kPre D T (fun _ _ => True) wc sz)) (va_Qv (fun _ : Nat → Nat => True) (fun u => kPost D T (va_A wc sz) (w1 u)) (va_A wc sz)) mc ms (va_A wc sz))
    (hG : GoodIn Ts wsy) (hws : wsy = .code y cy maxL none :: wsy') (hN : Cond.methodLink own idx y ∈ Ts) (hini : Cond.initialized y.cls ∈ Ts) (hins : Cond.instanceMethod y ∈ Ts) (hnm : y.name = "<init>") (hd : y.cls ≠ "java/lang/invoke/MethodHandle" ∧ y.cls ≠ "java/lang/invoke/VarHandle" ∧ (parseMethodDescriptor y.desc).map (fun d => d.parameters.length) = some n) (hR : rm.frames + 1 ≤ R.frames ∧ 8 + (maxL + 11) + rm.locals ≤ R.locals) (hrm : rm.cells = mc ∧ rm.slots = ms) (hcs : kc + mc ≤ R.cells ∧ ks + ms ≤ R.slots) (hkc : kc + mc ≤ kc') (hks : ks + ms ≤ ks')
    (isC isR : List Nat) (hC : isC.map (fun i => ws[i]?) = wc.map some) (hRr : isR.map (fun i => ws[i]?) = wr.map some) (hnC : va_nd isC = true) (hnR : va_nd isR = true) (hdis : ∀ i ∈ isR, i ∉ isC) (hn : As.length = n) {stk : List Value} (hstk : stk = As.reverse ++ .ref b :: rest) (hcat : (rest.map fun v => v.category).sum ≤ 8) (hdg : decode cc pc = .ok (.invokespecial idx, 3))
    (K : ∀ u : Nat → Nat, Kj l D nL R kc' ks' Γ Q (wr ++ w1 u) (pc + 3) lv rest) : Kj l D nL R kc ks Γ Q ws pc lv stk := fun H locs ls hP hD hS hl => by
  subst hstk
  have hts := C.1.1.2.2.2.2
  have hPc : va_P D vwCl wc H := hP.sub isC (by
    have h2 := congrArg (List.filterMap id) hC
    rw [List.filterMap_map, List.filterMap_map] at h2
    simpa using h2)
  have hDc := hD.sub (ws' := wc) isC hnC hC
  have hFc := va_free (wc := wc) hD hS C.2.2.1 isC hC
  refine va_callv (va_runI (nL := nL) (Ts := Ts) (own := own) (mc := mc) (ms := ms) (As := As) (rest := rest) C.1.1 (hM H.size) (cwI n hts hG hws hrm.1 hrm.2 (hts _ hini) (hts _ hN) (hts _ hins) hnm hd hR) ⟨kPre_blind (fun _ _ _ _ _ q => q), fun U hU hW => ⟨rfl, by rw [hU], by rw [hU]; exact hPc, va_K.moved hW.alike C.1.2.1, hDc.weaken (fun _ _ _ _ => trivial), trivial⟩⟩ rfl hn hl.1 rfl (lv_room hcat) hdg hcs) hS (fun q _ h => hFc q h) hFc (fun u t H1 locs1 ht hvm hp hB hz1 hk1 hS1 => ?_)
  obtain ⟨hP1, hK1, hD1⟩ := hB
  rw [ht] at hP1
  obtain ⟨hP', hD'⟩ := va_join hP hD isC isR hC hRr hnR hdis hk1 hFc hP1 hD1
  exact W.widen hkc hks (K u H1 locs1 ls hP' hD' hS1 hl)
/-- a nested constructor's end -/
theorem k_vret (C : Ck D T E cc nL Ts own Γ) {w1 : (Nat → Nat) → va_W} (u : Nat → Nat) (hw : ws = w1 u) (hdg : decode cc pc = .ok (.return_, 1)) : Kj l D nL R kc ks Γ (MQ Γ.below (va_Qv (fun _ : Nat → Nat => True) (fun u => kPost D T Γ.A (w1 u)) Γ.A) Γ.args Γ.s kc ks Γ.A) ws pc lv [] := fun H locs ls hP hD hS hl => by
  subst hw
  exact W.vret C.1.1.1 C.1.1.2.1 C.1.2.2.1 (fun t ht hW => ⟨⟨u, rfl, trivial, by rw [ht]; exact hP, va_K.moved hW.alike C.1.2.1, hD⟩, hS.F ht⟩) hS.2.2 hdg C.1.2.2.2
/-- what a constructor of a side leaves: the side's world, at places that it has found -/
def mkPost (h : Sh) (D : va_G) (T : cT) (A : Nat → Prop) : (Nat → Nat) × St × Sl → State → Prop := fun u t => wPost h D T u.1 A u.2 t
theorem k_side (C : Ck D T E cc nL Ts own Γ) {h : Sh} {ad : Nat → Nat} {x : Sl} {g : St} {stk : List Value} (hw : ws = wW h T ad x g) (K : Gj l h D T ad nL R kc ks Γ Q x g pc lv stk) : Kj l D nL R kc ks Γ Q ws pc lv stk := fun H locs ls hP hD hS hl => by
  subst hw
  exact K H locs ls ⟨hP, hD, hS, C.2.2.1⟩ hl
theorem g_mret (C : Ck D T E cc nL Ts own Γ) {h : Sh} {ad : Nat → Nat} {x : Sl} {g : St} {post : (Nat → Nat) × St × Sl → Prop} (hp : post (ad, g, x)) (hdg : decode cc pc = .ok (.return_, 1)) : Gj l h D T ad nL R kc ks Γ (MQ Γ.below (va_Qv post (mkPost h D T Γ.A) Γ.A) Γ.args Γ.s kc ks Γ.A) x g pc lv [] := fun H locs ls hw hl => by
  obtain ⟨hP, hD, hS, hA⟩ := hw
  exact W.vret C.1.1.1 C.1.1.2.1 C.1.2.2.1 (fun t ht hW => ⟨⟨(ad, g, x), rfl, hp, by rw [ht]; exact hP, va_K.moved hW.alike C.1.2.1, hD⟩, hS.F ht⟩) hS.2.2 hdg C.1.2.2.2
end KR
