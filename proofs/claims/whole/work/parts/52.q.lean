/-! THE LAW'S ROWS: walks over lists of cells -/
/-- a part of a world, and the world with that part changed -/
def Cut (D : va_G) (ws wc : va_W) (jn : va_W → va_W) : Prop :=
  (∀ H : Heap, va_P D vwCl ws H → va_P D vwCl wc H) ∧ (∀ A : Nat → Prop, va_D A ws → va_D A wc) ∧
  ∀ (A0 : Nat → Prop) (H H1 : Heap) (w1 : va_W), va_P D vwCl ws H → va_D A0 ws → (∀ q : Nat, q < H.size → ¬ va_A wc H.size q → H1[q]? = H[q]?) → (∀ q, va_A wc H.size q → A0 q) → va_P D vwCl w1 H1 → va_D (va_A wc H.size) w1 → va_P D vwCl (jn w1) H1 ∧ va_D A0 (jn w1)
theorem at_l {a b : va_W} {k : Nat} {q : Nat × va_E} (h : a[k]? = some q) : (a ++ b)[k]? = some q := by
  rw [List.getElem?_append_left (List.getElem?_eq_some_iff.mp h).1]; exact h
theorem at_r {a b : va_W} {k : Nat} {q : Nat × va_E} (h : b[k]? = some q) : (a ++ b)[a.length + k]? = some q := by
  rw [List.getElem?_append_right (by omega), show a.length + k - a.length = k by omega]; exact h
theorem cut_tail {D : va_G} {a wc : va_W} : Cut D (a ++ wc) wc (fun w => a ++ w) := by
  refine ⟨fun H hP k q hk => hP _ q (at_r hk), fun A hD => ⟨fun i j p q hi hj e => ?_, fun k q hk => hD.2 _ q (at_r hk)⟩, fun A0 H H1 w1 hP hD hk hF hP1 hD1 => ?_⟩
  · have := hD.1 _ _ p q (at_r hi) (at_r hj) e
    omega
  · have apart : ∀ (k : Nat) (q : Nat × va_E), a[k]? = some q → q.1 < H.size ∧ ¬ va_A wc H.size q.1 := fun k q hk0 => by
      have hl := (hP k q (at_l hk0)).lt
      refine ⟨hl, fun h => ?_⟩
      rcases h with ⟨k2, e, h⟩ | h
      · have := hD.1 _ _ q (q.1, e) (at_l hk0) (at_r h) rfl
        have h2 := (List.getElem?_eq_some_iff.mp hk0).1
        omega
      · omega
    refine ⟨va_P.app (fun k q hq => (hP k q (at_l hq)).kept (hk q.1 (apart k q hq).1 (apart k q hq).2)) hP1, va_D.app ⟨fun i j p q hi hj e => hD.1 i j p q (at_l hi) (at_l hj) e, fun k q hq => hD.2 k q (at_l hq)⟩ (hD1.weaken (fun k q _ h => hF q.1 h)) (fun i j x y hx hy hxy => ?_)⟩
    exact (apart i x hx).2 (by rw [hxy]; exact hD1.2 j y hy)
theorem cut_head {D : va_G} {wc b : va_W} : Cut D (wc ++ b) wc (fun w => w ++ b) := by
  obtain ⟨h1, h2, h3⟩ := @cut_tail D b wc
  have sP : ∀ {x y : va_W} {H : Heap}, va_P D vwCl (x ++ y) H → va_P D vwCl (y ++ x) H := fun {x y H} h => va_P.swap (a := []) h
  have sD : ∀ {x y : va_W} {A : Nat → Prop}, va_D A (x ++ y) → va_D A (y ++ x) := fun {x y A} h => va_D.swap (a := []) h
  refine ⟨fun H hP => h1 H (sP hP), fun A hD => h2 A (sD hD), fun A0 H H1 w1 hP hD hk hF hP1 hD1 => ?_⟩
  obtain ⟨g1, g2⟩ := h3 A0 H H1 w1 (sP hP) (sD hD) hk hF hP1 hD1
  exact ⟨sP g1, sD g2⟩
theorem cut_mid {D : va_G} {a wc b : va_W} : Cut D ((a ++ wc) ++ b) wc (fun w => (a ++ w) ++ b) := by
  obtain ⟨h1, h2, h3⟩ := @cut_tail D (a ++ b) wc
  refine ⟨fun H hP => h1 H (va_P.swap hP), fun A hD => h2 A (va_D.swap hD), fun A0 H H1 w1 hP hD hk hF hP1 hD1 => ?_⟩
  obtain ⟨g1, g2⟩ := h3 A0 H H1 w1 (va_P.swap hP) (va_D.swap hD) hk hF hP1 hD1
  exact ⟨va_P.swap g1, va_D.swap g2⟩
/-- the cell of out -/
abbrev oL (T : cT) (q : Nat) (f : Nat → Int64) : Nat × va_E := (q, .inl (T.2.1, 1, .inr (.inl f)))
/-- with q of class E thrown over the method's frame -/
def Kv (l : Launch) (nL : Nat) (D : va_G) (R : Room) (kc ks : Nat) (Γ : Cxt) (Q : State → Prop) (E : String) (ws : va_W) (pc : Nat) (lv : List (Nat × Value)) (stk : List Value) : Prop :=
  ∀ (H : Heap) (locs : List Loc) (ls : Array Slot), va_P D vwCl ws H → va_D Γ.A ws → va_S Γ.A Γ.s.heap H locs → lv_has ls nL lv → ∀ (q : Nat) (ce : Cell), H[q]? = some ce → ce.vm = .none → Γ.s.vm.findClass E = some ce.cls → vx_W Γ.p l Γ.e R Γ.s Γ.m Γ.args Γ.below Γ.meth Γ.c H locs kc ks Q (F0 Γ.m pc ls stk) q
section QROWS
variable {l : Launch} {D : va_G} {T : cT} {nL : Nat} {R : Room} {kc ks : Nat} {Γ : Cxt} {Q : State → Prop} {ws : va_W} {pc : Nat} {lv lv' : List (Nat × Value)} {rest : List Value} {cc : ByteArray} {Ts : List Cond} {own : String} {ret : Option FieldType}
theorem q_sub (ks' : List Nat) (hl : lv_pick lv ks' = lv') (K : Kj l D nL R kc ks Γ Q ws pc lv' rest) : Kj l D nL R kc ks Γ Q ws pc lv rest := fun H locs ls hP hD hS hl' => K H locs ls hP hD hS (lv_sub hl' ks' hl)
theorem q_iconst (C : Cx D T cc nL Ts own ret Γ) {n : Int} {v : Int32} (hdg : decode cc pc = .ok (.iconst n, 1)) (hv : Int32.ofInt n = v) (K : Kj l D nL R kc ks Γ Q ws (pc + 1) lv (.int v :: rest)) : Kj l D nL R kc ks Γ Q ws pc lv (rest) := fun H locs ls hP hD hS hl => lv_iconst C.1.1 C.1.2.1 hdg hv (K H locs ls hP hD hS hl)
theorem q_bipush (C : Cx D T cc nL Ts own ret Γ) {n : Int} {v : Int32} (hdg : decode cc pc = .ok (.bipush n, 2)) (hv : (Int8.ofInt n).toInt32 = v) (K : Kj l D nL R kc ks Γ Q ws (pc + 2) lv (.int v :: rest)) : Kj l D nL R kc ks Γ Q ws pc lv (rest) := fun H locs ls hP hD hS hl => lv_bipush C.1.1 C.1.2.1 hdg hv (K H locs ls hP hD hS hl)
theorem q_sipush (C : Cx D T cc nL Ts own ret Γ) {n : Int} {v : Int32} (hdg : decode cc pc = .ok (.sipush n, 3)) (hv : (Int16.ofInt n).toInt32 = v) (K : Kj l D nL R kc ks Γ Q ws (pc + 3) lv (.int v :: rest)) : Kj l D nL R kc ks Γ Q ws pc lv (rest) := fun H locs ls hP hD hS hl => lv_sipush C.1.1 C.1.2.1 hdg hv (K H locs ls hP hD hS hl)
theorem q_lconst (C : Cx D T cc nL Ts own ret Γ) {n : Fin 2} {v : Int64} (hdg : decode cc pc = .ok (.lconst n, 1)) (hv : Int64.ofNat (n : Nat) = v) (K : Kj l D nL R kc ks Γ Q ws (pc + 1) lv (.long v :: rest)) : Kj l D nL R kc ks Γ Q ws pc lv (rest) := fun H locs ls hP hD hS hl => lv_lconst C.1.1 C.1.2.1 hdg hv (K H locs ls hP hD hS hl)
theorem q_iload_n (C : Cx D T cc nL Ts own ret Γ) {k : Fin 4} {i : Nat} {v : Int32} (hdg : decode cc pc = .ok (.iload_n k, 1)) (hi : (k : Nat) = i) (j : Nat) (hj : lv[j]? = some (i, .int v)) (K : Kj l D nL R kc ks Γ Q ws (pc + 1) lv (.int v :: rest)) : Kj l D nL R kc ks Γ Q ws pc lv (rest) := fun H locs ls hP hD hS hl => lv_iload_n C.1.1 C.1.2.1 hdg hi (lv_at hl j hj) (K H locs ls hP hD hS hl)
theorem q_iload (C : Cx D T cc nL Ts own ret Γ) {i : Nat} {v : Int32} (hdg : decode cc pc = .ok (.iload i, 2)) (j : Nat) (hj : lv[j]? = some (i, .int v)) (K : Kj l D nL R kc ks Γ Q ws (pc + 2) lv (.int v :: rest)) : Kj l D nL R kc ks Γ Q ws pc lv (rest) := fun H locs ls hP hD hS hl => lv_iload C.1.1 C.1.2.1 hdg (lv_at hl j hj) (K H locs ls hP hD hS hl)
theorem q_istore_n (C : Cx D T cc nL Ts own ret Γ) {k : Fin 4} {i : Nat} {v : Int32} (hdg : decode cc pc = .ok (.istore_n k, 1)) (hi : (k : Nat) = i) (hn : i < nL) (hl : (i, Value.int v) :: lv.filter (fun q => !(q.1 == i) && !(q.1 + 1 == i && q.2.category == 2)) = lv') (K : Kj l D nL R kc ks Γ Q ws (pc + 1) lv' (rest)) : Kj l D nL R kc ks Γ Q ws pc lv (.int v :: rest) := fun H locs ls hP hD hS hl' => lv_istore_n C.1.1 C.1.2.1 hdg hi hl' hn hl (fun ls hl => K H locs ls hP hD hS hl)
theorem q_istore (C : Cx D T cc nL Ts own ret Γ) {i : Nat} {v : Int32} (hdg : decode cc pc = .ok (.istore i, 2)) (hn : i < nL) (hl : (i, Value.int v) :: lv.filter (fun q => !(q.1 == i) && !(q.1 + 1 == i && q.2.category == 2)) = lv') (K : Kj l D nL R kc ks Γ Q ws (pc + 2) lv' (rest)) : Kj l D nL R kc ks Γ Q ws pc lv (.int v :: rest) := fun H locs ls hP hD hS hl' => lv_istore C.1.1 C.1.2.1 hdg hl' hn hl (fun ls hl => K H locs ls hP hD hS hl)
theorem q_lload_n (C : Cx D T cc nL Ts own ret Γ) {k : Fin 4} {i : Nat} {v : Int64} (hdg : decode cc pc = .ok (.lload_n k, 1)) (hi : (k : Nat) = i) (j : Nat) (hj : lv[j]? = some (i, .long v)) (K : Kj l D nL R kc ks Γ Q ws (pc + 1) lv (.long v :: rest)) : Kj l D nL R kc ks Γ Q ws pc lv (rest) := fun H locs ls hP hD hS hl => lv_lload_n C.1.1 C.1.2.1 hdg hi (lv_at hl j hj) (K H locs ls hP hD hS hl)
theorem q_lload (C : Cx D T cc nL Ts own ret Γ) {i : Nat} {v : Int64} (hdg : decode cc pc = .ok (.lload i, 2)) (j : Nat) (hj : lv[j]? = some (i, .long v)) (K : Kj l D nL R kc ks Γ Q ws (pc + 2) lv (.long v :: rest)) : Kj l D nL R kc ks Γ Q ws pc lv (rest) := fun H locs ls hP hD hS hl => lv_lload C.1.1 C.1.2.1 hdg (lv_at hl j hj) (K H locs ls hP hD hS hl)
theorem q_lstore_n (C : Cx D T cc nL Ts own ret Γ) {k : Fin 4} {i : Nat} {v : Int64} (hdg : decode cc pc = .ok (.lstore_n k, 1)) (hi : (k : Nat) = i) (hn : i + 1 < nL) (hl : (i, Value.long v) :: lv.filter (fun q => !(q.1 == i) && (!(q.1 == i + 1) && !(q.1 + 1 == i && q.2.category == 2))) = lv') (K : Kj l D nL R kc ks Γ Q ws (pc + 1) lv' (rest)) : Kj l D nL R kc ks Γ Q ws pc lv (.long v :: rest) := fun H locs ls hP hD hS hl' => lv_lstore_n C.1.1 C.1.2.1 hdg hi hl' hn hl (fun ls hl => K H locs ls hP hD hS hl)
theorem q_lstore (C : Cx D T cc nL Ts own ret Γ) {i : Nat} {v : Int64} (hdg : decode cc pc = .ok (.lstore i, 2)) (hn : i + 1 < nL) (hl : (i, Value.long v) :: lv.filter (fun q => !(q.1 == i) && (!(q.1 == i + 1) && !(q.1 + 1 == i && q.2.category == 2))) = lv') (K : Kj l D nL R kc ks Γ Q ws (pc + 2) lv' (rest)) : Kj l D nL R kc ks Γ Q ws pc lv (.long v :: rest) := fun H locs ls hP hD hS hl' => lv_lstore C.1.1 C.1.2.1 hdg hl' hn hl (fun ls hl => K H locs ls hP hD hS hl)
theorem q_aload_n (C : Cx D T cc nL Ts own ret Γ) {k : Fin 4} {i : Nat} {v : Nat} (hdg : decode cc pc = .ok (.aload_n k, 1)) (hi : (k : Nat) = i) (j : Nat) (hj : lv[j]? = some (i, .ref v)) (K : Kj l D nL R kc ks Γ Q ws (pc + 1) lv (.ref v :: rest)) : Kj l D nL R kc ks Γ Q ws pc lv (rest) := fun H locs ls hP hD hS hl => lv_aload_n C.1.1 C.1.2.1 hdg hi (lv_at hl j hj) (K H locs ls hP hD hS hl)
theorem q_aload (C : Cx D T cc nL Ts own ret Γ) {i : Nat} {v : Nat} (hdg : decode cc pc = .ok (.aload i, 2)) (j : Nat) (hj : lv[j]? = some (i, .ref v)) (K : Kj l D nL R kc ks Γ Q ws (pc + 2) lv (.ref v :: rest)) : Kj l D nL R kc ks Γ Q ws pc lv (rest) := fun H locs ls hP hD hS hl => lv_aload C.1.1 C.1.2.1 hdg (lv_at hl j hj) (K H locs ls hP hD hS hl)
theorem q_astore_n (C : Cx D T cc nL Ts own ret Γ) {k : Fin 4} {i : Nat} {v : Nat} (hdg : decode cc pc = .ok (.astore_n k, 1)) (hi : (k : Nat) = i) (hn : i < nL) (hl : (i, Value.ref v) :: lv.filter (fun q => !(q.1 == i) && !(q.1 + 1 == i && q.2.category == 2)) = lv') (K : Kj l D nL R kc ks Γ Q ws (pc + 1) lv' (rest)) : Kj l D nL R kc ks Γ Q ws pc lv (.ref v :: rest) := fun H locs ls hP hD hS hl' => lv_astore_n C.1.1 C.1.2.1 hdg hi hl' hn hl (fun ls hl => K H locs ls hP hD hS hl)
theorem q_astore (C : Cx D T cc nL Ts own ret Γ) {i : Nat} {v : Nat} (hdg : decode cc pc = .ok (.astore i, 2)) (hn : i < nL) (hl : (i, Value.ref v) :: lv.filter (fun q => !(q.1 == i) && !(q.1 + 1 == i && q.2.category == 2)) = lv') (K : Kj l D nL R kc ks Γ Q ws (pc + 2) lv' (rest)) : Kj l D nL R kc ks Γ Q ws pc lv (.ref v :: rest) := fun H locs ls hP hD hS hl' => lv_astore C.1.1 C.1.2.1 hdg hl' hn hl (fun ls hl => K H locs ls hP hD hS hl)
theorem q_iinc (C : Cx D T cc nL Ts own ret Γ) {i : Nat} {n : Int} {u v : Int32} (hdg : decode cc pc = .ok (.iinc i n, 3)) (k : Nat) (hk : lv[k]? = some (i, .int u)) (hv : u + Int32.ofInt n = v) (hn : i < nL) (hl : (i, Value.int v) :: lv.filter (fun q => !(q.1 == i) && !(q.1 + 1 == i && q.2.category == 2)) = lv') (K : Kj l D nL R kc ks Γ Q ws (pc + 3) lv' (rest)) : Kj l D nL R kc ks Γ Q ws pc lv (rest) := fun H locs ls hP hD hS hl' => lv_iinc C.1.1 C.1.2.1 hdg hl' hk hv hn hl (fun ls hl => K H locs ls hP hD hS hl)
theorem q_iadd (C : Cx D T cc nL Ts own ret Γ) {u v : Int32} (hdg : decode cc pc = .ok (.iadd, 1))  (K : Kj l D nL R kc ks Γ Q ws (pc + 1) lv (.int (u + v) :: rest)) : Kj l D nL R kc ks Γ Q ws pc lv (.int v :: .int u :: rest) := fun H locs ls hP hD hS hl => lv_iadd C.1.1 C.1.2.1 hdg (K H locs ls hP hD hS hl)
theorem q_isub (C : Cx D T cc nL Ts own ret Γ) {u v : Int32} (hdg : decode cc pc = .ok (.isub, 1))  (K : Kj l D nL R kc ks Γ Q ws (pc + 1) lv (.int (u - v) :: rest)) : Kj l D nL R kc ks Γ Q ws pc lv (.int v :: .int u :: rest) := fun H locs ls hP hD hS hl => lv_isub C.1.1 C.1.2.1 hdg (K H locs ls hP hD hS hl)
theorem q_iand (C : Cx D T cc nL Ts own ret Γ) {u v : Int32} (hdg : decode cc pc = .ok (.iand, 1))  (K : Kj l D nL R kc ks Γ Q ws (pc + 1) lv (.int (u &&& v) :: rest)) : Kj l D nL R kc ks Γ Q ws pc lv (.int v :: .int u :: rest) := fun H locs ls hP hD hS hl => lv_iand C.1.1 C.1.2.1 hdg (K H locs ls hP hD hS hl)
theorem q_i2l (C : Cx D T cc nL Ts own ret Γ) {u : Int32} (hdg : decode cc pc = .ok (.i2l, 1))  (K : Kj l D nL R kc ks Γ Q ws (pc + 1) lv (.long u.toInt64 :: rest)) : Kj l D nL R kc ks Γ Q ws pc lv (.int u :: rest) := fun H locs ls hP hD hS hl => lv_i2l C.1.1 C.1.2.1 hdg rfl (K H locs ls hP hD hS hl)
theorem q_lcmp (C : Cx D T cc nL Ts own ret Γ) {u v : Int64} (hdg : decode cc pc = .ok (.lcmp, 1))  (K : Kj l D nL R kc ks Γ Q ws (pc + 1) lv (.int (lg_cmp u v) :: rest)) : Kj l D nL R kc ks Γ Q ws pc lv (.long v :: .long u :: rest) := fun H locs ls hP hD hS hl => W.lcmp C.1.1 C.1.2.1 hdg (K H locs ls hP hD hS hl)
theorem q_dup (C : Cx D T cc nL Ts own ret Γ) {u : Value} (hdg : decode cc pc = .ok (.dup, 1)) (hu : u.category = 1) (K : Kj l D nL R kc ks Γ Q ws (pc + 1) lv (u :: u :: rest)) : Kj l D nL R kc ks Γ Q ws pc lv (u :: rest) := fun H locs ls hP hD hS hl => lv_dup C.1.1 C.1.2.1 hdg hu (K H locs ls hP hD hS hl)
theorem q_pop (C : Cx D T cc nL Ts own ret Γ) {u : Value} (hdg : decode cc pc = .ok (.pop, 1)) (hu : u.category = 1) (K : Kj l D nL R kc ks Γ Q ws (pc + 1) lv (rest)) : Kj l D nL R kc ks Γ Q ws pc lv (u :: rest) := fun H locs ls hP hD hS hl => lv_pop C.1.1 C.1.2.1 hdg hu (K H locs ls hP hD hS hl)
theorem q_goto (C : Cx D T cc nL Ts own ret Γ) {off : Int} {tgt : Nat} (hdg : decode cc pc = .ok (.goto off, 3)) (ht : (pc : Int) + off = (tgt : Int)) (K : Kj l D nL R kc ks Γ Q ws tgt lv (rest)) : Kj l D nL R kc ks Γ Q ws pc lv (rest) := fun H locs ls hP hD hS hl => lv_goto C.1.1 C.1.2.1 hdg ht (K H locs ls hP hD hS hl)
theorem q_if_eq (C : Cx D T cc nL Ts own ret Γ) {u : Int32} {off : Int} (tgt : Nat) (hdg : decode cc pc = .ok (.ifCond .eq off, 3)) (ht : (pc : Int) + off = (tgt : Int)) (kt : u = 0 → Kj l D nL R kc ks Γ Q ws tgt lv (rest)) (kf : ¬ u = 0 → Kj l D nL R kc ks Γ Q ws (pc + 3) lv (rest)) : Kj l D nL R kc ks Γ Q ws pc lv (.int u :: rest) := fun H locs ls hP hD hS hl => lv_if_eq C.1.1 C.1.2.1 hdg ht (fun q => kt q H locs ls hP hD hS hl) (fun q => kf q H locs ls hP hD hS hl)
theorem q_if_ne (C : Cx D T cc nL Ts own ret Γ) {u : Int32} {off : Int} (tgt : Nat) (hdg : decode cc pc = .ok (.ifCond .ne off, 3)) (ht : (pc : Int) + off = (tgt : Int)) (kf : u = 0 → Kj l D nL R kc ks Γ Q ws (pc + 3) lv (rest)) (kt : ¬ u = 0 → Kj l D nL R kc ks Γ Q ws tgt lv (rest)) : Kj l D nL R kc ks Γ Q ws pc lv (.int u :: rest) := fun H locs ls hP hD hS hl => lv_if_ne C.1.1 C.1.2.1 hdg ht (fun q => kt q H locs ls hP hD hS hl) (fun q => kf q H locs ls hP hD hS hl)
theorem q_icmp_eq (C : Cx D T cc nL Ts own ret Γ) {u v : Int32} {off : Int} (tgt : Nat) (hdg : decode cc pc = .ok (.if_icmp .eq off, 3)) (ht : (pc : Int) + off = (tgt : Int)) (kt : u = v → Kj l D nL R kc ks Γ Q ws tgt lv (rest)) (kf : ¬ u = v → Kj l D nL R kc ks Γ Q ws (pc + 3) lv (rest)) : Kj l D nL R kc ks Γ Q ws pc lv (.int v :: .int u :: rest) := fun H locs ls hP hD hS hl => lv_icmp_eq C.1.1 C.1.2.1 hdg ht (fun q => kt q H locs ls hP hD hS hl) (fun q => kf q H locs ls hP hD hS hl)
theorem q_icmp_ne (C : Cx D T cc nL Ts own ret Γ) {u v : Int32} {off : Int} (tgt : Nat) (hdg : decode cc pc = .ok (.if_icmp .ne off, 3)) (ht : (pc : Int) + off = (tgt : Int)) (kf : u = v → Kj l D nL R kc ks Γ Q ws (pc + 3) lv (rest)) (kt : ¬ u = v → Kj l D nL R kc ks Γ Q ws tgt lv (rest)) : Kj l D nL R kc ks Γ Q ws pc lv (.int v :: .int u :: rest) := fun H locs ls hP hD hS hl => lv_icmp_ne C.1.1 C.1.2.1 hdg ht (fun q => kt q H locs ls hP hD hS hl) (fun q => kf q H locs ls hP hD hS hl)
theorem q_icmp_gt (C : Cx D T cc nL Ts own ret Γ) {u v : Int32} {off : Int} (tgt : Nat) (hdg : decode cc pc = .ok (.if_icmp .gt off, 3)) (ht : (pc : Int) + off = (tgt : Int)) (kt : v < u → Kj l D nL R kc ks Γ Q ws tgt lv (rest)) (kf : ¬ v < u → Kj l D nL R kc ks Γ Q ws (pc + 3) lv (rest)) : Kj l D nL R kc ks Γ Q ws pc lv (.int v :: .int u :: rest) := fun H locs ls hP hD hS hl => lv_icmp_gt C.1.1 C.1.2.1 hdg ht (fun q => kt q H locs ls hP hD hS hl) (fun q => kf q H locs ls hP hD hS hl)
theorem q_tabIn (C : Cx D T cc nL Ts own ret Γ) {dflt lo hi off : Int} {offs : Array Int} {len : Nat} {u : Int32} (v : Int32) (tgt : Nat) (hdg : decode cc pc = .ok (.tableswitch dflt lo hi offs, len)) (hu : u = v) (h1 : ¬ v.toInt < lo) (h2 : ¬ hi < v.toInt) (ho : offs[(v.toInt - lo).toNat]? = some off) (ht : (pc : Int) + off = (tgt : Int)) (K : Kj l D nL R kc ks Γ Q ws tgt lv (rest)) : Kj l D nL R kc ks Γ Q ws pc lv (.int u :: rest) := fun H locs ls hP hD hS hl => by subst hu; exact lv_tableIn C.1.1 C.1.2.1 hdg h1 h2 ho ht (K H locs ls hP hD hS hl)
theorem q_tabOut (C : Cx D T cc nL Ts own ret Γ) {dflt lo hi : Int} {offs : Array Int} {len : Nat} {u : Int32} (tgt : Nat) (hdg : decode cc pc = .ok (.tableswitch dflt lo hi offs, len)) (hu : u.toInt < lo ∨ hi < u.toInt) (ht : (pc : Int) + dflt = (tgt : Int)) (K : Kj l D nL R kc ks Γ Q ws tgt lv (rest)) : Kj l D nL R kc ks Γ Q ws pc lv (.int u :: rest) := fun H locs ls hP hD hS hl => lv_tableOut C.1.1 C.1.2.1 hdg hu ht (K H locs ls hP hD hS hl)
theorem q_lald (C : Cx D T cc nL Ts own ret Γ) {a : Nat} {f : Nat → Int64} (he : ws[0]? = some (oL T a f)) (hdg : decode cc pc = .ok (.laload, 1)) (K : Kj l D nL R kc ks Γ Q ws (pc + 1) lv (.long (f 0) :: rest)) : Kj l D nL R kc ks Γ Q ws pc lv (.int 0 :: .ref a :: rest) := fun H locs ls hP hD hS hl =>
  va_lald C.1.1 C.1.2.1 C.2.1 hP 0 1 he rfl (i := 0) (by unfold vp_in; decide) hdg (K H locs ls hP hD hS hl)
theorem q_last (C : Cx D T cc nL Ts own ret Γ) {a : Nat} {f : Nat → Int64} {v : Int64} {ws' : va_W} (he : ws[0]? = some (oL T a f)) (hw : ws.set 0 (oL T a (vp_updL f 0 v)) = ws') (hdg : decode cc pc = .ok (.lastore, 1)) (K : Kj l D nL R kc ks Γ Q ws' (pc + 1) lv rest) : Kj l D nL R kc ks Γ Q ws pc lv (.long v :: .int 0 :: .ref a :: rest) := fun H locs ls hP hD hS hl => by
  subst hw
  exact va_last C.1.1 C.1.2.1 C.2.1 hP hD hS 0 1 he rfl (i := 0) (by unfold vp_in; decide) hdg (fun H1 locs1 hP1 hD1 hS1 => K H1 locs1 ls hP1 hD1 hS1 hl)
theorem q_sld (C : Cx D T cc nL Ts own ret Γ) {b L : Nat} {xs : Nat → Int32} (hX : va_X b L xs Γ.s Γ.s.heap) (hbl : b < Γ.s.heap.size) (hbA : ¬ Γ.A b) {i : Int32} (hin : vp_in i L) {v : Int32} (hv : xs i.toNatClampNeg = v) (hdg : decode cc pc = .ok (.iaload, 1)) (K : Kj l D nL R kc ks Γ Q ws (pc + 1) lv (.int v :: rest)) : Kj l D nL R kc ks Γ Q ws pc lv (.int i :: .ref b :: rest) := fun H locs ls hP hD hS hl => by
  subst hv
  exact va_sld C.1.1 C.1.2.1 hX hbl hbA hS hin hdg (K H locs ls hP hD hS hl)
theorem q_slen (C : Cx D T cc nL Ts own ret Γ) {b L : Nat} {xs : Nat → Int32} (hX : va_X b L xs Γ.s Γ.s.heap) (hbl : b < Γ.s.heap.size) (hbA : ¬ Γ.A b) (hdg : decode cc pc = .ok (.arraylength, 1)) (K : Kj l D nL R kc ks Γ Q ws (pc + 1) lv (.int (Int32.ofNat L) :: rest)) : Kj l D nL R kc ks Γ Q ws pc lv (.ref b :: rest) := fun H locs ls hP hD hS hl =>
  va_slen C.1.1 C.1.2.1 hX hbl hbA hS hdg (K H locs ls hP hD hS hl)
theorem q_new (C : Cx D T cc nL Ts own ret Γ) (hA : ∀ q : Nat, Γ.s.heap.size ≤ q → Γ.A q) {ci index N0 kc' ks' : Nat} {C0 : String} {T0 : u_T} {fs : List Value} (hc : vwCl[ci]? = some (C0, T0, N0)) (hin : ∀ w ∈ u_ws C0 T0 N0, w ∈ Ts) (ty0 : Nat → FieldType) (hty : ∀ k, k < N0 → parseFieldDescriptor (T0 k).2.2.1 = some (ty0 k)) (h1 : Cond.classLink own index C0 ∈ Ts) (h2 : Cond.instantiable C0 N0 ∈ Ts) (h3 : Cond.initialized C0 ∈ Ts) (hfs : ∀ j, j < N0 → defaultValue (ty0 j) = vp_V fs j) (hkc : kc + 1 ≤ kc') (hks : ks + N0 ≤ ks') (hcR : kc' ≤ R.cells) (hsR : ks' ≤ R.slots) (hdg : decode cc pc = .ok (.new index, 3)) (K : ∀ q : Nat, Kj l D nL R kc' ks' Γ Q (ws ++ [oA q ci fs]) (pc + 3) lv (.ref q :: rest)) : Kj l D nL R kc ks Γ Q ws pc lv rest := fun H locs ls hP hD hS hl => by
  have hts := C.1.2.2.2.2
  exact va_new C.1.1 C.1.2.1 hts hin ty0 hty C.1.2.2.2.1 (hts _ h1) (hts _ h2) (hts _ h3) C.2.1 hP hD hS hA hc hfs (by omega) (by omega) hdg (fun q H1 hP1 hD1 hS1 => W.widen hkc hks (K q H1 locs ls hP1 hD1 hS1 hl))
theorem q_newl (C : Cx D T cc nL Ts own ret Γ) (hA : ∀ q : Nat, Γ.s.heap.size ≤ q → Γ.A q) {kc' ks' : Nat} (harr : Cond.arrayClass .long ∈ Ts) (hc : kc + 1 ≤ kc') (hs : ks + 1 ≤ ks') (hcR : kc' ≤ R.cells) (hsR : ks' ≤ R.slots) (hdg : decode cc pc = .ok (.newarray .long, 2)) (K : ∀ q : Nat, Kj l D nL R kc' ks' Γ Q (ws ++ [oL T q (fun _ => 0)]) (pc + 2) lv (.ref q :: rest)) : Kj l D nL R kc ks Γ Q ws pc lv (.int 1 :: rest) := fun H locs ls hP hD hS hl => by
  refine va_newa (atype := .long) C.1.1 C.1.2.1 (C.1.2.2.2.2 _ harr) rfl C.2.1 hP hD hS hA (a0 := (1, .inr (.inl (fun _ => 0)))) (fun cA => rfl) (by decide) (N' := 1) (by decide) (by decide) (by omega) (by omega) hdg (fun q cA H1 hK1 hP1 hD1 hS1 => ?_)
  have e : cA = T.2.1 := Option.some.inj ((hK1.2 3 (cA, .long) rfl).2.symm.trans (C.2.1.2 1 (T.2.1, .long) rfl).2)
  subst e
  exact W.widen hc hs (K q H1 locs ls hP1 hD1 hS1 hl)
theorem q_widen {kc' ks' : Nat} {stk : List Value} (hc : kc ≤ kc') (hs : ks ≤ ks') (K : Kj l D nL R kc' ks' Γ Q ws pc lv stk) : Kj l D nL R kc ks Γ Q ws pc lv stk := fun H locs ls hP hD hS hl => W.widen hc hs (K H locs ls hP hD hS hl)

theorem q_xti (C : Cx D T cc nL Ts own ret Γ) (hA : ∀ q : Nat, Γ.s.heap.size ≤ q → Γ.A q) {ad : Nat → Nat} {sK sV : Nat → Nat} {x : Sl} {g : St} (hE : evX sK sV Γ.A Γ.s Γ.s.heap) {y : MethodName} {wsy : List Cond} {rm : Room} {cy : ByteArray} {maxL n idx mc ms kc' ks' : Nat} {ret0 : Option FieldType} {As : List Value} {jn : va_W → va_W} {o : (Nat ⊕ Int32) × St} {xo : Sl} (hcut : Cut D ws (wW shX T ad x g) jn)
    (hM : ∀ sz : Nat, vx_Met l y wsy rm (va_Pc (.ref (ad 0) :: As) (xPre shX D T ad sK sV x g sz)) (va_Qi (xoI o xo) (wPost shX D T ad (aW shX T ad x g sz)) (aW shX T ad x g sz)) (xoX shX D T ad o.1 (o.2, xo) (aW shX T ad x g sz)) mc ms (aW shX T ad x g sz))
    (hk0 : kV Ts own RX11 idx y cy maxL n ret0 wsy) (hR : rm.frames + 1 ≤ R.frames ∧ 8 + (maxL + 11) + rm.locals ≤ R.locals) (hrm : rm.cells = mc ∧ rm.slots = ms) (hcs : kc + mc ≤ R.cells ∧ ks + ms ≤ R.slots) (hkc : kc + mc ≤ kc' ∧ ks + ms ≤ ks') (hn : As.length = n) {stk : List Value} (hstk : stk = As.reverse ++ .ref (ad 0) :: rest) (hcat : (rest.map fun v => v.category).sum ≤ 8) (hdg : decode cc pc = .ok (.invokevirtual idx, 3))
    (Kx : ∀ k, o.1 = .inl k → Kv l nL D R kc' ks' Γ Q (exN k) (jn (wW shX T ad (o.2, xo).2 (o.2, xo).1)) pc lv rest)
    (K : ∀ r : Int32, o.1 = .inr r → Kj l D nL R kc' ks' Γ Q (jn (wW shX T ad (o.2, xo).2 (o.2, xo).1)) (pc + 3) lv (.int r :: rest)) : Kj l D nL R kc ks Γ Q ws pc lv stk := by
  obtain ⟨hG, ⟨ws', hws⟩, hd⟩ := hk0
  subst hstk
  intro H locs ls hP hD hS hl
  have hFc : ∀ q, va_A (wW shX T ad x g) H.size q → Γ.A q := fun q hq => by
    rcases hq with ⟨k9, e9, h9⟩ | hq
    · exact (hcut.2.1 _ hD).2 k9 _ h9
    · exact hA q (Nat.le_trans hS.1 hq)
  have hPc := hcut.1 H hP
  have hDc := hcut.2.1 _ hD
  have hpc : ∀ U : State, U.heap = H → Γ.s.WarmedH U.vm → va_Pc (.ref (ad 0) :: As) (xPre shX D T ad sK sV x g H.size) (Value.ref (ad 0) :: As).toArray U := fun U hU hW => ⟨rfl, ⟨by rw [hU], by rw [hU]; exact hPc, va_K.moved hW.alike C.2.1, hDc.weaken (fun _ _ _ _ => trivial)⟩, mW.ev hE ⟨hPc, hDc, hS, hA⟩ hU hW⟩
  refine vx_calli (vx_runV (nL := nL) (Ts := Ts) (own := own) (mc := mc) (ms := ms) (As := As) (rest := rest) C.1 (hM H.size) (cwV n C.1.2.2.2.2 hG hws hrm.1 hrm.2 hd hR) ⟨xPre_blind, va_recv C.2.1 hPc (rfl : vwCl[10]? = some (RX11, TX11, 19)) (celW_obj ob_0), hpc⟩ rfl hn hl.1 rfl (lv_room hcat) hdg hcs) hS (fun q _ hq => hFc q hq) hFc (fun q _ hq => hFc q hq) ?_ ?_
  · rintro E ce q9 u t H1 locs1 ht hvm hp ⟨⟨k9, hk9, hE9⟩, hB⟩ hz1 hk1 hS1 hce hcv hcl
    obtain ⟨hP1, hK1, hD1⟩ := hB
    subst hp
    subst hE9
    rw [ht] at hP1
    obtain ⟨g1, g2⟩ := hcut.2.2 _ H H1 _ hP hD hk1 hFc hP1 hD1
    exact vx_widen hkc.1 hkc.2 (Kx k9 hk9 H1 locs1 ls g1 g2 hS1 hl q9 ce hce hcv hcl)
  · rintro r u t H1 locs1 ht hvm ⟨hp1, hp2⟩ hB hz1 hk1 hS1
    obtain ⟨hP1, hK1, hD1⟩ := hB
    rw [ht] at hP1
    subst hp2
    obtain ⟨g1, g2⟩ := hcut.2.2 _ H H1 _ hP hD hk1 hFc hP1 hD1
    exact W.widen hkc.1 hkc.2 (K r hp1 H1 locs1 ls g1 g2 hS1 hl)
theorem q_xtz (C : Cx D T cc nL Ts own ret Γ) (hA : ∀ q : Nat, Γ.s.heap.size ≤ q → Γ.A q) {ad : Nat → Nat} {sK sV : Nat → Nat} {x : Sl} {g : St} (hE : evX sK sV Γ.A Γ.s Γ.s.heap) {y : MethodName} {wsy : List Cond} {rm : Room} {cy : ByteArray} {maxL n idx mc ms kc' ks' : Nat} {ret0 : Option FieldType} {As : List Value} {jn : va_W → va_W} {o : (Nat ⊕ Int32) × St} {xo : Sl} (hcut : Cut D ws (wW shX T ad x g) jn)
    (hM : ∀ sz : Nat, vx_Met l y wsy rm (va_Pc (.ref (ad 0) :: As) (xPre shX D T ad sK sV x g sz)) (va_Qi (xoZ o xo) (wPost shX D T ad (aW shX T ad x g sz)) (aW shX T ad x g sz)) (xoX shX D T ad o.1 (o.2, xo) (aW shX T ad x g sz)) mc ms (aW shX T ad x g sz))
    (hk0 : kV Ts own RX11 idx y cy maxL n ret0 wsy) (hR : rm.frames + 1 ≤ R.frames ∧ 8 + (maxL + 11) + rm.locals ≤ R.locals) (hrm : rm.cells = mc ∧ rm.slots = ms) (hcs : kc + mc ≤ R.cells ∧ ks + ms ≤ R.slots) (hkc : kc + mc ≤ kc' ∧ ks + ms ≤ ks') (hn : As.length = n) {stk : List Value} (hstk : stk = As.reverse ++ .ref (ad 0) :: rest) (hcat : (rest.map fun v => v.category).sum ≤ 8) (hdg : decode cc pc = .ok (.invokevirtual idx, 3))
    (Kx : ∀ k, o.1 = .inl k → Kv l nL D R kc' ks' Γ Q (exN k) (jn (wW shX T ad (o.2, xo).2 (o.2, xo).1)) pc lv rest)
    (K : ∀ r : Int32, o.1 = .inr r → Kj l D nL R kc' ks' Γ Q (jn (wW shX T ad (o.2, xo).2 (o.2, xo).1)) (pc + 3) lv (.int r :: rest)) : Kj l D nL R kc ks Γ Q ws pc lv stk := by
  obtain ⟨hG, ⟨ws', hws⟩, hd⟩ := hk0
  subst hstk
  intro H locs ls hP hD hS hl
  have hFc : ∀ q, va_A (wW shX T ad x g) H.size q → Γ.A q := fun q hq => by
    rcases hq with ⟨k9, e9, h9⟩ | hq
    · exact (hcut.2.1 _ hD).2 k9 _ h9
    · exact hA q (Nat.le_trans hS.1 hq)
  have hPc := hcut.1 H hP
  have hDc := hcut.2.1 _ hD
  have hpc : ∀ U : State, U.heap = H → Γ.s.WarmedH U.vm → va_Pc (.ref (ad 0) :: As) (xPre shX D T ad sK sV x g H.size) (Value.ref (ad 0) :: As).toArray U := fun U hU hW => ⟨rfl, ⟨by rw [hU], by rw [hU]; exact hPc, va_K.moved hW.alike C.2.1, hDc.weaken (fun _ _ _ _ => trivial)⟩, mW.ev hE ⟨hPc, hDc, hS, hA⟩ hU hW⟩
  refine vx_calli (vx_runV (nL := nL) (Ts := Ts) (own := own) (mc := mc) (ms := ms) (As := As) (rest := rest) C.1 (hM H.size) (cwV n C.1.2.2.2.2 hG hws hrm.1 hrm.2 hd hR) ⟨xPre_blind, va_recv C.2.1 hPc (rfl : vwCl[10]? = some (RX11, TX11, 19)) (celW_obj ob_0), hpc⟩ rfl hn hl.1 rfl (lv_room hcat) hdg hcs) hS (fun q _ hq => hFc q hq) hFc (fun q _ hq => hFc q hq) ?_ ?_
  · rintro E ce q9 u t H1 locs1 ht hvm hp ⟨⟨k9, hk9, hE9⟩, hB⟩ hz1 hk1 hS1 hce hcv hcl
    obtain ⟨hP1, hK1, hD1⟩ := hB
    subst hp
    subst hE9
    rw [ht] at hP1
    obtain ⟨g1, g2⟩ := hcut.2.2 _ H H1 _ hP hD hk1 hFc hP1 hD1
    exact vx_widen hkc.1 hkc.2 (Kx k9 hk9 H1 locs1 ls g1 g2 hS1 hl q9 ce hce hcv hcl)
  · rintro r u t H1 locs1 ht hvm ⟨⟨hp1, hp2⟩, -⟩ hB hz1 hk1 hS1
    obtain ⟨hP1, hK1, hD1⟩ := hB
    rw [ht] at hP1
    subst hp2
    obtain ⟨g1, g2⟩ := hcut.2.2 _ H H1 _ hP hD hk1 hFc hP1 hD1
    exact W.widen hkc.1 hkc.2 (K r hp1 H1 locs1 ls g1 g2 hS1 hl)
theorem q_xtl (C : Cx D T cc nL Ts own ret Γ) (hA : ∀ q : Nat, Γ.s.heap.size ≤ q → Γ.A q) {ad : Nat → Nat} {sK sV : Nat → Nat} {x : Sl} {g : St} (hE : evX sK sV Γ.A Γ.s Γ.s.heap) {y : MethodName} {wsy : List Cond} {rm : Room} {cy : ByteArray} {maxL n idx mc ms kc' ks' : Nat} {ret0 : Option FieldType} {As : List Value} {jn : va_W → va_W} {o : (Nat ⊕ Int64) × St × Sl} (hcut : Cut D ws (wW shX T ad x g) jn)
    (hM : ∀ sz : Nat, vx_Met l y wsy rm (va_Pc (.ref (ad 0) :: As) (xPre shX D T ad sK sV x g sz)) (va_Ql (xoL o) (wPost shX D T ad (aW shX T ad x g sz)) (aW shX T ad x g sz)) (xoX shX D T ad o.1 o.2 (aW shX T ad x g sz)) mc ms (aW shX T ad x g sz))
    (hk0 : kV Ts own RX11 idx y cy maxL n ret0 wsy) (hR : rm.frames + 1 ≤ R.frames ∧ 8 + (maxL + 11) + rm.locals ≤ R.locals) (hrm : rm.cells = mc ∧ rm.slots = ms) (hcs : kc + mc ≤ R.cells ∧ ks + ms ≤ R.slots) (hkc : kc + mc ≤ kc' ∧ ks + ms ≤ ks') (hn : As.length = n) {stk : List Value} (hstk : stk = As.reverse ++ .ref (ad 0) :: rest) (hcat : (rest.map fun v => v.category).sum ≤ 8) (hdg : decode cc pc = .ok (.invokevirtual idx, 3))
    (Kx : ∀ k, o.1 = .inl k → Kv l nL D R kc' ks' Γ Q (exN k) (jn (wW shX T ad o.2.2 o.2.1)) pc lv rest)
    (K : ∀ r : Int64, o.1 = .inr r → Kj l D nL R kc' ks' Γ Q (jn (wW shX T ad o.2.2 o.2.1)) (pc + 3) lv (.long r :: rest)) : Kj l D nL R kc ks Γ Q ws pc lv stk := by
  obtain ⟨hG, ⟨ws', hws⟩, hd⟩ := hk0
  subst hstk
  intro H locs ls hP hD hS hl
  have hFc : ∀ q, va_A (wW shX T ad x g) H.size q → Γ.A q := fun q hq => by
    rcases hq with ⟨k9, e9, h9⟩ | hq
    · exact (hcut.2.1 _ hD).2 k9 _ h9
    · exact hA q (Nat.le_trans hS.1 hq)
  have hPc := hcut.1 H hP
  have hDc := hcut.2.1 _ hD
  have hpc : ∀ U : State, U.heap = H → Γ.s.WarmedH U.vm → va_Pc (.ref (ad 0) :: As) (xPre shX D T ad sK sV x g H.size) (Value.ref (ad 0) :: As).toArray U := fun U hU hW => ⟨rfl, ⟨by rw [hU], by rw [hU]; exact hPc, va_K.moved hW.alike C.2.1, hDc.weaken (fun _ _ _ _ => trivial)⟩, mW.ev hE ⟨hPc, hDc, hS, hA⟩ hU hW⟩
  refine vx_calll (vx_runV (nL := nL) (Ts := Ts) (own := own) (mc := mc) (ms := ms) (As := As) (rest := rest) C.1 (hM H.size) (cwV n C.1.2.2.2.2 hG hws hrm.1 hrm.2 hd hR) ⟨xPre_blind, va_recv C.2.1 hPc (rfl : vwCl[10]? = some (RX11, TX11, 19)) (celW_obj ob_0), hpc⟩ rfl hn hl.1 rfl (lv_room hcat) hdg hcs) hS (fun q _ hq => hFc q hq) hFc (fun q _ hq => hFc q hq) ?_ ?_
  · rintro E ce q9 u t H1 locs1 ht hvm hp ⟨⟨k9, hk9, hE9⟩, hB⟩ hz1 hk1 hS1 hce hcv hcl
    obtain ⟨hP1, hK1, hD1⟩ := hB
    subst hp
    subst hE9
    rw [ht] at hP1
    obtain ⟨g1, g2⟩ := hcut.2.2 _ H H1 _ hP hD hk1 hFc hP1 hD1
    exact vx_widen hkc.1 hkc.2 (Kx k9 hk9 H1 locs1 ls g1 g2 hS1 hl q9 ce hce hcv hcl)
  · rintro r u t H1 locs1 ht hvm ⟨hp1, hp2⟩ hB hz1 hk1 hS1
    obtain ⟨hP1, hK1, hD1⟩ := hB
    rw [ht] at hP1
    subst hp2
    obtain ⟨g1, g2⟩ := hcut.2.2 _ H H1 _ hP hD hk1 hFc hP1 hD1
    exact W.widen hkc.1 hkc.2 (K r hp1 H1 locs1 ls g1 g2 hS1 hl)
theorem q_mi (C : Cx D T cc nL Ts own ret Γ) (hA : ∀ q : Nat, Γ.s.heap.size ≤ q → Γ.A q) {ad : Nat → Nat} {x : Sl} {g : St} {y : MethodName} {wsy : List Cond} {rm : Room} {cy : ByteArray} {maxL n idx mc ms kc' ks' : Nat} {ret0 : Option FieldType} {As : List Value} {jn : va_W → va_W} {ro : Int32} {go : St} {xo : Sl} (hcut : Cut D ws (wW shM T ad x g) jn)
    (hM : ∀ sz : Nat, Met l y wsy rm (va_Pc (.ref (ad 0) :: As) (wPre shM D T ad x g sz)) (va_Qi (eqI ro go xo) (wPost shM D T ad (aW shM T ad x g sz)) (aW shM T ad x g sz)) mc ms (aW shM T ad x g sz))
    (hk0 : kV Ts own RX12 idx y cy maxL n ret0 wsy) (hR : rm.frames + 1 ≤ R.frames ∧ 8 + (maxL + 11) + rm.locals ≤ R.locals) (hrm : rm.cells = mc ∧ rm.slots = ms) (hcs : kc + mc ≤ R.cells ∧ ks + ms ≤ R.slots) (hkc : kc + mc ≤ kc' ∧ ks + ms ≤ ks') (hn : As.length = n) {stk : List Value} (hstk : stk = As.reverse ++ .ref (ad 0) :: rest) (hcat : (rest.map fun v => v.category).sum ≤ 8) (hdg : decode cc pc = .ok (.invokevirtual idx, 3))
    (K : Kj l D nL R kc' ks' Γ Q (jn (wW shM T ad xo go)) (pc + 3) lv (.int ro :: rest)) : Kj l D nL R kc ks Γ Q ws pc lv stk := by
  obtain ⟨hG, ⟨ws', hws⟩, hd⟩ := hk0
  subst hstk
  intro H locs ls hP hD hS hl
  have hFc : ∀ q, va_A (wW shM T ad x g) H.size q → Γ.A q := fun q hq => by
    rcases hq with ⟨k9, e9, h9⟩ | hq
    · exact (hcut.2.1 _ hD).2 k9 _ h9
    · exact hA q (Nat.le_trans hS.1 hq)
  have hPc := hcut.1 H hP
  have hDc := hcut.2.1 _ hD
  have hpc : ∀ U : State, U.heap = H → Γ.s.WarmedH U.vm → va_Pc (.ref (ad 0) :: As) (wPre shM D T ad x g H.size) (Value.ref (ad 0) :: As).toArray U := fun U hU hW => ⟨rfl, by rw [hU], by rw [hU]; exact hPc, va_K.moved hW.alike C.2.1, hDc.weaken (fun _ _ _ _ => trivial)⟩
  refine va_calli (va_runV (nL := nL) (Ts := Ts) (own := own) (mc := mc) (ms := ms) (As := As) (rest := rest) C.1 (hM H.size) (cwV n C.1.2.2.2.2 hG hws hrm.1 hrm.2 hd hR) ⟨wPre_blind, va_recv C.2.1 hPc (rfl : vwCl[11]? = some (RX12, TX12, 48)) (celW_obj kM0), hpc⟩ rfl hn hl.1 rfl (lv_room hcat) hdg hcs) hS (fun q _ hq => hFc q hq) hFc (fun r u t H1 locs1 ht hvm hp hB hz1 hk1 hS1 => ?_)
  obtain ⟨hP1, hK1, hD1⟩ := hB
  rw [ht] at hP1
  obtain ⟨rfl, rfl⟩ := hp
  obtain ⟨g1, g2⟩ := hcut.2.2 _ H H1 _ hP hD hk1 hFc hP1 hD1
  exact W.widen hkc.1 hkc.2 (K H1 locs1 ls g1 g2 hS1 hl)
theorem q_mz (C : Cx D T cc nL Ts own ret Γ) (hA : ∀ q : Nat, Γ.s.heap.size ≤ q → Γ.A q) {ad : Nat → Nat} {x : Sl} {g : St} {y : MethodName} {wsy : List Cond} {rm : Room} {cy : ByteArray} {maxL n idx mc ms kc' ks' : Nat} {ret0 : Option FieldType} {As : List Value} {jn : va_W → va_W} {ro : Int32} {go : St} {xo : Sl} (hcut : Cut D ws (wW shM T ad x g) jn)
    (hM : ∀ sz : Nat, Met l y wsy rm (va_Pc (.ref (ad 0) :: As) (wPre shM D T ad x g sz)) (va_Qi (eqZ ro go xo) (wPost shM D T ad (aW shM T ad x g sz)) (aW shM T ad x g sz)) mc ms (aW shM T ad x g sz))
    (hk0 : kV Ts own RX12 idx y cy maxL n ret0 wsy) (hR : rm.frames + 1 ≤ R.frames ∧ 8 + (maxL + 11) + rm.locals ≤ R.locals) (hrm : rm.cells = mc ∧ rm.slots = ms) (hcs : kc + mc ≤ R.cells ∧ ks + ms ≤ R.slots) (hkc : kc + mc ≤ kc' ∧ ks + ms ≤ ks') (hn : As.length = n) {stk : List Value} (hstk : stk = As.reverse ++ .ref (ad 0) :: rest) (hcat : (rest.map fun v => v.category).sum ≤ 8) (hdg : decode cc pc = .ok (.invokevirtual idx, 3))
    (K : Kj l D nL R kc' ks' Γ Q (jn (wW shM T ad xo go)) (pc + 3) lv (.int ro :: rest)) : Kj l D nL R kc ks Γ Q ws pc lv stk := by
  obtain ⟨hG, ⟨ws', hws⟩, hd⟩ := hk0
  subst hstk
  intro H locs ls hP hD hS hl
  have hFc : ∀ q, va_A (wW shM T ad x g) H.size q → Γ.A q := fun q hq => by
    rcases hq with ⟨k9, e9, h9⟩ | hq
    · exact (hcut.2.1 _ hD).2 k9 _ h9
    · exact hA q (Nat.le_trans hS.1 hq)
  have hPc := hcut.1 H hP
  have hDc := hcut.2.1 _ hD
  have hpc : ∀ U : State, U.heap = H → Γ.s.WarmedH U.vm → va_Pc (.ref (ad 0) :: As) (wPre shM D T ad x g H.size) (Value.ref (ad 0) :: As).toArray U := fun U hU hW => ⟨rfl, by rw [hU], by rw [hU]; exact hPc, va_K.moved hW.alike C.2.1, hDc.weaken (fun _ _ _ _ => trivial)⟩
  refine va_calli (va_runV (nL := nL) (Ts := Ts) (own := own) (mc := mc) (ms := ms) (As := As) (rest := rest) C.1 (hM H.size) (cwV n C.1.2.2.2.2 hG hws hrm.1 hrm.2 hd hR) ⟨wPre_blind, va_recv C.2.1 hPc (rfl : vwCl[11]? = some (RX12, TX12, 48)) (celW_obj kM0), hpc⟩ rfl hn hl.1 rfl (lv_room hcat) hdg hcs) hS (fun q _ hq => hFc q hq) hFc (fun r u t H1 locs1 ht hvm hp hB hz1 hk1 hS1 => ?_)
  obtain ⟨hP1, hK1, hD1⟩ := hB
  rw [ht] at hP1
  obtain ⟨⟨rfl, rfl⟩, -⟩ := hp
  obtain ⟨g1, g2⟩ := hcut.2.2 _ H H1 _ hP hD hk1 hFc hP1 hD1
  exact W.widen hkc.1 hkc.2 (K H1 locs1 ls g1 g2 hS1 hl)
theorem q_ml (C : Cx D T cc nL Ts own ret Γ) (hA : ∀ q : Nat, Γ.s.heap.size ≤ q → Γ.A q) {ad : Nat → Nat} {x : Sl} {g : St} {y : MethodName} {wsy : List Cond} {rm : Room} {cy : ByteArray} {maxL n idx mc ms kc' ks' : Nat} {ret0 : Option FieldType} {As : List Value} {jn : va_W → va_W} {ro : Int64} {go : St} {xo : Sl} (hcut : Cut D ws (wW shM T ad x g) jn)
    (hM : ∀ sz : Nat, Met l y wsy rm (va_Pc (.ref (ad 0) :: As) (wPre shM D T ad x g sz)) (va_Ql (eqL ro go xo) (wPost shM D T ad (aW shM T ad x g sz)) (aW shM T ad x g sz)) mc ms (aW shM T ad x g sz))
    (hk0 : kV Ts own RX12 idx y cy maxL n ret0 wsy) (hR : rm.frames + 1 ≤ R.frames ∧ 8 + (maxL + 11) + rm.locals ≤ R.locals) (hrm : rm.cells = mc ∧ rm.slots = ms) (hcs : kc + mc ≤ R.cells ∧ ks + ms ≤ R.slots) (hkc : kc + mc ≤ kc' ∧ ks + ms ≤ ks') (hn : As.length = n) {stk : List Value} (hstk : stk = As.reverse ++ .ref (ad 0) :: rest) (hcat : (rest.map fun v => v.category).sum ≤ 8) (hdg : decode cc pc = .ok (.invokevirtual idx, 3))
    (K : Kj l D nL R kc' ks' Γ Q (jn (wW shM T ad xo go)) (pc + 3) lv (.long ro :: rest)) : Kj l D nL R kc ks Γ Q ws pc lv stk := by
  obtain ⟨hG, ⟨ws', hws⟩, hd⟩ := hk0
  subst hstk
  intro H locs ls hP hD hS hl
  have hFc : ∀ q, va_A (wW shM T ad x g) H.size q → Γ.A q := fun q hq => by
    rcases hq with ⟨k9, e9, h9⟩ | hq
    · exact (hcut.2.1 _ hD).2 k9 _ h9
    · exact hA q (Nat.le_trans hS.1 hq)
  have hPc := hcut.1 H hP
  have hDc := hcut.2.1 _ hD
  have hpc : ∀ U : State, U.heap = H → Γ.s.WarmedH U.vm → va_Pc (.ref (ad 0) :: As) (wPre shM D T ad x g H.size) (Value.ref (ad 0) :: As).toArray U := fun U hU hW => ⟨rfl, by rw [hU], by rw [hU]; exact hPc, va_K.moved hW.alike C.2.1, hDc.weaken (fun _ _ _ _ => trivial)⟩
  refine va_calll (va_runV (nL := nL) (Ts := Ts) (own := own) (mc := mc) (ms := ms) (As := As) (rest := rest) C.1 (hM H.size) (cwV n C.1.2.2.2.2 hG hws hrm.1 hrm.2 hd hR) ⟨wPre_blind, va_recv C.2.1 hPc (rfl : vwCl[11]? = some (RX12, TX12, 48)) (celW_obj kM0), hpc⟩ rfl hn hl.1 rfl (lv_room hcat) hdg hcs) hS (fun q _ hq => hFc q hq) hFc (fun r u t H1 locs1 ht hvm hp hB hz1 hk1 hS1 => ?_)
  obtain ⟨hP1, hK1, hD1⟩ := hB
  rw [ht] at hP1
  obtain ⟨rfl, rfl⟩ := hp
  obtain ⟨g1, g2⟩ := hcut.2.2 _ H H1 _ hP hD hk1 hFc hP1 hD1
  exact W.widen hkc.1 hkc.2 (K H1 locs1 ls g1 g2 hS1 hl)
theorem q_xi (C : Cx D T cc nL Ts own ret Γ) (hA : ∀ q : Nat, Γ.s.heap.size ≤ q → Γ.A q) {ad : Nat → Nat} {x : Sl} {g : St} {sK sV : Nat → Nat} (hE : evX sK sV Γ.A Γ.s Γ.s.heap) {y : MethodName} {wsy : List Cond} {rm : Room} {cy : ByteArray} {maxL n idx mc ms kc' ks' : Nat} {ret0 : Option FieldType} {As : List Value} {jn : va_W → va_W} {ro : Int32} {go : St} {xo : Sl} (hcut : Cut D ws (wW shX T ad x g) jn)
    (hM : ∀ sz : Nat, Met l y wsy rm (va_Pc (.ref (ad 0) :: As) (xPre shX D T ad sK sV x g sz)) (va_Qi (eqI ro go xo) (wPost shX D T ad (aW shX T ad x g sz)) (aW shX T ad x g sz)) mc ms (aW shX T ad x g sz))
    (hk0 : kV Ts own RX11 idx y cy maxL n ret0 wsy) (hR : rm.frames + 1 ≤ R.frames ∧ 8 + (maxL + 11) + rm.locals ≤ R.locals) (hrm : rm.cells = mc ∧ rm.slots = ms) (hcs : kc + mc ≤ R.cells ∧ ks + ms ≤ R.slots) (hkc : kc + mc ≤ kc' ∧ ks + ms ≤ ks') (hn : As.length = n) {stk : List Value} (hstk : stk = As.reverse ++ .ref (ad 0) :: rest) (hcat : (rest.map fun v => v.category).sum ≤ 8) (hdg : decode cc pc = .ok (.invokevirtual idx, 3))
    (K : Kj l D nL R kc' ks' Γ Q (jn (wW shX T ad xo go)) (pc + 3) lv (.int ro :: rest)) : Kj l D nL R kc ks Γ Q ws pc lv stk := by
  obtain ⟨hG, ⟨ws', hws⟩, hd⟩ := hk0
  subst hstk
  intro H locs ls hP hD hS hl
  have hFc : ∀ q, va_A (wW shX T ad x g) H.size q → Γ.A q := fun q hq => by
    rcases hq with ⟨k9, e9, h9⟩ | hq
    · exact (hcut.2.1 _ hD).2 k9 _ h9
    · exact hA q (Nat.le_trans hS.1 hq)
  have hPc := hcut.1 H hP
  have hDc := hcut.2.1 _ hD
  have hpc : ∀ U : State, U.heap = H → Γ.s.WarmedH U.vm → va_Pc (.ref (ad 0) :: As) (xPre shX D T ad sK sV x g H.size) (Value.ref (ad 0) :: As).toArray U := fun U hU hW => ⟨rfl, ⟨by rw [hU], by rw [hU]; exact hPc, va_K.moved hW.alike C.2.1, hDc.weaken (fun _ _ _ _ => trivial)⟩, mW.ev hE ⟨hPc, hDc, hS, hA⟩ hU hW⟩
  refine va_calli (va_runV (nL := nL) (Ts := Ts) (own := own) (mc := mc) (ms := ms) (As := As) (rest := rest) C.1 (hM H.size) (cwV n C.1.2.2.2.2 hG hws hrm.1 hrm.2 hd hR) ⟨xPre_blind, va_recv C.2.1 hPc (rfl : vwCl[10]? = some (RX11, TX11, 19)) (celW_obj ob_0), hpc⟩ rfl hn hl.1 rfl (lv_room hcat) hdg hcs) hS (fun q _ hq => hFc q hq) hFc (fun r u t H1 locs1 ht hvm hp hB hz1 hk1 hS1 => ?_)
  obtain ⟨hP1, hK1, hD1⟩ := hB
  rw [ht] at hP1
  obtain ⟨rfl, rfl⟩ := hp
  obtain ⟨g1, g2⟩ := hcut.2.2 _ H H1 _ hP hD hk1 hFc hP1 hD1
  exact W.widen hkc.1 hkc.2 (K H1 locs1 ls g1 g2 hS1 hl)
/-- what a wrapper stands on -/
abbrev EL (sK sV : Nat → Nat) : (Nat → Prop) → State → Prop := fun A U => evX sK sV A U U.heap ∧ va_Nc "java/lang/IllegalArgumentException" "java/util/NoSuchElementException" U
theorem EL_tab {sK sV : Nat → Nat} : tabE (EL sK sV) := fun A u U hv hH h => ⟨by rw [hH]; exact evX.same hv h.1, va_Nc.moved (by rw [hv]; exact Vm.Alike.refl _) h.2⟩
theorem q_w (C : Cx D T cc nL Ts own ret Γ) (hA : ∀ q : Nat, Γ.s.heap.size ≤ q → Γ.A q) {sK sV : Nat → Nat} (hE : EL sK sV Γ.A Γ.s) {y : MethodName} {wsy : List Cond} {rm : Room} {cy : ByteArray} {maxL n idx mc ms kc' ks' : Nat} {ret0 : Option FieldType} {As : List Value} {jn : va_W → va_W} {hh : List (Nat × Nat × Nat × Nat)} {wc : va_W} {w1 : (Nat → Int64) → va_W} {post : Int32 → (Nat → Int64) → Prop} (hcut : Cut D ws wc jn)
    (hM : ∀ sz : Nat, Met l y wsy rm (va_Pc As (kPre D T (EL sK sV) wc sz)) (va_Qi post (fun u => kPost D T (va_A wc sz) (w1 u)) (va_A wc sz)) mc ms (va_A wc sz))
    (hG : GoodIn Ts (va_wsS own idx y wsy)) (hws : ∃ ws', wsy = .codeWith y cy maxL ret0 hh :: ws') (hd : y.cls ≠ "java/lang/invoke/MethodHandle" ∧ y.cls ≠ "java/lang/invoke/VarHandle" ∧ (parseMethodDescriptor y.desc).map (fun d => d.parameters.length) = some n) (hR : rm.frames + 1 ≤ R.frames ∧ 8 + (maxL + 11) + rm.locals ≤ R.locals) (hrm : rm.cells = mc ∧ rm.slots = ms) (hcs : kc + mc ≤ R.cells ∧ ks + ms ≤ R.slots) (hkc : kc + mc ≤ kc' ∧ ks + ms ≤ ks') (hn : As.length = n) {stk : List Value} (hstk : stk = As.reverse ++ rest) (hcat : (rest.map fun v => v.category).sum ≤ 8) (hdg : decode cc pc = .ok (.invokestatic idx, 3))
    (K : ∀ (r : Int32) (u : Nat → Int64), post r u → Kj l D nL R kc' ks' Γ Q (jn (w1 u)) (pc + 3) lv (.int r :: rest)) : Kj l D nL R kc ks Γ Q ws pc lv stk := by
  obtain ⟨ws', hws⟩ := hws
  subst hstk
  intro H locs ls hP hD hS hl
  have hFc : ∀ q, va_A wc H.size q → Γ.A q := fun q hq => by
    rcases hq with ⟨k9, e9, h9⟩ | hq
    · exact (hcut.2.1 _ hD).2 k9 _ h9
    · exact hA q (Nat.le_trans hS.1 hq)
  have hPc := hcut.1 H hP
  have hDc := hcut.2.1 _ hD
  have hpc : ∀ U : State, U.heap = H → Γ.s.WarmedH U.vm → va_Pc As (kPre D T (EL sK sV) wc H.size) As.toArray U := fun U hU hW => ⟨rfl, by rw [hU], by rw [hU]; exact hPc, va_K.moved hW.alike C.2.1, hDc.weaken (fun _ _ _ _ => trivial), by rw [hU]; exact evX.moved hW ((hE.1.kept hS.2.1).narrow hFc), hE.2.moved hW.alike⟩
  refine va_calli (vx_runSW (hh := hh) (nL := nL) (Ts := Ts) (own := own) (mc := mc) (ms := ms) (As := As) (rest := rest) C.1 (hM H.size) (vx_cwSW n C.1.2.2.2.2 hG hws hrm.1 hrm.2 hd hR) ⟨kPre_blind EL_tab, hpc⟩ rfl hn hl.1 rfl (lv_room hcat) hdg hcs) hS (fun q _ hq => hFc q hq) hFc (fun r u t H1 locs1 ht hvm hp hB hz1 hk1 hS1 => ?_)
  obtain ⟨hP1, hK1, hD1⟩ := hB
  rw [ht] at hP1
  obtain ⟨g1, g2⟩ := hcut.2.2 _ H H1 _ hP hD hk1 hFc hP1 hD1
  exact W.widen hkc.1 hkc.2 (K r u hp H1 locs1 ls g1 g2 hS1 hl)
/-- caught -/
theorem q_catch (C : Cx D T cc nL Ts own ret Γ) {E name : String} {hpc0 : Nat} (pre : List ExceptionTableEntry) (x : ExceptionTableEntry) (suf : List ExceptionTableEntry) (hsplit : Γ.c.exceptionTable.toList = pre ++ x :: suf) (hpass : ∀ z ∈ pre, covers z pc = false ∨ (z.catchType ≠ 0 ∧ ∃ nm : String, Cond.classLink own z.catchType nm ∈ Ts ∧ va_Nc E nm Γ.s)) (hx : covers x pc = true) (h0 : x.catchType ≠ 0) (hlink : Cond.classLink own x.catchType name ∈ Ts) (hcast : va_Nw (.castable E name) Γ.s) (hh : x.handlerPc = hpc0)
    (K : ∀ q : Nat, Kj l D nL R kc ks Γ Q ws hpc0 lv [.ref q]) : Kv l nL D R kc ks Γ Q E ws pc lv rest := fun H locs ls hP hD hS hl q ce hce hcv hcl => by
  have hts := C.1.2.2.2.2
  subst hh
  exact vx_catch C.1.2.2.2.1 pre x suf hsplit (fun z hz => (hpass z hz).imp id (fun ⟨a1, nm, a2, a3⟩ => ⟨a1, nm, hts _ a2, a3⟩)) hx h0 (hts _ hlink) (va_Nw.use rfl hcast) hce hcv hcl (K q H locs ls hP hD hS hl)
/-- a wrapper's end -/
theorem q_wret (C : Cx D T cc nL Ts own (some .int) Γ) {post : Int32 → (Nat → Int64) → Prop} {w1 : (Nat → Int64) → va_W} {v : Int32} (u : Nat → Int64) (hp : post v u) (hw : ws = w1 u) {mc ms : Nat} (hc : kc ≤ mc) (hs : ks ≤ ms) (hdg : decode cc pc = .ok (.ireturn, 1)) : Kj l D nL R kc ks Γ (MQ Γ.below (va_Qi post (fun u => kPost D T Γ.A (w1 u)) Γ.A) Γ.args Γ.s mc ms Γ.A) ws pc lv [.int v] := fun H locs ls hP hD hS hl => by
  subst hw
  exact W.widen hc hs (W.iret C.1.1 C.1.2.1 C.2.2.1 (fun t ht hW => ⟨⟨v, u, rfl, hp, by rw [ht]; exact hP, va_K.moved hW.alike C.2.1, hD⟩, hS.F ht⟩) hS.2.2 hdg C.2.2.2)
end QROWS
/-- the start of a method with an exception table -/
theorem q_startH {l : Launch} {D : va_G} {T : cT} {E : (Nat → Prop) → State → Prop} {w0 : va_W} {sz mc ms : Nat} {y : MethodName} {ws ws' : List Cond} {rm : Room} {cc : ByteArray} {maxL : Nat} {ret : Option FieldType} {hh : List (Nat × Nat × Nat × Nat)} {own : String} {av : List Value} {Qc : (Nat → Prop) → Array Value → State → Outcome → State → Prop} (hy : plainName y.cls = true) (hws : ws = .codeWith y cc maxL ret hh :: ws') (hcl : y.cls = own) (hav : (lg_sl av).length ≤ maxL) {lv : List (Nat × Value)} (hlv : lv_args 0 av = lv)
    (body : ∀ Γ : Cxt, Cx D T cc maxL ws own ret Γ → (∀ q : Nat, Γ.s.heap.size ≤ q → Γ.A q) → E Γ.A Γ.s → Γ.c.exceptionTable.toList = tableOf hh → Kj l D maxL rm 0 0 Γ (MQ Γ.below (Qc Γ.A) Γ.args Γ.s mc ms Γ.A) w0 0 lv []) :
    Met l y ws rm (va_Pc av (kPre D T E w0 sz)) (Qc (va_A w0 sz)) mc ms (va_A w0 sz) := by
  refine MetFree.of_bodyS (code := cc) (maxLocals := maxL) (ret := ret) hy ?_ ?_
  · intro args s m h hn
    obtain ⟨m9, meth, c, hn9, h1, h2, h3, h4, -, h5, h6, -⟩ := Cond.codeWith_spec (atoms_spec (ws := ws) h _ (by rw [hws]; exact List.mem_cons_self))
    cases hn.symm.trans hn9
    exact ⟨meth, c, h1, h2, h3, h4, h5, h6⟩
  · intro p e s m args below meth c s₁ B hml hv _
    have hh0 : s₁.heap = s.heap := by rw [B.state]; rfl
    obtain ⟨rfl, hsz, hP, hK, hD0, hE⟩ := hv
    subst hsz
    have hts := atoms_spec (ws := ws) B.pre
    have hown : s.vm.findClass own = some m.cls := by rw [← hcl]; exact findClass_of_methodNamed B.named
    have hD := hD0.self (sz := s.heap.size)
    have hl := lv_entry av (n := maxL) hav
    have htab := vx_table (x := y) B (hts _ (by rw [hws]; exact List.mem_cons_self))
    have key := body (p, e, s, m, _, below, meth, c, _) ⟨⟨B.exec, B.bytes, hml, hown, hts⟩, hK, B.returns, B.notSynchronized⟩ (fun q hq => Or.inr hq) hE htab s.heap [] _ hP hD va_S.rf (by subst hlv; exact hl)
    rw [← lg_entry_eq] at key
    obtain ⟨t, a1, o, b1, b2, b3⟩ := key s₁ hh0 (Stand.of_body B)
    exact ⟨t, o, a1, b1, b2, b3⟩
