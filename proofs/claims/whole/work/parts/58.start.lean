/-! the law's start, over a simulation -/
theorem AOA_moved {u U : State} (hvm : u.vm.Alike U.vm) (h : va_AOA .int u) : va_AOA .int U := by
  have e := Cond.arrayOver_setVmC (args := #[]) (s := u) (vm' := U.vm) hvm (.array .int)
  have h1 : (Cond.arrayOver (.array .int)).before #[] (u.setVm U.vm) = true := e.trans h
  exact h1
theorem AOA_tab : tabE (fun _ U => va_AOA .int U) := fun _ u U hv _ h => AOA_moved (by rw [hv]; exact Vm.Alike.refl _) h
theorem nestX_tab {u U : State} (hv : U.vm = u.vm) (h : nestX u) : nestX U := ⟨va_Nw.same rfl hv.symm (nestX_0 h), va_Nw.same rfl hv.symm (nestX_1 h), va_Nw.same rfl hv.symm (nestX_2 h), va_Nw.same rfl hv.symm (nestX_3 h), va_Nw.same rfl hv.symm (nestX_4 h), va_Nw.same rfl hv.symm (nestX_5 h), va_Nw.same rfl hv.symm (nestX_6 h), va_Nw.same rfl hv.symm (nestX_7 h), va_Nw.same rfl hv.symm (nestX_8 h)⟩
theorem nestX_warm {u U : State} (hW : u.WarmedH U.vm) (h : nestX u) : nestX U := ⟨va_Nw.warmM hW (nestX_0 h), va_Nw.warmM hW (nestX_1 h), va_Nw.warmM hW (nestX_2 h), va_Nw.warmM hW (nestX_3 h), va_Nw.warmM hW (nestX_4 h), va_Nw.warmM hW (nestX_5 h), va_Nw.warmM hW (nestX_6 h), va_Nw.warmM hW (nestX_7 h), va_Nw.warmM hW (nestX_8 h)⟩
theorem EX_tab {sK sV : Nat → Nat} : tabE (EX sK sV) := fun A u U hv hH h => ⟨by rw [hH]; exact evX.same hv h.1, nestX_tab hv h.2⟩
theorem q_ci {l : Launch} {D : va_G} {T : cT} {nL : Nat} {R : Room} {kc ks : Nat} {Γ : Cxt} {Q : State → Prop} {ws : va_W} {pc : Nat} {lv : List (Nat × Value)} {rest : List Value} {cc : ByteArray} {Ts : List Cond} {own : String} {ret : Option FieldType} (C : Cx D T cc nL Ts own ret Γ) (hA : ∀ q : Nat, Γ.s.heap.size ≤ q → Γ.A q) {E : (Nat → Prop) → State → Prop} (hEt : tabE E) {y : MethodName} {wsy wsy' : List Cond} {rm : Room} {cy : ByteArray} {maxL idx b mc ms kc' ks' : Nat} {jn : va_W → va_W} {wc : va_W} {h : Sh} {go : St} {xo : Sl} (hcut : Cut D ws wc jn)
    (hM : ∀ sz : Nat, Met l y wsy rm (va_Pc [.ref b] (kPre D T E wc sz)) (va_Qv (fun u : (Nat → Nat) × St × Sl => u.1 0 = b ∧ u.2 = (go, xo)) (mkPost h D T (va_A wc sz)) (va_A wc sz)) mc ms (va_A wc sz))
    (hE : ∀ (H : Heap) (locs : List Loc) (U : State), va_S Γ.A Γ.s.heap H locs → (∀ q, va_A wc H.size q → Γ.A q) → U.heap = H → Γ.s.WarmedH U.vm → E (va_A wc H.size) U)
    (hG : GoodIn Ts wsy) (hws : wsy = .code y cy maxL none :: wsy') (hN : Cond.methodLink own idx y ∈ Ts) (hini : Cond.initialized y.cls ∈ Ts) (hins : Cond.instanceMethod y ∈ Ts) (hnm : y.name = "<init>") (hd : y.cls ≠ "java/lang/invoke/MethodHandle" ∧ y.cls ≠ "java/lang/invoke/VarHandle" ∧ (parseMethodDescriptor y.desc).map (fun d => d.parameters.length) = some 0) (hR : rm.frames + 1 ≤ R.frames ∧ 8 + (maxL + 11) + rm.locals ≤ R.locals) (hrm : rm.cells = mc ∧ rm.slots = ms) (hcs : kc + mc ≤ R.cells ∧ ks + ms ≤ R.slots) (hkc : kc + mc ≤ kc' ∧ ks + ms ≤ ks') (hcat : (rest.map fun v => v.category).sum ≤ 8) (hdg : decode cc pc = .ok (.invokespecial idx, 3))
    (K : ∀ ad : Nat → Nat, ad 0 = b → Kj l D nL R kc' ks' Γ Q (jn (wW h T ad xo go)) (pc + 3) lv rest) : Kj l D nL R kc ks Γ Q ws pc lv (.ref b :: rest) := fun H locs ls hP hD hS hl => by
  have hts := C.1.2.2.2.2
  have hPc := hcut.1 H hP
  have hDc := hcut.2.1 _ hD
  have hFc : ∀ q, va_A wc H.size q → Γ.A q := fun q hq => by
    rcases hq with ⟨k9, e9, h9⟩ | hq
    · exact hDc.2 k9 _ h9
    · exact hA q (Nat.le_trans hS.1 hq)
  refine va_callv (va_runI (nL := nL) (Ts := Ts) (own := own) (mc := mc) (ms := ms) (As := []) (rest := rest) C.1 (hM H.size) (cwI 0 hts hG hws hrm.1 hrm.2 (hts _ hini) (hts _ hN) (hts _ hins) hnm hd hR) ⟨kPre_blind hEt, fun U hU hW => ⟨rfl, by rw [hU], by rw [hU]; exact hPc, va_K.moved hW.alike C.2.1, hDc.weaken (fun _ _ _ _ => trivial), hE H locs U hS hFc hU hW⟩⟩ rfl rfl hl.1 rfl (lv_room hcat) hdg hcs) hS (fun q _ h => hFc q h) hFc (fun u t H1 locs1 ht hvm hp hB hz1 hk1 hS1 => ?_)
  obtain ⟨hP1, hK1, hD1⟩ := hB
  rw [ht] at hP1
  obtain ⟨ad, g9, x9⟩ := u
  obtain ⟨ha, hu⟩ := hp
  cases hu
  obtain ⟨g1, g2⟩ := hcut.2.2 _ H H1 _ hP hD hk1 hFc hP1 hD1
  exact W.widen hkc.1 hkc.2 (K ad ha H1 locs1 ls g1 g2 hS1 hl)
theorem T_gi {maxL : Nat} {y : MethodName} {cy : ByteArray} {B : List Cond} {ret : Option FieldType} (h5 : Cond.code y cy maxL ret ∈ lw_tbl) (hB : ∀ w ∈ B, w ∈ lw_tbl) (hg : B.all goodWord = true) : GoodIn lw_tbl (.code y cy maxL ret :: B) := fun w hw => by
  rcases List.mem_cons.mp hw with rfl | hw
  · exact ⟨h5, Or.inl rfl⟩
  · exact ⟨hB _ hw, good_of_word (List.all_eq_true.mp hg w hw)⟩
set_option maxRecDepth 100000 in
set_option maxHeartbeats 4000000 in
theorem law_start {p : Program} {e : Env} {s : State} {m : MethodId} {below : List Frame} {meth : Method} {c : Code} (l : Launch) (hl0 : l.stackTraces = false) {b L : Nat} {xs : Nat → Int32} (hL : L ≤ 4608) (C0 : lw_At p s m meth c b L xs) {R : Rel} (S : Sims R) {oX1 oX2 oM1 oM2 : St} (hx1 : fX_Law_becomePlain 4 gX0 = some oX1) (hx2 : fX_State_begin 10 oX1 = some oX2) (hm1 : fM_tellsNothing gM0 = some oM1) (hm2 : fM_beginsAnew oM1 = some oM2) (hR0 : R oX2 xX0 oM2 xM0) : W p l e room_1 s m #[Value.ref b] below meth c s.heap [] 0 0 (lw_Z below #[Value.ref b] s) (entryFrame m ([Value.ref b] : List Value).toArray 8) := by
  obtain ⟨hx, hb, hr, hml, hown, hts, hX, hbl, hlocks, hgv⟩ := id C0
  have hn := and_r hgv
  have hA : ∀ q : Nat, s.heap.size ≤ q → (fun q : Nat => s.heap.size ≤ q) q := fun _ h => h
  have hnA : ∀ a : Nat, a < s.heap.size → ¬ (fun q : Nat => s.heap.size ≤ q) a := fun a h => Nat.not_le.mpr h
  obtain ⟨sK, sV, hev⟩ := evX_of hn hts hnA
  have hnc : va_Nc "java/lang/IllegalArgumentException" "java/util/NoSuchElementException" s := va_Nc.of (and_l (and_l (and_l (and_r (and_r (and_l (and_l (and_l hn))))))))
  have haoa : va_AOA .int s := va_AOA.of (hts _ (inT6 (List.mem_of_getElem? (i := 92) rfl)))
  have hnest : nestX s := ⟨va_Nw.of rfl (hts _ (inT1 (List.mem_of_getElem? (i := 35) rfl))), va_Nw.of rfl (hts _ (inT1 (List.mem_of_getElem? (i := 76) rfl))), va_Nw.of rfl (hts _ (inT1 (List.mem_of_getElem? (i := 106) rfl))), va_Nw.of rfl (hts _ (inT1 (List.mem_of_getElem? (i := 127) rfl))), va_Nw.of rfl (hts _ (inT1 (List.mem_of_getElem? (i := 143) rfl))), va_Nw.of rfl (hts _ (inT1 (List.mem_of_getElem? (i := 179) rfl))), va_Nw.of rfl (hts _ (inT1 (List.mem_of_getElem? (i := 222) rfl))), va_Nw.of rfl (hts _ (inT2 (List.mem_of_getElem? (i := 3) rfl))), va_Nw.of rfl (hts _ (inT2 (List.mem_of_getElem? (i := 37) rfl)))⟩
  obtain ⟨c0, i0, hk0⟩ := u_known (C := RX0) (T := TX0) (N := 2) (n := 2) hts in_wsX00 (hts _ (inT1 (List.mem_of_getElem? (i := 178) rfl)))
  obtain ⟨c1, i1, hk1⟩ := u_known (C := RX1) (T := TX1) (N := 5) (n := 5) hts in_wsX10 (hts _ (inT1 (List.mem_of_getElem? (i := 75) rfl)))
  obtain ⟨c2, i2, hk2⟩ := u_known (C := RX2) (T := TX2) (N := 4) (n := 4) hts in_wsX20 (hts _ (inT1 (List.mem_of_getElem? (i := 105) rfl)))
  obtain ⟨c3, i3, hk3⟩ := u_known (C := RX3) (T := TX3) (N := 3) (n := 3) hts in_wsX30 (hts _ (inT1 (List.mem_of_getElem? (i := 126) rfl)))
  obtain ⟨c4, i4, hk4⟩ := u_known (C := RX4) (T := TX4) (N := 7) (n := 7) hts in_wsX40 (hts _ (inT2 (List.mem_of_getElem? (i := 2) rfl)))
  obtain ⟨c5, i5, hk5⟩ := u_known (C := RX5) (T := TX5) (N := 4) (n := 4) hts in_wsX50 (hts _ (inT1 (List.mem_of_getElem? (i := 221) rfl)))
  obtain ⟨c6, i6, hk6⟩ := u_known (C := RX7) (T := TX7) (N := 6) (n := 6) hts in_wsX70 (hts _ (inT1 (List.mem_of_getElem? (i := 192) rfl)))
  obtain ⟨c7, i7, hk7⟩ := u_known (C := RX8) (T := TX8) (N := 9) (n := 9) hts in_wsX80 (hts _ (inT1 (List.mem_of_getElem? (i := 142) rfl)))
  obtain ⟨c8, i8, hk8⟩ := u_known (C := RX9) (T := TX9) (N := 8) (n := 8) hts in_wsX90 (hts _ (inT1 (List.mem_of_getElem? (i := 34) rfl)))
  obtain ⟨c9, i9, hk9⟩ := u_known (C := RX10) (T := TX10) (N := 8) (n := 8) hts in_wsX100 (hts _ (inT2 (List.mem_of_getElem? (i := 36) rfl)))
  obtain ⟨c10, i10, hk10⟩ := u_known (C := RX11) (T := TX11) (N := 19) (n := 19) hts in_wsX110 (hts _ (inT1 (List.mem_of_getElem? (i := 26) rfl)))
  obtain ⟨c11, i11, hk11⟩ := u_known (C := RX12) (T := TX12) (N := 48) (n := 48) hts in_wsX120 (hts _ (inT6 (List.mem_of_getElem? (i := 86) rfl)))
  obtain ⟨D, hKc⟩ : ∃ D : va_G, ∀ (k : Nat) (q : vw_C), vwCl[k]? = some q → u_Kn s q.1 q.2.1 q.2.2 (D.1 k) (D.2 k) := by
    refine ⟨(fun k => [c0, c1, c2, c3, c4, c5, c6, c7, c8, c9, c10, c11].getD k c0, fun k => [i0, i1, i2, i3, i4, i5, i6, i7, i8, i9, i10, i11].getD k i0), ?_⟩
    intro k q hq
    have hlt : k < 12 := (List.getElem?_eq_some_iff.mp hq).1
    rcases (show k = 0 ∨ k = 1 ∨ k = 2 ∨ k = 3 ∨ k = 4 ∨ k = 5 ∨ k = 6 ∨ k = 7 ∨ k = 8 ∨ k = 9 ∨ k = 10 ∨ k = 11 by omega) with rfl | rfl | rfl | rfl | rfl | rfl | rfl | rfl | rfl | rfl | rfl | rfl
    · cases hq; exact hk0
    · cases hq; exact hk1
    · cases hq; exact hk2
    · cases hq; exact hk3
    · cases hq; exact hk4
    · cases hq; exact hk5
    · cases hq; exact hk6
    · cases hq; exact hk7
    · cases hq; exact hk8
    · cases hq; exact hk9
    · cases hq; exact hk10
    · cases hq; exact hk11
  obtain ⟨T, hT⟩ : ∃ T : cT, ∀ (k : Nat) (q : ClassId × FieldType), (tysW T)[k]? = some q → ArrOfT s q.1 q.2 ∧ va_RA s q.1 q.2 := by
    obtain ⟨cI, kI, mI, f1, f2, f3⟩ := Cond.arrayClass_spec (hts _ (inT1 (List.mem_of_getElem? (i := 73) rfl)))
    obtain ⟨cJ, kJ, mJ, f4, f5, f6⟩ := Cond.arrayClass_spec (hts _ (inT2 (List.mem_of_getElem? (i := 149) rfl)))
    obtain ⟨cmp, cG, kG, f7, f9, f10, f11⟩ := Cond.arrayOver_specA (hts _ (inT6 (List.mem_of_getElem? (i := 92) rfl)))
    refine ⟨(cI, cJ, cG), ?_⟩
    intro k q hq
    have hlt : k < 3 := (List.getElem?_eq_some_iff.mp hq).1
    rcases (show k = 0 ∨ k = 1 ∨ k = 2 by omega) with rfl | rfl | rfl
    · cases hq; exact ⟨fun n z => ⟨fun k h => (by cases h), kI, f2, mI, f3⟩, f1⟩
    · cases hq; exact ⟨fun n z => ⟨fun k h => (by cases h), kJ, f5, mJ, f6⟩, f4⟩
    · cases hq; exact ⟨fun n z => ⟨fun k h => (by cases h), kG, f9, cmp, f10⟩, f11⟩
  have hK : va_K D vwCl (tysW T) s := ⟨hKc, hT⟩
  let Γ : Cxt := (p, e, s, m, #[.ref b], below, meth, c, fun q => s.heap.size ≤ q)
  have C : Cx D T cL_law_ 8 lw_tbl RL ret Γ := ⟨⟨hx, hb, hml, hown, hts⟩, hK, hr, hlocks⟩
  have hE : EL sK sV Γ.A Γ.s := ⟨hev, hnc⟩
  have hCl : Cl D T sK sV b L xs Γ := ⟨C, hA, hE, hX, hbl, Nat.not_le.mpr hbl, hL⟩
  have KE : ∀ (adX adM : Nat → Nat) (q kc ks n : Nat) (f : Nat → Int64) (gX : St) (xX : Sl) (gM : St) (xM : Sl), kc ≤ 601024 → ks ≤ 7293034 → Kj l D 8 room_1 kc ks Γ (lw_Z below #[Value.ref b] s) (lwV T adX adM q f gX xX gM xM) 2540 (lwLv adX adM b q n) [] := fun adX adM q kc ks n f gX xX gM xM h1 h2 => by
    refine q_iconst (v := (1 : Int32)) C dL_law__2540 (by decide) ?_
    intro H locs ls hP hD hS hl
    exact W.widen h1 h2 (va_forget hS.2.2 (lw_ret hx hb hr hlocks dL_law__2541))
  have main : Kj l D 8 room_1 0 0 Γ (lw_Z below #[Value.ref b] s) [] 0 [(0, .ref b)] [] := by
    refine q_new (ci := 10) (fs := [.null, .null, .null, .null, .null, .null, .null, .null, .null, .null, .null, .null, .null, .null, .null, .int 0, .int 0, .int 0, .int 0]) (kc' := 1) (ks' := 19) C hA (rfl : vwCl[10]? = some (RX11, TX11, 19)) in_wsX110 tyX11 tyX11_ok tb_1280 tb_1281 tb_573 (fun j hj => by rcases (show j = 0 ∨ j = 1 ∨ j = 2 ∨ j = 3 ∨ j = 4 ∨ j = 5 ∨ j = 6 ∨ j = 7 ∨ j = 8 ∨ j = 9 ∨ j = 10 ∨ j = 11 ∨ j = 12 ∨ j = 13 ∨ j = 14 ∨ j = 15 ∨ j = 16 ∨ j = 17 ∨ j = 18 by omega) with rfl | rfl | rfl | rfl | rfl | rfl | rfl | rfl | rfl | rfl | rfl | rfl | rfl | rfl | rfl | rfl | rfl | rfl | rfl <;> rfl) (Nat.le_of_ble_eq_true rfl) (Nat.le_of_ble_eq_true rfl) (Nat.le_of_ble_eq_true rfl) (Nat.le_of_ble_eq_true rfl) dL_law__0 (fun a1 => ?_)
    refine q_dup C dL_law__3 rfl ?_
    refine q_ci (h := shX) (go := oX2) (xo := xX0) (kc' := 52) (ks' := 3896) (rest := [.ref a1]) C hA EX_tab (cut_tail (a := [])) (fun sz => cX_init l D T sK sV a1 oX1 oX2 hx1 hx2 sz) (fun H locs U hS hFc hU hW => ⟨by rw [hU]; exact evX.moved hW ((hev.kept hS.2.1).narrow hFc), nestX_warm hW hnest⟩) (T_gi tb_555 BX_in BX_good) rfl tb_1284 tb_573 tb_1285 rfl (by decide +kernel) ⟨Nat.le_of_ble_eq_true rfl, Nat.le_of_ble_eq_true rfl⟩ ⟨rfl, rfl⟩ ⟨Nat.le_of_ble_eq_true rfl, Nat.le_of_ble_eq_true rfl⟩ ⟨Nat.le_of_ble_eq_true rfl, Nat.le_of_ble_eq_true rfl⟩ (Nat.le_of_ble_eq_true rfl) dL_law__4 (fun adX hadX => ?_)
    refine q_astore_n (lv' := [(1, .ref a1), (0, .ref b)]) C dL_law__7 rfl (Nat.le_of_ble_eq_true rfl) rfl ?_
    refine q_new (ci := 11) (fs := [.int 0, .int 0, .int 0, .int 0, .int 0, .int 0, .int 0, .int 0, .int 0, .null, .null, .null, .null, .null, .null, .null, .null, .int 0, .int 0, .null, .null, .null, .null, .null, .null, .null, .int 0, .null, .null, .null, .null, .int 0, .int 0, .int 0, .int 0, .int 0, .int 0, .int 0, .null, .null, .null, .int 0, .int 0, .null, .null, .int 0, .null, .int 0]) (kc' := 53) (ks' := 3944) C hA (rfl : vwCl[11]? = some (RX12, TX12, 48)) in_wsX120 tyX12 tyX12_ok tb_1282 tb_1283 tb_813 (fun j hj => by rcases (show j = 0 ∨ j = 1 ∨ j = 2 ∨ j = 3 ∨ j = 4 ∨ j = 5 ∨ j = 6 ∨ j = 7 ∨ j = 8 ∨ j = 9 ∨ j = 10 ∨ j = 11 ∨ j = 12 ∨ j = 13 ∨ j = 14 ∨ j = 15 ∨ j = 16 ∨ j = 17 ∨ j = 18 ∨ j = 19 ∨ j = 20 ∨ j = 21 ∨ j = 22 ∨ j = 23 ∨ j = 24 ∨ j = 25 ∨ j = 26 ∨ j = 27 ∨ j = 28 ∨ j = 29 ∨ j = 30 ∨ j = 31 ∨ j = 32 ∨ j = 33 ∨ j = 34 ∨ j = 35 ∨ j = 36 ∨ j = 37 ∨ j = 38 ∨ j = 39 ∨ j = 40 ∨ j = 41 ∨ j = 42 ∨ j = 43 ∨ j = 44 ∨ j = 45 ∨ j = 46 ∨ j = 47 by omega) with rfl | rfl | rfl | rfl | rfl | rfl | rfl | rfl | rfl | rfl | rfl | rfl | rfl | rfl | rfl | rfl | rfl | rfl | rfl | rfl | rfl | rfl | rfl | rfl | rfl | rfl | rfl | rfl | rfl | rfl | rfl | rfl | rfl | rfl | rfl | rfl | rfl | rfl | rfl | rfl | rfl | rfl | rfl | rfl | rfl | rfl | rfl | rfl <;> rfl) (Nat.le_of_ble_eq_true rfl) (Nat.le_of_ble_eq_true rfl) (Nat.le_of_ble_eq_true rfl) (Nat.le_of_ble_eq_true rfl) dL_law__8 (fun a2 => ?_)
    refine q_dup C dL_law__11 rfl ?_
    refine q_ci (h := shM) (go := oM2) (xo := xM0) (kc' := 529) (ks' := 8061) (rest := [.ref a2]) C hA AOA_tab cut_tail (fun sz => cM_init l D T a2 oM1 oM2 hm1 hm2 sz) (fun H locs U hS hFc hU hW => AOA_moved hW.alike haoa) (T_gi tb_841 BM_in BM_good) rfl tb_1286 tb_813 tb_1287 rfl (by decide +kernel) ⟨Nat.le_of_ble_eq_true rfl, Nat.le_of_ble_eq_true rfl⟩ ⟨rfl, rfl⟩ ⟨Nat.le_of_ble_eq_true rfl, Nat.le_of_ble_eq_true rfl⟩ ⟨Nat.le_of_ble_eq_true rfl, Nat.le_of_ble_eq_true rfl⟩ (Nat.le_of_ble_eq_true rfl) dL_law__12 (fun adM hadM => ?_)
    refine q_astore_n (lv' := [(2, .ref a2), (1, .ref a1), (0, .ref b)]) C dL_law__15 rfl (Nat.le_of_ble_eq_true rfl) rfl ?_
    refine q_iconst (v := (1 : Int32)) C dL_law__16 (by decide) ?_
    refine q_newl (kc' := 530) (ks' := 8062) C hA tb_536 (Nat.le_of_ble_eq_true rfl) (Nat.le_of_ble_eq_true rfl) (Nat.le_of_ble_eq_true rfl) (Nat.le_of_ble_eq_true rfl) dL_law__17 (fun q => ?_)
    refine q_astore_n (lv' := [(3, .ref q), (2, .ref a2), (1, .ref a1), (0, .ref b)]) C dL_law__19 rfl (Nat.le_of_ble_eq_true rfl) rfl ?_
    refine q_iconst (v := (0 : Int32)) C dL_law__20 (by decide) ?_
    refine q_istore (lv' := [(4, .int 0), (3, .ref q), (2, .ref a2), (1, .ref a1), (0, .ref b)]) C dL_law__21 (Nat.le_of_ble_eq_true rfl) rfl ?_
    refine q_sub [4, 3, 2, 1, 0] rfl ?_
    subst hadX hadM
    refine k_sub (ws' := lwV T adX adM q (fun _ => 0) oX2 xX0 oM2 xM0) (fun H z => ?_) (fun z => ?_) ?_
    · have z2 : va_P D vwCl ([oL T q fun _ => 0] ++ (wW shX T adX xX0 oX2 ++ wW shM T adM xM0 oM2)) H := va_P.swap (a := []) (b := wW shX T adX xX0 oX2 ++ wW shM T adM xM0 oM2) (c := [oL T q fun _ => 0]) z
      rw [← List.append_assoc] at z2
      exact z2
    · have z2 : va_D Γ.A ([oL T q fun _ => 0] ++ (wW shX T adX xX0 oX2 ++ wW shM T adM xM0 oM2)) := va_D.swap (a := []) (b := wW shX T adX xX0 oX2 ++ wW shM T adM xM0 oM2) (c := [oL T q fun _ => 0]) z
      rw [← List.append_assoc] at z2
      exact z2
    · exact law_loop (c0 := 530) (s0 := 8062) hCl hl0 S (by decide) (by decide) (KE adX adM q) 513 0 rfl (Nat.zero_le _) _ _ _ _ _ hR0
  have hl := lv_entry ([.ref b]) (n := 8) (Nat.le_of_ble_eq_true rfl)
  rw [lg_entry_eq]
  exact main s.heap [] _ (fun k q h => by simp at h) ⟨fun i j p q h => by simp at h, fun k q h => by simp at h⟩ va_S.rf hl
