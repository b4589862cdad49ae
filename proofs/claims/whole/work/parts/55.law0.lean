section LAW
variable {l : Launch} {D : va_G} {T : cT} {adX adM : Nat → Nat} {sK sV : Nat → Nat} {b L q n : Nat} {xs : Nat → Int32} {Γ : Cxt} {Q : State → Prop} {kc ks : Nat} {R : Rel} {f : Nat → Int64} {gX : St} {xX : Sl} {gM : St} {xM : Sl}
set_option maxRecDepth 100000 in
theorem case_feed (C : Cl D T sK sV b L xs Γ) (hS : Sim_feed R) (hn : 9 * n + 9 ≤ L) (hroom : kc + 5 ≤ 601024 ∧ ks + 30 ≤ 7293034) (hR : R gX xX gM xM) (K : ∀ (f2 : Nat → Int64) (gX2 : St) (xX2 : Sl) (gM2 : St) (xM2 : Sl), R gX2 xX2 gM2 xM2 → Kj l D 8 room_1 (kc + 5) (ks + 30) Γ Q (lwV T adX adM q f2 gX2 xX2 gM2 xM2) 2534 (lwLv adX adM b q n) []) : Kj l D 8 room_1 kc ks Γ Q (lwV T adX adM q f gX xX gM xM) 212 (lwLv adX adM b q n) [] := by
  have hR0 : room_1.cells = 601024 ∧ room_1.slots = 7293034 := ⟨rfl, rfl⟩
  obtain ⟨oX, oM, hx, hm, hR2, hv⟩ := hS gX xX gM xM (xs (9 * n + 1)) (xs (9 * n + 2)) (xs (9 * n + 3)) (xs (9 * n + 4)) (xs (9 * n + 5)) hR
  refine q_aload_n C.1 dL_law__212 rfl 1 rfl ?_
  refine q_aload_n C.1 dL_law__213 rfl 0 rfl ?_
  refine q_iload C.1 dL_law__214 4 rfl ?_
  refine q_iconst (v := Int32.ofNat 1) C.1 dL_law__216 (by decide) ?_
  refine q_iadd C.1 dL_law__217 ?_
  refine q_sld (v := xs (9 * n + 1)) C.1 C.2.2.2.1 C.2.2.2.2.1 C.2.2.2.2.2.1 (argI hn C.2.2.2.2.2.2 1 (by omega)).1 (congrArg xs (argI hn C.2.2.2.2.2.2 1 (by omega)).2) dL_law__218 ?_
  refine q_aload_n C.1 dL_law__219 rfl 0 rfl ?_
  refine q_iload C.1 dL_law__220 4 rfl ?_
  refine q_iconst (v := Int32.ofNat 2) C.1 dL_law__222 (by decide) ?_
  refine q_iadd C.1 dL_law__223 ?_
  refine q_sld (v := xs (9 * n + 2)) C.1 C.2.2.2.1 C.2.2.2.2.1 C.2.2.2.2.2.1 (argI hn C.2.2.2.2.2.2 2 (by omega)).1 (congrArg xs (argI hn C.2.2.2.2.2.2 2 (by omega)).2) dL_law__224 ?_
  refine q_aload_n C.1 dL_law__225 rfl 0 rfl ?_
  refine q_iload C.1 dL_law__226 4 rfl ?_
  refine q_iconst (v := Int32.ofNat 3) C.1 dL_law__228 (by decide) ?_
  refine q_iadd C.1 dL_law__229 ?_
  refine q_sld (v := xs (9 * n + 3)) C.1 C.2.2.2.1 C.2.2.2.2.1 C.2.2.2.2.2.1 (argI hn C.2.2.2.2.2.2 3 (by omega)).1 (congrArg xs (argI hn C.2.2.2.2.2.2 3 (by omega)).2) dL_law__230 ?_
  refine q_aload_n C.1 dL_law__231 rfl 0 rfl ?_
  refine q_iload C.1 dL_law__232 4 rfl ?_
  refine q_iconst (v := Int32.ofNat 4) C.1 dL_law__234 (by decide) ?_
  refine q_iadd C.1 dL_law__235 ?_
  refine q_sld (v := xs (9 * n + 4)) C.1 C.2.2.2.1 C.2.2.2.2.1 C.2.2.2.2.2.1 (argI hn C.2.2.2.2.2.2 4 (by omega)).1 (congrArg xs (argI hn C.2.2.2.2.2.2 4 (by omega)).2) dL_law__236 ?_
  refine q_aload_n C.1 dL_law__237 rfl 0 rfl ?_
  refine q_iload C.1 dL_law__238 4 rfl ?_
  refine q_iconst (v := Int32.ofNat 5) C.1 dL_law__240 (by decide) ?_
  refine q_iadd C.1 dL_law__241 ?_
  refine q_sld (v := xs (9 * n + 5)) C.1 C.2.2.2.1 C.2.2.2.2.1 C.2.2.2.2.2.1 (argI hn C.2.2.2.2.2.2 5 (by omega)).1 (congrArg xs (argI hn C.2.2.2.2.2.2 5 (by omega)).2) dL_law__242 ?_
  refine q_xi (kc' := kc) (ks' := ks) (rest := []) (ro := oX.1) (go := oX.2) (xo := xX) (As := [.int (xs (9 * n + 1)), .int (xs (9 * n + 2)), .int (xs (9 * n + 3)), .int (xs (9 * n + 4)), .int (xs (9 * n + 5))]) C.1 C.2.1 C.2.2.1.1 (cut_mid (a := [oL T q f])) (fun sz => cX_feed l D T adX sK sV xX gX (xs (9 * n + 1)) (xs (9 * n + 2)) (xs (9 * n + 3)) (xs (9 * n + 4)) (xs (9 * n + 5)) oX hx sz) (TM_kV tb_1288 tb_1289 tb_1290 tb_573 tb_556 (n := 5) (by decide +kernel) BX_in BX_good) ⟨Nat.le_of_ble_eq_true rfl, Nat.le_of_ble_eq_true rfl⟩ ⟨rfl, rfl⟩ (by have := hroom; exact ⟨by omega, by omega⟩) ⟨Nat.le_refl _, Nat.le_refl _⟩ rfl rfl (Nat.le_of_ble_eq_true rfl) dL_law__243 ?_
  refine q_aload_n C.1 dL_law__246 rfl 2 rfl ?_
  refine q_aload_n C.1 dL_law__247 rfl 0 rfl ?_
  refine q_iload C.1 dL_law__248 4 rfl ?_
  refine q_iconst (v := Int32.ofNat 1) C.1 dL_law__250 (by decide) ?_
  refine q_iadd C.1 dL_law__251 ?_
  refine q_sld (v := xs (9 * n + 1)) C.1 C.2.2.2.1 C.2.2.2.2.1 C.2.2.2.2.2.1 (argI hn C.2.2.2.2.2.2 1 (by omega)).1 (congrArg xs (argI hn C.2.2.2.2.2.2 1 (by omega)).2) dL_law__252 ?_
  refine q_aload_n C.1 dL_law__253 rfl 0 rfl ?_
  refine q_iload C.1 dL_law__254 4 rfl ?_
  refine q_iconst (v := Int32.ofNat 2) C.1 dL_law__256 (by decide) ?_
  refine q_iadd C.1 dL_law__257 ?_
  refine q_sld (v := xs (9 * n + 2)) C.1 C.2.2.2.1 C.2.2.2.2.1 C.2.2.2.2.2.1 (argI hn C.2.2.2.2.2.2 2 (by omega)).1 (congrArg xs (argI hn C.2.2.2.2.2.2 2 (by omega)).2) dL_law__258 ?_
  refine q_aload_n C.1 dL_law__259 rfl 0 rfl ?_
  refine q_iload C.1 dL_law__260 4 rfl ?_
  refine q_iconst (v := Int32.ofNat 3) C.1 dL_law__262 (by decide) ?_
  refine q_iadd C.1 dL_law__263 ?_
  refine q_sld (v := xs (9 * n + 3)) C.1 C.2.2.2.1 C.2.2.2.2.1 C.2.2.2.2.2.1 (argI hn C.2.2.2.2.2.2 3 (by omega)).1 (congrArg xs (argI hn C.2.2.2.2.2.2 3 (by omega)).2) dL_law__264 ?_
  refine q_aload_n C.1 dL_law__265 rfl 0 rfl ?_
  refine q_iload C.1 dL_law__266 4 rfl ?_
  refine q_iconst (v := Int32.ofNat 4) C.1 dL_law__268 (by decide) ?_
  refine q_iadd C.1 dL_law__269 ?_
  refine q_sld (v := xs (9 * n + 4)) C.1 C.2.2.2.1 C.2.2.2.2.1 C.2.2.2.2.2.1 (argI hn C.2.2.2.2.2.2 4 (by omega)).1 (congrArg xs (argI hn C.2.2.2.2.2.2 4 (by omega)).2) dL_law__270 ?_
  refine q_aload_n C.1 dL_law__271 rfl 0 rfl ?_
  refine q_iload C.1 dL_law__272 4 rfl ?_
  refine q_iconst (v := Int32.ofNat 5) C.1 dL_law__274 (by decide) ?_
  refine q_iadd C.1 dL_law__275 ?_
  refine q_sld (v := xs (9 * n + 5)) C.1 C.2.2.2.1 C.2.2.2.2.1 C.2.2.2.2.2.1 (argI hn C.2.2.2.2.2.2 5 (by omega)).1 (congrArg xs (argI hn C.2.2.2.2.2.2 5 (by omega)).2) dL_law__276 ?_
  refine q_mi (kc' := kc) (ks' := ks) (rest := [.int oX.1]) (ro := oM.1) (go := oM.2) (xo := xM) (As := [.int (xs (9 * n + 1)), .int (xs (9 * n + 2)), .int (xs (9 * n + 3)), .int (xs (9 * n + 4)), .int (xs (9 * n + 5))]) C.1 C.2.1 cut_tail (fun sz => cM_feed l D T adM xM gM (xs (9 * n + 1)) (xs (9 * n + 2)) (xs (9 * n + 3)) (xs (9 * n + 4)) (xs (9 * n + 5)) oM hm sz) (TM_kV tb_1291 tb_1292 tb_1293 tb_813 tb_849 (n := 5) (by decide +kernel) BM_in BM_good) ⟨Nat.le_of_ble_eq_true rfl, Nat.le_of_ble_eq_true rfl⟩ ⟨rfl, rfl⟩ (by have := hroom; exact ⟨by omega, by omega⟩) ⟨Nat.le_refl _, Nat.le_refl _⟩ rfl rfl (Nat.le_of_ble_eq_true rfl) dL_law__277 ?_
  refine q_icmp_eq C.1 2534 dL_law__280 (by decide) (fun _ => ?_) (fun c9 => absurd hv c9)
  exact q_widen (Nat.le_add_right _ _) (Nat.le_add_right _ _) (K _ _ _ _ _ hR2)
set_option maxRecDepth 100000 in
theorem case_peninsula (C : Cl D T sK sV b L xs Γ) (hl0 : l.stackTraces = false) (hS : Sim_peninsula R) (hn : 9 * n + 9 ≤ L) (hroom : kc + 5 ≤ 601024 ∧ ks + 30 ≤ 7293034) (hR : R gX xX gM xM) (K : ∀ (f2 : Nat → Int64) (gX2 : St) (xX2 : Sl) (gM2 : St) (xM2 : Sl), R gX2 xX2 gM2 xM2 → Kj l D 8 room_1 (kc + 5) (ks + 30) Γ Q (lwV T adX adM q f2 gX2 xX2 gM2 xM2) 2534 (lwLv adX adM b q n) []) : Kj l D 8 room_1 kc ks Γ Q (lwV T adX adM q f gX xX gM xM) 285 (lwLv adX adM b q n) [] := by
  have hR0 : room_1.cells = 601024 ∧ room_1.slots = 7293034 := ⟨rfl, rfl⟩
  obtain ⟨oX, oM, hx, hm, hR2, hv⟩ := hS gX xX gM xM (xs (9 * n + 1)) hR
  refine q_aload_n C.1 dL_law__285 rfl 1 rfl ?_
  refine q_aload_n C.1 dL_law__286 rfl 0 rfl ?_
  refine q_iload C.1 dL_law__287 4 rfl ?_
  refine q_iconst (v := Int32.ofNat 1) C.1 dL_law__289 (by decide) ?_
  refine q_iadd C.1 dL_law__290 ?_
  refine q_sld (v := xs (9 * n + 1)) C.1 C.2.2.2.1 C.2.2.2.2.1 C.2.2.2.2.2.1 (argI hn C.2.2.2.2.2.2 1 (by omega)).1 (congrArg xs (argI hn C.2.2.2.2.2.2 1 (by omega)).2) dL_law__291 ?_
  refine q_aload_n C.1 dL_law__292 rfl 3 rfl ?_
  refine q_w (kc' := kc + 1) (ks' := ks + 6) (rest := []) (As := [.ref (adX 0), .int (xs (9 * n + 1)), .ref q]) C.1 C.2.1 C.2.2.1 cut_head (fun sz => cL_peninsula_w l hl0 D T adX sK sV xX gX q f (xs (9 * n + 1)) oX hx (simR_hk hv) sz) (TL_gi tb_1294 tb_1295 tb_1296 tb_1297) ⟨_, rfl⟩ (n := 3) (by decide +kernel) ⟨Nat.le_of_ble_eq_true rfl, Nat.le_of_ble_eq_true rfl⟩ ⟨rfl, rfl⟩ (by have := hroom; exact ⟨by omega, by omega⟩) ⟨Nat.le_refl _, Nat.le_refl _⟩ rfl rfl (Nat.le_of_ble_eq_true rfl) dL_law__293 (fun r u hu => ?_)
  obtain ⟨e1, e2⟩ := use_I hv hu
  refine q_istore (lv' := [(5, .int r), (0, .ref b), (1, .ref (adX 0)), (2, .ref (adM 0)), (3, .ref q), (4, .int (Int32.ofNat (9 * n)))]) C.1 dL_law__296 (Nat.le_of_ble_eq_true rfl) rfl ?_
  refine q_aload_n C.1 dL_law__298 rfl 3 rfl ?_
  refine q_aload_n C.1 dL_law__299 rfl 1 rfl ?_
  refine q_iload C.1 dL_law__300 5 rfl ?_
  refine q_iconst (v := Int32.ofNat 1) C.1 dL_law__302 (by decide) ?_
  refine q_iadd C.1 dL_law__303 ?_
  refine q_sld (v := xs (9 * n + 1)) C.1 C.2.2.2.1 C.2.2.2.2.1 C.2.2.2.2.2.1 (argI hn C.2.2.2.2.2.2 1 (by omega)).1 (congrArg xs (argI hn C.2.2.2.2.2.2 1 (by omega)).2) dL_law__304 ?_
  refine q_mi (kc' := kc + 1) (ks' := ks + 6) (rest := []) (ro := oM.1) (go := oM.2) (xo := xM) (As := [.int (xs (9 * n + 1))]) C.1 C.2.1 (cut_tail (a := [oL T q u] ++ wW shX T adX xX oX.2)) (fun sz => cM_peninsula l D T adM xM gM (xs (9 * n + 1)) oM hm sz) (TM_kV tb_1298 tb_1299 tb_1300 tb_813 tb_926 (n := 1) (by decide +kernel) BM_in BM_good) ⟨Nat.le_of_ble_eq_true rfl, Nat.le_of_ble_eq_true rfl⟩ ⟨rfl, rfl⟩ (by have := hroom; exact ⟨by omega, by omega⟩) ⟨Nat.le_refl _, Nat.le_refl _⟩ rfl rfl (Nat.le_of_ble_eq_true rfl) dL_law__305 ?_
  refine q_istore (lv' := [(6, .int oM.1), (5, .int r), (0, .ref b), (1, .ref (adX 0)), (2, .ref (adM 0)), (3, .ref q), (4, .int (Int32.ofNat (9 * n)))]) C.1 dL_law__308 (Nat.le_of_ble_eq_true rfl) rfl ?_
  refine q_aload_n C.1 dL_law__310 rfl 4 rfl ?_
  refine q_mi (kc' := kc + 1) (ks' := ks + 6) (rest := []) (ro := oM.2 0 0) (go := oM.2) (xo := xM) (As := []) C.1 C.2.1 (cut_tail (a := [oL T q u] ++ wW shX T adX xX oX.2)) (fun sz => cM_thrown l D T adM xM oM.2 _ rfl sz) (TM_kV tb_1301 tb_1302 tb_1303 tb_813 tb_842 (n := 0) (by decide +kernel) BM_in BM_good) ⟨Nat.le_of_ble_eq_true rfl, Nat.le_of_ble_eq_true rfl⟩ ⟨rfl, rfl⟩ (by have := hroom; exact ⟨by omega, by omega⟩) ⟨Nat.le_refl _, Nat.le_refl _⟩ rfl rfl (Nat.le_of_ble_eq_true rfl) dL_law__311 ?_
  refine q_iload C.1 dL_law__314 1 rfl ?_
  refine q_icmp_eq C.1 321 dL_law__316 (by decide) (fun _ => ?_) (fun c9 => absurd e1 c9)
  refine q_iload C.1 dL_law__321 1 rfl ?_
  have fin : Kj l D 8 room_1 (kc + 1) (ks + 6) Γ Q (lwV T adX adM q u oX.2 xX oM.2 xM) 338 [(6, .int oM.1), (5, .int r), (0, .ref b), (1, .ref (adX 0)), (2, .ref (adM 0)), (3, .ref q), (4, .int (Int32.ofNat (9 * n)))] [] := by
    refine q_goto (tgt := 2534) C.1 dL_law__338 (by decide) ?_
    refine q_sub [2, 3, 4, 5, 6] rfl ?_
    exact q_widen (by omega) (by omega) (K u oX.2 xX oM.2 xM hR2)
  refine q_if_ne C.1 338 dL_law__323 (by decide) (fun c9 => ?_) (fun _ => fin)
  have e3 := e2 c9
  refine q_aload_n C.1 dL_law__326 rfl 5 rfl ?_
  refine q_iconst (v := (0 : Int32)) C.1 dL_law__327 (by decide) ?_
  refine q_lald C.1 rfl dL_law__328 ?_
  refine q_iload C.1 dL_law__329 0 rfl ?_
  refine q_i2l C.1 dL_law__331 ?_
  refine q_lcmp C.1 dL_law__332 ?_
  exact q_if_eq C.1 338 dL_law__333 (by decide) (fun _ => fin) (fun c8 => absurd (lgc0 e3) c8)
set_option maxRecDepth 100000 in
theorem case_law (C : Cl D T sK sV b L xs Γ) (hl0 : l.stackTraces = false) (hS : Sim_law R) (hn : 9 * n + 9 ≤ L) (hroom : kc + 5 ≤ 601024 ∧ ks + 30 ≤ 7293034) (hR : R gX xX gM xM) (K : ∀ (f2 : Nat → Int64) (gX2 : St) (xX2 : Sl) (gM2 : St) (xM2 : Sl), R gX2 xX2 gM2 xM2 → Kj l D 8 room_1 (kc + 5) (ks + 30) Γ Q (lwV T adX adM q f2 gX2 xX2 gM2 xM2) 2534 (lwLv adX adM b q n) []) : Kj l D 8 room_1 kc ks Γ Q (lwV T adX adM q f gX xX gM xM) 341 (lwLv adX adM b q n) [] := by
  have hR0 : room_1.cells = 601024 ∧ room_1.slots = 7293034 := ⟨rfl, rfl⟩
  obtain ⟨oX, oM, hx, hm, hR2, hv⟩ := hS gX xX gM xM (xs (9 * n + 1)) hR
  refine q_aload_n C.1 dL_law__341 rfl 1 rfl ?_
  refine q_aload_n C.1 dL_law__342 rfl 0 rfl ?_
  refine q_iload C.1 dL_law__343 4 rfl ?_
  refine q_iconst (v := Int32.ofNat 1) C.1 dL_law__345 (by decide) ?_
  refine q_iadd C.1 dL_law__346 ?_
  refine q_sld (v := xs (9 * n + 1)) C.1 C.2.2.2.1 C.2.2.2.2.1 C.2.2.2.2.2.1 (argI hn C.2.2.2.2.2.2 1 (by omega)).1 (congrArg xs (argI hn C.2.2.2.2.2.2 1 (by omega)).2) dL_law__347 ?_
  refine q_aload_n C.1 dL_law__348 rfl 3 rfl ?_
  refine q_w (kc' := kc + 1) (ks' := ks + 6) (rest := []) (As := [.ref (adX 0), .int (xs (9 * n + 1)), .ref q]) C.1 C.2.1 C.2.2.1 cut_head (fun sz => cL_law_w l hl0 D T adX sK sV xX gX q f (xs (9 * n + 1)) oX hx (simR_hk hv) sz) (TL_gi tb_1304 tb_1305 tb_1296 tb_1306) ⟨_, rfl⟩ (n := 3) (by decide +kernel) ⟨Nat.le_of_ble_eq_true rfl, Nat.le_of_ble_eq_true rfl⟩ ⟨rfl, rfl⟩ (by have := hroom; exact ⟨by omega, by omega⟩) ⟨Nat.le_refl _, Nat.le_refl _⟩ rfl rfl (Nat.le_of_ble_eq_true rfl) dL_law__349 (fun r u hu => ?_)
  obtain ⟨e1, e2⟩ := use_I hv hu
  refine q_istore (lv' := [(5, .int r), (0, .ref b), (1, .ref (adX 0)), (2, .ref (adM 0)), (3, .ref q), (4, .int (Int32.ofNat (9 * n)))]) C.1 dL_law__352 (Nat.le_of_ble_eq_true rfl) rfl ?_
  refine q_aload_n C.1 dL_law__354 rfl 3 rfl ?_
  refine q_aload_n C.1 dL_law__355 rfl 1 rfl ?_
  refine q_iload C.1 dL_law__356 5 rfl ?_
  refine q_iconst (v := Int32.ofNat 1) C.1 dL_law__358 (by decide) ?_
  refine q_iadd C.1 dL_law__359 ?_
  refine q_sld (v := xs (9 * n + 1)) C.1 C.2.2.2.1 C.2.2.2.2.1 C.2.2.2.2.2.1 (argI hn C.2.2.2.2.2.2 1 (by omega)).1 (congrArg xs (argI hn C.2.2.2.2.2.2 1 (by omega)).2) dL_law__360 ?_
  refine q_mi (kc' := kc + 1) (ks' := ks + 6) (rest := []) (ro := oM.1) (go := oM.2) (xo := xM) (As := [.int (xs (9 * n + 1))]) C.1 C.2.1 (cut_tail (a := [oL T q u] ++ wW shX T adX xX oX.2)) (fun sz => cM_law l D T adM xM gM (xs (9 * n + 1)) oM hm sz) (TM_kV tb_1307 tb_1308 tb_1309 tb_813 tb_959 (n := 1) (by decide +kernel) BM_in BM_good) ⟨Nat.le_of_ble_eq_true rfl, Nat.le_of_ble_eq_true rfl⟩ ⟨rfl, rfl⟩ (by have := hroom; exact ⟨by omega, by omega⟩) ⟨Nat.le_refl _, Nat.le_refl _⟩ rfl rfl (Nat.le_of_ble_eq_true rfl) dL_law__361 ?_
  refine q_istore (lv' := [(6, .int oM.1), (5, .int r), (0, .ref b), (1, .ref (adX 0)), (2, .ref (adM 0)), (3, .ref q), (4, .int (Int32.ofNat (9 * n)))]) C.1 dL_law__364 (Nat.le_of_ble_eq_true rfl) rfl ?_
  refine q_aload_n C.1 dL_law__366 rfl 4 rfl ?_
  refine q_mi (kc' := kc + 1) (ks' := ks + 6) (rest := []) (ro := oM.2 0 0) (go := oM.2) (xo := xM) (As := []) C.1 C.2.1 (cut_tail (a := [oL T q u] ++ wW shX T adX xX oX.2)) (fun sz => cM_thrown l D T adM xM oM.2 _ rfl sz) (TM_kV tb_1301 tb_1302 tb_1303 tb_813 tb_842 (n := 0) (by decide +kernel) BM_in BM_good) ⟨Nat.le_of_ble_eq_true rfl, Nat.le_of_ble_eq_true rfl⟩ ⟨rfl, rfl⟩ (by have := hroom; exact ⟨by omega, by omega⟩) ⟨Nat.le_refl _, Nat.le_refl _⟩ rfl rfl (Nat.le_of_ble_eq_true rfl) dL_law__367 ?_
  refine q_iload C.1 dL_law__370 1 rfl ?_
  refine q_icmp_eq C.1 377 dL_law__372 (by decide) (fun _ => ?_) (fun c9 => absurd e1 c9)
  refine q_iload C.1 dL_law__377 1 rfl ?_
  have fin : Kj l D 8 room_1 (kc + 1) (ks + 6) Γ Q (lwV T adX adM q u oX.2 xX oM.2 xM) 394 [(6, .int oM.1), (5, .int r), (0, .ref b), (1, .ref (adX 0)), (2, .ref (adM 0)), (3, .ref q), (4, .int (Int32.ofNat (9 * n)))] [] := by
    refine q_goto (tgt := 2534) C.1 dL_law__394 (by decide) ?_
    refine q_sub [2, 3, 4, 5, 6] rfl ?_
    exact q_widen (by omega) (by omega) (K u oX.2 xX oM.2 xM hR2)
  refine q_if_ne C.1 394 dL_law__379 (by decide) (fun c9 => ?_) (fun _ => fin)
  have e3 := e2 c9
  refine q_aload_n C.1 dL_law__382 rfl 5 rfl ?_
  refine q_iconst (v := (0 : Int32)) C.1 dL_law__383 (by decide) ?_
  refine q_lald C.1 rfl dL_law__384 ?_
  refine q_iload C.1 dL_law__385 0 rfl ?_
  refine q_i2l C.1 dL_law__387 ?_
  refine q_lcmp C.1 dL_law__388 ?_
  exact q_if_eq C.1 394 dL_law__389 (by decide) (fun _ => fin) (fun c8 => absurd (lgc0 e3) c8)
set_option maxRecDepth 100000 in
theorem case_work (C : Cl D T sK sV b L xs Γ) (hl0 : l.stackTraces = false) (hS : Sim_work R) (hn : 9 * n + 9 ≤ L) (hroom : kc + 5 ≤ 601024 ∧ ks + 30 ≤ 7293034) (hR : R gX xX gM xM) (K : ∀ (f2 : Nat → Int64) (gX2 : St) (xX2 : Sl) (gM2 : St) (xM2 : Sl), R gX2 xX2 gM2 xM2 → Kj l D 8 room_1 (kc + 5) (ks + 30) Γ Q (lwV T adX adM q f2 gX2 xX2 gM2 xM2) 2534 (lwLv adX adM b q n) []) : Kj l D 8 room_1 kc ks Γ Q (lwV T adX adM q f gX xX gM xM) 397 (lwLv adX adM b q n) [] := by
  have hR0 : room_1.cells = 601024 ∧ room_1.slots = 7293034 := ⟨rfl, rfl⟩
  obtain ⟨oX, oM, hx, hm, hR2, hv⟩ := hS gX xX gM xM (xs (9 * n + 1)) hR
  refine q_aload_n C.1 dL_law__397 rfl 1 rfl ?_
  refine q_aload_n C.1 dL_law__398 rfl 0 rfl ?_
  refine q_iload C.1 dL_law__399 4 rfl ?_
  refine q_iconst (v := Int32.ofNat 1) C.1 dL_law__401 (by decide) ?_
  refine q_iadd C.1 dL_law__402 ?_
  refine q_sld (v := xs (9 * n + 1)) C.1 C.2.2.2.1 C.2.2.2.2.1 C.2.2.2.2.2.1 (argI hn C.2.2.2.2.2.2 1 (by omega)).1 (congrArg xs (argI hn C.2.2.2.2.2.2 1 (by omega)).2) dL_law__403 ?_
  refine q_aload_n C.1 dL_law__404 rfl 3 rfl ?_
  refine q_w (kc' := kc + 1) (ks' := ks + 6) (rest := []) (As := [.ref (adX 0), .int (xs (9 * n + 1)), .ref q]) C.1 C.2.1 C.2.2.1 cut_head (fun sz => cL_work_w l hl0 D T adX sK sV xX gX q f (xs (9 * n + 1)) oX hx (simR_hk hv) sz) (TL_gi tb_1310 tb_1311 tb_1296 tb_1312) ⟨_, rfl⟩ (n := 3) (by decide +kernel) ⟨Nat.le_of_ble_eq_true rfl, Nat.le_of_ble_eq_true rfl⟩ ⟨rfl, rfl⟩ (by have := hroom; exact ⟨by omega, by omega⟩) ⟨Nat.le_refl _, Nat.le_refl _⟩ rfl rfl (Nat.le_of_ble_eq_true rfl) dL_law__405 (fun r u hu => ?_)
  obtain ⟨e1, e2⟩ := use_I hv hu
  refine q_istore (lv' := [(5, .int r), (0, .ref b), (1, .ref (adX 0)), (2, .ref (adM 0)), (3, .ref q), (4, .int (Int32.ofNat (9 * n)))]) C.1 dL_law__408 (Nat.le_of_ble_eq_true rfl) rfl ?_
  refine q_aload_n C.1 dL_law__410 rfl 3 rfl ?_
  refine q_aload_n C.1 dL_law__411 rfl 1 rfl ?_
  refine q_iload C.1 dL_law__412 5 rfl ?_
  refine q_iconst (v := Int32.ofNat 1) C.1 dL_law__414 (by decide) ?_
  refine q_iadd C.1 dL_law__415 ?_
  refine q_sld (v := xs (9 * n + 1)) C.1 C.2.2.2.1 C.2.2.2.2.1 C.2.2.2.2.2.1 (argI hn C.2.2.2.2.2.2 1 (by omega)).1 (congrArg xs (argI hn C.2.2.2.2.2.2 1 (by omega)).2) dL_law__416 ?_
  refine q_mi (kc' := kc + 1) (ks' := ks + 6) (rest := []) (ro := oM.1) (go := oM.2) (xo := xM) (As := [.int (xs (9 * n + 1))]) C.1 C.2.1 (cut_tail (a := [oL T q u] ++ wW shX T adX xX oX.2)) (fun sz => cM_work l D T adM xM gM (xs (9 * n + 1)) oM hm sz) (TM_kV tb_1313 tb_1314 tb_1315 tb_813 tb_1042 (n := 1) (by decide +kernel) BM_in BM_good) ⟨Nat.le_of_ble_eq_true rfl, Nat.le_of_ble_eq_true rfl⟩ ⟨rfl, rfl⟩ (by have := hroom; exact ⟨by omega, by omega⟩) ⟨Nat.le_refl _, Nat.le_refl _⟩ rfl rfl (Nat.le_of_ble_eq_true rfl) dL_law__417 ?_
  refine q_istore (lv' := [(6, .int oM.1), (5, .int r), (0, .ref b), (1, .ref (adX 0)), (2, .ref (adM 0)), (3, .ref q), (4, .int (Int32.ofNat (9 * n)))]) C.1 dL_law__420 (Nat.le_of_ble_eq_true rfl) rfl ?_
  refine q_aload_n C.1 dL_law__422 rfl 4 rfl ?_
  refine q_mi (kc' := kc + 1) (ks' := ks + 6) (rest := []) (ro := oM.2 0 0) (go := oM.2) (xo := xM) (As := []) C.1 C.2.1 (cut_tail (a := [oL T q u] ++ wW shX T adX xX oX.2)) (fun sz => cM_thrown l D T adM xM oM.2 _ rfl sz) (TM_kV tb_1301 tb_1302 tb_1303 tb_813 tb_842 (n := 0) (by decide +kernel) BM_in BM_good) ⟨Nat.le_of_ble_eq_true rfl, Nat.le_of_ble_eq_true rfl⟩ ⟨rfl, rfl⟩ (by have := hroom; exact ⟨by omega, by omega⟩) ⟨Nat.le_refl _, Nat.le_refl _⟩ rfl rfl (Nat.le_of_ble_eq_true rfl) dL_law__423 ?_
  refine q_iload C.1 dL_law__426 1 rfl ?_
  refine q_icmp_eq C.1 433 dL_law__428 (by decide) (fun _ => ?_) (fun c9 => absurd e1 c9)
  refine q_iload C.1 dL_law__433 1 rfl ?_
  have fin : Kj l D 8 room_1 (kc + 1) (ks + 6) Γ Q (lwV T adX adM q u oX.2 xX oM.2 xM) 450 [(6, .int oM.1), (5, .int r), (0, .ref b), (1, .ref (adX 0)), (2, .ref (adM 0)), (3, .ref q), (4, .int (Int32.ofNat (9 * n)))] [] := by
    refine q_goto (tgt := 2534) C.1 dL_law__450 (by decide) ?_
    refine q_sub [2, 3, 4, 5, 6] rfl ?_
    exact q_widen (by omega) (by omega) (K u oX.2 xX oM.2 xM hR2)
  refine q_if_ne C.1 450 dL_law__435 (by decide) (fun c9 => ?_) (fun _ => fin)
  have e3 := e2 c9
  refine q_aload_n C.1 dL_law__438 rfl 5 rfl ?_
  refine q_iconst (v := (0 : Int32)) C.1 dL_law__439 (by decide) ?_
  refine q_lald C.1 rfl dL_law__440 ?_
  refine q_iload C.1 dL_law__441 0 rfl ?_
  refine q_i2l C.1 dL_law__443 ?_
  refine q_lcmp C.1 dL_law__444 ?_
  exact q_if_eq C.1 450 dL_law__445 (by decide) (fun _ => fin) (fun c8 => absurd (lgc0 e3) c8)
set_option maxRecDepth 100000 in
theorem case_book (C : Cl D T sK sV b L xs Γ) (hl0 : l.stackTraces = false) (hS : Sim_book R) (hn : 9 * n + 9 ≤ L) (hroom : kc + 5 ≤ 601024 ∧ ks + 30 ≤ 7293034) (hR : R gX xX gM xM) (K : ∀ (f2 : Nat → Int64) (gX2 : St) (xX2 : Sl) (gM2 : St) (xM2 : Sl), R gX2 xX2 gM2 xM2 → Kj l D 8 room_1 (kc + 5) (ks + 30) Γ Q (lwV T adX adM q f2 gX2 xX2 gM2 xM2) 2534 (lwLv adX adM b q n) []) : Kj l D 8 room_1 kc ks Γ Q (lwV T adX adM q f gX xX gM xM) 453 (lwLv adX adM b q n) [] := by
  have hR0 : room_1.cells = 601024 ∧ room_1.slots = 7293034 := ⟨rfl, rfl⟩
  obtain ⟨oX, oM, hx, hm, hR2, hv⟩ := hS gX xX gM xM (xs (9 * n + 1)) hR
  refine q_aload_n C.1 dL_law__453 rfl 1 rfl ?_
  refine q_aload_n C.1 dL_law__454 rfl 0 rfl ?_
  refine q_iload C.1 dL_law__455 4 rfl ?_
  refine q_iconst (v := Int32.ofNat 1) C.1 dL_law__457 (by decide) ?_
  refine q_iadd C.1 dL_law__458 ?_
  refine q_sld (v := xs (9 * n + 1)) C.1 C.2.2.2.1 C.2.2.2.2.1 C.2.2.2.2.2.1 (argI hn C.2.2.2.2.2.2 1 (by omega)).1 (congrArg xs (argI hn C.2.2.2.2.2.2 1 (by omega)).2) dL_law__459 ?_
  refine q_aload_n C.1 dL_law__460 rfl 3 rfl ?_
  refine q_w (kc' := kc + 1) (ks' := ks + 6) (rest := []) (As := [.ref (adX 0), .int (xs (9 * n + 1)), .ref q]) C.1 C.2.1 C.2.2.1 cut_head (fun sz => cL_book_w l hl0 D T adX sK sV xX gX q f (xs (9 * n + 1)) oX hx (simR_hk hv) sz) (TL_gi tb_1316 tb_1317 tb_1296 tb_1318) ⟨_, rfl⟩ (n := 3) (by decide +kernel) ⟨Nat.le_of_ble_eq_true rfl, Nat.le_of_ble_eq_true rfl⟩ ⟨rfl, rfl⟩ (by have := hroom; exact ⟨by omega, by omega⟩) ⟨Nat.le_refl _, Nat.le_refl _⟩ rfl rfl (Nat.le_of_ble_eq_true rfl) dL_law__461 (fun r u hu => ?_)
  obtain ⟨e1, e2⟩ := use_I hv hu
  refine q_istore (lv' := [(5, .int r), (0, .ref b), (1, .ref (adX 0)), (2, .ref (adM 0)), (3, .ref q), (4, .int (Int32.ofNat (9 * n)))]) C.1 dL_law__464 (Nat.le_of_ble_eq_true rfl) rfl ?_
  refine q_aload_n C.1 dL_law__466 rfl 3 rfl ?_
  refine q_aload_n C.1 dL_law__467 rfl 1 rfl ?_
  refine q_iload C.1 dL_law__468 5 rfl ?_
  refine q_iconst (v := Int32.ofNat 1) C.1 dL_law__470 (by decide) ?_
  refine q_iadd C.1 dL_law__471 ?_
  refine q_sld (v := xs (9 * n + 1)) C.1 C.2.2.2.1 C.2.2.2.2.1 C.2.2.2.2.2.1 (argI hn C.2.2.2.2.2.2 1 (by omega)).1 (congrArg xs (argI hn C.2.2.2.2.2.2 1 (by omega)).2) dL_law__472 ?_
  refine q_mi (kc' := kc + 1) (ks' := ks + 6) (rest := []) (ro := oM.1) (go := oM.2) (xo := xM) (As := [.int (xs (9 * n + 1))]) C.1 C.2.1 (cut_tail (a := [oL T q u] ++ wW shX T adX xX oX.2)) (fun sz => cM_book l D T adM xM gM (xs (9 * n + 1)) oM hm sz) (TM_kV tb_1319 tb_1320 tb_1321 tb_813 tb_979 (n := 1) (by decide +kernel) BM_in BM_good) ⟨Nat.le_of_ble_eq_true rfl, Nat.le_of_ble_eq_true rfl⟩ ⟨rfl, rfl⟩ (by have := hroom; exact ⟨by omega, by omega⟩) ⟨Nat.le_refl _, Nat.le_refl _⟩ rfl rfl (Nat.le_of_ble_eq_true rfl) dL_law__473 ?_
  refine q_istore (lv' := [(6, .int oM.1), (5, .int r), (0, .ref b), (1, .ref (adX 0)), (2, .ref (adM 0)), (3, .ref q), (4, .int (Int32.ofNat (9 * n)))]) C.1 dL_law__476 (Nat.le_of_ble_eq_true rfl) rfl ?_
  refine q_aload_n C.1 dL_law__478 rfl 4 rfl ?_
  refine q_mi (kc' := kc + 1) (ks' := ks + 6) (rest := []) (ro := oM.2 0 0) (go := oM.2) (xo := xM) (As := []) C.1 C.2.1 (cut_tail (a := [oL T q u] ++ wW shX T adX xX oX.2)) (fun sz => cM_thrown l D T adM xM oM.2 _ rfl sz) (TM_kV tb_1301 tb_1302 tb_1303 tb_813 tb_842 (n := 0) (by decide +kernel) BM_in BM_good) ⟨Nat.le_of_ble_eq_true rfl, Nat.le_of_ble_eq_true rfl⟩ ⟨rfl, rfl⟩ (by have := hroom; exact ⟨by omega, by omega⟩) ⟨Nat.le_refl _, Nat.le_refl _⟩ rfl rfl (Nat.le_of_ble_eq_true rfl) dL_law__479 ?_
  refine q_iload C.1 dL_law__482 1 rfl ?_
  refine q_icmp_eq C.1 489 dL_law__484 (by decide) (fun _ => ?_) (fun c9 => absurd e1 c9)
  refine q_iload C.1 dL_law__489 1 rfl ?_
  have fin : Kj l D 8 room_1 (kc + 1) (ks + 6) Γ Q (lwV T adX adM q u oX.2 xX oM.2 xM) 506 [(6, .int oM.1), (5, .int r), (0, .ref b), (1, .ref (adX 0)), (2, .ref (adM 0)), (3, .ref q), (4, .int (Int32.ofNat (9 * n)))] [] := by
    refine q_goto (tgt := 2534) C.1 dL_law__506 (by decide) ?_
    refine q_sub [2, 3, 4, 5, 6] rfl ?_
    exact q_widen (by omega) (by omega) (K u oX.2 xX oM.2 xM hR2)
  refine q_if_ne C.1 506 dL_law__491 (by decide) (fun c9 => ?_) (fun _ => fin)
  have e3 := e2 c9
  refine q_aload_n C.1 dL_law__494 rfl 5 rfl ?_
  refine q_iconst (v := (0 : Int32)) C.1 dL_law__495 (by decide) ?_
  refine q_lald C.1 rfl dL_law__496 ?_
  refine q_iload C.1 dL_law__497 0 rfl ?_
  refine q_i2l C.1 dL_law__499 ?_
  refine q_lcmp C.1 dL_law__500 ?_
  exact q_if_eq C.1 506 dL_law__501 (by decide) (fun _ => fin) (fun c8 => absurd (lgc0 e3) c8)
set_option maxRecDepth 100000 in
theorem case_fault (C : Cl D T sK sV b L xs Γ) (hS : Sim_fault R) (hn : 9 * n + 9 ≤ L) (hroom : kc + 5 ≤ 601024 ∧ ks + 30 ≤ 7293034) (hR : R gX xX gM xM) (K : ∀ (f2 : Nat → Int64) (gX2 : St) (xX2 : Sl) (gM2 : St) (xM2 : Sl), R gX2 xX2 gM2 xM2 → Kj l D 8 room_1 (kc + 5) (ks + 30) Γ Q (lwV T adX adM q f2 gX2 xX2 gM2 xM2) 2534 (lwLv adX adM b q n) []) : Kj l D 8 room_1 kc ks Γ Q (lwV T adX adM q f gX xX gM xM) 509 (lwLv adX adM b q n) [] := by
  have hR0 : room_1.cells = 601024 ∧ room_1.slots = 7293034 := ⟨rfl, rfl⟩
  obtain ⟨oX, oM, hx, hm, hR2, hv⟩ := hS gX xX gM xM hR
  refine q_aload_n C.1 dL_law__509 rfl 1 rfl ?_
  refine q_xi (kc' := kc) (ks' := ks) (rest := []) (ro := oX) (go := gX) (xo := xX) (As := []) C.1 C.2.1 C.2.2.1.1 (cut_mid (a := [oL T q f])) (fun sz => cX_fault l D T adX sK sV xX gX oX hx sz) (TM_kV tb_1322 tb_1323 tb_1324 tb_573 tb_622 (n := 0) (by decide +kernel) BX_in BX_good) ⟨Nat.le_of_ble_eq_true rfl, Nat.le_of_ble_eq_true rfl⟩ ⟨rfl, rfl⟩ (by have := hroom; exact ⟨by omega, by omega⟩) ⟨Nat.le_refl _, Nat.le_refl _⟩ rfl rfl (Nat.le_of_ble_eq_true rfl) dL_law__510 ?_
  refine q_aload_n C.1 dL_law__513 rfl 2 rfl ?_
  refine q_mi (kc' := kc) (ks' := ks) (rest := [.int oX]) (ro := oM.1) (go := oM.2) (xo := xM) (As := []) C.1 C.2.1 cut_tail (fun sz => cM_fault l D T adM xM gM oM hm sz) (TM_kV tb_1325 tb_1326 tb_1327 tb_813 tb_980 (n := 0) (by decide +kernel) BM_in BM_good) ⟨Nat.le_of_ble_eq_true rfl, Nat.le_of_ble_eq_true rfl⟩ ⟨rfl, rfl⟩ (by have := hroom; exact ⟨by omega, by omega⟩) ⟨Nat.le_refl _, Nat.le_refl _⟩ rfl rfl (Nat.le_of_ble_eq_true rfl) dL_law__514 ?_
  refine q_icmp_eq C.1 2534 dL_law__517 (by decide) (fun _ => ?_) (fun c9 => absurd hv c9)
  exact q_widen (Nat.le_add_right _ _) (Nat.le_add_right _ _) (K _ _ _ _ _ hR2)
set_option maxRecDepth 100000 in
theorem case_undo (C : Cl D T sK sV b L xs Γ) (hS : Sim_undo R) (hn : 9 * n + 9 ≤ L) (hroom : kc + 5 ≤ 601024 ∧ ks + 30 ≤ 7293034) (hR : R gX xX gM xM) (K : ∀ (f2 : Nat → Int64) (gX2 : St) (xX2 : Sl) (gM2 : St) (xM2 : Sl), R gX2 xX2 gM2 xM2 → Kj l D 8 room_1 (kc + 5) (ks + 30) Γ Q (lwV T adX adM q f2 gX2 xX2 gM2 xM2) 2534 (lwLv adX adM b q n) []) : Kj l D 8 room_1 kc ks Γ Q (lwV T adX adM q f gX xX gM xM) 522 (lwLv adX adM b q n) [] := by
  have hR0 : room_1.cells = 601024 ∧ room_1.slots = 7293034 := ⟨rfl, rfl⟩
  obtain ⟨oX, oM, hx, hm, hR2, hv⟩ := hS gX xX gM xM hR
  refine q_aload_n C.1 dL_law__522 rfl 1 rfl ?_
  refine q_xi (kc' := kc) (ks' := ks) (rest := []) (ro := oX.1) (go := oX.2) (xo := xX) (As := []) C.1 C.2.1 C.2.2.1.1 (cut_mid (a := [oL T q f])) (fun sz => cX_undo l D T adX sK sV xX gX oX hx sz) (TM_kV tb_1328 tb_1329 tb_1330 tb_573 tb_628 (n := 0) (by decide +kernel) BX_in BX_good) ⟨Nat.le_of_ble_eq_true rfl, Nat.le_of_ble_eq_true rfl⟩ ⟨rfl, rfl⟩ (by have := hroom; exact ⟨by omega, by omega⟩) ⟨Nat.le_refl _, Nat.le_refl _⟩ rfl rfl (Nat.le_of_ble_eq_true rfl) dL_law__523 ?_
  refine q_aload_n C.1 dL_law__526 rfl 2 rfl ?_
  refine q_mi (kc' := kc) (ks' := ks) (rest := [.int oX.1]) (ro := oM.1) (go := oM.2) (xo := xM) (As := []) C.1 C.2.1 cut_tail (fun sz => cM_undo l D T adM xM gM oM hm sz) (TM_kV tb_1331 tb_1332 tb_1333 tb_813 tb_1043 (n := 0) (by decide +kernel) BM_in BM_good) ⟨Nat.le_of_ble_eq_true rfl, Nat.le_of_ble_eq_true rfl⟩ ⟨rfl, rfl⟩ (by have := hroom; exact ⟨by omega, by omega⟩) ⟨Nat.le_refl _, Nat.le_refl _⟩ rfl rfl (Nat.le_of_ble_eq_true rfl) dL_law__527 ?_
  refine q_icmp_eq C.1 2534 dL_law__530 (by decide) (fun _ => ?_) (fun c9 => absurd hv c9)
  exact q_widen (Nat.le_add_right _ _) (Nat.le_add_right _ _) (K _ _ _ _ _ hR2)
set_option maxRecDepth 100000 in
theorem case_told (C : Cl D T sK sV b L xs Γ) (hl0 : l.stackTraces = false) (hS : Sim_told R) (hn : 9 * n + 9 ≤ L) (hroom : kc + 5 ≤ 601024 ∧ ks + 30 ≤ 7293034) (hR : R gX xX gM xM) (K : ∀ (f2 : Nat → Int64) (gX2 : St) (xX2 : Sl) (gM2 : St) (xM2 : Sl), R gX2 xX2 gM2 xM2 → Kj l D 8 room_1 (kc + 5) (ks + 30) Γ Q (lwV T adX adM q f2 gX2 xX2 gM2 xM2) 2534 (lwLv adX adM b q n) []) : Kj l D 8 room_1 kc ks Γ Q (lwV T adX adM q f gX xX gM xM) 535 (lwLv adX adM b q n) [] := by
  have hR0 : room_1.cells = 601024 ∧ room_1.slots = 7293034 := ⟨rfl, rfl⟩
  obtain ⟨oX, oM, hx, hm, hR2, hv⟩ := hS gX xX gM xM (xs (9 * n + 1)) hR
  refine q_aload_n C.1 dL_law__535 rfl 1 rfl ?_
  refine q_aload_n C.1 dL_law__536 rfl 0 rfl ?_
  refine q_iload C.1 dL_law__537 4 rfl ?_
  refine q_iconst (v := Int32.ofNat 1) C.1 dL_law__539 (by decide) ?_
  refine q_iadd C.1 dL_law__540 ?_
  refine q_sld (v := xs (9 * n + 1)) C.1 C.2.2.2.1 C.2.2.2.2.1 C.2.2.2.2.2.1 (argI hn C.2.2.2.2.2.2 1 (by omega)).1 (congrArg xs (argI hn C.2.2.2.2.2.2 1 (by omega)).2) dL_law__541 ?_
  refine q_aload_n C.1 dL_law__542 rfl 3 rfl ?_
  refine q_w (kc' := kc + 1) (ks' := ks + 6) (rest := []) (As := [.ref (adX 0), .int (xs (9 * n + 1)), .ref q]) C.1 C.2.1 C.2.2.1 cut_head (fun sz => cL_told_w l hl0 D T adX sK sV xX gX q f (xs (9 * n + 1)) oX hx (simR_hk hv) sz) (TL_gi tb_1334 tb_1335 tb_1296 tb_1336) ⟨_, rfl⟩ (n := 3) (by decide +kernel) ⟨Nat.le_of_ble_eq_true rfl, Nat.le_of_ble_eq_true rfl⟩ ⟨rfl, rfl⟩ (by have := hroom; exact ⟨by omega, by omega⟩) ⟨Nat.le_refl _, Nat.le_refl _⟩ rfl rfl (Nat.le_of_ble_eq_true rfl) dL_law__543 (fun r u hu => ?_)
  obtain ⟨e1, e2⟩ := use_I hv hu
  refine q_istore (lv' := [(5, .int r), (0, .ref b), (1, .ref (adX 0)), (2, .ref (adM 0)), (3, .ref q), (4, .int (Int32.ofNat (9 * n)))]) C.1 dL_law__546 (Nat.le_of_ble_eq_true rfl) rfl ?_
  refine q_aload_n C.1 dL_law__548 rfl 3 rfl ?_
  refine q_aload_n C.1 dL_law__549 rfl 1 rfl ?_
  refine q_iload C.1 dL_law__550 5 rfl ?_
  refine q_iconst (v := Int32.ofNat 1) C.1 dL_law__552 (by decide) ?_
  refine q_iadd C.1 dL_law__553 ?_
  refine q_sld (v := xs (9 * n + 1)) C.1 C.2.2.2.1 C.2.2.2.2.1 C.2.2.2.2.2.1 (argI hn C.2.2.2.2.2.2 1 (by omega)).1 (congrArg xs (argI hn C.2.2.2.2.2.2 1 (by omega)).2) dL_law__554 ?_
  refine q_mi (kc' := kc + 1) (ks' := ks + 6) (rest := []) (ro := oM.1) (go := oM.2) (xo := xM) (As := [.int (xs (9 * n + 1))]) C.1 C.2.1 (cut_tail (a := [oL T q u] ++ wW shX T adX xX oX.2)) (fun sz => cM_told l D T adM xM gM (xs (9 * n + 1)) oM hm sz) (TM_kV tb_1337 tb_1338 tb_1339 tb_813 tb_1063 (n := 1) (by decide +kernel) BM_in BM_good) ⟨Nat.le_of_ble_eq_true rfl, Nat.le_of_ble_eq_true rfl⟩ ⟨rfl, rfl⟩ (by have := hroom; exact ⟨by omega, by omega⟩) ⟨Nat.le_refl _, Nat.le_refl _⟩ rfl rfl (Nat.le_of_ble_eq_true rfl) dL_law__555 ?_
  refine q_istore (lv' := [(6, .int oM.1), (5, .int r), (0, .ref b), (1, .ref (adX 0)), (2, .ref (adM 0)), (3, .ref q), (4, .int (Int32.ofNat (9 * n)))]) C.1 dL_law__558 (Nat.le_of_ble_eq_true rfl) rfl ?_
  refine q_aload_n C.1 dL_law__560 rfl 4 rfl ?_
  refine q_mi (kc' := kc + 1) (ks' := ks + 6) (rest := []) (ro := oM.2 0 0) (go := oM.2) (xo := xM) (As := []) C.1 C.2.1 (cut_tail (a := [oL T q u] ++ wW shX T adX xX oX.2)) (fun sz => cM_thrown l D T adM xM oM.2 _ rfl sz) (TM_kV tb_1301 tb_1302 tb_1303 tb_813 tb_842 (n := 0) (by decide +kernel) BM_in BM_good) ⟨Nat.le_of_ble_eq_true rfl, Nat.le_of_ble_eq_true rfl⟩ ⟨rfl, rfl⟩ (by have := hroom; exact ⟨by omega, by omega⟩) ⟨Nat.le_refl _, Nat.le_refl _⟩ rfl rfl (Nat.le_of_ble_eq_true rfl) dL_law__561 ?_
  refine q_iload C.1 dL_law__564 1 rfl ?_
  refine q_icmp_eq C.1 571 dL_law__566 (by decide) (fun _ => ?_) (fun c9 => absurd e1 c9)
  refine q_iload C.1 dL_law__571 1 rfl ?_
  have fin : Kj l D 8 room_1 (kc + 1) (ks + 6) Γ Q (lwV T adX adM q u oX.2 xX oM.2 xM) 588 [(6, .int oM.1), (5, .int r), (0, .ref b), (1, .ref (adX 0)), (2, .ref (adM 0)), (3, .ref q), (4, .int (Int32.ofNat (9 * n)))] [] := by
    refine q_goto (tgt := 2534) C.1 dL_law__588 (by decide) ?_
    refine q_sub [2, 3, 4, 5, 6] rfl ?_
    exact q_widen (by omega) (by omega) (K u oX.2 xX oM.2 xM hR2)
  refine q_if_ne C.1 588 dL_law__573 (by decide) (fun c9 => ?_) (fun _ => fin)
  have e3 := e2 c9
  refine q_aload_n C.1 dL_law__576 rfl 5 rfl ?_
  refine q_iconst (v := (0 : Int32)) C.1 dL_law__577 (by decide) ?_
  refine q_lald C.1 rfl dL_law__578 ?_
  refine q_iload C.1 dL_law__579 0 rfl ?_
  refine q_i2l C.1 dL_law__581 ?_
  refine q_lcmp C.1 dL_law__582 ?_
  exact q_if_eq C.1 588 dL_law__583 (by decide) (fun _ => fin) (fun c8 => absurd (lgc0 e3) c8)
set_option maxRecDepth 100000 in
theorem case_person (C : Cl D T sK sV b L xs Γ) (hl0 : l.stackTraces = false) (hS : Sim_person R) (hn : 9 * n + 9 ≤ L) (hroom : kc + 5 ≤ 601024 ∧ ks + 30 ≤ 7293034) (hR : R gX xX gM xM) (K : ∀ (f2 : Nat → Int64) (gX2 : St) (xX2 : Sl) (gM2 : St) (xM2 : Sl), R gX2 xX2 gM2 xM2 → Kj l D 8 room_1 (kc + 5) (ks + 30) Γ Q (lwV T adX adM q f2 gX2 xX2 gM2 xM2) 2534 (lwLv adX adM b q n) []) : Kj l D 8 room_1 kc ks Γ Q (lwV T adX adM q f gX xX gM xM) 591 (lwLv adX adM b q n) [] := by
  have hR0 : room_1.cells = 601024 ∧ room_1.slots = 7293034 := ⟨rfl, rfl⟩
  obtain ⟨oX, oM, hx, hm, hR2, hv⟩ := hS gX xX gM xM (xs (9 * n + 1)) (xs (9 * n + 2)) hR
  refine q_aload_n C.1 dL_law__591 rfl 1 rfl ?_
  refine q_aload_n C.1 dL_law__592 rfl 0 rfl ?_
  refine q_iload C.1 dL_law__593 4 rfl ?_
  refine q_iconst (v := Int32.ofNat 1) C.1 dL_law__595 (by decide) ?_
  refine q_iadd C.1 dL_law__596 ?_
  refine q_sld (v := xs (9 * n + 1)) C.1 C.2.2.2.1 C.2.2.2.2.1 C.2.2.2.2.2.1 (argI hn C.2.2.2.2.2.2 1 (by omega)).1 (congrArg xs (argI hn C.2.2.2.2.2.2 1 (by omega)).2) dL_law__597 ?_
  refine q_aload_n C.1 dL_law__598 rfl 0 rfl ?_
  refine q_iload C.1 dL_law__599 4 rfl ?_
  refine q_iconst (v := Int32.ofNat 2) C.1 dL_law__601 (by decide) ?_
  refine q_iadd C.1 dL_law__602 ?_
  refine q_sld (v := xs (9 * n + 2)) C.1 C.2.2.2.1 C.2.2.2.2.1 C.2.2.2.2.2.1 (argI hn C.2.2.2.2.2.2 2 (by omega)).1 (congrArg xs (argI hn C.2.2.2.2.2.2 2 (by omega)).2) dL_law__603 ?_
  refine q_aload_n C.1 dL_law__604 rfl 3 rfl ?_
  refine q_w (kc' := kc + 2) (ks' := ks + 12) (rest := []) (As := [.ref (adX 0), .int (xs (9 * n + 1)), .int (xs (9 * n + 2)), .ref q]) C.1 C.2.1 C.2.2.1 cut_head (fun sz => cL_person_w l hl0 D T adX sK sV xX gX q f (xs (9 * n + 1)) (xs (9 * n + 2)) oX hx (simR_hk hv) sz) (TL_gi tb_1340 tb_1341 tb_1296 tb_1342) ⟨_, rfl⟩ (n := 4) (by decide +kernel) ⟨Nat.le_of_ble_eq_true rfl, Nat.le_of_ble_eq_true rfl⟩ ⟨rfl, rfl⟩ (by have := hroom; exact ⟨by omega, by omega⟩) ⟨Nat.le_refl _, Nat.le_refl _⟩ rfl rfl (Nat.le_of_ble_eq_true rfl) dL_law__605 (fun r u hu => ?_)
  obtain ⟨e1, e2⟩ := use_I hv hu
  refine q_istore (lv' := [(5, .int r), (0, .ref b), (1, .ref (adX 0)), (2, .ref (adM 0)), (3, .ref q), (4, .int (Int32.ofNat (9 * n)))]) C.1 dL_law__608 (Nat.le_of_ble_eq_true rfl) rfl ?_
  refine q_aload_n C.1 dL_law__610 rfl 3 rfl ?_
  refine q_aload_n C.1 dL_law__611 rfl 1 rfl ?_
  refine q_iload C.1 dL_law__612 5 rfl ?_
  refine q_iconst (v := Int32.ofNat 1) C.1 dL_law__614 (by decide) ?_
  refine q_iadd C.1 dL_law__615 ?_
  refine q_sld (v := xs (9 * n + 1)) C.1 C.2.2.2.1 C.2.2.2.2.1 C.2.2.2.2.2.1 (argI hn C.2.2.2.2.2.2 1 (by omega)).1 (congrArg xs (argI hn C.2.2.2.2.2.2 1 (by omega)).2) dL_law__616 ?_
  refine q_aload_n C.1 dL_law__617 rfl 1 rfl ?_
  refine q_iload C.1 dL_law__618 5 rfl ?_
  refine q_iconst (v := Int32.ofNat 2) C.1 dL_law__620 (by decide) ?_
  refine q_iadd C.1 dL_law__621 ?_
  refine q_sld (v := xs (9 * n + 2)) C.1 C.2.2.2.1 C.2.2.2.2.1 C.2.2.2.2.2.1 (argI hn C.2.2.2.2.2.2 2 (by omega)).1 (congrArg xs (argI hn C.2.2.2.2.2.2 2 (by omega)).2) dL_law__622 ?_
  refine q_mi (kc' := kc + 2) (ks' := ks + 12) (rest := []) (ro := oM.1) (go := oM.2) (xo := xM) (As := [.int (xs (9 * n + 1)), .int (xs (9 * n + 2))]) C.1 C.2.1 (cut_tail (a := [oL T q u] ++ wW shX T adX xX oX.2)) (fun sz => cM_person l D T adM xM gM (xs (9 * n + 1)) (xs (9 * n + 2)) oM hm sz) (TM_kV tb_1343 tb_1344 tb_1345 tb_813 tb_1068 (n := 2) (by decide +kernel) BM_in BM_good) ⟨Nat.le_of_ble_eq_true rfl, Nat.le_of_ble_eq_true rfl⟩ ⟨rfl, rfl⟩ (by have := hroom; exact ⟨by omega, by omega⟩) ⟨Nat.le_refl _, Nat.le_refl _⟩ rfl rfl (Nat.le_of_ble_eq_true rfl) dL_law__623 ?_
  refine q_istore (lv' := [(6, .int oM.1), (5, .int r), (0, .ref b), (1, .ref (adX 0)), (2, .ref (adM 0)), (3, .ref q), (4, .int (Int32.ofNat (9 * n)))]) C.1 dL_law__626 (Nat.le_of_ble_eq_true rfl) rfl ?_
  refine q_aload_n C.1 dL_law__628 rfl 4 rfl ?_
  refine q_mi (kc' := kc + 2) (ks' := ks + 12) (rest := []) (ro := oM.2 0 0) (go := oM.2) (xo := xM) (As := []) C.1 C.2.1 (cut_tail (a := [oL T q u] ++ wW shX T adX xX oX.2)) (fun sz => cM_thrown l D T adM xM oM.2 _ rfl sz) (TM_kV tb_1301 tb_1302 tb_1303 tb_813 tb_842 (n := 0) (by decide +kernel) BM_in BM_good) ⟨Nat.le_of_ble_eq_true rfl, Nat.le_of_ble_eq_true rfl⟩ ⟨rfl, rfl⟩ (by have := hroom; exact ⟨by omega, by omega⟩) ⟨Nat.le_refl _, Nat.le_refl _⟩ rfl rfl (Nat.le_of_ble_eq_true rfl) dL_law__629 ?_
  refine q_iload C.1 dL_law__632 1 rfl ?_
  refine q_icmp_eq C.1 639 dL_law__634 (by decide) (fun _ => ?_) (fun c9 => absurd e1 c9)
  refine q_iload C.1 dL_law__639 1 rfl ?_
  have fin : Kj l D 8 room_1 (kc + 2) (ks + 12) Γ Q (lwV T adX adM q u oX.2 xX oM.2 xM) 656 [(6, .int oM.1), (5, .int r), (0, .ref b), (1, .ref (adX 0)), (2, .ref (adM 0)), (3, .ref q), (4, .int (Int32.ofNat (9 * n)))] [] := by
    refine q_goto (tgt := 2534) C.1 dL_law__656 (by decide) ?_
    refine q_sub [2, 3, 4, 5, 6] rfl ?_
    exact q_widen (by omega) (by omega) (K u oX.2 xX oM.2 xM hR2)
  refine q_if_ne C.1 656 dL_law__641 (by decide) (fun c9 => ?_) (fun _ => fin)
  have e3 := e2 c9
  refine q_aload_n C.1 dL_law__644 rfl 5 rfl ?_
  refine q_iconst (v := (0 : Int32)) C.1 dL_law__645 (by decide) ?_
  refine q_lald C.1 rfl dL_law__646 ?_
  refine q_iload C.1 dL_law__647 0 rfl ?_
  refine q_i2l C.1 dL_law__649 ?_
  refine q_lcmp C.1 dL_law__650 ?_
  exact q_if_eq C.1 656 dL_law__651 (by decide) (fun _ => fin) (fun c8 => absurd (lgc0 e3) c8)
set_option maxRecDepth 100000 in
theorem case_will (C : Cl D T sK sV b L xs Γ) (hl0 : l.stackTraces = false) (hS : Sim_will R) (hn : 9 * n + 9 ≤ L) (hroom : kc + 5 ≤ 601024 ∧ ks + 30 ≤ 7293034) (hR : R gX xX gM xM) (K : ∀ (f2 : Nat → Int64) (gX2 : St) (xX2 : Sl) (gM2 : St) (xM2 : Sl), R gX2 xX2 gM2 xM2 → Kj l D 8 room_1 (kc + 5) (ks + 30) Γ Q (lwV T adX adM q f2 gX2 xX2 gM2 xM2) 2534 (lwLv adX adM b q n) []) : Kj l D 8 room_1 kc ks Γ Q (lwV T adX adM q f gX xX gM xM) 659 (lwLv adX adM b q n) [] := by
  have hR0 : room_1.cells = 601024 ∧ room_1.slots = 7293034 := ⟨rfl, rfl⟩
  obtain ⟨oX, oM, hx, hm, hR2, hv⟩ := hS gX xX gM xM (xs (9 * n + 1)) (xs (9 * n + 2)) hR
  refine q_aload_n C.1 dL_law__659 rfl 1 rfl ?_
  refine q_aload_n C.1 dL_law__660 rfl 0 rfl ?_
  refine q_iload C.1 dL_law__661 4 rfl ?_
  refine q_iconst (v := Int32.ofNat 1) C.1 dL_law__663 (by decide) ?_
  refine q_iadd C.1 dL_law__664 ?_
  refine q_sld (v := xs (9 * n + 1)) C.1 C.2.2.2.1 C.2.2.2.2.1 C.2.2.2.2.2.1 (argI hn C.2.2.2.2.2.2 1 (by omega)).1 (congrArg xs (argI hn C.2.2.2.2.2.2 1 (by omega)).2) dL_law__665 ?_
  refine q_aload_n C.1 dL_law__666 rfl 0 rfl ?_
  refine q_iload C.1 dL_law__667 4 rfl ?_
  refine q_iconst (v := Int32.ofNat 2) C.1 dL_law__669 (by decide) ?_
  refine q_iadd C.1 dL_law__670 ?_
  refine q_sld (v := xs (9 * n + 2)) C.1 C.2.2.2.1 C.2.2.2.2.1 C.2.2.2.2.2.1 (argI hn C.2.2.2.2.2.2 2 (by omega)).1 (congrArg xs (argI hn C.2.2.2.2.2.2 2 (by omega)).2) dL_law__671 ?_
  refine q_aload_n C.1 dL_law__672 rfl 3 rfl ?_
  refine q_w (kc' := kc + 2) (ks' := ks + 12) (rest := []) (As := [.ref (adX 0), .int (xs (9 * n + 1)), .int (xs (9 * n + 2)), .ref q]) C.1 C.2.1 C.2.2.1 cut_head (fun sz => cL_will_w l hl0 D T adX sK sV xX gX q f (xs (9 * n + 1)) (xs (9 * n + 2)) oX hx (simR_hk hv) sz) (TL_gi tb_1346 tb_1347 tb_1296 tb_1348) ⟨_, rfl⟩ (n := 4) (by decide +kernel) ⟨Nat.le_of_ble_eq_true rfl, Nat.le_of_ble_eq_true rfl⟩ ⟨rfl, rfl⟩ (by have := hroom; exact ⟨by omega, by omega⟩) ⟨Nat.le_refl _, Nat.le_refl _⟩ rfl rfl (Nat.le_of_ble_eq_true rfl) dL_law__673 (fun r u hu => ?_)
  obtain ⟨e1, e2⟩ := use_I hv hu
  refine q_istore (lv' := [(5, .int r), (0, .ref b), (1, .ref (adX 0)), (2, .ref (adM 0)), (3, .ref q), (4, .int (Int32.ofNat (9 * n)))]) C.1 dL_law__676 (Nat.le_of_ble_eq_true rfl) rfl ?_
  refine q_aload_n C.1 dL_law__678 rfl 3 rfl ?_
  refine q_aload_n C.1 dL_law__679 rfl 1 rfl ?_
  refine q_iload C.1 dL_law__680 5 rfl ?_
  refine q_iconst (v := Int32.ofNat 1) C.1 dL_law__682 (by decide) ?_
  refine q_iadd C.1 dL_law__683 ?_
  refine q_sld (v := xs (9 * n + 1)) C.1 C.2.2.2.1 C.2.2.2.2.1 C.2.2.2.2.2.1 (argI hn C.2.2.2.2.2.2 1 (by omega)).1 (congrArg xs (argI hn C.2.2.2.2.2.2 1 (by omega)).2) dL_law__684 ?_
  refine q_aload_n C.1 dL_law__685 rfl 1 rfl ?_
  refine q_iload C.1 dL_law__686 5 rfl ?_
  refine q_iconst (v := Int32.ofNat 2) C.1 dL_law__688 (by decide) ?_
  refine q_iadd C.1 dL_law__689 ?_
  refine q_sld (v := xs (9 * n + 2)) C.1 C.2.2.2.1 C.2.2.2.2.1 C.2.2.2.2.2.1 (argI hn C.2.2.2.2.2.2 2 (by omega)).1 (congrArg xs (argI hn C.2.2.2.2.2.2 2 (by omega)).2) dL_law__690 ?_
  refine q_mi (kc' := kc + 2) (ks' := ks + 12) (rest := []) (ro := oM.1) (go := oM.2) (xo := xM) (As := [.int (xs (9 * n + 1)), .int (xs (9 * n + 2))]) C.1 C.2.1 (cut_tail (a := [oL T q u] ++ wW shX T adX xX oX.2)) (fun sz => cM_will l D T adM xM gM (xs (9 * n + 1)) (xs (9 * n + 2)) oM hm sz) (TM_kV tb_1349 tb_1350 tb_1351 tb_813 tb_1069 (n := 2) (by decide +kernel) BM_in BM_good) ⟨Nat.le_of_ble_eq_true rfl, Nat.le_of_ble_eq_true rfl⟩ ⟨rfl, rfl⟩ (by have := hroom; exact ⟨by omega, by omega⟩) ⟨Nat.le_refl _, Nat.le_refl _⟩ rfl rfl (Nat.le_of_ble_eq_true rfl) dL_law__691 ?_
  refine q_istore (lv' := [(6, .int oM.1), (5, .int r), (0, .ref b), (1, .ref (adX 0)), (2, .ref (adM 0)), (3, .ref q), (4, .int (Int32.ofNat (9 * n)))]) C.1 dL_law__694 (Nat.le_of_ble_eq_true rfl) rfl ?_
  refine q_aload_n C.1 dL_law__696 rfl 4 rfl ?_
  refine q_mi (kc' := kc + 2) (ks' := ks + 12) (rest := []) (ro := oM.2 0 0) (go := oM.2) (xo := xM) (As := []) C.1 C.2.1 (cut_tail (a := [oL T q u] ++ wW shX T adX xX oX.2)) (fun sz => cM_thrown l D T adM xM oM.2 _ rfl sz) (TM_kV tb_1301 tb_1302 tb_1303 tb_813 tb_842 (n := 0) (by decide +kernel) BM_in BM_good) ⟨Nat.le_of_ble_eq_true rfl, Nat.le_of_ble_eq_true rfl⟩ ⟨rfl, rfl⟩ (by have := hroom; exact ⟨by omega, by omega⟩) ⟨Nat.le_refl _, Nat.le_refl _⟩ rfl rfl (Nat.le_of_ble_eq_true rfl) dL_law__697 ?_
  refine q_iload C.1 dL_law__700 1 rfl ?_
  refine q_icmp_eq C.1 707 dL_law__702 (by decide) (fun _ => ?_) (fun c9 => absurd e1 c9)
  refine q_iload C.1 dL_law__707 1 rfl ?_
  have fin : Kj l D 8 room_1 (kc + 2) (ks + 12) Γ Q (lwV T adX adM q u oX.2 xX oM.2 xM) 724 [(6, .int oM.1), (5, .int r), (0, .ref b), (1, .ref (adX 0)), (2, .ref (adM 0)), (3, .ref q), (4, .int (Int32.ofNat (9 * n)))] [] := by
    refine q_goto (tgt := 2534) C.1 dL_law__724 (by decide) ?_
    refine q_sub [2, 3, 4, 5, 6] rfl ?_
    exact q_widen (by omega) (by omega) (K u oX.2 xX oM.2 xM hR2)
  refine q_if_ne C.1 724 dL_law__709 (by decide) (fun c9 => ?_) (fun _ => fin)
  have e3 := e2 c9
  refine q_aload_n C.1 dL_law__712 rfl 5 rfl ?_
  refine q_iconst (v := (0 : Int32)) C.1 dL_law__713 (by decide) ?_
  refine q_lald C.1 rfl dL_law__714 ?_
  refine q_iload C.1 dL_law__715 0 rfl ?_
  refine q_i2l C.1 dL_law__717 ?_
  refine q_lcmp C.1 dL_law__718 ?_
  exact q_if_eq C.1 724 dL_law__719 (by decide) (fun _ => fin) (fun c8 => absurd (lgc0 e3) c8)
end LAW
