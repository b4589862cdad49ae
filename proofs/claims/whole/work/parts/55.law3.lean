section LAW
variable {l : Launch} {D : va_G} {T : cT} {adX adM : Nat → Nat} {sK sV : Nat → Nat} {b L q n : Nat} {xs : Nat → Int32} {Γ : Cxt} {Q : State → Prop} {kc ks : Nat} {R : Rel} {f : Nat → Int64} {gX : St} {xX : Sl} {gM : St} {xM : Sl}
set_option maxRecDepth 100000 in
theorem case_debtless (C : Cl D T sK sV b L xs Γ) (hS : Sim_debtless R) (hn : 9 * n + 9 ≤ L) (hroom : kc + 5 ≤ 601024 ∧ ks + 30 ≤ 7293034) (hR : R gX xX gM xM) (K : ∀ (f2 : Nat → Int64) (gX2 : St) (xX2 : Sl) (gM2 : St) (xM2 : Sl), R gX2 xX2 gM2 xM2 → Kj l D 8 room_1 (kc + 5) (ks + 30) Γ Q (lwV T adX adM q f2 gX2 xX2 gM2 xM2) 2534 (lwLv adX adM b q n) []) : Kj l D 8 room_1 kc ks Γ Q (lwV T adX adM q f gX xX gM xM) 2111 (lwLv adX adM b q n) [] := by
  have hR0 : room_1.cells = 601024 ∧ room_1.slots = 7293034 := ⟨rfl, rfl⟩
  obtain ⟨oX, oM, hx, hm, hR2, hv⟩ := hS gX xX gM xM hR
  refine q_aload_n C.1 dL_law__2111 rfl 1 rfl ?_
  refine q_xi (kc' := kc) (ks' := ks) (rest := []) (ro := oX) (go := gX) (xo := xX) (As := []) C.1 C.2.1 C.2.2.1.1 (cut_mid (a := [oL T q f])) (fun sz => cX_debtless l D T adX sK sV xX gX oX hx sz) (TM_kV tb_1472 tb_1473 tb_1474 tb_573 tb_769 (n := 0) (by decide +kernel) BX_in BX_good) ⟨Nat.le_of_ble_eq_true rfl, Nat.le_of_ble_eq_true rfl⟩ ⟨rfl, rfl⟩ (by have := hroom; exact ⟨by omega, by omega⟩) ⟨Nat.le_refl _, Nat.le_refl _⟩ rfl rfl (Nat.le_of_ble_eq_true rfl) dL_law__2112 ?_
  refine q_aload_n C.1 dL_law__2115 rfl 2 rfl ?_
  refine q_mi (kc' := kc) (ks' := ks) (rest := [.int oX]) (ro := oM.1) (go := oM.2) (xo := xM) (As := []) C.1 C.2.1 cut_tail (fun sz => cM_debtless l D T adM xM gM oM hm sz) (TM_kV tb_1475 tb_1476 tb_1477 tb_813 tb_1154 (n := 0) (by decide +kernel) BM_in BM_good) ⟨Nat.le_of_ble_eq_true rfl, Nat.le_of_ble_eq_true rfl⟩ ⟨rfl, rfl⟩ (by have := hroom; exact ⟨by omega, by omega⟩) ⟨Nat.le_refl _, Nat.le_refl _⟩ rfl rfl (Nat.le_of_ble_eq_true rfl) dL_law__2116 ?_
  refine q_icmp_eq C.1 2534 dL_law__2119 (by decide) (fun _ => ?_) (fun c9 => absurd hv c9)
  exact q_widen (Nat.le_add_right _ _) (Nat.le_add_right _ _) (K _ _ _ _ _ hR2)
set_option maxRecDepth 100000 in
theorem case_after (C : Cl D T sK sV b L xs Γ) (hl0 : l.stackTraces = false) (hS : Sim_after R) (hn : 9 * n + 9 ≤ L) (hroom : kc + 5 ≤ 601024 ∧ ks + 30 ≤ 7293034) (hR : R gX xX gM xM) (K : ∀ (f2 : Nat → Int64) (gX2 : St) (xX2 : Sl) (gM2 : St) (xM2 : Sl), R gX2 xX2 gM2 xM2 → Kj l D 8 room_1 (kc + 5) (ks + 30) Γ Q (lwV T adX adM q f2 gX2 xX2 gM2 xM2) 2534 (lwLv adX adM b q n) []) : Kj l D 8 room_1 kc ks Γ Q (lwV T adX adM q f gX xX gM xM) 2124 (lwLv adX adM b q n) [] := by
  have hR0 : room_1.cells = 601024 ∧ room_1.slots = 7293034 := ⟨rfl, rfl⟩
  obtain ⟨oX, oM, hx, hm, hR2, hv⟩ := hS gX xX gM xM (xs (9 * n + 1)) (xs (9 * n + 2)) hR
  refine q_aload_n C.1 dL_law__2124 rfl 1 rfl ?_
  refine q_aload_n C.1 dL_law__2125 rfl 0 rfl ?_
  refine q_iload C.1 dL_law__2126 4 rfl ?_
  refine q_iconst (v := Int32.ofNat 1) C.1 dL_law__2128 (by decide) ?_
  refine q_iadd C.1 dL_law__2129 ?_
  refine q_sld (v := xs (9 * n + 1)) C.1 C.2.2.2.1 C.2.2.2.2.1 C.2.2.2.2.2.1 (argI hn C.2.2.2.2.2.2 1 (by omega)).1 (congrArg xs (argI hn C.2.2.2.2.2.2 1 (by omega)).2) dL_law__2130 ?_
  refine q_aload_n C.1 dL_law__2131 rfl 0 rfl ?_
  refine q_iload C.1 dL_law__2132 4 rfl ?_
  refine q_iconst (v := Int32.ofNat 2) C.1 dL_law__2134 (by decide) ?_
  refine q_iadd C.1 dL_law__2135 ?_
  refine q_sld (v := xs (9 * n + 2)) C.1 C.2.2.2.1 C.2.2.2.2.1 C.2.2.2.2.2.1 (argI hn C.2.2.2.2.2.2 2 (by omega)).1 (congrArg xs (argI hn C.2.2.2.2.2.2 2 (by omega)).2) dL_law__2136 ?_
  refine q_aload_n C.1 dL_law__2137 rfl 3 rfl ?_
  refine q_w (kc' := kc + 2) (ks' := ks + 12) (rest := []) (As := [.ref (adX 0), .int (xs (9 * n + 1)), .int (xs (9 * n + 2)), .ref q]) C.1 C.2.1 C.2.2.1 cut_head (fun sz => cL_after_w l hl0 D T adX sK sV xX gX q f (xs (9 * n + 1)) (xs (9 * n + 2)) oX hx (simR_hk hv) sz) (TL_gi tb_1478 tb_1479 tb_1296 tb_1480) ⟨_, rfl⟩ (n := 4) (by decide +kernel) ⟨Nat.le_of_ble_eq_true rfl, Nat.le_of_ble_eq_true rfl⟩ ⟨rfl, rfl⟩ (by have := hroom; exact ⟨by omega, by omega⟩) ⟨Nat.le_refl _, Nat.le_refl _⟩ rfl rfl (Nat.le_of_ble_eq_true rfl) dL_law__2138 (fun r u hu => ?_)
  obtain ⟨e1, e2⟩ := use_I hv hu
  refine q_istore (lv' := [(5, .int r), (0, .ref b), (1, .ref (adX 0)), (2, .ref (adM 0)), (3, .ref q), (4, .int (Int32.ofNat (9 * n)))]) C.1 dL_law__2141 (Nat.le_of_ble_eq_true rfl) rfl ?_
  refine q_aload_n C.1 dL_law__2143 rfl 3 rfl ?_
  refine q_aload_n C.1 dL_law__2144 rfl 1 rfl ?_
  refine q_iload C.1 dL_law__2145 5 rfl ?_
  refine q_iconst (v := Int32.ofNat 1) C.1 dL_law__2147 (by decide) ?_
  refine q_iadd C.1 dL_law__2148 ?_
  refine q_sld (v := xs (9 * n + 1)) C.1 C.2.2.2.1 C.2.2.2.2.1 C.2.2.2.2.2.1 (argI hn C.2.2.2.2.2.2 1 (by omega)).1 (congrArg xs (argI hn C.2.2.2.2.2.2 1 (by omega)).2) dL_law__2149 ?_
  refine q_aload_n C.1 dL_law__2150 rfl 1 rfl ?_
  refine q_iload C.1 dL_law__2151 5 rfl ?_
  refine q_iconst (v := Int32.ofNat 2) C.1 dL_law__2153 (by decide) ?_
  refine q_iadd C.1 dL_law__2154 ?_
  refine q_sld (v := xs (9 * n + 2)) C.1 C.2.2.2.1 C.2.2.2.2.1 C.2.2.2.2.2.1 (argI hn C.2.2.2.2.2.2 2 (by omega)).1 (congrArg xs (argI hn C.2.2.2.2.2.2 2 (by omega)).2) dL_law__2155 ?_
  refine q_mi (kc' := kc + 2) (ks' := ks + 12) (rest := []) (ro := oM.1) (go := oM.2) (xo := xM) (As := [.int (xs (9 * n + 1)), .int (xs (9 * n + 2))]) C.1 C.2.1 (cut_tail (a := [oL T q u] ++ wW shX T adX xX oX.2)) (fun sz => cM_after l D T adM xM gM (xs (9 * n + 1)) (xs (9 * n + 2)) oM hm sz) (TM_kV tb_1481 tb_1482 tb_1483 tb_813 tb_1155 (n := 2) (by decide +kernel) BM_in BM_good) ⟨Nat.le_of_ble_eq_true rfl, Nat.le_of_ble_eq_true rfl⟩ ⟨rfl, rfl⟩ (by have := hroom; exact ⟨by omega, by omega⟩) ⟨Nat.le_refl _, Nat.le_refl _⟩ rfl rfl (Nat.le_of_ble_eq_true rfl) dL_law__2156 ?_
  refine q_istore (lv' := [(6, .int oM.1), (5, .int r), (0, .ref b), (1, .ref (adX 0)), (2, .ref (adM 0)), (3, .ref q), (4, .int (Int32.ofNat (9 * n)))]) C.1 dL_law__2159 (Nat.le_of_ble_eq_true rfl) rfl ?_
  refine q_aload_n C.1 dL_law__2161 rfl 4 rfl ?_
  refine q_mi (kc' := kc + 2) (ks' := ks + 12) (rest := []) (ro := oM.2 0 0) (go := oM.2) (xo := xM) (As := []) C.1 C.2.1 (cut_tail (a := [oL T q u] ++ wW shX T adX xX oX.2)) (fun sz => cM_thrown l D T adM xM oM.2 _ rfl sz) (TM_kV tb_1301 tb_1302 tb_1303 tb_813 tb_842 (n := 0) (by decide +kernel) BM_in BM_good) ⟨Nat.le_of_ble_eq_true rfl, Nat.le_of_ble_eq_true rfl⟩ ⟨rfl, rfl⟩ (by have := hroom; exact ⟨by omega, by omega⟩) ⟨Nat.le_refl _, Nat.le_refl _⟩ rfl rfl (Nat.le_of_ble_eq_true rfl) dL_law__2162 ?_
  refine q_iload C.1 dL_law__2165 1 rfl ?_
  refine q_icmp_eq C.1 2172 dL_law__2167 (by decide) (fun _ => ?_) (fun c9 => absurd e1 c9)
  refine q_iload C.1 dL_law__2172 1 rfl ?_
  have fin : Kj l D 8 room_1 (kc + 2) (ks + 12) Γ Q (lwV T adX adM q u oX.2 xX oM.2 xM) 2189 [(6, .int oM.1), (5, .int r), (0, .ref b), (1, .ref (adX 0)), (2, .ref (adM 0)), (3, .ref q), (4, .int (Int32.ofNat (9 * n)))] [] := by
    refine q_goto (tgt := 2534) C.1 dL_law__2189 (by decide) ?_
    refine q_sub [2, 3, 4, 5, 6] rfl ?_
    exact q_widen (by omega) (by omega) (K u oX.2 xX oM.2 xM hR2)
  refine q_if_ne C.1 2189 dL_law__2174 (by decide) (fun c9 => ?_) (fun _ => fin)
  have e3 := e2 c9
  refine q_aload_n C.1 dL_law__2177 rfl 5 rfl ?_
  refine q_iconst (v := (0 : Int32)) C.1 dL_law__2178 (by decide) ?_
  refine q_lald C.1 rfl dL_law__2179 ?_
  refine q_iload C.1 dL_law__2180 0 rfl ?_
  refine q_i2l C.1 dL_law__2182 ?_
  refine q_lcmp C.1 dL_law__2183 ?_
  exact q_if_eq C.1 2189 dL_law__2184 (by decide) (fun _ => fin) (fun c8 => absurd (lgc0 e3) c8)
set_option maxRecDepth 100000 in
theorem case_latest (C : Cl D T sK sV b L xs Γ) (hl0 : l.stackTraces = false) (hS : Sim_latest R) (hn : 9 * n + 9 ≤ L) (hroom : kc + 5 ≤ 601024 ∧ ks + 30 ≤ 7293034) (hR : R gX xX gM xM) (K : ∀ (f2 : Nat → Int64) (gX2 : St) (xX2 : Sl) (gM2 : St) (xM2 : Sl), R gX2 xX2 gM2 xM2 → Kj l D 8 room_1 (kc + 5) (ks + 30) Γ Q (lwV T adX adM q f2 gX2 xX2 gM2 xM2) 2534 (lwLv adX adM b q n) []) : Kj l D 8 room_1 kc ks Γ Q (lwV T adX adM q f gX xX gM xM) 2192 (lwLv adX adM b q n) [] := by
  have hR0 : room_1.cells = 601024 ∧ room_1.slots = 7293034 := ⟨rfl, rfl⟩
  obtain ⟨oX, oM, hx, hm, hR2, hv⟩ := hS gX xX gM xM (xs (9 * n + 1)) hR
  refine q_aload_n C.1 dL_law__2192 rfl 1 rfl ?_
  refine q_aload_n C.1 dL_law__2193 rfl 0 rfl ?_
  refine q_iload C.1 dL_law__2194 4 rfl ?_
  refine q_iconst (v := Int32.ofNat 1) C.1 dL_law__2196 (by decide) ?_
  refine q_iadd C.1 dL_law__2197 ?_
  refine q_sld (v := xs (9 * n + 1)) C.1 C.2.2.2.1 C.2.2.2.2.1 C.2.2.2.2.2.1 (argI hn C.2.2.2.2.2.2 1 (by omega)).1 (congrArg xs (argI hn C.2.2.2.2.2.2 1 (by omega)).2) dL_law__2198 ?_
  refine q_aload_n C.1 dL_law__2199 rfl 3 rfl ?_
  refine q_w (kc' := kc + 1) (ks' := ks + 6) (rest := []) (As := [.ref (adX 0), .int (xs (9 * n + 1)), .ref q]) C.1 C.2.1 C.2.2.1 cut_head (fun sz => cL_latest_w l hl0 D T adX sK sV xX gX q f (xs (9 * n + 1)) oX hx (simR_hk hv) sz) (TL_gi tb_1484 tb_1485 tb_1296 tb_1486) ⟨_, rfl⟩ (n := 3) (by decide +kernel) ⟨Nat.le_of_ble_eq_true rfl, Nat.le_of_ble_eq_true rfl⟩ ⟨rfl, rfl⟩ (by have := hroom; exact ⟨by omega, by omega⟩) ⟨Nat.le_refl _, Nat.le_refl _⟩ rfl rfl (Nat.le_of_ble_eq_true rfl) dL_law__2200 (fun r u hu => ?_)
  obtain ⟨e1, e2⟩ := use_I hv hu
  refine q_istore (lv' := [(5, .int r), (0, .ref b), (1, .ref (adX 0)), (2, .ref (adM 0)), (3, .ref q), (4, .int (Int32.ofNat (9 * n)))]) C.1 dL_law__2203 (Nat.le_of_ble_eq_true rfl) rfl ?_
  refine q_aload_n C.1 dL_law__2205 rfl 3 rfl ?_
  refine q_aload_n C.1 dL_law__2206 rfl 1 rfl ?_
  refine q_iload C.1 dL_law__2207 5 rfl ?_
  refine q_iconst (v := Int32.ofNat 1) C.1 dL_law__2209 (by decide) ?_
  refine q_iadd C.1 dL_law__2210 ?_
  refine q_sld (v := xs (9 * n + 1)) C.1 C.2.2.2.1 C.2.2.2.2.1 C.2.2.2.2.2.1 (argI hn C.2.2.2.2.2.2 1 (by omega)).1 (congrArg xs (argI hn C.2.2.2.2.2.2 1 (by omega)).2) dL_law__2211 ?_
  refine q_mi (kc' := kc + 1) (ks' := ks + 6) (rest := []) (ro := oM.1) (go := oM.2) (xo := xM) (As := [.int (xs (9 * n + 1))]) C.1 C.2.1 (cut_tail (a := [oL T q u] ++ wW shX T adX xX oX.2)) (fun sz => cM_latest l D T adM xM gM (xs (9 * n + 1)) oM hm sz) (TM_kV tb_1487 tb_1488 tb_1489 tb_813 tb_1156 (n := 1) (by decide +kernel) BM_in BM_good) ⟨Nat.le_of_ble_eq_true rfl, Nat.le_of_ble_eq_true rfl⟩ ⟨rfl, rfl⟩ (by have := hroom; exact ⟨by omega, by omega⟩) ⟨Nat.le_refl _, Nat.le_refl _⟩ rfl rfl (Nat.le_of_ble_eq_true rfl) dL_law__2212 ?_
  refine q_istore (lv' := [(6, .int oM.1), (5, .int r), (0, .ref b), (1, .ref (adX 0)), (2, .ref (adM 0)), (3, .ref q), (4, .int (Int32.ofNat (9 * n)))]) C.1 dL_law__2215 (Nat.le_of_ble_eq_true rfl) rfl ?_
  refine q_aload_n C.1 dL_law__2217 rfl 4 rfl ?_
  refine q_mi (kc' := kc + 1) (ks' := ks + 6) (rest := []) (ro := oM.2 0 0) (go := oM.2) (xo := xM) (As := []) C.1 C.2.1 (cut_tail (a := [oL T q u] ++ wW shX T adX xX oX.2)) (fun sz => cM_thrown l D T adM xM oM.2 _ rfl sz) (TM_kV tb_1301 tb_1302 tb_1303 tb_813 tb_842 (n := 0) (by decide +kernel) BM_in BM_good) ⟨Nat.le_of_ble_eq_true rfl, Nat.le_of_ble_eq_true rfl⟩ ⟨rfl, rfl⟩ (by have := hroom; exact ⟨by omega, by omega⟩) ⟨Nat.le_refl _, Nat.le_refl _⟩ rfl rfl (Nat.le_of_ble_eq_true rfl) dL_law__2218 ?_
  refine q_iload C.1 dL_law__2221 1 rfl ?_
  refine q_icmp_eq C.1 2228 dL_law__2223 (by decide) (fun _ => ?_) (fun c9 => absurd e1 c9)
  refine q_iload C.1 dL_law__2228 1 rfl ?_
  have fin : Kj l D 8 room_1 (kc + 1) (ks + 6) Γ Q (lwV T adX adM q u oX.2 xX oM.2 xM) 2245 [(6, .int oM.1), (5, .int r), (0, .ref b), (1, .ref (adX 0)), (2, .ref (adM 0)), (3, .ref q), (4, .int (Int32.ofNat (9 * n)))] [] := by
    refine q_goto (tgt := 2534) C.1 dL_law__2245 (by decide) ?_
    refine q_sub [2, 3, 4, 5, 6] rfl ?_
    exact q_widen (by omega) (by omega) (K u oX.2 xX oM.2 xM hR2)
  refine q_if_ne C.1 2245 dL_law__2230 (by decide) (fun c9 => ?_) (fun _ => fin)
  have e3 := e2 c9
  refine q_aload_n C.1 dL_law__2233 rfl 5 rfl ?_
  refine q_iconst (v := (0 : Int32)) C.1 dL_law__2234 (by decide) ?_
  refine q_lald C.1 rfl dL_law__2235 ?_
  refine q_iload C.1 dL_law__2236 0 rfl ?_
  refine q_i2l C.1 dL_law__2238 ?_
  refine q_lcmp C.1 dL_law__2239 ?_
  exact q_if_eq C.1 2245 dL_law__2240 (by decide) (fun _ => fin) (fun c8 => absurd (lgc0 e3) c8)
set_option maxRecDepth 100000 in
theorem case_century (C : Cl D T sK sV b L xs Γ) (hl0 : l.stackTraces = false) (hS : Sim_century R) (hn : 9 * n + 9 ≤ L) (hroom : kc + 5 ≤ 601024 ∧ ks + 30 ≤ 7293034) (hR : R gX xX gM xM) (K : ∀ (f2 : Nat → Int64) (gX2 : St) (xX2 : Sl) (gM2 : St) (xM2 : Sl), R gX2 xX2 gM2 xM2 → Kj l D 8 room_1 (kc + 5) (ks + 30) Γ Q (lwV T adX adM q f2 gX2 xX2 gM2 xM2) 2534 (lwLv adX adM b q n) []) : Kj l D 8 room_1 kc ks Γ Q (lwV T adX adM q f gX xX gM xM) 2248 (lwLv adX adM b q n) [] := by
  have hR0 : room_1.cells = 601024 ∧ room_1.slots = 7293034 := ⟨rfl, rfl⟩
  obtain ⟨oX, oM, hx, hm, hR2, hv⟩ := hS gX xX gM xM (xs (9 * n + 1)) (xs (9 * n + 2)) (xs (9 * n + 3)) (xs (9 * n + 4)) hR
  refine q_aload_n C.1 dL_law__2248 rfl 1 rfl ?_
  refine q_aload_n C.1 dL_law__2249 rfl 0 rfl ?_
  refine q_iload C.1 dL_law__2250 4 rfl ?_
  refine q_iconst (v := Int32.ofNat 1) C.1 dL_law__2252 (by decide) ?_
  refine q_iadd C.1 dL_law__2253 ?_
  refine q_sld (v := xs (9 * n + 1)) C.1 C.2.2.2.1 C.2.2.2.2.1 C.2.2.2.2.2.1 (argI hn C.2.2.2.2.2.2 1 (by omega)).1 (congrArg xs (argI hn C.2.2.2.2.2.2 1 (by omega)).2) dL_law__2254 ?_
  refine q_aload_n C.1 dL_law__2255 rfl 0 rfl ?_
  refine q_iload C.1 dL_law__2256 4 rfl ?_
  refine q_iconst (v := Int32.ofNat 2) C.1 dL_law__2258 (by decide) ?_
  refine q_iadd C.1 dL_law__2259 ?_
  refine q_sld (v := xs (9 * n + 2)) C.1 C.2.2.2.1 C.2.2.2.2.1 C.2.2.2.2.2.1 (argI hn C.2.2.2.2.2.2 2 (by omega)).1 (congrArg xs (argI hn C.2.2.2.2.2.2 2 (by omega)).2) dL_law__2260 ?_
  refine q_aload_n C.1 dL_law__2261 rfl 0 rfl ?_
  refine q_iload C.1 dL_law__2262 4 rfl ?_
  refine q_iconst (v := Int32.ofNat 3) C.1 dL_law__2264 (by decide) ?_
  refine q_iadd C.1 dL_law__2265 ?_
  refine q_sld (v := xs (9 * n + 3)) C.1 C.2.2.2.1 C.2.2.2.2.1 C.2.2.2.2.2.1 (argI hn C.2.2.2.2.2.2 3 (by omega)).1 (congrArg xs (argI hn C.2.2.2.2.2.2 3 (by omega)).2) dL_law__2266 ?_
  refine q_aload_n C.1 dL_law__2267 rfl 0 rfl ?_
  refine q_iload C.1 dL_law__2268 4 rfl ?_
  refine q_iconst (v := Int32.ofNat 4) C.1 dL_law__2270 (by decide) ?_
  refine q_iadd C.1 dL_law__2271 ?_
  refine q_sld (v := xs (9 * n + 4)) C.1 C.2.2.2.1 C.2.2.2.2.1 C.2.2.2.2.2.1 (argI hn C.2.2.2.2.2.2 4 (by omega)).1 (congrArg xs (argI hn C.2.2.2.2.2.2 4 (by omega)).2) dL_law__2272 ?_
  refine q_aload_n C.1 dL_law__2273 rfl 3 rfl ?_
  refine q_w (kc' := kc + 1) (ks' := ks + 6) (rest := []) (As := [.ref (adX 0), .int (xs (9 * n + 1)), .int (xs (9 * n + 2)), .int (xs (9 * n + 3)), .int (xs (9 * n + 4)), .ref q]) C.1 C.2.1 C.2.2.1 cut_head (fun sz => cL_century_w l hl0 D T adX sK sV xX gX q f (xs (9 * n + 1)) (xs (9 * n + 2)) (xs (9 * n + 3)) (xs (9 * n + 4)) oX hx (simR_hk hv) sz) (TL_gi tb_1490 tb_1491 tb_1296 tb_1492) ⟨_, rfl⟩ (n := 6) (by decide +kernel) ⟨Nat.le_of_ble_eq_true rfl, Nat.le_of_ble_eq_true rfl⟩ ⟨rfl, rfl⟩ (by have := hroom; exact ⟨by omega, by omega⟩) ⟨Nat.le_refl _, Nat.le_refl _⟩ rfl rfl (Nat.le_of_ble_eq_true rfl) dL_law__2274 (fun r u hu => ?_)
  obtain ⟨e1, e2⟩ := use_I hv hu
  refine q_istore (lv' := [(5, .int r), (0, .ref b), (1, .ref (adX 0)), (2, .ref (adM 0)), (3, .ref q), (4, .int (Int32.ofNat (9 * n)))]) C.1 dL_law__2277 (Nat.le_of_ble_eq_true rfl) rfl ?_
  refine q_aload_n C.1 dL_law__2279 rfl 3 rfl ?_
  refine q_aload_n C.1 dL_law__2280 rfl 1 rfl ?_
  refine q_iload C.1 dL_law__2281 5 rfl ?_
  refine q_iconst (v := Int32.ofNat 1) C.1 dL_law__2283 (by decide) ?_
  refine q_iadd C.1 dL_law__2284 ?_
  refine q_sld (v := xs (9 * n + 1)) C.1 C.2.2.2.1 C.2.2.2.2.1 C.2.2.2.2.2.1 (argI hn C.2.2.2.2.2.2 1 (by omega)).1 (congrArg xs (argI hn C.2.2.2.2.2.2 1 (by omega)).2) dL_law__2285 ?_
  refine q_aload_n C.1 dL_law__2286 rfl 1 rfl ?_
  refine q_iload C.1 dL_law__2287 5 rfl ?_
  refine q_iconst (v := Int32.ofNat 2) C.1 dL_law__2289 (by decide) ?_
  refine q_iadd C.1 dL_law__2290 ?_
  refine q_sld (v := xs (9 * n + 2)) C.1 C.2.2.2.1 C.2.2.2.2.1 C.2.2.2.2.2.1 (argI hn C.2.2.2.2.2.2 2 (by omega)).1 (congrArg xs (argI hn C.2.2.2.2.2.2 2 (by omega)).2) dL_law__2291 ?_
  refine q_aload_n C.1 dL_law__2292 rfl 1 rfl ?_
  refine q_iload C.1 dL_law__2293 5 rfl ?_
  refine q_iconst (v := Int32.ofNat 3) C.1 dL_law__2295 (by decide) ?_
  refine q_iadd C.1 dL_law__2296 ?_
  refine q_sld (v := xs (9 * n + 3)) C.1 C.2.2.2.1 C.2.2.2.2.1 C.2.2.2.2.2.1 (argI hn C.2.2.2.2.2.2 3 (by omega)).1 (congrArg xs (argI hn C.2.2.2.2.2.2 3 (by omega)).2) dL_law__2297 ?_
  refine q_aload_n C.1 dL_law__2298 rfl 1 rfl ?_
  refine q_iload C.1 dL_law__2299 5 rfl ?_
  refine q_iconst (v := Int32.ofNat 4) C.1 dL_law__2301 (by decide) ?_
  refine q_iadd C.1 dL_law__2302 ?_
  refine q_sld (v := xs (9 * n + 4)) C.1 C.2.2.2.1 C.2.2.2.2.1 C.2.2.2.2.2.1 (argI hn C.2.2.2.2.2.2 4 (by omega)).1 (congrArg xs (argI hn C.2.2.2.2.2.2 4 (by omega)).2) dL_law__2303 ?_
  refine q_mi (kc' := kc + 1) (ks' := ks + 6) (rest := []) (ro := oM.1) (go := oM.2) (xo := xM) (As := [.int (xs (9 * n + 1)), .int (xs (9 * n + 2)), .int (xs (9 * n + 3)), .int (xs (9 * n + 4))]) C.1 C.2.1 (cut_tail (a := [oL T q u] ++ wW shX T adX xX oX.2)) (fun sz => cM_century l D T adM xM gM (xs (9 * n + 1)) (xs (9 * n + 2)) (xs (9 * n + 3)) (xs (9 * n + 4)) oM hm sz) (TM_kV tb_1493 tb_1494 tb_1495 tb_813 tb_1170 (n := 4) (by decide +kernel) BM_in BM_good) ⟨Nat.le_of_ble_eq_true rfl, Nat.le_of_ble_eq_true rfl⟩ ⟨rfl, rfl⟩ (by have := hroom; exact ⟨by omega, by omega⟩) ⟨Nat.le_refl _, Nat.le_refl _⟩ rfl rfl (Nat.le_of_ble_eq_true rfl) dL_law__2304 ?_
  refine q_istore (lv' := [(6, .int oM.1), (5, .int r), (0, .ref b), (1, .ref (adX 0)), (2, .ref (adM 0)), (3, .ref q), (4, .int (Int32.ofNat (9 * n)))]) C.1 dL_law__2307 (Nat.le_of_ble_eq_true rfl) rfl ?_
  refine q_aload_n C.1 dL_law__2309 rfl 4 rfl ?_
  refine q_mi (kc' := kc + 1) (ks' := ks + 6) (rest := []) (ro := oM.2 0 0) (go := oM.2) (xo := xM) (As := []) C.1 C.2.1 (cut_tail (a := [oL T q u] ++ wW shX T adX xX oX.2)) (fun sz => cM_thrown l D T adM xM oM.2 _ rfl sz) (TM_kV tb_1301 tb_1302 tb_1303 tb_813 tb_842 (n := 0) (by decide +kernel) BM_in BM_good) ⟨Nat.le_of_ble_eq_true rfl, Nat.le_of_ble_eq_true rfl⟩ ⟨rfl, rfl⟩ (by have := hroom; exact ⟨by omega, by omega⟩) ⟨Nat.le_refl _, Nat.le_refl _⟩ rfl rfl (Nat.le_of_ble_eq_true rfl) dL_law__2310 ?_
  refine q_iload C.1 dL_law__2313 1 rfl ?_
  refine q_icmp_eq C.1 2320 dL_law__2315 (by decide) (fun _ => ?_) (fun c9 => absurd e1 c9)
  refine q_iload C.1 dL_law__2320 1 rfl ?_
  have fin : Kj l D 8 room_1 (kc + 1) (ks + 6) Γ Q (lwV T adX adM q u oX.2 xX oM.2 xM) 2337 [(6, .int oM.1), (5, .int r), (0, .ref b), (1, .ref (adX 0)), (2, .ref (adM 0)), (3, .ref q), (4, .int (Int32.ofNat (9 * n)))] [] := by
    refine q_goto (tgt := 2534) C.1 dL_law__2337 (by decide) ?_
    refine q_sub [2, 3, 4, 5, 6] rfl ?_
    exact q_widen (by omega) (by omega) (K u oX.2 xX oM.2 xM hR2)
  refine q_if_ne C.1 2337 dL_law__2322 (by decide) (fun c9 => ?_) (fun _ => fin)
  have e3 := e2 c9
  refine q_aload_n C.1 dL_law__2325 rfl 5 rfl ?_
  refine q_iconst (v := (0 : Int32)) C.1 dL_law__2326 (by decide) ?_
  refine q_lald C.1 rfl dL_law__2327 ?_
  refine q_iload C.1 dL_law__2328 0 rfl ?_
  refine q_i2l C.1 dL_law__2330 ?_
  refine q_lcmp C.1 dL_law__2331 ?_
  exact q_if_eq C.1 2337 dL_law__2332 (by decide) (fun _ => fin) (fun c8 => absurd (lgc0 e3) c8)
set_option maxRecDepth 100000 in
theorem case_span (C : Cl D T sK sV b L xs Γ) (hl0 : l.stackTraces = false) (hS : Sim_span R) (hn : 9 * n + 9 ≤ L) (hroom : kc + 5 ≤ 601024 ∧ ks + 30 ≤ 7293034) (hR : R gX xX gM xM) (K : ∀ (f2 : Nat → Int64) (gX2 : St) (xX2 : Sl) (gM2 : St) (xM2 : Sl), R gX2 xX2 gM2 xM2 → Kj l D 8 room_1 (kc + 5) (ks + 30) Γ Q (lwV T adX adM q f2 gX2 xX2 gM2 xM2) 2534 (lwLv adX adM b q n) []) : Kj l D 8 room_1 kc ks Γ Q (lwV T adX adM q f gX xX gM xM) 2340 (lwLv adX adM b q n) [] := by
  have hR0 : room_1.cells = 601024 ∧ room_1.slots = 7293034 := ⟨rfl, rfl⟩
  obtain ⟨oX, oM, hx, hm, hR2, hv⟩ := hS gX xX gM xM (xs (9 * n + 1)) (xs (9 * n + 2)) (xs (9 * n + 3)) (xs (9 * n + 4)) (xs (9 * n + 5)) (xs (9 * n + 6)) hR
  refine q_aload_n C.1 dL_law__2340 rfl 1 rfl ?_
  refine q_aload_n C.1 dL_law__2341 rfl 0 rfl ?_
  refine q_iload C.1 dL_law__2342 4 rfl ?_
  refine q_iconst (v := Int32.ofNat 1) C.1 dL_law__2344 (by decide) ?_
  refine q_iadd C.1 dL_law__2345 ?_
  refine q_sld (v := xs (9 * n + 1)) C.1 C.2.2.2.1 C.2.2.2.2.1 C.2.2.2.2.2.1 (argI hn C.2.2.2.2.2.2 1 (by omega)).1 (congrArg xs (argI hn C.2.2.2.2.2.2 1 (by omega)).2) dL_law__2346 ?_
  refine q_aload_n C.1 dL_law__2347 rfl 0 rfl ?_
  refine q_iload C.1 dL_law__2348 4 rfl ?_
  refine q_iconst (v := Int32.ofNat 2) C.1 dL_law__2350 (by decide) ?_
  refine q_iadd C.1 dL_law__2351 ?_
  refine q_sld (v := xs (9 * n + 2)) C.1 C.2.2.2.1 C.2.2.2.2.1 C.2.2.2.2.2.1 (argI hn C.2.2.2.2.2.2 2 (by omega)).1 (congrArg xs (argI hn C.2.2.2.2.2.2 2 (by omega)).2) dL_law__2352 ?_
  refine q_aload_n C.1 dL_law__2353 rfl 0 rfl ?_
  refine q_iload C.1 dL_law__2354 4 rfl ?_
  refine q_iconst (v := Int32.ofNat 3) C.1 dL_law__2356 (by decide) ?_
  refine q_iadd C.1 dL_law__2357 ?_
  refine q_sld (v := xs (9 * n + 3)) C.1 C.2.2.2.1 C.2.2.2.2.1 C.2.2.2.2.2.1 (argI hn C.2.2.2.2.2.2 3 (by omega)).1 (congrArg xs (argI hn C.2.2.2.2.2.2 3 (by omega)).2) dL_law__2358 ?_
  refine q_aload_n C.1 dL_law__2359 rfl 0 rfl ?_
  refine q_iload C.1 dL_law__2360 4 rfl ?_
  refine q_iconst (v := Int32.ofNat 4) C.1 dL_law__2362 (by decide) ?_
  refine q_iadd C.1 dL_law__2363 ?_
  refine q_sld (v := xs (9 * n + 4)) C.1 C.2.2.2.1 C.2.2.2.2.1 C.2.2.2.2.2.1 (argI hn C.2.2.2.2.2.2 4 (by omega)).1 (congrArg xs (argI hn C.2.2.2.2.2.2 4 (by omega)).2) dL_law__2364 ?_
  refine q_aload_n C.1 dL_law__2365 rfl 0 rfl ?_
  refine q_iload C.1 dL_law__2366 4 rfl ?_
  refine q_iconst (v := Int32.ofNat 5) C.1 dL_law__2368 (by decide) ?_
  refine q_iadd C.1 dL_law__2369 ?_
  refine q_sld (v := xs (9 * n + 5)) C.1 C.2.2.2.1 C.2.2.2.2.1 C.2.2.2.2.2.1 (argI hn C.2.2.2.2.2.2 5 (by omega)).1 (congrArg xs (argI hn C.2.2.2.2.2.2 5 (by omega)).2) dL_law__2370 ?_
  refine q_aload_n C.1 dL_law__2371 rfl 0 rfl ?_
  refine q_iload C.1 dL_law__2372 4 rfl ?_
  refine q_bipush (v := Int32.ofNat 6) C.1 dL_law__2374 (by decide) ?_
  refine q_iadd C.1 dL_law__2376 ?_
  refine q_sld (v := xs (9 * n + 6)) C.1 C.2.2.2.1 C.2.2.2.2.1 C.2.2.2.2.2.1 (argI hn C.2.2.2.2.2.2 6 (by omega)).1 (congrArg xs (argI hn C.2.2.2.2.2.2 6 (by omega)).2) dL_law__2377 ?_
  refine q_aload_n C.1 dL_law__2378 rfl 3 rfl ?_
  refine q_w (kc' := kc + 2) (ks' := ks + 12) (rest := []) (As := [.ref (adX 0), .int (xs (9 * n + 1)), .int (xs (9 * n + 2)), .int (xs (9 * n + 3)), .int (xs (9 * n + 4)), .int (xs (9 * n + 5)), .int (xs (9 * n + 6)), .ref q]) C.1 C.2.1 C.2.2.1 cut_head (fun sz => cL_span_w l hl0 D T adX sK sV xX gX q f (xs (9 * n + 1)) (xs (9 * n + 2)) (xs (9 * n + 3)) (xs (9 * n + 4)) (xs (9 * n + 5)) (xs (9 * n + 6)) oX hx (simR_hk hv) sz) (TL_gi tb_1496 tb_1497 tb_1296 tb_1498) ⟨_, rfl⟩ (n := 8) (by decide +kernel) ⟨Nat.le_of_ble_eq_true rfl, Nat.le_of_ble_eq_true rfl⟩ ⟨rfl, rfl⟩ (by have := hroom; exact ⟨by omega, by omega⟩) ⟨Nat.le_refl _, Nat.le_refl _⟩ rfl rfl (Nat.le_of_ble_eq_true rfl) dL_law__2379 (fun r u hu => ?_)
  obtain ⟨e1, e2⟩ := use_I hv hu
  refine q_istore (lv' := [(5, .int r), (0, .ref b), (1, .ref (adX 0)), (2, .ref (adM 0)), (3, .ref q), (4, .int (Int32.ofNat (9 * n)))]) C.1 dL_law__2382 (Nat.le_of_ble_eq_true rfl) rfl ?_
  refine q_aload_n C.1 dL_law__2384 rfl 3 rfl ?_
  refine q_aload_n C.1 dL_law__2385 rfl 1 rfl ?_
  refine q_iload C.1 dL_law__2386 5 rfl ?_
  refine q_iconst (v := Int32.ofNat 1) C.1 dL_law__2388 (by decide) ?_
  refine q_iadd C.1 dL_law__2389 ?_
  refine q_sld (v := xs (9 * n + 1)) C.1 C.2.2.2.1 C.2.2.2.2.1 C.2.2.2.2.2.1 (argI hn C.2.2.2.2.2.2 1 (by omega)).1 (congrArg xs (argI hn C.2.2.2.2.2.2 1 (by omega)).2) dL_law__2390 ?_
  refine q_aload_n C.1 dL_law__2391 rfl 1 rfl ?_
  refine q_iload C.1 dL_law__2392 5 rfl ?_
  refine q_iconst (v := Int32.ofNat 2) C.1 dL_law__2394 (by decide) ?_
  refine q_iadd C.1 dL_law__2395 ?_
  refine q_sld (v := xs (9 * n + 2)) C.1 C.2.2.2.1 C.2.2.2.2.1 C.2.2.2.2.2.1 (argI hn C.2.2.2.2.2.2 2 (by omega)).1 (congrArg xs (argI hn C.2.2.2.2.2.2 2 (by omega)).2) dL_law__2396 ?_
  refine q_aload_n C.1 dL_law__2397 rfl 1 rfl ?_
  refine q_iload C.1 dL_law__2398 5 rfl ?_
  refine q_iconst (v := Int32.ofNat 3) C.1 dL_law__2400 (by decide) ?_
  refine q_iadd C.1 dL_law__2401 ?_
  refine q_sld (v := xs (9 * n + 3)) C.1 C.2.2.2.1 C.2.2.2.2.1 C.2.2.2.2.2.1 (argI hn C.2.2.2.2.2.2 3 (by omega)).1 (congrArg xs (argI hn C.2.2.2.2.2.2 3 (by omega)).2) dL_law__2402 ?_
  refine q_aload_n C.1 dL_law__2403 rfl 1 rfl ?_
  refine q_iload C.1 dL_law__2404 5 rfl ?_
  refine q_iconst (v := Int32.ofNat 4) C.1 dL_law__2406 (by decide) ?_
  refine q_iadd C.1 dL_law__2407 ?_
  refine q_sld (v := xs (9 * n + 4)) C.1 C.2.2.2.1 C.2.2.2.2.1 C.2.2.2.2.2.1 (argI hn C.2.2.2.2.2.2 4 (by omega)).1 (congrArg xs (argI hn C.2.2.2.2.2.2 4 (by omega)).2) dL_law__2408 ?_
  refine q_aload_n C.1 dL_law__2409 rfl 1 rfl ?_
  refine q_iload C.1 dL_law__2410 5 rfl ?_
  refine q_iconst (v := Int32.ofNat 5) C.1 dL_law__2412 (by decide) ?_
  refine q_iadd C.1 dL_law__2413 ?_
  refine q_sld (v := xs (9 * n + 5)) C.1 C.2.2.2.1 C.2.2.2.2.1 C.2.2.2.2.2.1 (argI hn C.2.2.2.2.2.2 5 (by omega)).1 (congrArg xs (argI hn C.2.2.2.2.2.2 5 (by omega)).2) dL_law__2414 ?_
  refine q_aload_n C.1 dL_law__2415 rfl 1 rfl ?_
  refine q_iload C.1 dL_law__2416 5 rfl ?_
  refine q_bipush (v := Int32.ofNat 6) C.1 dL_law__2418 (by decide) ?_
  refine q_iadd C.1 dL_law__2420 ?_
  refine q_sld (v := xs (9 * n + 6)) C.1 C.2.2.2.1 C.2.2.2.2.1 C.2.2.2.2.2.1 (argI hn C.2.2.2.2.2.2 6 (by omega)).1 (congrArg xs (argI hn C.2.2.2.2.2.2 6 (by omega)).2) dL_law__2421 ?_
  refine q_mi (kc' := kc + 2) (ks' := ks + 12) (rest := []) (ro := oM.1) (go := oM.2) (xo := xM) (As := [.int (xs (9 * n + 1)), .int (xs (9 * n + 2)), .int (xs (9 * n + 3)), .int (xs (9 * n + 4)), .int (xs (9 * n + 5)), .int (xs (9 * n + 6))]) C.1 C.2.1 (cut_tail (a := [oL T q u] ++ wW shX T adX xX oX.2)) (fun sz => cM_span l D T adM xM gM (xs (9 * n + 1)) (xs (9 * n + 2)) (xs (9 * n + 3)) (xs (9 * n + 4)) (xs (9 * n + 5)) (xs (9 * n + 6)) oM hm sz) (TM_kV tb_1499 tb_1500 tb_1501 tb_813 tb_1171 (n := 6) (by decide +kernel) BM_in BM_good) ⟨Nat.le_of_ble_eq_true rfl, Nat.le_of_ble_eq_true rfl⟩ ⟨rfl, rfl⟩ (by have := hroom; exact ⟨by omega, by omega⟩) ⟨Nat.le_refl _, Nat.le_refl _⟩ rfl rfl (Nat.le_of_ble_eq_true rfl) dL_law__2422 ?_
  refine q_istore (lv' := [(6, .int oM.1), (5, .int r), (0, .ref b), (1, .ref (adX 0)), (2, .ref (adM 0)), (3, .ref q), (4, .int (Int32.ofNat (9 * n)))]) C.1 dL_law__2425 (Nat.le_of_ble_eq_true rfl) rfl ?_
  refine q_aload_n C.1 dL_law__2427 rfl 4 rfl ?_
  refine q_mi (kc' := kc + 2) (ks' := ks + 12) (rest := []) (ro := oM.2 0 0) (go := oM.2) (xo := xM) (As := []) C.1 C.2.1 (cut_tail (a := [oL T q u] ++ wW shX T adX xX oX.2)) (fun sz => cM_thrown l D T adM xM oM.2 _ rfl sz) (TM_kV tb_1301 tb_1302 tb_1303 tb_813 tb_842 (n := 0) (by decide +kernel) BM_in BM_good) ⟨Nat.le_of_ble_eq_true rfl, Nat.le_of_ble_eq_true rfl⟩ ⟨rfl, rfl⟩ (by have := hroom; exact ⟨by omega, by omega⟩) ⟨Nat.le_refl _, Nat.le_refl _⟩ rfl rfl (Nat.le_of_ble_eq_true rfl) dL_law__2428 ?_
  refine q_iload C.1 dL_law__2431 1 rfl ?_
  refine q_icmp_eq C.1 2438 dL_law__2433 (by decide) (fun _ => ?_) (fun c9 => absurd e1 c9)
  refine q_iload C.1 dL_law__2438 1 rfl ?_
  have fin : Kj l D 8 room_1 (kc + 2) (ks + 12) Γ Q (lwV T adX adM q u oX.2 xX oM.2 xM) 2455 [(6, .int oM.1), (5, .int r), (0, .ref b), (1, .ref (adX 0)), (2, .ref (adM 0)), (3, .ref q), (4, .int (Int32.ofNat (9 * n)))] [] := by
    refine q_goto (tgt := 2534) C.1 dL_law__2455 (by decide) ?_
    refine q_sub [2, 3, 4, 5, 6] rfl ?_
    exact q_widen (by omega) (by omega) (K u oX.2 xX oM.2 xM hR2)
  refine q_if_ne C.1 2455 dL_law__2440 (by decide) (fun c9 => ?_) (fun _ => fin)
  have e3 := e2 c9
  refine q_aload_n C.1 dL_law__2443 rfl 5 rfl ?_
  refine q_iconst (v := (0 : Int32)) C.1 dL_law__2444 (by decide) ?_
  refine q_lald C.1 rfl dL_law__2445 ?_
  refine q_iload C.1 dL_law__2446 0 rfl ?_
  refine q_i2l C.1 dL_law__2448 ?_
  refine q_lcmp C.1 dL_law__2449 ?_
  exact q_if_eq C.1 2455 dL_law__2450 (by decide) (fun _ => fin) (fun c8 => absurd (lgc0 e3) c8)
set_option maxRecDepth 100000 in
theorem case_image (C : Cl D T sK sV b L xs Γ) (hS : Sim_image R) (hn : 9 * n + 9 ≤ L) (hroom : kc + 5 ≤ 601024 ∧ ks + 30 ≤ 7293034) (hR : R gX xX gM xM) (K : ∀ (f2 : Nat → Int64) (gX2 : St) (xX2 : Sl) (gM2 : St) (xM2 : Sl), R gX2 xX2 gM2 xM2 → Kj l D 8 room_1 (kc + 5) (ks + 30) Γ Q (lwV T adX adM q f2 gX2 xX2 gM2 xM2) 2534 (lwLv adX adM b q n) []) : Kj l D 8 room_1 kc ks Γ Q (lwV T adX adM q f gX xX gM xM) 2458 (lwLv adX adM b q n) [] := by
  have hR0 : room_1.cells = 601024 ∧ room_1.slots = 7293034 := ⟨rfl, rfl⟩
  obtain ⟨oX, oM, hx, hm, hR2, hv⟩ := hS gX xX gM xM hR
  refine q_aload_n C.1 dL_law__2458 rfl 1 rfl ?_
  refine q_xi (kc' := kc) (ks' := ks) (rest := []) (ro := oX.1) (go := oX.2) (xo := xX) (As := []) C.1 C.2.1 C.2.2.1.1 (cut_mid (a := [oL T q f])) (fun sz => cX_image l D T adX sK sV xX gX oX hx sz) (TM_kV tb_1502 tb_1503 tb_1504 tb_573 tb_789 (n := 0) (by decide +kernel) BX_in BX_good) ⟨Nat.le_of_ble_eq_true rfl, Nat.le_of_ble_eq_true rfl⟩ ⟨rfl, rfl⟩ (by have := hroom; exact ⟨by omega, by omega⟩) ⟨Nat.le_refl _, Nat.le_refl _⟩ rfl rfl (Nat.le_of_ble_eq_true rfl) dL_law__2459 ?_
  refine q_aload_n C.1 dL_law__2462 rfl 2 rfl ?_
  refine q_mi (kc' := kc) (ks' := ks) (rest := [.int oX.1]) (ro := oM.1) (go := oM.2) (xo := xM) (As := []) C.1 C.2.1 cut_tail (fun sz => cM_image l D T adM xM gM oM hm sz) (TM_kV tb_1505 tb_1506 tb_1507 tb_813 tb_1178 (n := 0) (by decide +kernel) BM_in BM_good) ⟨Nat.le_of_ble_eq_true rfl, Nat.le_of_ble_eq_true rfl⟩ ⟨rfl, rfl⟩ (by have := hroom; exact ⟨by omega, by omega⟩) ⟨Nat.le_refl _, Nat.le_refl _⟩ rfl rfl (Nat.le_of_ble_eq_true rfl) dL_law__2463 ?_
  refine q_icmp_eq C.1 2534 dL_law__2466 (by decide) (fun _ => ?_) (fun c9 => absurd hv c9)
  exact q_widen (Nat.le_add_right _ _) (Nat.le_add_right _ _) (K _ _ _ _ _ hR2)
set_option maxRecDepth 100000 in
theorem case_restore (C : Cl D T sK sV b L xs Γ) (hS : Sim_restore R) (hn : 9 * n + 9 ≤ L) (hroom : kc + 5 ≤ 601024 ∧ ks + 30 ≤ 7293034) (hR : R gX xX gM xM) (K : ∀ (f2 : Nat → Int64) (gX2 : St) (xX2 : Sl) (gM2 : St) (xM2 : Sl), R gX2 xX2 gM2 xM2 → Kj l D 8 room_1 (kc + 5) (ks + 30) Γ Q (lwV T adX adM q f2 gX2 xX2 gM2 xM2) 2534 (lwLv adX adM b q n) []) : Kj l D 8 room_1 kc ks Γ Q (lwV T adX adM q f gX xX gM xM) 2471 (lwLv adX adM b q n) [] := by
  have hR0 : room_1.cells = 601024 ∧ room_1.slots = 7293034 := ⟨rfl, rfl⟩
  obtain ⟨oX, oM, hx, hm, hR2, hv⟩ := hS gX xX gM xM hR
  refine q_aload_n C.1 dL_law__2471 rfl 1 rfl ?_
  refine q_xi (kc' := kc) (ks' := ks) (rest := []) (ro := oX.1) (go := oX.2) (xo := xX) (As := []) C.1 C.2.1 C.2.2.1.1 (cut_mid (a := [oL T q f])) (fun sz => cX_restore l D T adX sK sV xX gX oX hx sz) (TM_kV tb_1508 tb_1509 tb_1510 tb_573 tb_793 (n := 0) (by decide +kernel) BX_in BX_good) ⟨Nat.le_of_ble_eq_true rfl, Nat.le_of_ble_eq_true rfl⟩ ⟨rfl, rfl⟩ (by have := hroom; exact ⟨by omega, by omega⟩) ⟨Nat.le_refl _, Nat.le_refl _⟩ rfl rfl (Nat.le_of_ble_eq_true rfl) dL_law__2472 ?_
  refine q_aload_n C.1 dL_law__2475 rfl 2 rfl ?_
  refine q_mi (kc' := kc) (ks' := ks) (rest := [.int oX.1]) (ro := oM.1) (go := oM.2) (xo := xM) (As := []) C.1 C.2.1 cut_tail (fun sz => cM_restore l D T adM xM gM oM hm sz) (TM_kV tb_1511 tb_1512 tb_1513 tb_813 tb_1182 (n := 0) (by decide +kernel) BM_in BM_good) ⟨Nat.le_of_ble_eq_true rfl, Nat.le_of_ble_eq_true rfl⟩ ⟨rfl, rfl⟩ (by have := hroom; exact ⟨by omega, by omega⟩) ⟨Nat.le_refl _, Nat.le_refl _⟩ rfl rfl (Nat.le_of_ble_eq_true rfl) dL_law__2476 ?_
  refine q_icmp_eq C.1 2534 dL_law__2479 (by decide) (fun _ => ?_) (fun c9 => absurd hv c9)
  exact q_widen (Nat.le_add_right _ _) (Nat.le_add_right _ _) (K _ _ _ _ _ hR2)
set_option maxRecDepth 100000 in
theorem case_status (C : Cl D T sK sV b L xs Γ) (hS : Sim_status R) (hn : 9 * n + 9 ≤ L) (hroom : kc + 5 ≤ 601024 ∧ ks + 30 ≤ 7293034) (hR : R gX xX gM xM) (K : ∀ (f2 : Nat → Int64) (gX2 : St) (xX2 : Sl) (gM2 : St) (xM2 : Sl), R gX2 xX2 gM2 xM2 → Kj l D 8 room_1 (kc + 5) (ks + 30) Γ Q (lwV T adX adM q f2 gX2 xX2 gM2 xM2) 2534 (lwLv adX adM b q n) []) : Kj l D 8 room_1 kc ks Γ Q (lwV T adX adM q f gX xX gM xM) 2484 (lwLv adX adM b q n) [] := by
  have hR0 : room_1.cells = 601024 ∧ room_1.slots = 7293034 := ⟨rfl, rfl⟩
  obtain ⟨oX, oM, hx, hm, hR2, hv⟩ := hS gX xX gM xM (xs (9 * n + 1)) hR
  refine q_aload_n C.1 dL_law__2484 rfl 1 rfl ?_
  refine q_aload_n C.1 dL_law__2485 rfl 0 rfl ?_
  refine q_iload C.1 dL_law__2486 4 rfl ?_
  refine q_iconst (v := Int32.ofNat 1) C.1 dL_law__2488 (by decide) ?_
  refine q_iadd C.1 dL_law__2489 ?_
  refine q_sld (v := xs (9 * n + 1)) C.1 C.2.2.2.1 C.2.2.2.2.1 C.2.2.2.2.2.1 (argI hn C.2.2.2.2.2.2 1 (by omega)).1 (congrArg xs (argI hn C.2.2.2.2.2.2 1 (by omega)).2) dL_law__2490 ?_
  refine q_xi (kc' := kc) (ks' := ks) (rest := []) (ro := oX) (go := gX) (xo := xX) (As := [.int (xs (9 * n + 1))]) C.1 C.2.1 C.2.2.1.1 (cut_mid (a := [oL T q f])) (fun sz => cX_status l D T adX sK sV xX gX (xs (9 * n + 1)) oX hx sz) (TM_kV tb_1514 tb_1515 tb_1516 tb_573 tb_794 (n := 1) (by decide +kernel) BX_in BX_good) ⟨Nat.le_of_ble_eq_true rfl, Nat.le_of_ble_eq_true rfl⟩ ⟨rfl, rfl⟩ (by have := hroom; exact ⟨by omega, by omega⟩) ⟨Nat.le_refl _, Nat.le_refl _⟩ rfl rfl (Nat.le_of_ble_eq_true rfl) dL_law__2491 ?_
  refine q_aload_n C.1 dL_law__2494 rfl 2 rfl ?_
  refine q_aload_n C.1 dL_law__2495 rfl 0 rfl ?_
  refine q_iload C.1 dL_law__2496 4 rfl ?_
  refine q_iconst (v := Int32.ofNat 1) C.1 dL_law__2498 (by decide) ?_
  refine q_iadd C.1 dL_law__2499 ?_
  refine q_sld (v := xs (9 * n + 1)) C.1 C.2.2.2.1 C.2.2.2.2.1 C.2.2.2.2.2.1 (argI hn C.2.2.2.2.2.2 1 (by omega)).1 (congrArg xs (argI hn C.2.2.2.2.2.2 1 (by omega)).2) dL_law__2500 ?_
  refine q_mi (kc' := kc) (ks' := ks) (rest := [.int oX]) (ro := oM.1) (go := oM.2) (xo := xM) (As := [.int (xs (9 * n + 1))]) C.1 C.2.1 cut_tail (fun sz => cM_status l D T adM xM gM (xs (9 * n + 1)) oM hm sz) (TM_kV tb_1517 tb_1518 tb_1519 tb_813 tb_1183 (n := 1) (by decide +kernel) BM_in BM_good) ⟨Nat.le_of_ble_eq_true rfl, Nat.le_of_ble_eq_true rfl⟩ ⟨rfl, rfl⟩ (by have := hroom; exact ⟨by omega, by omega⟩) ⟨Nat.le_refl _, Nat.le_refl _⟩ rfl rfl (Nat.le_of_ble_eq_true rfl) dL_law__2501 ?_
  refine q_icmp_eq C.1 2534 dL_law__2504 (by decide) (fun _ => ?_) (fun c9 => absurd hv c9)
  exact q_widen (Nat.le_add_right _ _) (Nat.le_add_right _ _) (K _ _ _ _ _ hR2)
set_option maxRecDepth 100000 in
theorem case_count (C : Cl D T sK sV b L xs Γ) (hS : Sim_count R) (hn : 9 * n + 9 ≤ L) (hroom : kc + 5 ≤ 601024 ∧ ks + 30 ≤ 7293034) (hR : R gX xX gM xM) (K : ∀ (f2 : Nat → Int64) (gX2 : St) (xX2 : Sl) (gM2 : St) (xM2 : Sl), R gX2 xX2 gM2 xM2 → Kj l D 8 room_1 (kc + 5) (ks + 30) Γ Q (lwV T adX adM q f2 gX2 xX2 gM2 xM2) 2534 (lwLv adX adM b q n) []) : Kj l D 8 room_1 kc ks Γ Q (lwV T adX adM q f gX xX gM xM) 2509 (lwLv adX adM b q n) [] := by
  have hR0 : room_1.cells = 601024 ∧ room_1.slots = 7293034 := ⟨rfl, rfl⟩
  obtain ⟨oX, oM, hx, hm, hR2, hv⟩ := hS gX xX gM xM (xs (9 * n + 1)) hR
  refine q_aload_n C.1 dL_law__2509 rfl 1 rfl ?_
  refine q_aload_n C.1 dL_law__2510 rfl 0 rfl ?_
  refine q_iload C.1 dL_law__2511 4 rfl ?_
  refine q_iconst (v := Int32.ofNat 1) C.1 dL_law__2513 (by decide) ?_
  refine q_iadd C.1 dL_law__2514 ?_
  refine q_sld (v := xs (9 * n + 1)) C.1 C.2.2.2.1 C.2.2.2.2.1 C.2.2.2.2.2.1 (argI hn C.2.2.2.2.2.2 1 (by omega)).1 (congrArg xs (argI hn C.2.2.2.2.2.2 1 (by omega)).2) dL_law__2515 ?_
  refine q_xi (kc' := kc) (ks' := ks) (rest := []) (ro := oX) (go := gX) (xo := xX) (As := [.int (xs (9 * n + 1))]) C.1 C.2.1 C.2.2.1.1 (cut_mid (a := [oL T q f])) (fun sz => cX_count l D T adX sK sV xX gX (xs (9 * n + 1)) oX hx sz) (TM_kV tb_1520 tb_1521 tb_1522 tb_573 tb_795 (n := 1) (by decide +kernel) BX_in BX_good) ⟨Nat.le_of_ble_eq_true rfl, Nat.le_of_ble_eq_true rfl⟩ ⟨rfl, rfl⟩ (by have := hroom; exact ⟨by omega, by omega⟩) ⟨Nat.le_refl _, Nat.le_refl _⟩ rfl rfl (Nat.le_of_ble_eq_true rfl) dL_law__2516 ?_
  refine q_aload_n C.1 dL_law__2519 rfl 2 rfl ?_
  refine q_aload_n C.1 dL_law__2520 rfl 0 rfl ?_
  refine q_iload C.1 dL_law__2521 4 rfl ?_
  refine q_iconst (v := Int32.ofNat 1) C.1 dL_law__2523 (by decide) ?_
  refine q_iadd C.1 dL_law__2524 ?_
  refine q_sld (v := xs (9 * n + 1)) C.1 C.2.2.2.1 C.2.2.2.2.1 C.2.2.2.2.2.1 (argI hn C.2.2.2.2.2.2 1 (by omega)).1 (congrArg xs (argI hn C.2.2.2.2.2.2 1 (by omega)).2) dL_law__2525 ?_
  refine q_mi (kc' := kc) (ks' := ks) (rest := [.int oX]) (ro := oM.1) (go := oM.2) (xo := xM) (As := [.int (xs (9 * n + 1))]) C.1 C.2.1 cut_tail (fun sz => cM_count l D T adM xM gM (xs (9 * n + 1)) oM hm sz) (TM_kV tb_1523 tb_1524 tb_1525 tb_813 tb_1184 (n := 1) (by decide +kernel) BM_in BM_good) ⟨Nat.le_of_ble_eq_true rfl, Nat.le_of_ble_eq_true rfl⟩ ⟨rfl, rfl⟩ (by have := hroom; exact ⟨by omega, by omega⟩) ⟨Nat.le_refl _, Nat.le_refl _⟩ rfl rfl (Nat.le_of_ble_eq_true rfl) dL_law__2526 ?_
  refine q_icmp_eq C.1 2534 dL_law__2529 (by decide) (fun _ => ?_) (fun c9 => absurd hv c9)
  exact q_widen (Nat.le_add_right _ _) (Nat.le_add_right _ _) (K _ _ _ _ _ hR2)
end LAW
