section LAW
variable {l : Launch} {D : va_G} {T : cT} {adX adM : Nat → Nat} {sK sV : Nat → Nat} {b L q n : Nat} {xs : Nat → Int32} {Γ : Cxt} {Q : State → Prop} {kc ks : Nat} {R : Rel} {f : Nat → Int64} {gX : St} {xX : Sl} {gM : St} {xM : Sl}
set_option maxRecDepth 100000 in
theorem case_lends (C : Cl D T sK sV b L xs Γ) (hl0 : l.stackTraces = false) (hS : Sim_lends R) (hn : 9 * n + 9 ≤ L) (hroom : kc + 5 ≤ 601024 ∧ ks + 30 ≤ 7293034) (hR : R gX xX gM xM) (K : ∀ (f2 : Nat → Int64) (gX2 : St) (xX2 : Sl) (gM2 : St) (xM2 : Sl), R gX2 xX2 gM2 xM2 → Kj l D 8 room_1 (kc + 5) (ks + 30) Γ Q (lwV T adX adM q f2 gX2 xX2 gM2 xM2) 2534 (lwLv adX adM b q n) []) : Kj l D 8 room_1 kc ks Γ Q (lwV T adX adM q f gX xX gM xM) 727 (lwLv adX adM b q n) [] := by
  have hR0 : room_1.cells = 601024 ∧ room_1.slots = 7293034 := ⟨rfl, rfl⟩
  obtain ⟨oX, oM, hx, hm, hR2, hv⟩ := hS gX xX gM xM (xs (9 * n + 1)) (xs (9 * n + 2)) hR
  refine q_aload_n C.1 dL_law__727 rfl 1 rfl ?_
  refine q_aload_n C.1 dL_law__728 rfl 0 rfl ?_
  refine q_iload C.1 dL_law__729 4 rfl ?_
  refine q_iconst (v := Int32.ofNat 1) C.1 dL_law__731 (by decide) ?_
  refine q_iadd C.1 dL_law__732 ?_
  refine q_sld (v := xs (9 * n + 1)) C.1 C.2.2.2.1 C.2.2.2.2.1 C.2.2.2.2.2.1 (argI hn C.2.2.2.2.2.2 1 (by omega)).1 (congrArg xs (argI hn C.2.2.2.2.2.2 1 (by omega)).2) dL_law__733 ?_
  refine q_aload_n C.1 dL_law__734 rfl 0 rfl ?_
  refine q_iload C.1 dL_law__735 4 rfl ?_
  refine q_iconst (v := Int32.ofNat 2) C.1 dL_law__737 (by decide) ?_
  refine q_iadd C.1 dL_law__738 ?_
  refine q_sld (v := xs (9 * n + 2)) C.1 C.2.2.2.1 C.2.2.2.2.1 C.2.2.2.2.2.1 (argI hn C.2.2.2.2.2.2 2 (by omega)).1 (congrArg xs (argI hn C.2.2.2.2.2.2 2 (by omega)).2) dL_law__739 ?_
  refine q_aload_n C.1 dL_law__740 rfl 3 rfl ?_
  refine q_w (kc' := kc + 2) (ks' := ks + 12) (rest := []) (As := [.ref (adX 0), .int (xs (9 * n + 1)), .int (xs (9 * n + 2)), .ref q]) C.1 C.2.1 C.2.2.1 cut_head (fun sz => cL_lends_w l hl0 D T adX sK sV xX gX q f (xs (9 * n + 1)) (xs (9 * n + 2)) oX hx (simR_hk hv) sz) (TL_gi tb_1352 tb_1353 tb_1296 tb_1354) ⟨_, rfl⟩ (n := 4) (by decide +kernel) ⟨Nat.le_of_ble_eq_true rfl, Nat.le_of_ble_eq_true rfl⟩ ⟨rfl, rfl⟩ (by have := hroom; exact ⟨by omega, by omega⟩) ⟨Nat.le_refl _, Nat.le_refl _⟩ rfl rfl (Nat.le_of_ble_eq_true rfl) dL_law__741 (fun r u hu => ?_)
  obtain ⟨e1, e2⟩ := use_Z hv hu
  refine q_istore (lv' := [(5, .int r), (0, .ref b), (1, .ref (adX 0)), (2, .ref (adM 0)), (3, .ref q), (4, .int (Int32.ofNat (9 * n)))]) C.1 dL_law__744 (Nat.le_of_ble_eq_true rfl) rfl ?_
  refine q_aload_n C.1 dL_law__746 rfl 3 rfl ?_
  refine q_aload_n C.1 dL_law__747 rfl 1 rfl ?_
  refine q_iload C.1 dL_law__748 5 rfl ?_
  refine q_iconst (v := Int32.ofNat 1) C.1 dL_law__750 (by decide) ?_
  refine q_iadd C.1 dL_law__751 ?_
  refine q_sld (v := xs (9 * n + 1)) C.1 C.2.2.2.1 C.2.2.2.2.1 C.2.2.2.2.2.1 (argI hn C.2.2.2.2.2.2 1 (by omega)).1 (congrArg xs (argI hn C.2.2.2.2.2.2 1 (by omega)).2) dL_law__752 ?_
  refine q_aload_n C.1 dL_law__753 rfl 1 rfl ?_
  refine q_iload C.1 dL_law__754 5 rfl ?_
  refine q_iconst (v := Int32.ofNat 2) C.1 dL_law__756 (by decide) ?_
  refine q_iadd C.1 dL_law__757 ?_
  refine q_sld (v := xs (9 * n + 2)) C.1 C.2.2.2.1 C.2.2.2.2.1 C.2.2.2.2.2.1 (argI hn C.2.2.2.2.2.2 2 (by omega)).1 (congrArg xs (argI hn C.2.2.2.2.2.2 2 (by omega)).2) dL_law__758 ?_
  refine q_mz (kc' := kc + 2) (ks' := ks + 12) (rest := []) (ro := oM.1) (go := oM.2) (xo := xM) (As := [.int (xs (9 * n + 1)), .int (xs (9 * n + 2))]) C.1 C.2.1 (cut_tail (a := [oL T q u] ++ wW shX T adX xX oX.2)) (fun sz => cM_lends l D T adM xM gM (xs (9 * n + 1)) (xs (9 * n + 2)) oM hm sz) (TM_kV tb_1355 tb_1356 tb_1357 tb_813 tb_1070 (n := 2) (by decide +kernel) BM_in BM_good) ⟨Nat.le_of_ble_eq_true rfl, Nat.le_of_ble_eq_true rfl⟩ ⟨rfl, rfl⟩ (by have := hroom; exact ⟨by omega, by omega⟩) ⟨Nat.le_refl _, Nat.le_refl _⟩ rfl rfl (Nat.le_of_ble_eq_true rfl) dL_law__759 ?_
  refine q_istore (lv' := [(6, .int oM.1), (5, .int r), (0, .ref b), (1, .ref (adX 0)), (2, .ref (adM 0)), (3, .ref q), (4, .int (Int32.ofNat (9 * n)))]) C.1 dL_law__762 (Nat.le_of_ble_eq_true rfl) rfl ?_
  refine q_aload_n C.1 dL_law__764 rfl 4 rfl ?_
  refine q_mi (kc' := kc + 2) (ks' := ks + 12) (rest := []) (ro := oM.2 0 0) (go := oM.2) (xo := xM) (As := []) C.1 C.2.1 (cut_tail (a := [oL T q u] ++ wW shX T adX xX oX.2)) (fun sz => cM_thrown l D T adM xM oM.2 _ rfl sz) (TM_kV tb_1301 tb_1302 tb_1303 tb_813 tb_842 (n := 0) (by decide +kernel) BM_in BM_good) ⟨Nat.le_of_ble_eq_true rfl, Nat.le_of_ble_eq_true rfl⟩ ⟨rfl, rfl⟩ (by have := hroom; exact ⟨by omega, by omega⟩) ⟨Nat.le_refl _, Nat.le_refl _⟩ rfl rfl (Nat.le_of_ble_eq_true rfl) dL_law__765 ?_
  refine q_iload C.1 dL_law__768 1 rfl ?_
  refine q_icmp_eq C.1 775 dL_law__770 (by decide) (fun _ => ?_) (fun c9 => absurd e1 c9)
  refine q_iload C.1 dL_law__775 1 rfl ?_
  have fin : Kj l D 8 room_1 (kc + 2) (ks + 12) Γ Q (lwV T adX adM q u oX.2 xX oM.2 xM) 799 [(6, .int oM.1), (5, .int r), (0, .ref b), (1, .ref (adX 0)), (2, .ref (adM 0)), (3, .ref q), (4, .int (Int32.ofNat (9 * n)))] [] := by
    refine q_goto (tgt := 2534) C.1 dL_law__799 (by decide) ?_
    refine q_sub [2, 3, 4, 5, 6] rfl ?_
    exact q_widen (by omega) (by omega) (K u oX.2 xX oM.2 xM hR2)
  refine q_if_ne C.1 799 dL_law__777 (by decide) (fun c9 => ?_) (fun _ => fin)
  have e3 := e2 c9
  refine q_aload_n C.1 dL_law__780 rfl 5 rfl ?_
  refine q_iconst (v := (0 : Int32)) C.1 dL_law__781 (by decide) ?_
  refine q_lald C.1 rfl dL_law__782 ?_
  refine q_iload C.1 dL_law__783 0 rfl ?_
  refine q_if_eq C.1 792 dL_law__785 (by decide) (fun c7 => ?_) (fun c7 => ?_)
  · refine q_lconst (v := (0 : Int64)) C.1 dL_law__792 (by decide) ?_
    refine q_lcmp C.1 dL_law__793 ?_
    exact q_if_eq C.1 799 dL_law__794 (by decide) (fun _ => fin) (fun c8 => absurd (lgc0 (e3.trans (if_pos c7))) c8)
  · refine q_lconst (v := (1 : Int64)) C.1 dL_law__788 (by decide) ?_
    refine q_goto (tgt := 793) C.1 dL_law__789 (by decide) ?_
    refine q_lcmp C.1 dL_law__793 ?_
    exact q_if_eq C.1 799 dL_law__794 (by decide) (fun _ => fin) (fun c8 => absurd (lgc0 (e3.trans (if_neg c7))) c8)
set_option maxRecDepth 100000 in
theorem case_would (C : Cl D T sK sV b L xs Γ) (hl0 : l.stackTraces = false) (hS : Sim_would R) (hn : 9 * n + 9 ≤ L) (hroom : kc + 5 ≤ 601024 ∧ ks + 30 ≤ 7293034) (hR : R gX xX gM xM) (K : ∀ (f2 : Nat → Int64) (gX2 : St) (xX2 : Sl) (gM2 : St) (xM2 : Sl), R gX2 xX2 gM2 xM2 → Kj l D 8 room_1 (kc + 5) (ks + 30) Γ Q (lwV T adX adM q f2 gX2 xX2 gM2 xM2) 2534 (lwLv adX adM b q n) []) : Kj l D 8 room_1 kc ks Γ Q (lwV T adX adM q f gX xX gM xM) 802 (lwLv adX adM b q n) [] := by
  have hR0 : room_1.cells = 601024 ∧ room_1.slots = 7293034 := ⟨rfl, rfl⟩
  obtain ⟨oX, oM, hx, hm, hR2, hv⟩ := hS gX xX gM xM (xs (9 * n + 1)) (xs (9 * n + 2)) (xs (9 * n + 3)) (xs (9 * n + 4)) (xs (9 * n + 5)) (xs (9 * n + 6)) (xs (9 * n + 7)) (xs (9 * n + 8)) hR
  refine q_aload_n C.1 dL_law__802 rfl 1 rfl ?_
  refine q_aload_n C.1 dL_law__803 rfl 0 rfl ?_
  refine q_iload C.1 dL_law__804 4 rfl ?_
  refine q_iconst (v := Int32.ofNat 1) C.1 dL_law__806 (by decide) ?_
  refine q_iadd C.1 dL_law__807 ?_
  refine q_sld (v := xs (9 * n + 1)) C.1 C.2.2.2.1 C.2.2.2.2.1 C.2.2.2.2.2.1 (argI hn C.2.2.2.2.2.2 1 (by omega)).1 (congrArg xs (argI hn C.2.2.2.2.2.2 1 (by omega)).2) dL_law__808 ?_
  refine q_aload_n C.1 dL_law__809 rfl 0 rfl ?_
  refine q_iload C.1 dL_law__810 4 rfl ?_
  refine q_iconst (v := Int32.ofNat 2) C.1 dL_law__812 (by decide) ?_
  refine q_iadd C.1 dL_law__813 ?_
  refine q_sld (v := xs (9 * n + 2)) C.1 C.2.2.2.1 C.2.2.2.2.1 C.2.2.2.2.2.1 (argI hn C.2.2.2.2.2.2 2 (by omega)).1 (congrArg xs (argI hn C.2.2.2.2.2.2 2 (by omega)).2) dL_law__814 ?_
  refine q_aload_n C.1 dL_law__815 rfl 0 rfl ?_
  refine q_iload C.1 dL_law__816 4 rfl ?_
  refine q_iconst (v := Int32.ofNat 3) C.1 dL_law__818 (by decide) ?_
  refine q_iadd C.1 dL_law__819 ?_
  refine q_sld (v := xs (9 * n + 3)) C.1 C.2.2.2.1 C.2.2.2.2.1 C.2.2.2.2.2.1 (argI hn C.2.2.2.2.2.2 3 (by omega)).1 (congrArg xs (argI hn C.2.2.2.2.2.2 3 (by omega)).2) dL_law__820 ?_
  refine q_aload_n C.1 dL_law__821 rfl 0 rfl ?_
  refine q_iload C.1 dL_law__822 4 rfl ?_
  refine q_iconst (v := Int32.ofNat 4) C.1 dL_law__824 (by decide) ?_
  refine q_iadd C.1 dL_law__825 ?_
  refine q_sld (v := xs (9 * n + 4)) C.1 C.2.2.2.1 C.2.2.2.2.1 C.2.2.2.2.2.1 (argI hn C.2.2.2.2.2.2 4 (by omega)).1 (congrArg xs (argI hn C.2.2.2.2.2.2 4 (by omega)).2) dL_law__826 ?_
  refine q_aload_n C.1 dL_law__827 rfl 0 rfl ?_
  refine q_iload C.1 dL_law__828 4 rfl ?_
  refine q_iconst (v := Int32.ofNat 5) C.1 dL_law__830 (by decide) ?_
  refine q_iadd C.1 dL_law__831 ?_
  refine q_sld (v := xs (9 * n + 5)) C.1 C.2.2.2.1 C.2.2.2.2.1 C.2.2.2.2.2.1 (argI hn C.2.2.2.2.2.2 5 (by omega)).1 (congrArg xs (argI hn C.2.2.2.2.2.2 5 (by omega)).2) dL_law__832 ?_
  refine q_aload_n C.1 dL_law__833 rfl 0 rfl ?_
  refine q_iload C.1 dL_law__834 4 rfl ?_
  refine q_bipush (v := Int32.ofNat 6) C.1 dL_law__836 (by decide) ?_
  refine q_iadd C.1 dL_law__838 ?_
  refine q_sld (v := xs (9 * n + 6)) C.1 C.2.2.2.1 C.2.2.2.2.1 C.2.2.2.2.2.1 (argI hn C.2.2.2.2.2.2 6 (by omega)).1 (congrArg xs (argI hn C.2.2.2.2.2.2 6 (by omega)).2) dL_law__839 ?_
  refine q_aload_n C.1 dL_law__840 rfl 0 rfl ?_
  refine q_iload C.1 dL_law__841 4 rfl ?_
  refine q_bipush (v := Int32.ofNat 7) C.1 dL_law__843 (by decide) ?_
  refine q_iadd C.1 dL_law__845 ?_
  refine q_sld (v := xs (9 * n + 7)) C.1 C.2.2.2.1 C.2.2.2.2.1 C.2.2.2.2.2.1 (argI hn C.2.2.2.2.2.2 7 (by omega)).1 (congrArg xs (argI hn C.2.2.2.2.2.2 7 (by omega)).2) dL_law__846 ?_
  refine q_aload_n C.1 dL_law__847 rfl 0 rfl ?_
  refine q_iload C.1 dL_law__848 4 rfl ?_
  refine q_bipush (v := Int32.ofNat 8) C.1 dL_law__850 (by decide) ?_
  refine q_iadd C.1 dL_law__852 ?_
  refine q_sld (v := xs (9 * n + 8)) C.1 C.2.2.2.1 C.2.2.2.2.1 C.2.2.2.2.2.1 (argI hn C.2.2.2.2.2.2 8 (by omega)).1 (congrArg xs (argI hn C.2.2.2.2.2.2 8 (by omega)).2) dL_law__853 ?_
  refine q_aload_n C.1 dL_law__854 rfl 3 rfl ?_
  refine q_w (kc' := kc + 4) (ks' := ks + 24) (rest := []) (As := [.ref (adX 0), .int (xs (9 * n + 1)), .int (xs (9 * n + 2)), .int (xs (9 * n + 3)), .int (xs (9 * n + 4)), .int (xs (9 * n + 5)), .int (xs (9 * n + 6)), .int (xs (9 * n + 7)), .int (xs (9 * n + 8)), .ref q]) C.1 C.2.1 C.2.2.1 cut_head (fun sz => cL_would_w l hl0 D T adX sK sV xX gX q f (xs (9 * n + 1)) (xs (9 * n + 2)) (xs (9 * n + 3)) (xs (9 * n + 4)) (xs (9 * n + 5)) (xs (9 * n + 6)) (xs (9 * n + 7)) (xs (9 * n + 8)) oX hx (simR_hk hv) sz) (TL_gi tb_1358 tb_1359 tb_1296 tb_1360) ⟨_, rfl⟩ (n := 10) (by decide +kernel) ⟨Nat.le_of_ble_eq_true rfl, Nat.le_of_ble_eq_true rfl⟩ ⟨rfl, rfl⟩ (by have := hroom; exact ⟨by omega, by omega⟩) ⟨Nat.le_refl _, Nat.le_refl _⟩ rfl rfl (Nat.le_of_ble_eq_true rfl) dL_law__855 (fun r u hu => ?_)
  obtain ⟨e1, e2⟩ := use_I hv hu
  refine q_istore (lv' := [(5, .int r), (0, .ref b), (1, .ref (adX 0)), (2, .ref (adM 0)), (3, .ref q), (4, .int (Int32.ofNat (9 * n)))]) C.1 dL_law__858 (Nat.le_of_ble_eq_true rfl) rfl ?_
  refine q_aload_n C.1 dL_law__860 rfl 3 rfl ?_
  refine q_aload_n C.1 dL_law__861 rfl 1 rfl ?_
  refine q_iload C.1 dL_law__862 5 rfl ?_
  refine q_iconst (v := Int32.ofNat 1) C.1 dL_law__864 (by decide) ?_
  refine q_iadd C.1 dL_law__865 ?_
  refine q_sld (v := xs (9 * n + 1)) C.1 C.2.2.2.1 C.2.2.2.2.1 C.2.2.2.2.2.1 (argI hn C.2.2.2.2.2.2 1 (by omega)).1 (congrArg xs (argI hn C.2.2.2.2.2.2 1 (by omega)).2) dL_law__866 ?_
  refine q_aload_n C.1 dL_law__867 rfl 1 rfl ?_
  refine q_iload C.1 dL_law__868 5 rfl ?_
  refine q_iconst (v := Int32.ofNat 2) C.1 dL_law__870 (by decide) ?_
  refine q_iadd C.1 dL_law__871 ?_
  refine q_sld (v := xs (9 * n + 2)) C.1 C.2.2.2.1 C.2.2.2.2.1 C.2.2.2.2.2.1 (argI hn C.2.2.2.2.2.2 2 (by omega)).1 (congrArg xs (argI hn C.2.2.2.2.2.2 2 (by omega)).2) dL_law__872 ?_
  refine q_aload_n C.1 dL_law__873 rfl 1 rfl ?_
  refine q_iload C.1 dL_law__874 5 rfl ?_
  refine q_iconst (v := Int32.ofNat 3) C.1 dL_law__876 (by decide) ?_
  refine q_iadd C.1 dL_law__877 ?_
  refine q_sld (v := xs (9 * n + 3)) C.1 C.2.2.2.1 C.2.2.2.2.1 C.2.2.2.2.2.1 (argI hn C.2.2.2.2.2.2 3 (by omega)).1 (congrArg xs (argI hn C.2.2.2.2.2.2 3 (by omega)).2) dL_law__878 ?_
  refine q_aload_n C.1 dL_law__879 rfl 1 rfl ?_
  refine q_iload C.1 dL_law__880 5 rfl ?_
  refine q_iconst (v := Int32.ofNat 4) C.1 dL_law__882 (by decide) ?_
  refine q_iadd C.1 dL_law__883 ?_
  refine q_sld (v := xs (9 * n + 4)) C.1 C.2.2.2.1 C.2.2.2.2.1 C.2.2.2.2.2.1 (argI hn C.2.2.2.2.2.2 4 (by omega)).1 (congrArg xs (argI hn C.2.2.2.2.2.2 4 (by omega)).2) dL_law__884 ?_
  refine q_aload_n C.1 dL_law__885 rfl 1 rfl ?_
  refine q_iload C.1 dL_law__886 5 rfl ?_
  refine q_iconst (v := Int32.ofNat 5) C.1 dL_law__888 (by decide) ?_
  refine q_iadd C.1 dL_law__889 ?_
  refine q_sld (v := xs (9 * n + 5)) C.1 C.2.2.2.1 C.2.2.2.2.1 C.2.2.2.2.2.1 (argI hn C.2.2.2.2.2.2 5 (by omega)).1 (congrArg xs (argI hn C.2.2.2.2.2.2 5 (by omega)).2) dL_law__890 ?_
  refine q_aload_n C.1 dL_law__891 rfl 1 rfl ?_
  refine q_iload C.1 dL_law__892 5 rfl ?_
  refine q_bipush (v := Int32.ofNat 6) C.1 dL_law__894 (by decide) ?_
  refine q_iadd C.1 dL_law__896 ?_
  refine q_sld (v := xs (9 * n + 6)) C.1 C.2.2.2.1 C.2.2.2.2.1 C.2.2.2.2.2.1 (argI hn C.2.2.2.2.2.2 6 (by omega)).1 (congrArg xs (argI hn C.2.2.2.2.2.2 6 (by omega)).2) dL_law__897 ?_
  refine q_aload_n C.1 dL_law__898 rfl 1 rfl ?_
  refine q_iload C.1 dL_law__899 5 rfl ?_
  refine q_bipush (v := Int32.ofNat 7) C.1 dL_law__901 (by decide) ?_
  refine q_iadd C.1 dL_law__903 ?_
  refine q_sld (v := xs (9 * n + 7)) C.1 C.2.2.2.1 C.2.2.2.2.1 C.2.2.2.2.2.1 (argI hn C.2.2.2.2.2.2 7 (by omega)).1 (congrArg xs (argI hn C.2.2.2.2.2.2 7 (by omega)).2) dL_law__904 ?_
  refine q_aload_n C.1 dL_law__905 rfl 1 rfl ?_
  refine q_iload C.1 dL_law__906 5 rfl ?_
  refine q_bipush (v := Int32.ofNat 8) C.1 dL_law__908 (by decide) ?_
  refine q_iadd C.1 dL_law__910 ?_
  refine q_sld (v := xs (9 * n + 8)) C.1 C.2.2.2.1 C.2.2.2.2.1 C.2.2.2.2.2.1 (argI hn C.2.2.2.2.2.2 8 (by omega)).1 (congrArg xs (argI hn C.2.2.2.2.2.2 8 (by omega)).2) dL_law__911 ?_
  refine q_mi (kc' := kc + 4) (ks' := ks + 24) (rest := []) (ro := oM.1) (go := oM.2) (xo := xM) (As := [.int (xs (9 * n + 1)), .int (xs (9 * n + 2)), .int (xs (9 * n + 3)), .int (xs (9 * n + 4)), .int (xs (9 * n + 5)), .int (xs (9 * n + 6)), .int (xs (9 * n + 7)), .int (xs (9 * n + 8))]) C.1 C.2.1 (cut_tail (a := [oL T q u] ++ wW shX T adX xX oX.2)) (fun sz => cM_would l D T adM xM gM (xs (9 * n + 1)) (xs (9 * n + 2)) (xs (9 * n + 3)) (xs (9 * n + 4)) (xs (9 * n + 5)) (xs (9 * n + 6)) (xs (9 * n + 7)) (xs (9 * n + 8)) oM hm sz) (TM_kV tb_1361 tb_1362 tb_1363 tb_813 tb_1071 (n := 8) (by decide +kernel) BM_in BM_good) ⟨Nat.le_of_ble_eq_true rfl, Nat.le_of_ble_eq_true rfl⟩ ⟨rfl, rfl⟩ (by have := hroom; exact ⟨by omega, by omega⟩) ⟨Nat.le_refl _, Nat.le_refl _⟩ rfl rfl (Nat.le_of_ble_eq_true rfl) dL_law__912 ?_
  refine q_istore (lv' := [(6, .int oM.1), (5, .int r), (0, .ref b), (1, .ref (adX 0)), (2, .ref (adM 0)), (3, .ref q), (4, .int (Int32.ofNat (9 * n)))]) C.1 dL_law__915 (Nat.le_of_ble_eq_true rfl) rfl ?_
  refine q_aload_n C.1 dL_law__917 rfl 4 rfl ?_
  refine q_mi (kc' := kc + 4) (ks' := ks + 24) (rest := []) (ro := oM.2 0 0) (go := oM.2) (xo := xM) (As := []) C.1 C.2.1 (cut_tail (a := [oL T q u] ++ wW shX T adX xX oX.2)) (fun sz => cM_thrown l D T adM xM oM.2 _ rfl sz) (TM_kV tb_1301 tb_1302 tb_1303 tb_813 tb_842 (n := 0) (by decide +kernel) BM_in BM_good) ⟨Nat.le_of_ble_eq_true rfl, Nat.le_of_ble_eq_true rfl⟩ ⟨rfl, rfl⟩ (by have := hroom; exact ⟨by omega, by omega⟩) ⟨Nat.le_refl _, Nat.le_refl _⟩ rfl rfl (Nat.le_of_ble_eq_true rfl) dL_law__918 ?_
  refine q_iload C.1 dL_law__921 1 rfl ?_
  refine q_icmp_eq C.1 928 dL_law__923 (by decide) (fun _ => ?_) (fun c9 => absurd e1 c9)
  refine q_iload C.1 dL_law__928 1 rfl ?_
  have fin : Kj l D 8 room_1 (kc + 4) (ks + 24) Γ Q (lwV T adX adM q u oX.2 xX oM.2 xM) 945 [(6, .int oM.1), (5, .int r), (0, .ref b), (1, .ref (adX 0)), (2, .ref (adM 0)), (3, .ref q), (4, .int (Int32.ofNat (9 * n)))] [] := by
    refine q_goto (tgt := 2534) C.1 dL_law__945 (by decide) ?_
    refine q_sub [2, 3, 4, 5, 6] rfl ?_
    exact q_widen (by omega) (by omega) (K u oX.2 xX oM.2 xM hR2)
  refine q_if_ne C.1 945 dL_law__930 (by decide) (fun c9 => ?_) (fun _ => fin)
  have e3 := e2 c9
  refine q_aload_n C.1 dL_law__933 rfl 5 rfl ?_
  refine q_iconst (v := (0 : Int32)) C.1 dL_law__934 (by decide) ?_
  refine q_lald C.1 rfl dL_law__935 ?_
  refine q_iload C.1 dL_law__936 0 rfl ?_
  refine q_i2l C.1 dL_law__938 ?_
  refine q_lcmp C.1 dL_law__939 ?_
  exact q_if_eq C.1 945 dL_law__940 (by decide) (fun _ => fin) (fun c8 => absurd (lgc0 e3) c8)
set_option maxRecDepth 100000 in
theorem case_lender (C : Cl D T sK sV b L xs Γ) (hl0 : l.stackTraces = false) (hS : Sim_lender R) (hn : 9 * n + 9 ≤ L) (hroom : kc + 5 ≤ 601024 ∧ ks + 30 ≤ 7293034) (hR : R gX xX gM xM) (K : ∀ (f2 : Nat → Int64) (gX2 : St) (xX2 : Sl) (gM2 : St) (xM2 : Sl), R gX2 xX2 gM2 xM2 → Kj l D 8 room_1 (kc + 5) (ks + 30) Γ Q (lwV T adX adM q f2 gX2 xX2 gM2 xM2) 2534 (lwLv adX adM b q n) []) : Kj l D 8 room_1 kc ks Γ Q (lwV T adX adM q f gX xX gM xM) 948 (lwLv adX adM b q n) [] := by
  have hR0 : room_1.cells = 601024 ∧ room_1.slots = 7293034 := ⟨rfl, rfl⟩
  obtain ⟨oX, oM, hx, hm, hR2, hv⟩ := hS gX xX gM xM (xs (9 * n + 1)) hR
  refine q_aload_n C.1 dL_law__948 rfl 1 rfl ?_
  refine q_aload_n C.1 dL_law__949 rfl 0 rfl ?_
  refine q_iload C.1 dL_law__950 4 rfl ?_
  refine q_iconst (v := Int32.ofNat 1) C.1 dL_law__952 (by decide) ?_
  refine q_iadd C.1 dL_law__953 ?_
  refine q_sld (v := xs (9 * n + 1)) C.1 C.2.2.2.1 C.2.2.2.2.1 C.2.2.2.2.2.1 (argI hn C.2.2.2.2.2.2 1 (by omega)).1 (congrArg xs (argI hn C.2.2.2.2.2.2 1 (by omega)).2) dL_law__954 ?_
  refine q_aload_n C.1 dL_law__955 rfl 3 rfl ?_
  refine q_w (kc' := kc + 1) (ks' := ks + 6) (rest := []) (As := [.ref (adX 0), .int (xs (9 * n + 1)), .ref q]) C.1 C.2.1 C.2.2.1 cut_head (fun sz => cL_lender_w l hl0 D T adX sK sV xX gX q f (xs (9 * n + 1)) oX hx (simR_hk hv) sz) (TL_gi tb_1364 tb_1365 tb_1296 tb_1366) ⟨_, rfl⟩ (n := 3) (by decide +kernel) ⟨Nat.le_of_ble_eq_true rfl, Nat.le_of_ble_eq_true rfl⟩ ⟨rfl, rfl⟩ (by have := hroom; exact ⟨by omega, by omega⟩) ⟨Nat.le_refl _, Nat.le_refl _⟩ rfl rfl (Nat.le_of_ble_eq_true rfl) dL_law__956 (fun r u hu => ?_)
  obtain ⟨e1, e2⟩ := use_I hv hu
  refine q_istore (lv' := [(5, .int r), (0, .ref b), (1, .ref (adX 0)), (2, .ref (adM 0)), (3, .ref q), (4, .int (Int32.ofNat (9 * n)))]) C.1 dL_law__959 (Nat.le_of_ble_eq_true rfl) rfl ?_
  refine q_aload_n C.1 dL_law__961 rfl 3 rfl ?_
  refine q_aload_n C.1 dL_law__962 rfl 1 rfl ?_
  refine q_iload C.1 dL_law__963 5 rfl ?_
  refine q_iconst (v := Int32.ofNat 1) C.1 dL_law__965 (by decide) ?_
  refine q_iadd C.1 dL_law__966 ?_
  refine q_sld (v := xs (9 * n + 1)) C.1 C.2.2.2.1 C.2.2.2.2.1 C.2.2.2.2.2.1 (argI hn C.2.2.2.2.2.2 1 (by omega)).1 (congrArg xs (argI hn C.2.2.2.2.2.2 1 (by omega)).2) dL_law__967 ?_
  refine q_mi (kc' := kc + 1) (ks' := ks + 6) (rest := []) (ro := oM.1) (go := oM.2) (xo := xM) (As := [.int (xs (9 * n + 1))]) C.1 C.2.1 (cut_tail (a := [oL T q u] ++ wW shX T adX xX oX.2)) (fun sz => cM_lender l D T adM xM gM (xs (9 * n + 1)) oM hm sz) (TM_kV tb_1367 tb_1368 tb_1369 tb_813 tb_1072 (n := 1) (by decide +kernel) BM_in BM_good) ⟨Nat.le_of_ble_eq_true rfl, Nat.le_of_ble_eq_true rfl⟩ ⟨rfl, rfl⟩ (by have := hroom; exact ⟨by omega, by omega⟩) ⟨Nat.le_refl _, Nat.le_refl _⟩ rfl rfl (Nat.le_of_ble_eq_true rfl) dL_law__968 ?_
  refine q_istore (lv' := [(6, .int oM.1), (5, .int r), (0, .ref b), (1, .ref (adX 0)), (2, .ref (adM 0)), (3, .ref q), (4, .int (Int32.ofNat (9 * n)))]) C.1 dL_law__971 (Nat.le_of_ble_eq_true rfl) rfl ?_
  refine q_aload_n C.1 dL_law__973 rfl 4 rfl ?_
  refine q_mi (kc' := kc + 1) (ks' := ks + 6) (rest := []) (ro := oM.2 0 0) (go := oM.2) (xo := xM) (As := []) C.1 C.2.1 (cut_tail (a := [oL T q u] ++ wW shX T adX xX oX.2)) (fun sz => cM_thrown l D T adM xM oM.2 _ rfl sz) (TM_kV tb_1301 tb_1302 tb_1303 tb_813 tb_842 (n := 0) (by decide +kernel) BM_in BM_good) ⟨Nat.le_of_ble_eq_true rfl, Nat.le_of_ble_eq_true rfl⟩ ⟨rfl, rfl⟩ (by have := hroom; exact ⟨by omega, by omega⟩) ⟨Nat.le_refl _, Nat.le_refl _⟩ rfl rfl (Nat.le_of_ble_eq_true rfl) dL_law__974 ?_
  refine q_iload C.1 dL_law__977 1 rfl ?_
  refine q_icmp_eq C.1 984 dL_law__979 (by decide) (fun _ => ?_) (fun c9 => absurd e1 c9)
  refine q_iload C.1 dL_law__984 1 rfl ?_
  have fin : Kj l D 8 room_1 (kc + 1) (ks + 6) Γ Q (lwV T adX adM q u oX.2 xX oM.2 xM) 1001 [(6, .int oM.1), (5, .int r), (0, .ref b), (1, .ref (adX 0)), (2, .ref (adM 0)), (3, .ref q), (4, .int (Int32.ofNat (9 * n)))] [] := by
    refine q_goto (tgt := 2534) C.1 dL_law__1001 (by decide) ?_
    refine q_sub [2, 3, 4, 5, 6] rfl ?_
    exact q_widen (by omega) (by omega) (K u oX.2 xX oM.2 xM hR2)
  refine q_if_ne C.1 1001 dL_law__986 (by decide) (fun c9 => ?_) (fun _ => fin)
  have e3 := e2 c9
  refine q_aload_n C.1 dL_law__989 rfl 5 rfl ?_
  refine q_iconst (v := (0 : Int32)) C.1 dL_law__990 (by decide) ?_
  refine q_lald C.1 rfl dL_law__991 ?_
  refine q_iload C.1 dL_law__992 0 rfl ?_
  refine q_i2l C.1 dL_law__994 ?_
  refine q_lcmp C.1 dL_law__995 ?_
  exact q_if_eq C.1 1001 dL_law__996 (by decide) (fun _ => fin) (fun c8 => absurd (lgc0 e3) c8)
set_option maxRecDepth 100000 in
theorem case_ahead (C : Cl D T sK sV b L xs Γ) (hl0 : l.stackTraces = false) (hS : Sim_ahead R) (hn : 9 * n + 9 ≤ L) (hroom : kc + 5 ≤ 601024 ∧ ks + 30 ≤ 7293034) (hR : R gX xX gM xM) (K : ∀ (f2 : Nat → Int64) (gX2 : St) (xX2 : Sl) (gM2 : St) (xM2 : Sl), R gX2 xX2 gM2 xM2 → Kj l D 8 room_1 (kc + 5) (ks + 30) Γ Q (lwV T adX adM q f2 gX2 xX2 gM2 xM2) 2534 (lwLv adX adM b q n) []) : Kj l D 8 room_1 kc ks Γ Q (lwV T adX adM q f gX xX gM xM) 1004 (lwLv adX adM b q n) [] := by
  have hR0 : room_1.cells = 601024 ∧ room_1.slots = 7293034 := ⟨rfl, rfl⟩
  obtain ⟨oX, oM, hx, hm, hR2, hv⟩ := hS gX xX gM xM (xs (9 * n + 1)) (xs (9 * n + 2)) hR
  refine q_aload_n C.1 dL_law__1004 rfl 1 rfl ?_
  refine q_aload_n C.1 dL_law__1005 rfl 0 rfl ?_
  refine q_iload C.1 dL_law__1006 4 rfl ?_
  refine q_iconst (v := Int32.ofNat 1) C.1 dL_law__1008 (by decide) ?_
  refine q_iadd C.1 dL_law__1009 ?_
  refine q_sld (v := xs (9 * n + 1)) C.1 C.2.2.2.1 C.2.2.2.2.1 C.2.2.2.2.2.1 (argI hn C.2.2.2.2.2.2 1 (by omega)).1 (congrArg xs (argI hn C.2.2.2.2.2.2 1 (by omega)).2) dL_law__1010 ?_
  refine q_aload_n C.1 dL_law__1011 rfl 0 rfl ?_
  refine q_iload C.1 dL_law__1012 4 rfl ?_
  refine q_iconst (v := Int32.ofNat 2) C.1 dL_law__1014 (by decide) ?_
  refine q_iadd C.1 dL_law__1015 ?_
  refine q_sld (v := xs (9 * n + 2)) C.1 C.2.2.2.1 C.2.2.2.2.1 C.2.2.2.2.2.1 (argI hn C.2.2.2.2.2.2 2 (by omega)).1 (congrArg xs (argI hn C.2.2.2.2.2.2 2 (by omega)).2) dL_law__1016 ?_
  refine q_aload_n C.1 dL_law__1017 rfl 3 rfl ?_
  refine q_w (kc' := kc + 1) (ks' := ks + 6) (rest := []) (As := [.ref (adX 0), .int (xs (9 * n + 1)), .int (xs (9 * n + 2)), .ref q]) C.1 C.2.1 C.2.2.1 cut_head (fun sz => cL_ahead_w l hl0 D T adX sK sV xX gX q f (xs (9 * n + 1)) (xs (9 * n + 2)) oX hx (simR_hk hv) sz) (TL_gi tb_1370 tb_1371 tb_1296 tb_1372) ⟨_, rfl⟩ (n := 4) (by decide +kernel) ⟨Nat.le_of_ble_eq_true rfl, Nat.le_of_ble_eq_true rfl⟩ ⟨rfl, rfl⟩ (by have := hroom; exact ⟨by omega, by omega⟩) ⟨Nat.le_refl _, Nat.le_refl _⟩ rfl rfl (Nat.le_of_ble_eq_true rfl) dL_law__1018 (fun r u hu => ?_)
  obtain ⟨e1, e2⟩ := use_I hv hu
  refine q_istore (lv' := [(5, .int r), (0, .ref b), (1, .ref (adX 0)), (2, .ref (adM 0)), (3, .ref q), (4, .int (Int32.ofNat (9 * n)))]) C.1 dL_law__1021 (Nat.le_of_ble_eq_true rfl) rfl ?_
  refine q_aload_n C.1 dL_law__1023 rfl 3 rfl ?_
  refine q_aload_n C.1 dL_law__1024 rfl 1 rfl ?_
  refine q_iload C.1 dL_law__1025 5 rfl ?_
  refine q_iconst (v := Int32.ofNat 1) C.1 dL_law__1027 (by decide) ?_
  refine q_iadd C.1 dL_law__1028 ?_
  refine q_sld (v := xs (9 * n + 1)) C.1 C.2.2.2.1 C.2.2.2.2.1 C.2.2.2.2.2.1 (argI hn C.2.2.2.2.2.2 1 (by omega)).1 (congrArg xs (argI hn C.2.2.2.2.2.2 1 (by omega)).2) dL_law__1029 ?_
  refine q_aload_n C.1 dL_law__1030 rfl 1 rfl ?_
  refine q_iload C.1 dL_law__1031 5 rfl ?_
  refine q_iconst (v := Int32.ofNat 2) C.1 dL_law__1033 (by decide) ?_
  refine q_iadd C.1 dL_law__1034 ?_
  refine q_sld (v := xs (9 * n + 2)) C.1 C.2.2.2.1 C.2.2.2.2.1 C.2.2.2.2.2.1 (argI hn C.2.2.2.2.2.2 2 (by omega)).1 (congrArg xs (argI hn C.2.2.2.2.2.2 2 (by omega)).2) dL_law__1035 ?_
  refine q_mi (kc' := kc + 1) (ks' := ks + 6) (rest := []) (ro := oM.1) (go := oM.2) (xo := xM) (As := [.int (xs (9 * n + 1)), .int (xs (9 * n + 2))]) C.1 C.2.1 (cut_tail (a := [oL T q u] ++ wW shX T adX xX oX.2)) (fun sz => cM_ahead l D T adM xM gM (xs (9 * n + 1)) (xs (9 * n + 2)) oM hm sz) (TM_kV tb_1373 tb_1374 tb_1375 tb_813 tb_1077 (n := 2) (by decide +kernel) BM_in BM_good) ⟨Nat.le_of_ble_eq_true rfl, Nat.le_of_ble_eq_true rfl⟩ ⟨rfl, rfl⟩ (by have := hroom; exact ⟨by omega, by omega⟩) ⟨Nat.le_refl _, Nat.le_refl _⟩ rfl rfl (Nat.le_of_ble_eq_true rfl) dL_law__1036 ?_
  refine q_istore (lv' := [(6, .int oM.1), (5, .int r), (0, .ref b), (1, .ref (adX 0)), (2, .ref (adM 0)), (3, .ref q), (4, .int (Int32.ofNat (9 * n)))]) C.1 dL_law__1039 (Nat.le_of_ble_eq_true rfl) rfl ?_
  refine q_aload_n C.1 dL_law__1041 rfl 4 rfl ?_
  refine q_mi (kc' := kc + 1) (ks' := ks + 6) (rest := []) (ro := oM.2 0 0) (go := oM.2) (xo := xM) (As := []) C.1 C.2.1 (cut_tail (a := [oL T q u] ++ wW shX T adX xX oX.2)) (fun sz => cM_thrown l D T adM xM oM.2 _ rfl sz) (TM_kV tb_1301 tb_1302 tb_1303 tb_813 tb_842 (n := 0) (by decide +kernel) BM_in BM_good) ⟨Nat.le_of_ble_eq_true rfl, Nat.le_of_ble_eq_true rfl⟩ ⟨rfl, rfl⟩ (by have := hroom; exact ⟨by omega, by omega⟩) ⟨Nat.le_refl _, Nat.le_refl _⟩ rfl rfl (Nat.le_of_ble_eq_true rfl) dL_law__1042 ?_
  refine q_iload C.1 dL_law__1045 1 rfl ?_
  refine q_icmp_eq C.1 1052 dL_law__1047 (by decide) (fun _ => ?_) (fun c9 => absurd e1 c9)
  refine q_iload C.1 dL_law__1052 1 rfl ?_
  have fin : Kj l D 8 room_1 (kc + 1) (ks + 6) Γ Q (lwV T adX adM q u oX.2 xX oM.2 xM) 1069 [(6, .int oM.1), (5, .int r), (0, .ref b), (1, .ref (adX 0)), (2, .ref (adM 0)), (3, .ref q), (4, .int (Int32.ofNat (9 * n)))] [] := by
    refine q_goto (tgt := 2534) C.1 dL_law__1069 (by decide) ?_
    refine q_sub [2, 3, 4, 5, 6] rfl ?_
    exact q_widen (by omega) (by omega) (K u oX.2 xX oM.2 xM hR2)
  refine q_if_ne C.1 1069 dL_law__1054 (by decide) (fun c9 => ?_) (fun _ => fin)
  have e3 := e2 c9
  refine q_aload_n C.1 dL_law__1057 rfl 5 rfl ?_
  refine q_iconst (v := (0 : Int32)) C.1 dL_law__1058 (by decide) ?_
  refine q_lald C.1 rfl dL_law__1059 ?_
  refine q_iload C.1 dL_law__1060 0 rfl ?_
  refine q_i2l C.1 dL_law__1062 ?_
  refine q_lcmp C.1 dL_law__1063 ?_
  exact q_if_eq C.1 1069 dL_law__1064 (by decide) (fun _ => fin) (fun c8 => absurd (lgc0 e3) c8)
set_option maxRecDepth 100000 in
theorem case_truly (C : Cl D T sK sV b L xs Γ) (hl0 : l.stackTraces = false) (hS : Sim_truly R) (hn : 9 * n + 9 ≤ L) (hroom : kc + 5 ≤ 601024 ∧ ks + 30 ≤ 7293034) (hR : R gX xX gM xM) (K : ∀ (f2 : Nat → Int64) (gX2 : St) (xX2 : Sl) (gM2 : St) (xM2 : Sl), R gX2 xX2 gM2 xM2 → Kj l D 8 room_1 (kc + 5) (ks + 30) Γ Q (lwV T adX adM q f2 gX2 xX2 gM2 xM2) 2534 (lwLv adX adM b q n) []) : Kj l D 8 room_1 kc ks Γ Q (lwV T adX adM q f gX xX gM xM) 1072 (lwLv adX adM b q n) [] := by
  have hR0 : room_1.cells = 601024 ∧ room_1.slots = 7293034 := ⟨rfl, rfl⟩
  obtain ⟨oX, oM, hx, hm, hR2, hv⟩ := hS gX xX gM xM (xs (9 * n + 1)) hR
  refine q_aload_n C.1 dL_law__1072 rfl 1 rfl ?_
  refine q_aload_n C.1 dL_law__1073 rfl 0 rfl ?_
  refine q_iload C.1 dL_law__1074 4 rfl ?_
  refine q_iconst (v := Int32.ofNat 1) C.1 dL_law__1076 (by decide) ?_
  refine q_iadd C.1 dL_law__1077 ?_
  refine q_sld (v := xs (9 * n + 1)) C.1 C.2.2.2.1 C.2.2.2.2.1 C.2.2.2.2.2.1 (argI hn C.2.2.2.2.2.2 1 (by omega)).1 (congrArg xs (argI hn C.2.2.2.2.2.2 1 (by omega)).2) dL_law__1078 ?_
  refine q_aload_n C.1 dL_law__1079 rfl 3 rfl ?_
  refine q_w (kc' := kc + 1) (ks' := ks + 6) (rest := []) (As := [.ref (adX 0), .int (xs (9 * n + 1)), .ref q]) C.1 C.2.1 C.2.2.1 cut_head (fun sz => cL_truly_w l hl0 D T adX sK sV xX gX q f (xs (9 * n + 1)) oX hx (simR_hk hv) sz) (TL_gi tb_1376 tb_1377 tb_1296 tb_1378) ⟨_, rfl⟩ (n := 3) (by decide +kernel) ⟨Nat.le_of_ble_eq_true rfl, Nat.le_of_ble_eq_true rfl⟩ ⟨rfl, rfl⟩ (by have := hroom; exact ⟨by omega, by omega⟩) ⟨Nat.le_refl _, Nat.le_refl _⟩ rfl rfl (Nat.le_of_ble_eq_true rfl) dL_law__1080 (fun r u hu => ?_)
  obtain ⟨e1, e2⟩ := use_I hv hu
  refine q_istore (lv' := [(5, .int r), (0, .ref b), (1, .ref (adX 0)), (2, .ref (adM 0)), (3, .ref q), (4, .int (Int32.ofNat (9 * n)))]) C.1 dL_law__1083 (Nat.le_of_ble_eq_true rfl) rfl ?_
  refine q_aload_n C.1 dL_law__1085 rfl 3 rfl ?_
  refine q_aload_n C.1 dL_law__1086 rfl 1 rfl ?_
  refine q_iload C.1 dL_law__1087 5 rfl ?_
  refine q_iconst (v := Int32.ofNat 1) C.1 dL_law__1089 (by decide) ?_
  refine q_iadd C.1 dL_law__1090 ?_
  refine q_sld (v := xs (9 * n + 1)) C.1 C.2.2.2.1 C.2.2.2.2.1 C.2.2.2.2.2.1 (argI hn C.2.2.2.2.2.2 1 (by omega)).1 (congrArg xs (argI hn C.2.2.2.2.2.2 1 (by omega)).2) dL_law__1091 ?_
  refine q_mi (kc' := kc + 1) (ks' := ks + 6) (rest := []) (ro := oM.1) (go := oM.2) (xo := xM) (As := [.int (xs (9 * n + 1))]) C.1 C.2.1 (cut_tail (a := [oL T q u] ++ wW shX T adX xX oX.2)) (fun sz => cM_truly l D T adM xM gM (xs (9 * n + 1)) oM hm sz) (TM_kV tb_1379 tb_1380 tb_1381 tb_813 tb_1078 (n := 1) (by decide +kernel) BM_in BM_good) ⟨Nat.le_of_ble_eq_true rfl, Nat.le_of_ble_eq_true rfl⟩ ⟨rfl, rfl⟩ (by have := hroom; exact ⟨by omega, by omega⟩) ⟨Nat.le_refl _, Nat.le_refl _⟩ rfl rfl (Nat.le_of_ble_eq_true rfl) dL_law__1092 ?_
  refine q_istore (lv' := [(6, .int oM.1), (5, .int r), (0, .ref b), (1, .ref (adX 0)), (2, .ref (adM 0)), (3, .ref q), (4, .int (Int32.ofNat (9 * n)))]) C.1 dL_law__1095 (Nat.le_of_ble_eq_true rfl) rfl ?_
  refine q_aload_n C.1 dL_law__1097 rfl 4 rfl ?_
  refine q_mi (kc' := kc + 1) (ks' := ks + 6) (rest := []) (ro := oM.2 0 0) (go := oM.2) (xo := xM) (As := []) C.1 C.2.1 (cut_tail (a := [oL T q u] ++ wW shX T adX xX oX.2)) (fun sz => cM_thrown l D T adM xM oM.2 _ rfl sz) (TM_kV tb_1301 tb_1302 tb_1303 tb_813 tb_842 (n := 0) (by decide +kernel) BM_in BM_good) ⟨Nat.le_of_ble_eq_true rfl, Nat.le_of_ble_eq_true rfl⟩ ⟨rfl, rfl⟩ (by have := hroom; exact ⟨by omega, by omega⟩) ⟨Nat.le_refl _, Nat.le_refl _⟩ rfl rfl (Nat.le_of_ble_eq_true rfl) dL_law__1098 ?_
  refine q_iload C.1 dL_law__1101 1 rfl ?_
  refine q_icmp_eq C.1 1108 dL_law__1103 (by decide) (fun _ => ?_) (fun c9 => absurd e1 c9)
  refine q_iload C.1 dL_law__1108 1 rfl ?_
  have fin : Kj l D 8 room_1 (kc + 1) (ks + 6) Γ Q (lwV T adX adM q u oX.2 xX oM.2 xM) 1125 [(6, .int oM.1), (5, .int r), (0, .ref b), (1, .ref (adX 0)), (2, .ref (adM 0)), (3, .ref q), (4, .int (Int32.ofNat (9 * n)))] [] := by
    refine q_goto (tgt := 2534) C.1 dL_law__1125 (by decide) ?_
    refine q_sub [2, 3, 4, 5, 6] rfl ?_
    exact q_widen (by omega) (by omega) (K u oX.2 xX oM.2 xM hR2)
  refine q_if_ne C.1 1125 dL_law__1110 (by decide) (fun c9 => ?_) (fun _ => fin)
  have e3 := e2 c9
  refine q_aload_n C.1 dL_law__1113 rfl 5 rfl ?_
  refine q_iconst (v := (0 : Int32)) C.1 dL_law__1114 (by decide) ?_
  refine q_lald C.1 rfl dL_law__1115 ?_
  refine q_iload C.1 dL_law__1116 0 rfl ?_
  refine q_i2l C.1 dL_law__1118 ?_
  refine q_lcmp C.1 dL_law__1119 ?_
  exact q_if_eq C.1 1125 dL_law__1120 (by decide) (fun _ => fin) (fun c8 => absurd (lgc0 e3) c8)
set_option maxRecDepth 100000 in
theorem case_chain (C : Cl D T sK sV b L xs Γ) (hl0 : l.stackTraces = false) (hS : Sim_chain R) (hn : 9 * n + 9 ≤ L) (hroom : kc + 5 ≤ 601024 ∧ ks + 30 ≤ 7293034) (hR : R gX xX gM xM) (K : ∀ (f2 : Nat → Int64) (gX2 : St) (xX2 : Sl) (gM2 : St) (xM2 : Sl), R gX2 xX2 gM2 xM2 → Kj l D 8 room_1 (kc + 5) (ks + 30) Γ Q (lwV T adX adM q f2 gX2 xX2 gM2 xM2) 2534 (lwLv adX adM b q n) []) : Kj l D 8 room_1 kc ks Γ Q (lwV T adX adM q f gX xX gM xM) 1128 (lwLv adX adM b q n) [] := by
  have hR0 : room_1.cells = 601024 ∧ room_1.slots = 7293034 := ⟨rfl, rfl⟩
  obtain ⟨oX, oM, hx, hm, hR2, hv⟩ := hS gX xX gM xM (xs (9 * n + 1)) hR
  refine q_aload_n C.1 dL_law__1128 rfl 1 rfl ?_
  refine q_aload_n C.1 dL_law__1129 rfl 0 rfl ?_
  refine q_iload C.1 dL_law__1130 4 rfl ?_
  refine q_iconst (v := Int32.ofNat 1) C.1 dL_law__1132 (by decide) ?_
  refine q_iadd C.1 dL_law__1133 ?_
  refine q_sld (v := xs (9 * n + 1)) C.1 C.2.2.2.1 C.2.2.2.2.1 C.2.2.2.2.2.1 (argI hn C.2.2.2.2.2.2 1 (by omega)).1 (congrArg xs (argI hn C.2.2.2.2.2.2 1 (by omega)).2) dL_law__1134 ?_
  refine q_aload_n C.1 dL_law__1135 rfl 3 rfl ?_
  refine q_w (kc' := kc + 1) (ks' := ks + 6) (rest := []) (As := [.ref (adX 0), .int (xs (9 * n + 1)), .ref q]) C.1 C.2.1 C.2.2.1 cut_head (fun sz => cL_chain_w l hl0 D T adX sK sV xX gX q f (xs (9 * n + 1)) oX hx (simR_hk hv) sz) (TL_gi tb_1382 tb_1383 tb_1296 tb_1384) ⟨_, rfl⟩ (n := 3) (by decide +kernel) ⟨Nat.le_of_ble_eq_true rfl, Nat.le_of_ble_eq_true rfl⟩ ⟨rfl, rfl⟩ (by have := hroom; exact ⟨by omega, by omega⟩) ⟨Nat.le_refl _, Nat.le_refl _⟩ rfl rfl (Nat.le_of_ble_eq_true rfl) dL_law__1136 (fun r u hu => ?_)
  obtain ⟨e1, e2⟩ := use_I hv hu
  refine q_istore (lv' := [(5, .int r), (0, .ref b), (1, .ref (adX 0)), (2, .ref (adM 0)), (3, .ref q), (4, .int (Int32.ofNat (9 * n)))]) C.1 dL_law__1139 (Nat.le_of_ble_eq_true rfl) rfl ?_
  refine q_aload_n C.1 dL_law__1141 rfl 3 rfl ?_
  refine q_aload_n C.1 dL_law__1142 rfl 1 rfl ?_
  refine q_iload C.1 dL_law__1143 5 rfl ?_
  refine q_iconst (v := Int32.ofNat 1) C.1 dL_law__1145 (by decide) ?_
  refine q_iadd C.1 dL_law__1146 ?_
  refine q_sld (v := xs (9 * n + 1)) C.1 C.2.2.2.1 C.2.2.2.2.1 C.2.2.2.2.2.1 (argI hn C.2.2.2.2.2.2 1 (by omega)).1 (congrArg xs (argI hn C.2.2.2.2.2.2 1 (by omega)).2) dL_law__1147 ?_
  refine q_mi (kc' := kc + 1) (ks' := ks + 6) (rest := []) (ro := oM.1) (go := oM.2) (xo := xM) (As := [.int (xs (9 * n + 1))]) C.1 C.2.1 (cut_tail (a := [oL T q u] ++ wW shX T adX xX oX.2)) (fun sz => cM_chain l D T adM xM gM (xs (9 * n + 1)) oM hm sz) (TM_kV tb_1385 tb_1386 tb_1387 tb_813 tb_1079 (n := 1) (by decide +kernel) BM_in BM_good) ⟨Nat.le_of_ble_eq_true rfl, Nat.le_of_ble_eq_true rfl⟩ ⟨rfl, rfl⟩ (by have := hroom; exact ⟨by omega, by omega⟩) ⟨Nat.le_refl _, Nat.le_refl _⟩ rfl rfl (Nat.le_of_ble_eq_true rfl) dL_law__1148 ?_
  refine q_istore (lv' := [(6, .int oM.1), (5, .int r), (0, .ref b), (1, .ref (adX 0)), (2, .ref (adM 0)), (3, .ref q), (4, .int (Int32.ofNat (9 * n)))]) C.1 dL_law__1151 (Nat.le_of_ble_eq_true rfl) rfl ?_
  refine q_aload_n C.1 dL_law__1153 rfl 4 rfl ?_
  refine q_mi (kc' := kc + 1) (ks' := ks + 6) (rest := []) (ro := oM.2 0 0) (go := oM.2) (xo := xM) (As := []) C.1 C.2.1 (cut_tail (a := [oL T q u] ++ wW shX T adX xX oX.2)) (fun sz => cM_thrown l D T adM xM oM.2 _ rfl sz) (TM_kV tb_1301 tb_1302 tb_1303 tb_813 tb_842 (n := 0) (by decide +kernel) BM_in BM_good) ⟨Nat.le_of_ble_eq_true rfl, Nat.le_of_ble_eq_true rfl⟩ ⟨rfl, rfl⟩ (by have := hroom; exact ⟨by omega, by omega⟩) ⟨Nat.le_refl _, Nat.le_refl _⟩ rfl rfl (Nat.le_of_ble_eq_true rfl) dL_law__1154 ?_
  refine q_iload C.1 dL_law__1157 1 rfl ?_
  refine q_icmp_eq C.1 1164 dL_law__1159 (by decide) (fun _ => ?_) (fun c9 => absurd e1 c9)
  refine q_iload C.1 dL_law__1164 1 rfl ?_
  have fin : Kj l D 8 room_1 (kc + 1) (ks + 6) Γ Q (lwV T adX adM q u oX.2 xX oM.2 xM) 1181 [(6, .int oM.1), (5, .int r), (0, .ref b), (1, .ref (adX 0)), (2, .ref (adM 0)), (3, .ref q), (4, .int (Int32.ofNat (9 * n)))] [] := by
    refine q_goto (tgt := 2534) C.1 dL_law__1181 (by decide) ?_
    refine q_sub [2, 3, 4, 5, 6] rfl ?_
    exact q_widen (by omega) (by omega) (K u oX.2 xX oM.2 xM hR2)
  refine q_if_ne C.1 1181 dL_law__1166 (by decide) (fun c9 => ?_) (fun _ => fin)
  have e3 := e2 c9
  refine q_aload_n C.1 dL_law__1169 rfl 5 rfl ?_
  refine q_iconst (v := (0 : Int32)) C.1 dL_law__1170 (by decide) ?_
  refine q_lald C.1 rfl dL_law__1171 ?_
  refine q_iload C.1 dL_law__1172 0 rfl ?_
  refine q_i2l C.1 dL_law__1174 ?_
  refine q_lcmp C.1 dL_law__1175 ?_
  exact q_if_eq C.1 1181 dL_law__1176 (by decide) (fun _ => fin) (fun c8 => absurd (lgc0 e3) c8)
set_option maxRecDepth 100000 in
theorem case_served (C : Cl D T sK sV b L xs Γ) (hl0 : l.stackTraces = false) (hS : Sim_served R) (hn : 9 * n + 9 ≤ L) (hroom : kc + 5 ≤ 601024 ∧ ks + 30 ≤ 7293034) (hR : R gX xX gM xM) (K : ∀ (f2 : Nat → Int64) (gX2 : St) (xX2 : Sl) (gM2 : St) (xM2 : Sl), R gX2 xX2 gM2 xM2 → Kj l D 8 room_1 (kc + 5) (ks + 30) Γ Q (lwV T adX adM q f2 gX2 xX2 gM2 xM2) 2534 (lwLv adX adM b q n) []) : Kj l D 8 room_1 kc ks Γ Q (lwV T adX adM q f gX xX gM xM) 1184 (lwLv adX adM b q n) [] := by
  have hR0 : room_1.cells = 601024 ∧ room_1.slots = 7293034 := ⟨rfl, rfl⟩
  obtain ⟨oX, oM, hx, hm, hR2, hv⟩ := hS gX xX gM xM (xs (9 * n + 1)) (xs (9 * n + 2)) hR
  refine q_aload_n C.1 dL_law__1184 rfl 1 rfl ?_
  refine q_aload_n C.1 dL_law__1185 rfl 0 rfl ?_
  refine q_iload C.1 dL_law__1186 4 rfl ?_
  refine q_iconst (v := Int32.ofNat 1) C.1 dL_law__1188 (by decide) ?_
  refine q_iadd C.1 dL_law__1189 ?_
  refine q_sld (v := xs (9 * n + 1)) C.1 C.2.2.2.1 C.2.2.2.2.1 C.2.2.2.2.2.1 (argI hn C.2.2.2.2.2.2 1 (by omega)).1 (congrArg xs (argI hn C.2.2.2.2.2.2 1 (by omega)).2) dL_law__1190 ?_
  refine q_aload_n C.1 dL_law__1191 rfl 0 rfl ?_
  refine q_iload C.1 dL_law__1192 4 rfl ?_
  refine q_iconst (v := Int32.ofNat 2) C.1 dL_law__1194 (by decide) ?_
  refine q_iadd C.1 dL_law__1195 ?_
  refine q_sld (v := xs (9 * n + 2)) C.1 C.2.2.2.1 C.2.2.2.2.1 C.2.2.2.2.2.1 (argI hn C.2.2.2.2.2.2 2 (by omega)).1 (congrArg xs (argI hn C.2.2.2.2.2.2 2 (by omega)).2) dL_law__1196 ?_
  refine q_aload_n C.1 dL_law__1197 rfl 3 rfl ?_
  refine q_w (kc' := kc + 1) (ks' := ks + 6) (rest := []) (As := [.ref (adX 0), .int (xs (9 * n + 1)), .int (xs (9 * n + 2)), .ref q]) C.1 C.2.1 C.2.2.1 cut_head (fun sz => cL_served_w l hl0 D T adX sK sV xX gX q f (xs (9 * n + 1)) (xs (9 * n + 2)) oX hx (simR_hk hv) sz) (TL_gi tb_1388 tb_1389 tb_1296 tb_1390) ⟨_, rfl⟩ (n := 4) (by decide +kernel) ⟨Nat.le_of_ble_eq_true rfl, Nat.le_of_ble_eq_true rfl⟩ ⟨rfl, rfl⟩ (by have := hroom; exact ⟨by omega, by omega⟩) ⟨Nat.le_refl _, Nat.le_refl _⟩ rfl rfl (Nat.le_of_ble_eq_true rfl) dL_law__1198 (fun r u hu => ?_)
  obtain ⟨e1, e2⟩ := use_I hv hu
  refine q_istore (lv' := [(5, .int r), (0, .ref b), (1, .ref (adX 0)), (2, .ref (adM 0)), (3, .ref q), (4, .int (Int32.ofNat (9 * n)))]) C.1 dL_law__1201 (Nat.le_of_ble_eq_true rfl) rfl ?_
  refine q_aload_n C.1 dL_law__1203 rfl 3 rfl ?_
  refine q_aload_n C.1 dL_law__1204 rfl 1 rfl ?_
  refine q_iload C.1 dL_law__1205 5 rfl ?_
  refine q_iconst (v := Int32.ofNat 1) C.1 dL_law__1207 (by decide) ?_
  refine q_iadd C.1 dL_law__1208 ?_
  refine q_sld (v := xs (9 * n + 1)) C.1 C.2.2.2.1 C.2.2.2.2.1 C.2.2.2.2.2.1 (argI hn C.2.2.2.2.2.2 1 (by omega)).1 (congrArg xs (argI hn C.2.2.2.2.2.2 1 (by omega)).2) dL_law__1209 ?_
  refine q_aload_n C.1 dL_law__1210 rfl 1 rfl ?_
  refine q_iload C.1 dL_law__1211 5 rfl ?_
  refine q_iconst (v := Int32.ofNat 2) C.1 dL_law__1213 (by decide) ?_
  refine q_iadd C.1 dL_law__1214 ?_
  refine q_sld (v := xs (9 * n + 2)) C.1 C.2.2.2.1 C.2.2.2.2.1 C.2.2.2.2.2.1 (argI hn C.2.2.2.2.2.2 2 (by omega)).1 (congrArg xs (argI hn C.2.2.2.2.2.2 2 (by omega)).2) dL_law__1215 ?_
  refine q_mi (kc' := kc + 1) (ks' := ks + 6) (rest := []) (ro := oM.1) (go := oM.2) (xo := xM) (As := [.int (xs (9 * n + 1)), .int (xs (9 * n + 2))]) C.1 C.2.1 (cut_tail (a := [oL T q u] ++ wW shX T adX xX oX.2)) (fun sz => cM_served l D T adM xM gM (xs (9 * n + 1)) (xs (9 * n + 2)) oM hm sz) (TM_kV tb_1391 tb_1392 tb_1393 tb_813 tb_1093 (n := 2) (by decide +kernel) BM_in BM_good) ⟨Nat.le_of_ble_eq_true rfl, Nat.le_of_ble_eq_true rfl⟩ ⟨rfl, rfl⟩ (by have := hroom; exact ⟨by omega, by omega⟩) ⟨Nat.le_refl _, Nat.le_refl _⟩ rfl rfl (Nat.le_of_ble_eq_true rfl) dL_law__1216 ?_
  refine q_istore (lv' := [(6, .int oM.1), (5, .int r), (0, .ref b), (1, .ref (adX 0)), (2, .ref (adM 0)), (3, .ref q), (4, .int (Int32.ofNat (9 * n)))]) C.1 dL_law__1219 (Nat.le_of_ble_eq_true rfl) rfl ?_
  refine q_aload_n C.1 dL_law__1221 rfl 4 rfl ?_
  refine q_mi (kc' := kc + 1) (ks' := ks + 6) (rest := []) (ro := oM.2 0 0) (go := oM.2) (xo := xM) (As := []) C.1 C.2.1 (cut_tail (a := [oL T q u] ++ wW shX T adX xX oX.2)) (fun sz => cM_thrown l D T adM xM oM.2 _ rfl sz) (TM_kV tb_1301 tb_1302 tb_1303 tb_813 tb_842 (n := 0) (by decide +kernel) BM_in BM_good) ⟨Nat.le_of_ble_eq_true rfl, Nat.le_of_ble_eq_true rfl⟩ ⟨rfl, rfl⟩ (by have := hroom; exact ⟨by omega, by omega⟩) ⟨Nat.le_refl _, Nat.le_refl _⟩ rfl rfl (Nat.le_of_ble_eq_true rfl) dL_law__1222 ?_
  refine q_iload C.1 dL_law__1225 1 rfl ?_
  refine q_icmp_eq C.1 1232 dL_law__1227 (by decide) (fun _ => ?_) (fun c9 => absurd e1 c9)
  refine q_iload C.1 dL_law__1232 1 rfl ?_
  have fin : Kj l D 8 room_1 (kc + 1) (ks + 6) Γ Q (lwV T adX adM q u oX.2 xX oM.2 xM) 1249 [(6, .int oM.1), (5, .int r), (0, .ref b), (1, .ref (adX 0)), (2, .ref (adM 0)), (3, .ref q), (4, .int (Int32.ofNat (9 * n)))] [] := by
    refine q_goto (tgt := 2534) C.1 dL_law__1249 (by decide) ?_
    refine q_sub [2, 3, 4, 5, 6] rfl ?_
    exact q_widen (by omega) (by omega) (K u oX.2 xX oM.2 xM hR2)
  refine q_if_ne C.1 1249 dL_law__1234 (by decide) (fun c9 => ?_) (fun _ => fin)
  have e3 := e2 c9
  refine q_aload_n C.1 dL_law__1237 rfl 5 rfl ?_
  refine q_iconst (v := (0 : Int32)) C.1 dL_law__1238 (by decide) ?_
  refine q_lald C.1 rfl dL_law__1239 ?_
  refine q_iload C.1 dL_law__1240 0 rfl ?_
  refine q_i2l C.1 dL_law__1242 ?_
  refine q_lcmp C.1 dL_law__1243 ?_
  exact q_if_eq C.1 1249 dL_law__1244 (by decide) (fun _ => fin) (fun c8 => absurd (lgc0 e3) c8)
set_option maxRecDepth 100000 in
theorem case_giver (C : Cl D T sK sV b L xs Γ) (hl0 : l.stackTraces = false) (hS : Sim_giver R) (hn : 9 * n + 9 ≤ L) (hroom : kc + 5 ≤ 601024 ∧ ks + 30 ≤ 7293034) (hR : R gX xX gM xM) (K : ∀ (f2 : Nat → Int64) (gX2 : St) (xX2 : Sl) (gM2 : St) (xM2 : Sl), R gX2 xX2 gM2 xM2 → Kj l D 8 room_1 (kc + 5) (ks + 30) Γ Q (lwV T adX adM q f2 gX2 xX2 gM2 xM2) 2534 (lwLv adX adM b q n) []) : Kj l D 8 room_1 kc ks Γ Q (lwV T adX adM q f gX xX gM xM) 1252 (lwLv adX adM b q n) [] := by
  have hR0 : room_1.cells = 601024 ∧ room_1.slots = 7293034 := ⟨rfl, rfl⟩
  obtain ⟨oX, oM, hx, hm, hR2, hv⟩ := hS gX xX gM xM (xs (9 * n + 1)) (xs (9 * n + 2)) hR
  refine q_aload_n C.1 dL_law__1252 rfl 1 rfl ?_
  refine q_aload_n C.1 dL_law__1253 rfl 0 rfl ?_
  refine q_iload C.1 dL_law__1254 4 rfl ?_
  refine q_iconst (v := Int32.ofNat 1) C.1 dL_law__1256 (by decide) ?_
  refine q_iadd C.1 dL_law__1257 ?_
  refine q_sld (v := xs (9 * n + 1)) C.1 C.2.2.2.1 C.2.2.2.2.1 C.2.2.2.2.2.1 (argI hn C.2.2.2.2.2.2 1 (by omega)).1 (congrArg xs (argI hn C.2.2.2.2.2.2 1 (by omega)).2) dL_law__1258 ?_
  refine q_aload_n C.1 dL_law__1259 rfl 0 rfl ?_
  refine q_iload C.1 dL_law__1260 4 rfl ?_
  refine q_iconst (v := Int32.ofNat 2) C.1 dL_law__1262 (by decide) ?_
  refine q_iadd C.1 dL_law__1263 ?_
  refine q_sld (v := xs (9 * n + 2)) C.1 C.2.2.2.1 C.2.2.2.2.1 C.2.2.2.2.2.1 (argI hn C.2.2.2.2.2.2 2 (by omega)).1 (congrArg xs (argI hn C.2.2.2.2.2.2 2 (by omega)).2) dL_law__1264 ?_
  refine q_aload_n C.1 dL_law__1265 rfl 3 rfl ?_
  refine q_w (kc' := kc + 2) (ks' := ks + 12) (rest := []) (As := [.ref (adX 0), .int (xs (9 * n + 1)), .int (xs (9 * n + 2)), .ref q]) C.1 C.2.1 C.2.2.1 cut_head (fun sz => cL_giver_w l hl0 D T adX sK sV xX gX q f (xs (9 * n + 1)) (xs (9 * n + 2)) oX hx (simR_hk hv) sz) (TL_gi tb_1394 tb_1395 tb_1296 tb_1396) ⟨_, rfl⟩ (n := 4) (by decide +kernel) ⟨Nat.le_of_ble_eq_true rfl, Nat.le_of_ble_eq_true rfl⟩ ⟨rfl, rfl⟩ (by have := hroom; exact ⟨by omega, by omega⟩) ⟨Nat.le_refl _, Nat.le_refl _⟩ rfl rfl (Nat.le_of_ble_eq_true rfl) dL_law__1266 (fun r u hu => ?_)
  obtain ⟨e1, e2⟩ := use_I hv hu
  refine q_istore (lv' := [(5, .int r), (0, .ref b), (1, .ref (adX 0)), (2, .ref (adM 0)), (3, .ref q), (4, .int (Int32.ofNat (9 * n)))]) C.1 dL_law__1269 (Nat.le_of_ble_eq_true rfl) rfl ?_
  refine q_aload_n C.1 dL_law__1271 rfl 3 rfl ?_
  refine q_aload_n C.1 dL_law__1272 rfl 1 rfl ?_
  refine q_iload C.1 dL_law__1273 5 rfl ?_
  refine q_iconst (v := Int32.ofNat 1) C.1 dL_law__1275 (by decide) ?_
  refine q_iadd C.1 dL_law__1276 ?_
  refine q_sld (v := xs (9 * n + 1)) C.1 C.2.2.2.1 C.2.2.2.2.1 C.2.2.2.2.2.1 (argI hn C.2.2.2.2.2.2 1 (by omega)).1 (congrArg xs (argI hn C.2.2.2.2.2.2 1 (by omega)).2) dL_law__1277 ?_
  refine q_aload_n C.1 dL_law__1278 rfl 1 rfl ?_
  refine q_iload C.1 dL_law__1279 5 rfl ?_
  refine q_iconst (v := Int32.ofNat 2) C.1 dL_law__1281 (by decide) ?_
  refine q_iadd C.1 dL_law__1282 ?_
  refine q_sld (v := xs (9 * n + 2)) C.1 C.2.2.2.1 C.2.2.2.2.1 C.2.2.2.2.2.1 (argI hn C.2.2.2.2.2.2 2 (by omega)).1 (congrArg xs (argI hn C.2.2.2.2.2.2 2 (by omega)).2) dL_law__1283 ?_
  refine q_mi (kc' := kc + 2) (ks' := ks + 12) (rest := []) (ro := oM.1) (go := oM.2) (xo := xM) (As := [.int (xs (9 * n + 1)), .int (xs (9 * n + 2))]) C.1 C.2.1 (cut_tail (a := [oL T q u] ++ wW shX T adX xX oX.2)) (fun sz => cM_giver l D T adM xM gM (xs (9 * n + 1)) (xs (9 * n + 2)) oM hm sz) (TM_kV tb_1397 tb_1398 tb_1399 tb_813 tb_1094 (n := 2) (by decide +kernel) BM_in BM_good) ⟨Nat.le_of_ble_eq_true rfl, Nat.le_of_ble_eq_true rfl⟩ ⟨rfl, rfl⟩ (by have := hroom; exact ⟨by omega, by omega⟩) ⟨Nat.le_refl _, Nat.le_refl _⟩ rfl rfl (Nat.le_of_ble_eq_true rfl) dL_law__1284 ?_
  refine q_istore (lv' := [(6, .int oM.1), (5, .int r), (0, .ref b), (1, .ref (adX 0)), (2, .ref (adM 0)), (3, .ref q), (4, .int (Int32.ofNat (9 * n)))]) C.1 dL_law__1287 (Nat.le_of_ble_eq_true rfl) rfl ?_
  refine q_aload_n C.1 dL_law__1289 rfl 4 rfl ?_
  refine q_mi (kc' := kc + 2) (ks' := ks + 12) (rest := []) (ro := oM.2 0 0) (go := oM.2) (xo := xM) (As := []) C.1 C.2.1 (cut_tail (a := [oL T q u] ++ wW shX T adX xX oX.2)) (fun sz => cM_thrown l D T adM xM oM.2 _ rfl sz) (TM_kV tb_1301 tb_1302 tb_1303 tb_813 tb_842 (n := 0) (by decide +kernel) BM_in BM_good) ⟨Nat.le_of_ble_eq_true rfl, Nat.le_of_ble_eq_true rfl⟩ ⟨rfl, rfl⟩ (by have := hroom; exact ⟨by omega, by omega⟩) ⟨Nat.le_refl _, Nat.le_refl _⟩ rfl rfl (Nat.le_of_ble_eq_true rfl) dL_law__1290 ?_
  refine q_iload C.1 dL_law__1293 1 rfl ?_
  refine q_icmp_eq C.1 1300 dL_law__1295 (by decide) (fun _ => ?_) (fun c9 => absurd e1 c9)
  refine q_iload C.1 dL_law__1300 1 rfl ?_
  have fin : Kj l D 8 room_1 (kc + 2) (ks + 12) Γ Q (lwV T adX adM q u oX.2 xX oM.2 xM) 1317 [(6, .int oM.1), (5, .int r), (0, .ref b), (1, .ref (adX 0)), (2, .ref (adM 0)), (3, .ref q), (4, .int (Int32.ofNat (9 * n)))] [] := by
    refine q_goto (tgt := 2534) C.1 dL_law__1317 (by decide) ?_
    refine q_sub [2, 3, 4, 5, 6] rfl ?_
    exact q_widen (by omega) (by omega) (K u oX.2 xX oM.2 xM hR2)
  refine q_if_ne C.1 1317 dL_law__1302 (by decide) (fun c9 => ?_) (fun _ => fin)
  have e3 := e2 c9
  refine q_aload_n C.1 dL_law__1305 rfl 5 rfl ?_
  refine q_iconst (v := (0 : Int32)) C.1 dL_law__1306 (by decide) ?_
  refine q_lald C.1 rfl dL_law__1307 ?_
  refine q_iload C.1 dL_law__1308 0 rfl ?_
  refine q_i2l C.1 dL_law__1310 ?_
  refine q_lcmp C.1 dL_law__1311 ?_
  exact q_if_eq C.1 1317 dL_law__1312 (by decide) (fun _ => fin) (fun c8 => absurd (lgc0 e3) c8)
set_option maxRecDepth 100000 in
theorem case_order (C : Cl D T sK sV b L xs Γ) (hl0 : l.stackTraces = false) (hS : Sim_order R) (hn : 9 * n + 9 ≤ L) (hroom : kc + 5 ≤ 601024 ∧ ks + 30 ≤ 7293034) (hR : R gX xX gM xM) (K : ∀ (f2 : Nat → Int64) (gX2 : St) (xX2 : Sl) (gM2 : St) (xM2 : Sl), R gX2 xX2 gM2 xM2 → Kj l D 8 room_1 (kc + 5) (ks + 30) Γ Q (lwV T adX adM q f2 gX2 xX2 gM2 xM2) 2534 (lwLv adX adM b q n) []) : Kj l D 8 room_1 kc ks Γ Q (lwV T adX adM q f gX xX gM xM) 1320 (lwLv adX adM b q n) [] := by
  have hR0 : room_1.cells = 601024 ∧ room_1.slots = 7293034 := ⟨rfl, rfl⟩
  obtain ⟨oX, oM, hx, hm, hR2, hv⟩ := hS gX xX gM xM (xs (9 * n + 1)) (xs (9 * n + 2)) hR
  refine q_aload_n C.1 dL_law__1320 rfl 1 rfl ?_
  refine q_aload_n C.1 dL_law__1321 rfl 0 rfl ?_
  refine q_iload C.1 dL_law__1322 4 rfl ?_
  refine q_iconst (v := Int32.ofNat 1) C.1 dL_law__1324 (by decide) ?_
  refine q_iadd C.1 dL_law__1325 ?_
  refine q_sld (v := xs (9 * n + 1)) C.1 C.2.2.2.1 C.2.2.2.2.1 C.2.2.2.2.2.1 (argI hn C.2.2.2.2.2.2 1 (by omega)).1 (congrArg xs (argI hn C.2.2.2.2.2.2 1 (by omega)).2) dL_law__1326 ?_
  refine q_aload_n C.1 dL_law__1327 rfl 0 rfl ?_
  refine q_iload C.1 dL_law__1328 4 rfl ?_
  refine q_iconst (v := Int32.ofNat 2) C.1 dL_law__1330 (by decide) ?_
  refine q_iadd C.1 dL_law__1331 ?_
  refine q_sld (v := xs (9 * n + 2)) C.1 C.2.2.2.1 C.2.2.2.2.1 C.2.2.2.2.2.1 (argI hn C.2.2.2.2.2.2 2 (by omega)).1 (congrArg xs (argI hn C.2.2.2.2.2.2 2 (by omega)).2) dL_law__1332 ?_
  refine q_aload_n C.1 dL_law__1333 rfl 3 rfl ?_
  refine q_w (kc' := kc + 2) (ks' := ks + 12) (rest := []) (As := [.ref (adX 0), .int (xs (9 * n + 1)), .int (xs (9 * n + 2)), .ref q]) C.1 C.2.1 C.2.2.1 cut_head (fun sz => cL_order_w l hl0 D T adX sK sV xX gX q f (xs (9 * n + 1)) (xs (9 * n + 2)) oX hx (simR_hk hv) sz) (TL_gi tb_1400 tb_1401 tb_1296 tb_1402) ⟨_, rfl⟩ (n := 4) (by decide +kernel) ⟨Nat.le_of_ble_eq_true rfl, Nat.le_of_ble_eq_true rfl⟩ ⟨rfl, rfl⟩ (by have := hroom; exact ⟨by omega, by omega⟩) ⟨Nat.le_refl _, Nat.le_refl _⟩ rfl rfl (Nat.le_of_ble_eq_true rfl) dL_law__1334 (fun r u hu => ?_)
  obtain ⟨e1, e2⟩ := use_I hv hu
  refine q_istore (lv' := [(5, .int r), (0, .ref b), (1, .ref (adX 0)), (2, .ref (adM 0)), (3, .ref q), (4, .int (Int32.ofNat (9 * n)))]) C.1 dL_law__1337 (Nat.le_of_ble_eq_true rfl) rfl ?_
  refine q_aload_n C.1 dL_law__1339 rfl 3 rfl ?_
  refine q_aload_n C.1 dL_law__1340 rfl 1 rfl ?_
  refine q_iload C.1 dL_law__1341 5 rfl ?_
  refine q_iconst (v := Int32.ofNat 1) C.1 dL_law__1343 (by decide) ?_
  refine q_iadd C.1 dL_law__1344 ?_
  refine q_sld (v := xs (9 * n + 1)) C.1 C.2.2.2.1 C.2.2.2.2.1 C.2.2.2.2.2.1 (argI hn C.2.2.2.2.2.2 1 (by omega)).1 (congrArg xs (argI hn C.2.2.2.2.2.2 1 (by omega)).2) dL_law__1345 ?_
  refine q_aload_n C.1 dL_law__1346 rfl 1 rfl ?_
  refine q_iload C.1 dL_law__1347 5 rfl ?_
  refine q_iconst (v := Int32.ofNat 2) C.1 dL_law__1349 (by decide) ?_
  refine q_iadd C.1 dL_law__1350 ?_
  refine q_sld (v := xs (9 * n + 2)) C.1 C.2.2.2.1 C.2.2.2.2.1 C.2.2.2.2.2.1 (argI hn C.2.2.2.2.2.2 2 (by omega)).1 (congrArg xs (argI hn C.2.2.2.2.2.2 2 (by omega)).2) dL_law__1351 ?_
  refine q_mi (kc' := kc + 2) (ks' := ks + 12) (rest := []) (ro := oM.1) (go := oM.2) (xo := xM) (As := [.int (xs (9 * n + 1)), .int (xs (9 * n + 2))]) C.1 C.2.1 (cut_tail (a := [oL T q u] ++ wW shX T adX xX oX.2)) (fun sz => cM_order l D T adM xM gM (xs (9 * n + 1)) (xs (9 * n + 2)) oM hm sz) (TM_kV tb_1403 tb_1404 tb_1405 tb_813 tb_1120 (n := 2) (by decide +kernel) BM_in BM_good) ⟨Nat.le_of_ble_eq_true rfl, Nat.le_of_ble_eq_true rfl⟩ ⟨rfl, rfl⟩ (by have := hroom; exact ⟨by omega, by omega⟩) ⟨Nat.le_refl _, Nat.le_refl _⟩ rfl rfl (Nat.le_of_ble_eq_true rfl) dL_law__1352 ?_
  refine q_istore (lv' := [(6, .int oM.1), (5, .int r), (0, .ref b), (1, .ref (adX 0)), (2, .ref (adM 0)), (3, .ref q), (4, .int (Int32.ofNat (9 * n)))]) C.1 dL_law__1355 (Nat.le_of_ble_eq_true rfl) rfl ?_
  refine q_aload_n C.1 dL_law__1357 rfl 4 rfl ?_
  refine q_mi (kc' := kc + 2) (ks' := ks + 12) (rest := []) (ro := oM.2 0 0) (go := oM.2) (xo := xM) (As := []) C.1 C.2.1 (cut_tail (a := [oL T q u] ++ wW shX T adX xX oX.2)) (fun sz => cM_thrown l D T adM xM oM.2 _ rfl sz) (TM_kV tb_1301 tb_1302 tb_1303 tb_813 tb_842 (n := 0) (by decide +kernel) BM_in BM_good) ⟨Nat.le_of_ble_eq_true rfl, Nat.le_of_ble_eq_true rfl⟩ ⟨rfl, rfl⟩ (by have := hroom; exact ⟨by omega, by omega⟩) ⟨Nat.le_refl _, Nat.le_refl _⟩ rfl rfl (Nat.le_of_ble_eq_true rfl) dL_law__1358 ?_
  refine q_iload C.1 dL_law__1361 1 rfl ?_
  refine q_icmp_eq C.1 1368 dL_law__1363 (by decide) (fun _ => ?_) (fun c9 => absurd e1 c9)
  refine q_iload C.1 dL_law__1368 1 rfl ?_
  have fin : Kj l D 8 room_1 (kc + 2) (ks + 12) Γ Q (lwV T adX adM q u oX.2 xX oM.2 xM) 1385 [(6, .int oM.1), (5, .int r), (0, .ref b), (1, .ref (adX 0)), (2, .ref (adM 0)), (3, .ref q), (4, .int (Int32.ofNat (9 * n)))] [] := by
    refine q_goto (tgt := 2534) C.1 dL_law__1385 (by decide) ?_
    refine q_sub [2, 3, 4, 5, 6] rfl ?_
    exact q_widen (by omega) (by omega) (K u oX.2 xX oM.2 xM hR2)
  refine q_if_ne C.1 1385 dL_law__1370 (by decide) (fun c9 => ?_) (fun _ => fin)
  have e3 := e2 c9
  refine q_aload_n C.1 dL_law__1373 rfl 5 rfl ?_
  refine q_iconst (v := (0 : Int32)) C.1 dL_law__1374 (by decide) ?_
  refine q_lald C.1 rfl dL_law__1375 ?_
  refine q_iload C.1 dL_law__1376 0 rfl ?_
  refine q_i2l C.1 dL_law__1378 ?_
  refine q_lcmp C.1 dL_law__1379 ?_
  exact q_if_eq C.1 1385 dL_law__1380 (by decide) (fun _ => fin) (fun c8 => absurd (lgc0 e3) c8)
set_option maxRecDepth 100000 in
theorem case_fits (C : Cl D T sK sV b L xs Γ) (hl0 : l.stackTraces = false) (hS : Sim_fits R) (hn : 9 * n + 9 ≤ L) (hroom : kc + 5 ≤ 601024 ∧ ks + 30 ≤ 7293034) (hR : R gX xX gM xM) (K : ∀ (f2 : Nat → Int64) (gX2 : St) (xX2 : Sl) (gM2 : St) (xM2 : Sl), R gX2 xX2 gM2 xM2 → Kj l D 8 room_1 (kc + 5) (ks + 30) Γ Q (lwV T adX adM q f2 gX2 xX2 gM2 xM2) 2534 (lwLv adX adM b q n) []) : Kj l D 8 room_1 kc ks Γ Q (lwV T adX adM q f gX xX gM xM) 1388 (lwLv adX adM b q n) [] := by
  have hR0 : room_1.cells = 601024 ∧ room_1.slots = 7293034 := ⟨rfl, rfl⟩
  obtain ⟨oX, oM, hx, hm, hR2, hv⟩ := hS gX xX gM xM (xs (9 * n + 1)) (xs (9 * n + 2)) hR
  refine q_aload_n C.1 dL_law__1388 rfl 1 rfl ?_
  refine q_aload_n C.1 dL_law__1389 rfl 0 rfl ?_
  refine q_iload C.1 dL_law__1390 4 rfl ?_
  refine q_iconst (v := Int32.ofNat 1) C.1 dL_law__1392 (by decide) ?_
  refine q_iadd C.1 dL_law__1393 ?_
  refine q_sld (v := xs (9 * n + 1)) C.1 C.2.2.2.1 C.2.2.2.2.1 C.2.2.2.2.2.1 (argI hn C.2.2.2.2.2.2 1 (by omega)).1 (congrArg xs (argI hn C.2.2.2.2.2.2 1 (by omega)).2) dL_law__1394 ?_
  refine q_aload_n C.1 dL_law__1395 rfl 0 rfl ?_
  refine q_iload C.1 dL_law__1396 4 rfl ?_
  refine q_iconst (v := Int32.ofNat 2) C.1 dL_law__1398 (by decide) ?_
  refine q_iadd C.1 dL_law__1399 ?_
  refine q_sld (v := xs (9 * n + 2)) C.1 C.2.2.2.1 C.2.2.2.2.1 C.2.2.2.2.2.1 (argI hn C.2.2.2.2.2.2 2 (by omega)).1 (congrArg xs (argI hn C.2.2.2.2.2.2 2 (by omega)).2) dL_law__1400 ?_
  refine q_aload_n C.1 dL_law__1401 rfl 3 rfl ?_
  refine q_w (kc' := kc + 2) (ks' := ks + 12) (rest := []) (As := [.ref (adX 0), .int (xs (9 * n + 1)), .int (xs (9 * n + 2)), .ref q]) C.1 C.2.1 C.2.2.1 cut_head (fun sz => cL_fits_w l hl0 D T adX sK sV xX gX q f (xs (9 * n + 1)) (xs (9 * n + 2)) oX hx (simR_hk hv) sz) (TL_gi tb_1406 tb_1407 tb_1296 tb_1408) ⟨_, rfl⟩ (n := 4) (by decide +kernel) ⟨Nat.le_of_ble_eq_true rfl, Nat.le_of_ble_eq_true rfl⟩ ⟨rfl, rfl⟩ (by have := hroom; exact ⟨by omega, by omega⟩) ⟨Nat.le_refl _, Nat.le_refl _⟩ rfl rfl (Nat.le_of_ble_eq_true rfl) dL_law__1402 (fun r u hu => ?_)
  obtain ⟨e1, e2⟩ := use_I hv hu
  refine q_istore (lv' := [(5, .int r), (0, .ref b), (1, .ref (adX 0)), (2, .ref (adM 0)), (3, .ref q), (4, .int (Int32.ofNat (9 * n)))]) C.1 dL_law__1405 (Nat.le_of_ble_eq_true rfl) rfl ?_
  refine q_aload_n C.1 dL_law__1407 rfl 3 rfl ?_
  refine q_aload_n C.1 dL_law__1408 rfl 1 rfl ?_
  refine q_iload C.1 dL_law__1409 5 rfl ?_
  refine q_iconst (v := Int32.ofNat 1) C.1 dL_law__1411 (by decide) ?_
  refine q_iadd C.1 dL_law__1412 ?_
  refine q_sld (v := xs (9 * n + 1)) C.1 C.2.2.2.1 C.2.2.2.2.1 C.2.2.2.2.2.1 (argI hn C.2.2.2.2.2.2 1 (by omega)).1 (congrArg xs (argI hn C.2.2.2.2.2.2 1 (by omega)).2) dL_law__1413 ?_
  refine q_aload_n C.1 dL_law__1414 rfl 1 rfl ?_
  refine q_iload C.1 dL_law__1415 5 rfl ?_
  refine q_iconst (v := Int32.ofNat 2) C.1 dL_law__1417 (by decide) ?_
  refine q_iadd C.1 dL_law__1418 ?_
  refine q_sld (v := xs (9 * n + 2)) C.1 C.2.2.2.1 C.2.2.2.2.1 C.2.2.2.2.2.1 (argI hn C.2.2.2.2.2.2 2 (by omega)).1 (congrArg xs (argI hn C.2.2.2.2.2.2 2 (by omega)).2) dL_law__1419 ?_
  refine q_mi (kc' := kc + 2) (ks' := ks + 12) (rest := []) (ro := oM.1) (go := oM.2) (xo := xM) (As := [.int (xs (9 * n + 1)), .int (xs (9 * n + 2))]) C.1 C.2.1 (cut_tail (a := [oL T q u] ++ wW shX T adX xX oX.2)) (fun sz => cM_fits l D T adM xM gM (xs (9 * n + 1)) (xs (9 * n + 2)) oM hm sz) (TM_kV tb_1409 tb_1410 tb_1411 tb_813 tb_1125 (n := 2) (by decide +kernel) BM_in BM_good) ⟨Nat.le_of_ble_eq_true rfl, Nat.le_of_ble_eq_true rfl⟩ ⟨rfl, rfl⟩ (by have := hroom; exact ⟨by omega, by omega⟩) ⟨Nat.le_refl _, Nat.le_refl _⟩ rfl rfl (Nat.le_of_ble_eq_true rfl) dL_law__1420 ?_
  refine q_istore (lv' := [(6, .int oM.1), (5, .int r), (0, .ref b), (1, .ref (adX 0)), (2, .ref (adM 0)), (3, .ref q), (4, .int (Int32.ofNat (9 * n)))]) C.1 dL_law__1423 (Nat.le_of_ble_eq_true rfl) rfl ?_
  refine q_aload_n C.1 dL_law__1425 rfl 4 rfl ?_
  refine q_mi (kc' := kc + 2) (ks' := ks + 12) (rest := []) (ro := oM.2 0 0) (go := oM.2) (xo := xM) (As := []) C.1 C.2.1 (cut_tail (a := [oL T q u] ++ wW shX T adX xX oX.2)) (fun sz => cM_thrown l D T adM xM oM.2 _ rfl sz) (TM_kV tb_1301 tb_1302 tb_1303 tb_813 tb_842 (n := 0) (by decide +kernel) BM_in BM_good) ⟨Nat.le_of_ble_eq_true rfl, Nat.le_of_ble_eq_true rfl⟩ ⟨rfl, rfl⟩ (by have := hroom; exact ⟨by omega, by omega⟩) ⟨Nat.le_refl _, Nat.le_refl _⟩ rfl rfl (Nat.le_of_ble_eq_true rfl) dL_law__1426 ?_
  refine q_iload C.1 dL_law__1429 1 rfl ?_
  refine q_icmp_eq C.1 1436 dL_law__1431 (by decide) (fun _ => ?_) (fun c9 => absurd e1 c9)
  refine q_iload C.1 dL_law__1436 1 rfl ?_
  have fin : Kj l D 8 room_1 (kc + 2) (ks + 12) Γ Q (lwV T adX adM q u oX.2 xX oM.2 xM) 1453 [(6, .int oM.1), (5, .int r), (0, .ref b), (1, .ref (adX 0)), (2, .ref (adM 0)), (3, .ref q), (4, .int (Int32.ofNat (9 * n)))] [] := by
    refine q_goto (tgt := 2534) C.1 dL_law__1453 (by decide) ?_
    refine q_sub [2, 3, 4, 5, 6] rfl ?_
    exact q_widen (by omega) (by omega) (K u oX.2 xX oM.2 xM hR2)
  refine q_if_ne C.1 1453 dL_law__1438 (by decide) (fun c9 => ?_) (fun _ => fin)
  have e3 := e2 c9
  refine q_aload_n C.1 dL_law__1441 rfl 5 rfl ?_
  refine q_iconst (v := (0 : Int32)) C.1 dL_law__1442 (by decide) ?_
  refine q_lald C.1 rfl dL_law__1443 ?_
  refine q_iload C.1 dL_law__1444 0 rfl ?_
  refine q_i2l C.1 dL_law__1446 ?_
  refine q_lcmp C.1 dL_law__1447 ?_
  exact q_if_eq C.1 1453 dL_law__1448 (by decide) (fun _ => fin) (fun c8 => absurd (lgc0 e3) c8)
end LAW
