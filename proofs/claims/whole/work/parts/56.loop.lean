section LAW
variable {l : Launch} {D : va_G} {T : cT} {adX adM : Nat → Nat} {sK sV : Nat → Nat} {b L q n : Nat} {xs : Nat → Int32} {Γ : Cxt} {Q : State → Prop} {kc ks : Nat} {R : Rel} {f : Nat → Int64} {gX : St} {xX : Sl} {gM : St} {xM : Sl}
def Sims (R : Rel) : Prop := Sim_feed R ∧ Sim_peninsula R ∧ Sim_law R ∧ Sim_work R ∧ Sim_book R ∧ Sim_fault R ∧ Sim_undo R ∧ Sim_told R ∧ Sim_person R ∧ Sim_will R ∧ Sim_lends R ∧ Sim_would R ∧ Sim_lender R ∧ Sim_ahead R ∧ Sim_truly R ∧ Sim_chain R ∧ Sim_served R ∧ Sim_giver R ∧ Sim_order R ∧ Sim_fits R ∧ Sim_look R ∧ Sim_neighbours R ∧ Sim_home R ∧ Sim_flowers R ∧ Sim_honoured R ∧ Sim_sued R ∧ Sim_free R ∧ Sim_kin R ∧ Sim_willing R ∧ Sim_below R ∧ Sim_debtless R ∧ Sim_after R ∧ Sim_latest R ∧ Sim_century R ∧ Sim_span R ∧ Sim_image R ∧ Sim_restore R ∧ Sim_status R ∧ Sim_count R
theorem sw39 (u : Int32) : (u.toInt < 0 ∨ 38 < u.toInt) ∨ ∃ k : Nat, k < 39 ∧ u = Int32.ofNat k := by
  by_cases h : u.toInt < 0 ∨ 38 < u.toInt
  · exact Or.inl h
  · refine Or.inr ⟨u.toInt.toNat, by omega, ?_⟩
    have e : u = Int32.ofInt u.toInt := (Int32.ofInt_toInt u).symm
    have e2 : u.toInt = ((u.toInt.toNat : Nat) : Int) := by omega
    rw [e2] at e
    exact e
theorem lenI {n L : Nat} (hL : L ≤ 4608) (hn : 9 * n ≤ L) (h : ¬ Int32.ofNat L - 9 < Int32.ofNat (9 * n)) : 9 * n + 9 ≤ L := by
  have h1 : (Int32.ofNat L).toInt = (L : Int) := Int32.toInt_ofNat_of_lt (by omega)
  have h2 : (Int32.ofNat (9 * n)).toInt = ((9 * n : Nat) : Int) := Int32.toInt_ofNat_of_lt (by omega)
  have h3 : (Int32.ofNat L - 9).toInt = (L : Int) - 9 := by
    rw [Int32.toInt_sub, h1, show (9 : Int32).toInt = 9 from rfl]
    exact Int.bmod_eq_of_le (by omega) (by omega)
  rw [Int32.lt_iff_toInt_lt, h2, h3] at h
  omega
set_option maxRecDepth 100000 in
theorem law_loop (C : Cl D T sK sV b L xs Γ) (hl0 : l.stackTraces = false) (S : Sims R) {c0 s0 : Nat} (hc0 : c0 + 5 * 513 + 5 ≤ 601024) (hs0 : s0 + 30 * 513 + 30 ≤ 7293034)
    (KE : ∀ (kc ks n : Nat) (f : Nat → Int64) (gX : St) (xX : Sl) (gM : St) (xM : Sl), kc ≤ 601024 → ks ≤ 7293034 → Kj l D 8 room_1 kc ks Γ Q (lwV T adX adM q f gX xX gM xM) 2540 (lwLv adX adM b q n) []) :
    ∀ (k n : Nat), n + k = 513 → 9 * n ≤ L → ∀ (f : Nat → Int64) (gX : St) (xX : Sl) (gM : St) (xM : Sl), R gX xX gM xM → Kj l D 8 room_1 (c0 + 5 * n) (s0 + 30 * n) Γ Q (lwV T adX adM q f gX xX gM xM) 23 (lwLv adX adM b q n) [] := by
  have hL := C.2.2.2.2.2.2
  intro k
  induction k with
  | zero => intro n h1 h2; omega
  | succ k ih =>
    intro n h1 h2 f gX xX gM xM hR
    refine q_iload C.1 dL_law__23 4 rfl ?_
    refine q_aload_n C.1 dL_law__25 rfl 0 rfl ?_
    refine q_slen C.1 C.2.2.2.1 C.2.2.2.2.1 C.2.2.2.2.2.1 dL_law__26 ?_
    refine q_bipush (v := (9 : Int32)) C.1 dL_law__27 (by decide) ?_
    refine q_isub C.1 dL_law__29 ?_
    refine q_icmp_gt C.1 2540 dL_law__30 (by decide) (fun _ => KE _ _ n f gX xX gM xM (by omega) (by omega)) (fun c => ?_)
    have h9 := lenI hL h2 c
    have hroom : c0 + 5 * n + 5 ≤ 601024 ∧ s0 + 30 * n + 30 ≤ 7293034 := ⟨by omega, by omega⟩
    have next : ∀ (f2 : Nat → Int64) (gX2 : St) (xX2 : Sl) (gM2 : St) (xM2 : Sl), R gX2 xX2 gM2 xM2 → Kj l D 8 room_1 (c0 + 5 * n + 5) (s0 + 30 * n + 30) Γ Q (lwV T adX adM q f2 gX2 xX2 gM2 xM2) 2534 (lwLv adX adM b q n) [] := fun f2 gX2 xX2 gM2 xM2 hR2 => by
      refine q_iinc (v := Int32.ofNat (9 * (n + 1))) (lv' := [(4, .int (Int32.ofNat (9 * (n + 1)))), (0, .ref b), (1, .ref (adX 0)), (2, .ref (adM 0)), (3, .ref q)]) C.1 dL_law__2534 4 rfl ?_ (Nat.le_of_ble_eq_true rfl) rfl ?_
      · rw [show 9 * (n + 1) = 9 * n + 9 by omega, Int32.ofNat_add]; rfl
      · refine q_goto (tgt := 23) C.1 dL_law__2537 (by decide) ?_
        refine q_sub [1, 2, 3, 4, 0] rfl ?_
        exact ih (n + 1) (by omega) (by omega) f2 gX2 xX2 gM2 xM2 hR2
    refine q_aload_n C.1 dL_law__33 rfl 0 rfl ?_
    refine q_iload C.1 dL_law__34 4 rfl ?_
    refine q_sld (v := xs (9 * n)) C.1 C.2.2.2.1 C.2.2.2.2.1 C.2.2.2.2.2.1 (argI0 h9 hL).1 (congrArg xs (argI0 h9 hL).2) dL_law__36 ?_
    refine q_bipush (v := (63 : Int32)) C.1 dL_law__37 (by decide) ?_
    refine q_iand C.1 dL_law__39 ?_
    generalize xs (9 * n) &&& 63 = u
    rcases sw39 u with hu | ⟨k9, hk9, rfl⟩
    · exact q_tabOut C.1 2534 dL_law__40 hu (by decide) (q_widen (Nat.le_add_right _ _) (Nat.le_add_right _ _) (next f gX xX gM xM hR))
    · rcases (show k9 = 0 ∨ k9 = 1 ∨ k9 = 2 ∨ k9 = 3 ∨ k9 = 4 ∨ k9 = 5 ∨ k9 = 6 ∨ k9 = 7 ∨ k9 = 8 ∨ k9 = 9 ∨ k9 = 10 ∨ k9 = 11 ∨ k9 = 12 ∨ k9 = 13 ∨ k9 = 14 ∨ k9 = 15 ∨ k9 = 16 ∨ k9 = 17 ∨ k9 = 18 ∨ k9 = 19 ∨ k9 = 20 ∨ k9 = 21 ∨ k9 = 22 ∨ k9 = 23 ∨ k9 = 24 ∨ k9 = 25 ∨ k9 = 26 ∨ k9 = 27 ∨ k9 = 28 ∨ k9 = 29 ∨ k9 = 30 ∨ k9 = 31 ∨ k9 = 32 ∨ k9 = 33 ∨ k9 = 34 ∨ k9 = 35 ∨ k9 = 36 ∨ k9 = 37 ∨ k9 = 38 by omega) with rfl | rfl | rfl | rfl | rfl | rfl | rfl | rfl | rfl | rfl | rfl | rfl | rfl | rfl | rfl | rfl | rfl | rfl | rfl | rfl | rfl | rfl | rfl | rfl | rfl | rfl | rfl | rfl | rfl | rfl | rfl | rfl | rfl | rfl | rfl | rfl | rfl | rfl | rfl
      · exact q_tabIn C.1 0 212 dL_law__40 rfl (by decide) (by decide) rfl (by decide) (case_feed C S.1 h9 hroom hR next)
      · exact q_tabIn C.1 1 285 dL_law__40 rfl (by decide) (by decide) rfl (by decide) (case_peninsula C hl0 S.2.1 h9 hroom hR next)
      · exact q_tabIn C.1 2 341 dL_law__40 rfl (by decide) (by decide) rfl (by decide) (case_law C hl0 S.2.2.1 h9 hroom hR next)
      · exact q_tabIn C.1 3 397 dL_law__40 rfl (by decide) (by decide) rfl (by decide) (case_work C hl0 S.2.2.2.1 h9 hroom hR next)
      · exact q_tabIn C.1 4 453 dL_law__40 rfl (by decide) (by decide) rfl (by decide) (case_book C hl0 S.2.2.2.2.1 h9 hroom hR next)
      · exact q_tabIn C.1 5 509 dL_law__40 rfl (by decide) (by decide) rfl (by decide) (case_fault C S.2.2.2.2.2.1 h9 hroom hR next)
      · exact q_tabIn C.1 6 522 dL_law__40 rfl (by decide) (by decide) rfl (by decide) (case_undo C S.2.2.2.2.2.2.1 h9 hroom hR next)
      · exact q_tabIn C.1 7 535 dL_law__40 rfl (by decide) (by decide) rfl (by decide) (case_told C hl0 S.2.2.2.2.2.2.2.1 h9 hroom hR next)
      · exact q_tabIn C.1 8 591 dL_law__40 rfl (by decide) (by decide) rfl (by decide) (case_person C hl0 S.2.2.2.2.2.2.2.2.1 h9 hroom hR next)
      · exact q_tabIn C.1 9 659 dL_law__40 rfl (by decide) (by decide) rfl (by decide) (case_will C hl0 S.2.2.2.2.2.2.2.2.2.1 h9 hroom hR next)
      · exact q_tabIn C.1 10 727 dL_law__40 rfl (by decide) (by decide) rfl (by decide) (case_lends C hl0 S.2.2.2.2.2.2.2.2.2.2.1 h9 hroom hR next)
      · exact q_tabIn C.1 11 802 dL_law__40 rfl (by decide) (by decide) rfl (by decide) (case_would C hl0 S.2.2.2.2.2.2.2.2.2.2.2.1 h9 hroom hR next)
      · exact q_tabIn C.1 12 948 dL_law__40 rfl (by decide) (by decide) rfl (by decide) (case_lender C hl0 S.2.2.2.2.2.2.2.2.2.2.2.2.1 h9 hroom hR next)
      · exact q_tabIn C.1 13 1004 dL_law__40 rfl (by decide) (by decide) rfl (by decide) (case_ahead C hl0 S.2.2.2.2.2.2.2.2.2.2.2.2.2.1 h9 hroom hR next)
      · exact q_tabIn C.1 14 1072 dL_law__40 rfl (by decide) (by decide) rfl (by decide) (case_truly C hl0 S.2.2.2.2.2.2.2.2.2.2.2.2.2.2.1 h9 hroom hR next)
      · exact q_tabIn C.1 15 1128 dL_law__40 rfl (by decide) (by decide) rfl (by decide) (case_chain C hl0 S.2.2.2.2.2.2.2.2.2.2.2.2.2.2.2.1 h9 hroom hR next)
      · exact q_tabIn C.1 16 1184 dL_law__40 rfl (by decide) (by decide) rfl (by decide) (case_served C hl0 S.2.2.2.2.2.2.2.2.2.2.2.2.2.2.2.2.1 h9 hroom hR next)
      · exact q_tabIn C.1 17 1252 dL_law__40 rfl (by decide) (by decide) rfl (by decide) (case_giver C hl0 S.2.2.2.2.2.2.2.2.2.2.2.2.2.2.2.2.2.1 h9 hroom hR next)
      · exact q_tabIn C.1 18 1320 dL_law__40 rfl (by decide) (by decide) rfl (by decide) (case_order C hl0 S.2.2.2.2.2.2.2.2.2.2.2.2.2.2.2.2.2.2.1 h9 hroom hR next)
      · exact q_tabIn C.1 19 1388 dL_law__40 rfl (by decide) (by decide) rfl (by decide) (case_fits C hl0 S.2.2.2.2.2.2.2.2.2.2.2.2.2.2.2.2.2.2.2.1 h9 hroom hR next)
      · exact q_tabIn C.1 20 1456 dL_law__40 rfl (by decide) (by decide) rfl (by decide) (case_look C hl0 S.2.2.2.2.2.2.2.2.2.2.2.2.2.2.2.2.2.2.2.2.1 h9 hroom hR next)
      · exact q_tabIn C.1 21 1524 dL_law__40 rfl (by decide) (by decide) rfl (by decide) (case_neighbours C hl0 S.2.2.2.2.2.2.2.2.2.2.2.2.2.2.2.2.2.2.2.2.2.1 h9 hroom hR next)
      · exact q_tabIn C.1 22 1604 dL_law__40 rfl (by decide) (by decide) rfl (by decide) (case_home C hl0 S.2.2.2.2.2.2.2.2.2.2.2.2.2.2.2.2.2.2.2.2.2.2.1 h9 hroom hR next)
      · exact q_tabIn C.1 23 1695 dL_law__40 rfl (by decide) (by decide) rfl (by decide) (case_flowers C hl0 S.2.2.2.2.2.2.2.2.2.2.2.2.2.2.2.2.2.2.2.2.2.2.2.1 h9 hroom hR next)
      · exact q_tabIn C.1 24 1775 dL_law__40 rfl (by decide) (by decide) rfl (by decide) (case_honoured C hl0 S.2.2.2.2.2.2.2.2.2.2.2.2.2.2.2.2.2.2.2.2.2.2.2.2.1 h9 hroom hR next)
      · exact q_tabIn C.1 25 1831 dL_law__40 rfl (by decide) (by decide) rfl (by decide) (case_sued C hl0 S.2.2.2.2.2.2.2.2.2.2.2.2.2.2.2.2.2.2.2.2.2.2.2.2.2.1 h9 hroom hR next)
      · exact q_tabIn C.1 26 1887 dL_law__40 rfl (by decide) (by decide) rfl (by decide) (case_free C hl0 S.2.2.2.2.2.2.2.2.2.2.2.2.2.2.2.2.2.2.2.2.2.2.2.2.2.2.1 h9 hroom hR next)
      · exact q_tabIn C.1 27 1943 dL_law__40 rfl (by decide) (by decide) rfl (by decide) (case_kin C hl0 S.2.2.2.2.2.2.2.2.2.2.2.2.2.2.2.2.2.2.2.2.2.2.2.2.2.2.2.1 h9 hroom hR next)
      · exact q_tabIn C.1 28 1999 dL_law__40 rfl (by decide) (by decide) rfl (by decide) (case_willing C hl0 S.2.2.2.2.2.2.2.2.2.2.2.2.2.2.2.2.2.2.2.2.2.2.2.2.2.2.2.2.1 h9 hroom hR next)
      · exact q_tabIn C.1 29 2055 dL_law__40 rfl (by decide) (by decide) rfl (by decide) (case_below C hl0 S.2.2.2.2.2.2.2.2.2.2.2.2.2.2.2.2.2.2.2.2.2.2.2.2.2.2.2.2.2.1 h9 hroom hR next)
      · exact q_tabIn C.1 30 2111 dL_law__40 rfl (by decide) (by decide) rfl (by decide) (case_debtless C S.2.2.2.2.2.2.2.2.2.2.2.2.2.2.2.2.2.2.2.2.2.2.2.2.2.2.2.2.2.2.1 h9 hroom hR next)
      · exact q_tabIn C.1 31 2124 dL_law__40 rfl (by decide) (by decide) rfl (by decide) (case_after C hl0 S.2.2.2.2.2.2.2.2.2.2.2.2.2.2.2.2.2.2.2.2.2.2.2.2.2.2.2.2.2.2.2.1 h9 hroom hR next)
      · exact q_tabIn C.1 32 2192 dL_law__40 rfl (by decide) (by decide) rfl (by decide) (case_latest C hl0 S.2.2.2.2.2.2.2.2.2.2.2.2.2.2.2.2.2.2.2.2.2.2.2.2.2.2.2.2.2.2.2.2.1 h9 hroom hR next)
      · exact q_tabIn C.1 33 2248 dL_law__40 rfl (by decide) (by decide) rfl (by decide) (case_century C hl0 S.2.2.2.2.2.2.2.2.2.2.2.2.2.2.2.2.2.2.2.2.2.2.2.2.2.2.2.2.2.2.2.2.2.1 h9 hroom hR next)
      · exact q_tabIn C.1 34 2340 dL_law__40 rfl (by decide) (by decide) rfl (by decide) (case_span C hl0 S.2.2.2.2.2.2.2.2.2.2.2.2.2.2.2.2.2.2.2.2.2.2.2.2.2.2.2.2.2.2.2.2.2.2.1 h9 hroom hR next)
      · exact q_tabIn C.1 35 2458 dL_law__40 rfl (by decide) (by decide) rfl (by decide) (case_image C S.2.2.2.2.2.2.2.2.2.2.2.2.2.2.2.2.2.2.2.2.2.2.2.2.2.2.2.2.2.2.2.2.2.2.2.1 h9 hroom hR next)
      · exact q_tabIn C.1 36 2471 dL_law__40 rfl (by decide) (by decide) rfl (by decide) (case_restore C S.2.2.2.2.2.2.2.2.2.2.2.2.2.2.2.2.2.2.2.2.2.2.2.2.2.2.2.2.2.2.2.2.2.2.2.2.1 h9 hroom hR next)
      · exact q_tabIn C.1 37 2484 dL_law__40 rfl (by decide) (by decide) rfl (by decide) (case_status C S.2.2.2.2.2.2.2.2.2.2.2.2.2.2.2.2.2.2.2.2.2.2.2.2.2.2.2.2.2.2.2.2.2.2.2.2.2.1 h9 hroom hR next)
      · exact q_tabIn C.1 38 2509 dL_law__40 rfl (by decide) (by decide) rfl (by decide) (case_count C S.2.2.2.2.2.2.2.2.2.2.2.2.2.2.2.2.2.2.2.2.2.2.2.2.2.2.2.2.2.2.2.2.2.2.2.2.2.2 h9 hroom hR next)
end LAW
