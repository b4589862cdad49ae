/-! PURE: the class's rows and its questions about a state -/
theorem X_at {row k n : Nat} {g : St} (hl : lenW shX row = n) (h : k < n) (hn : n < 100000) : fX_Rows_at row (i3 k) g = some (g row k) := by
  unfold fX_Rows_at
  rw [hl, if_neg (show ¬ i3 k < 0 from i3_nlt (b := 0) (by omega) (by omega)), if_pos (by omega), if_neg (show ¬ Int32.ofNat n ≤ i3 k from i3_nle (by omega) h), if_pos (i3_in (by omega) h), i3_nat (by omega)]
theorem X_put {row k n : Nat} {g : St} {v : Int32} (hl : lenW shX row = n) (h : k < n) (hn : n < 100000) : fX_Rows_put row (i3 k) v g = some (st g row k v) := by
  unfold fX_Rows_put
  rw [hl, if_neg (show ¬ i3 k < 0 from i3_nlt (b := 0) (by omega) (by omega)), if_pos (by omega), if_neg (show ¬ Int32.ofNat n ≤ i3 k from i3_nle (by omega) h), if_pos (i3_in (by omega) h), i3_nat (by omega)]
theorem X_at_neg {row : Nat} {g : St} {i : Int32} (h : i < 0) : fX_Rows_at row i g = some 0 := by
  unfold fX_Rows_at
  rw [if_pos h]
theorem X_put_neg {row : Nat} {g : St} {i v : Int32} (h : i < 0) : fX_Rows_put row i v g = some g := by
  unfold fX_Rows_put
  rw [if_pos h]
theorem X_stonesOf {g : St} {th : Nat} {a : Int32} : fX_State_stonesOf th a g = some (i3 (cntB (fun p => decide (g (rX th 3) p = a)) 8)) := by
  unfold fX_State_stonesOf fX_State_stonesOf_b4
  rw [show lp (fX_State_stonesOf_L4 th a g) fuel (0, 0) = some (i3 (cntB (fun p => decide (g (rX th 3) p = a)) 8)) from ?_]
  · rfl
  · refine lp_cnt (fun k => (i3 (cntB (fun p => decide (g (rX th 3) p = a)) k), i3 k)) 8 (by decide) (fun k hk => ?_) ?_
    · show fX_State_stonesOf_L4 _ _ _ _ = _
      unfold fX_State_stonesOf_L4 fX_State_stonesOf_b26
      dsimp only
      rw [if_neg (show ¬ (8 : Int32) ≤ i3 k from i3_nle (by decide) hk), if_pos (i3_in (by omega) hk), i3_nat (by omega), show i3 k + 1 = i3 (k + 1) from i3_add k 1]
      by_cases e : g (rX th 3) k = a
      · rw [if_pos e]
        show _ = some (Sum.inl (i3 (cntB _ k + if decide (g (rX th 3) k = a) = true then 1 else 0), _))
        rw [if_pos (decide_eq_true e)]
        exact congrArg (fun z => some (Sum.inl (z, i3 (k + 1)))) (i3_add _ 1)
      · rw [if_neg e]
        show _ = some (Sum.inl (i3 (cntB _ k + if decide (g (rX th 3) k = a) = true then 1 else 0), _))
        rw [if_neg (by simpa using e)]
        rfl
    · show fX_State_stonesOf_L4 _ _ _ _ = _
      unfold fX_State_stonesOf_L4
      dsimp only
      rw [if_pos (show (8 : Int32) ≤ i3 8 from i3_yle (by decide) (Nat.le_refl _))]
