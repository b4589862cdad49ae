/-! PURE: the reference's questions about a state's row -/
theorem cnt_congr {b c : Nat → Bool} : ∀ k, (∀ p, p < k → b p = c p) → cntB b k = cntB c k
  | 0, _ => rfl
  | k + 1, h => by
    unfold cntB
    rw [cnt_congr k (fun p hp => h p (by omega)), h k (by omega)]
theorem cnt_more {b : Nat → Bool} {k : Nat} : ∀ m, k ≤ m → (∀ p, k ≤ p → p < m → b p = false) → cntB b m = cntB b k
  | 0, h, _ => by rw [show k = 0 by omega]
  | m + 1, h, hb => by
    by_cases e : k = m + 1
    · rw [e]
    · show cntB b m + (if b m then 1 else 0) = cntB b k
      rw [hb m (by omega) (by omega), cnt_more m (by omega) (fun p h1 h2 => hb p h1 (by omega))]
      simp
theorem cnt_msk (b : Nat → Bool) {n : Nat} (h : n ≤ 8) : cntB (fun p => (msk b n).testBit p) 8 = cntB b n := by
  rw [cnt_more (k := n) 8 h (fun p h1 _ => by rw [msk_bit]; simp; omega)]
  exact cnt_congr n (fun p hp => by rw [msk_bit]; simp [hp])
/-- a row of a state of the reference -/
def rowM (r : Nat) : Prop := r = 16 ∨ r = 17
theorem rowM_len {r : Nat} (h : rowM r) : lenW shM r = 26 := by rcases h with rfl | rfl <;> decide
theorem M_stonesOf {g : St} {r n : Nat} {a : Int32} (hr : rowM r) (hn : g 4 0 = i3 n) (h8 : n ≤ 8) : fM_stonesOf r a g = some (i3 (msk (fun p => decide (g r (8 + p) = a)) n)) := by
  unfold fM_stonesOf fM_stonesOf_b5
  rw [show lp (fM_stonesOf_L5 r a g) fuel (0, 0) = some (i3 (msk (fun p => decide (g r (8 + p) = a)) n)) from ?_]
  · rfl
  · refine lp_cnt (fun k => (i3 (msk (fun p => decide (g r (8 + p) = a)) k), i3 k)) n (by omega) (fun k hk => ?_) ?_
    · show fM_stonesOf_L5 _ _ _ _ = _
      unfold fM_stonesOf_L5 fM_stonesOf_b36
      dsimp only
      rw [hn, if_neg (i3_nle (by omega) hk), rowM_len hr, show (8 : Int32) + i3 k = i3 (8 + k) from i3_add 8 k, if_pos (i3_in (by omega) (by omega)), i3_nat (by omega), show i3 k + 1 = i3 (k + 1) from i3_add k 1]
      have hm := msk_lt8 (fun p => decide (g r (8 + p) = a)) (show k ≤ 8 by omega)
      by_cases e : g r (8 + k) = a
      · rw [if_pos e, bit_one k (by omega), bit_or _ hm k (by omega)]
        show _ = some (Sum.inl (i3 (msk _ k ||| if decide (g r (8 + k) = a) = true then 1 <<< k else 0), _))
        rw [if_pos (decide_eq_true e)]
      · rw [if_neg e]
        show _ = some (Sum.inl (i3 (msk _ k ||| if decide (g r (8 + k) = a) = true then 1 <<< k else 0), _))
        rw [if_neg (by simpa using e), Nat.or_zero, Int32.or_zero]
    · show fM_stonesOf_L5 _ _ _ _ = _
      unfold fM_stonesOf_L5
      dsimp only
      rw [hn, if_pos (i3_yle (by omega) (Nat.le_refl _))]
theorem M_stones {g : St} {r n : Nat} {a : Int32} (hr : rowM r) (hn : g 4 0 = i3 n) (h8 : n ≤ 8) : fM_stones r a g = some (i3 (cntB (fun p => decide (g r (8 + p) = a)) n)) := by
  unfold fM_stones
  rw [M_stonesOf hr hn h8]
  show (fM_ones _).bind _ = _
  rw [M_ones _ (msk_lt8 _ h8), cnt_msk _ h8]
  rfl
