/-! PURE: work: what step stands here -/
def stk (b : Nat → Nat) (t m : Nat) : Nat := if isW b t m (wd 14) then 0 else if isW b t m (wd 15) then 1 else if isW b t m (wd 16) then 2 else if isW b t m (wd 17) then 3 else if isW b t m (wd 18) then 4 else if isW b t m (wd 13) then 5 else 6
section ST6
variable {n e ft fp t m : Nat} {b : Nat → Nat} {g g1 : St}
theorem M_stepRd (h : Mt e b 0 fp t g) (rr : RUN (ltr b) e t m) : ∃ g', fM_stepHere g = some ((if stk b t m = 6 then m1 else i3 (stk b t m)), g') ∧ Mt e b 0 fp t g' ∧ FRM g g' ∧ g' 0 4 = i3 t := by
  unfold fM_stepHere stk
  obtain ⟨g0, e0, m0, k0, p0⟩ := M_isWord (x := 14) (by omega) h rr (x1 := 4) (x2 := 9) (x3 := 5) (x4 := 0) (x5 := 0) (x6 := 0) (by decide +kernel)
  have F0 : FRM g g0 := k0
  rw [e0, ob_s]
  by_cases q0 : isW b t m (wd 14)
  · refine ⟨g0, ?_, m0, F0, p0⟩
    simp only [if_pos q0]
    rfl
  simp only [if_neg q0]
  rw [if_pos (show i3 0 = (0 : Int32) from rfl)]
  obtain ⟨g1, e1, m1, k1, p1⟩ := M_isWord (x := 15) (by omega) m0 rr (x1 := 12) (x2 := 5) (x3 := 14) (x4 := 4) (x5 := 0) (x6 := 0) (by decide +kernel)
  have F1 : FRM g g1 := F0.tr k1
  rw [e1, ob_s]
  by_cases q1 : isW b t m (wd 15)
  · refine ⟨g1, ?_, m1, F1, p1⟩
    simp only [if_pos q1]
    rfl
  simp only [if_neg q1]
  rw [if_pos (show i3 0 = (0 : Int32) from rfl)]
  obtain ⟨g2, e2, m2, k2, p2⟩ := M_isWord (x := 16) (by omega) m1 rr (x1 := 16) (x2 := 1) (x3 := 25) (x4 := 0) (x5 := 0) (x6 := 0) (by decide +kernel)
  have F2 : FRM g g2 := F1.tr k2
  rw [e2, ob_s]
  by_cases q2 : isW b t m (wd 16)
  · refine ⟨g2, ?_, m2, F2, p2⟩
    simp only [if_pos q2]
    rfl
  simp only [if_neg q2]
  rw [if_pos (show i3 0 = (0 : Int32) from rfl)]
  obtain ⟨g3, e3, m3, k3, p3⟩ := M_isWord (x := 17) (by omega) m2 rr (x1 := 15) (x2 := 23) (x3 := 5) (x4 := 0) (x5 := 0) (x6 := 0) (by decide +kernel)
  have F3 : FRM g g3 := F2.tr k3
  rw [e3, ob_s]
  by_cases q3 : isW b t m (wd 17)
  · refine ⟨g3, ?_, m3, F3, p3⟩
    simp only [if_pos q3]
    rfl
  simp only [if_neg q3]
  rw [if_pos (show i3 0 = (0 : Int32) from rfl)]
  obtain ⟨g4, e4, m4, k4, p4⟩ := M_isWord (x := 18) (by omega) m3 rr (x1 := 25) (x2 := 5) (x3 := 1) (x4 := 18) (x5 := 0) (x6 := 0) (by decide +kernel)
  have F4 : FRM g g4 := F3.tr k4
  rw [e4, ob_s]
  by_cases q4 : isW b t m (wd 18)
  · refine ⟨g4, ?_, m4, F4, p4⟩
    simp only [if_pos q4]
    rfl
  simp only [if_neg q4]
  rw [if_pos (show i3 0 = (0 : Int32) from rfl)]
  obtain ⟨g5, e5, m5, k5, p5⟩ := M_isWord (x := 13) (by omega) m4 rr (x1 := 1) (x2 := 7) (x3 := 1) (x4 := 9) (x5 := 14) (x6 := 0) (by decide +kernel)
  have F5 : FRM g g5 := F4.tr k5
  rw [e5, ob_s]
  by_cases q5 : isW b t m (wd 13)
  · refine ⟨g5, ?_, m5, F5, p5⟩
    simp only [if_pos q5]
    rfl
  simp only [if_neg q5]
  rw [if_pos (show i3 0 = (0 : Int32) from rfl)]
  exact ⟨g5, rfl, m5, F5, p5⟩
theorem stk_le : stk b t m ≤ 6 := by
  unfold stk
  by_cases q0 : isW b t m (wd 14)
  · rw [if_pos q0]; omega
  rw [if_neg q0]
  by_cases q1 : isW b t m (wd 15)
  · rw [if_pos q1]; omega
  rw [if_neg q1]
  by_cases q2 : isW b t m (wd 16)
  · rw [if_pos q2]; omega
  rw [if_neg q2]
  by_cases q3 : isW b t m (wd 17)
  · rw [if_pos q3]; omega
  rw [if_neg q3]
  by_cases q4 : isW b t m (wd 18)
  · rw [if_pos q4]; omega
  rw [if_neg q4]
  by_cases q5 : isW b t m (wd 13)
  · rw [if_pos q5]; omega
  rw [if_neg q5]
  omega
theorem wd_3 : ∀ k, k < 19 → 13 ≤ k → 3 ≤ (wd k).length := by decide
theorem stk_len (h : ¬ stk b t m = 6) : 3 ≤ m := by
  unfold stk at h
  by_cases q0 : isW b t m (wd 14)
  · have := wd_3 14 (by omega) (by omega)
    have := q0.1
    omega
  rw [if_neg q0] at h
  by_cases q1 : isW b t m (wd 15)
  · have := wd_3 15 (by omega) (by omega)
    have := q1.1
    omega
  rw [if_neg q1] at h
  by_cases q2 : isW b t m (wd 16)
  · have := wd_3 16 (by omega) (by omega)
    have := q2.1
    omega
  rw [if_neg q2] at h
  by_cases q3 : isW b t m (wd 17)
  · have := wd_3 17 (by omega) (by omega)
    have := q3.1
    omega
  rw [if_neg q3] at h
  by_cases q4 : isW b t m (wd 18)
  · have := wd_3 18 (by omega) (by omega)
    have := q4.1
    omega
  rw [if_neg q4] at h
  by_cases q5 : isW b t m (wd 13)
  · have := wd_3 13 (by omega) (by omega)
    have := q5.1
    omega
  rw [if_neg q5] at h
  exact absurd rfl h
theorem stk_0 : stk b t 0 = 6 := by
  by_cases q : stk b t 0 = 6
  · exact q
  · have := stk_len q
    omega
def xrest (n k : Nat) (g1 : St) : Option St := if k = 5 then (fX_Steps_openAgain g1).bind fun g15 => some g15 else if k = 0 then ((fX_Text_number (0 : Int32) (i3 n - (1 : Int32)) g1).bind fun z => ((fX_Steps_add (0 : Int32) z.1 (0 : Int32) z.2).bind fun g => fX_Steps_readStep_b176 g)) else if k = 4 then ((fX_Steps_add (4 : Int32) (0 : Int32) (0 : Int32) g1).bind fun g => fX_Steps_readStep_b176 g) else if k = 6 then (lt1 (fX_Text_blame (1 : Int32) (g1 1 4) g1) fun g173 => fX_Steps_readStep_b176 g173) else ((fX_Text_number (0 : Int32) (i3 n - (1 : Int32)) g1).bind fun z => ((if k = 1 then fX_Text_number (0 : Int32) (i3 n - (1 : Int32)) z.2 else fX_Text_number (1 : Int32) (60 : Int32) z.2).bind fun z2 => (fX_Steps_add (i3 k) z.1 z2.1 z2.2).bind fun g => fX_Steps_readStep_b176 g))
theorem wd_nin : ∀ x, x < 19 → 14 ≤ x → ¬ wd x = wd 13 := by decide
theorem X_stepRd (hw : fX_Text_word g = some g1) (hT : TXt e b g1) (h0 : g1 1 6 = i3 0) (h3 : g1 1 3 = i3 (t + m)) (h4 : g1 1 4 = i3 t) (hm : t + m ≤ e) : fX_Steps_readStep (i3 n) g = xrest n (stk b t m) g1 := by
  unfold fX_Steps_readStep stk
  rw [hw, ob_s, X_isWord (x := 13) (by omega) hT h0 h3 h4 hm, ob_s]
  by_cases q : isW b t m (wd 13)
  · have nn : ∀ x, 14 ≤ x → x < 19 → ¬ isW b t m (wd x) := fun x a1 a2 z => wd_nin x a2 a1 (isW_inj z q)
    rw [if_neg (nn 14 (by omega) (by omega)), if_neg (nn 15 (by omega) (by omega)), if_neg (nn 16 (by omega) (by omega)), if_neg (nn 17 (by omega) (by omega)), if_neg (nn 18 (by omega) (by omega)), if_pos q, if_pos q]
    rfl
  simp only [if_neg q]
  rw [if_pos (show i3 0 = (0 : Int32) from rfl)]
  rw [X_isWord (x := 14) (by omega) hT h0 h3 h4 hm, ob_s]
  by_cases q0 : isW b t m (wd 14)
  · simp only [if_pos q0]
    rfl
  simp only [if_neg q0]
  rw [if_pos (show i3 0 = (0 : Int32) from rfl)]
  rw [X_isWord (x := 15) (by omega) hT h0 h3 h4 hm, ob_s]
  by_cases q1 : isW b t m (wd 15)
  · simp only [if_pos q1]
    rfl
  simp only [if_neg q1]
  rw [if_pos (show i3 0 = (0 : Int32) from rfl)]
  rw [X_isWord (x := 16) (by omega) hT h0 h3 h4 hm, ob_s]
  by_cases q2 : isW b t m (wd 16)
  · simp only [if_pos q2]
    rfl
  simp only [if_neg q2]
  rw [if_pos (show i3 0 = (0 : Int32) from rfl)]
  rw [X_isWord (x := 17) (by omega) hT h0 h3 h4 hm, ob_s]
  by_cases q3 : isW b t m (wd 17)
  · simp only [if_pos q3]
    rfl
  simp only [if_neg q3]
  rw [if_pos (show i3 0 = (0 : Int32) from rfl)]
  rw [X_isWord (x := 18) (by omega) hT h0 h3 h4 hm, ob_s]
  by_cases q4 : isW b t m (wd 18)
  · simp only [if_pos q4]
    rfl
  simp only [if_neg q4]
  rw [if_pos (show i3 0 = (0 : Int32) from rfl)]
  rfl
end ST6
